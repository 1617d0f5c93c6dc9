theorem sp_J0_coder_7d493_1003 (L : Nat) (xs : Nat → Int32) (sio : Option Nat) (d : Nat) (dt : Nat → Nat → Int) (hI : InvC dt)    : GO (am_XX L xs sio) (d) 253 0 [some (.inr (.inr (some 1003)))] [] (SH, dt) (fun r w2 => w2 = (SH, dt) ∧ ((r = some (.inl 0) ∧ True))) := by
  refine go_retq PM253 (k := 5) (r := some (.inl 0)) (w1 := (SH, dt)) rfl ?_
  exact ⟨rfl, ⟨rfl, trivial⟩⟩
theorem sp_J0_length_8abf5_1003 (L : Nat) (xs : Nat → Int32) (sio : Option Nat) (d : Nat) (dt : Nat → Nat → Int) (hI : InvC dt)    : GO (am_XX L xs sio) (d + 1) 249 0 [some (.inr (.inr (some 1003)))] [] (SH, dt) (fun r w2 => w2 = (SH, dt) ∧ ((r = some (.inl 4) ∧ True))) := by
  refine go_toq PM249 (k := 4) (pc' := 6) (L' := [some (.inr (.inr (some 1003)))]) (st' := [.inr (.inr (some 1003)), .inl 4]) (w' := (SH, dt)) rfl ?_
  refine go_callq PM249 PM253 (Q' := _) rfl rfl rfl rfl (sp_J0_coder_7d493_1003 L xs sio (d + 0) dt hI   ) ?_
  rintro _ _ ⟨rfl, h1⟩
  refine ⟨rfl, ?_⟩
  rcases h1 with ⟨rfl, h1⟩
  refine go_smpq PM249 (L' := [some (.inr (.inr (some 1003)))]) (st' := [.inl 4]) (w' := (SH, dt)) rfl rfl (s_bshr (v := 4) (by decide)) ?_
  refine go_retq PM249 (k := 0) (r := some (.inl 4)) (w1 := (SH, dt)) rfl ?_
  exact ⟨rfl, ⟨rfl, trivial⟩⟩
theorem sp_J0_isLatin1_aae02_1003 (L : Nat) (xs : Nat → Int32) (sio : Option Nat) (d : Nat) (dt : Nat → Nat → Int) (hI : InvC dt)    : GO (am_XX L xs sio) (d) 254 0 [some (.inr (.inr (some 1003)))] [] (SH, dt) (fun r w2 => w2 = (SH, dt) ∧ ((r = some (.inl 1) ∧ True))) := by
  refine go_retq PM254 (k := 7) (r := some (.inl 1)) (w1 := (SH, dt)) rfl ?_
  exact ⟨rfl, ⟨rfl, trivial⟩⟩
theorem sp_J1_charAt_3b067_1003 (L : Nat) (xs : Nat → Int32) (sio : Option Nat) (d : Nat) (dt : Nat → Nat → Int) (hI : InvC dt)  (p2 : Int) (h_p2 : 0 ≤ p2 ∧ p2 ≤ 3)  : GO (am_XX L xs sio) (d + 2) 256 0 [some (.inr (.inr (some 2003))), some (.inl p2)] [] (SH, dt) (fun r w2 => w2 = (SH, dt) ∧ ((∃ v : Int, r = some (.inl v) ∧ (0 ≤ v ∧ v ≤ 65535) ∧ True))) := by
  refine go_toq PM256 (k := 3) (pc' := 3) (L' := [some (.inr (.inr (some 2003))), some (.inl p2)]) (st' := [.inl 4, .inl p2]) (w' := (SH, dt)) rfl ?_
  refine go_callq PM256 PM255 (Q' := _) rfl rfl rfl rfl (sp_J0_checkIndex_df160 L xs sio (d + 0) dt hI  p2 (by first | exact h_p2 | exact bnd h_p2 (by decide) (by decide) | exact ⟨by fail, by fail⟩) 4 ⟨by decide, by decide⟩ (by first | exact True.intro | with_reducible assumption | rfl | omega | trivial)) ?_
  rintro _ _ ⟨rfl, h1⟩
  refine ⟨rfl, ?_⟩
  rcases h1 with ⟨rfl, h1⟩
  refine go_toq PM256 (k := 2) (pc' := 8) (L' := [some (.inr (.inr (some 2003))), some (.inl p2)]) (st' := [.inl p2, .inr (.inr (some 2003))]) (w' := (SH, dt)) rfl ?_
  have r2 := sby_R 3 (p2).toNat
  refine go_smpq PM256 (L' := [some (.inr (.inr (some 2003))), some (.inl p2)]) (st' := [.inl ((am_Sby.getD 3 []).getD (p2).toNat 0)]) (w' := (SH, dt)) rfl rfl (s_bald (n := 4) (f := fun q => (am_Sby.getD 3 []).getD q 0) rfl (by first | exact bndx h_p2 (by decide) (by decide) | exact ⟨by fail, by fail⟩)) ?_
  have r3 : 0 ≤ am_and ((am_Sby.getD 3 []).getD (p2).toNat 0) 255 ∧ am_and ((am_Sby.getD 3 []).getD (p2).toNat 0) 255 ≤ 255 := and_R255
  have r4 := i2c_R (am_and ((am_Sby.getD 3 []).getD (p2).toNat 0) 255)
  refine go_toq PM256 (k := 3) (pc' := 14) (L' := [some (.inr (.inr (some 2003))), some (.inl p2)]) (st' := [.inl (am_i2c (am_and ((am_Sby.getD 3 []).getD (p2).toNat 0) 255))]) (w' := (SH, dt)) rfl ?_
  refine go_retvq PM256 (v := am_i2c (am_and ((am_Sby.getD 3 []).getD (p2).toNat 0) 255)) rfl (decide_eq_true (show 0 ≤ am_i2c (am_and ((am_Sby.getD 3 []).getD (p2).toNat 0) 255) ∧ am_i2c (am_and ((am_Sby.getD 3 []).getD (p2).toNat 0) 255) < 65536 by omega)) ?_
  exact ⟨rfl, ⟨_, rfl, ⟨by omega, by omega⟩, trivial⟩⟩
theorem sp_J0_charAt_5068e_1003 (L : Nat) (xs : Nat → Int32) (sio : Option Nat) (d : Nat) (dt : Nat → Nat → Int) (hI : InvC dt)  (p1 : Int) (h_p1 : 0 ≤ p1 ∧ p1 ≤ 3)  : GO (am_XX L xs sio) (d + 3) 250 0 [some (.inr (.inr (some 1003))), some (.inl p1)] [] (SH, dt) (fun r w2 => w2 = (SH, dt) ∧ ((∃ v : Int, r = some (.inl v) ∧ (0 ≤ v ∧ v ≤ 65535) ∧ True))) := by
  refine go_toq PM250 (k := 1) (pc' := 1) (L' := [some (.inr (.inr (some 1003))), some (.inl p1)]) (st' := [.inr (.inr (some 1003))]) (w' := (SH, dt)) rfl ?_
  refine go_callq PM250 PM254 (Q' := _) rfl rfl rfl rfl (sp_J0_isLatin1_aae02_1003 L xs sio (d + 2) dt hI   ) ?_
  rintro _ _ ⟨rfl, h1⟩
  refine ⟨rfl, ?_⟩
  rcases h1 with ⟨rfl, h1⟩
  refine go_toq PM250 (k := 4) (pc' := 12) (L' := [some (.inr (.inr (some 1003))), some (.inl p1)]) (st' := [.inl p1, .inr (.inr (some 2003))]) (w' := (SH, dt)) rfl ?_
  refine go_callq PM250 PM256 (Q' := _) rfl rfl rfl rfl (sp_J1_charAt_3b067_1003 L xs sio (d + 0) dt hI  p1 (by first | exact h_p1 | exact bnd h_p1 (by decide) (by decide) | exact ⟨by fail, by fail⟩) ) ?_
  rintro _ _ ⟨rfl, h2⟩
  refine ⟨rfl, ?_⟩
  rcases h2 with ⟨v_h2, rfl, h2r, h2⟩
  refine go_retvq PM250 (v := v_h2) rfl (decide_eq_true (show 0 ≤ v_h2 ∧ v_h2 < 65536 by omega)) ?_
  exact ⟨rfl, ⟨_, rfl, ⟨by omega, by omega⟩, trivial⟩⟩
set_option maxRecDepth 20000 in
theorem sp_X6_is_1003 (L : Nat) (xs : Nat → Int32) (sio : Option Nat) (d : Nat) (dt : Nat → Nat → Int) (hI : InvC dt)   (h_p0 : dt 79 13 ≤ 500) : GO (am_XX L xs sio) (d + 4) 156 0 [some (.inr (.inr (some 79))), some (.inr (.inr (some 1003))), none, none] [] (SH, dt) (fun r w2 => w2 = (SH, dt) ∧ ((∃ v : Int, r = some (.inl v) ∧ (0 ≤ v ∧ v ≤ 1) ∧ True))) := by
  have r1 : 0 ≤ dt 79 13 ∧ dt 79 13 ≤ 501 := InvC_get hI 79 13 rfl rfl
  have r2 : 0 ≤ dt 79 15 ∧ dt 79 15 ≤ 500 := InvC_get hI 79 15 rfl rfl
  refine go_toq PM156 (k := 6) (pc' := 10) (L' := [some (.inr (.inr (some 79))), some (.inr (.inr (some 1003))), none, none]) (st' := [.inr (.inr (some 1003)), .inl ((dt 79 13) - (dt 79 15))]) (w' := (SH, dt)) rfl ?_
  refine go_callq PM156 PM249 (Q' := _) rfl rfl rfl rfl (sp_J0_length_8abf5_1003 L xs sio (d + 2) dt hI   ) ?_
  rintro _ _ ⟨rfl, h3⟩
  refine ⟨rfl, ?_⟩
  rcases h3 with ⟨rfl, h3⟩
  refine go_ifq PM156 (k := 0) (p1 := 20) (p2 := 16) (L' := [some (.inr (.inr (some 79))), some (.inr (.inr (some 1003))), none, none]) (st' := []) (w' := (SH, dt)) rfl (c_ne (a := (dt 79 13) - (dt 79 15)) (b := 4) ⟨by omega, by omega⟩ ⟨by decide, by decide⟩) (fun c5 => ?_) (fun c5 => ?_)
  · skip
    replace c5 := hid c5
    refine go_toq PM156 (k := 4) (pc' := 24) (L' := [some (.inr (.inr (some 79))), some (.inr (.inr (some 1003))), some (.inl 0), some (.inl 0)]) (st' := []) (w' := (SH, dt)) rfl ?_
    have loop44 : ∀ (k_ : Nat) (l24_2 : Int) (l24_3 : Int) (i41 : 0 ≤ l24_2 ∧ l24_2 ≤ 1) (i42 : 0 ≤ l24_3 ∧ l24_3 ≤ 4) (i43 : l24_2 = 0 ∨ dt 79 13 - dt 79 15 = 4), (5 - l24_3).toNat < k_ → GO (am_XX L xs sio) (d + 4) 156 24 [some (.inr (.inr (some 79))), some (.inr (.inr (some 1003))), some (.inl l24_2), some (.inl l24_3)] [] (SH, dt) (fun r w2 => w2 = (SH, dt) ∧ ((∃ v : Int, r = some (.inl v) ∧ (0 ≤ v ∧ v ≤ 1) ∧ True))) := by
      intro k_
      induction k_ with
      | zero => intro l24_2 l24_3 i41 i42 i43 hm; exact absurd hm (Nat.not_lt_zero _)
      | succ k_ ih_loop44 =>
        intro l24_2 l24_3 i41 i42 i43 hm
        replace i43 := hid i43
        refine go_toq PM156 (k := 2) (pc' := 26) (L' := [some (.inr (.inr (some 79))), some (.inr (.inr (some 1003))), some (.inl l24_2), some (.inl l24_3)]) (st' := [.inr (.inr (some 1003)), .inl l24_3]) (w' := (SH, dt)) rfl ?_
        refine go_callq PM156 PM249 (Q' := _) rfl rfl rfl rfl (sp_J0_length_8abf5_1003 L xs sio (d + 2) dt hI   ) ?_
        rintro _ _ ⟨rfl, h45⟩
        refine ⟨rfl, ?_⟩
        rcases h45 with ⟨rfl, h45⟩
        have j51 :  GO (am_XX L xs sio) (d + 4) 156 67 [some (.inr (.inr (some 79))), some (.inr (.inr (some 1003))), some (.inl l24_2), none] [] (SH, dt) (fun r w2 => w2 = (SH, dt) ∧ ((∃ v : Int, r = some (.inl v) ∧ (0 ≤ v ∧ v ≤ 1) ∧ True))) := by
          skip
          refine go_toq PM156 (k := 1) (pc' := 68) (L' := [some (.inr (.inr (some 79))), some (.inr (.inr (some 1003))), some (.inl l24_2), none]) (st' := [.inl l24_2]) (w' := (SH, dt)) rfl ?_
          refine go_retvq PM156 (v := l24_2) rfl (decide_eq_true (show l24_2 = 0 ∨ l24_2 = 1 by omega)) ?_
          exact ⟨rfl, ⟨_, rfl, ⟨by omega, by omega⟩, trivial⟩⟩
        refine go_ifq PM156 (k := 0) (p1 := 67) (p2 := 32) (L' := [some (.inr (.inr (some 79))), some (.inr (.inr (some 1003))), some (.inl l24_2), some (.inl l24_3)]) (st' := []) (w' := (SH, dt)) rfl (c_ge (a := l24_3) (b := 4) (by first | exact bnd i42 (by decide) (by decide) | exact ⟨by fail, by fail⟩) ⟨by decide, by decide⟩) (fun c52 => ?_) (fun c52 => ?_)
        · skip
          exact GO.le (j51 ) ⟨.inl rfl, .inl rfl, .inl rfl, .inr ⟨rfl, trivial⟩, trivial⟩
        · skip
          refine go_ifq PM156 (k := 1) (p1 := 67) (p2 := 36) (L' := [some (.inr (.inr (some 79))), some (.inr (.inr (some 1003))), some (.inl l24_2), some (.inl l24_3)]) (st' := []) (w' := (SH, dt)) rfl (z_eq (a := l24_2) (by first | exact bnd i41 (by decide) (by decide) | exact ⟨by fail, by fail⟩)) (fun c53 => ?_) (fun c53 => ?_)
          · skip
            exact GO.le (j51 ) ⟨.inl rfl, .inl rfl, .inl rfl, .inr ⟨rfl, trivial⟩, trivial⟩
          · skip
            replace c53 := hid c53
            refine go_toq PM156 (k := 6) (pc' := 46) (L' := [some (.inr (.inr (some 79))), some (.inr (.inr (some 1003))), some (.inl l24_2), some (.inl l24_3)]) (st' := [.inl ((dt 79 15) + l24_3), .inr (.inr (some 85))]) (w' := (SH, dt)) rfl ?_
            have r54 : 0 ≤ dt 85 (((dt 79 15) + l24_3).toNat) ∧ dt 85 (((dt 79 15) + l24_3).toNat) ≤ 255 := InvC_get hI 85 (((dt 79 15) + l24_3).toNat) rfl rfl
            refine go_smpq PM156 (L' := [some (.inr (.inr (some 79))), some (.inr (.inr (some 1003))), some (.inl l24_2), some (.inl l24_3)]) (st' := [.inl (dt 85 (((dt 79 15) + l24_3).toNat))]) (w' := (SH, dt)) rfl rfl (s_iald (n := 500) (f := dt 85) rfl ⟨by omega, by (have z0_ := unhid c5; have z1_ := unhid i43; have z2_ := unhid c53; omega)⟩) ?_
            refine go_toq PM156 (k := 2) (pc' := 49) (L' := [some (.inr (.inr (some 79))), some (.inr (.inr (some 1003))), some (.inl l24_2), some (.inl l24_3)]) (st' := [.inl l24_3, .inr (.inr (some 1003)), .inl (dt 85 (((dt 79 15) + l24_3).toNat))]) (w' := (SH, dt)) rfl ?_
            refine go_callq PM156 PM250 (Q' := _) rfl rfl rfl rfl (sp_J0_charAt_5068e_1003 L xs sio (d + 0) dt hI  l24_3 (by first | exact bnd i42 (by decide) (by decide) | exact bndd i42 c52 (by decide) (by decide) | exact ⟨by fail, by fail⟩) ) ?_
            rintro _ _ ⟨rfl, h55⟩
            refine ⟨rfl, ?_⟩
            rcases h55 with ⟨v_h55, rfl, h55r, h55⟩
            refine go_ifq PM156 (k := 0) (p1 := 59) (p2 := 55) (L' := [some (.inr (.inr (some 79))), some (.inr (.inr (some 1003))), some (.inl l24_2), some (.inl l24_3)]) (st' := []) (w' := (SH, dt)) rfl (c_ne (a := dt 85 (((dt 79 15) + l24_3).toNat)) (b := v_h55) (by first | exact bnd r54 (by decide) (by decide) | exact ⟨by fail, by fail⟩) (by first | exact bnd h55r (by decide) (by decide) | exact ⟨by fail, by fail⟩)) (fun c57 => ?_) (fun c57 => ?_)
            · skip
              replace c57 := hid c57
              refine go_toq PM156 (k := 4) (pc' := 24) (L' := [some (.inr (.inr (some 79))), some (.inr (.inr (some 1003))), some (.inl 0), some (.inl (l24_3 + 1))]) (st' := []) (w' := (SH, dt)) rfl ?_
              exact GO.le (ih_loop44 0 (l24_3 + 1) ⟨by decide, by decide⟩ (by first | exact bndp i42 (by decide) (by decide) | exact bnde i42 c52 (by decide) (by decide) | fail) (by omega) (by omega)) ⟨.inl rfl, .inl rfl, .inl rfl, .inl rfl, trivial⟩
            · skip
              refine go_toq PM156 (k := 5) (pc' := 24) (L' := [some (.inr (.inr (some 79))), some (.inr (.inr (some 1003))), some (.inl 1), some (.inl (l24_3 + 1))]) (st' := []) (w' := (SH, dt)) rfl ?_
              exact GO.le (ih_loop44 1 (l24_3 + 1) ⟨by decide, by decide⟩ (by first | exact bndp i42 (by decide) (by decide) | exact bnde i42 c52 (by decide) (by decide) | fail) (by (have z0_ := unhid c5; have z1_ := unhid i43; have z2_ := unhid c53; omega)) (by omega)) ⟨.inl rfl, .inl rfl, .inl rfl, .inl rfl, trivial⟩
    exact GO.le (loop44 _ 0 0 ⟨by decide, by decide⟩ ⟨by decide, by decide⟩ (by omega) (Nat.lt_succ_self _)) ⟨.inl rfl, .inl rfl, .inl rfl, .inl rfl, trivial⟩
  · skip
    refine go_toq PM156 (k := 5) (pc' := 24) (L' := [some (.inr (.inr (some 79))), some (.inr (.inr (some 1003))), some (.inl 1), some (.inl 0)]) (st' := []) (w' := (SH, dt)) rfl ?_
    have loop96 : ∀ (k_ : Nat) (l24_2 : Int) (l24_3 : Int) (i93 : 0 ≤ l24_2 ∧ l24_2 ≤ 1) (i94 : 0 ≤ l24_3 ∧ l24_3 ≤ 4) (i95 : l24_2 = 0 ∨ dt 79 13 - dt 79 15 = 4), (5 - l24_3).toNat < k_ → GO (am_XX L xs sio) (d + 4) 156 24 [some (.inr (.inr (some 79))), some (.inr (.inr (some 1003))), some (.inl l24_2), some (.inl l24_3)] [] (SH, dt) (fun r w2 => w2 = (SH, dt) ∧ ((∃ v : Int, r = some (.inl v) ∧ (0 ≤ v ∧ v ≤ 1) ∧ True))) := by
      intro k_
      induction k_ with
      | zero => intro l24_2 l24_3 i93 i94 i95 hm; exact absurd hm (Nat.not_lt_zero _)
      | succ k_ ih_loop96 =>
        intro l24_2 l24_3 i93 i94 i95 hm
        replace i95 := hid i95
        refine go_toq PM156 (k := 2) (pc' := 26) (L' := [some (.inr (.inr (some 79))), some (.inr (.inr (some 1003))), some (.inl l24_2), some (.inl l24_3)]) (st' := [.inr (.inr (some 1003)), .inl l24_3]) (w' := (SH, dt)) rfl ?_
        refine go_callq PM156 PM249 (Q' := _) rfl rfl rfl rfl (sp_J0_length_8abf5_1003 L xs sio (d + 2) dt hI   ) ?_
        rintro _ _ ⟨rfl, h97⟩
        refine ⟨rfl, ?_⟩
        rcases h97 with ⟨rfl, h97⟩
        have j103 :  GO (am_XX L xs sio) (d + 4) 156 67 [some (.inr (.inr (some 79))), some (.inr (.inr (some 1003))), some (.inl l24_2), none] [] (SH, dt) (fun r w2 => w2 = (SH, dt) ∧ ((∃ v : Int, r = some (.inl v) ∧ (0 ≤ v ∧ v ≤ 1) ∧ True))) := by
          skip
          refine go_toq PM156 (k := 1) (pc' := 68) (L' := [some (.inr (.inr (some 79))), some (.inr (.inr (some 1003))), some (.inl l24_2), none]) (st' := [.inl l24_2]) (w' := (SH, dt)) rfl ?_
          refine go_retvq PM156 (v := l24_2) rfl (decide_eq_true (show l24_2 = 0 ∨ l24_2 = 1 by omega)) ?_
          exact ⟨rfl, ⟨_, rfl, ⟨by omega, by omega⟩, trivial⟩⟩
        refine go_ifq PM156 (k := 0) (p1 := 67) (p2 := 32) (L' := [some (.inr (.inr (some 79))), some (.inr (.inr (some 1003))), some (.inl l24_2), some (.inl l24_3)]) (st' := []) (w' := (SH, dt)) rfl (c_ge (a := l24_3) (b := 4) (by first | exact bnd i94 (by decide) (by decide) | exact ⟨by fail, by fail⟩) ⟨by decide, by decide⟩) (fun c104 => ?_) (fun c104 => ?_)
        · skip
          exact GO.le (j103 ) ⟨.inl rfl, .inl rfl, .inl rfl, .inr ⟨rfl, trivial⟩, trivial⟩
        · skip
          refine go_ifq PM156 (k := 1) (p1 := 67) (p2 := 36) (L' := [some (.inr (.inr (some 79))), some (.inr (.inr (some 1003))), some (.inl l24_2), some (.inl l24_3)]) (st' := []) (w' := (SH, dt)) rfl (z_eq (a := l24_2) (by first | exact bnd i93 (by decide) (by decide) | exact ⟨by fail, by fail⟩)) (fun c105 => ?_) (fun c105 => ?_)
          · skip
            exact GO.le (j103 ) ⟨.inl rfl, .inl rfl, .inl rfl, .inr ⟨rfl, trivial⟩, trivial⟩
          · skip
            replace c105 := hid c105
            refine go_toq PM156 (k := 6) (pc' := 46) (L' := [some (.inr (.inr (some 79))), some (.inr (.inr (some 1003))), some (.inl l24_2), some (.inl l24_3)]) (st' := [.inl ((dt 79 15) + l24_3), .inr (.inr (some 85))]) (w' := (SH, dt)) rfl ?_
            have r106 : 0 ≤ dt 85 (((dt 79 15) + l24_3).toNat) ∧ dt 85 (((dt 79 15) + l24_3).toNat) ≤ 255 := InvC_get hI 85 (((dt 79 15) + l24_3).toNat) rfl rfl
            refine go_smpq PM156 (L' := [some (.inr (.inr (some 79))), some (.inr (.inr (some 1003))), some (.inl l24_2), some (.inl l24_3)]) (st' := [.inl (dt 85 (((dt 79 15) + l24_3).toNat))]) (w' := (SH, dt)) rfl rfl (s_iald (n := 500) (f := dt 85) rfl ⟨by omega, by omega⟩) ?_
            refine go_toq PM156 (k := 2) (pc' := 49) (L' := [some (.inr (.inr (some 79))), some (.inr (.inr (some 1003))), some (.inl l24_2), some (.inl l24_3)]) (st' := [.inl l24_3, .inr (.inr (some 1003)), .inl (dt 85 (((dt 79 15) + l24_3).toNat))]) (w' := (SH, dt)) rfl ?_
            refine go_callq PM156 PM250 (Q' := _) rfl rfl rfl rfl (sp_J0_charAt_5068e_1003 L xs sio (d + 0) dt hI  l24_3 (by first | exact bnd i94 (by decide) (by decide) | exact bndd i94 c104 (by decide) (by decide) | exact ⟨by fail, by fail⟩) ) ?_
            rintro _ _ ⟨rfl, h107⟩
            refine ⟨rfl, ?_⟩
            rcases h107 with ⟨v_h107, rfl, h107r, h107⟩
            refine go_ifq PM156 (k := 0) (p1 := 59) (p2 := 55) (L' := [some (.inr (.inr (some 79))), some (.inr (.inr (some 1003))), some (.inl l24_2), some (.inl l24_3)]) (st' := []) (w' := (SH, dt)) rfl (c_ne (a := dt 85 (((dt 79 15) + l24_3).toNat)) (b := v_h107) (by first | exact bnd r106 (by decide) (by decide) | exact ⟨by fail, by fail⟩) (by first | exact bnd h107r (by decide) (by decide) | exact ⟨by fail, by fail⟩)) (fun c109 => ?_) (fun c109 => ?_)
            · skip
              replace c109 := hid c109
              refine go_toq PM156 (k := 4) (pc' := 24) (L' := [some (.inr (.inr (some 79))), some (.inr (.inr (some 1003))), some (.inl 0), some (.inl (l24_3 + 1))]) (st' := []) (w' := (SH, dt)) rfl ?_
              exact GO.le (ih_loop96 0 (l24_3 + 1) ⟨by decide, by decide⟩ (by first | exact bndp i94 (by decide) (by decide) | exact bnde i94 c104 (by decide) (by decide) | fail) (by omega) (by omega)) ⟨.inl rfl, .inl rfl, .inl rfl, .inl rfl, trivial⟩
            · skip
              refine go_toq PM156 (k := 5) (pc' := 24) (L' := [some (.inr (.inr (some 79))), some (.inr (.inr (some 1003))), some (.inl 1), some (.inl (l24_3 + 1))]) (st' := []) (w' := (SH, dt)) rfl ?_
              exact GO.le (ih_loop96 1 (l24_3 + 1) ⟨by decide, by decide⟩ (by first | exact bndp i94 (by decide) (by decide) | exact bnde i94 c104 (by decide) (by decide) | fail) (by omega) (by omega)) ⟨.inl rfl, .inl rfl, .inl rfl, .inl rfl, trivial⟩
    exact GO.le (loop96 _ 1 0 ⟨by decide, by decide⟩ ⟨by decide, by decide⟩ (by omega) (Nat.lt_succ_self _)) ⟨.inl rfl, .inl rfl, .inl rfl, .inl rfl, trivial⟩
theorem sp_J0_coder_7d493_1004 (L : Nat) (xs : Nat → Int32) (sio : Option Nat) (d : Nat) (dt : Nat → Nat → Int) (hI : InvC dt)    : GO (am_XX L xs sio) (d) 253 0 [some (.inr (.inr (some 1004)))] [] (SH, dt) (fun r w2 => w2 = (SH, dt) ∧ ((r = some (.inl 0) ∧ True))) := by
  refine go_retq PM253 (k := 5) (r := some (.inl 0)) (w1 := (SH, dt)) rfl ?_
  exact ⟨rfl, ⟨rfl, trivial⟩⟩
theorem sp_J0_length_8abf5_1004 (L : Nat) (xs : Nat → Int32) (sio : Option Nat) (d : Nat) (dt : Nat → Nat → Int) (hI : InvC dt)    : GO (am_XX L xs sio) (d + 1) 249 0 [some (.inr (.inr (some 1004)))] [] (SH, dt) (fun r w2 => w2 = (SH, dt) ∧ ((r = some (.inl 5) ∧ True))) := by
  refine go_toq PM249 (k := 4) (pc' := 6) (L' := [some (.inr (.inr (some 1004)))]) (st' := [.inr (.inr (some 1004)), .inl 5]) (w' := (SH, dt)) rfl ?_
  refine go_callq PM249 PM253 (Q' := _) rfl rfl rfl rfl (sp_J0_coder_7d493_1004 L xs sio (d + 0) dt hI   ) ?_
  rintro _ _ ⟨rfl, h1⟩
  refine ⟨rfl, ?_⟩
  rcases h1 with ⟨rfl, h1⟩
  refine go_smpq PM249 (L' := [some (.inr (.inr (some 1004)))]) (st' := [.inl 5]) (w' := (SH, dt)) rfl rfl (s_bshr (v := 5) (by decide)) ?_
  refine go_retq PM249 (k := 0) (r := some (.inl 5)) (w1 := (SH, dt)) rfl ?_
  exact ⟨rfl, ⟨rfl, trivial⟩⟩
theorem sp_J0_isLatin1_aae02_1004 (L : Nat) (xs : Nat → Int32) (sio : Option Nat) (d : Nat) (dt : Nat → Nat → Int) (hI : InvC dt)    : GO (am_XX L xs sio) (d) 254 0 [some (.inr (.inr (some 1004)))] [] (SH, dt) (fun r w2 => w2 = (SH, dt) ∧ ((r = some (.inl 1) ∧ True))) := by
  refine go_retq PM254 (k := 7) (r := some (.inl 1)) (w1 := (SH, dt)) rfl ?_
  exact ⟨rfl, ⟨rfl, trivial⟩⟩
theorem sp_J1_charAt_3b067_1004 (L : Nat) (xs : Nat → Int32) (sio : Option Nat) (d : Nat) (dt : Nat → Nat → Int) (hI : InvC dt)  (p2 : Int) (h_p2 : 0 ≤ p2 ∧ p2 ≤ 4)  : GO (am_XX L xs sio) (d + 2) 256 0 [some (.inr (.inr (some 2004))), some (.inl p2)] [] (SH, dt) (fun r w2 => w2 = (SH, dt) ∧ ((∃ v : Int, r = some (.inl v) ∧ (0 ≤ v ∧ v ≤ 65535) ∧ True))) := by
  refine go_toq PM256 (k := 3) (pc' := 3) (L' := [some (.inr (.inr (some 2004))), some (.inl p2)]) (st' := [.inl 5, .inl p2]) (w' := (SH, dt)) rfl ?_
  refine go_callq PM256 PM255 (Q' := _) rfl rfl rfl rfl (sp_J0_checkIndex_df160 L xs sio (d + 0) dt hI  p2 (by first | exact h_p2 | exact bnd h_p2 (by decide) (by decide) | exact ⟨by fail, by fail⟩) 5 ⟨by decide, by decide⟩ (by first | exact True.intro | with_reducible assumption | rfl | omega | trivial)) ?_
  rintro _ _ ⟨rfl, h1⟩
  refine ⟨rfl, ?_⟩
  rcases h1 with ⟨rfl, h1⟩
  refine go_toq PM256 (k := 2) (pc' := 8) (L' := [some (.inr (.inr (some 2004))), some (.inl p2)]) (st' := [.inl p2, .inr (.inr (some 2004))]) (w' := (SH, dt)) rfl ?_
  have r2 := sby_R 4 (p2).toNat
  refine go_smpq PM256 (L' := [some (.inr (.inr (some 2004))), some (.inl p2)]) (st' := [.inl ((am_Sby.getD 4 []).getD (p2).toNat 0)]) (w' := (SH, dt)) rfl rfl (s_bald (n := 5) (f := fun q => (am_Sby.getD 4 []).getD q 0) rfl (by first | exact bndx h_p2 (by decide) (by decide) | exact ⟨by fail, by fail⟩)) ?_
  have r3 : 0 ≤ am_and ((am_Sby.getD 4 []).getD (p2).toNat 0) 255 ∧ am_and ((am_Sby.getD 4 []).getD (p2).toNat 0) 255 ≤ 255 := and_R255
  have r4 := i2c_R (am_and ((am_Sby.getD 4 []).getD (p2).toNat 0) 255)
  refine go_toq PM256 (k := 3) (pc' := 14) (L' := [some (.inr (.inr (some 2004))), some (.inl p2)]) (st' := [.inl (am_i2c (am_and ((am_Sby.getD 4 []).getD (p2).toNat 0) 255))]) (w' := (SH, dt)) rfl ?_
  refine go_retvq PM256 (v := am_i2c (am_and ((am_Sby.getD 4 []).getD (p2).toNat 0) 255)) rfl (decide_eq_true (show 0 ≤ am_i2c (am_and ((am_Sby.getD 4 []).getD (p2).toNat 0) 255) ∧ am_i2c (am_and ((am_Sby.getD 4 []).getD (p2).toNat 0) 255) < 65536 by omega)) ?_
  exact ⟨rfl, ⟨_, rfl, ⟨by omega, by omega⟩, trivial⟩⟩
theorem sp_J0_charAt_5068e_1004 (L : Nat) (xs : Nat → Int32) (sio : Option Nat) (d : Nat) (dt : Nat → Nat → Int) (hI : InvC dt)  (p1 : Int) (h_p1 : 0 ≤ p1 ∧ p1 ≤ 4)  : GO (am_XX L xs sio) (d + 3) 250 0 [some (.inr (.inr (some 1004))), some (.inl p1)] [] (SH, dt) (fun r w2 => w2 = (SH, dt) ∧ ((∃ v : Int, r = some (.inl v) ∧ (0 ≤ v ∧ v ≤ 65535) ∧ True))) := by
  refine go_toq PM250 (k := 1) (pc' := 1) (L' := [some (.inr (.inr (some 1004))), some (.inl p1)]) (st' := [.inr (.inr (some 1004))]) (w' := (SH, dt)) rfl ?_
  refine go_callq PM250 PM254 (Q' := _) rfl rfl rfl rfl (sp_J0_isLatin1_aae02_1004 L xs sio (d + 2) dt hI   ) ?_
  rintro _ _ ⟨rfl, h1⟩
  refine ⟨rfl, ?_⟩
  rcases h1 with ⟨rfl, h1⟩
  refine go_toq PM250 (k := 4) (pc' := 12) (L' := [some (.inr (.inr (some 1004))), some (.inl p1)]) (st' := [.inl p1, .inr (.inr (some 2004))]) (w' := (SH, dt)) rfl ?_
  refine go_callq PM250 PM256 (Q' := _) rfl rfl rfl rfl (sp_J1_charAt_3b067_1004 L xs sio (d + 0) dt hI  p1 (by first | exact h_p1 | exact bnd h_p1 (by decide) (by decide) | exact ⟨by fail, by fail⟩) ) ?_
  rintro _ _ ⟨rfl, h2⟩
  refine ⟨rfl, ?_⟩
  rcases h2 with ⟨v_h2, rfl, h2r, h2⟩
  refine go_retvq PM250 (v := v_h2) rfl (decide_eq_true (show 0 ≤ v_h2 ∧ v_h2 < 65536 by omega)) ?_
  exact ⟨rfl, ⟨_, rfl, ⟨by omega, by omega⟩, trivial⟩⟩
set_option maxRecDepth 20000 in
theorem sp_X6_is_1004 (L : Nat) (xs : Nat → Int32) (sio : Option Nat) (d : Nat) (dt : Nat → Nat → Int) (hI : InvC dt)   (h_p0 : dt 79 13 ≤ 500) : GO (am_XX L xs sio) (d + 4) 156 0 [some (.inr (.inr (some 79))), some (.inr (.inr (some 1004))), none, none] [] (SH, dt) (fun r w2 => w2 = (SH, dt) ∧ ((∃ v : Int, r = some (.inl v) ∧ (0 ≤ v ∧ v ≤ 1) ∧ True))) := by
  have r1 : 0 ≤ dt 79 13 ∧ dt 79 13 ≤ 501 := InvC_get hI 79 13 rfl rfl
  have r2 : 0 ≤ dt 79 15 ∧ dt 79 15 ≤ 500 := InvC_get hI 79 15 rfl rfl
  refine go_toq PM156 (k := 6) (pc' := 10) (L' := [some (.inr (.inr (some 79))), some (.inr (.inr (some 1004))), none, none]) (st' := [.inr (.inr (some 1004)), .inl ((dt 79 13) - (dt 79 15))]) (w' := (SH, dt)) rfl ?_
  refine go_callq PM156 PM249 (Q' := _) rfl rfl rfl rfl (sp_J0_length_8abf5_1004 L xs sio (d + 2) dt hI   ) ?_
  rintro _ _ ⟨rfl, h3⟩
  refine ⟨rfl, ?_⟩
  rcases h3 with ⟨rfl, h3⟩
  refine go_ifq PM156 (k := 0) (p1 := 20) (p2 := 16) (L' := [some (.inr (.inr (some 79))), some (.inr (.inr (some 1004))), none, none]) (st' := []) (w' := (SH, dt)) rfl (c_ne (a := (dt 79 13) - (dt 79 15)) (b := 5) ⟨by omega, by omega⟩ ⟨by decide, by decide⟩) (fun c5 => ?_) (fun c5 => ?_)
  · skip
    replace c5 := hid c5
    refine go_toq PM156 (k := 4) (pc' := 24) (L' := [some (.inr (.inr (some 79))), some (.inr (.inr (some 1004))), some (.inl 0), some (.inl 0)]) (st' := []) (w' := (SH, dt)) rfl ?_
    have loop44 : ∀ (k_ : Nat) (l24_2 : Int) (l24_3 : Int) (i41 : 0 ≤ l24_2 ∧ l24_2 ≤ 1) (i42 : 0 ≤ l24_3 ∧ l24_3 ≤ 5) (i43 : l24_2 = 0 ∨ dt 79 13 - dt 79 15 = 5), (6 - l24_3).toNat < k_ → GO (am_XX L xs sio) (d + 4) 156 24 [some (.inr (.inr (some 79))), some (.inr (.inr (some 1004))), some (.inl l24_2), some (.inl l24_3)] [] (SH, dt) (fun r w2 => w2 = (SH, dt) ∧ ((∃ v : Int, r = some (.inl v) ∧ (0 ≤ v ∧ v ≤ 1) ∧ True))) := by
      intro k_
      induction k_ with
      | zero => intro l24_2 l24_3 i41 i42 i43 hm; exact absurd hm (Nat.not_lt_zero _)
      | succ k_ ih_loop44 =>
        intro l24_2 l24_3 i41 i42 i43 hm
        replace i43 := hid i43
        refine go_toq PM156 (k := 2) (pc' := 26) (L' := [some (.inr (.inr (some 79))), some (.inr (.inr (some 1004))), some (.inl l24_2), some (.inl l24_3)]) (st' := [.inr (.inr (some 1004)), .inl l24_3]) (w' := (SH, dt)) rfl ?_
        refine go_callq PM156 PM249 (Q' := _) rfl rfl rfl rfl (sp_J0_length_8abf5_1004 L xs sio (d + 2) dt hI   ) ?_
        rintro _ _ ⟨rfl, h45⟩
        refine ⟨rfl, ?_⟩
        rcases h45 with ⟨rfl, h45⟩
        have j51 :  GO (am_XX L xs sio) (d + 4) 156 67 [some (.inr (.inr (some 79))), some (.inr (.inr (some 1004))), some (.inl l24_2), none] [] (SH, dt) (fun r w2 => w2 = (SH, dt) ∧ ((∃ v : Int, r = some (.inl v) ∧ (0 ≤ v ∧ v ≤ 1) ∧ True))) := by
          skip
          refine go_toq PM156 (k := 1) (pc' := 68) (L' := [some (.inr (.inr (some 79))), some (.inr (.inr (some 1004))), some (.inl l24_2), none]) (st' := [.inl l24_2]) (w' := (SH, dt)) rfl ?_
          refine go_retvq PM156 (v := l24_2) rfl (decide_eq_true (show l24_2 = 0 ∨ l24_2 = 1 by omega)) ?_
          exact ⟨rfl, ⟨_, rfl, ⟨by omega, by omega⟩, trivial⟩⟩
        refine go_ifq PM156 (k := 0) (p1 := 67) (p2 := 32) (L' := [some (.inr (.inr (some 79))), some (.inr (.inr (some 1004))), some (.inl l24_2), some (.inl l24_3)]) (st' := []) (w' := (SH, dt)) rfl (c_ge (a := l24_3) (b := 5) (by first | exact bnd i42 (by decide) (by decide) | exact ⟨by fail, by fail⟩) ⟨by decide, by decide⟩) (fun c52 => ?_) (fun c52 => ?_)
        · skip
          exact GO.le (j51 ) ⟨.inl rfl, .inl rfl, .inl rfl, .inr ⟨rfl, trivial⟩, trivial⟩
        · skip
          refine go_ifq PM156 (k := 1) (p1 := 67) (p2 := 36) (L' := [some (.inr (.inr (some 79))), some (.inr (.inr (some 1004))), some (.inl l24_2), some (.inl l24_3)]) (st' := []) (w' := (SH, dt)) rfl (z_eq (a := l24_2) (by first | exact bnd i41 (by decide) (by decide) | exact ⟨by fail, by fail⟩)) (fun c53 => ?_) (fun c53 => ?_)
          · skip
            exact GO.le (j51 ) ⟨.inl rfl, .inl rfl, .inl rfl, .inr ⟨rfl, trivial⟩, trivial⟩
          · skip
            replace c53 := hid c53
            refine go_toq PM156 (k := 6) (pc' := 46) (L' := [some (.inr (.inr (some 79))), some (.inr (.inr (some 1004))), some (.inl l24_2), some (.inl l24_3)]) (st' := [.inl ((dt 79 15) + l24_3), .inr (.inr (some 85))]) (w' := (SH, dt)) rfl ?_
            have r54 : 0 ≤ dt 85 (((dt 79 15) + l24_3).toNat) ∧ dt 85 (((dt 79 15) + l24_3).toNat) ≤ 255 := InvC_get hI 85 (((dt 79 15) + l24_3).toNat) rfl rfl
            refine go_smpq PM156 (L' := [some (.inr (.inr (some 79))), some (.inr (.inr (some 1004))), some (.inl l24_2), some (.inl l24_3)]) (st' := [.inl (dt 85 (((dt 79 15) + l24_3).toNat))]) (w' := (SH, dt)) rfl rfl (s_iald (n := 500) (f := dt 85) rfl ⟨by omega, by (have z0_ := unhid c5; have z1_ := unhid i43; have z2_ := unhid c53; omega)⟩) ?_
            refine go_toq PM156 (k := 2) (pc' := 49) (L' := [some (.inr (.inr (some 79))), some (.inr (.inr (some 1004))), some (.inl l24_2), some (.inl l24_3)]) (st' := [.inl l24_3, .inr (.inr (some 1004)), .inl (dt 85 (((dt 79 15) + l24_3).toNat))]) (w' := (SH, dt)) rfl ?_
            refine go_callq PM156 PM250 (Q' := _) rfl rfl rfl rfl (sp_J0_charAt_5068e_1004 L xs sio (d + 0) dt hI  l24_3 (by first | exact bnd i42 (by decide) (by decide) | exact bndd i42 c52 (by decide) (by decide) | exact ⟨by fail, by fail⟩) ) ?_
            rintro _ _ ⟨rfl, h55⟩
            refine ⟨rfl, ?_⟩
            rcases h55 with ⟨v_h55, rfl, h55r, h55⟩
            refine go_ifq PM156 (k := 0) (p1 := 59) (p2 := 55) (L' := [some (.inr (.inr (some 79))), some (.inr (.inr (some 1004))), some (.inl l24_2), some (.inl l24_3)]) (st' := []) (w' := (SH, dt)) rfl (c_ne (a := dt 85 (((dt 79 15) + l24_3).toNat)) (b := v_h55) (by first | exact bnd r54 (by decide) (by decide) | exact ⟨by fail, by fail⟩) (by first | exact bnd h55r (by decide) (by decide) | exact ⟨by fail, by fail⟩)) (fun c57 => ?_) (fun c57 => ?_)
            · skip
              replace c57 := hid c57
              refine go_toq PM156 (k := 4) (pc' := 24) (L' := [some (.inr (.inr (some 79))), some (.inr (.inr (some 1004))), some (.inl 0), some (.inl (l24_3 + 1))]) (st' := []) (w' := (SH, dt)) rfl ?_
              exact GO.le (ih_loop44 0 (l24_3 + 1) ⟨by decide, by decide⟩ (by first | exact bndp i42 (by decide) (by decide) | exact bnde i42 c52 (by decide) (by decide) | fail) (by omega) (by omega)) ⟨.inl rfl, .inl rfl, .inl rfl, .inl rfl, trivial⟩
            · skip
              refine go_toq PM156 (k := 5) (pc' := 24) (L' := [some (.inr (.inr (some 79))), some (.inr (.inr (some 1004))), some (.inl 1), some (.inl (l24_3 + 1))]) (st' := []) (w' := (SH, dt)) rfl ?_
              exact GO.le (ih_loop44 1 (l24_3 + 1) ⟨by decide, by decide⟩ (by first | exact bndp i42 (by decide) (by decide) | exact bnde i42 c52 (by decide) (by decide) | fail) (by (have z0_ := unhid c5; have z1_ := unhid i43; have z2_ := unhid c53; omega)) (by omega)) ⟨.inl rfl, .inl rfl, .inl rfl, .inl rfl, trivial⟩
    exact GO.le (loop44 _ 0 0 ⟨by decide, by decide⟩ ⟨by decide, by decide⟩ (by omega) (Nat.lt_succ_self _)) ⟨.inl rfl, .inl rfl, .inl rfl, .inl rfl, trivial⟩
  · skip
    refine go_toq PM156 (k := 5) (pc' := 24) (L' := [some (.inr (.inr (some 79))), some (.inr (.inr (some 1004))), some (.inl 1), some (.inl 0)]) (st' := []) (w' := (SH, dt)) rfl ?_
    have loop96 : ∀ (k_ : Nat) (l24_2 : Int) (l24_3 : Int) (i93 : 0 ≤ l24_2 ∧ l24_2 ≤ 1) (i94 : 0 ≤ l24_3 ∧ l24_3 ≤ 5) (i95 : l24_2 = 0 ∨ dt 79 13 - dt 79 15 = 5), (6 - l24_3).toNat < k_ → GO (am_XX L xs sio) (d + 4) 156 24 [some (.inr (.inr (some 79))), some (.inr (.inr (some 1004))), some (.inl l24_2), some (.inl l24_3)] [] (SH, dt) (fun r w2 => w2 = (SH, dt) ∧ ((∃ v : Int, r = some (.inl v) ∧ (0 ≤ v ∧ v ≤ 1) ∧ True))) := by
      intro k_
      induction k_ with
      | zero => intro l24_2 l24_3 i93 i94 i95 hm; exact absurd hm (Nat.not_lt_zero _)
      | succ k_ ih_loop96 =>
        intro l24_2 l24_3 i93 i94 i95 hm
        replace i95 := hid i95
        refine go_toq PM156 (k := 2) (pc' := 26) (L' := [some (.inr (.inr (some 79))), some (.inr (.inr (some 1004))), some (.inl l24_2), some (.inl l24_3)]) (st' := [.inr (.inr (some 1004)), .inl l24_3]) (w' := (SH, dt)) rfl ?_
        refine go_callq PM156 PM249 (Q' := _) rfl rfl rfl rfl (sp_J0_length_8abf5_1004 L xs sio (d + 2) dt hI   ) ?_
        rintro _ _ ⟨rfl, h97⟩
        refine ⟨rfl, ?_⟩
        rcases h97 with ⟨rfl, h97⟩
        have j103 :  GO (am_XX L xs sio) (d + 4) 156 67 [some (.inr (.inr (some 79))), some (.inr (.inr (some 1004))), some (.inl l24_2), none] [] (SH, dt) (fun r w2 => w2 = (SH, dt) ∧ ((∃ v : Int, r = some (.inl v) ∧ (0 ≤ v ∧ v ≤ 1) ∧ True))) := by
          skip
          refine go_toq PM156 (k := 1) (pc' := 68) (L' := [some (.inr (.inr (some 79))), some (.inr (.inr (some 1004))), some (.inl l24_2), none]) (st' := [.inl l24_2]) (w' := (SH, dt)) rfl ?_
          refine go_retvq PM156 (v := l24_2) rfl (decide_eq_true (show l24_2 = 0 ∨ l24_2 = 1 by omega)) ?_
          exact ⟨rfl, ⟨_, rfl, ⟨by omega, by omega⟩, trivial⟩⟩
        refine go_ifq PM156 (k := 0) (p1 := 67) (p2 := 32) (L' := [some (.inr (.inr (some 79))), some (.inr (.inr (some 1004))), some (.inl l24_2), some (.inl l24_3)]) (st' := []) (w' := (SH, dt)) rfl (c_ge (a := l24_3) (b := 5) (by first | exact bnd i94 (by decide) (by decide) | exact ⟨by fail, by fail⟩) ⟨by decide, by decide⟩) (fun c104 => ?_) (fun c104 => ?_)
        · skip
          exact GO.le (j103 ) ⟨.inl rfl, .inl rfl, .inl rfl, .inr ⟨rfl, trivial⟩, trivial⟩
        · skip
          refine go_ifq PM156 (k := 1) (p1 := 67) (p2 := 36) (L' := [some (.inr (.inr (some 79))), some (.inr (.inr (some 1004))), some (.inl l24_2), some (.inl l24_3)]) (st' := []) (w' := (SH, dt)) rfl (z_eq (a := l24_2) (by first | exact bnd i93 (by decide) (by decide) | exact ⟨by fail, by fail⟩)) (fun c105 => ?_) (fun c105 => ?_)
          · skip
            exact GO.le (j103 ) ⟨.inl rfl, .inl rfl, .inl rfl, .inr ⟨rfl, trivial⟩, trivial⟩
          · skip
            replace c105 := hid c105
            refine go_toq PM156 (k := 6) (pc' := 46) (L' := [some (.inr (.inr (some 79))), some (.inr (.inr (some 1004))), some (.inl l24_2), some (.inl l24_3)]) (st' := [.inl ((dt 79 15) + l24_3), .inr (.inr (some 85))]) (w' := (SH, dt)) rfl ?_
            have r106 : 0 ≤ dt 85 (((dt 79 15) + l24_3).toNat) ∧ dt 85 (((dt 79 15) + l24_3).toNat) ≤ 255 := InvC_get hI 85 (((dt 79 15) + l24_3).toNat) rfl rfl
            refine go_smpq PM156 (L' := [some (.inr (.inr (some 79))), some (.inr (.inr (some 1004))), some (.inl l24_2), some (.inl l24_3)]) (st' := [.inl (dt 85 (((dt 79 15) + l24_3).toNat))]) (w' := (SH, dt)) rfl rfl (s_iald (n := 500) (f := dt 85) rfl ⟨by omega, by omega⟩) ?_
            refine go_toq PM156 (k := 2) (pc' := 49) (L' := [some (.inr (.inr (some 79))), some (.inr (.inr (some 1004))), some (.inl l24_2), some (.inl l24_3)]) (st' := [.inl l24_3, .inr (.inr (some 1004)), .inl (dt 85 (((dt 79 15) + l24_3).toNat))]) (w' := (SH, dt)) rfl ?_
            refine go_callq PM156 PM250 (Q' := _) rfl rfl rfl rfl (sp_J0_charAt_5068e_1004 L xs sio (d + 0) dt hI  l24_3 (by first | exact bnd i94 (by decide) (by decide) | exact bndd i94 c104 (by decide) (by decide) | exact ⟨by fail, by fail⟩) ) ?_
            rintro _ _ ⟨rfl, h107⟩
            refine ⟨rfl, ?_⟩
            rcases h107 with ⟨v_h107, rfl, h107r, h107⟩
            refine go_ifq PM156 (k := 0) (p1 := 59) (p2 := 55) (L' := [some (.inr (.inr (some 79))), some (.inr (.inr (some 1004))), some (.inl l24_2), some (.inl l24_3)]) (st' := []) (w' := (SH, dt)) rfl (c_ne (a := dt 85 (((dt 79 15) + l24_3).toNat)) (b := v_h107) (by first | exact bnd r106 (by decide) (by decide) | exact ⟨by fail, by fail⟩) (by first | exact bnd h107r (by decide) (by decide) | exact ⟨by fail, by fail⟩)) (fun c109 => ?_) (fun c109 => ?_)
            · skip
              replace c109 := hid c109
              refine go_toq PM156 (k := 4) (pc' := 24) (L' := [some (.inr (.inr (some 79))), some (.inr (.inr (some 1004))), some (.inl 0), some (.inl (l24_3 + 1))]) (st' := []) (w' := (SH, dt)) rfl ?_
              exact GO.le (ih_loop96 0 (l24_3 + 1) ⟨by decide, by decide⟩ (by first | exact bndp i94 (by decide) (by decide) | exact bnde i94 c104 (by decide) (by decide) | fail) (by omega) (by omega)) ⟨.inl rfl, .inl rfl, .inl rfl, .inl rfl, trivial⟩
            · skip
              refine go_toq PM156 (k := 5) (pc' := 24) (L' := [some (.inr (.inr (some 79))), some (.inr (.inr (some 1004))), some (.inl 1), some (.inl (l24_3 + 1))]) (st' := []) (w' := (SH, dt)) rfl ?_
              exact GO.le (ih_loop96 1 (l24_3 + 1) ⟨by decide, by decide⟩ (by first | exact bndp i94 (by decide) (by decide) | exact bnde i94 c104 (by decide) (by decide) | fail) (by omega) (by omega)) ⟨.inl rfl, .inl rfl, .inl rfl, .inl rfl, trivial⟩
    exact GO.le (loop96 _ 1 0 ⟨by decide, by decide⟩ ⟨by decide, by decide⟩ (by omega) (Nat.lt_succ_self _)) ⟨.inl rfl, .inl rfl, .inl rfl, .inl rfl, trivial⟩
theorem sp_J0_coder_7d493_1005 (L : Nat) (xs : Nat → Int32) (sio : Option Nat) (d : Nat) (dt : Nat → Nat → Int) (hI : InvC dt)    : GO (am_XX L xs sio) (d) 253 0 [some (.inr (.inr (some 1005)))] [] (SH, dt) (fun r w2 => w2 = (SH, dt) ∧ ((r = some (.inl 0) ∧ True))) := by
  refine go_retq PM253 (k := 5) (r := some (.inl 0)) (w1 := (SH, dt)) rfl ?_
  exact ⟨rfl, ⟨rfl, trivial⟩⟩
theorem sp_J0_length_8abf5_1005 (L : Nat) (xs : Nat → Int32) (sio : Option Nat) (d : Nat) (dt : Nat → Nat → Int) (hI : InvC dt)    : GO (am_XX L xs sio) (d + 1) 249 0 [some (.inr (.inr (some 1005)))] [] (SH, dt) (fun r w2 => w2 = (SH, dt) ∧ ((r = some (.inl 3) ∧ True))) := by
  refine go_toq PM249 (k := 4) (pc' := 6) (L' := [some (.inr (.inr (some 1005)))]) (st' := [.inr (.inr (some 1005)), .inl 3]) (w' := (SH, dt)) rfl ?_
  refine go_callq PM249 PM253 (Q' := _) rfl rfl rfl rfl (sp_J0_coder_7d493_1005 L xs sio (d + 0) dt hI   ) ?_
  rintro _ _ ⟨rfl, h1⟩
  refine ⟨rfl, ?_⟩
  rcases h1 with ⟨rfl, h1⟩
  refine go_smpq PM249 (L' := [some (.inr (.inr (some 1005)))]) (st' := [.inl 3]) (w' := (SH, dt)) rfl rfl (s_bshr (v := 3) (by decide)) ?_
  refine go_retq PM249 (k := 0) (r := some (.inl 3)) (w1 := (SH, dt)) rfl ?_
  exact ⟨rfl, ⟨rfl, trivial⟩⟩
theorem sp_J0_isLatin1_aae02_1005 (L : Nat) (xs : Nat → Int32) (sio : Option Nat) (d : Nat) (dt : Nat → Nat → Int) (hI : InvC dt)    : GO (am_XX L xs sio) (d) 254 0 [some (.inr (.inr (some 1005)))] [] (SH, dt) (fun r w2 => w2 = (SH, dt) ∧ ((r = some (.inl 1) ∧ True))) := by
  refine go_retq PM254 (k := 7) (r := some (.inl 1)) (w1 := (SH, dt)) rfl ?_
  exact ⟨rfl, ⟨rfl, trivial⟩⟩
theorem sp_J1_charAt_3b067_1005 (L : Nat) (xs : Nat → Int32) (sio : Option Nat) (d : Nat) (dt : Nat → Nat → Int) (hI : InvC dt)  (p2 : Int) (h_p2 : 0 ≤ p2 ∧ p2 ≤ 2)  : GO (am_XX L xs sio) (d + 2) 256 0 [some (.inr (.inr (some 2005))), some (.inl p2)] [] (SH, dt) (fun r w2 => w2 = (SH, dt) ∧ ((∃ v : Int, r = some (.inl v) ∧ (0 ≤ v ∧ v ≤ 65535) ∧ True))) := by
  refine go_toq PM256 (k := 3) (pc' := 3) (L' := [some (.inr (.inr (some 2005))), some (.inl p2)]) (st' := [.inl 3, .inl p2]) (w' := (SH, dt)) rfl ?_
  refine go_callq PM256 PM255 (Q' := _) rfl rfl rfl rfl (sp_J0_checkIndex_df160 L xs sio (d + 0) dt hI  p2 (by first | exact h_p2 | exact bnd h_p2 (by decide) (by decide) | exact ⟨by fail, by fail⟩) 3 ⟨by decide, by decide⟩ (by first | exact True.intro | with_reducible assumption | rfl | omega | trivial)) ?_
  rintro _ _ ⟨rfl, h1⟩
  refine ⟨rfl, ?_⟩
  rcases h1 with ⟨rfl, h1⟩
  refine go_toq PM256 (k := 2) (pc' := 8) (L' := [some (.inr (.inr (some 2005))), some (.inl p2)]) (st' := [.inl p2, .inr (.inr (some 2005))]) (w' := (SH, dt)) rfl ?_
  have r2 := sby_R 5 (p2).toNat
  refine go_smpq PM256 (L' := [some (.inr (.inr (some 2005))), some (.inl p2)]) (st' := [.inl ((am_Sby.getD 5 []).getD (p2).toNat 0)]) (w' := (SH, dt)) rfl rfl (s_bald (n := 3) (f := fun q => (am_Sby.getD 5 []).getD q 0) rfl (by first | exact bndx h_p2 (by decide) (by decide) | exact ⟨by fail, by fail⟩)) ?_
  have r3 : 0 ≤ am_and ((am_Sby.getD 5 []).getD (p2).toNat 0) 255 ∧ am_and ((am_Sby.getD 5 []).getD (p2).toNat 0) 255 ≤ 255 := and_R255
  have r4 := i2c_R (am_and ((am_Sby.getD 5 []).getD (p2).toNat 0) 255)
  refine go_toq PM256 (k := 3) (pc' := 14) (L' := [some (.inr (.inr (some 2005))), some (.inl p2)]) (st' := [.inl (am_i2c (am_and ((am_Sby.getD 5 []).getD (p2).toNat 0) 255))]) (w' := (SH, dt)) rfl ?_
  refine go_retvq PM256 (v := am_i2c (am_and ((am_Sby.getD 5 []).getD (p2).toNat 0) 255)) rfl (decide_eq_true (show 0 ≤ am_i2c (am_and ((am_Sby.getD 5 []).getD (p2).toNat 0) 255) ∧ am_i2c (am_and ((am_Sby.getD 5 []).getD (p2).toNat 0) 255) < 65536 by omega)) ?_
  exact ⟨rfl, ⟨_, rfl, ⟨by omega, by omega⟩, trivial⟩⟩
theorem sp_J0_charAt_5068e_1005 (L : Nat) (xs : Nat → Int32) (sio : Option Nat) (d : Nat) (dt : Nat → Nat → Int) (hI : InvC dt)  (p1 : Int) (h_p1 : 0 ≤ p1 ∧ p1 ≤ 2)  : GO (am_XX L xs sio) (d + 3) 250 0 [some (.inr (.inr (some 1005))), some (.inl p1)] [] (SH, dt) (fun r w2 => w2 = (SH, dt) ∧ ((∃ v : Int, r = some (.inl v) ∧ (0 ≤ v ∧ v ≤ 65535) ∧ True))) := by
  refine go_toq PM250 (k := 1) (pc' := 1) (L' := [some (.inr (.inr (some 1005))), some (.inl p1)]) (st' := [.inr (.inr (some 1005))]) (w' := (SH, dt)) rfl ?_
  refine go_callq PM250 PM254 (Q' := _) rfl rfl rfl rfl (sp_J0_isLatin1_aae02_1005 L xs sio (d + 2) dt hI   ) ?_
  rintro _ _ ⟨rfl, h1⟩
  refine ⟨rfl, ?_⟩
  rcases h1 with ⟨rfl, h1⟩
  refine go_toq PM250 (k := 4) (pc' := 12) (L' := [some (.inr (.inr (some 1005))), some (.inl p1)]) (st' := [.inl p1, .inr (.inr (some 2005))]) (w' := (SH, dt)) rfl ?_
  refine go_callq PM250 PM256 (Q' := _) rfl rfl rfl rfl (sp_J1_charAt_3b067_1005 L xs sio (d + 0) dt hI  p1 (by first | exact h_p1 | exact bnd h_p1 (by decide) (by decide) | exact ⟨by fail, by fail⟩) ) ?_
  rintro _ _ ⟨rfl, h2⟩
  refine ⟨rfl, ?_⟩
  rcases h2 with ⟨v_h2, rfl, h2r, h2⟩
  refine go_retvq PM250 (v := v_h2) rfl (decide_eq_true (show 0 ≤ v_h2 ∧ v_h2 < 65536 by omega)) ?_
  exact ⟨rfl, ⟨_, rfl, ⟨by omega, by omega⟩, trivial⟩⟩
set_option maxRecDepth 20000 in
theorem sp_X6_is_1005 (L : Nat) (xs : Nat → Int32) (sio : Option Nat) (d : Nat) (dt : Nat → Nat → Int) (hI : InvC dt)   (h_p0 : dt 79 13 ≤ 500) : GO (am_XX L xs sio) (d + 4) 156 0 [some (.inr (.inr (some 79))), some (.inr (.inr (some 1005))), none, none] [] (SH, dt) (fun r w2 => w2 = (SH, dt) ∧ ((∃ v : Int, r = some (.inl v) ∧ (0 ≤ v ∧ v ≤ 1) ∧ True))) := by
  have r1 : 0 ≤ dt 79 13 ∧ dt 79 13 ≤ 501 := InvC_get hI 79 13 rfl rfl
  have r2 : 0 ≤ dt 79 15 ∧ dt 79 15 ≤ 500 := InvC_get hI 79 15 rfl rfl
  refine go_toq PM156 (k := 6) (pc' := 10) (L' := [some (.inr (.inr (some 79))), some (.inr (.inr (some 1005))), none, none]) (st' := [.inr (.inr (some 1005)), .inl ((dt 79 13) - (dt 79 15))]) (w' := (SH, dt)) rfl ?_
  refine go_callq PM156 PM249 (Q' := _) rfl rfl rfl rfl (sp_J0_length_8abf5_1005 L xs sio (d + 2) dt hI   ) ?_
  rintro _ _ ⟨rfl, h3⟩
  refine ⟨rfl, ?_⟩
  rcases h3 with ⟨rfl, h3⟩
  refine go_ifq PM156 (k := 0) (p1 := 20) (p2 := 16) (L' := [some (.inr (.inr (some 79))), some (.inr (.inr (some 1005))), none, none]) (st' := []) (w' := (SH, dt)) rfl (c_ne (a := (dt 79 13) - (dt 79 15)) (b := 3) ⟨by omega, by omega⟩ ⟨by decide, by decide⟩) (fun c5 => ?_) (fun c5 => ?_)
  · skip
    replace c5 := hid c5
    refine go_toq PM156 (k := 4) (pc' := 24) (L' := [some (.inr (.inr (some 79))), some (.inr (.inr (some 1005))), some (.inl 0), some (.inl 0)]) (st' := []) (w' := (SH, dt)) rfl ?_
    have loop44 : ∀ (k_ : Nat) (l24_2 : Int) (l24_3 : Int) (i41 : 0 ≤ l24_2 ∧ l24_2 ≤ 1) (i42 : 0 ≤ l24_3 ∧ l24_3 ≤ 3) (i43 : l24_2 = 0 ∨ dt 79 13 - dt 79 15 = 3), (4 - l24_3).toNat < k_ → GO (am_XX L xs sio) (d + 4) 156 24 [some (.inr (.inr (some 79))), some (.inr (.inr (some 1005))), some (.inl l24_2), some (.inl l24_3)] [] (SH, dt) (fun r w2 => w2 = (SH, dt) ∧ ((∃ v : Int, r = some (.inl v) ∧ (0 ≤ v ∧ v ≤ 1) ∧ True))) := by
      intro k_
      induction k_ with
      | zero => intro l24_2 l24_3 i41 i42 i43 hm; exact absurd hm (Nat.not_lt_zero _)
      | succ k_ ih_loop44 =>
        intro l24_2 l24_3 i41 i42 i43 hm
        replace i43 := hid i43
        refine go_toq PM156 (k := 2) (pc' := 26) (L' := [some (.inr (.inr (some 79))), some (.inr (.inr (some 1005))), some (.inl l24_2), some (.inl l24_3)]) (st' := [.inr (.inr (some 1005)), .inl l24_3]) (w' := (SH, dt)) rfl ?_
        refine go_callq PM156 PM249 (Q' := _) rfl rfl rfl rfl (sp_J0_length_8abf5_1005 L xs sio (d + 2) dt hI   ) ?_
        rintro _ _ ⟨rfl, h45⟩
        refine ⟨rfl, ?_⟩
        rcases h45 with ⟨rfl, h45⟩
        have j51 :  GO (am_XX L xs sio) (d + 4) 156 67 [some (.inr (.inr (some 79))), some (.inr (.inr (some 1005))), some (.inl l24_2), none] [] (SH, dt) (fun r w2 => w2 = (SH, dt) ∧ ((∃ v : Int, r = some (.inl v) ∧ (0 ≤ v ∧ v ≤ 1) ∧ True))) := by
          skip
          refine go_toq PM156 (k := 1) (pc' := 68) (L' := [some (.inr (.inr (some 79))), some (.inr (.inr (some 1005))), some (.inl l24_2), none]) (st' := [.inl l24_2]) (w' := (SH, dt)) rfl ?_
          refine go_retvq PM156 (v := l24_2) rfl (decide_eq_true (show l24_2 = 0 ∨ l24_2 = 1 by omega)) ?_
          exact ⟨rfl, ⟨_, rfl, ⟨by omega, by omega⟩, trivial⟩⟩
        refine go_ifq PM156 (k := 0) (p1 := 67) (p2 := 32) (L' := [some (.inr (.inr (some 79))), some (.inr (.inr (some 1005))), some (.inl l24_2), some (.inl l24_3)]) (st' := []) (w' := (SH, dt)) rfl (c_ge (a := l24_3) (b := 3) (by first | exact bnd i42 (by decide) (by decide) | exact ⟨by fail, by fail⟩) ⟨by decide, by decide⟩) (fun c52 => ?_) (fun c52 => ?_)
        · skip
          exact GO.le (j51 ) ⟨.inl rfl, .inl rfl, .inl rfl, .inr ⟨rfl, trivial⟩, trivial⟩
        · skip
          refine go_ifq PM156 (k := 1) (p1 := 67) (p2 := 36) (L' := [some (.inr (.inr (some 79))), some (.inr (.inr (some 1005))), some (.inl l24_2), some (.inl l24_3)]) (st' := []) (w' := (SH, dt)) rfl (z_eq (a := l24_2) (by first | exact bnd i41 (by decide) (by decide) | exact ⟨by fail, by fail⟩)) (fun c53 => ?_) (fun c53 => ?_)
          · skip
            exact GO.le (j51 ) ⟨.inl rfl, .inl rfl, .inl rfl, .inr ⟨rfl, trivial⟩, trivial⟩
          · skip
            replace c53 := hid c53
            refine go_toq PM156 (k := 6) (pc' := 46) (L' := [some (.inr (.inr (some 79))), some (.inr (.inr (some 1005))), some (.inl l24_2), some (.inl l24_3)]) (st' := [.inl ((dt 79 15) + l24_3), .inr (.inr (some 85))]) (w' := (SH, dt)) rfl ?_
            have r54 : 0 ≤ dt 85 (((dt 79 15) + l24_3).toNat) ∧ dt 85 (((dt 79 15) + l24_3).toNat) ≤ 255 := InvC_get hI 85 (((dt 79 15) + l24_3).toNat) rfl rfl
            refine go_smpq PM156 (L' := [some (.inr (.inr (some 79))), some (.inr (.inr (some 1005))), some (.inl l24_2), some (.inl l24_3)]) (st' := [.inl (dt 85 (((dt 79 15) + l24_3).toNat))]) (w' := (SH, dt)) rfl rfl (s_iald (n := 500) (f := dt 85) rfl ⟨by omega, by (have z0_ := unhid c5; have z1_ := unhid i43; have z2_ := unhid c53; omega)⟩) ?_
            refine go_toq PM156 (k := 2) (pc' := 49) (L' := [some (.inr (.inr (some 79))), some (.inr (.inr (some 1005))), some (.inl l24_2), some (.inl l24_3)]) (st' := [.inl l24_3, .inr (.inr (some 1005)), .inl (dt 85 (((dt 79 15) + l24_3).toNat))]) (w' := (SH, dt)) rfl ?_
            refine go_callq PM156 PM250 (Q' := _) rfl rfl rfl rfl (sp_J0_charAt_5068e_1005 L xs sio (d + 0) dt hI  l24_3 (by first | exact bnd i42 (by decide) (by decide) | exact bndd i42 c52 (by decide) (by decide) | exact ⟨by fail, by fail⟩) ) ?_
            rintro _ _ ⟨rfl, h55⟩
            refine ⟨rfl, ?_⟩
            rcases h55 with ⟨v_h55, rfl, h55r, h55⟩
            refine go_ifq PM156 (k := 0) (p1 := 59) (p2 := 55) (L' := [some (.inr (.inr (some 79))), some (.inr (.inr (some 1005))), some (.inl l24_2), some (.inl l24_3)]) (st' := []) (w' := (SH, dt)) rfl (c_ne (a := dt 85 (((dt 79 15) + l24_3).toNat)) (b := v_h55) (by first | exact bnd r54 (by decide) (by decide) | exact ⟨by fail, by fail⟩) (by first | exact bnd h55r (by decide) (by decide) | exact ⟨by fail, by fail⟩)) (fun c57 => ?_) (fun c57 => ?_)
            · skip
              replace c57 := hid c57
              refine go_toq PM156 (k := 4) (pc' := 24) (L' := [some (.inr (.inr (some 79))), some (.inr (.inr (some 1005))), some (.inl 0), some (.inl (l24_3 + 1))]) (st' := []) (w' := (SH, dt)) rfl ?_
              exact GO.le (ih_loop44 0 (l24_3 + 1) ⟨by decide, by decide⟩ (by first | exact bndp i42 (by decide) (by decide) | exact bnde i42 c52 (by decide) (by decide) | fail) (by omega) (by omega)) ⟨.inl rfl, .inl rfl, .inl rfl, .inl rfl, trivial⟩
            · skip
              refine go_toq PM156 (k := 5) (pc' := 24) (L' := [some (.inr (.inr (some 79))), some (.inr (.inr (some 1005))), some (.inl 1), some (.inl (l24_3 + 1))]) (st' := []) (w' := (SH, dt)) rfl ?_
              exact GO.le (ih_loop44 1 (l24_3 + 1) ⟨by decide, by decide⟩ (by first | exact bndp i42 (by decide) (by decide) | exact bnde i42 c52 (by decide) (by decide) | fail) (by (have z0_ := unhid c5; have z1_ := unhid i43; have z2_ := unhid c53; omega)) (by omega)) ⟨.inl rfl, .inl rfl, .inl rfl, .inl rfl, trivial⟩
    exact GO.le (loop44 _ 0 0 ⟨by decide, by decide⟩ ⟨by decide, by decide⟩ (by omega) (Nat.lt_succ_self _)) ⟨.inl rfl, .inl rfl, .inl rfl, .inl rfl, trivial⟩
  · skip
    refine go_toq PM156 (k := 5) (pc' := 24) (L' := [some (.inr (.inr (some 79))), some (.inr (.inr (some 1005))), some (.inl 1), some (.inl 0)]) (st' := []) (w' := (SH, dt)) rfl ?_
    have loop96 : ∀ (k_ : Nat) (l24_2 : Int) (l24_3 : Int) (i93 : 0 ≤ l24_2 ∧ l24_2 ≤ 1) (i94 : 0 ≤ l24_3 ∧ l24_3 ≤ 3) (i95 : l24_2 = 0 ∨ dt 79 13 - dt 79 15 = 3), (4 - l24_3).toNat < k_ → GO (am_XX L xs sio) (d + 4) 156 24 [some (.inr (.inr (some 79))), some (.inr (.inr (some 1005))), some (.inl l24_2), some (.inl l24_3)] [] (SH, dt) (fun r w2 => w2 = (SH, dt) ∧ ((∃ v : Int, r = some (.inl v) ∧ (0 ≤ v ∧ v ≤ 1) ∧ True))) := by
      intro k_
      induction k_ with
      | zero => intro l24_2 l24_3 i93 i94 i95 hm; exact absurd hm (Nat.not_lt_zero _)
      | succ k_ ih_loop96 =>
        intro l24_2 l24_3 i93 i94 i95 hm
        replace i95 := hid i95
        refine go_toq PM156 (k := 2) (pc' := 26) (L' := [some (.inr (.inr (some 79))), some (.inr (.inr (some 1005))), some (.inl l24_2), some (.inl l24_3)]) (st' := [.inr (.inr (some 1005)), .inl l24_3]) (w' := (SH, dt)) rfl ?_
        refine go_callq PM156 PM249 (Q' := _) rfl rfl rfl rfl (sp_J0_length_8abf5_1005 L xs sio (d + 2) dt hI   ) ?_
        rintro _ _ ⟨rfl, h97⟩
        refine ⟨rfl, ?_⟩
        rcases h97 with ⟨rfl, h97⟩
        have j103 :  GO (am_XX L xs sio) (d + 4) 156 67 [some (.inr (.inr (some 79))), some (.inr (.inr (some 1005))), some (.inl l24_2), none] [] (SH, dt) (fun r w2 => w2 = (SH, dt) ∧ ((∃ v : Int, r = some (.inl v) ∧ (0 ≤ v ∧ v ≤ 1) ∧ True))) := by
          skip
          refine go_toq PM156 (k := 1) (pc' := 68) (L' := [some (.inr (.inr (some 79))), some (.inr (.inr (some 1005))), some (.inl l24_2), none]) (st' := [.inl l24_2]) (w' := (SH, dt)) rfl ?_
          refine go_retvq PM156 (v := l24_2) rfl (decide_eq_true (show l24_2 = 0 ∨ l24_2 = 1 by omega)) ?_
          exact ⟨rfl, ⟨_, rfl, ⟨by omega, by omega⟩, trivial⟩⟩
        refine go_ifq PM156 (k := 0) (p1 := 67) (p2 := 32) (L' := [some (.inr (.inr (some 79))), some (.inr (.inr (some 1005))), some (.inl l24_2), some (.inl l24_3)]) (st' := []) (w' := (SH, dt)) rfl (c_ge (a := l24_3) (b := 3) (by first | exact bnd i94 (by decide) (by decide) | exact ⟨by fail, by fail⟩) ⟨by decide, by decide⟩) (fun c104 => ?_) (fun c104 => ?_)
        · skip
          exact GO.le (j103 ) ⟨.inl rfl, .inl rfl, .inl rfl, .inr ⟨rfl, trivial⟩, trivial⟩
        · skip
          refine go_ifq PM156 (k := 1) (p1 := 67) (p2 := 36) (L' := [some (.inr (.inr (some 79))), some (.inr (.inr (some 1005))), some (.inl l24_2), some (.inl l24_3)]) (st' := []) (w' := (SH, dt)) rfl (z_eq (a := l24_2) (by first | exact bnd i93 (by decide) (by decide) | exact ⟨by fail, by fail⟩)) (fun c105 => ?_) (fun c105 => ?_)
          · skip
            exact GO.le (j103 ) ⟨.inl rfl, .inl rfl, .inl rfl, .inr ⟨rfl, trivial⟩, trivial⟩
          · skip
            replace c105 := hid c105
            refine go_toq PM156 (k := 6) (pc' := 46) (L' := [some (.inr (.inr (some 79))), some (.inr (.inr (some 1005))), some (.inl l24_2), some (.inl l24_3)]) (st' := [.inl ((dt 79 15) + l24_3), .inr (.inr (some 85))]) (w' := (SH, dt)) rfl ?_
            have r106 : 0 ≤ dt 85 (((dt 79 15) + l24_3).toNat) ∧ dt 85 (((dt 79 15) + l24_3).toNat) ≤ 255 := InvC_get hI 85 (((dt 79 15) + l24_3).toNat) rfl rfl
            refine go_smpq PM156 (L' := [some (.inr (.inr (some 79))), some (.inr (.inr (some 1005))), some (.inl l24_2), some (.inl l24_3)]) (st' := [.inl (dt 85 (((dt 79 15) + l24_3).toNat))]) (w' := (SH, dt)) rfl rfl (s_iald (n := 500) (f := dt 85) rfl ⟨by omega, by omega⟩) ?_
            refine go_toq PM156 (k := 2) (pc' := 49) (L' := [some (.inr (.inr (some 79))), some (.inr (.inr (some 1005))), some (.inl l24_2), some (.inl l24_3)]) (st' := [.inl l24_3, .inr (.inr (some 1005)), .inl (dt 85 (((dt 79 15) + l24_3).toNat))]) (w' := (SH, dt)) rfl ?_
            refine go_callq PM156 PM250 (Q' := _) rfl rfl rfl rfl (sp_J0_charAt_5068e_1005 L xs sio (d + 0) dt hI  l24_3 (by first | exact bnd i94 (by decide) (by decide) | exact bndd i94 c104 (by decide) (by decide) | exact ⟨by fail, by fail⟩) ) ?_
            rintro _ _ ⟨rfl, h107⟩
            refine ⟨rfl, ?_⟩
            rcases h107 with ⟨v_h107, rfl, h107r, h107⟩
            refine go_ifq PM156 (k := 0) (p1 := 59) (p2 := 55) (L' := [some (.inr (.inr (some 79))), some (.inr (.inr (some 1005))), some (.inl l24_2), some (.inl l24_3)]) (st' := []) (w' := (SH, dt)) rfl (c_ne (a := dt 85 (((dt 79 15) + l24_3).toNat)) (b := v_h107) (by first | exact bnd r106 (by decide) (by decide) | exact ⟨by fail, by fail⟩) (by first | exact bnd h107r (by decide) (by decide) | exact ⟨by fail, by fail⟩)) (fun c109 => ?_) (fun c109 => ?_)
            · skip
              replace c109 := hid c109
              refine go_toq PM156 (k := 4) (pc' := 24) (L' := [some (.inr (.inr (some 79))), some (.inr (.inr (some 1005))), some (.inl 0), some (.inl (l24_3 + 1))]) (st' := []) (w' := (SH, dt)) rfl ?_
              exact GO.le (ih_loop96 0 (l24_3 + 1) ⟨by decide, by decide⟩ (by first | exact bndp i94 (by decide) (by decide) | exact bnde i94 c104 (by decide) (by decide) | fail) (by omega) (by omega)) ⟨.inl rfl, .inl rfl, .inl rfl, .inl rfl, trivial⟩
            · skip
              refine go_toq PM156 (k := 5) (pc' := 24) (L' := [some (.inr (.inr (some 79))), some (.inr (.inr (some 1005))), some (.inl 1), some (.inl (l24_3 + 1))]) (st' := []) (w' := (SH, dt)) rfl ?_
              exact GO.le (ih_loop96 1 (l24_3 + 1) ⟨by decide, by decide⟩ (by first | exact bndp i94 (by decide) (by decide) | exact bnde i94 c104 (by decide) (by decide) | fail) (by omega) (by omega)) ⟨.inl rfl, .inl rfl, .inl rfl, .inl rfl, trivial⟩
    exact GO.le (loop96 _ 1 0 ⟨by decide, by decide⟩ ⟨by decide, by decide⟩ (by omega) (Nat.lt_succ_self _)) ⟨.inl rfl, .inl rfl, .inl rfl, .inl rfl, trivial⟩
theorem sp_J0_coder_7d493_1006 (L : Nat) (xs : Nat → Int32) (sio : Option Nat) (d : Nat) (dt : Nat → Nat → Int) (hI : InvC dt)    : GO (am_XX L xs sio) (d) 253 0 [some (.inr (.inr (some 1006)))] [] (SH, dt) (fun r w2 => w2 = (SH, dt) ∧ ((r = some (.inl 0) ∧ True))) := by
  refine go_retq PM253 (k := 5) (r := some (.inl 0)) (w1 := (SH, dt)) rfl ?_
  exact ⟨rfl, ⟨rfl, trivial⟩⟩
theorem sp_J0_length_8abf5_1006 (L : Nat) (xs : Nat → Int32) (sio : Option Nat) (d : Nat) (dt : Nat → Nat → Int) (hI : InvC dt)    : GO (am_XX L xs sio) (d + 1) 249 0 [some (.inr (.inr (some 1006)))] [] (SH, dt) (fun r w2 => w2 = (SH, dt) ∧ ((r = some (.inl 4) ∧ True))) := by
  refine go_toq PM249 (k := 4) (pc' := 6) (L' := [some (.inr (.inr (some 1006)))]) (st' := [.inr (.inr (some 1006)), .inl 4]) (w' := (SH, dt)) rfl ?_
  refine go_callq PM249 PM253 (Q' := _) rfl rfl rfl rfl (sp_J0_coder_7d493_1006 L xs sio (d + 0) dt hI   ) ?_
  rintro _ _ ⟨rfl, h1⟩
  refine ⟨rfl, ?_⟩
  rcases h1 with ⟨rfl, h1⟩
  refine go_smpq PM249 (L' := [some (.inr (.inr (some 1006)))]) (st' := [.inl 4]) (w' := (SH, dt)) rfl rfl (s_bshr (v := 4) (by decide)) ?_
  refine go_retq PM249 (k := 0) (r := some (.inl 4)) (w1 := (SH, dt)) rfl ?_
  exact ⟨rfl, ⟨rfl, trivial⟩⟩
theorem sp_J0_isLatin1_aae02_1006 (L : Nat) (xs : Nat → Int32) (sio : Option Nat) (d : Nat) (dt : Nat → Nat → Int) (hI : InvC dt)    : GO (am_XX L xs sio) (d) 254 0 [some (.inr (.inr (some 1006)))] [] (SH, dt) (fun r w2 => w2 = (SH, dt) ∧ ((r = some (.inl 1) ∧ True))) := by
  refine go_retq PM254 (k := 7) (r := some (.inl 1)) (w1 := (SH, dt)) rfl ?_
  exact ⟨rfl, ⟨rfl, trivial⟩⟩
theorem sp_J1_charAt_3b067_1006 (L : Nat) (xs : Nat → Int32) (sio : Option Nat) (d : Nat) (dt : Nat → Nat → Int) (hI : InvC dt)  (p2 : Int) (h_p2 : 0 ≤ p2 ∧ p2 ≤ 3)  : GO (am_XX L xs sio) (d + 2) 256 0 [some (.inr (.inr (some 2006))), some (.inl p2)] [] (SH, dt) (fun r w2 => w2 = (SH, dt) ∧ ((∃ v : Int, r = some (.inl v) ∧ (0 ≤ v ∧ v ≤ 65535) ∧ True))) := by
  refine go_toq PM256 (k := 3) (pc' := 3) (L' := [some (.inr (.inr (some 2006))), some (.inl p2)]) (st' := [.inl 4, .inl p2]) (w' := (SH, dt)) rfl ?_
  refine go_callq PM256 PM255 (Q' := _) rfl rfl rfl rfl (sp_J0_checkIndex_df160 L xs sio (d + 0) dt hI  p2 (by first | exact h_p2 | exact bnd h_p2 (by decide) (by decide) | exact ⟨by fail, by fail⟩) 4 ⟨by decide, by decide⟩ (by first | exact True.intro | with_reducible assumption | rfl | omega | trivial)) ?_
  rintro _ _ ⟨rfl, h1⟩
  refine ⟨rfl, ?_⟩
  rcases h1 with ⟨rfl, h1⟩
  refine go_toq PM256 (k := 2) (pc' := 8) (L' := [some (.inr (.inr (some 2006))), some (.inl p2)]) (st' := [.inl p2, .inr (.inr (some 2006))]) (w' := (SH, dt)) rfl ?_
  have r2 := sby_R 6 (p2).toNat
  refine go_smpq PM256 (L' := [some (.inr (.inr (some 2006))), some (.inl p2)]) (st' := [.inl ((am_Sby.getD 6 []).getD (p2).toNat 0)]) (w' := (SH, dt)) rfl rfl (s_bald (n := 4) (f := fun q => (am_Sby.getD 6 []).getD q 0) rfl (by first | exact bndx h_p2 (by decide) (by decide) | exact ⟨by fail, by fail⟩)) ?_
  have r3 : 0 ≤ am_and ((am_Sby.getD 6 []).getD (p2).toNat 0) 255 ∧ am_and ((am_Sby.getD 6 []).getD (p2).toNat 0) 255 ≤ 255 := and_R255
  have r4 := i2c_R (am_and ((am_Sby.getD 6 []).getD (p2).toNat 0) 255)
  refine go_toq PM256 (k := 3) (pc' := 14) (L' := [some (.inr (.inr (some 2006))), some (.inl p2)]) (st' := [.inl (am_i2c (am_and ((am_Sby.getD 6 []).getD (p2).toNat 0) 255))]) (w' := (SH, dt)) rfl ?_
  refine go_retvq PM256 (v := am_i2c (am_and ((am_Sby.getD 6 []).getD (p2).toNat 0) 255)) rfl (decide_eq_true (show 0 ≤ am_i2c (am_and ((am_Sby.getD 6 []).getD (p2).toNat 0) 255) ∧ am_i2c (am_and ((am_Sby.getD 6 []).getD (p2).toNat 0) 255) < 65536 by omega)) ?_
  exact ⟨rfl, ⟨_, rfl, ⟨by omega, by omega⟩, trivial⟩⟩
theorem sp_J0_charAt_5068e_1006 (L : Nat) (xs : Nat → Int32) (sio : Option Nat) (d : Nat) (dt : Nat → Nat → Int) (hI : InvC dt)  (p1 : Int) (h_p1 : 0 ≤ p1 ∧ p1 ≤ 3)  : GO (am_XX L xs sio) (d + 3) 250 0 [some (.inr (.inr (some 1006))), some (.inl p1)] [] (SH, dt) (fun r w2 => w2 = (SH, dt) ∧ ((∃ v : Int, r = some (.inl v) ∧ (0 ≤ v ∧ v ≤ 65535) ∧ True))) := by
  refine go_toq PM250 (k := 1) (pc' := 1) (L' := [some (.inr (.inr (some 1006))), some (.inl p1)]) (st' := [.inr (.inr (some 1006))]) (w' := (SH, dt)) rfl ?_
  refine go_callq PM250 PM254 (Q' := _) rfl rfl rfl rfl (sp_J0_isLatin1_aae02_1006 L xs sio (d + 2) dt hI   ) ?_
  rintro _ _ ⟨rfl, h1⟩
  refine ⟨rfl, ?_⟩
  rcases h1 with ⟨rfl, h1⟩
  refine go_toq PM250 (k := 4) (pc' := 12) (L' := [some (.inr (.inr (some 1006))), some (.inl p1)]) (st' := [.inl p1, .inr (.inr (some 2006))]) (w' := (SH, dt)) rfl ?_
  refine go_callq PM250 PM256 (Q' := _) rfl rfl rfl rfl (sp_J1_charAt_3b067_1006 L xs sio (d + 0) dt hI  p1 (by first | exact h_p1 | exact bnd h_p1 (by decide) (by decide) | exact ⟨by fail, by fail⟩) ) ?_
  rintro _ _ ⟨rfl, h2⟩
  refine ⟨rfl, ?_⟩
  rcases h2 with ⟨v_h2, rfl, h2r, h2⟩
  refine go_retvq PM250 (v := v_h2) rfl (decide_eq_true (show 0 ≤ v_h2 ∧ v_h2 < 65536 by omega)) ?_
  exact ⟨rfl, ⟨_, rfl, ⟨by omega, by omega⟩, trivial⟩⟩
set_option maxRecDepth 20000 in
theorem sp_X6_is_1006 (L : Nat) (xs : Nat → Int32) (sio : Option Nat) (d : Nat) (dt : Nat → Nat → Int) (hI : InvC dt)   (h_p0 : dt 79 13 ≤ 500) : GO (am_XX L xs sio) (d + 4) 156 0 [some (.inr (.inr (some 79))), some (.inr (.inr (some 1006))), none, none] [] (SH, dt) (fun r w2 => w2 = (SH, dt) ∧ ((∃ v : Int, r = some (.inl v) ∧ (0 ≤ v ∧ v ≤ 1) ∧ True))) := by
  have r1 : 0 ≤ dt 79 13 ∧ dt 79 13 ≤ 501 := InvC_get hI 79 13 rfl rfl
  have r2 : 0 ≤ dt 79 15 ∧ dt 79 15 ≤ 500 := InvC_get hI 79 15 rfl rfl
  refine go_toq PM156 (k := 6) (pc' := 10) (L' := [some (.inr (.inr (some 79))), some (.inr (.inr (some 1006))), none, none]) (st' := [.inr (.inr (some 1006)), .inl ((dt 79 13) - (dt 79 15))]) (w' := (SH, dt)) rfl ?_
  refine go_callq PM156 PM249 (Q' := _) rfl rfl rfl rfl (sp_J0_length_8abf5_1006 L xs sio (d + 2) dt hI   ) ?_
  rintro _ _ ⟨rfl, h3⟩
  refine ⟨rfl, ?_⟩
  rcases h3 with ⟨rfl, h3⟩
  refine go_ifq PM156 (k := 0) (p1 := 20) (p2 := 16) (L' := [some (.inr (.inr (some 79))), some (.inr (.inr (some 1006))), none, none]) (st' := []) (w' := (SH, dt)) rfl (c_ne (a := (dt 79 13) - (dt 79 15)) (b := 4) ⟨by omega, by omega⟩ ⟨by decide, by decide⟩) (fun c5 => ?_) (fun c5 => ?_)
  · skip
    replace c5 := hid c5
    refine go_toq PM156 (k := 4) (pc' := 24) (L' := [some (.inr (.inr (some 79))), some (.inr (.inr (some 1006))), some (.inl 0), some (.inl 0)]) (st' := []) (w' := (SH, dt)) rfl ?_
    have loop44 : ∀ (k_ : Nat) (l24_2 : Int) (l24_3 : Int) (i41 : 0 ≤ l24_2 ∧ l24_2 ≤ 1) (i42 : 0 ≤ l24_3 ∧ l24_3 ≤ 4) (i43 : l24_2 = 0 ∨ dt 79 13 - dt 79 15 = 4), (5 - l24_3).toNat < k_ → GO (am_XX L xs sio) (d + 4) 156 24 [some (.inr (.inr (some 79))), some (.inr (.inr (some 1006))), some (.inl l24_2), some (.inl l24_3)] [] (SH, dt) (fun r w2 => w2 = (SH, dt) ∧ ((∃ v : Int, r = some (.inl v) ∧ (0 ≤ v ∧ v ≤ 1) ∧ True))) := by
      intro k_
      induction k_ with
      | zero => intro l24_2 l24_3 i41 i42 i43 hm; exact absurd hm (Nat.not_lt_zero _)
      | succ k_ ih_loop44 =>
        intro l24_2 l24_3 i41 i42 i43 hm
        replace i43 := hid i43
        refine go_toq PM156 (k := 2) (pc' := 26) (L' := [some (.inr (.inr (some 79))), some (.inr (.inr (some 1006))), some (.inl l24_2), some (.inl l24_3)]) (st' := [.inr (.inr (some 1006)), .inl l24_3]) (w' := (SH, dt)) rfl ?_
        refine go_callq PM156 PM249 (Q' := _) rfl rfl rfl rfl (sp_J0_length_8abf5_1006 L xs sio (d + 2) dt hI   ) ?_
        rintro _ _ ⟨rfl, h45⟩
        refine ⟨rfl, ?_⟩
        rcases h45 with ⟨rfl, h45⟩
        have j51 :  GO (am_XX L xs sio) (d + 4) 156 67 [some (.inr (.inr (some 79))), some (.inr (.inr (some 1006))), some (.inl l24_2), none] [] (SH, dt) (fun r w2 => w2 = (SH, dt) ∧ ((∃ v : Int, r = some (.inl v) ∧ (0 ≤ v ∧ v ≤ 1) ∧ True))) := by
          skip
          refine go_toq PM156 (k := 1) (pc' := 68) (L' := [some (.inr (.inr (some 79))), some (.inr (.inr (some 1006))), some (.inl l24_2), none]) (st' := [.inl l24_2]) (w' := (SH, dt)) rfl ?_
          refine go_retvq PM156 (v := l24_2) rfl (decide_eq_true (show l24_2 = 0 ∨ l24_2 = 1 by omega)) ?_
          exact ⟨rfl, ⟨_, rfl, ⟨by omega, by omega⟩, trivial⟩⟩
        refine go_ifq PM156 (k := 0) (p1 := 67) (p2 := 32) (L' := [some (.inr (.inr (some 79))), some (.inr (.inr (some 1006))), some (.inl l24_2), some (.inl l24_3)]) (st' := []) (w' := (SH, dt)) rfl (c_ge (a := l24_3) (b := 4) (by first | exact bnd i42 (by decide) (by decide) | exact ⟨by fail, by fail⟩) ⟨by decide, by decide⟩) (fun c52 => ?_) (fun c52 => ?_)
        · skip
          exact GO.le (j51 ) ⟨.inl rfl, .inl rfl, .inl rfl, .inr ⟨rfl, trivial⟩, trivial⟩
        · skip
          refine go_ifq PM156 (k := 1) (p1 := 67) (p2 := 36) (L' := [some (.inr (.inr (some 79))), some (.inr (.inr (some 1006))), some (.inl l24_2), some (.inl l24_3)]) (st' := []) (w' := (SH, dt)) rfl (z_eq (a := l24_2) (by first | exact bnd i41 (by decide) (by decide) | exact ⟨by fail, by fail⟩)) (fun c53 => ?_) (fun c53 => ?_)
          · skip
            exact GO.le (j51 ) ⟨.inl rfl, .inl rfl, .inl rfl, .inr ⟨rfl, trivial⟩, trivial⟩
          · skip
            replace c53 := hid c53
            refine go_toq PM156 (k := 6) (pc' := 46) (L' := [some (.inr (.inr (some 79))), some (.inr (.inr (some 1006))), some (.inl l24_2), some (.inl l24_3)]) (st' := [.inl ((dt 79 15) + l24_3), .inr (.inr (some 85))]) (w' := (SH, dt)) rfl ?_
            have r54 : 0 ≤ dt 85 (((dt 79 15) + l24_3).toNat) ∧ dt 85 (((dt 79 15) + l24_3).toNat) ≤ 255 := InvC_get hI 85 (((dt 79 15) + l24_3).toNat) rfl rfl
            refine go_smpq PM156 (L' := [some (.inr (.inr (some 79))), some (.inr (.inr (some 1006))), some (.inl l24_2), some (.inl l24_3)]) (st' := [.inl (dt 85 (((dt 79 15) + l24_3).toNat))]) (w' := (SH, dt)) rfl rfl (s_iald (n := 500) (f := dt 85) rfl ⟨by omega, by (have z0_ := unhid c5; have z1_ := unhid i43; have z2_ := unhid c53; omega)⟩) ?_
            refine go_toq PM156 (k := 2) (pc' := 49) (L' := [some (.inr (.inr (some 79))), some (.inr (.inr (some 1006))), some (.inl l24_2), some (.inl l24_3)]) (st' := [.inl l24_3, .inr (.inr (some 1006)), .inl (dt 85 (((dt 79 15) + l24_3).toNat))]) (w' := (SH, dt)) rfl ?_
            refine go_callq PM156 PM250 (Q' := _) rfl rfl rfl rfl (sp_J0_charAt_5068e_1006 L xs sio (d + 0) dt hI  l24_3 (by first | exact bnd i42 (by decide) (by decide) | exact bndd i42 c52 (by decide) (by decide) | exact ⟨by fail, by fail⟩) ) ?_
            rintro _ _ ⟨rfl, h55⟩
            refine ⟨rfl, ?_⟩
            rcases h55 with ⟨v_h55, rfl, h55r, h55⟩
            refine go_ifq PM156 (k := 0) (p1 := 59) (p2 := 55) (L' := [some (.inr (.inr (some 79))), some (.inr (.inr (some 1006))), some (.inl l24_2), some (.inl l24_3)]) (st' := []) (w' := (SH, dt)) rfl (c_ne (a := dt 85 (((dt 79 15) + l24_3).toNat)) (b := v_h55) (by first | exact bnd r54 (by decide) (by decide) | exact ⟨by fail, by fail⟩) (by first | exact bnd h55r (by decide) (by decide) | exact ⟨by fail, by fail⟩)) (fun c57 => ?_) (fun c57 => ?_)
            · skip
              replace c57 := hid c57
              refine go_toq PM156 (k := 4) (pc' := 24) (L' := [some (.inr (.inr (some 79))), some (.inr (.inr (some 1006))), some (.inl 0), some (.inl (l24_3 + 1))]) (st' := []) (w' := (SH, dt)) rfl ?_
              exact GO.le (ih_loop44 0 (l24_3 + 1) ⟨by decide, by decide⟩ (by first | exact bndp i42 (by decide) (by decide) | exact bnde i42 c52 (by decide) (by decide) | fail) (by omega) (by omega)) ⟨.inl rfl, .inl rfl, .inl rfl, .inl rfl, trivial⟩
            · skip
              refine go_toq PM156 (k := 5) (pc' := 24) (L' := [some (.inr (.inr (some 79))), some (.inr (.inr (some 1006))), some (.inl 1), some (.inl (l24_3 + 1))]) (st' := []) (w' := (SH, dt)) rfl ?_
              exact GO.le (ih_loop44 1 (l24_3 + 1) ⟨by decide, by decide⟩ (by first | exact bndp i42 (by decide) (by decide) | exact bnde i42 c52 (by decide) (by decide) | fail) (by (have z0_ := unhid c5; have z1_ := unhid i43; have z2_ := unhid c53; omega)) (by omega)) ⟨.inl rfl, .inl rfl, .inl rfl, .inl rfl, trivial⟩
    exact GO.le (loop44 _ 0 0 ⟨by decide, by decide⟩ ⟨by decide, by decide⟩ (by omega) (Nat.lt_succ_self _)) ⟨.inl rfl, .inl rfl, .inl rfl, .inl rfl, trivial⟩
  · skip
    refine go_toq PM156 (k := 5) (pc' := 24) (L' := [some (.inr (.inr (some 79))), some (.inr (.inr (some 1006))), some (.inl 1), some (.inl 0)]) (st' := []) (w' := (SH, dt)) rfl ?_
    have loop96 : ∀ (k_ : Nat) (l24_2 : Int) (l24_3 : Int) (i93 : 0 ≤ l24_2 ∧ l24_2 ≤ 1) (i94 : 0 ≤ l24_3 ∧ l24_3 ≤ 4) (i95 : l24_2 = 0 ∨ dt 79 13 - dt 79 15 = 4), (5 - l24_3).toNat < k_ → GO (am_XX L xs sio) (d + 4) 156 24 [some (.inr (.inr (some 79))), some (.inr (.inr (some 1006))), some (.inl l24_2), some (.inl l24_3)] [] (SH, dt) (fun r w2 => w2 = (SH, dt) ∧ ((∃ v : Int, r = some (.inl v) ∧ (0 ≤ v ∧ v ≤ 1) ∧ True))) := by
      intro k_
      induction k_ with
      | zero => intro l24_2 l24_3 i93 i94 i95 hm; exact absurd hm (Nat.not_lt_zero _)
      | succ k_ ih_loop96 =>
        intro l24_2 l24_3 i93 i94 i95 hm
        replace i95 := hid i95
        refine go_toq PM156 (k := 2) (pc' := 26) (L' := [some (.inr (.inr (some 79))), some (.inr (.inr (some 1006))), some (.inl l24_2), some (.inl l24_3)]) (st' := [.inr (.inr (some 1006)), .inl l24_3]) (w' := (SH, dt)) rfl ?_
        refine go_callq PM156 PM249 (Q' := _) rfl rfl rfl rfl (sp_J0_length_8abf5_1006 L xs sio (d + 2) dt hI   ) ?_
        rintro _ _ ⟨rfl, h97⟩
        refine ⟨rfl, ?_⟩
        rcases h97 with ⟨rfl, h97⟩
        have j103 :  GO (am_XX L xs sio) (d + 4) 156 67 [some (.inr (.inr (some 79))), some (.inr (.inr (some 1006))), some (.inl l24_2), none] [] (SH, dt) (fun r w2 => w2 = (SH, dt) ∧ ((∃ v : Int, r = some (.inl v) ∧ (0 ≤ v ∧ v ≤ 1) ∧ True))) := by
          skip
          refine go_toq PM156 (k := 1) (pc' := 68) (L' := [some (.inr (.inr (some 79))), some (.inr (.inr (some 1006))), some (.inl l24_2), none]) (st' := [.inl l24_2]) (w' := (SH, dt)) rfl ?_
          refine go_retvq PM156 (v := l24_2) rfl (decide_eq_true (show l24_2 = 0 ∨ l24_2 = 1 by omega)) ?_
          exact ⟨rfl, ⟨_, rfl, ⟨by omega, by omega⟩, trivial⟩⟩
        refine go_ifq PM156 (k := 0) (p1 := 67) (p2 := 32) (L' := [some (.inr (.inr (some 79))), some (.inr (.inr (some 1006))), some (.inl l24_2), some (.inl l24_3)]) (st' := []) (w' := (SH, dt)) rfl (c_ge (a := l24_3) (b := 4) (by first | exact bnd i94 (by decide) (by decide) | exact ⟨by fail, by fail⟩) ⟨by decide, by decide⟩) (fun c104 => ?_) (fun c104 => ?_)
        · skip
          exact GO.le (j103 ) ⟨.inl rfl, .inl rfl, .inl rfl, .inr ⟨rfl, trivial⟩, trivial⟩
        · skip
          refine go_ifq PM156 (k := 1) (p1 := 67) (p2 := 36) (L' := [some (.inr (.inr (some 79))), some (.inr (.inr (some 1006))), some (.inl l24_2), some (.inl l24_3)]) (st' := []) (w' := (SH, dt)) rfl (z_eq (a := l24_2) (by first | exact bnd i93 (by decide) (by decide) | exact ⟨by fail, by fail⟩)) (fun c105 => ?_) (fun c105 => ?_)
          · skip
            exact GO.le (j103 ) ⟨.inl rfl, .inl rfl, .inl rfl, .inr ⟨rfl, trivial⟩, trivial⟩
          · skip
            replace c105 := hid c105
            refine go_toq PM156 (k := 6) (pc' := 46) (L' := [some (.inr (.inr (some 79))), some (.inr (.inr (some 1006))), some (.inl l24_2), some (.inl l24_3)]) (st' := [.inl ((dt 79 15) + l24_3), .inr (.inr (some 85))]) (w' := (SH, dt)) rfl ?_
            have r106 : 0 ≤ dt 85 (((dt 79 15) + l24_3).toNat) ∧ dt 85 (((dt 79 15) + l24_3).toNat) ≤ 255 := InvC_get hI 85 (((dt 79 15) + l24_3).toNat) rfl rfl
            refine go_smpq PM156 (L' := [some (.inr (.inr (some 79))), some (.inr (.inr (some 1006))), some (.inl l24_2), some (.inl l24_3)]) (st' := [.inl (dt 85 (((dt 79 15) + l24_3).toNat))]) (w' := (SH, dt)) rfl rfl (s_iald (n := 500) (f := dt 85) rfl ⟨by omega, by omega⟩) ?_
            refine go_toq PM156 (k := 2) (pc' := 49) (L' := [some (.inr (.inr (some 79))), some (.inr (.inr (some 1006))), some (.inl l24_2), some (.inl l24_3)]) (st' := [.inl l24_3, .inr (.inr (some 1006)), .inl (dt 85 (((dt 79 15) + l24_3).toNat))]) (w' := (SH, dt)) rfl ?_
            refine go_callq PM156 PM250 (Q' := _) rfl rfl rfl rfl (sp_J0_charAt_5068e_1006 L xs sio (d + 0) dt hI  l24_3 (by first | exact bnd i94 (by decide) (by decide) | exact bndd i94 c104 (by decide) (by decide) | exact ⟨by fail, by fail⟩) ) ?_
            rintro _ _ ⟨rfl, h107⟩
            refine ⟨rfl, ?_⟩
            rcases h107 with ⟨v_h107, rfl, h107r, h107⟩
            refine go_ifq PM156 (k := 0) (p1 := 59) (p2 := 55) (L' := [some (.inr (.inr (some 79))), some (.inr (.inr (some 1006))), some (.inl l24_2), some (.inl l24_3)]) (st' := []) (w' := (SH, dt)) rfl (c_ne (a := dt 85 (((dt 79 15) + l24_3).toNat)) (b := v_h107) (by first | exact bnd r106 (by decide) (by decide) | exact ⟨by fail, by fail⟩) (by first | exact bnd h107r (by decide) (by decide) | exact ⟨by fail, by fail⟩)) (fun c109 => ?_) (fun c109 => ?_)
            · skip
              replace c109 := hid c109
              refine go_toq PM156 (k := 4) (pc' := 24) (L' := [some (.inr (.inr (some 79))), some (.inr (.inr (some 1006))), some (.inl 0), some (.inl (l24_3 + 1))]) (st' := []) (w' := (SH, dt)) rfl ?_
              exact GO.le (ih_loop96 0 (l24_3 + 1) ⟨by decide, by decide⟩ (by first | exact bndp i94 (by decide) (by decide) | exact bnde i94 c104 (by decide) (by decide) | fail) (by omega) (by omega)) ⟨.inl rfl, .inl rfl, .inl rfl, .inl rfl, trivial⟩
            · skip
              refine go_toq PM156 (k := 5) (pc' := 24) (L' := [some (.inr (.inr (some 79))), some (.inr (.inr (some 1006))), some (.inl 1), some (.inl (l24_3 + 1))]) (st' := []) (w' := (SH, dt)) rfl ?_
              exact GO.le (ih_loop96 1 (l24_3 + 1) ⟨by decide, by decide⟩ (by first | exact bndp i94 (by decide) (by decide) | exact bnde i94 c104 (by decide) (by decide) | fail) (by omega) (by omega)) ⟨.inl rfl, .inl rfl, .inl rfl, .inl rfl, trivial⟩
    exact GO.le (loop96 _ 1 0 ⟨by decide, by decide⟩ ⟨by decide, by decide⟩ (by omega) (Nat.lt_succ_self _)) ⟨.inl rfl, .inl rfl, .inl rfl, .inl rfl, trivial⟩
theorem sp_J0_coder_7d493_1007 (L : Nat) (xs : Nat → Int32) (sio : Option Nat) (d : Nat) (dt : Nat → Nat → Int) (hI : InvC dt)    : GO (am_XX L xs sio) (d) 253 0 [some (.inr (.inr (some 1007)))] [] (SH, dt) (fun r w2 => w2 = (SH, dt) ∧ ((r = some (.inl 0) ∧ True))) := by
  refine go_retq PM253 (k := 5) (r := some (.inl 0)) (w1 := (SH, dt)) rfl ?_
  exact ⟨rfl, ⟨rfl, trivial⟩⟩
theorem sp_J0_length_8abf5_1007 (L : Nat) (xs : Nat → Int32) (sio : Option Nat) (d : Nat) (dt : Nat → Nat → Int) (hI : InvC dt)    : GO (am_XX L xs sio) (d + 1) 249 0 [some (.inr (.inr (some 1007)))] [] (SH, dt) (fun r w2 => w2 = (SH, dt) ∧ ((r = some (.inl 4) ∧ True))) := by
  refine go_toq PM249 (k := 4) (pc' := 6) (L' := [some (.inr (.inr (some 1007)))]) (st' := [.inr (.inr (some 1007)), .inl 4]) (w' := (SH, dt)) rfl ?_
  refine go_callq PM249 PM253 (Q' := _) rfl rfl rfl rfl (sp_J0_coder_7d493_1007 L xs sio (d + 0) dt hI   ) ?_
  rintro _ _ ⟨rfl, h1⟩
  refine ⟨rfl, ?_⟩
  rcases h1 with ⟨rfl, h1⟩
  refine go_smpq PM249 (L' := [some (.inr (.inr (some 1007)))]) (st' := [.inl 4]) (w' := (SH, dt)) rfl rfl (s_bshr (v := 4) (by decide)) ?_
  refine go_retq PM249 (k := 0) (r := some (.inl 4)) (w1 := (SH, dt)) rfl ?_
  exact ⟨rfl, ⟨rfl, trivial⟩⟩
theorem sp_J0_isLatin1_aae02_1007 (L : Nat) (xs : Nat → Int32) (sio : Option Nat) (d : Nat) (dt : Nat → Nat → Int) (hI : InvC dt)    : GO (am_XX L xs sio) (d) 254 0 [some (.inr (.inr (some 1007)))] [] (SH, dt) (fun r w2 => w2 = (SH, dt) ∧ ((r = some (.inl 1) ∧ True))) := by
  refine go_retq PM254 (k := 7) (r := some (.inl 1)) (w1 := (SH, dt)) rfl ?_
  exact ⟨rfl, ⟨rfl, trivial⟩⟩
theorem sp_J1_charAt_3b067_1007 (L : Nat) (xs : Nat → Int32) (sio : Option Nat) (d : Nat) (dt : Nat → Nat → Int) (hI : InvC dt)  (p2 : Int) (h_p2 : 0 ≤ p2 ∧ p2 ≤ 3)  : GO (am_XX L xs sio) (d + 2) 256 0 [some (.inr (.inr (some 2007))), some (.inl p2)] [] (SH, dt) (fun r w2 => w2 = (SH, dt) ∧ ((∃ v : Int, r = some (.inl v) ∧ (0 ≤ v ∧ v ≤ 65535) ∧ True))) := by
  refine go_toq PM256 (k := 3) (pc' := 3) (L' := [some (.inr (.inr (some 2007))), some (.inl p2)]) (st' := [.inl 4, .inl p2]) (w' := (SH, dt)) rfl ?_
  refine go_callq PM256 PM255 (Q' := _) rfl rfl rfl rfl (sp_J0_checkIndex_df160 L xs sio (d + 0) dt hI  p2 (by first | exact h_p2 | exact bnd h_p2 (by decide) (by decide) | exact ⟨by fail, by fail⟩) 4 ⟨by decide, by decide⟩ (by first | exact True.intro | with_reducible assumption | rfl | omega | trivial)) ?_
  rintro _ _ ⟨rfl, h1⟩
  refine ⟨rfl, ?_⟩
  rcases h1 with ⟨rfl, h1⟩
  refine go_toq PM256 (k := 2) (pc' := 8) (L' := [some (.inr (.inr (some 2007))), some (.inl p2)]) (st' := [.inl p2, .inr (.inr (some 2007))]) (w' := (SH, dt)) rfl ?_
  have r2 := sby_R 7 (p2).toNat
  refine go_smpq PM256 (L' := [some (.inr (.inr (some 2007))), some (.inl p2)]) (st' := [.inl ((am_Sby.getD 7 []).getD (p2).toNat 0)]) (w' := (SH, dt)) rfl rfl (s_bald (n := 4) (f := fun q => (am_Sby.getD 7 []).getD q 0) rfl (by first | exact bndx h_p2 (by decide) (by decide) | exact ⟨by fail, by fail⟩)) ?_
  have r3 : 0 ≤ am_and ((am_Sby.getD 7 []).getD (p2).toNat 0) 255 ∧ am_and ((am_Sby.getD 7 []).getD (p2).toNat 0) 255 ≤ 255 := and_R255
  have r4 := i2c_R (am_and ((am_Sby.getD 7 []).getD (p2).toNat 0) 255)
  refine go_toq PM256 (k := 3) (pc' := 14) (L' := [some (.inr (.inr (some 2007))), some (.inl p2)]) (st' := [.inl (am_i2c (am_and ((am_Sby.getD 7 []).getD (p2).toNat 0) 255))]) (w' := (SH, dt)) rfl ?_
  refine go_retvq PM256 (v := am_i2c (am_and ((am_Sby.getD 7 []).getD (p2).toNat 0) 255)) rfl (decide_eq_true (show 0 ≤ am_i2c (am_and ((am_Sby.getD 7 []).getD (p2).toNat 0) 255) ∧ am_i2c (am_and ((am_Sby.getD 7 []).getD (p2).toNat 0) 255) < 65536 by omega)) ?_
  exact ⟨rfl, ⟨_, rfl, ⟨by omega, by omega⟩, trivial⟩⟩
theorem sp_J0_charAt_5068e_1007 (L : Nat) (xs : Nat → Int32) (sio : Option Nat) (d : Nat) (dt : Nat → Nat → Int) (hI : InvC dt)  (p1 : Int) (h_p1 : 0 ≤ p1 ∧ p1 ≤ 3)  : GO (am_XX L xs sio) (d + 3) 250 0 [some (.inr (.inr (some 1007))), some (.inl p1)] [] (SH, dt) (fun r w2 => w2 = (SH, dt) ∧ ((∃ v : Int, r = some (.inl v) ∧ (0 ≤ v ∧ v ≤ 65535) ∧ True))) := by
  refine go_toq PM250 (k := 1) (pc' := 1) (L' := [some (.inr (.inr (some 1007))), some (.inl p1)]) (st' := [.inr (.inr (some 1007))]) (w' := (SH, dt)) rfl ?_
  refine go_callq PM250 PM254 (Q' := _) rfl rfl rfl rfl (sp_J0_isLatin1_aae02_1007 L xs sio (d + 2) dt hI   ) ?_
  rintro _ _ ⟨rfl, h1⟩
  refine ⟨rfl, ?_⟩
  rcases h1 with ⟨rfl, h1⟩
  refine go_toq PM250 (k := 4) (pc' := 12) (L' := [some (.inr (.inr (some 1007))), some (.inl p1)]) (st' := [.inl p1, .inr (.inr (some 2007))]) (w' := (SH, dt)) rfl ?_
  refine go_callq PM250 PM256 (Q' := _) rfl rfl rfl rfl (sp_J1_charAt_3b067_1007 L xs sio (d + 0) dt hI  p1 (by first | exact h_p1 | exact bnd h_p1 (by decide) (by decide) | exact ⟨by fail, by fail⟩) ) ?_
  rintro _ _ ⟨rfl, h2⟩
  refine ⟨rfl, ?_⟩
  rcases h2 with ⟨v_h2, rfl, h2r, h2⟩
  refine go_retvq PM250 (v := v_h2) rfl (decide_eq_true (show 0 ≤ v_h2 ∧ v_h2 < 65536 by omega)) ?_
  exact ⟨rfl, ⟨_, rfl, ⟨by omega, by omega⟩, trivial⟩⟩
set_option maxRecDepth 20000 in
theorem sp_X6_is_1007 (L : Nat) (xs : Nat → Int32) (sio : Option Nat) (d : Nat) (dt : Nat → Nat → Int) (hI : InvC dt)   (h_p0 : dt 79 13 ≤ 500) : GO (am_XX L xs sio) (d + 4) 156 0 [some (.inr (.inr (some 79))), some (.inr (.inr (some 1007))), none, none] [] (SH, dt) (fun r w2 => w2 = (SH, dt) ∧ ((∃ v : Int, r = some (.inl v) ∧ (0 ≤ v ∧ v ≤ 1) ∧ True))) := by
  have r1 : 0 ≤ dt 79 13 ∧ dt 79 13 ≤ 501 := InvC_get hI 79 13 rfl rfl
  have r2 : 0 ≤ dt 79 15 ∧ dt 79 15 ≤ 500 := InvC_get hI 79 15 rfl rfl
  refine go_toq PM156 (k := 6) (pc' := 10) (L' := [some (.inr (.inr (some 79))), some (.inr (.inr (some 1007))), none, none]) (st' := [.inr (.inr (some 1007)), .inl ((dt 79 13) - (dt 79 15))]) (w' := (SH, dt)) rfl ?_
  refine go_callq PM156 PM249 (Q' := _) rfl rfl rfl rfl (sp_J0_length_8abf5_1007 L xs sio (d + 2) dt hI   ) ?_
  rintro _ _ ⟨rfl, h3⟩
  refine ⟨rfl, ?_⟩
  rcases h3 with ⟨rfl, h3⟩
  refine go_ifq PM156 (k := 0) (p1 := 20) (p2 := 16) (L' := [some (.inr (.inr (some 79))), some (.inr (.inr (some 1007))), none, none]) (st' := []) (w' := (SH, dt)) rfl (c_ne (a := (dt 79 13) - (dt 79 15)) (b := 4) ⟨by omega, by omega⟩ ⟨by decide, by decide⟩) (fun c5 => ?_) (fun c5 => ?_)
  · skip
    replace c5 := hid c5
    refine go_toq PM156 (k := 4) (pc' := 24) (L' := [some (.inr (.inr (some 79))), some (.inr (.inr (some 1007))), some (.inl 0), some (.inl 0)]) (st' := []) (w' := (SH, dt)) rfl ?_
    have loop44 : ∀ (k_ : Nat) (l24_2 : Int) (l24_3 : Int) (i41 : 0 ≤ l24_2 ∧ l24_2 ≤ 1) (i42 : 0 ≤ l24_3 ∧ l24_3 ≤ 4) (i43 : l24_2 = 0 ∨ dt 79 13 - dt 79 15 = 4), (5 - l24_3).toNat < k_ → GO (am_XX L xs sio) (d + 4) 156 24 [some (.inr (.inr (some 79))), some (.inr (.inr (some 1007))), some (.inl l24_2), some (.inl l24_3)] [] (SH, dt) (fun r w2 => w2 = (SH, dt) ∧ ((∃ v : Int, r = some (.inl v) ∧ (0 ≤ v ∧ v ≤ 1) ∧ True))) := by
      intro k_
      induction k_ with
      | zero => intro l24_2 l24_3 i41 i42 i43 hm; exact absurd hm (Nat.not_lt_zero _)
      | succ k_ ih_loop44 =>
        intro l24_2 l24_3 i41 i42 i43 hm
        replace i43 := hid i43
        refine go_toq PM156 (k := 2) (pc' := 26) (L' := [some (.inr (.inr (some 79))), some (.inr (.inr (some 1007))), some (.inl l24_2), some (.inl l24_3)]) (st' := [.inr (.inr (some 1007)), .inl l24_3]) (w' := (SH, dt)) rfl ?_
        refine go_callq PM156 PM249 (Q' := _) rfl rfl rfl rfl (sp_J0_length_8abf5_1007 L xs sio (d + 2) dt hI   ) ?_
        rintro _ _ ⟨rfl, h45⟩
        refine ⟨rfl, ?_⟩
        rcases h45 with ⟨rfl, h45⟩
        have j51 :  GO (am_XX L xs sio) (d + 4) 156 67 [some (.inr (.inr (some 79))), some (.inr (.inr (some 1007))), some (.inl l24_2), none] [] (SH, dt) (fun r w2 => w2 = (SH, dt) ∧ ((∃ v : Int, r = some (.inl v) ∧ (0 ≤ v ∧ v ≤ 1) ∧ True))) := by
          skip
          refine go_toq PM156 (k := 1) (pc' := 68) (L' := [some (.inr (.inr (some 79))), some (.inr (.inr (some 1007))), some (.inl l24_2), none]) (st' := [.inl l24_2]) (w' := (SH, dt)) rfl ?_
          refine go_retvq PM156 (v := l24_2) rfl (decide_eq_true (show l24_2 = 0 ∨ l24_2 = 1 by omega)) ?_
          exact ⟨rfl, ⟨_, rfl, ⟨by omega, by omega⟩, trivial⟩⟩
        refine go_ifq PM156 (k := 0) (p1 := 67) (p2 := 32) (L' := [some (.inr (.inr (some 79))), some (.inr (.inr (some 1007))), some (.inl l24_2), some (.inl l24_3)]) (st' := []) (w' := (SH, dt)) rfl (c_ge (a := l24_3) (b := 4) (by first | exact bnd i42 (by decide) (by decide) | exact ⟨by fail, by fail⟩) ⟨by decide, by decide⟩) (fun c52 => ?_) (fun c52 => ?_)
        · skip
          exact GO.le (j51 ) ⟨.inl rfl, .inl rfl, .inl rfl, .inr ⟨rfl, trivial⟩, trivial⟩
        · skip
          refine go_ifq PM156 (k := 1) (p1 := 67) (p2 := 36) (L' := [some (.inr (.inr (some 79))), some (.inr (.inr (some 1007))), some (.inl l24_2), some (.inl l24_3)]) (st' := []) (w' := (SH, dt)) rfl (z_eq (a := l24_2) (by first | exact bnd i41 (by decide) (by decide) | exact ⟨by fail, by fail⟩)) (fun c53 => ?_) (fun c53 => ?_)
          · skip
            exact GO.le (j51 ) ⟨.inl rfl, .inl rfl, .inl rfl, .inr ⟨rfl, trivial⟩, trivial⟩
          · skip
            replace c53 := hid c53
            refine go_toq PM156 (k := 6) (pc' := 46) (L' := [some (.inr (.inr (some 79))), some (.inr (.inr (some 1007))), some (.inl l24_2), some (.inl l24_3)]) (st' := [.inl ((dt 79 15) + l24_3), .inr (.inr (some 85))]) (w' := (SH, dt)) rfl ?_
            have r54 : 0 ≤ dt 85 (((dt 79 15) + l24_3).toNat) ∧ dt 85 (((dt 79 15) + l24_3).toNat) ≤ 255 := InvC_get hI 85 (((dt 79 15) + l24_3).toNat) rfl rfl
            refine go_smpq PM156 (L' := [some (.inr (.inr (some 79))), some (.inr (.inr (some 1007))), some (.inl l24_2), some (.inl l24_3)]) (st' := [.inl (dt 85 (((dt 79 15) + l24_3).toNat))]) (w' := (SH, dt)) rfl rfl (s_iald (n := 500) (f := dt 85) rfl ⟨by omega, by (have z0_ := unhid c5; have z1_ := unhid i43; have z2_ := unhid c53; omega)⟩) ?_
            refine go_toq PM156 (k := 2) (pc' := 49) (L' := [some (.inr (.inr (some 79))), some (.inr (.inr (some 1007))), some (.inl l24_2), some (.inl l24_3)]) (st' := [.inl l24_3, .inr (.inr (some 1007)), .inl (dt 85 (((dt 79 15) + l24_3).toNat))]) (w' := (SH, dt)) rfl ?_
            refine go_callq PM156 PM250 (Q' := _) rfl rfl rfl rfl (sp_J0_charAt_5068e_1007 L xs sio (d + 0) dt hI  l24_3 (by first | exact bnd i42 (by decide) (by decide) | exact bndd i42 c52 (by decide) (by decide) | exact ⟨by fail, by fail⟩) ) ?_
            rintro _ _ ⟨rfl, h55⟩
            refine ⟨rfl, ?_⟩
            rcases h55 with ⟨v_h55, rfl, h55r, h55⟩
            refine go_ifq PM156 (k := 0) (p1 := 59) (p2 := 55) (L' := [some (.inr (.inr (some 79))), some (.inr (.inr (some 1007))), some (.inl l24_2), some (.inl l24_3)]) (st' := []) (w' := (SH, dt)) rfl (c_ne (a := dt 85 (((dt 79 15) + l24_3).toNat)) (b := v_h55) (by first | exact bnd r54 (by decide) (by decide) | exact ⟨by fail, by fail⟩) (by first | exact bnd h55r (by decide) (by decide) | exact ⟨by fail, by fail⟩)) (fun c57 => ?_) (fun c57 => ?_)
            · skip
              replace c57 := hid c57
              refine go_toq PM156 (k := 4) (pc' := 24) (L' := [some (.inr (.inr (some 79))), some (.inr (.inr (some 1007))), some (.inl 0), some (.inl (l24_3 + 1))]) (st' := []) (w' := (SH, dt)) rfl ?_
              exact GO.le (ih_loop44 0 (l24_3 + 1) ⟨by decide, by decide⟩ (by first | exact bndp i42 (by decide) (by decide) | exact bnde i42 c52 (by decide) (by decide) | fail) (by omega) (by omega)) ⟨.inl rfl, .inl rfl, .inl rfl, .inl rfl, trivial⟩
            · skip
              refine go_toq PM156 (k := 5) (pc' := 24) (L' := [some (.inr (.inr (some 79))), some (.inr (.inr (some 1007))), some (.inl 1), some (.inl (l24_3 + 1))]) (st' := []) (w' := (SH, dt)) rfl ?_
              exact GO.le (ih_loop44 1 (l24_3 + 1) ⟨by decide, by decide⟩ (by first | exact bndp i42 (by decide) (by decide) | exact bnde i42 c52 (by decide) (by decide) | fail) (by (have z0_ := unhid c5; have z1_ := unhid i43; have z2_ := unhid c53; omega)) (by omega)) ⟨.inl rfl, .inl rfl, .inl rfl, .inl rfl, trivial⟩
    exact GO.le (loop44 _ 0 0 ⟨by decide, by decide⟩ ⟨by decide, by decide⟩ (by omega) (Nat.lt_succ_self _)) ⟨.inl rfl, .inl rfl, .inl rfl, .inl rfl, trivial⟩
  · skip
    refine go_toq PM156 (k := 5) (pc' := 24) (L' := [some (.inr (.inr (some 79))), some (.inr (.inr (some 1007))), some (.inl 1), some (.inl 0)]) (st' := []) (w' := (SH, dt)) rfl ?_
    have loop96 : ∀ (k_ : Nat) (l24_2 : Int) (l24_3 : Int) (i93 : 0 ≤ l24_2 ∧ l24_2 ≤ 1) (i94 : 0 ≤ l24_3 ∧ l24_3 ≤ 4) (i95 : l24_2 = 0 ∨ dt 79 13 - dt 79 15 = 4), (5 - l24_3).toNat < k_ → GO (am_XX L xs sio) (d + 4) 156 24 [some (.inr (.inr (some 79))), some (.inr (.inr (some 1007))), some (.inl l24_2), some (.inl l24_3)] [] (SH, dt) (fun r w2 => w2 = (SH, dt) ∧ ((∃ v : Int, r = some (.inl v) ∧ (0 ≤ v ∧ v ≤ 1) ∧ True))) := by
      intro k_
      induction k_ with
      | zero => intro l24_2 l24_3 i93 i94 i95 hm; exact absurd hm (Nat.not_lt_zero _)
      | succ k_ ih_loop96 =>
        intro l24_2 l24_3 i93 i94 i95 hm
        replace i95 := hid i95
        refine go_toq PM156 (k := 2) (pc' := 26) (L' := [some (.inr (.inr (some 79))), some (.inr (.inr (some 1007))), some (.inl l24_2), some (.inl l24_3)]) (st' := [.inr (.inr (some 1007)), .inl l24_3]) (w' := (SH, dt)) rfl ?_
        refine go_callq PM156 PM249 (Q' := _) rfl rfl rfl rfl (sp_J0_length_8abf5_1007 L xs sio (d + 2) dt hI   ) ?_
        rintro _ _ ⟨rfl, h97⟩
        refine ⟨rfl, ?_⟩
        rcases h97 with ⟨rfl, h97⟩
        have j103 :  GO (am_XX L xs sio) (d + 4) 156 67 [some (.inr (.inr (some 79))), some (.inr (.inr (some 1007))), some (.inl l24_2), none] [] (SH, dt) (fun r w2 => w2 = (SH, dt) ∧ ((∃ v : Int, r = some (.inl v) ∧ (0 ≤ v ∧ v ≤ 1) ∧ True))) := by
          skip
          refine go_toq PM156 (k := 1) (pc' := 68) (L' := [some (.inr (.inr (some 79))), some (.inr (.inr (some 1007))), some (.inl l24_2), none]) (st' := [.inl l24_2]) (w' := (SH, dt)) rfl ?_
          refine go_retvq PM156 (v := l24_2) rfl (decide_eq_true (show l24_2 = 0 ∨ l24_2 = 1 by omega)) ?_
          exact ⟨rfl, ⟨_, rfl, ⟨by omega, by omega⟩, trivial⟩⟩
        refine go_ifq PM156 (k := 0) (p1 := 67) (p2 := 32) (L' := [some (.inr (.inr (some 79))), some (.inr (.inr (some 1007))), some (.inl l24_2), some (.inl l24_3)]) (st' := []) (w' := (SH, dt)) rfl (c_ge (a := l24_3) (b := 4) (by first | exact bnd i94 (by decide) (by decide) | exact ⟨by fail, by fail⟩) ⟨by decide, by decide⟩) (fun c104 => ?_) (fun c104 => ?_)
        · skip
          exact GO.le (j103 ) ⟨.inl rfl, .inl rfl, .inl rfl, .inr ⟨rfl, trivial⟩, trivial⟩
        · skip
          refine go_ifq PM156 (k := 1) (p1 := 67) (p2 := 36) (L' := [some (.inr (.inr (some 79))), some (.inr (.inr (some 1007))), some (.inl l24_2), some (.inl l24_3)]) (st' := []) (w' := (SH, dt)) rfl (z_eq (a := l24_2) (by first | exact bnd i93 (by decide) (by decide) | exact ⟨by fail, by fail⟩)) (fun c105 => ?_) (fun c105 => ?_)
          · skip
            exact GO.le (j103 ) ⟨.inl rfl, .inl rfl, .inl rfl, .inr ⟨rfl, trivial⟩, trivial⟩
          · skip
            replace c105 := hid c105
            refine go_toq PM156 (k := 6) (pc' := 46) (L' := [some (.inr (.inr (some 79))), some (.inr (.inr (some 1007))), some (.inl l24_2), some (.inl l24_3)]) (st' := [.inl ((dt 79 15) + l24_3), .inr (.inr (some 85))]) (w' := (SH, dt)) rfl ?_
            have r106 : 0 ≤ dt 85 (((dt 79 15) + l24_3).toNat) ∧ dt 85 (((dt 79 15) + l24_3).toNat) ≤ 255 := InvC_get hI 85 (((dt 79 15) + l24_3).toNat) rfl rfl
            refine go_smpq PM156 (L' := [some (.inr (.inr (some 79))), some (.inr (.inr (some 1007))), some (.inl l24_2), some (.inl l24_3)]) (st' := [.inl (dt 85 (((dt 79 15) + l24_3).toNat))]) (w' := (SH, dt)) rfl rfl (s_iald (n := 500) (f := dt 85) rfl ⟨by omega, by omega⟩) ?_
            refine go_toq PM156 (k := 2) (pc' := 49) (L' := [some (.inr (.inr (some 79))), some (.inr (.inr (some 1007))), some (.inl l24_2), some (.inl l24_3)]) (st' := [.inl l24_3, .inr (.inr (some 1007)), .inl (dt 85 (((dt 79 15) + l24_3).toNat))]) (w' := (SH, dt)) rfl ?_
            refine go_callq PM156 PM250 (Q' := _) rfl rfl rfl rfl (sp_J0_charAt_5068e_1007 L xs sio (d + 0) dt hI  l24_3 (by first | exact bnd i94 (by decide) (by decide) | exact bndd i94 c104 (by decide) (by decide) | exact ⟨by fail, by fail⟩) ) ?_
            rintro _ _ ⟨rfl, h107⟩
            refine ⟨rfl, ?_⟩
            rcases h107 with ⟨v_h107, rfl, h107r, h107⟩
            refine go_ifq PM156 (k := 0) (p1 := 59) (p2 := 55) (L' := [some (.inr (.inr (some 79))), some (.inr (.inr (some 1007))), some (.inl l24_2), some (.inl l24_3)]) (st' := []) (w' := (SH, dt)) rfl (c_ne (a := dt 85 (((dt 79 15) + l24_3).toNat)) (b := v_h107) (by first | exact bnd r106 (by decide) (by decide) | exact ⟨by fail, by fail⟩) (by first | exact bnd h107r (by decide) (by decide) | exact ⟨by fail, by fail⟩)) (fun c109 => ?_) (fun c109 => ?_)
            · skip
              replace c109 := hid c109
              refine go_toq PM156 (k := 4) (pc' := 24) (L' := [some (.inr (.inr (some 79))), some (.inr (.inr (some 1007))), some (.inl 0), some (.inl (l24_3 + 1))]) (st' := []) (w' := (SH, dt)) rfl ?_
              exact GO.le (ih_loop96 0 (l24_3 + 1) ⟨by decide, by decide⟩ (by first | exact bndp i94 (by decide) (by decide) | exact bnde i94 c104 (by decide) (by decide) | fail) (by omega) (by omega)) ⟨.inl rfl, .inl rfl, .inl rfl, .inl rfl, trivial⟩
            · skip
              refine go_toq PM156 (k := 5) (pc' := 24) (L' := [some (.inr (.inr (some 79))), some (.inr (.inr (some 1007))), some (.inl 1), some (.inl (l24_3 + 1))]) (st' := []) (w' := (SH, dt)) rfl ?_
              exact GO.le (ih_loop96 1 (l24_3 + 1) ⟨by decide, by decide⟩ (by first | exact bndp i94 (by decide) (by decide) | exact bnde i94 c104 (by decide) (by decide) | fail) (by omega) (by omega)) ⟨.inl rfl, .inl rfl, .inl rfl, .inl rfl, trivial⟩
    exact GO.le (loop96 _ 1 0 ⟨by decide, by decide⟩ ⟨by decide, by decide⟩ (by omega) (Nat.lt_succ_self _)) ⟨.inl rfl, .inl rfl, .inl rfl, .inl rfl, trivial⟩
theorem sp_J0_coder_7d493_1008 (L : Nat) (xs : Nat → Int32) (sio : Option Nat) (d : Nat) (dt : Nat → Nat → Int) (hI : InvC dt)    : GO (am_XX L xs sio) (d) 253 0 [some (.inr (.inr (some 1008)))] [] (SH, dt) (fun r w2 => w2 = (SH, dt) ∧ ((r = some (.inl 0) ∧ True))) := by
  refine go_retq PM253 (k := 5) (r := some (.inl 0)) (w1 := (SH, dt)) rfl ?_
  exact ⟨rfl, ⟨rfl, trivial⟩⟩
theorem sp_J0_length_8abf5_1008 (L : Nat) (xs : Nat → Int32) (sio : Option Nat) (d : Nat) (dt : Nat → Nat → Int) (hI : InvC dt)    : GO (am_XX L xs sio) (d + 1) 249 0 [some (.inr (.inr (some 1008)))] [] (SH, dt) (fun r w2 => w2 = (SH, dt) ∧ ((r = some (.inl 4) ∧ True))) := by
  refine go_toq PM249 (k := 4) (pc' := 6) (L' := [some (.inr (.inr (some 1008)))]) (st' := [.inr (.inr (some 1008)), .inl 4]) (w' := (SH, dt)) rfl ?_
  refine go_callq PM249 PM253 (Q' := _) rfl rfl rfl rfl (sp_J0_coder_7d493_1008 L xs sio (d + 0) dt hI   ) ?_
  rintro _ _ ⟨rfl, h1⟩
  refine ⟨rfl, ?_⟩
  rcases h1 with ⟨rfl, h1⟩
  refine go_smpq PM249 (L' := [some (.inr (.inr (some 1008)))]) (st' := [.inl 4]) (w' := (SH, dt)) rfl rfl (s_bshr (v := 4) (by decide)) ?_
  refine go_retq PM249 (k := 0) (r := some (.inl 4)) (w1 := (SH, dt)) rfl ?_
  exact ⟨rfl, ⟨rfl, trivial⟩⟩
theorem sp_J0_isLatin1_aae02_1008 (L : Nat) (xs : Nat → Int32) (sio : Option Nat) (d : Nat) (dt : Nat → Nat → Int) (hI : InvC dt)    : GO (am_XX L xs sio) (d) 254 0 [some (.inr (.inr (some 1008)))] [] (SH, dt) (fun r w2 => w2 = (SH, dt) ∧ ((r = some (.inl 1) ∧ True))) := by
  refine go_retq PM254 (k := 7) (r := some (.inl 1)) (w1 := (SH, dt)) rfl ?_
  exact ⟨rfl, ⟨rfl, trivial⟩⟩
theorem sp_J1_charAt_3b067_1008 (L : Nat) (xs : Nat → Int32) (sio : Option Nat) (d : Nat) (dt : Nat → Nat → Int) (hI : InvC dt)  (p2 : Int) (h_p2 : 0 ≤ p2 ∧ p2 ≤ 3)  : GO (am_XX L xs sio) (d + 2) 256 0 [some (.inr (.inr (some 2008))), some (.inl p2)] [] (SH, dt) (fun r w2 => w2 = (SH, dt) ∧ ((∃ v : Int, r = some (.inl v) ∧ (0 ≤ v ∧ v ≤ 65535) ∧ True))) := by
  refine go_toq PM256 (k := 3) (pc' := 3) (L' := [some (.inr (.inr (some 2008))), some (.inl p2)]) (st' := [.inl 4, .inl p2]) (w' := (SH, dt)) rfl ?_
  refine go_callq PM256 PM255 (Q' := _) rfl rfl rfl rfl (sp_J0_checkIndex_df160 L xs sio (d + 0) dt hI  p2 (by first | exact h_p2 | exact bnd h_p2 (by decide) (by decide) | exact ⟨by fail, by fail⟩) 4 ⟨by decide, by decide⟩ (by first | exact True.intro | with_reducible assumption | rfl | omega | trivial)) ?_
  rintro _ _ ⟨rfl, h1⟩
  refine ⟨rfl, ?_⟩
  rcases h1 with ⟨rfl, h1⟩
  refine go_toq PM256 (k := 2) (pc' := 8) (L' := [some (.inr (.inr (some 2008))), some (.inl p2)]) (st' := [.inl p2, .inr (.inr (some 2008))]) (w' := (SH, dt)) rfl ?_
  have r2 := sby_R 8 (p2).toNat
  refine go_smpq PM256 (L' := [some (.inr (.inr (some 2008))), some (.inl p2)]) (st' := [.inl ((am_Sby.getD 8 []).getD (p2).toNat 0)]) (w' := (SH, dt)) rfl rfl (s_bald (n := 4) (f := fun q => (am_Sby.getD 8 []).getD q 0) rfl (by first | exact bndx h_p2 (by decide) (by decide) | exact ⟨by fail, by fail⟩)) ?_
  have r3 : 0 ≤ am_and ((am_Sby.getD 8 []).getD (p2).toNat 0) 255 ∧ am_and ((am_Sby.getD 8 []).getD (p2).toNat 0) 255 ≤ 255 := and_R255
  have r4 := i2c_R (am_and ((am_Sby.getD 8 []).getD (p2).toNat 0) 255)
  refine go_toq PM256 (k := 3) (pc' := 14) (L' := [some (.inr (.inr (some 2008))), some (.inl p2)]) (st' := [.inl (am_i2c (am_and ((am_Sby.getD 8 []).getD (p2).toNat 0) 255))]) (w' := (SH, dt)) rfl ?_
  refine go_retvq PM256 (v := am_i2c (am_and ((am_Sby.getD 8 []).getD (p2).toNat 0) 255)) rfl (decide_eq_true (show 0 ≤ am_i2c (am_and ((am_Sby.getD 8 []).getD (p2).toNat 0) 255) ∧ am_i2c (am_and ((am_Sby.getD 8 []).getD (p2).toNat 0) 255) < 65536 by omega)) ?_
  exact ⟨rfl, ⟨_, rfl, ⟨by omega, by omega⟩, trivial⟩⟩
theorem sp_J0_charAt_5068e_1008 (L : Nat) (xs : Nat → Int32) (sio : Option Nat) (d : Nat) (dt : Nat → Nat → Int) (hI : InvC dt)  (p1 : Int) (h_p1 : 0 ≤ p1 ∧ p1 ≤ 3)  : GO (am_XX L xs sio) (d + 3) 250 0 [some (.inr (.inr (some 1008))), some (.inl p1)] [] (SH, dt) (fun r w2 => w2 = (SH, dt) ∧ ((∃ v : Int, r = some (.inl v) ∧ (0 ≤ v ∧ v ≤ 65535) ∧ True))) := by
  refine go_toq PM250 (k := 1) (pc' := 1) (L' := [some (.inr (.inr (some 1008))), some (.inl p1)]) (st' := [.inr (.inr (some 1008))]) (w' := (SH, dt)) rfl ?_
  refine go_callq PM250 PM254 (Q' := _) rfl rfl rfl rfl (sp_J0_isLatin1_aae02_1008 L xs sio (d + 2) dt hI   ) ?_
  rintro _ _ ⟨rfl, h1⟩
  refine ⟨rfl, ?_⟩
  rcases h1 with ⟨rfl, h1⟩
  refine go_toq PM250 (k := 4) (pc' := 12) (L' := [some (.inr (.inr (some 1008))), some (.inl p1)]) (st' := [.inl p1, .inr (.inr (some 2008))]) (w' := (SH, dt)) rfl ?_
  refine go_callq PM250 PM256 (Q' := _) rfl rfl rfl rfl (sp_J1_charAt_3b067_1008 L xs sio (d + 0) dt hI  p1 (by first | exact h_p1 | exact bnd h_p1 (by decide) (by decide) | exact ⟨by fail, by fail⟩) ) ?_
  rintro _ _ ⟨rfl, h2⟩
  refine ⟨rfl, ?_⟩
  rcases h2 with ⟨v_h2, rfl, h2r, h2⟩
  refine go_retvq PM250 (v := v_h2) rfl (decide_eq_true (show 0 ≤ v_h2 ∧ v_h2 < 65536 by omega)) ?_
  exact ⟨rfl, ⟨_, rfl, ⟨by omega, by omega⟩, trivial⟩⟩
set_option maxRecDepth 20000 in
theorem sp_X6_is_1008 (L : Nat) (xs : Nat → Int32) (sio : Option Nat) (d : Nat) (dt : Nat → Nat → Int) (hI : InvC dt)   (h_p0 : dt 79 13 ≤ 500) : GO (am_XX L xs sio) (d + 4) 156 0 [some (.inr (.inr (some 79))), some (.inr (.inr (some 1008))), none, none] [] (SH, dt) (fun r w2 => w2 = (SH, dt) ∧ ((∃ v : Int, r = some (.inl v) ∧ (0 ≤ v ∧ v ≤ 1) ∧ True))) := by
  have r1 : 0 ≤ dt 79 13 ∧ dt 79 13 ≤ 501 := InvC_get hI 79 13 rfl rfl
  have r2 : 0 ≤ dt 79 15 ∧ dt 79 15 ≤ 500 := InvC_get hI 79 15 rfl rfl
  refine go_toq PM156 (k := 6) (pc' := 10) (L' := [some (.inr (.inr (some 79))), some (.inr (.inr (some 1008))), none, none]) (st' := [.inr (.inr (some 1008)), .inl ((dt 79 13) - (dt 79 15))]) (w' := (SH, dt)) rfl ?_
  refine go_callq PM156 PM249 (Q' := _) rfl rfl rfl rfl (sp_J0_length_8abf5_1008 L xs sio (d + 2) dt hI   ) ?_
  rintro _ _ ⟨rfl, h3⟩
  refine ⟨rfl, ?_⟩
  rcases h3 with ⟨rfl, h3⟩
  refine go_ifq PM156 (k := 0) (p1 := 20) (p2 := 16) (L' := [some (.inr (.inr (some 79))), some (.inr (.inr (some 1008))), none, none]) (st' := []) (w' := (SH, dt)) rfl (c_ne (a := (dt 79 13) - (dt 79 15)) (b := 4) ⟨by omega, by omega⟩ ⟨by decide, by decide⟩) (fun c5 => ?_) (fun c5 => ?_)
  · skip
    replace c5 := hid c5
    refine go_toq PM156 (k := 4) (pc' := 24) (L' := [some (.inr (.inr (some 79))), some (.inr (.inr (some 1008))), some (.inl 0), some (.inl 0)]) (st' := []) (w' := (SH, dt)) rfl ?_
    have loop44 : ∀ (k_ : Nat) (l24_2 : Int) (l24_3 : Int) (i41 : 0 ≤ l24_2 ∧ l24_2 ≤ 1) (i42 : 0 ≤ l24_3 ∧ l24_3 ≤ 4) (i43 : l24_2 = 0 ∨ dt 79 13 - dt 79 15 = 4), (5 - l24_3).toNat < k_ → GO (am_XX L xs sio) (d + 4) 156 24 [some (.inr (.inr (some 79))), some (.inr (.inr (some 1008))), some (.inl l24_2), some (.inl l24_3)] [] (SH, dt) (fun r w2 => w2 = (SH, dt) ∧ ((∃ v : Int, r = some (.inl v) ∧ (0 ≤ v ∧ v ≤ 1) ∧ True))) := by
      intro k_
      induction k_ with
      | zero => intro l24_2 l24_3 i41 i42 i43 hm; exact absurd hm (Nat.not_lt_zero _)
      | succ k_ ih_loop44 =>
        intro l24_2 l24_3 i41 i42 i43 hm
        replace i43 := hid i43
        refine go_toq PM156 (k := 2) (pc' := 26) (L' := [some (.inr (.inr (some 79))), some (.inr (.inr (some 1008))), some (.inl l24_2), some (.inl l24_3)]) (st' := [.inr (.inr (some 1008)), .inl l24_3]) (w' := (SH, dt)) rfl ?_
        refine go_callq PM156 PM249 (Q' := _) rfl rfl rfl rfl (sp_J0_length_8abf5_1008 L xs sio (d + 2) dt hI   ) ?_
        rintro _ _ ⟨rfl, h45⟩
        refine ⟨rfl, ?_⟩
        rcases h45 with ⟨rfl, h45⟩
        have j51 :  GO (am_XX L xs sio) (d + 4) 156 67 [some (.inr (.inr (some 79))), some (.inr (.inr (some 1008))), some (.inl l24_2), none] [] (SH, dt) (fun r w2 => w2 = (SH, dt) ∧ ((∃ v : Int, r = some (.inl v) ∧ (0 ≤ v ∧ v ≤ 1) ∧ True))) := by
          skip
          refine go_toq PM156 (k := 1) (pc' := 68) (L' := [some (.inr (.inr (some 79))), some (.inr (.inr (some 1008))), some (.inl l24_2), none]) (st' := [.inl l24_2]) (w' := (SH, dt)) rfl ?_
          refine go_retvq PM156 (v := l24_2) rfl (decide_eq_true (show l24_2 = 0 ∨ l24_2 = 1 by omega)) ?_
          exact ⟨rfl, ⟨_, rfl, ⟨by omega, by omega⟩, trivial⟩⟩
        refine go_ifq PM156 (k := 0) (p1 := 67) (p2 := 32) (L' := [some (.inr (.inr (some 79))), some (.inr (.inr (some 1008))), some (.inl l24_2), some (.inl l24_3)]) (st' := []) (w' := (SH, dt)) rfl (c_ge (a := l24_3) (b := 4) (by first | exact bnd i42 (by decide) (by decide) | exact ⟨by fail, by fail⟩) ⟨by decide, by decide⟩) (fun c52 => ?_) (fun c52 => ?_)
        · skip
          exact GO.le (j51 ) ⟨.inl rfl, .inl rfl, .inl rfl, .inr ⟨rfl, trivial⟩, trivial⟩
        · skip
          refine go_ifq PM156 (k := 1) (p1 := 67) (p2 := 36) (L' := [some (.inr (.inr (some 79))), some (.inr (.inr (some 1008))), some (.inl l24_2), some (.inl l24_3)]) (st' := []) (w' := (SH, dt)) rfl (z_eq (a := l24_2) (by first | exact bnd i41 (by decide) (by decide) | exact ⟨by fail, by fail⟩)) (fun c53 => ?_) (fun c53 => ?_)
          · skip
            exact GO.le (j51 ) ⟨.inl rfl, .inl rfl, .inl rfl, .inr ⟨rfl, trivial⟩, trivial⟩
          · skip
            replace c53 := hid c53
            refine go_toq PM156 (k := 6) (pc' := 46) (L' := [some (.inr (.inr (some 79))), some (.inr (.inr (some 1008))), some (.inl l24_2), some (.inl l24_3)]) (st' := [.inl ((dt 79 15) + l24_3), .inr (.inr (some 85))]) (w' := (SH, dt)) rfl ?_
            have r54 : 0 ≤ dt 85 (((dt 79 15) + l24_3).toNat) ∧ dt 85 (((dt 79 15) + l24_3).toNat) ≤ 255 := InvC_get hI 85 (((dt 79 15) + l24_3).toNat) rfl rfl
            refine go_smpq PM156 (L' := [some (.inr (.inr (some 79))), some (.inr (.inr (some 1008))), some (.inl l24_2), some (.inl l24_3)]) (st' := [.inl (dt 85 (((dt 79 15) + l24_3).toNat))]) (w' := (SH, dt)) rfl rfl (s_iald (n := 500) (f := dt 85) rfl ⟨by omega, by (have z0_ := unhid c5; have z1_ := unhid i43; have z2_ := unhid c53; omega)⟩) ?_
            refine go_toq PM156 (k := 2) (pc' := 49) (L' := [some (.inr (.inr (some 79))), some (.inr (.inr (some 1008))), some (.inl l24_2), some (.inl l24_3)]) (st' := [.inl l24_3, .inr (.inr (some 1008)), .inl (dt 85 (((dt 79 15) + l24_3).toNat))]) (w' := (SH, dt)) rfl ?_
            refine go_callq PM156 PM250 (Q' := _) rfl rfl rfl rfl (sp_J0_charAt_5068e_1008 L xs sio (d + 0) dt hI  l24_3 (by first | exact bnd i42 (by decide) (by decide) | exact bndd i42 c52 (by decide) (by decide) | exact ⟨by fail, by fail⟩) ) ?_
            rintro _ _ ⟨rfl, h55⟩
            refine ⟨rfl, ?_⟩
            rcases h55 with ⟨v_h55, rfl, h55r, h55⟩
            refine go_ifq PM156 (k := 0) (p1 := 59) (p2 := 55) (L' := [some (.inr (.inr (some 79))), some (.inr (.inr (some 1008))), some (.inl l24_2), some (.inl l24_3)]) (st' := []) (w' := (SH, dt)) rfl (c_ne (a := dt 85 (((dt 79 15) + l24_3).toNat)) (b := v_h55) (by first | exact bnd r54 (by decide) (by decide) | exact ⟨by fail, by fail⟩) (by first | exact bnd h55r (by decide) (by decide) | exact ⟨by fail, by fail⟩)) (fun c57 => ?_) (fun c57 => ?_)
            · skip
              replace c57 := hid c57
              refine go_toq PM156 (k := 4) (pc' := 24) (L' := [some (.inr (.inr (some 79))), some (.inr (.inr (some 1008))), some (.inl 0), some (.inl (l24_3 + 1))]) (st' := []) (w' := (SH, dt)) rfl ?_
              exact GO.le (ih_loop44 0 (l24_3 + 1) ⟨by decide, by decide⟩ (by first | exact bndp i42 (by decide) (by decide) | exact bnde i42 c52 (by decide) (by decide) | fail) (by omega) (by omega)) ⟨.inl rfl, .inl rfl, .inl rfl, .inl rfl, trivial⟩
            · skip
              refine go_toq PM156 (k := 5) (pc' := 24) (L' := [some (.inr (.inr (some 79))), some (.inr (.inr (some 1008))), some (.inl 1), some (.inl (l24_3 + 1))]) (st' := []) (w' := (SH, dt)) rfl ?_
              exact GO.le (ih_loop44 1 (l24_3 + 1) ⟨by decide, by decide⟩ (by first | exact bndp i42 (by decide) (by decide) | exact bnde i42 c52 (by decide) (by decide) | fail) (by (have z0_ := unhid c5; have z1_ := unhid i43; have z2_ := unhid c53; omega)) (by omega)) ⟨.inl rfl, .inl rfl, .inl rfl, .inl rfl, trivial⟩
    exact GO.le (loop44 _ 0 0 ⟨by decide, by decide⟩ ⟨by decide, by decide⟩ (by omega) (Nat.lt_succ_self _)) ⟨.inl rfl, .inl rfl, .inl rfl, .inl rfl, trivial⟩
  · skip
    refine go_toq PM156 (k := 5) (pc' := 24) (L' := [some (.inr (.inr (some 79))), some (.inr (.inr (some 1008))), some (.inl 1), some (.inl 0)]) (st' := []) (w' := (SH, dt)) rfl ?_
    have loop96 : ∀ (k_ : Nat) (l24_2 : Int) (l24_3 : Int) (i93 : 0 ≤ l24_2 ∧ l24_2 ≤ 1) (i94 : 0 ≤ l24_3 ∧ l24_3 ≤ 4) (i95 : l24_2 = 0 ∨ dt 79 13 - dt 79 15 = 4), (5 - l24_3).toNat < k_ → GO (am_XX L xs sio) (d + 4) 156 24 [some (.inr (.inr (some 79))), some (.inr (.inr (some 1008))), some (.inl l24_2), some (.inl l24_3)] [] (SH, dt) (fun r w2 => w2 = (SH, dt) ∧ ((∃ v : Int, r = some (.inl v) ∧ (0 ≤ v ∧ v ≤ 1) ∧ True))) := by
      intro k_
      induction k_ with
      | zero => intro l24_2 l24_3 i93 i94 i95 hm; exact absurd hm (Nat.not_lt_zero _)
      | succ k_ ih_loop96 =>
        intro l24_2 l24_3 i93 i94 i95 hm
        replace i95 := hid i95
        refine go_toq PM156 (k := 2) (pc' := 26) (L' := [some (.inr (.inr (some 79))), some (.inr (.inr (some 1008))), some (.inl l24_2), some (.inl l24_3)]) (st' := [.inr (.inr (some 1008)), .inl l24_3]) (w' := (SH, dt)) rfl ?_
        refine go_callq PM156 PM249 (Q' := _) rfl rfl rfl rfl (sp_J0_length_8abf5_1008 L xs sio (d + 2) dt hI   ) ?_
        rintro _ _ ⟨rfl, h97⟩
        refine ⟨rfl, ?_⟩
        rcases h97 with ⟨rfl, h97⟩
        have j103 :  GO (am_XX L xs sio) (d + 4) 156 67 [some (.inr (.inr (some 79))), some (.inr (.inr (some 1008))), some (.inl l24_2), none] [] (SH, dt) (fun r w2 => w2 = (SH, dt) ∧ ((∃ v : Int, r = some (.inl v) ∧ (0 ≤ v ∧ v ≤ 1) ∧ True))) := by
          skip
          refine go_toq PM156 (k := 1) (pc' := 68) (L' := [some (.inr (.inr (some 79))), some (.inr (.inr (some 1008))), some (.inl l24_2), none]) (st' := [.inl l24_2]) (w' := (SH, dt)) rfl ?_
          refine go_retvq PM156 (v := l24_2) rfl (decide_eq_true (show l24_2 = 0 ∨ l24_2 = 1 by omega)) ?_
          exact ⟨rfl, ⟨_, rfl, ⟨by omega, by omega⟩, trivial⟩⟩
        refine go_ifq PM156 (k := 0) (p1 := 67) (p2 := 32) (L' := [some (.inr (.inr (some 79))), some (.inr (.inr (some 1008))), some (.inl l24_2), some (.inl l24_3)]) (st' := []) (w' := (SH, dt)) rfl (c_ge (a := l24_3) (b := 4) (by first | exact bnd i94 (by decide) (by decide) | exact ⟨by fail, by fail⟩) ⟨by decide, by decide⟩) (fun c104 => ?_) (fun c104 => ?_)
        · skip
          exact GO.le (j103 ) ⟨.inl rfl, .inl rfl, .inl rfl, .inr ⟨rfl, trivial⟩, trivial⟩
        · skip
          refine go_ifq PM156 (k := 1) (p1 := 67) (p2 := 36) (L' := [some (.inr (.inr (some 79))), some (.inr (.inr (some 1008))), some (.inl l24_2), some (.inl l24_3)]) (st' := []) (w' := (SH, dt)) rfl (z_eq (a := l24_2) (by first | exact bnd i93 (by decide) (by decide) | exact ⟨by fail, by fail⟩)) (fun c105 => ?_) (fun c105 => ?_)
          · skip
            exact GO.le (j103 ) ⟨.inl rfl, .inl rfl, .inl rfl, .inr ⟨rfl, trivial⟩, trivial⟩
          · skip
            replace c105 := hid c105
            refine go_toq PM156 (k := 6) (pc' := 46) (L' := [some (.inr (.inr (some 79))), some (.inr (.inr (some 1008))), some (.inl l24_2), some (.inl l24_3)]) (st' := [.inl ((dt 79 15) + l24_3), .inr (.inr (some 85))]) (w' := (SH, dt)) rfl ?_
            have r106 : 0 ≤ dt 85 (((dt 79 15) + l24_3).toNat) ∧ dt 85 (((dt 79 15) + l24_3).toNat) ≤ 255 := InvC_get hI 85 (((dt 79 15) + l24_3).toNat) rfl rfl
            refine go_smpq PM156 (L' := [some (.inr (.inr (some 79))), some (.inr (.inr (some 1008))), some (.inl l24_2), some (.inl l24_3)]) (st' := [.inl (dt 85 (((dt 79 15) + l24_3).toNat))]) (w' := (SH, dt)) rfl rfl (s_iald (n := 500) (f := dt 85) rfl ⟨by omega, by omega⟩) ?_
            refine go_toq PM156 (k := 2) (pc' := 49) (L' := [some (.inr (.inr (some 79))), some (.inr (.inr (some 1008))), some (.inl l24_2), some (.inl l24_3)]) (st' := [.inl l24_3, .inr (.inr (some 1008)), .inl (dt 85 (((dt 79 15) + l24_3).toNat))]) (w' := (SH, dt)) rfl ?_
            refine go_callq PM156 PM250 (Q' := _) rfl rfl rfl rfl (sp_J0_charAt_5068e_1008 L xs sio (d + 0) dt hI  l24_3 (by first | exact bnd i94 (by decide) (by decide) | exact bndd i94 c104 (by decide) (by decide) | exact ⟨by fail, by fail⟩) ) ?_
            rintro _ _ ⟨rfl, h107⟩
            refine ⟨rfl, ?_⟩
            rcases h107 with ⟨v_h107, rfl, h107r, h107⟩
            refine go_ifq PM156 (k := 0) (p1 := 59) (p2 := 55) (L' := [some (.inr (.inr (some 79))), some (.inr (.inr (some 1008))), some (.inl l24_2), some (.inl l24_3)]) (st' := []) (w' := (SH, dt)) rfl (c_ne (a := dt 85 (((dt 79 15) + l24_3).toNat)) (b := v_h107) (by first | exact bnd r106 (by decide) (by decide) | exact ⟨by fail, by fail⟩) (by first | exact bnd h107r (by decide) (by decide) | exact ⟨by fail, by fail⟩)) (fun c109 => ?_) (fun c109 => ?_)
            · skip
              replace c109 := hid c109
              refine go_toq PM156 (k := 4) (pc' := 24) (L' := [some (.inr (.inr (some 79))), some (.inr (.inr (some 1008))), some (.inl 0), some (.inl (l24_3 + 1))]) (st' := []) (w' := (SH, dt)) rfl ?_
              exact GO.le (ih_loop96 0 (l24_3 + 1) ⟨by decide, by decide⟩ (by first | exact bndp i94 (by decide) (by decide) | exact bnde i94 c104 (by decide) (by decide) | fail) (by omega) (by omega)) ⟨.inl rfl, .inl rfl, .inl rfl, .inl rfl, trivial⟩
            · skip
              refine go_toq PM156 (k := 5) (pc' := 24) (L' := [some (.inr (.inr (some 79))), some (.inr (.inr (some 1008))), some (.inl 1), some (.inl (l24_3 + 1))]) (st' := []) (w' := (SH, dt)) rfl ?_
              exact GO.le (ih_loop96 1 (l24_3 + 1) ⟨by decide, by decide⟩ (by first | exact bndp i94 (by decide) (by decide) | exact bnde i94 c104 (by decide) (by decide) | fail) (by omega) (by omega)) ⟨.inl rfl, .inl rfl, .inl rfl, .inl rfl, trivial⟩
    exact GO.le (loop96 _ 1 0 ⟨by decide, by decide⟩ ⟨by decide, by decide⟩ (by omega) (Nat.lt_succ_self _)) ⟨.inl rfl, .inl rfl, .inl rfl, .inl rfl, trivial⟩
theorem sp_J0_coder_7d493_1009 (L : Nat) (xs : Nat → Int32) (sio : Option Nat) (d : Nat) (dt : Nat → Nat → Int) (hI : InvC dt)    : GO (am_XX L xs sio) (d) 253 0 [some (.inr (.inr (some 1009)))] [] (SH, dt) (fun r w2 => w2 = (SH, dt) ∧ ((r = some (.inl 0) ∧ True))) := by
  refine go_retq PM253 (k := 5) (r := some (.inl 0)) (w1 := (SH, dt)) rfl ?_
  exact ⟨rfl, ⟨rfl, trivial⟩⟩
theorem sp_J0_length_8abf5_1009 (L : Nat) (xs : Nat → Int32) (sio : Option Nat) (d : Nat) (dt : Nat → Nat → Int) (hI : InvC dt)    : GO (am_XX L xs sio) (d + 1) 249 0 [some (.inr (.inr (some 1009)))] [] (SH, dt) (fun r w2 => w2 = (SH, dt) ∧ ((r = some (.inl 4) ∧ True))) := by
  refine go_toq PM249 (k := 4) (pc' := 6) (L' := [some (.inr (.inr (some 1009)))]) (st' := [.inr (.inr (some 1009)), .inl 4]) (w' := (SH, dt)) rfl ?_
  refine go_callq PM249 PM253 (Q' := _) rfl rfl rfl rfl (sp_J0_coder_7d493_1009 L xs sio (d + 0) dt hI   ) ?_
  rintro _ _ ⟨rfl, h1⟩
  refine ⟨rfl, ?_⟩
  rcases h1 with ⟨rfl, h1⟩
  refine go_smpq PM249 (L' := [some (.inr (.inr (some 1009)))]) (st' := [.inl 4]) (w' := (SH, dt)) rfl rfl (s_bshr (v := 4) (by decide)) ?_
  refine go_retq PM249 (k := 0) (r := some (.inl 4)) (w1 := (SH, dt)) rfl ?_
  exact ⟨rfl, ⟨rfl, trivial⟩⟩
theorem sp_J0_isLatin1_aae02_1009 (L : Nat) (xs : Nat → Int32) (sio : Option Nat) (d : Nat) (dt : Nat → Nat → Int) (hI : InvC dt)    : GO (am_XX L xs sio) (d) 254 0 [some (.inr (.inr (some 1009)))] [] (SH, dt) (fun r w2 => w2 = (SH, dt) ∧ ((r = some (.inl 1) ∧ True))) := by
  refine go_retq PM254 (k := 7) (r := some (.inl 1)) (w1 := (SH, dt)) rfl ?_
  exact ⟨rfl, ⟨rfl, trivial⟩⟩
theorem sp_J1_charAt_3b067_1009 (L : Nat) (xs : Nat → Int32) (sio : Option Nat) (d : Nat) (dt : Nat → Nat → Int) (hI : InvC dt)  (p2 : Int) (h_p2 : 0 ≤ p2 ∧ p2 ≤ 3)  : GO (am_XX L xs sio) (d + 2) 256 0 [some (.inr (.inr (some 2009))), some (.inl p2)] [] (SH, dt) (fun r w2 => w2 = (SH, dt) ∧ ((∃ v : Int, r = some (.inl v) ∧ (0 ≤ v ∧ v ≤ 65535) ∧ True))) := by
  refine go_toq PM256 (k := 3) (pc' := 3) (L' := [some (.inr (.inr (some 2009))), some (.inl p2)]) (st' := [.inl 4, .inl p2]) (w' := (SH, dt)) rfl ?_
  refine go_callq PM256 PM255 (Q' := _) rfl rfl rfl rfl (sp_J0_checkIndex_df160 L xs sio (d + 0) dt hI  p2 (by first | exact h_p2 | exact bnd h_p2 (by decide) (by decide) | exact ⟨by fail, by fail⟩) 4 ⟨by decide, by decide⟩ (by first | exact True.intro | with_reducible assumption | rfl | omega | trivial)) ?_
  rintro _ _ ⟨rfl, h1⟩
  refine ⟨rfl, ?_⟩
  rcases h1 with ⟨rfl, h1⟩
  refine go_toq PM256 (k := 2) (pc' := 8) (L' := [some (.inr (.inr (some 2009))), some (.inl p2)]) (st' := [.inl p2, .inr (.inr (some 2009))]) (w' := (SH, dt)) rfl ?_
  have r2 := sby_R 9 (p2).toNat
  refine go_smpq PM256 (L' := [some (.inr (.inr (some 2009))), some (.inl p2)]) (st' := [.inl ((am_Sby.getD 9 []).getD (p2).toNat 0)]) (w' := (SH, dt)) rfl rfl (s_bald (n := 4) (f := fun q => (am_Sby.getD 9 []).getD q 0) rfl (by first | exact bndx h_p2 (by decide) (by decide) | exact ⟨by fail, by fail⟩)) ?_
  have r3 : 0 ≤ am_and ((am_Sby.getD 9 []).getD (p2).toNat 0) 255 ∧ am_and ((am_Sby.getD 9 []).getD (p2).toNat 0) 255 ≤ 255 := and_R255
  have r4 := i2c_R (am_and ((am_Sby.getD 9 []).getD (p2).toNat 0) 255)
  refine go_toq PM256 (k := 3) (pc' := 14) (L' := [some (.inr (.inr (some 2009))), some (.inl p2)]) (st' := [.inl (am_i2c (am_and ((am_Sby.getD 9 []).getD (p2).toNat 0) 255))]) (w' := (SH, dt)) rfl ?_
  refine go_retvq PM256 (v := am_i2c (am_and ((am_Sby.getD 9 []).getD (p2).toNat 0) 255)) rfl (decide_eq_true (show 0 ≤ am_i2c (am_and ((am_Sby.getD 9 []).getD (p2).toNat 0) 255) ∧ am_i2c (am_and ((am_Sby.getD 9 []).getD (p2).toNat 0) 255) < 65536 by omega)) ?_
  exact ⟨rfl, ⟨_, rfl, ⟨by omega, by omega⟩, trivial⟩⟩
theorem sp_J0_charAt_5068e_1009 (L : Nat) (xs : Nat → Int32) (sio : Option Nat) (d : Nat) (dt : Nat → Nat → Int) (hI : InvC dt)  (p1 : Int) (h_p1 : 0 ≤ p1 ∧ p1 ≤ 3)  : GO (am_XX L xs sio) (d + 3) 250 0 [some (.inr (.inr (some 1009))), some (.inl p1)] [] (SH, dt) (fun r w2 => w2 = (SH, dt) ∧ ((∃ v : Int, r = some (.inl v) ∧ (0 ≤ v ∧ v ≤ 65535) ∧ True))) := by
  refine go_toq PM250 (k := 1) (pc' := 1) (L' := [some (.inr (.inr (some 1009))), some (.inl p1)]) (st' := [.inr (.inr (some 1009))]) (w' := (SH, dt)) rfl ?_
  refine go_callq PM250 PM254 (Q' := _) rfl rfl rfl rfl (sp_J0_isLatin1_aae02_1009 L xs sio (d + 2) dt hI   ) ?_
  rintro _ _ ⟨rfl, h1⟩
  refine ⟨rfl, ?_⟩
  rcases h1 with ⟨rfl, h1⟩
  refine go_toq PM250 (k := 4) (pc' := 12) (L' := [some (.inr (.inr (some 1009))), some (.inl p1)]) (st' := [.inl p1, .inr (.inr (some 2009))]) (w' := (SH, dt)) rfl ?_
  refine go_callq PM250 PM256 (Q' := _) rfl rfl rfl rfl (sp_J1_charAt_3b067_1009 L xs sio (d + 0) dt hI  p1 (by first | exact h_p1 | exact bnd h_p1 (by decide) (by decide) | exact ⟨by fail, by fail⟩) ) ?_
  rintro _ _ ⟨rfl, h2⟩
  refine ⟨rfl, ?_⟩
  rcases h2 with ⟨v_h2, rfl, h2r, h2⟩
  refine go_retvq PM250 (v := v_h2) rfl (decide_eq_true (show 0 ≤ v_h2 ∧ v_h2 < 65536 by omega)) ?_
  exact ⟨rfl, ⟨_, rfl, ⟨by omega, by omega⟩, trivial⟩⟩
set_option maxRecDepth 20000 in
theorem sp_X6_is_1009 (L : Nat) (xs : Nat → Int32) (sio : Option Nat) (d : Nat) (dt : Nat → Nat → Int) (hI : InvC dt)   (h_p0 : dt 79 13 ≤ 500) : GO (am_XX L xs sio) (d + 4) 156 0 [some (.inr (.inr (some 79))), some (.inr (.inr (some 1009))), none, none] [] (SH, dt) (fun r w2 => w2 = (SH, dt) ∧ ((∃ v : Int, r = some (.inl v) ∧ (0 ≤ v ∧ v ≤ 1) ∧ True))) := by
  have r1 : 0 ≤ dt 79 13 ∧ dt 79 13 ≤ 501 := InvC_get hI 79 13 rfl rfl
  have r2 : 0 ≤ dt 79 15 ∧ dt 79 15 ≤ 500 := InvC_get hI 79 15 rfl rfl
  refine go_toq PM156 (k := 6) (pc' := 10) (L' := [some (.inr (.inr (some 79))), some (.inr (.inr (some 1009))), none, none]) (st' := [.inr (.inr (some 1009)), .inl ((dt 79 13) - (dt 79 15))]) (w' := (SH, dt)) rfl ?_
  refine go_callq PM156 PM249 (Q' := _) rfl rfl rfl rfl (sp_J0_length_8abf5_1009 L xs sio (d + 2) dt hI   ) ?_
  rintro _ _ ⟨rfl, h3⟩
  refine ⟨rfl, ?_⟩
  rcases h3 with ⟨rfl, h3⟩
  refine go_ifq PM156 (k := 0) (p1 := 20) (p2 := 16) (L' := [some (.inr (.inr (some 79))), some (.inr (.inr (some 1009))), none, none]) (st' := []) (w' := (SH, dt)) rfl (c_ne (a := (dt 79 13) - (dt 79 15)) (b := 4) ⟨by omega, by omega⟩ ⟨by decide, by decide⟩) (fun c5 => ?_) (fun c5 => ?_)
  · skip
    replace c5 := hid c5
    refine go_toq PM156 (k := 4) (pc' := 24) (L' := [some (.inr (.inr (some 79))), some (.inr (.inr (some 1009))), some (.inl 0), some (.inl 0)]) (st' := []) (w' := (SH, dt)) rfl ?_
    have loop44 : ∀ (k_ : Nat) (l24_2 : Int) (l24_3 : Int) (i41 : 0 ≤ l24_2 ∧ l24_2 ≤ 1) (i42 : 0 ≤ l24_3 ∧ l24_3 ≤ 4) (i43 : l24_2 = 0 ∨ dt 79 13 - dt 79 15 = 4), (5 - l24_3).toNat < k_ → GO (am_XX L xs sio) (d + 4) 156 24 [some (.inr (.inr (some 79))), some (.inr (.inr (some 1009))), some (.inl l24_2), some (.inl l24_3)] [] (SH, dt) (fun r w2 => w2 = (SH, dt) ∧ ((∃ v : Int, r = some (.inl v) ∧ (0 ≤ v ∧ v ≤ 1) ∧ True))) := by
      intro k_
      induction k_ with
      | zero => intro l24_2 l24_3 i41 i42 i43 hm; exact absurd hm (Nat.not_lt_zero _)
      | succ k_ ih_loop44 =>
        intro l24_2 l24_3 i41 i42 i43 hm
        replace i43 := hid i43
        refine go_toq PM156 (k := 2) (pc' := 26) (L' := [some (.inr (.inr (some 79))), some (.inr (.inr (some 1009))), some (.inl l24_2), some (.inl l24_3)]) (st' := [.inr (.inr (some 1009)), .inl l24_3]) (w' := (SH, dt)) rfl ?_
        refine go_callq PM156 PM249 (Q' := _) rfl rfl rfl rfl (sp_J0_length_8abf5_1009 L xs sio (d + 2) dt hI   ) ?_
        rintro _ _ ⟨rfl, h45⟩
        refine ⟨rfl, ?_⟩
        rcases h45 with ⟨rfl, h45⟩
        have j51 :  GO (am_XX L xs sio) (d + 4) 156 67 [some (.inr (.inr (some 79))), some (.inr (.inr (some 1009))), some (.inl l24_2), none] [] (SH, dt) (fun r w2 => w2 = (SH, dt) ∧ ((∃ v : Int, r = some (.inl v) ∧ (0 ≤ v ∧ v ≤ 1) ∧ True))) := by
          skip
          refine go_toq PM156 (k := 1) (pc' := 68) (L' := [some (.inr (.inr (some 79))), some (.inr (.inr (some 1009))), some (.inl l24_2), none]) (st' := [.inl l24_2]) (w' := (SH, dt)) rfl ?_
          refine go_retvq PM156 (v := l24_2) rfl (decide_eq_true (show l24_2 = 0 ∨ l24_2 = 1 by omega)) ?_
          exact ⟨rfl, ⟨_, rfl, ⟨by omega, by omega⟩, trivial⟩⟩
        refine go_ifq PM156 (k := 0) (p1 := 67) (p2 := 32) (L' := [some (.inr (.inr (some 79))), some (.inr (.inr (some 1009))), some (.inl l24_2), some (.inl l24_3)]) (st' := []) (w' := (SH, dt)) rfl (c_ge (a := l24_3) (b := 4) (by first | exact bnd i42 (by decide) (by decide) | exact ⟨by fail, by fail⟩) ⟨by decide, by decide⟩) (fun c52 => ?_) (fun c52 => ?_)
        · skip
          exact GO.le (j51 ) ⟨.inl rfl, .inl rfl, .inl rfl, .inr ⟨rfl, trivial⟩, trivial⟩
        · skip
          refine go_ifq PM156 (k := 1) (p1 := 67) (p2 := 36) (L' := [some (.inr (.inr (some 79))), some (.inr (.inr (some 1009))), some (.inl l24_2), some (.inl l24_3)]) (st' := []) (w' := (SH, dt)) rfl (z_eq (a := l24_2) (by first | exact bnd i41 (by decide) (by decide) | exact ⟨by fail, by fail⟩)) (fun c53 => ?_) (fun c53 => ?_)
          · skip
            exact GO.le (j51 ) ⟨.inl rfl, .inl rfl, .inl rfl, .inr ⟨rfl, trivial⟩, trivial⟩
          · skip
            replace c53 := hid c53
            refine go_toq PM156 (k := 6) (pc' := 46) (L' := [some (.inr (.inr (some 79))), some (.inr (.inr (some 1009))), some (.inl l24_2), some (.inl l24_3)]) (st' := [.inl ((dt 79 15) + l24_3), .inr (.inr (some 85))]) (w' := (SH, dt)) rfl ?_
            have r54 : 0 ≤ dt 85 (((dt 79 15) + l24_3).toNat) ∧ dt 85 (((dt 79 15) + l24_3).toNat) ≤ 255 := InvC_get hI 85 (((dt 79 15) + l24_3).toNat) rfl rfl
            refine go_smpq PM156 (L' := [some (.inr (.inr (some 79))), some (.inr (.inr (some 1009))), some (.inl l24_2), some (.inl l24_3)]) (st' := [.inl (dt 85 (((dt 79 15) + l24_3).toNat))]) (w' := (SH, dt)) rfl rfl (s_iald (n := 500) (f := dt 85) rfl ⟨by omega, by (have z0_ := unhid c5; have z1_ := unhid i43; have z2_ := unhid c53; omega)⟩) ?_
            refine go_toq PM156 (k := 2) (pc' := 49) (L' := [some (.inr (.inr (some 79))), some (.inr (.inr (some 1009))), some (.inl l24_2), some (.inl l24_3)]) (st' := [.inl l24_3, .inr (.inr (some 1009)), .inl (dt 85 (((dt 79 15) + l24_3).toNat))]) (w' := (SH, dt)) rfl ?_
            refine go_callq PM156 PM250 (Q' := _) rfl rfl rfl rfl (sp_J0_charAt_5068e_1009 L xs sio (d + 0) dt hI  l24_3 (by first | exact bnd i42 (by decide) (by decide) | exact bndd i42 c52 (by decide) (by decide) | exact ⟨by fail, by fail⟩) ) ?_
            rintro _ _ ⟨rfl, h55⟩
            refine ⟨rfl, ?_⟩
            rcases h55 with ⟨v_h55, rfl, h55r, h55⟩
            refine go_ifq PM156 (k := 0) (p1 := 59) (p2 := 55) (L' := [some (.inr (.inr (some 79))), some (.inr (.inr (some 1009))), some (.inl l24_2), some (.inl l24_3)]) (st' := []) (w' := (SH, dt)) rfl (c_ne (a := dt 85 (((dt 79 15) + l24_3).toNat)) (b := v_h55) (by first | exact bnd r54 (by decide) (by decide) | exact ⟨by fail, by fail⟩) (by first | exact bnd h55r (by decide) (by decide) | exact ⟨by fail, by fail⟩)) (fun c57 => ?_) (fun c57 => ?_)
            · skip
              replace c57 := hid c57
              refine go_toq PM156 (k := 4) (pc' := 24) (L' := [some (.inr (.inr (some 79))), some (.inr (.inr (some 1009))), some (.inl 0), some (.inl (l24_3 + 1))]) (st' := []) (w' := (SH, dt)) rfl ?_
              exact GO.le (ih_loop44 0 (l24_3 + 1) ⟨by decide, by decide⟩ (by first | exact bndp i42 (by decide) (by decide) | exact bnde i42 c52 (by decide) (by decide) | fail) (by omega) (by omega)) ⟨.inl rfl, .inl rfl, .inl rfl, .inl rfl, trivial⟩
            · skip
              refine go_toq PM156 (k := 5) (pc' := 24) (L' := [some (.inr (.inr (some 79))), some (.inr (.inr (some 1009))), some (.inl 1), some (.inl (l24_3 + 1))]) (st' := []) (w' := (SH, dt)) rfl ?_
              exact GO.le (ih_loop44 1 (l24_3 + 1) ⟨by decide, by decide⟩ (by first | exact bndp i42 (by decide) (by decide) | exact bnde i42 c52 (by decide) (by decide) | fail) (by (have z0_ := unhid c5; have z1_ := unhid i43; have z2_ := unhid c53; omega)) (by omega)) ⟨.inl rfl, .inl rfl, .inl rfl, .inl rfl, trivial⟩
    exact GO.le (loop44 _ 0 0 ⟨by decide, by decide⟩ ⟨by decide, by decide⟩ (by omega) (Nat.lt_succ_self _)) ⟨.inl rfl, .inl rfl, .inl rfl, .inl rfl, trivial⟩
  · skip
    refine go_toq PM156 (k := 5) (pc' := 24) (L' := [some (.inr (.inr (some 79))), some (.inr (.inr (some 1009))), some (.inl 1), some (.inl 0)]) (st' := []) (w' := (SH, dt)) rfl ?_
    have loop96 : ∀ (k_ : Nat) (l24_2 : Int) (l24_3 : Int) (i93 : 0 ≤ l24_2 ∧ l24_2 ≤ 1) (i94 : 0 ≤ l24_3 ∧ l24_3 ≤ 4) (i95 : l24_2 = 0 ∨ dt 79 13 - dt 79 15 = 4), (5 - l24_3).toNat < k_ → GO (am_XX L xs sio) (d + 4) 156 24 [some (.inr (.inr (some 79))), some (.inr (.inr (some 1009))), some (.inl l24_2), some (.inl l24_3)] [] (SH, dt) (fun r w2 => w2 = (SH, dt) ∧ ((∃ v : Int, r = some (.inl v) ∧ (0 ≤ v ∧ v ≤ 1) ∧ True))) := by
      intro k_
      induction k_ with
      | zero => intro l24_2 l24_3 i93 i94 i95 hm; exact absurd hm (Nat.not_lt_zero _)
      | succ k_ ih_loop96 =>
        intro l24_2 l24_3 i93 i94 i95 hm
        replace i95 := hid i95
        refine go_toq PM156 (k := 2) (pc' := 26) (L' := [some (.inr (.inr (some 79))), some (.inr (.inr (some 1009))), some (.inl l24_2), some (.inl l24_3)]) (st' := [.inr (.inr (some 1009)), .inl l24_3]) (w' := (SH, dt)) rfl ?_
        refine go_callq PM156 PM249 (Q' := _) rfl rfl rfl rfl (sp_J0_length_8abf5_1009 L xs sio (d + 2) dt hI   ) ?_
        rintro _ _ ⟨rfl, h97⟩
        refine ⟨rfl, ?_⟩
        rcases h97 with ⟨rfl, h97⟩
        have j103 :  GO (am_XX L xs sio) (d + 4) 156 67 [some (.inr (.inr (some 79))), some (.inr (.inr (some 1009))), some (.inl l24_2), none] [] (SH, dt) (fun r w2 => w2 = (SH, dt) ∧ ((∃ v : Int, r = some (.inl v) ∧ (0 ≤ v ∧ v ≤ 1) ∧ True))) := by
          skip
          refine go_toq PM156 (k := 1) (pc' := 68) (L' := [some (.inr (.inr (some 79))), some (.inr (.inr (some 1009))), some (.inl l24_2), none]) (st' := [.inl l24_2]) (w' := (SH, dt)) rfl ?_
          refine go_retvq PM156 (v := l24_2) rfl (decide_eq_true (show l24_2 = 0 ∨ l24_2 = 1 by omega)) ?_
          exact ⟨rfl, ⟨_, rfl, ⟨by omega, by omega⟩, trivial⟩⟩
        refine go_ifq PM156 (k := 0) (p1 := 67) (p2 := 32) (L' := [some (.inr (.inr (some 79))), some (.inr (.inr (some 1009))), some (.inl l24_2), some (.inl l24_3)]) (st' := []) (w' := (SH, dt)) rfl (c_ge (a := l24_3) (b := 4) (by first | exact bnd i94 (by decide) (by decide) | exact ⟨by fail, by fail⟩) ⟨by decide, by decide⟩) (fun c104 => ?_) (fun c104 => ?_)
        · skip
          exact GO.le (j103 ) ⟨.inl rfl, .inl rfl, .inl rfl, .inr ⟨rfl, trivial⟩, trivial⟩
        · skip
          refine go_ifq PM156 (k := 1) (p1 := 67) (p2 := 36) (L' := [some (.inr (.inr (some 79))), some (.inr (.inr (some 1009))), some (.inl l24_2), some (.inl l24_3)]) (st' := []) (w' := (SH, dt)) rfl (z_eq (a := l24_2) (by first | exact bnd i93 (by decide) (by decide) | exact ⟨by fail, by fail⟩)) (fun c105 => ?_) (fun c105 => ?_)
          · skip
            exact GO.le (j103 ) ⟨.inl rfl, .inl rfl, .inl rfl, .inr ⟨rfl, trivial⟩, trivial⟩
          · skip
            replace c105 := hid c105
            refine go_toq PM156 (k := 6) (pc' := 46) (L' := [some (.inr (.inr (some 79))), some (.inr (.inr (some 1009))), some (.inl l24_2), some (.inl l24_3)]) (st' := [.inl ((dt 79 15) + l24_3), .inr (.inr (some 85))]) (w' := (SH, dt)) rfl ?_
            have r106 : 0 ≤ dt 85 (((dt 79 15) + l24_3).toNat) ∧ dt 85 (((dt 79 15) + l24_3).toNat) ≤ 255 := InvC_get hI 85 (((dt 79 15) + l24_3).toNat) rfl rfl
            refine go_smpq PM156 (L' := [some (.inr (.inr (some 79))), some (.inr (.inr (some 1009))), some (.inl l24_2), some (.inl l24_3)]) (st' := [.inl (dt 85 (((dt 79 15) + l24_3).toNat))]) (w' := (SH, dt)) rfl rfl (s_iald (n := 500) (f := dt 85) rfl ⟨by omega, by omega⟩) ?_
            refine go_toq PM156 (k := 2) (pc' := 49) (L' := [some (.inr (.inr (some 79))), some (.inr (.inr (some 1009))), some (.inl l24_2), some (.inl l24_3)]) (st' := [.inl l24_3, .inr (.inr (some 1009)), .inl (dt 85 (((dt 79 15) + l24_3).toNat))]) (w' := (SH, dt)) rfl ?_
            refine go_callq PM156 PM250 (Q' := _) rfl rfl rfl rfl (sp_J0_charAt_5068e_1009 L xs sio (d + 0) dt hI  l24_3 (by first | exact bnd i94 (by decide) (by decide) | exact bndd i94 c104 (by decide) (by decide) | exact ⟨by fail, by fail⟩) ) ?_
            rintro _ _ ⟨rfl, h107⟩
            refine ⟨rfl, ?_⟩
            rcases h107 with ⟨v_h107, rfl, h107r, h107⟩
            refine go_ifq PM156 (k := 0) (p1 := 59) (p2 := 55) (L' := [some (.inr (.inr (some 79))), some (.inr (.inr (some 1009))), some (.inl l24_2), some (.inl l24_3)]) (st' := []) (w' := (SH, dt)) rfl (c_ne (a := dt 85 (((dt 79 15) + l24_3).toNat)) (b := v_h107) (by first | exact bnd r106 (by decide) (by decide) | exact ⟨by fail, by fail⟩) (by first | exact bnd h107r (by decide) (by decide) | exact ⟨by fail, by fail⟩)) (fun c109 => ?_) (fun c109 => ?_)
            · skip
              replace c109 := hid c109
              refine go_toq PM156 (k := 4) (pc' := 24) (L' := [some (.inr (.inr (some 79))), some (.inr (.inr (some 1009))), some (.inl 0), some (.inl (l24_3 + 1))]) (st' := []) (w' := (SH, dt)) rfl ?_
              exact GO.le (ih_loop96 0 (l24_3 + 1) ⟨by decide, by decide⟩ (by first | exact bndp i94 (by decide) (by decide) | exact bnde i94 c104 (by decide) (by decide) | fail) (by omega) (by omega)) ⟨.inl rfl, .inl rfl, .inl rfl, .inl rfl, trivial⟩
            · skip
              refine go_toq PM156 (k := 5) (pc' := 24) (L' := [some (.inr (.inr (some 79))), some (.inr (.inr (some 1009))), some (.inl 1), some (.inl (l24_3 + 1))]) (st' := []) (w' := (SH, dt)) rfl ?_
              exact GO.le (ih_loop96 1 (l24_3 + 1) ⟨by decide, by decide⟩ (by first | exact bndp i94 (by decide) (by decide) | exact bnde i94 c104 (by decide) (by decide) | fail) (by omega) (by omega)) ⟨.inl rfl, .inl rfl, .inl rfl, .inl rfl, trivial⟩
    exact GO.le (loop96 _ 1 0 ⟨by decide, by decide⟩ ⟨by decide, by decide⟩ (by omega) (Nat.lt_succ_self _)) ⟨.inl rfl, .inl rfl, .inl rfl, .inl rfl, trivial⟩
theorem sp_J0_coder_7d493_1010 (L : Nat) (xs : Nat → Int32) (sio : Option Nat) (d : Nat) (dt : Nat → Nat → Int) (hI : InvC dt)    : GO (am_XX L xs sio) (d) 253 0 [some (.inr (.inr (some 1010)))] [] (SH, dt) (fun r w2 => w2 = (SH, dt) ∧ ((r = some (.inl 0) ∧ True))) := by
  refine go_retq PM253 (k := 5) (r := some (.inl 0)) (w1 := (SH, dt)) rfl ?_
  exact ⟨rfl, ⟨rfl, trivial⟩⟩
theorem sp_J0_length_8abf5_1010 (L : Nat) (xs : Nat → Int32) (sio : Option Nat) (d : Nat) (dt : Nat → Nat → Int) (hI : InvC dt)    : GO (am_XX L xs sio) (d + 1) 249 0 [some (.inr (.inr (some 1010)))] [] (SH, dt) (fun r w2 => w2 = (SH, dt) ∧ ((r = some (.inl 4) ∧ True))) := by
  refine go_toq PM249 (k := 4) (pc' := 6) (L' := [some (.inr (.inr (some 1010)))]) (st' := [.inr (.inr (some 1010)), .inl 4]) (w' := (SH, dt)) rfl ?_
  refine go_callq PM249 PM253 (Q' := _) rfl rfl rfl rfl (sp_J0_coder_7d493_1010 L xs sio (d + 0) dt hI   ) ?_
  rintro _ _ ⟨rfl, h1⟩
  refine ⟨rfl, ?_⟩
  rcases h1 with ⟨rfl, h1⟩
  refine go_smpq PM249 (L' := [some (.inr (.inr (some 1010)))]) (st' := [.inl 4]) (w' := (SH, dt)) rfl rfl (s_bshr (v := 4) (by decide)) ?_
  refine go_retq PM249 (k := 0) (r := some (.inl 4)) (w1 := (SH, dt)) rfl ?_
  exact ⟨rfl, ⟨rfl, trivial⟩⟩
theorem sp_J0_isLatin1_aae02_1010 (L : Nat) (xs : Nat → Int32) (sio : Option Nat) (d : Nat) (dt : Nat → Nat → Int) (hI : InvC dt)    : GO (am_XX L xs sio) (d) 254 0 [some (.inr (.inr (some 1010)))] [] (SH, dt) (fun r w2 => w2 = (SH, dt) ∧ ((r = some (.inl 1) ∧ True))) := by
  refine go_retq PM254 (k := 7) (r := some (.inl 1)) (w1 := (SH, dt)) rfl ?_
  exact ⟨rfl, ⟨rfl, trivial⟩⟩
theorem sp_J1_charAt_3b067_1010 (L : Nat) (xs : Nat → Int32) (sio : Option Nat) (d : Nat) (dt : Nat → Nat → Int) (hI : InvC dt)  (p2 : Int) (h_p2 : 0 ≤ p2 ∧ p2 ≤ 3)  : GO (am_XX L xs sio) (d + 2) 256 0 [some (.inr (.inr (some 2010))), some (.inl p2)] [] (SH, dt) (fun r w2 => w2 = (SH, dt) ∧ ((∃ v : Int, r = some (.inl v) ∧ (0 ≤ v ∧ v ≤ 65535) ∧ True))) := by
  refine go_toq PM256 (k := 3) (pc' := 3) (L' := [some (.inr (.inr (some 2010))), some (.inl p2)]) (st' := [.inl 4, .inl p2]) (w' := (SH, dt)) rfl ?_
  refine go_callq PM256 PM255 (Q' := _) rfl rfl rfl rfl (sp_J0_checkIndex_df160 L xs sio (d + 0) dt hI  p2 (by first | exact h_p2 | exact bnd h_p2 (by decide) (by decide) | exact ⟨by fail, by fail⟩) 4 ⟨by decide, by decide⟩ (by first | exact True.intro | with_reducible assumption | rfl | omega | trivial)) ?_
  rintro _ _ ⟨rfl, h1⟩
  refine ⟨rfl, ?_⟩
  rcases h1 with ⟨rfl, h1⟩
  refine go_toq PM256 (k := 2) (pc' := 8) (L' := [some (.inr (.inr (some 2010))), some (.inl p2)]) (st' := [.inl p2, .inr (.inr (some 2010))]) (w' := (SH, dt)) rfl ?_
  have r2 := sby_R 10 (p2).toNat
  refine go_smpq PM256 (L' := [some (.inr (.inr (some 2010))), some (.inl p2)]) (st' := [.inl ((am_Sby.getD 10 []).getD (p2).toNat 0)]) (w' := (SH, dt)) rfl rfl (s_bald (n := 4) (f := fun q => (am_Sby.getD 10 []).getD q 0) rfl (by first | exact bndx h_p2 (by decide) (by decide) | exact ⟨by fail, by fail⟩)) ?_
  have r3 : 0 ≤ am_and ((am_Sby.getD 10 []).getD (p2).toNat 0) 255 ∧ am_and ((am_Sby.getD 10 []).getD (p2).toNat 0) 255 ≤ 255 := and_R255
  have r4 := i2c_R (am_and ((am_Sby.getD 10 []).getD (p2).toNat 0) 255)
  refine go_toq PM256 (k := 3) (pc' := 14) (L' := [some (.inr (.inr (some 2010))), some (.inl p2)]) (st' := [.inl (am_i2c (am_and ((am_Sby.getD 10 []).getD (p2).toNat 0) 255))]) (w' := (SH, dt)) rfl ?_
  refine go_retvq PM256 (v := am_i2c (am_and ((am_Sby.getD 10 []).getD (p2).toNat 0) 255)) rfl (decide_eq_true (show 0 ≤ am_i2c (am_and ((am_Sby.getD 10 []).getD (p2).toNat 0) 255) ∧ am_i2c (am_and ((am_Sby.getD 10 []).getD (p2).toNat 0) 255) < 65536 by omega)) ?_
  exact ⟨rfl, ⟨_, rfl, ⟨by omega, by omega⟩, trivial⟩⟩
theorem sp_J0_charAt_5068e_1010 (L : Nat) (xs : Nat → Int32) (sio : Option Nat) (d : Nat) (dt : Nat → Nat → Int) (hI : InvC dt)  (p1 : Int) (h_p1 : 0 ≤ p1 ∧ p1 ≤ 3)  : GO (am_XX L xs sio) (d + 3) 250 0 [some (.inr (.inr (some 1010))), some (.inl p1)] [] (SH, dt) (fun r w2 => w2 = (SH, dt) ∧ ((∃ v : Int, r = some (.inl v) ∧ (0 ≤ v ∧ v ≤ 65535) ∧ True))) := by
  refine go_toq PM250 (k := 1) (pc' := 1) (L' := [some (.inr (.inr (some 1010))), some (.inl p1)]) (st' := [.inr (.inr (some 1010))]) (w' := (SH, dt)) rfl ?_
  refine go_callq PM250 PM254 (Q' := _) rfl rfl rfl rfl (sp_J0_isLatin1_aae02_1010 L xs sio (d + 2) dt hI   ) ?_
  rintro _ _ ⟨rfl, h1⟩
  refine ⟨rfl, ?_⟩
  rcases h1 with ⟨rfl, h1⟩
  refine go_toq PM250 (k := 4) (pc' := 12) (L' := [some (.inr (.inr (some 1010))), some (.inl p1)]) (st' := [.inl p1, .inr (.inr (some 2010))]) (w' := (SH, dt)) rfl ?_
  refine go_callq PM250 PM256 (Q' := _) rfl rfl rfl rfl (sp_J1_charAt_3b067_1010 L xs sio (d + 0) dt hI  p1 (by first | exact h_p1 | exact bnd h_p1 (by decide) (by decide) | exact ⟨by fail, by fail⟩) ) ?_
  rintro _ _ ⟨rfl, h2⟩
  refine ⟨rfl, ?_⟩
  rcases h2 with ⟨v_h2, rfl, h2r, h2⟩
  refine go_retvq PM250 (v := v_h2) rfl (decide_eq_true (show 0 ≤ v_h2 ∧ v_h2 < 65536 by omega)) ?_
  exact ⟨rfl, ⟨_, rfl, ⟨by omega, by omega⟩, trivial⟩⟩
set_option maxRecDepth 20000 in
theorem sp_X6_is_1010 (L : Nat) (xs : Nat → Int32) (sio : Option Nat) (d : Nat) (dt : Nat → Nat → Int) (hI : InvC dt)   (h_p0 : dt 79 13 ≤ 500) : GO (am_XX L xs sio) (d + 4) 156 0 [some (.inr (.inr (some 79))), some (.inr (.inr (some 1010))), none, none] [] (SH, dt) (fun r w2 => w2 = (SH, dt) ∧ ((∃ v : Int, r = some (.inl v) ∧ (0 ≤ v ∧ v ≤ 1) ∧ True))) := by
  have r1 : 0 ≤ dt 79 13 ∧ dt 79 13 ≤ 501 := InvC_get hI 79 13 rfl rfl
  have r2 : 0 ≤ dt 79 15 ∧ dt 79 15 ≤ 500 := InvC_get hI 79 15 rfl rfl
  refine go_toq PM156 (k := 6) (pc' := 10) (L' := [some (.inr (.inr (some 79))), some (.inr (.inr (some 1010))), none, none]) (st' := [.inr (.inr (some 1010)), .inl ((dt 79 13) - (dt 79 15))]) (w' := (SH, dt)) rfl ?_
  refine go_callq PM156 PM249 (Q' := _) rfl rfl rfl rfl (sp_J0_length_8abf5_1010 L xs sio (d + 2) dt hI   ) ?_
  rintro _ _ ⟨rfl, h3⟩
  refine ⟨rfl, ?_⟩
  rcases h3 with ⟨rfl, h3⟩
  refine go_ifq PM156 (k := 0) (p1 := 20) (p2 := 16) (L' := [some (.inr (.inr (some 79))), some (.inr (.inr (some 1010))), none, none]) (st' := []) (w' := (SH, dt)) rfl (c_ne (a := (dt 79 13) - (dt 79 15)) (b := 4) ⟨by omega, by omega⟩ ⟨by decide, by decide⟩) (fun c5 => ?_) (fun c5 => ?_)
  · skip
    replace c5 := hid c5
    refine go_toq PM156 (k := 4) (pc' := 24) (L' := [some (.inr (.inr (some 79))), some (.inr (.inr (some 1010))), some (.inl 0), some (.inl 0)]) (st' := []) (w' := (SH, dt)) rfl ?_
    have loop44 : ∀ (k_ : Nat) (l24_2 : Int) (l24_3 : Int) (i41 : 0 ≤ l24_2 ∧ l24_2 ≤ 1) (i42 : 0 ≤ l24_3 ∧ l24_3 ≤ 4) (i43 : l24_2 = 0 ∨ dt 79 13 - dt 79 15 = 4), (5 - l24_3).toNat < k_ → GO (am_XX L xs sio) (d + 4) 156 24 [some (.inr (.inr (some 79))), some (.inr (.inr (some 1010))), some (.inl l24_2), some (.inl l24_3)] [] (SH, dt) (fun r w2 => w2 = (SH, dt) ∧ ((∃ v : Int, r = some (.inl v) ∧ (0 ≤ v ∧ v ≤ 1) ∧ True))) := by
      intro k_
      induction k_ with
      | zero => intro l24_2 l24_3 i41 i42 i43 hm; exact absurd hm (Nat.not_lt_zero _)
      | succ k_ ih_loop44 =>
        intro l24_2 l24_3 i41 i42 i43 hm
        replace i43 := hid i43
        refine go_toq PM156 (k := 2) (pc' := 26) (L' := [some (.inr (.inr (some 79))), some (.inr (.inr (some 1010))), some (.inl l24_2), some (.inl l24_3)]) (st' := [.inr (.inr (some 1010)), .inl l24_3]) (w' := (SH, dt)) rfl ?_
        refine go_callq PM156 PM249 (Q' := _) rfl rfl rfl rfl (sp_J0_length_8abf5_1010 L xs sio (d + 2) dt hI   ) ?_
        rintro _ _ ⟨rfl, h45⟩
        refine ⟨rfl, ?_⟩
        rcases h45 with ⟨rfl, h45⟩
        have j51 :  GO (am_XX L xs sio) (d + 4) 156 67 [some (.inr (.inr (some 79))), some (.inr (.inr (some 1010))), some (.inl l24_2), none] [] (SH, dt) (fun r w2 => w2 = (SH, dt) ∧ ((∃ v : Int, r = some (.inl v) ∧ (0 ≤ v ∧ v ≤ 1) ∧ True))) := by
          skip
          refine go_toq PM156 (k := 1) (pc' := 68) (L' := [some (.inr (.inr (some 79))), some (.inr (.inr (some 1010))), some (.inl l24_2), none]) (st' := [.inl l24_2]) (w' := (SH, dt)) rfl ?_
          refine go_retvq PM156 (v := l24_2) rfl (decide_eq_true (show l24_2 = 0 ∨ l24_2 = 1 by omega)) ?_
          exact ⟨rfl, ⟨_, rfl, ⟨by omega, by omega⟩, trivial⟩⟩
        refine go_ifq PM156 (k := 0) (p1 := 67) (p2 := 32) (L' := [some (.inr (.inr (some 79))), some (.inr (.inr (some 1010))), some (.inl l24_2), some (.inl l24_3)]) (st' := []) (w' := (SH, dt)) rfl (c_ge (a := l24_3) (b := 4) (by first | exact bnd i42 (by decide) (by decide) | exact ⟨by fail, by fail⟩) ⟨by decide, by decide⟩) (fun c52 => ?_) (fun c52 => ?_)
        · skip
          exact GO.le (j51 ) ⟨.inl rfl, .inl rfl, .inl rfl, .inr ⟨rfl, trivial⟩, trivial⟩
        · skip
          refine go_ifq PM156 (k := 1) (p1 := 67) (p2 := 36) (L' := [some (.inr (.inr (some 79))), some (.inr (.inr (some 1010))), some (.inl l24_2), some (.inl l24_3)]) (st' := []) (w' := (SH, dt)) rfl (z_eq (a := l24_2) (by first | exact bnd i41 (by decide) (by decide) | exact ⟨by fail, by fail⟩)) (fun c53 => ?_) (fun c53 => ?_)
          · skip
            exact GO.le (j51 ) ⟨.inl rfl, .inl rfl, .inl rfl, .inr ⟨rfl, trivial⟩, trivial⟩
          · skip
            replace c53 := hid c53
            refine go_toq PM156 (k := 6) (pc' := 46) (L' := [some (.inr (.inr (some 79))), some (.inr (.inr (some 1010))), some (.inl l24_2), some (.inl l24_3)]) (st' := [.inl ((dt 79 15) + l24_3), .inr (.inr (some 85))]) (w' := (SH, dt)) rfl ?_
            have r54 : 0 ≤ dt 85 (((dt 79 15) + l24_3).toNat) ∧ dt 85 (((dt 79 15) + l24_3).toNat) ≤ 255 := InvC_get hI 85 (((dt 79 15) + l24_3).toNat) rfl rfl
            refine go_smpq PM156 (L' := [some (.inr (.inr (some 79))), some (.inr (.inr (some 1010))), some (.inl l24_2), some (.inl l24_3)]) (st' := [.inl (dt 85 (((dt 79 15) + l24_3).toNat))]) (w' := (SH, dt)) rfl rfl (s_iald (n := 500) (f := dt 85) rfl ⟨by omega, by (have z0_ := unhid c5; have z1_ := unhid i43; have z2_ := unhid c53; omega)⟩) ?_
            refine go_toq PM156 (k := 2) (pc' := 49) (L' := [some (.inr (.inr (some 79))), some (.inr (.inr (some 1010))), some (.inl l24_2), some (.inl l24_3)]) (st' := [.inl l24_3, .inr (.inr (some 1010)), .inl (dt 85 (((dt 79 15) + l24_3).toNat))]) (w' := (SH, dt)) rfl ?_
            refine go_callq PM156 PM250 (Q' := _) rfl rfl rfl rfl (sp_J0_charAt_5068e_1010 L xs sio (d + 0) dt hI  l24_3 (by first | exact bnd i42 (by decide) (by decide) | exact bndd i42 c52 (by decide) (by decide) | exact ⟨by fail, by fail⟩) ) ?_
            rintro _ _ ⟨rfl, h55⟩
            refine ⟨rfl, ?_⟩
            rcases h55 with ⟨v_h55, rfl, h55r, h55⟩
            refine go_ifq PM156 (k := 0) (p1 := 59) (p2 := 55) (L' := [some (.inr (.inr (some 79))), some (.inr (.inr (some 1010))), some (.inl l24_2), some (.inl l24_3)]) (st' := []) (w' := (SH, dt)) rfl (c_ne (a := dt 85 (((dt 79 15) + l24_3).toNat)) (b := v_h55) (by first | exact bnd r54 (by decide) (by decide) | exact ⟨by fail, by fail⟩) (by first | exact bnd h55r (by decide) (by decide) | exact ⟨by fail, by fail⟩)) (fun c57 => ?_) (fun c57 => ?_)
            · skip
              replace c57 := hid c57
              refine go_toq PM156 (k := 4) (pc' := 24) (L' := [some (.inr (.inr (some 79))), some (.inr (.inr (some 1010))), some (.inl 0), some (.inl (l24_3 + 1))]) (st' := []) (w' := (SH, dt)) rfl ?_
              exact GO.le (ih_loop44 0 (l24_3 + 1) ⟨by decide, by decide⟩ (by first | exact bndp i42 (by decide) (by decide) | exact bnde i42 c52 (by decide) (by decide) | fail) (by omega) (by omega)) ⟨.inl rfl, .inl rfl, .inl rfl, .inl rfl, trivial⟩
            · skip
              refine go_toq PM156 (k := 5) (pc' := 24) (L' := [some (.inr (.inr (some 79))), some (.inr (.inr (some 1010))), some (.inl 1), some (.inl (l24_3 + 1))]) (st' := []) (w' := (SH, dt)) rfl ?_
              exact GO.le (ih_loop44 1 (l24_3 + 1) ⟨by decide, by decide⟩ (by first | exact bndp i42 (by decide) (by decide) | exact bnde i42 c52 (by decide) (by decide) | fail) (by (have z0_ := unhid c5; have z1_ := unhid i43; have z2_ := unhid c53; omega)) (by omega)) ⟨.inl rfl, .inl rfl, .inl rfl, .inl rfl, trivial⟩
    exact GO.le (loop44 _ 0 0 ⟨by decide, by decide⟩ ⟨by decide, by decide⟩ (by omega) (Nat.lt_succ_self _)) ⟨.inl rfl, .inl rfl, .inl rfl, .inl rfl, trivial⟩
  · skip
    refine go_toq PM156 (k := 5) (pc' := 24) (L' := [some (.inr (.inr (some 79))), some (.inr (.inr (some 1010))), some (.inl 1), some (.inl 0)]) (st' := []) (w' := (SH, dt)) rfl ?_
    have loop96 : ∀ (k_ : Nat) (l24_2 : Int) (l24_3 : Int) (i93 : 0 ≤ l24_2 ∧ l24_2 ≤ 1) (i94 : 0 ≤ l24_3 ∧ l24_3 ≤ 4) (i95 : l24_2 = 0 ∨ dt 79 13 - dt 79 15 = 4), (5 - l24_3).toNat < k_ → GO (am_XX L xs sio) (d + 4) 156 24 [some (.inr (.inr (some 79))), some (.inr (.inr (some 1010))), some (.inl l24_2), some (.inl l24_3)] [] (SH, dt) (fun r w2 => w2 = (SH, dt) ∧ ((∃ v : Int, r = some (.inl v) ∧ (0 ≤ v ∧ v ≤ 1) ∧ True))) := by
      intro k_
      induction k_ with
      | zero => intro l24_2 l24_3 i93 i94 i95 hm; exact absurd hm (Nat.not_lt_zero _)
      | succ k_ ih_loop96 =>
        intro l24_2 l24_3 i93 i94 i95 hm
        replace i95 := hid i95
        refine go_toq PM156 (k := 2) (pc' := 26) (L' := [some (.inr (.inr (some 79))), some (.inr (.inr (some 1010))), some (.inl l24_2), some (.inl l24_3)]) (st' := [.inr (.inr (some 1010)), .inl l24_3]) (w' := (SH, dt)) rfl ?_
        refine go_callq PM156 PM249 (Q' := _) rfl rfl rfl rfl (sp_J0_length_8abf5_1010 L xs sio (d + 2) dt hI   ) ?_
        rintro _ _ ⟨rfl, h97⟩
        refine ⟨rfl, ?_⟩
        rcases h97 with ⟨rfl, h97⟩
        have j103 :  GO (am_XX L xs sio) (d + 4) 156 67 [some (.inr (.inr (some 79))), some (.inr (.inr (some 1010))), some (.inl l24_2), none] [] (SH, dt) (fun r w2 => w2 = (SH, dt) ∧ ((∃ v : Int, r = some (.inl v) ∧ (0 ≤ v ∧ v ≤ 1) ∧ True))) := by
          skip
          refine go_toq PM156 (k := 1) (pc' := 68) (L' := [some (.inr (.inr (some 79))), some (.inr (.inr (some 1010))), some (.inl l24_2), none]) (st' := [.inl l24_2]) (w' := (SH, dt)) rfl ?_
          refine go_retvq PM156 (v := l24_2) rfl (decide_eq_true (show l24_2 = 0 ∨ l24_2 = 1 by omega)) ?_
          exact ⟨rfl, ⟨_, rfl, ⟨by omega, by omega⟩, trivial⟩⟩
        refine go_ifq PM156 (k := 0) (p1 := 67) (p2 := 32) (L' := [some (.inr (.inr (some 79))), some (.inr (.inr (some 1010))), some (.inl l24_2), some (.inl l24_3)]) (st' := []) (w' := (SH, dt)) rfl (c_ge (a := l24_3) (b := 4) (by first | exact bnd i94 (by decide) (by decide) | exact ⟨by fail, by fail⟩) ⟨by decide, by decide⟩) (fun c104 => ?_) (fun c104 => ?_)
        · skip
          exact GO.le (j103 ) ⟨.inl rfl, .inl rfl, .inl rfl, .inr ⟨rfl, trivial⟩, trivial⟩
        · skip
          refine go_ifq PM156 (k := 1) (p1 := 67) (p2 := 36) (L' := [some (.inr (.inr (some 79))), some (.inr (.inr (some 1010))), some (.inl l24_2), some (.inl l24_3)]) (st' := []) (w' := (SH, dt)) rfl (z_eq (a := l24_2) (by first | exact bnd i93 (by decide) (by decide) | exact ⟨by fail, by fail⟩)) (fun c105 => ?_) (fun c105 => ?_)
          · skip
            exact GO.le (j103 ) ⟨.inl rfl, .inl rfl, .inl rfl, .inr ⟨rfl, trivial⟩, trivial⟩
          · skip
            replace c105 := hid c105
            refine go_toq PM156 (k := 6) (pc' := 46) (L' := [some (.inr (.inr (some 79))), some (.inr (.inr (some 1010))), some (.inl l24_2), some (.inl l24_3)]) (st' := [.inl ((dt 79 15) + l24_3), .inr (.inr (some 85))]) (w' := (SH, dt)) rfl ?_
            have r106 : 0 ≤ dt 85 (((dt 79 15) + l24_3).toNat) ∧ dt 85 (((dt 79 15) + l24_3).toNat) ≤ 255 := InvC_get hI 85 (((dt 79 15) + l24_3).toNat) rfl rfl
            refine go_smpq PM156 (L' := [some (.inr (.inr (some 79))), some (.inr (.inr (some 1010))), some (.inl l24_2), some (.inl l24_3)]) (st' := [.inl (dt 85 (((dt 79 15) + l24_3).toNat))]) (w' := (SH, dt)) rfl rfl (s_iald (n := 500) (f := dt 85) rfl ⟨by omega, by omega⟩) ?_
            refine go_toq PM156 (k := 2) (pc' := 49) (L' := [some (.inr (.inr (some 79))), some (.inr (.inr (some 1010))), some (.inl l24_2), some (.inl l24_3)]) (st' := [.inl l24_3, .inr (.inr (some 1010)), .inl (dt 85 (((dt 79 15) + l24_3).toNat))]) (w' := (SH, dt)) rfl ?_
            refine go_callq PM156 PM250 (Q' := _) rfl rfl rfl rfl (sp_J0_charAt_5068e_1010 L xs sio (d + 0) dt hI  l24_3 (by first | exact bnd i94 (by decide) (by decide) | exact bndd i94 c104 (by decide) (by decide) | exact ⟨by fail, by fail⟩) ) ?_
            rintro _ _ ⟨rfl, h107⟩
            refine ⟨rfl, ?_⟩
            rcases h107 with ⟨v_h107, rfl, h107r, h107⟩
            refine go_ifq PM156 (k := 0) (p1 := 59) (p2 := 55) (L' := [some (.inr (.inr (some 79))), some (.inr (.inr (some 1010))), some (.inl l24_2), some (.inl l24_3)]) (st' := []) (w' := (SH, dt)) rfl (c_ne (a := dt 85 (((dt 79 15) + l24_3).toNat)) (b := v_h107) (by first | exact bnd r106 (by decide) (by decide) | exact ⟨by fail, by fail⟩) (by first | exact bnd h107r (by decide) (by decide) | exact ⟨by fail, by fail⟩)) (fun c109 => ?_) (fun c109 => ?_)
            · skip
              replace c109 := hid c109
              refine go_toq PM156 (k := 4) (pc' := 24) (L' := [some (.inr (.inr (some 79))), some (.inr (.inr (some 1010))), some (.inl 0), some (.inl (l24_3 + 1))]) (st' := []) (w' := (SH, dt)) rfl ?_
              exact GO.le (ih_loop96 0 (l24_3 + 1) ⟨by decide, by decide⟩ (by first | exact bndp i94 (by decide) (by decide) | exact bnde i94 c104 (by decide) (by decide) | fail) (by omega) (by omega)) ⟨.inl rfl, .inl rfl, .inl rfl, .inl rfl, trivial⟩
            · skip
              refine go_toq PM156 (k := 5) (pc' := 24) (L' := [some (.inr (.inr (some 79))), some (.inr (.inr (some 1010))), some (.inl 1), some (.inl (l24_3 + 1))]) (st' := []) (w' := (SH, dt)) rfl ?_
              exact GO.le (ih_loop96 1 (l24_3 + 1) ⟨by decide, by decide⟩ (by first | exact bndp i94 (by decide) (by decide) | exact bnde i94 c104 (by decide) (by decide) | fail) (by omega) (by omega)) ⟨.inl rfl, .inl rfl, .inl rfl, .inl rfl, trivial⟩
    exact GO.le (loop96 _ 1 0 ⟨by decide, by decide⟩ ⟨by decide, by decide⟩ (by omega) (Nat.lt_succ_self _)) ⟨.inl rfl, .inl rfl, .inl rfl, .inl rfl, trivial⟩
theorem sp_J0_coder_7d493_1011 (L : Nat) (xs : Nat → Int32) (sio : Option Nat) (d : Nat) (dt : Nat → Nat → Int) (hI : InvC dt)    : GO (am_XX L xs sio) (d) 253 0 [some (.inr (.inr (some 1011)))] [] (SH, dt) (fun r w2 => w2 = (SH, dt) ∧ ((r = some (.inl 0) ∧ True))) := by
  refine go_retq PM253 (k := 5) (r := some (.inl 0)) (w1 := (SH, dt)) rfl ?_
  exact ⟨rfl, ⟨rfl, trivial⟩⟩
theorem sp_J0_length_8abf5_1011 (L : Nat) (xs : Nat → Int32) (sio : Option Nat) (d : Nat) (dt : Nat → Nat → Int) (hI : InvC dt)    : GO (am_XX L xs sio) (d + 1) 249 0 [some (.inr (.inr (some 1011)))] [] (SH, dt) (fun r w2 => w2 = (SH, dt) ∧ ((r = some (.inl 4) ∧ True))) := by
  refine go_toq PM249 (k := 4) (pc' := 6) (L' := [some (.inr (.inr (some 1011)))]) (st' := [.inr (.inr (some 1011)), .inl 4]) (w' := (SH, dt)) rfl ?_
  refine go_callq PM249 PM253 (Q' := _) rfl rfl rfl rfl (sp_J0_coder_7d493_1011 L xs sio (d + 0) dt hI   ) ?_
  rintro _ _ ⟨rfl, h1⟩
  refine ⟨rfl, ?_⟩
  rcases h1 with ⟨rfl, h1⟩
  refine go_smpq PM249 (L' := [some (.inr (.inr (some 1011)))]) (st' := [.inl 4]) (w' := (SH, dt)) rfl rfl (s_bshr (v := 4) (by decide)) ?_
  refine go_retq PM249 (k := 0) (r := some (.inl 4)) (w1 := (SH, dt)) rfl ?_
  exact ⟨rfl, ⟨rfl, trivial⟩⟩
theorem sp_J0_isLatin1_aae02_1011 (L : Nat) (xs : Nat → Int32) (sio : Option Nat) (d : Nat) (dt : Nat → Nat → Int) (hI : InvC dt)    : GO (am_XX L xs sio) (d) 254 0 [some (.inr (.inr (some 1011)))] [] (SH, dt) (fun r w2 => w2 = (SH, dt) ∧ ((r = some (.inl 1) ∧ True))) := by
  refine go_retq PM254 (k := 7) (r := some (.inl 1)) (w1 := (SH, dt)) rfl ?_
  exact ⟨rfl, ⟨rfl, trivial⟩⟩
theorem sp_J1_charAt_3b067_1011 (L : Nat) (xs : Nat → Int32) (sio : Option Nat) (d : Nat) (dt : Nat → Nat → Int) (hI : InvC dt)  (p2 : Int) (h_p2 : 0 ≤ p2 ∧ p2 ≤ 3)  : GO (am_XX L xs sio) (d + 2) 256 0 [some (.inr (.inr (some 2011))), some (.inl p2)] [] (SH, dt) (fun r w2 => w2 = (SH, dt) ∧ ((∃ v : Int, r = some (.inl v) ∧ (0 ≤ v ∧ v ≤ 65535) ∧ True))) := by
  refine go_toq PM256 (k := 3) (pc' := 3) (L' := [some (.inr (.inr (some 2011))), some (.inl p2)]) (st' := [.inl 4, .inl p2]) (w' := (SH, dt)) rfl ?_
  refine go_callq PM256 PM255 (Q' := _) rfl rfl rfl rfl (sp_J0_checkIndex_df160 L xs sio (d + 0) dt hI  p2 (by first | exact h_p2 | exact bnd h_p2 (by decide) (by decide) | exact ⟨by fail, by fail⟩) 4 ⟨by decide, by decide⟩ (by first | exact True.intro | with_reducible assumption | rfl | omega | trivial)) ?_
  rintro _ _ ⟨rfl, h1⟩
  refine ⟨rfl, ?_⟩
  rcases h1 with ⟨rfl, h1⟩
  refine go_toq PM256 (k := 2) (pc' := 8) (L' := [some (.inr (.inr (some 2011))), some (.inl p2)]) (st' := [.inl p2, .inr (.inr (some 2011))]) (w' := (SH, dt)) rfl ?_
  have r2 := sby_R 11 (p2).toNat
  refine go_smpq PM256 (L' := [some (.inr (.inr (some 2011))), some (.inl p2)]) (st' := [.inl ((am_Sby.getD 11 []).getD (p2).toNat 0)]) (w' := (SH, dt)) rfl rfl (s_bald (n := 4) (f := fun q => (am_Sby.getD 11 []).getD q 0) rfl (by first | exact bndx h_p2 (by decide) (by decide) | exact ⟨by fail, by fail⟩)) ?_
  have r3 : 0 ≤ am_and ((am_Sby.getD 11 []).getD (p2).toNat 0) 255 ∧ am_and ((am_Sby.getD 11 []).getD (p2).toNat 0) 255 ≤ 255 := and_R255
  have r4 := i2c_R (am_and ((am_Sby.getD 11 []).getD (p2).toNat 0) 255)
  refine go_toq PM256 (k := 3) (pc' := 14) (L' := [some (.inr (.inr (some 2011))), some (.inl p2)]) (st' := [.inl (am_i2c (am_and ((am_Sby.getD 11 []).getD (p2).toNat 0) 255))]) (w' := (SH, dt)) rfl ?_
  refine go_retvq PM256 (v := am_i2c (am_and ((am_Sby.getD 11 []).getD (p2).toNat 0) 255)) rfl (decide_eq_true (show 0 ≤ am_i2c (am_and ((am_Sby.getD 11 []).getD (p2).toNat 0) 255) ∧ am_i2c (am_and ((am_Sby.getD 11 []).getD (p2).toNat 0) 255) < 65536 by omega)) ?_
  exact ⟨rfl, ⟨_, rfl, ⟨by omega, by omega⟩, trivial⟩⟩
theorem sp_J0_charAt_5068e_1011 (L : Nat) (xs : Nat → Int32) (sio : Option Nat) (d : Nat) (dt : Nat → Nat → Int) (hI : InvC dt)  (p1 : Int) (h_p1 : 0 ≤ p1 ∧ p1 ≤ 3)  : GO (am_XX L xs sio) (d + 3) 250 0 [some (.inr (.inr (some 1011))), some (.inl p1)] [] (SH, dt) (fun r w2 => w2 = (SH, dt) ∧ ((∃ v : Int, r = some (.inl v) ∧ (0 ≤ v ∧ v ≤ 65535) ∧ True))) := by
  refine go_toq PM250 (k := 1) (pc' := 1) (L' := [some (.inr (.inr (some 1011))), some (.inl p1)]) (st' := [.inr (.inr (some 1011))]) (w' := (SH, dt)) rfl ?_
  refine go_callq PM250 PM254 (Q' := _) rfl rfl rfl rfl (sp_J0_isLatin1_aae02_1011 L xs sio (d + 2) dt hI   ) ?_
  rintro _ _ ⟨rfl, h1⟩
  refine ⟨rfl, ?_⟩
  rcases h1 with ⟨rfl, h1⟩
  refine go_toq PM250 (k := 4) (pc' := 12) (L' := [some (.inr (.inr (some 1011))), some (.inl p1)]) (st' := [.inl p1, .inr (.inr (some 2011))]) (w' := (SH, dt)) rfl ?_
  refine go_callq PM250 PM256 (Q' := _) rfl rfl rfl rfl (sp_J1_charAt_3b067_1011 L xs sio (d + 0) dt hI  p1 (by first | exact h_p1 | exact bnd h_p1 (by decide) (by decide) | exact ⟨by fail, by fail⟩) ) ?_
  rintro _ _ ⟨rfl, h2⟩
  refine ⟨rfl, ?_⟩
  rcases h2 with ⟨v_h2, rfl, h2r, h2⟩
  refine go_retvq PM250 (v := v_h2) rfl (decide_eq_true (show 0 ≤ v_h2 ∧ v_h2 < 65536 by omega)) ?_
  exact ⟨rfl, ⟨_, rfl, ⟨by omega, by omega⟩, trivial⟩⟩
set_option maxRecDepth 20000 in
theorem sp_X6_is_1011 (L : Nat) (xs : Nat → Int32) (sio : Option Nat) (d : Nat) (dt : Nat → Nat → Int) (hI : InvC dt)   (h_p0 : dt 79 13 ≤ 500) : GO (am_XX L xs sio) (d + 4) 156 0 [some (.inr (.inr (some 79))), some (.inr (.inr (some 1011))), none, none] [] (SH, dt) (fun r w2 => w2 = (SH, dt) ∧ ((∃ v : Int, r = some (.inl v) ∧ (0 ≤ v ∧ v ≤ 1) ∧ True))) := by
  have r1 : 0 ≤ dt 79 13 ∧ dt 79 13 ≤ 501 := InvC_get hI 79 13 rfl rfl
  have r2 : 0 ≤ dt 79 15 ∧ dt 79 15 ≤ 500 := InvC_get hI 79 15 rfl rfl
  refine go_toq PM156 (k := 6) (pc' := 10) (L' := [some (.inr (.inr (some 79))), some (.inr (.inr (some 1011))), none, none]) (st' := [.inr (.inr (some 1011)), .inl ((dt 79 13) - (dt 79 15))]) (w' := (SH, dt)) rfl ?_
  refine go_callq PM156 PM249 (Q' := _) rfl rfl rfl rfl (sp_J0_length_8abf5_1011 L xs sio (d + 2) dt hI   ) ?_
  rintro _ _ ⟨rfl, h3⟩
  refine ⟨rfl, ?_⟩
  rcases h3 with ⟨rfl, h3⟩
  refine go_ifq PM156 (k := 0) (p1 := 20) (p2 := 16) (L' := [some (.inr (.inr (some 79))), some (.inr (.inr (some 1011))), none, none]) (st' := []) (w' := (SH, dt)) rfl (c_ne (a := (dt 79 13) - (dt 79 15)) (b := 4) ⟨by omega, by omega⟩ ⟨by decide, by decide⟩) (fun c5 => ?_) (fun c5 => ?_)
  · skip
    replace c5 := hid c5
    refine go_toq PM156 (k := 4) (pc' := 24) (L' := [some (.inr (.inr (some 79))), some (.inr (.inr (some 1011))), some (.inl 0), some (.inl 0)]) (st' := []) (w' := (SH, dt)) rfl ?_
    have loop44 : ∀ (k_ : Nat) (l24_2 : Int) (l24_3 : Int) (i41 : 0 ≤ l24_2 ∧ l24_2 ≤ 1) (i42 : 0 ≤ l24_3 ∧ l24_3 ≤ 4) (i43 : l24_2 = 0 ∨ dt 79 13 - dt 79 15 = 4), (5 - l24_3).toNat < k_ → GO (am_XX L xs sio) (d + 4) 156 24 [some (.inr (.inr (some 79))), some (.inr (.inr (some 1011))), some (.inl l24_2), some (.inl l24_3)] [] (SH, dt) (fun r w2 => w2 = (SH, dt) ∧ ((∃ v : Int, r = some (.inl v) ∧ (0 ≤ v ∧ v ≤ 1) ∧ True))) := by
      intro k_
      induction k_ with
      | zero => intro l24_2 l24_3 i41 i42 i43 hm; exact absurd hm (Nat.not_lt_zero _)
      | succ k_ ih_loop44 =>
        intro l24_2 l24_3 i41 i42 i43 hm
        replace i43 := hid i43
        refine go_toq PM156 (k := 2) (pc' := 26) (L' := [some (.inr (.inr (some 79))), some (.inr (.inr (some 1011))), some (.inl l24_2), some (.inl l24_3)]) (st' := [.inr (.inr (some 1011)), .inl l24_3]) (w' := (SH, dt)) rfl ?_
        refine go_callq PM156 PM249 (Q' := _) rfl rfl rfl rfl (sp_J0_length_8abf5_1011 L xs sio (d + 2) dt hI   ) ?_
        rintro _ _ ⟨rfl, h45⟩
        refine ⟨rfl, ?_⟩
        rcases h45 with ⟨rfl, h45⟩
        have j51 :  GO (am_XX L xs sio) (d + 4) 156 67 [some (.inr (.inr (some 79))), some (.inr (.inr (some 1011))), some (.inl l24_2), none] [] (SH, dt) (fun r w2 => w2 = (SH, dt) ∧ ((∃ v : Int, r = some (.inl v) ∧ (0 ≤ v ∧ v ≤ 1) ∧ True))) := by
          skip
          refine go_toq PM156 (k := 1) (pc' := 68) (L' := [some (.inr (.inr (some 79))), some (.inr (.inr (some 1011))), some (.inl l24_2), none]) (st' := [.inl l24_2]) (w' := (SH, dt)) rfl ?_
          refine go_retvq PM156 (v := l24_2) rfl (decide_eq_true (show l24_2 = 0 ∨ l24_2 = 1 by omega)) ?_
          exact ⟨rfl, ⟨_, rfl, ⟨by omega, by omega⟩, trivial⟩⟩
        refine go_ifq PM156 (k := 0) (p1 := 67) (p2 := 32) (L' := [some (.inr (.inr (some 79))), some (.inr (.inr (some 1011))), some (.inl l24_2), some (.inl l24_3)]) (st' := []) (w' := (SH, dt)) rfl (c_ge (a := l24_3) (b := 4) (by first | exact bnd i42 (by decide) (by decide) | exact ⟨by fail, by fail⟩) ⟨by decide, by decide⟩) (fun c52 => ?_) (fun c52 => ?_)
        · skip
          exact GO.le (j51 ) ⟨.inl rfl, .inl rfl, .inl rfl, .inr ⟨rfl, trivial⟩, trivial⟩
        · skip
          refine go_ifq PM156 (k := 1) (p1 := 67) (p2 := 36) (L' := [some (.inr (.inr (some 79))), some (.inr (.inr (some 1011))), some (.inl l24_2), some (.inl l24_3)]) (st' := []) (w' := (SH, dt)) rfl (z_eq (a := l24_2) (by first | exact bnd i41 (by decide) (by decide) | exact ⟨by fail, by fail⟩)) (fun c53 => ?_) (fun c53 => ?_)
          · skip
            exact GO.le (j51 ) ⟨.inl rfl, .inl rfl, .inl rfl, .inr ⟨rfl, trivial⟩, trivial⟩
          · skip
            replace c53 := hid c53
            refine go_toq PM156 (k := 6) (pc' := 46) (L' := [some (.inr (.inr (some 79))), some (.inr (.inr (some 1011))), some (.inl l24_2), some (.inl l24_3)]) (st' := [.inl ((dt 79 15) + l24_3), .inr (.inr (some 85))]) (w' := (SH, dt)) rfl ?_
            have r54 : 0 ≤ dt 85 (((dt 79 15) + l24_3).toNat) ∧ dt 85 (((dt 79 15) + l24_3).toNat) ≤ 255 := InvC_get hI 85 (((dt 79 15) + l24_3).toNat) rfl rfl
            refine go_smpq PM156 (L' := [some (.inr (.inr (some 79))), some (.inr (.inr (some 1011))), some (.inl l24_2), some (.inl l24_3)]) (st' := [.inl (dt 85 (((dt 79 15) + l24_3).toNat))]) (w' := (SH, dt)) rfl rfl (s_iald (n := 500) (f := dt 85) rfl ⟨by omega, by (have z0_ := unhid c5; have z1_ := unhid i43; have z2_ := unhid c53; omega)⟩) ?_
            refine go_toq PM156 (k := 2) (pc' := 49) (L' := [some (.inr (.inr (some 79))), some (.inr (.inr (some 1011))), some (.inl l24_2), some (.inl l24_3)]) (st' := [.inl l24_3, .inr (.inr (some 1011)), .inl (dt 85 (((dt 79 15) + l24_3).toNat))]) (w' := (SH, dt)) rfl ?_
            refine go_callq PM156 PM250 (Q' := _) rfl rfl rfl rfl (sp_J0_charAt_5068e_1011 L xs sio (d + 0) dt hI  l24_3 (by first | exact bnd i42 (by decide) (by decide) | exact bndd i42 c52 (by decide) (by decide) | exact ⟨by fail, by fail⟩) ) ?_
            rintro _ _ ⟨rfl, h55⟩
            refine ⟨rfl, ?_⟩
            rcases h55 with ⟨v_h55, rfl, h55r, h55⟩
            refine go_ifq PM156 (k := 0) (p1 := 59) (p2 := 55) (L' := [some (.inr (.inr (some 79))), some (.inr (.inr (some 1011))), some (.inl l24_2), some (.inl l24_3)]) (st' := []) (w' := (SH, dt)) rfl (c_ne (a := dt 85 (((dt 79 15) + l24_3).toNat)) (b := v_h55) (by first | exact bnd r54 (by decide) (by decide) | exact ⟨by fail, by fail⟩) (by first | exact bnd h55r (by decide) (by decide) | exact ⟨by fail, by fail⟩)) (fun c57 => ?_) (fun c57 => ?_)
            · skip
              replace c57 := hid c57
              refine go_toq PM156 (k := 4) (pc' := 24) (L' := [some (.inr (.inr (some 79))), some (.inr (.inr (some 1011))), some (.inl 0), some (.inl (l24_3 + 1))]) (st' := []) (w' := (SH, dt)) rfl ?_
              exact GO.le (ih_loop44 0 (l24_3 + 1) ⟨by decide, by decide⟩ (by first | exact bndp i42 (by decide) (by decide) | exact bnde i42 c52 (by decide) (by decide) | fail) (by omega) (by omega)) ⟨.inl rfl, .inl rfl, .inl rfl, .inl rfl, trivial⟩
            · skip
              refine go_toq PM156 (k := 5) (pc' := 24) (L' := [some (.inr (.inr (some 79))), some (.inr (.inr (some 1011))), some (.inl 1), some (.inl (l24_3 + 1))]) (st' := []) (w' := (SH, dt)) rfl ?_
              exact GO.le (ih_loop44 1 (l24_3 + 1) ⟨by decide, by decide⟩ (by first | exact bndp i42 (by decide) (by decide) | exact bnde i42 c52 (by decide) (by decide) | fail) (by (have z0_ := unhid c5; have z1_ := unhid i43; have z2_ := unhid c53; omega)) (by omega)) ⟨.inl rfl, .inl rfl, .inl rfl, .inl rfl, trivial⟩
    exact GO.le (loop44 _ 0 0 ⟨by decide, by decide⟩ ⟨by decide, by decide⟩ (by omega) (Nat.lt_succ_self _)) ⟨.inl rfl, .inl rfl, .inl rfl, .inl rfl, trivial⟩
  · skip
    refine go_toq PM156 (k := 5) (pc' := 24) (L' := [some (.inr (.inr (some 79))), some (.inr (.inr (some 1011))), some (.inl 1), some (.inl 0)]) (st' := []) (w' := (SH, dt)) rfl ?_
    have loop96 : ∀ (k_ : Nat) (l24_2 : Int) (l24_3 : Int) (i93 : 0 ≤ l24_2 ∧ l24_2 ≤ 1) (i94 : 0 ≤ l24_3 ∧ l24_3 ≤ 4) (i95 : l24_2 = 0 ∨ dt 79 13 - dt 79 15 = 4), (5 - l24_3).toNat < k_ → GO (am_XX L xs sio) (d + 4) 156 24 [some (.inr (.inr (some 79))), some (.inr (.inr (some 1011))), some (.inl l24_2), some (.inl l24_3)] [] (SH, dt) (fun r w2 => w2 = (SH, dt) ∧ ((∃ v : Int, r = some (.inl v) ∧ (0 ≤ v ∧ v ≤ 1) ∧ True))) := by
      intro k_
      induction k_ with
      | zero => intro l24_2 l24_3 i93 i94 i95 hm; exact absurd hm (Nat.not_lt_zero _)
      | succ k_ ih_loop96 =>
        intro l24_2 l24_3 i93 i94 i95 hm
        replace i95 := hid i95
        refine go_toq PM156 (k := 2) (pc' := 26) (L' := [some (.inr (.inr (some 79))), some (.inr (.inr (some 1011))), some (.inl l24_2), some (.inl l24_3)]) (st' := [.inr (.inr (some 1011)), .inl l24_3]) (w' := (SH, dt)) rfl ?_
        refine go_callq PM156 PM249 (Q' := _) rfl rfl rfl rfl (sp_J0_length_8abf5_1011 L xs sio (d + 2) dt hI   ) ?_
        rintro _ _ ⟨rfl, h97⟩
        refine ⟨rfl, ?_⟩
        rcases h97 with ⟨rfl, h97⟩
        have j103 :  GO (am_XX L xs sio) (d + 4) 156 67 [some (.inr (.inr (some 79))), some (.inr (.inr (some 1011))), some (.inl l24_2), none] [] (SH, dt) (fun r w2 => w2 = (SH, dt) ∧ ((∃ v : Int, r = some (.inl v) ∧ (0 ≤ v ∧ v ≤ 1) ∧ True))) := by
          skip
          refine go_toq PM156 (k := 1) (pc' := 68) (L' := [some (.inr (.inr (some 79))), some (.inr (.inr (some 1011))), some (.inl l24_2), none]) (st' := [.inl l24_2]) (w' := (SH, dt)) rfl ?_
          refine go_retvq PM156 (v := l24_2) rfl (decide_eq_true (show l24_2 = 0 ∨ l24_2 = 1 by omega)) ?_
          exact ⟨rfl, ⟨_, rfl, ⟨by omega, by omega⟩, trivial⟩⟩
        refine go_ifq PM156 (k := 0) (p1 := 67) (p2 := 32) (L' := [some (.inr (.inr (some 79))), some (.inr (.inr (some 1011))), some (.inl l24_2), some (.inl l24_3)]) (st' := []) (w' := (SH, dt)) rfl (c_ge (a := l24_3) (b := 4) (by first | exact bnd i94 (by decide) (by decide) | exact ⟨by fail, by fail⟩) ⟨by decide, by decide⟩) (fun c104 => ?_) (fun c104 => ?_)
        · skip
          exact GO.le (j103 ) ⟨.inl rfl, .inl rfl, .inl rfl, .inr ⟨rfl, trivial⟩, trivial⟩
        · skip
          refine go_ifq PM156 (k := 1) (p1 := 67) (p2 := 36) (L' := [some (.inr (.inr (some 79))), some (.inr (.inr (some 1011))), some (.inl l24_2), some (.inl l24_3)]) (st' := []) (w' := (SH, dt)) rfl (z_eq (a := l24_2) (by first | exact bnd i93 (by decide) (by decide) | exact ⟨by fail, by fail⟩)) (fun c105 => ?_) (fun c105 => ?_)
          · skip
            exact GO.le (j103 ) ⟨.inl rfl, .inl rfl, .inl rfl, .inr ⟨rfl, trivial⟩, trivial⟩
          · skip
            replace c105 := hid c105
            refine go_toq PM156 (k := 6) (pc' := 46) (L' := [some (.inr (.inr (some 79))), some (.inr (.inr (some 1011))), some (.inl l24_2), some (.inl l24_3)]) (st' := [.inl ((dt 79 15) + l24_3), .inr (.inr (some 85))]) (w' := (SH, dt)) rfl ?_
            have r106 : 0 ≤ dt 85 (((dt 79 15) + l24_3).toNat) ∧ dt 85 (((dt 79 15) + l24_3).toNat) ≤ 255 := InvC_get hI 85 (((dt 79 15) + l24_3).toNat) rfl rfl
            refine go_smpq PM156 (L' := [some (.inr (.inr (some 79))), some (.inr (.inr (some 1011))), some (.inl l24_2), some (.inl l24_3)]) (st' := [.inl (dt 85 (((dt 79 15) + l24_3).toNat))]) (w' := (SH, dt)) rfl rfl (s_iald (n := 500) (f := dt 85) rfl ⟨by omega, by omega⟩) ?_
            refine go_toq PM156 (k := 2) (pc' := 49) (L' := [some (.inr (.inr (some 79))), some (.inr (.inr (some 1011))), some (.inl l24_2), some (.inl l24_3)]) (st' := [.inl l24_3, .inr (.inr (some 1011)), .inl (dt 85 (((dt 79 15) + l24_3).toNat))]) (w' := (SH, dt)) rfl ?_
            refine go_callq PM156 PM250 (Q' := _) rfl rfl rfl rfl (sp_J0_charAt_5068e_1011 L xs sio (d + 0) dt hI  l24_3 (by first | exact bnd i94 (by decide) (by decide) | exact bndd i94 c104 (by decide) (by decide) | exact ⟨by fail, by fail⟩) ) ?_
            rintro _ _ ⟨rfl, h107⟩
            refine ⟨rfl, ?_⟩
            rcases h107 with ⟨v_h107, rfl, h107r, h107⟩
            refine go_ifq PM156 (k := 0) (p1 := 59) (p2 := 55) (L' := [some (.inr (.inr (some 79))), some (.inr (.inr (some 1011))), some (.inl l24_2), some (.inl l24_3)]) (st' := []) (w' := (SH, dt)) rfl (c_ne (a := dt 85 (((dt 79 15) + l24_3).toNat)) (b := v_h107) (by first | exact bnd r106 (by decide) (by decide) | exact ⟨by fail, by fail⟩) (by first | exact bnd h107r (by decide) (by decide) | exact ⟨by fail, by fail⟩)) (fun c109 => ?_) (fun c109 => ?_)
            · skip
              replace c109 := hid c109
              refine go_toq PM156 (k := 4) (pc' := 24) (L' := [some (.inr (.inr (some 79))), some (.inr (.inr (some 1011))), some (.inl 0), some (.inl (l24_3 + 1))]) (st' := []) (w' := (SH, dt)) rfl ?_
              exact GO.le (ih_loop96 0 (l24_3 + 1) ⟨by decide, by decide⟩ (by first | exact bndp i94 (by decide) (by decide) | exact bnde i94 c104 (by decide) (by decide) | fail) (by omega) (by omega)) ⟨.inl rfl, .inl rfl, .inl rfl, .inl rfl, trivial⟩
            · skip
              refine go_toq PM156 (k := 5) (pc' := 24) (L' := [some (.inr (.inr (some 79))), some (.inr (.inr (some 1011))), some (.inl 1), some (.inl (l24_3 + 1))]) (st' := []) (w' := (SH, dt)) rfl ?_
              exact GO.le (ih_loop96 1 (l24_3 + 1) ⟨by decide, by decide⟩ (by first | exact bndp i94 (by decide) (by decide) | exact bnde i94 c104 (by decide) (by decide) | fail) (by omega) (by omega)) ⟨.inl rfl, .inl rfl, .inl rfl, .inl rfl, trivial⟩
    exact GO.le (loop96 _ 1 0 ⟨by decide, by decide⟩ ⟨by decide, by decide⟩ (by omega) (Nat.lt_succ_self _)) ⟨.inl rfl, .inl rfl, .inl rfl, .inl rfl, trivial⟩
theorem sp_J0_coder_7d493_1012 (L : Nat) (xs : Nat → Int32) (sio : Option Nat) (d : Nat) (dt : Nat → Nat → Int) (hI : InvC dt)    : GO (am_XX L xs sio) (d) 253 0 [some (.inr (.inr (some 1012)))] [] (SH, dt) (fun r w2 => w2 = (SH, dt) ∧ ((r = some (.inl 0) ∧ True))) := by
  refine go_retq PM253 (k := 5) (r := some (.inl 0)) (w1 := (SH, dt)) rfl ?_
  exact ⟨rfl, ⟨rfl, trivial⟩⟩
theorem sp_J0_length_8abf5_1012 (L : Nat) (xs : Nat → Int32) (sio : Option Nat) (d : Nat) (dt : Nat → Nat → Int) (hI : InvC dt)    : GO (am_XX L xs sio) (d + 1) 249 0 [some (.inr (.inr (some 1012)))] [] (SH, dt) (fun r w2 => w2 = (SH, dt) ∧ ((r = some (.inl 4) ∧ True))) := by
  refine go_toq PM249 (k := 4) (pc' := 6) (L' := [some (.inr (.inr (some 1012)))]) (st' := [.inr (.inr (some 1012)), .inl 4]) (w' := (SH, dt)) rfl ?_
  refine go_callq PM249 PM253 (Q' := _) rfl rfl rfl rfl (sp_J0_coder_7d493_1012 L xs sio (d + 0) dt hI   ) ?_
  rintro _ _ ⟨rfl, h1⟩
  refine ⟨rfl, ?_⟩
  rcases h1 with ⟨rfl, h1⟩
  refine go_smpq PM249 (L' := [some (.inr (.inr (some 1012)))]) (st' := [.inl 4]) (w' := (SH, dt)) rfl rfl (s_bshr (v := 4) (by decide)) ?_
  refine go_retq PM249 (k := 0) (r := some (.inl 4)) (w1 := (SH, dt)) rfl ?_
  exact ⟨rfl, ⟨rfl, trivial⟩⟩
theorem sp_J0_isLatin1_aae02_1012 (L : Nat) (xs : Nat → Int32) (sio : Option Nat) (d : Nat) (dt : Nat → Nat → Int) (hI : InvC dt)    : GO (am_XX L xs sio) (d) 254 0 [some (.inr (.inr (some 1012)))] [] (SH, dt) (fun r w2 => w2 = (SH, dt) ∧ ((r = some (.inl 1) ∧ True))) := by
  refine go_retq PM254 (k := 7) (r := some (.inl 1)) (w1 := (SH, dt)) rfl ?_
  exact ⟨rfl, ⟨rfl, trivial⟩⟩
theorem sp_J1_charAt_3b067_1012 (L : Nat) (xs : Nat → Int32) (sio : Option Nat) (d : Nat) (dt : Nat → Nat → Int) (hI : InvC dt)  (p2 : Int) (h_p2 : 0 ≤ p2 ∧ p2 ≤ 3)  : GO (am_XX L xs sio) (d + 2) 256 0 [some (.inr (.inr (some 2012))), some (.inl p2)] [] (SH, dt) (fun r w2 => w2 = (SH, dt) ∧ ((∃ v : Int, r = some (.inl v) ∧ (0 ≤ v ∧ v ≤ 65535) ∧ True))) := by
  refine go_toq PM256 (k := 3) (pc' := 3) (L' := [some (.inr (.inr (some 2012))), some (.inl p2)]) (st' := [.inl 4, .inl p2]) (w' := (SH, dt)) rfl ?_
  refine go_callq PM256 PM255 (Q' := _) rfl rfl rfl rfl (sp_J0_checkIndex_df160 L xs sio (d + 0) dt hI  p2 (by first | exact h_p2 | exact bnd h_p2 (by decide) (by decide) | exact ⟨by fail, by fail⟩) 4 ⟨by decide, by decide⟩ (by first | exact True.intro | with_reducible assumption | rfl | omega | trivial)) ?_
  rintro _ _ ⟨rfl, h1⟩
  refine ⟨rfl, ?_⟩
  rcases h1 with ⟨rfl, h1⟩
  refine go_toq PM256 (k := 2) (pc' := 8) (L' := [some (.inr (.inr (some 2012))), some (.inl p2)]) (st' := [.inl p2, .inr (.inr (some 2012))]) (w' := (SH, dt)) rfl ?_
  have r2 := sby_R 12 (p2).toNat
  refine go_smpq PM256 (L' := [some (.inr (.inr (some 2012))), some (.inl p2)]) (st' := [.inl ((am_Sby.getD 12 []).getD (p2).toNat 0)]) (w' := (SH, dt)) rfl rfl (s_bald (n := 4) (f := fun q => (am_Sby.getD 12 []).getD q 0) rfl (by first | exact bndx h_p2 (by decide) (by decide) | exact ⟨by fail, by fail⟩)) ?_
  have r3 : 0 ≤ am_and ((am_Sby.getD 12 []).getD (p2).toNat 0) 255 ∧ am_and ((am_Sby.getD 12 []).getD (p2).toNat 0) 255 ≤ 255 := and_R255
  have r4 := i2c_R (am_and ((am_Sby.getD 12 []).getD (p2).toNat 0) 255)
  refine go_toq PM256 (k := 3) (pc' := 14) (L' := [some (.inr (.inr (some 2012))), some (.inl p2)]) (st' := [.inl (am_i2c (am_and ((am_Sby.getD 12 []).getD (p2).toNat 0) 255))]) (w' := (SH, dt)) rfl ?_
  refine go_retvq PM256 (v := am_i2c (am_and ((am_Sby.getD 12 []).getD (p2).toNat 0) 255)) rfl (decide_eq_true (show 0 ≤ am_i2c (am_and ((am_Sby.getD 12 []).getD (p2).toNat 0) 255) ∧ am_i2c (am_and ((am_Sby.getD 12 []).getD (p2).toNat 0) 255) < 65536 by omega)) ?_
  exact ⟨rfl, ⟨_, rfl, ⟨by omega, by omega⟩, trivial⟩⟩
theorem sp_J0_charAt_5068e_1012 (L : Nat) (xs : Nat → Int32) (sio : Option Nat) (d : Nat) (dt : Nat → Nat → Int) (hI : InvC dt)  (p1 : Int) (h_p1 : 0 ≤ p1 ∧ p1 ≤ 3)  : GO (am_XX L xs sio) (d + 3) 250 0 [some (.inr (.inr (some 1012))), some (.inl p1)] [] (SH, dt) (fun r w2 => w2 = (SH, dt) ∧ ((∃ v : Int, r = some (.inl v) ∧ (0 ≤ v ∧ v ≤ 65535) ∧ True))) := by
  refine go_toq PM250 (k := 1) (pc' := 1) (L' := [some (.inr (.inr (some 1012))), some (.inl p1)]) (st' := [.inr (.inr (some 1012))]) (w' := (SH, dt)) rfl ?_
  refine go_callq PM250 PM254 (Q' := _) rfl rfl rfl rfl (sp_J0_isLatin1_aae02_1012 L xs sio (d + 2) dt hI   ) ?_
  rintro _ _ ⟨rfl, h1⟩
  refine ⟨rfl, ?_⟩
  rcases h1 with ⟨rfl, h1⟩
  refine go_toq PM250 (k := 4) (pc' := 12) (L' := [some (.inr (.inr (some 1012))), some (.inl p1)]) (st' := [.inl p1, .inr (.inr (some 2012))]) (w' := (SH, dt)) rfl ?_
  refine go_callq PM250 PM256 (Q' := _) rfl rfl rfl rfl (sp_J1_charAt_3b067_1012 L xs sio (d + 0) dt hI  p1 (by first | exact h_p1 | exact bnd h_p1 (by decide) (by decide) | exact ⟨by fail, by fail⟩) ) ?_
  rintro _ _ ⟨rfl, h2⟩
  refine ⟨rfl, ?_⟩
  rcases h2 with ⟨v_h2, rfl, h2r, h2⟩
  refine go_retvq PM250 (v := v_h2) rfl (decide_eq_true (show 0 ≤ v_h2 ∧ v_h2 < 65536 by omega)) ?_
  exact ⟨rfl, ⟨_, rfl, ⟨by omega, by omega⟩, trivial⟩⟩
set_option maxRecDepth 20000 in
theorem sp_X6_is_1012 (L : Nat) (xs : Nat → Int32) (sio : Option Nat) (d : Nat) (dt : Nat → Nat → Int) (hI : InvC dt)   (h_p0 : dt 79 13 ≤ 500) : GO (am_XX L xs sio) (d + 4) 156 0 [some (.inr (.inr (some 79))), some (.inr (.inr (some 1012))), none, none] [] (SH, dt) (fun r w2 => w2 = (SH, dt) ∧ ((∃ v : Int, r = some (.inl v) ∧ (0 ≤ v ∧ v ≤ 1) ∧ True))) := by
  have r1 : 0 ≤ dt 79 13 ∧ dt 79 13 ≤ 501 := InvC_get hI 79 13 rfl rfl
  have r2 : 0 ≤ dt 79 15 ∧ dt 79 15 ≤ 500 := InvC_get hI 79 15 rfl rfl
  refine go_toq PM156 (k := 6) (pc' := 10) (L' := [some (.inr (.inr (some 79))), some (.inr (.inr (some 1012))), none, none]) (st' := [.inr (.inr (some 1012)), .inl ((dt 79 13) - (dt 79 15))]) (w' := (SH, dt)) rfl ?_
  refine go_callq PM156 PM249 (Q' := _) rfl rfl rfl rfl (sp_J0_length_8abf5_1012 L xs sio (d + 2) dt hI   ) ?_
  rintro _ _ ⟨rfl, h3⟩
  refine ⟨rfl, ?_⟩
  rcases h3 with ⟨rfl, h3⟩
  refine go_ifq PM156 (k := 0) (p1 := 20) (p2 := 16) (L' := [some (.inr (.inr (some 79))), some (.inr (.inr (some 1012))), none, none]) (st' := []) (w' := (SH, dt)) rfl (c_ne (a := (dt 79 13) - (dt 79 15)) (b := 4) ⟨by omega, by omega⟩ ⟨by decide, by decide⟩) (fun c5 => ?_) (fun c5 => ?_)
  · skip
    replace c5 := hid c5
    refine go_toq PM156 (k := 4) (pc' := 24) (L' := [some (.inr (.inr (some 79))), some (.inr (.inr (some 1012))), some (.inl 0), some (.inl 0)]) (st' := []) (w' := (SH, dt)) rfl ?_
    have loop44 : ∀ (k_ : Nat) (l24_2 : Int) (l24_3 : Int) (i41 : 0 ≤ l24_2 ∧ l24_2 ≤ 1) (i42 : 0 ≤ l24_3 ∧ l24_3 ≤ 4) (i43 : l24_2 = 0 ∨ dt 79 13 - dt 79 15 = 4), (5 - l24_3).toNat < k_ → GO (am_XX L xs sio) (d + 4) 156 24 [some (.inr (.inr (some 79))), some (.inr (.inr (some 1012))), some (.inl l24_2), some (.inl l24_3)] [] (SH, dt) (fun r w2 => w2 = (SH, dt) ∧ ((∃ v : Int, r = some (.inl v) ∧ (0 ≤ v ∧ v ≤ 1) ∧ True))) := by
      intro k_
      induction k_ with
      | zero => intro l24_2 l24_3 i41 i42 i43 hm; exact absurd hm (Nat.not_lt_zero _)
      | succ k_ ih_loop44 =>
        intro l24_2 l24_3 i41 i42 i43 hm
        replace i43 := hid i43
        refine go_toq PM156 (k := 2) (pc' := 26) (L' := [some (.inr (.inr (some 79))), some (.inr (.inr (some 1012))), some (.inl l24_2), some (.inl l24_3)]) (st' := [.inr (.inr (some 1012)), .inl l24_3]) (w' := (SH, dt)) rfl ?_
        refine go_callq PM156 PM249 (Q' := _) rfl rfl rfl rfl (sp_J0_length_8abf5_1012 L xs sio (d + 2) dt hI   ) ?_
        rintro _ _ ⟨rfl, h45⟩
        refine ⟨rfl, ?_⟩
        rcases h45 with ⟨rfl, h45⟩
        have j51 :  GO (am_XX L xs sio) (d + 4) 156 67 [some (.inr (.inr (some 79))), some (.inr (.inr (some 1012))), some (.inl l24_2), none] [] (SH, dt) (fun r w2 => w2 = (SH, dt) ∧ ((∃ v : Int, r = some (.inl v) ∧ (0 ≤ v ∧ v ≤ 1) ∧ True))) := by
          skip
          refine go_toq PM156 (k := 1) (pc' := 68) (L' := [some (.inr (.inr (some 79))), some (.inr (.inr (some 1012))), some (.inl l24_2), none]) (st' := [.inl l24_2]) (w' := (SH, dt)) rfl ?_
          refine go_retvq PM156 (v := l24_2) rfl (decide_eq_true (show l24_2 = 0 ∨ l24_2 = 1 by omega)) ?_
          exact ⟨rfl, ⟨_, rfl, ⟨by omega, by omega⟩, trivial⟩⟩
        refine go_ifq PM156 (k := 0) (p1 := 67) (p2 := 32) (L' := [some (.inr (.inr (some 79))), some (.inr (.inr (some 1012))), some (.inl l24_2), some (.inl l24_3)]) (st' := []) (w' := (SH, dt)) rfl (c_ge (a := l24_3) (b := 4) (by first | exact bnd i42 (by decide) (by decide) | exact ⟨by fail, by fail⟩) ⟨by decide, by decide⟩) (fun c52 => ?_) (fun c52 => ?_)
        · skip
          exact GO.le (j51 ) ⟨.inl rfl, .inl rfl, .inl rfl, .inr ⟨rfl, trivial⟩, trivial⟩
        · skip
          refine go_ifq PM156 (k := 1) (p1 := 67) (p2 := 36) (L' := [some (.inr (.inr (some 79))), some (.inr (.inr (some 1012))), some (.inl l24_2), some (.inl l24_3)]) (st' := []) (w' := (SH, dt)) rfl (z_eq (a := l24_2) (by first | exact bnd i41 (by decide) (by decide) | exact ⟨by fail, by fail⟩)) (fun c53 => ?_) (fun c53 => ?_)
          · skip
            exact GO.le (j51 ) ⟨.inl rfl, .inl rfl, .inl rfl, .inr ⟨rfl, trivial⟩, trivial⟩
          · skip
            replace c53 := hid c53
            refine go_toq PM156 (k := 6) (pc' := 46) (L' := [some (.inr (.inr (some 79))), some (.inr (.inr (some 1012))), some (.inl l24_2), some (.inl l24_3)]) (st' := [.inl ((dt 79 15) + l24_3), .inr (.inr (some 85))]) (w' := (SH, dt)) rfl ?_
            have r54 : 0 ≤ dt 85 (((dt 79 15) + l24_3).toNat) ∧ dt 85 (((dt 79 15) + l24_3).toNat) ≤ 255 := InvC_get hI 85 (((dt 79 15) + l24_3).toNat) rfl rfl
            refine go_smpq PM156 (L' := [some (.inr (.inr (some 79))), some (.inr (.inr (some 1012))), some (.inl l24_2), some (.inl l24_3)]) (st' := [.inl (dt 85 (((dt 79 15) + l24_3).toNat))]) (w' := (SH, dt)) rfl rfl (s_iald (n := 500) (f := dt 85) rfl ⟨by omega, by (have z0_ := unhid c5; have z1_ := unhid i43; have z2_ := unhid c53; omega)⟩) ?_
            refine go_toq PM156 (k := 2) (pc' := 49) (L' := [some (.inr (.inr (some 79))), some (.inr (.inr (some 1012))), some (.inl l24_2), some (.inl l24_3)]) (st' := [.inl l24_3, .inr (.inr (some 1012)), .inl (dt 85 (((dt 79 15) + l24_3).toNat))]) (w' := (SH, dt)) rfl ?_
            refine go_callq PM156 PM250 (Q' := _) rfl rfl rfl rfl (sp_J0_charAt_5068e_1012 L xs sio (d + 0) dt hI  l24_3 (by first | exact bnd i42 (by decide) (by decide) | exact bndd i42 c52 (by decide) (by decide) | exact ⟨by fail, by fail⟩) ) ?_
            rintro _ _ ⟨rfl, h55⟩
            refine ⟨rfl, ?_⟩
            rcases h55 with ⟨v_h55, rfl, h55r, h55⟩
            refine go_ifq PM156 (k := 0) (p1 := 59) (p2 := 55) (L' := [some (.inr (.inr (some 79))), some (.inr (.inr (some 1012))), some (.inl l24_2), some (.inl l24_3)]) (st' := []) (w' := (SH, dt)) rfl (c_ne (a := dt 85 (((dt 79 15) + l24_3).toNat)) (b := v_h55) (by first | exact bnd r54 (by decide) (by decide) | exact ⟨by fail, by fail⟩) (by first | exact bnd h55r (by decide) (by decide) | exact ⟨by fail, by fail⟩)) (fun c57 => ?_) (fun c57 => ?_)
            · skip
              replace c57 := hid c57
              refine go_toq PM156 (k := 4) (pc' := 24) (L' := [some (.inr (.inr (some 79))), some (.inr (.inr (some 1012))), some (.inl 0), some (.inl (l24_3 + 1))]) (st' := []) (w' := (SH, dt)) rfl ?_
              exact GO.le (ih_loop44 0 (l24_3 + 1) ⟨by decide, by decide⟩ (by first | exact bndp i42 (by decide) (by decide) | exact bnde i42 c52 (by decide) (by decide) | fail) (by omega) (by omega)) ⟨.inl rfl, .inl rfl, .inl rfl, .inl rfl, trivial⟩
            · skip
              refine go_toq PM156 (k := 5) (pc' := 24) (L' := [some (.inr (.inr (some 79))), some (.inr (.inr (some 1012))), some (.inl 1), some (.inl (l24_3 + 1))]) (st' := []) (w' := (SH, dt)) rfl ?_
              exact GO.le (ih_loop44 1 (l24_3 + 1) ⟨by decide, by decide⟩ (by first | exact bndp i42 (by decide) (by decide) | exact bnde i42 c52 (by decide) (by decide) | fail) (by (have z0_ := unhid c5; have z1_ := unhid i43; have z2_ := unhid c53; omega)) (by omega)) ⟨.inl rfl, .inl rfl, .inl rfl, .inl rfl, trivial⟩
    exact GO.le (loop44 _ 0 0 ⟨by decide, by decide⟩ ⟨by decide, by decide⟩ (by omega) (Nat.lt_succ_self _)) ⟨.inl rfl, .inl rfl, .inl rfl, .inl rfl, trivial⟩
  · skip
    refine go_toq PM156 (k := 5) (pc' := 24) (L' := [some (.inr (.inr (some 79))), some (.inr (.inr (some 1012))), some (.inl 1), some (.inl 0)]) (st' := []) (w' := (SH, dt)) rfl ?_
    have loop96 : ∀ (k_ : Nat) (l24_2 : Int) (l24_3 : Int) (i93 : 0 ≤ l24_2 ∧ l24_2 ≤ 1) (i94 : 0 ≤ l24_3 ∧ l24_3 ≤ 4) (i95 : l24_2 = 0 ∨ dt 79 13 - dt 79 15 = 4), (5 - l24_3).toNat < k_ → GO (am_XX L xs sio) (d + 4) 156 24 [some (.inr (.inr (some 79))), some (.inr (.inr (some 1012))), some (.inl l24_2), some (.inl l24_3)] [] (SH, dt) (fun r w2 => w2 = (SH, dt) ∧ ((∃ v : Int, r = some (.inl v) ∧ (0 ≤ v ∧ v ≤ 1) ∧ True))) := by
      intro k_
      induction k_ with
      | zero => intro l24_2 l24_3 i93 i94 i95 hm; exact absurd hm (Nat.not_lt_zero _)
      | succ k_ ih_loop96 =>
        intro l24_2 l24_3 i93 i94 i95 hm
        replace i95 := hid i95
        refine go_toq PM156 (k := 2) (pc' := 26) (L' := [some (.inr (.inr (some 79))), some (.inr (.inr (some 1012))), some (.inl l24_2), some (.inl l24_3)]) (st' := [.inr (.inr (some 1012)), .inl l24_3]) (w' := (SH, dt)) rfl ?_
        refine go_callq PM156 PM249 (Q' := _) rfl rfl rfl rfl (sp_J0_length_8abf5_1012 L xs sio (d + 2) dt hI   ) ?_
        rintro _ _ ⟨rfl, h97⟩
        refine ⟨rfl, ?_⟩
        rcases h97 with ⟨rfl, h97⟩
        have j103 :  GO (am_XX L xs sio) (d + 4) 156 67 [some (.inr (.inr (some 79))), some (.inr (.inr (some 1012))), some (.inl l24_2), none] [] (SH, dt) (fun r w2 => w2 = (SH, dt) ∧ ((∃ v : Int, r = some (.inl v) ∧ (0 ≤ v ∧ v ≤ 1) ∧ True))) := by
          skip
          refine go_toq PM156 (k := 1) (pc' := 68) (L' := [some (.inr (.inr (some 79))), some (.inr (.inr (some 1012))), some (.inl l24_2), none]) (st' := [.inl l24_2]) (w' := (SH, dt)) rfl ?_
          refine go_retvq PM156 (v := l24_2) rfl (decide_eq_true (show l24_2 = 0 ∨ l24_2 = 1 by omega)) ?_
          exact ⟨rfl, ⟨_, rfl, ⟨by omega, by omega⟩, trivial⟩⟩
        refine go_ifq PM156 (k := 0) (p1 := 67) (p2 := 32) (L' := [some (.inr (.inr (some 79))), some (.inr (.inr (some 1012))), some (.inl l24_2), some (.inl l24_3)]) (st' := []) (w' := (SH, dt)) rfl (c_ge (a := l24_3) (b := 4) (by first | exact bnd i94 (by decide) (by decide) | exact ⟨by fail, by fail⟩) ⟨by decide, by decide⟩) (fun c104 => ?_) (fun c104 => ?_)
        · skip
          exact GO.le (j103 ) ⟨.inl rfl, .inl rfl, .inl rfl, .inr ⟨rfl, trivial⟩, trivial⟩
        · skip
          refine go_ifq PM156 (k := 1) (p1 := 67) (p2 := 36) (L' := [some (.inr (.inr (some 79))), some (.inr (.inr (some 1012))), some (.inl l24_2), some (.inl l24_3)]) (st' := []) (w' := (SH, dt)) rfl (z_eq (a := l24_2) (by first | exact bnd i93 (by decide) (by decide) | exact ⟨by fail, by fail⟩)) (fun c105 => ?_) (fun c105 => ?_)
          · skip
            exact GO.le (j103 ) ⟨.inl rfl, .inl rfl, .inl rfl, .inr ⟨rfl, trivial⟩, trivial⟩
          · skip
            replace c105 := hid c105
            refine go_toq PM156 (k := 6) (pc' := 46) (L' := [some (.inr (.inr (some 79))), some (.inr (.inr (some 1012))), some (.inl l24_2), some (.inl l24_3)]) (st' := [.inl ((dt 79 15) + l24_3), .inr (.inr (some 85))]) (w' := (SH, dt)) rfl ?_
            have r106 : 0 ≤ dt 85 (((dt 79 15) + l24_3).toNat) ∧ dt 85 (((dt 79 15) + l24_3).toNat) ≤ 255 := InvC_get hI 85 (((dt 79 15) + l24_3).toNat) rfl rfl
            refine go_smpq PM156 (L' := [some (.inr (.inr (some 79))), some (.inr (.inr (some 1012))), some (.inl l24_2), some (.inl l24_3)]) (st' := [.inl (dt 85 (((dt 79 15) + l24_3).toNat))]) (w' := (SH, dt)) rfl rfl (s_iald (n := 500) (f := dt 85) rfl ⟨by omega, by omega⟩) ?_
            refine go_toq PM156 (k := 2) (pc' := 49) (L' := [some (.inr (.inr (some 79))), some (.inr (.inr (some 1012))), some (.inl l24_2), some (.inl l24_3)]) (st' := [.inl l24_3, .inr (.inr (some 1012)), .inl (dt 85 (((dt 79 15) + l24_3).toNat))]) (w' := (SH, dt)) rfl ?_
            refine go_callq PM156 PM250 (Q' := _) rfl rfl rfl rfl (sp_J0_charAt_5068e_1012 L xs sio (d + 0) dt hI  l24_3 (by first | exact bnd i94 (by decide) (by decide) | exact bndd i94 c104 (by decide) (by decide) | exact ⟨by fail, by fail⟩) ) ?_
            rintro _ _ ⟨rfl, h107⟩
            refine ⟨rfl, ?_⟩
            rcases h107 with ⟨v_h107, rfl, h107r, h107⟩
            refine go_ifq PM156 (k := 0) (p1 := 59) (p2 := 55) (L' := [some (.inr (.inr (some 79))), some (.inr (.inr (some 1012))), some (.inl l24_2), some (.inl l24_3)]) (st' := []) (w' := (SH, dt)) rfl (c_ne (a := dt 85 (((dt 79 15) + l24_3).toNat)) (b := v_h107) (by first | exact bnd r106 (by decide) (by decide) | exact ⟨by fail, by fail⟩) (by first | exact bnd h107r (by decide) (by decide) | exact ⟨by fail, by fail⟩)) (fun c109 => ?_) (fun c109 => ?_)
            · skip
              replace c109 := hid c109
              refine go_toq PM156 (k := 4) (pc' := 24) (L' := [some (.inr (.inr (some 79))), some (.inr (.inr (some 1012))), some (.inl 0), some (.inl (l24_3 + 1))]) (st' := []) (w' := (SH, dt)) rfl ?_
              exact GO.le (ih_loop96 0 (l24_3 + 1) ⟨by decide, by decide⟩ (by first | exact bndp i94 (by decide) (by decide) | exact bnde i94 c104 (by decide) (by decide) | fail) (by omega) (by omega)) ⟨.inl rfl, .inl rfl, .inl rfl, .inl rfl, trivial⟩
            · skip
              refine go_toq PM156 (k := 5) (pc' := 24) (L' := [some (.inr (.inr (some 79))), some (.inr (.inr (some 1012))), some (.inl 1), some (.inl (l24_3 + 1))]) (st' := []) (w' := (SH, dt)) rfl ?_
              exact GO.le (ih_loop96 1 (l24_3 + 1) ⟨by decide, by decide⟩ (by first | exact bndp i94 (by decide) (by decide) | exact bnde i94 c104 (by decide) (by decide) | fail) (by omega) (by omega)) ⟨.inl rfl, .inl rfl, .inl rfl, .inl rfl, trivial⟩
    exact GO.le (loop96 _ 1 0 ⟨by decide, by decide⟩ ⟨by decide, by decide⟩ (by omega) (Nat.lt_succ_self _)) ⟨.inl rfl, .inl rfl, .inl rfl, .inl rfl, trivial⟩
theorem sp_J0_coder_7d493_1013 (L : Nat) (xs : Nat → Int32) (sio : Option Nat) (d : Nat) (dt : Nat → Nat → Int) (hI : InvC dt)    : GO (am_XX L xs sio) (d) 253 0 [some (.inr (.inr (some 1013)))] [] (SH, dt) (fun r w2 => w2 = (SH, dt) ∧ ((r = some (.inl 0) ∧ True))) := by
  refine go_retq PM253 (k := 5) (r := some (.inl 0)) (w1 := (SH, dt)) rfl ?_
  exact ⟨rfl, ⟨rfl, trivial⟩⟩
theorem sp_J0_length_8abf5_1013 (L : Nat) (xs : Nat → Int32) (sio : Option Nat) (d : Nat) (dt : Nat → Nat → Int) (hI : InvC dt)    : GO (am_XX L xs sio) (d + 1) 249 0 [some (.inr (.inr (some 1013)))] [] (SH, dt) (fun r w2 => w2 = (SH, dt) ∧ ((r = some (.inl 4) ∧ True))) := by
  refine go_toq PM249 (k := 4) (pc' := 6) (L' := [some (.inr (.inr (some 1013)))]) (st' := [.inr (.inr (some 1013)), .inl 4]) (w' := (SH, dt)) rfl ?_
  refine go_callq PM249 PM253 (Q' := _) rfl rfl rfl rfl (sp_J0_coder_7d493_1013 L xs sio (d + 0) dt hI   ) ?_
  rintro _ _ ⟨rfl, h1⟩
  refine ⟨rfl, ?_⟩
  rcases h1 with ⟨rfl, h1⟩
  refine go_smpq PM249 (L' := [some (.inr (.inr (some 1013)))]) (st' := [.inl 4]) (w' := (SH, dt)) rfl rfl (s_bshr (v := 4) (by decide)) ?_
  refine go_retq PM249 (k := 0) (r := some (.inl 4)) (w1 := (SH, dt)) rfl ?_
  exact ⟨rfl, ⟨rfl, trivial⟩⟩
theorem sp_J0_isLatin1_aae02_1013 (L : Nat) (xs : Nat → Int32) (sio : Option Nat) (d : Nat) (dt : Nat → Nat → Int) (hI : InvC dt)    : GO (am_XX L xs sio) (d) 254 0 [some (.inr (.inr (some 1013)))] [] (SH, dt) (fun r w2 => w2 = (SH, dt) ∧ ((r = some (.inl 1) ∧ True))) := by
  refine go_retq PM254 (k := 7) (r := some (.inl 1)) (w1 := (SH, dt)) rfl ?_
  exact ⟨rfl, ⟨rfl, trivial⟩⟩
theorem sp_J1_charAt_3b067_1013 (L : Nat) (xs : Nat → Int32) (sio : Option Nat) (d : Nat) (dt : Nat → Nat → Int) (hI : InvC dt)  (p2 : Int) (h_p2 : 0 ≤ p2 ∧ p2 ≤ 3)  : GO (am_XX L xs sio) (d + 2) 256 0 [some (.inr (.inr (some 2013))), some (.inl p2)] [] (SH, dt) (fun r w2 => w2 = (SH, dt) ∧ ((∃ v : Int, r = some (.inl v) ∧ (0 ≤ v ∧ v ≤ 65535) ∧ True))) := by
  refine go_toq PM256 (k := 3) (pc' := 3) (L' := [some (.inr (.inr (some 2013))), some (.inl p2)]) (st' := [.inl 4, .inl p2]) (w' := (SH, dt)) rfl ?_
  refine go_callq PM256 PM255 (Q' := _) rfl rfl rfl rfl (sp_J0_checkIndex_df160 L xs sio (d + 0) dt hI  p2 (by first | exact h_p2 | exact bnd h_p2 (by decide) (by decide) | exact ⟨by fail, by fail⟩) 4 ⟨by decide, by decide⟩ (by first | exact True.intro | with_reducible assumption | rfl | omega | trivial)) ?_
  rintro _ _ ⟨rfl, h1⟩
  refine ⟨rfl, ?_⟩
  rcases h1 with ⟨rfl, h1⟩
  refine go_toq PM256 (k := 2) (pc' := 8) (L' := [some (.inr (.inr (some 2013))), some (.inl p2)]) (st' := [.inl p2, .inr (.inr (some 2013))]) (w' := (SH, dt)) rfl ?_
  have r2 := sby_R 13 (p2).toNat
  refine go_smpq PM256 (L' := [some (.inr (.inr (some 2013))), some (.inl p2)]) (st' := [.inl ((am_Sby.getD 13 []).getD (p2).toNat 0)]) (w' := (SH, dt)) rfl rfl (s_bald (n := 4) (f := fun q => (am_Sby.getD 13 []).getD q 0) rfl (by first | exact bndx h_p2 (by decide) (by decide) | exact ⟨by fail, by fail⟩)) ?_
  have r3 : 0 ≤ am_and ((am_Sby.getD 13 []).getD (p2).toNat 0) 255 ∧ am_and ((am_Sby.getD 13 []).getD (p2).toNat 0) 255 ≤ 255 := and_R255
  have r4 := i2c_R (am_and ((am_Sby.getD 13 []).getD (p2).toNat 0) 255)
  refine go_toq PM256 (k := 3) (pc' := 14) (L' := [some (.inr (.inr (some 2013))), some (.inl p2)]) (st' := [.inl (am_i2c (am_and ((am_Sby.getD 13 []).getD (p2).toNat 0) 255))]) (w' := (SH, dt)) rfl ?_
  refine go_retvq PM256 (v := am_i2c (am_and ((am_Sby.getD 13 []).getD (p2).toNat 0) 255)) rfl (decide_eq_true (show 0 ≤ am_i2c (am_and ((am_Sby.getD 13 []).getD (p2).toNat 0) 255) ∧ am_i2c (am_and ((am_Sby.getD 13 []).getD (p2).toNat 0) 255) < 65536 by omega)) ?_
  exact ⟨rfl, ⟨_, rfl, ⟨by omega, by omega⟩, trivial⟩⟩
theorem sp_J0_charAt_5068e_1013 (L : Nat) (xs : Nat → Int32) (sio : Option Nat) (d : Nat) (dt : Nat → Nat → Int) (hI : InvC dt)  (p1 : Int) (h_p1 : 0 ≤ p1 ∧ p1 ≤ 3)  : GO (am_XX L xs sio) (d + 3) 250 0 [some (.inr (.inr (some 1013))), some (.inl p1)] [] (SH, dt) (fun r w2 => w2 = (SH, dt) ∧ ((∃ v : Int, r = some (.inl v) ∧ (0 ≤ v ∧ v ≤ 65535) ∧ True))) := by
  refine go_toq PM250 (k := 1) (pc' := 1) (L' := [some (.inr (.inr (some 1013))), some (.inl p1)]) (st' := [.inr (.inr (some 1013))]) (w' := (SH, dt)) rfl ?_
  refine go_callq PM250 PM254 (Q' := _) rfl rfl rfl rfl (sp_J0_isLatin1_aae02_1013 L xs sio (d + 2) dt hI   ) ?_
  rintro _ _ ⟨rfl, h1⟩
  refine ⟨rfl, ?_⟩
  rcases h1 with ⟨rfl, h1⟩
  refine go_toq PM250 (k := 4) (pc' := 12) (L' := [some (.inr (.inr (some 1013))), some (.inl p1)]) (st' := [.inl p1, .inr (.inr (some 2013))]) (w' := (SH, dt)) rfl ?_
  refine go_callq PM250 PM256 (Q' := _) rfl rfl rfl rfl (sp_J1_charAt_3b067_1013 L xs sio (d + 0) dt hI  p1 (by first | exact h_p1 | exact bnd h_p1 (by decide) (by decide) | exact ⟨by fail, by fail⟩) ) ?_
  rintro _ _ ⟨rfl, h2⟩
  refine ⟨rfl, ?_⟩
  rcases h2 with ⟨v_h2, rfl, h2r, h2⟩
  refine go_retvq PM250 (v := v_h2) rfl (decide_eq_true (show 0 ≤ v_h2 ∧ v_h2 < 65536 by omega)) ?_
  exact ⟨rfl, ⟨_, rfl, ⟨by omega, by omega⟩, trivial⟩⟩
set_option maxRecDepth 20000 in
theorem sp_X6_is_1013 (L : Nat) (xs : Nat → Int32) (sio : Option Nat) (d : Nat) (dt : Nat → Nat → Int) (hI : InvC dt)   (h_p0 : dt 79 13 ≤ 500) : GO (am_XX L xs sio) (d + 4) 156 0 [some (.inr (.inr (some 79))), some (.inr (.inr (some 1013))), none, none] [] (SH, dt) (fun r w2 => w2 = (SH, dt) ∧ ((∃ v : Int, r = some (.inl v) ∧ (0 ≤ v ∧ v ≤ 1) ∧ True))) := by
  have r1 : 0 ≤ dt 79 13 ∧ dt 79 13 ≤ 501 := InvC_get hI 79 13 rfl rfl
  have r2 : 0 ≤ dt 79 15 ∧ dt 79 15 ≤ 500 := InvC_get hI 79 15 rfl rfl
  refine go_toq PM156 (k := 6) (pc' := 10) (L' := [some (.inr (.inr (some 79))), some (.inr (.inr (some 1013))), none, none]) (st' := [.inr (.inr (some 1013)), .inl ((dt 79 13) - (dt 79 15))]) (w' := (SH, dt)) rfl ?_
  refine go_callq PM156 PM249 (Q' := _) rfl rfl rfl rfl (sp_J0_length_8abf5_1013 L xs sio (d + 2) dt hI   ) ?_
  rintro _ _ ⟨rfl, h3⟩
  refine ⟨rfl, ?_⟩
  rcases h3 with ⟨rfl, h3⟩
  refine go_ifq PM156 (k := 0) (p1 := 20) (p2 := 16) (L' := [some (.inr (.inr (some 79))), some (.inr (.inr (some 1013))), none, none]) (st' := []) (w' := (SH, dt)) rfl (c_ne (a := (dt 79 13) - (dt 79 15)) (b := 4) ⟨by omega, by omega⟩ ⟨by decide, by decide⟩) (fun c5 => ?_) (fun c5 => ?_)
  · skip
    replace c5 := hid c5
    refine go_toq PM156 (k := 4) (pc' := 24) (L' := [some (.inr (.inr (some 79))), some (.inr (.inr (some 1013))), some (.inl 0), some (.inl 0)]) (st' := []) (w' := (SH, dt)) rfl ?_
    have loop44 : ∀ (k_ : Nat) (l24_2 : Int) (l24_3 : Int) (i41 : 0 ≤ l24_2 ∧ l24_2 ≤ 1) (i42 : 0 ≤ l24_3 ∧ l24_3 ≤ 4) (i43 : l24_2 = 0 ∨ dt 79 13 - dt 79 15 = 4), (5 - l24_3).toNat < k_ → GO (am_XX L xs sio) (d + 4) 156 24 [some (.inr (.inr (some 79))), some (.inr (.inr (some 1013))), some (.inl l24_2), some (.inl l24_3)] [] (SH, dt) (fun r w2 => w2 = (SH, dt) ∧ ((∃ v : Int, r = some (.inl v) ∧ (0 ≤ v ∧ v ≤ 1) ∧ True))) := by
      intro k_
      induction k_ with
      | zero => intro l24_2 l24_3 i41 i42 i43 hm; exact absurd hm (Nat.not_lt_zero _)
      | succ k_ ih_loop44 =>
        intro l24_2 l24_3 i41 i42 i43 hm
        replace i43 := hid i43
        refine go_toq PM156 (k := 2) (pc' := 26) (L' := [some (.inr (.inr (some 79))), some (.inr (.inr (some 1013))), some (.inl l24_2), some (.inl l24_3)]) (st' := [.inr (.inr (some 1013)), .inl l24_3]) (w' := (SH, dt)) rfl ?_
        refine go_callq PM156 PM249 (Q' := _) rfl rfl rfl rfl (sp_J0_length_8abf5_1013 L xs sio (d + 2) dt hI   ) ?_
        rintro _ _ ⟨rfl, h45⟩
        refine ⟨rfl, ?_⟩
        rcases h45 with ⟨rfl, h45⟩
        have j51 :  GO (am_XX L xs sio) (d + 4) 156 67 [some (.inr (.inr (some 79))), some (.inr (.inr (some 1013))), some (.inl l24_2), none] [] (SH, dt) (fun r w2 => w2 = (SH, dt) ∧ ((∃ v : Int, r = some (.inl v) ∧ (0 ≤ v ∧ v ≤ 1) ∧ True))) := by
          skip
          refine go_toq PM156 (k := 1) (pc' := 68) (L' := [some (.inr (.inr (some 79))), some (.inr (.inr (some 1013))), some (.inl l24_2), none]) (st' := [.inl l24_2]) (w' := (SH, dt)) rfl ?_
          refine go_retvq PM156 (v := l24_2) rfl (decide_eq_true (show l24_2 = 0 ∨ l24_2 = 1 by omega)) ?_
          exact ⟨rfl, ⟨_, rfl, ⟨by omega, by omega⟩, trivial⟩⟩
        refine go_ifq PM156 (k := 0) (p1 := 67) (p2 := 32) (L' := [some (.inr (.inr (some 79))), some (.inr (.inr (some 1013))), some (.inl l24_2), some (.inl l24_3)]) (st' := []) (w' := (SH, dt)) rfl (c_ge (a := l24_3) (b := 4) (by first | exact bnd i42 (by decide) (by decide) | exact ⟨by fail, by fail⟩) ⟨by decide, by decide⟩) (fun c52 => ?_) (fun c52 => ?_)
        · skip
          exact GO.le (j51 ) ⟨.inl rfl, .inl rfl, .inl rfl, .inr ⟨rfl, trivial⟩, trivial⟩
        · skip
          refine go_ifq PM156 (k := 1) (p1 := 67) (p2 := 36) (L' := [some (.inr (.inr (some 79))), some (.inr (.inr (some 1013))), some (.inl l24_2), some (.inl l24_3)]) (st' := []) (w' := (SH, dt)) rfl (z_eq (a := l24_2) (by first | exact bnd i41 (by decide) (by decide) | exact ⟨by fail, by fail⟩)) (fun c53 => ?_) (fun c53 => ?_)
          · skip
            exact GO.le (j51 ) ⟨.inl rfl, .inl rfl, .inl rfl, .inr ⟨rfl, trivial⟩, trivial⟩
          · skip
            replace c53 := hid c53
            refine go_toq PM156 (k := 6) (pc' := 46) (L' := [some (.inr (.inr (some 79))), some (.inr (.inr (some 1013))), some (.inl l24_2), some (.inl l24_3)]) (st' := [.inl ((dt 79 15) + l24_3), .inr (.inr (some 85))]) (w' := (SH, dt)) rfl ?_
            have r54 : 0 ≤ dt 85 (((dt 79 15) + l24_3).toNat) ∧ dt 85 (((dt 79 15) + l24_3).toNat) ≤ 255 := InvC_get hI 85 (((dt 79 15) + l24_3).toNat) rfl rfl
            refine go_smpq PM156 (L' := [some (.inr (.inr (some 79))), some (.inr (.inr (some 1013))), some (.inl l24_2), some (.inl l24_3)]) (st' := [.inl (dt 85 (((dt 79 15) + l24_3).toNat))]) (w' := (SH, dt)) rfl rfl (s_iald (n := 500) (f := dt 85) rfl ⟨by omega, by (have z0_ := unhid c5; have z1_ := unhid i43; have z2_ := unhid c53; omega)⟩) ?_
            refine go_toq PM156 (k := 2) (pc' := 49) (L' := [some (.inr (.inr (some 79))), some (.inr (.inr (some 1013))), some (.inl l24_2), some (.inl l24_3)]) (st' := [.inl l24_3, .inr (.inr (some 1013)), .inl (dt 85 (((dt 79 15) + l24_3).toNat))]) (w' := (SH, dt)) rfl ?_
            refine go_callq PM156 PM250 (Q' := _) rfl rfl rfl rfl (sp_J0_charAt_5068e_1013 L xs sio (d + 0) dt hI  l24_3 (by first | exact bnd i42 (by decide) (by decide) | exact bndd i42 c52 (by decide) (by decide) | exact ⟨by fail, by fail⟩) ) ?_
            rintro _ _ ⟨rfl, h55⟩
            refine ⟨rfl, ?_⟩
            rcases h55 with ⟨v_h55, rfl, h55r, h55⟩
            refine go_ifq PM156 (k := 0) (p1 := 59) (p2 := 55) (L' := [some (.inr (.inr (some 79))), some (.inr (.inr (some 1013))), some (.inl l24_2), some (.inl l24_3)]) (st' := []) (w' := (SH, dt)) rfl (c_ne (a := dt 85 (((dt 79 15) + l24_3).toNat)) (b := v_h55) (by first | exact bnd r54 (by decide) (by decide) | exact ⟨by fail, by fail⟩) (by first | exact bnd h55r (by decide) (by decide) | exact ⟨by fail, by fail⟩)) (fun c57 => ?_) (fun c57 => ?_)
            · skip
              replace c57 := hid c57
              refine go_toq PM156 (k := 4) (pc' := 24) (L' := [some (.inr (.inr (some 79))), some (.inr (.inr (some 1013))), some (.inl 0), some (.inl (l24_3 + 1))]) (st' := []) (w' := (SH, dt)) rfl ?_
              exact GO.le (ih_loop44 0 (l24_3 + 1) ⟨by decide, by decide⟩ (by first | exact bndp i42 (by decide) (by decide) | exact bnde i42 c52 (by decide) (by decide) | fail) (by omega) (by omega)) ⟨.inl rfl, .inl rfl, .inl rfl, .inl rfl, trivial⟩
            · skip
              refine go_toq PM156 (k := 5) (pc' := 24) (L' := [some (.inr (.inr (some 79))), some (.inr (.inr (some 1013))), some (.inl 1), some (.inl (l24_3 + 1))]) (st' := []) (w' := (SH, dt)) rfl ?_
              exact GO.le (ih_loop44 1 (l24_3 + 1) ⟨by decide, by decide⟩ (by first | exact bndp i42 (by decide) (by decide) | exact bnde i42 c52 (by decide) (by decide) | fail) (by (have z0_ := unhid c5; have z1_ := unhid i43; have z2_ := unhid c53; omega)) (by omega)) ⟨.inl rfl, .inl rfl, .inl rfl, .inl rfl, trivial⟩
    exact GO.le (loop44 _ 0 0 ⟨by decide, by decide⟩ ⟨by decide, by decide⟩ (by omega) (Nat.lt_succ_self _)) ⟨.inl rfl, .inl rfl, .inl rfl, .inl rfl, trivial⟩
  · skip
    refine go_toq PM156 (k := 5) (pc' := 24) (L' := [some (.inr (.inr (some 79))), some (.inr (.inr (some 1013))), some (.inl 1), some (.inl 0)]) (st' := []) (w' := (SH, dt)) rfl ?_
    have loop96 : ∀ (k_ : Nat) (l24_2 : Int) (l24_3 : Int) (i93 : 0 ≤ l24_2 ∧ l24_2 ≤ 1) (i94 : 0 ≤ l24_3 ∧ l24_3 ≤ 4) (i95 : l24_2 = 0 ∨ dt 79 13 - dt 79 15 = 4), (5 - l24_3).toNat < k_ → GO (am_XX L xs sio) (d + 4) 156 24 [some (.inr (.inr (some 79))), some (.inr (.inr (some 1013))), some (.inl l24_2), some (.inl l24_3)] [] (SH, dt) (fun r w2 => w2 = (SH, dt) ∧ ((∃ v : Int, r = some (.inl v) ∧ (0 ≤ v ∧ v ≤ 1) ∧ True))) := by
      intro k_
      induction k_ with
      | zero => intro l24_2 l24_3 i93 i94 i95 hm; exact absurd hm (Nat.not_lt_zero _)
      | succ k_ ih_loop96 =>
        intro l24_2 l24_3 i93 i94 i95 hm
        replace i95 := hid i95
        refine go_toq PM156 (k := 2) (pc' := 26) (L' := [some (.inr (.inr (some 79))), some (.inr (.inr (some 1013))), some (.inl l24_2), some (.inl l24_3)]) (st' := [.inr (.inr (some 1013)), .inl l24_3]) (w' := (SH, dt)) rfl ?_
        refine go_callq PM156 PM249 (Q' := _) rfl rfl rfl rfl (sp_J0_length_8abf5_1013 L xs sio (d + 2) dt hI   ) ?_
        rintro _ _ ⟨rfl, h97⟩
        refine ⟨rfl, ?_⟩
        rcases h97 with ⟨rfl, h97⟩
        have j103 :  GO (am_XX L xs sio) (d + 4) 156 67 [some (.inr (.inr (some 79))), some (.inr (.inr (some 1013))), some (.inl l24_2), none] [] (SH, dt) (fun r w2 => w2 = (SH, dt) ∧ ((∃ v : Int, r = some (.inl v) ∧ (0 ≤ v ∧ v ≤ 1) ∧ True))) := by
          skip
          refine go_toq PM156 (k := 1) (pc' := 68) (L' := [some (.inr (.inr (some 79))), some (.inr (.inr (some 1013))), some (.inl l24_2), none]) (st' := [.inl l24_2]) (w' := (SH, dt)) rfl ?_
          refine go_retvq PM156 (v := l24_2) rfl (decide_eq_true (show l24_2 = 0 ∨ l24_2 = 1 by omega)) ?_
          exact ⟨rfl, ⟨_, rfl, ⟨by omega, by omega⟩, trivial⟩⟩
        refine go_ifq PM156 (k := 0) (p1 := 67) (p2 := 32) (L' := [some (.inr (.inr (some 79))), some (.inr (.inr (some 1013))), some (.inl l24_2), some (.inl l24_3)]) (st' := []) (w' := (SH, dt)) rfl (c_ge (a := l24_3) (b := 4) (by first | exact bnd i94 (by decide) (by decide) | exact ⟨by fail, by fail⟩) ⟨by decide, by decide⟩) (fun c104 => ?_) (fun c104 => ?_)
        · skip
          exact GO.le (j103 ) ⟨.inl rfl, .inl rfl, .inl rfl, .inr ⟨rfl, trivial⟩, trivial⟩
        · skip
          refine go_ifq PM156 (k := 1) (p1 := 67) (p2 := 36) (L' := [some (.inr (.inr (some 79))), some (.inr (.inr (some 1013))), some (.inl l24_2), some (.inl l24_3)]) (st' := []) (w' := (SH, dt)) rfl (z_eq (a := l24_2) (by first | exact bnd i93 (by decide) (by decide) | exact ⟨by fail, by fail⟩)) (fun c105 => ?_) (fun c105 => ?_)
          · skip
            exact GO.le (j103 ) ⟨.inl rfl, .inl rfl, .inl rfl, .inr ⟨rfl, trivial⟩, trivial⟩
          · skip
            replace c105 := hid c105
            refine go_toq PM156 (k := 6) (pc' := 46) (L' := [some (.inr (.inr (some 79))), some (.inr (.inr (some 1013))), some (.inl l24_2), some (.inl l24_3)]) (st' := [.inl ((dt 79 15) + l24_3), .inr (.inr (some 85))]) (w' := (SH, dt)) rfl ?_
            have r106 : 0 ≤ dt 85 (((dt 79 15) + l24_3).toNat) ∧ dt 85 (((dt 79 15) + l24_3).toNat) ≤ 255 := InvC_get hI 85 (((dt 79 15) + l24_3).toNat) rfl rfl
            refine go_smpq PM156 (L' := [some (.inr (.inr (some 79))), some (.inr (.inr (some 1013))), some (.inl l24_2), some (.inl l24_3)]) (st' := [.inl (dt 85 (((dt 79 15) + l24_3).toNat))]) (w' := (SH, dt)) rfl rfl (s_iald (n := 500) (f := dt 85) rfl ⟨by omega, by omega⟩) ?_
            refine go_toq PM156 (k := 2) (pc' := 49) (L' := [some (.inr (.inr (some 79))), some (.inr (.inr (some 1013))), some (.inl l24_2), some (.inl l24_3)]) (st' := [.inl l24_3, .inr (.inr (some 1013)), .inl (dt 85 (((dt 79 15) + l24_3).toNat))]) (w' := (SH, dt)) rfl ?_
            refine go_callq PM156 PM250 (Q' := _) rfl rfl rfl rfl (sp_J0_charAt_5068e_1013 L xs sio (d + 0) dt hI  l24_3 (by first | exact bnd i94 (by decide) (by decide) | exact bndd i94 c104 (by decide) (by decide) | exact ⟨by fail, by fail⟩) ) ?_
            rintro _ _ ⟨rfl, h107⟩
            refine ⟨rfl, ?_⟩
            rcases h107 with ⟨v_h107, rfl, h107r, h107⟩
            refine go_ifq PM156 (k := 0) (p1 := 59) (p2 := 55) (L' := [some (.inr (.inr (some 79))), some (.inr (.inr (some 1013))), some (.inl l24_2), some (.inl l24_3)]) (st' := []) (w' := (SH, dt)) rfl (c_ne (a := dt 85 (((dt 79 15) + l24_3).toNat)) (b := v_h107) (by first | exact bnd r106 (by decide) (by decide) | exact ⟨by fail, by fail⟩) (by first | exact bnd h107r (by decide) (by decide) | exact ⟨by fail, by fail⟩)) (fun c109 => ?_) (fun c109 => ?_)
            · skip
              replace c109 := hid c109
              refine go_toq PM156 (k := 4) (pc' := 24) (L' := [some (.inr (.inr (some 79))), some (.inr (.inr (some 1013))), some (.inl 0), some (.inl (l24_3 + 1))]) (st' := []) (w' := (SH, dt)) rfl ?_
              exact GO.le (ih_loop96 0 (l24_3 + 1) ⟨by decide, by decide⟩ (by first | exact bndp i94 (by decide) (by decide) | exact bnde i94 c104 (by decide) (by decide) | fail) (by omega) (by omega)) ⟨.inl rfl, .inl rfl, .inl rfl, .inl rfl, trivial⟩
            · skip
              refine go_toq PM156 (k := 5) (pc' := 24) (L' := [some (.inr (.inr (some 79))), some (.inr (.inr (some 1013))), some (.inl 1), some (.inl (l24_3 + 1))]) (st' := []) (w' := (SH, dt)) rfl ?_
              exact GO.le (ih_loop96 1 (l24_3 + 1) ⟨by decide, by decide⟩ (by first | exact bndp i94 (by decide) (by decide) | exact bnde i94 c104 (by decide) (by decide) | fail) (by omega) (by omega)) ⟨.inl rfl, .inl rfl, .inl rfl, .inl rfl, trivial⟩
    exact GO.le (loop96 _ 1 0 ⟨by decide, by decide⟩ ⟨by decide, by decide⟩ (by omega) (Nat.lt_succ_self _)) ⟨.inl rfl, .inl rfl, .inl rfl, .inl rfl, trivial⟩
theorem sp_J0_coder_7d493_1014 (L : Nat) (xs : Nat → Int32) (sio : Option Nat) (d : Nat) (dt : Nat → Nat → Int) (hI : InvC dt)    : GO (am_XX L xs sio) (d) 253 0 [some (.inr (.inr (some 1014)))] [] (SH, dt) (fun r w2 => w2 = (SH, dt) ∧ ((r = some (.inl 0) ∧ True))) := by
  refine go_retq PM253 (k := 5) (r := some (.inl 0)) (w1 := (SH, dt)) rfl ?_
  exact ⟨rfl, ⟨rfl, trivial⟩⟩
theorem sp_J0_length_8abf5_1014 (L : Nat) (xs : Nat → Int32) (sio : Option Nat) (d : Nat) (dt : Nat → Nat → Int) (hI : InvC dt)    : GO (am_XX L xs sio) (d + 1) 249 0 [some (.inr (.inr (some 1014)))] [] (SH, dt) (fun r w2 => w2 = (SH, dt) ∧ ((r = some (.inl 4) ∧ True))) := by
  refine go_toq PM249 (k := 4) (pc' := 6) (L' := [some (.inr (.inr (some 1014)))]) (st' := [.inr (.inr (some 1014)), .inl 4]) (w' := (SH, dt)) rfl ?_
  refine go_callq PM249 PM253 (Q' := _) rfl rfl rfl rfl (sp_J0_coder_7d493_1014 L xs sio (d + 0) dt hI   ) ?_
  rintro _ _ ⟨rfl, h1⟩
  refine ⟨rfl, ?_⟩
  rcases h1 with ⟨rfl, h1⟩
  refine go_smpq PM249 (L' := [some (.inr (.inr (some 1014)))]) (st' := [.inl 4]) (w' := (SH, dt)) rfl rfl (s_bshr (v := 4) (by decide)) ?_
  refine go_retq PM249 (k := 0) (r := some (.inl 4)) (w1 := (SH, dt)) rfl ?_
  exact ⟨rfl, ⟨rfl, trivial⟩⟩
theorem sp_J0_isLatin1_aae02_1014 (L : Nat) (xs : Nat → Int32) (sio : Option Nat) (d : Nat) (dt : Nat → Nat → Int) (hI : InvC dt)    : GO (am_XX L xs sio) (d) 254 0 [some (.inr (.inr (some 1014)))] [] (SH, dt) (fun r w2 => w2 = (SH, dt) ∧ ((r = some (.inl 1) ∧ True))) := by
  refine go_retq PM254 (k := 7) (r := some (.inl 1)) (w1 := (SH, dt)) rfl ?_
  exact ⟨rfl, ⟨rfl, trivial⟩⟩
theorem sp_J1_charAt_3b067_1014 (L : Nat) (xs : Nat → Int32) (sio : Option Nat) (d : Nat) (dt : Nat → Nat → Int) (hI : InvC dt)  (p2 : Int) (h_p2 : 0 ≤ p2 ∧ p2 ≤ 3)  : GO (am_XX L xs sio) (d + 2) 256 0 [some (.inr (.inr (some 2014))), some (.inl p2)] [] (SH, dt) (fun r w2 => w2 = (SH, dt) ∧ ((∃ v : Int, r = some (.inl v) ∧ (0 ≤ v ∧ v ≤ 65535) ∧ True))) := by
  refine go_toq PM256 (k := 3) (pc' := 3) (L' := [some (.inr (.inr (some 2014))), some (.inl p2)]) (st' := [.inl 4, .inl p2]) (w' := (SH, dt)) rfl ?_
  refine go_callq PM256 PM255 (Q' := _) rfl rfl rfl rfl (sp_J0_checkIndex_df160 L xs sio (d + 0) dt hI  p2 (by first | exact h_p2 | exact bnd h_p2 (by decide) (by decide) | exact ⟨by fail, by fail⟩) 4 ⟨by decide, by decide⟩ (by first | exact True.intro | with_reducible assumption | rfl | omega | trivial)) ?_
  rintro _ _ ⟨rfl, h1⟩
  refine ⟨rfl, ?_⟩
  rcases h1 with ⟨rfl, h1⟩
  refine go_toq PM256 (k := 2) (pc' := 8) (L' := [some (.inr (.inr (some 2014))), some (.inl p2)]) (st' := [.inl p2, .inr (.inr (some 2014))]) (w' := (SH, dt)) rfl ?_
  have r2 := sby_R 14 (p2).toNat
  refine go_smpq PM256 (L' := [some (.inr (.inr (some 2014))), some (.inl p2)]) (st' := [.inl ((am_Sby.getD 14 []).getD (p2).toNat 0)]) (w' := (SH, dt)) rfl rfl (s_bald (n := 4) (f := fun q => (am_Sby.getD 14 []).getD q 0) rfl (by first | exact bndx h_p2 (by decide) (by decide) | exact ⟨by fail, by fail⟩)) ?_
  have r3 : 0 ≤ am_and ((am_Sby.getD 14 []).getD (p2).toNat 0) 255 ∧ am_and ((am_Sby.getD 14 []).getD (p2).toNat 0) 255 ≤ 255 := and_R255
  have r4 := i2c_R (am_and ((am_Sby.getD 14 []).getD (p2).toNat 0) 255)
  refine go_toq PM256 (k := 3) (pc' := 14) (L' := [some (.inr (.inr (some 2014))), some (.inl p2)]) (st' := [.inl (am_i2c (am_and ((am_Sby.getD 14 []).getD (p2).toNat 0) 255))]) (w' := (SH, dt)) rfl ?_
  refine go_retvq PM256 (v := am_i2c (am_and ((am_Sby.getD 14 []).getD (p2).toNat 0) 255)) rfl (decide_eq_true (show 0 ≤ am_i2c (am_and ((am_Sby.getD 14 []).getD (p2).toNat 0) 255) ∧ am_i2c (am_and ((am_Sby.getD 14 []).getD (p2).toNat 0) 255) < 65536 by omega)) ?_
  exact ⟨rfl, ⟨_, rfl, ⟨by omega, by omega⟩, trivial⟩⟩
theorem sp_J0_charAt_5068e_1014 (L : Nat) (xs : Nat → Int32) (sio : Option Nat) (d : Nat) (dt : Nat → Nat → Int) (hI : InvC dt)  (p1 : Int) (h_p1 : 0 ≤ p1 ∧ p1 ≤ 3)  : GO (am_XX L xs sio) (d + 3) 250 0 [some (.inr (.inr (some 1014))), some (.inl p1)] [] (SH, dt) (fun r w2 => w2 = (SH, dt) ∧ ((∃ v : Int, r = some (.inl v) ∧ (0 ≤ v ∧ v ≤ 65535) ∧ True))) := by
  refine go_toq PM250 (k := 1) (pc' := 1) (L' := [some (.inr (.inr (some 1014))), some (.inl p1)]) (st' := [.inr (.inr (some 1014))]) (w' := (SH, dt)) rfl ?_
  refine go_callq PM250 PM254 (Q' := _) rfl rfl rfl rfl (sp_J0_isLatin1_aae02_1014 L xs sio (d + 2) dt hI   ) ?_
  rintro _ _ ⟨rfl, h1⟩
  refine ⟨rfl, ?_⟩
  rcases h1 with ⟨rfl, h1⟩
  refine go_toq PM250 (k := 4) (pc' := 12) (L' := [some (.inr (.inr (some 1014))), some (.inl p1)]) (st' := [.inl p1, .inr (.inr (some 2014))]) (w' := (SH, dt)) rfl ?_
  refine go_callq PM250 PM256 (Q' := _) rfl rfl rfl rfl (sp_J1_charAt_3b067_1014 L xs sio (d + 0) dt hI  p1 (by first | exact h_p1 | exact bnd h_p1 (by decide) (by decide) | exact ⟨by fail, by fail⟩) ) ?_
  rintro _ _ ⟨rfl, h2⟩
  refine ⟨rfl, ?_⟩
  rcases h2 with ⟨v_h2, rfl, h2r, h2⟩
  refine go_retvq PM250 (v := v_h2) rfl (decide_eq_true (show 0 ≤ v_h2 ∧ v_h2 < 65536 by omega)) ?_
  exact ⟨rfl, ⟨_, rfl, ⟨by omega, by omega⟩, trivial⟩⟩
set_option maxRecDepth 20000 in
theorem sp_X6_is_1014 (L : Nat) (xs : Nat → Int32) (sio : Option Nat) (d : Nat) (dt : Nat → Nat → Int) (hI : InvC dt)   (h_p0 : dt 79 13 ≤ 500) : GO (am_XX L xs sio) (d + 4) 156 0 [some (.inr (.inr (some 79))), some (.inr (.inr (some 1014))), none, none] [] (SH, dt) (fun r w2 => w2 = (SH, dt) ∧ ((∃ v : Int, r = some (.inl v) ∧ (0 ≤ v ∧ v ≤ 1) ∧ True))) := by
  have r1 : 0 ≤ dt 79 13 ∧ dt 79 13 ≤ 501 := InvC_get hI 79 13 rfl rfl
  have r2 : 0 ≤ dt 79 15 ∧ dt 79 15 ≤ 500 := InvC_get hI 79 15 rfl rfl
  refine go_toq PM156 (k := 6) (pc' := 10) (L' := [some (.inr (.inr (some 79))), some (.inr (.inr (some 1014))), none, none]) (st' := [.inr (.inr (some 1014)), .inl ((dt 79 13) - (dt 79 15))]) (w' := (SH, dt)) rfl ?_
  refine go_callq PM156 PM249 (Q' := _) rfl rfl rfl rfl (sp_J0_length_8abf5_1014 L xs sio (d + 2) dt hI   ) ?_
  rintro _ _ ⟨rfl, h3⟩
  refine ⟨rfl, ?_⟩
  rcases h3 with ⟨rfl, h3⟩
  refine go_ifq PM156 (k := 0) (p1 := 20) (p2 := 16) (L' := [some (.inr (.inr (some 79))), some (.inr (.inr (some 1014))), none, none]) (st' := []) (w' := (SH, dt)) rfl (c_ne (a := (dt 79 13) - (dt 79 15)) (b := 4) ⟨by omega, by omega⟩ ⟨by decide, by decide⟩) (fun c5 => ?_) (fun c5 => ?_)
  · skip
    replace c5 := hid c5
    refine go_toq PM156 (k := 4) (pc' := 24) (L' := [some (.inr (.inr (some 79))), some (.inr (.inr (some 1014))), some (.inl 0), some (.inl 0)]) (st' := []) (w' := (SH, dt)) rfl ?_
    have loop44 : ∀ (k_ : Nat) (l24_2 : Int) (l24_3 : Int) (i41 : 0 ≤ l24_2 ∧ l24_2 ≤ 1) (i42 : 0 ≤ l24_3 ∧ l24_3 ≤ 4) (i43 : l24_2 = 0 ∨ dt 79 13 - dt 79 15 = 4), (5 - l24_3).toNat < k_ → GO (am_XX L xs sio) (d + 4) 156 24 [some (.inr (.inr (some 79))), some (.inr (.inr (some 1014))), some (.inl l24_2), some (.inl l24_3)] [] (SH, dt) (fun r w2 => w2 = (SH, dt) ∧ ((∃ v : Int, r = some (.inl v) ∧ (0 ≤ v ∧ v ≤ 1) ∧ True))) := by
      intro k_
      induction k_ with
      | zero => intro l24_2 l24_3 i41 i42 i43 hm; exact absurd hm (Nat.not_lt_zero _)
      | succ k_ ih_loop44 =>
        intro l24_2 l24_3 i41 i42 i43 hm
        replace i43 := hid i43
        refine go_toq PM156 (k := 2) (pc' := 26) (L' := [some (.inr (.inr (some 79))), some (.inr (.inr (some 1014))), some (.inl l24_2), some (.inl l24_3)]) (st' := [.inr (.inr (some 1014)), .inl l24_3]) (w' := (SH, dt)) rfl ?_
        refine go_callq PM156 PM249 (Q' := _) rfl rfl rfl rfl (sp_J0_length_8abf5_1014 L xs sio (d + 2) dt hI   ) ?_
        rintro _ _ ⟨rfl, h45⟩
        refine ⟨rfl, ?_⟩
        rcases h45 with ⟨rfl, h45⟩
        have j51 :  GO (am_XX L xs sio) (d + 4) 156 67 [some (.inr (.inr (some 79))), some (.inr (.inr (some 1014))), some (.inl l24_2), none] [] (SH, dt) (fun r w2 => w2 = (SH, dt) ∧ ((∃ v : Int, r = some (.inl v) ∧ (0 ≤ v ∧ v ≤ 1) ∧ True))) := by
          skip
          refine go_toq PM156 (k := 1) (pc' := 68) (L' := [some (.inr (.inr (some 79))), some (.inr (.inr (some 1014))), some (.inl l24_2), none]) (st' := [.inl l24_2]) (w' := (SH, dt)) rfl ?_
          refine go_retvq PM156 (v := l24_2) rfl (decide_eq_true (show l24_2 = 0 ∨ l24_2 = 1 by omega)) ?_
          exact ⟨rfl, ⟨_, rfl, ⟨by omega, by omega⟩, trivial⟩⟩
        refine go_ifq PM156 (k := 0) (p1 := 67) (p2 := 32) (L' := [some (.inr (.inr (some 79))), some (.inr (.inr (some 1014))), some (.inl l24_2), some (.inl l24_3)]) (st' := []) (w' := (SH, dt)) rfl (c_ge (a := l24_3) (b := 4) (by first | exact bnd i42 (by decide) (by decide) | exact ⟨by fail, by fail⟩) ⟨by decide, by decide⟩) (fun c52 => ?_) (fun c52 => ?_)
        · skip
          exact GO.le (j51 ) ⟨.inl rfl, .inl rfl, .inl rfl, .inr ⟨rfl, trivial⟩, trivial⟩
        · skip
          refine go_ifq PM156 (k := 1) (p1 := 67) (p2 := 36) (L' := [some (.inr (.inr (some 79))), some (.inr (.inr (some 1014))), some (.inl l24_2), some (.inl l24_3)]) (st' := []) (w' := (SH, dt)) rfl (z_eq (a := l24_2) (by first | exact bnd i41 (by decide) (by decide) | exact ⟨by fail, by fail⟩)) (fun c53 => ?_) (fun c53 => ?_)
          · skip
            exact GO.le (j51 ) ⟨.inl rfl, .inl rfl, .inl rfl, .inr ⟨rfl, trivial⟩, trivial⟩
          · skip
            replace c53 := hid c53
            refine go_toq PM156 (k := 6) (pc' := 46) (L' := [some (.inr (.inr (some 79))), some (.inr (.inr (some 1014))), some (.inl l24_2), some (.inl l24_3)]) (st' := [.inl ((dt 79 15) + l24_3), .inr (.inr (some 85))]) (w' := (SH, dt)) rfl ?_
            have r54 : 0 ≤ dt 85 (((dt 79 15) + l24_3).toNat) ∧ dt 85 (((dt 79 15) + l24_3).toNat) ≤ 255 := InvC_get hI 85 (((dt 79 15) + l24_3).toNat) rfl rfl
            refine go_smpq PM156 (L' := [some (.inr (.inr (some 79))), some (.inr (.inr (some 1014))), some (.inl l24_2), some (.inl l24_3)]) (st' := [.inl (dt 85 (((dt 79 15) + l24_3).toNat))]) (w' := (SH, dt)) rfl rfl (s_iald (n := 500) (f := dt 85) rfl ⟨by omega, by (have z0_ := unhid c5; have z1_ := unhid i43; have z2_ := unhid c53; omega)⟩) ?_
            refine go_toq PM156 (k := 2) (pc' := 49) (L' := [some (.inr (.inr (some 79))), some (.inr (.inr (some 1014))), some (.inl l24_2), some (.inl l24_3)]) (st' := [.inl l24_3, .inr (.inr (some 1014)), .inl (dt 85 (((dt 79 15) + l24_3).toNat))]) (w' := (SH, dt)) rfl ?_
            refine go_callq PM156 PM250 (Q' := _) rfl rfl rfl rfl (sp_J0_charAt_5068e_1014 L xs sio (d + 0) dt hI  l24_3 (by first | exact bnd i42 (by decide) (by decide) | exact bndd i42 c52 (by decide) (by decide) | exact ⟨by fail, by fail⟩) ) ?_
            rintro _ _ ⟨rfl, h55⟩
            refine ⟨rfl, ?_⟩
            rcases h55 with ⟨v_h55, rfl, h55r, h55⟩
            refine go_ifq PM156 (k := 0) (p1 := 59) (p2 := 55) (L' := [some (.inr (.inr (some 79))), some (.inr (.inr (some 1014))), some (.inl l24_2), some (.inl l24_3)]) (st' := []) (w' := (SH, dt)) rfl (c_ne (a := dt 85 (((dt 79 15) + l24_3).toNat)) (b := v_h55) (by first | exact bnd r54 (by decide) (by decide) | exact ⟨by fail, by fail⟩) (by first | exact bnd h55r (by decide) (by decide) | exact ⟨by fail, by fail⟩)) (fun c57 => ?_) (fun c57 => ?_)
            · skip
              replace c57 := hid c57
              refine go_toq PM156 (k := 4) (pc' := 24) (L' := [some (.inr (.inr (some 79))), some (.inr (.inr (some 1014))), some (.inl 0), some (.inl (l24_3 + 1))]) (st' := []) (w' := (SH, dt)) rfl ?_
              exact GO.le (ih_loop44 0 (l24_3 + 1) ⟨by decide, by decide⟩ (by first | exact bndp i42 (by decide) (by decide) | exact bnde i42 c52 (by decide) (by decide) | fail) (by omega) (by omega)) ⟨.inl rfl, .inl rfl, .inl rfl, .inl rfl, trivial⟩
            · skip
              refine go_toq PM156 (k := 5) (pc' := 24) (L' := [some (.inr (.inr (some 79))), some (.inr (.inr (some 1014))), some (.inl 1), some (.inl (l24_3 + 1))]) (st' := []) (w' := (SH, dt)) rfl ?_
              exact GO.le (ih_loop44 1 (l24_3 + 1) ⟨by decide, by decide⟩ (by first | exact bndp i42 (by decide) (by decide) | exact bnde i42 c52 (by decide) (by decide) | fail) (by (have z0_ := unhid c5; have z1_ := unhid i43; have z2_ := unhid c53; omega)) (by omega)) ⟨.inl rfl, .inl rfl, .inl rfl, .inl rfl, trivial⟩
    exact GO.le (loop44 _ 0 0 ⟨by decide, by decide⟩ ⟨by decide, by decide⟩ (by omega) (Nat.lt_succ_self _)) ⟨.inl rfl, .inl rfl, .inl rfl, .inl rfl, trivial⟩
  · skip
    refine go_toq PM156 (k := 5) (pc' := 24) (L' := [some (.inr (.inr (some 79))), some (.inr (.inr (some 1014))), some (.inl 1), some (.inl 0)]) (st' := []) (w' := (SH, dt)) rfl ?_
    have loop96 : ∀ (k_ : Nat) (l24_2 : Int) (l24_3 : Int) (i93 : 0 ≤ l24_2 ∧ l24_2 ≤ 1) (i94 : 0 ≤ l24_3 ∧ l24_3 ≤ 4) (i95 : l24_2 = 0 ∨ dt 79 13 - dt 79 15 = 4), (5 - l24_3).toNat < k_ → GO (am_XX L xs sio) (d + 4) 156 24 [some (.inr (.inr (some 79))), some (.inr (.inr (some 1014))), some (.inl l24_2), some (.inl l24_3)] [] (SH, dt) (fun r w2 => w2 = (SH, dt) ∧ ((∃ v : Int, r = some (.inl v) ∧ (0 ≤ v ∧ v ≤ 1) ∧ True))) := by
      intro k_
      induction k_ with
      | zero => intro l24_2 l24_3 i93 i94 i95 hm; exact absurd hm (Nat.not_lt_zero _)
      | succ k_ ih_loop96 =>
        intro l24_2 l24_3 i93 i94 i95 hm
        replace i95 := hid i95
        refine go_toq PM156 (k := 2) (pc' := 26) (L' := [some (.inr (.inr (some 79))), some (.inr (.inr (some 1014))), some (.inl l24_2), some (.inl l24_3)]) (st' := [.inr (.inr (some 1014)), .inl l24_3]) (w' := (SH, dt)) rfl ?_
        refine go_callq PM156 PM249 (Q' := _) rfl rfl rfl rfl (sp_J0_length_8abf5_1014 L xs sio (d + 2) dt hI   ) ?_
        rintro _ _ ⟨rfl, h97⟩
        refine ⟨rfl, ?_⟩
        rcases h97 with ⟨rfl, h97⟩
        have j103 :  GO (am_XX L xs sio) (d + 4) 156 67 [some (.inr (.inr (some 79))), some (.inr (.inr (some 1014))), some (.inl l24_2), none] [] (SH, dt) (fun r w2 => w2 = (SH, dt) ∧ ((∃ v : Int, r = some (.inl v) ∧ (0 ≤ v ∧ v ≤ 1) ∧ True))) := by
          skip
          refine go_toq PM156 (k := 1) (pc' := 68) (L' := [some (.inr (.inr (some 79))), some (.inr (.inr (some 1014))), some (.inl l24_2), none]) (st' := [.inl l24_2]) (w' := (SH, dt)) rfl ?_
          refine go_retvq PM156 (v := l24_2) rfl (decide_eq_true (show l24_2 = 0 ∨ l24_2 = 1 by omega)) ?_
          exact ⟨rfl, ⟨_, rfl, ⟨by omega, by omega⟩, trivial⟩⟩
        refine go_ifq PM156 (k := 0) (p1 := 67) (p2 := 32) (L' := [some (.inr (.inr (some 79))), some (.inr (.inr (some 1014))), some (.inl l24_2), some (.inl l24_3)]) (st' := []) (w' := (SH, dt)) rfl (c_ge (a := l24_3) (b := 4) (by first | exact bnd i94 (by decide) (by decide) | exact ⟨by fail, by fail⟩) ⟨by decide, by decide⟩) (fun c104 => ?_) (fun c104 => ?_)
        · skip
          exact GO.le (j103 ) ⟨.inl rfl, .inl rfl, .inl rfl, .inr ⟨rfl, trivial⟩, trivial⟩
        · skip
          refine go_ifq PM156 (k := 1) (p1 := 67) (p2 := 36) (L' := [some (.inr (.inr (some 79))), some (.inr (.inr (some 1014))), some (.inl l24_2), some (.inl l24_3)]) (st' := []) (w' := (SH, dt)) rfl (z_eq (a := l24_2) (by first | exact bnd i93 (by decide) (by decide) | exact ⟨by fail, by fail⟩)) (fun c105 => ?_) (fun c105 => ?_)
          · skip
            exact GO.le (j103 ) ⟨.inl rfl, .inl rfl, .inl rfl, .inr ⟨rfl, trivial⟩, trivial⟩
          · skip
            replace c105 := hid c105
            refine go_toq PM156 (k := 6) (pc' := 46) (L' := [some (.inr (.inr (some 79))), some (.inr (.inr (some 1014))), some (.inl l24_2), some (.inl l24_3)]) (st' := [.inl ((dt 79 15) + l24_3), .inr (.inr (some 85))]) (w' := (SH, dt)) rfl ?_
            have r106 : 0 ≤ dt 85 (((dt 79 15) + l24_3).toNat) ∧ dt 85 (((dt 79 15) + l24_3).toNat) ≤ 255 := InvC_get hI 85 (((dt 79 15) + l24_3).toNat) rfl rfl
            refine go_smpq PM156 (L' := [some (.inr (.inr (some 79))), some (.inr (.inr (some 1014))), some (.inl l24_2), some (.inl l24_3)]) (st' := [.inl (dt 85 (((dt 79 15) + l24_3).toNat))]) (w' := (SH, dt)) rfl rfl (s_iald (n := 500) (f := dt 85) rfl ⟨by omega, by omega⟩) ?_
            refine go_toq PM156 (k := 2) (pc' := 49) (L' := [some (.inr (.inr (some 79))), some (.inr (.inr (some 1014))), some (.inl l24_2), some (.inl l24_3)]) (st' := [.inl l24_3, .inr (.inr (some 1014)), .inl (dt 85 (((dt 79 15) + l24_3).toNat))]) (w' := (SH, dt)) rfl ?_
            refine go_callq PM156 PM250 (Q' := _) rfl rfl rfl rfl (sp_J0_charAt_5068e_1014 L xs sio (d + 0) dt hI  l24_3 (by first | exact bnd i94 (by decide) (by decide) | exact bndd i94 c104 (by decide) (by decide) | exact ⟨by fail, by fail⟩) ) ?_
            rintro _ _ ⟨rfl, h107⟩
            refine ⟨rfl, ?_⟩
            rcases h107 with ⟨v_h107, rfl, h107r, h107⟩
            refine go_ifq PM156 (k := 0) (p1 := 59) (p2 := 55) (L' := [some (.inr (.inr (some 79))), some (.inr (.inr (some 1014))), some (.inl l24_2), some (.inl l24_3)]) (st' := []) (w' := (SH, dt)) rfl (c_ne (a := dt 85 (((dt 79 15) + l24_3).toNat)) (b := v_h107) (by first | exact bnd r106 (by decide) (by decide) | exact ⟨by fail, by fail⟩) (by first | exact bnd h107r (by decide) (by decide) | exact ⟨by fail, by fail⟩)) (fun c109 => ?_) (fun c109 => ?_)
            · skip
              replace c109 := hid c109
              refine go_toq PM156 (k := 4) (pc' := 24) (L' := [some (.inr (.inr (some 79))), some (.inr (.inr (some 1014))), some (.inl 0), some (.inl (l24_3 + 1))]) (st' := []) (w' := (SH, dt)) rfl ?_
              exact GO.le (ih_loop96 0 (l24_3 + 1) ⟨by decide, by decide⟩ (by first | exact bndp i94 (by decide) (by decide) | exact bnde i94 c104 (by decide) (by decide) | fail) (by omega) (by omega)) ⟨.inl rfl, .inl rfl, .inl rfl, .inl rfl, trivial⟩
            · skip
              refine go_toq PM156 (k := 5) (pc' := 24) (L' := [some (.inr (.inr (some 79))), some (.inr (.inr (some 1014))), some (.inl 1), some (.inl (l24_3 + 1))]) (st' := []) (w' := (SH, dt)) rfl ?_
              exact GO.le (ih_loop96 1 (l24_3 + 1) ⟨by decide, by decide⟩ (by first | exact bndp i94 (by decide) (by decide) | exact bnde i94 c104 (by decide) (by decide) | fail) (by omega) (by omega)) ⟨.inl rfl, .inl rfl, .inl rfl, .inl rfl, trivial⟩
    exact GO.le (loop96 _ 1 0 ⟨by decide, by decide⟩ ⟨by decide, by decide⟩ (by omega) (Nat.lt_succ_self _)) ⟨.inl rfl, .inl rfl, .inl rfl, .inl rfl, trivial⟩
theorem sp_J0_coder_7d493_1015 (L : Nat) (xs : Nat → Int32) (sio : Option Nat) (d : Nat) (dt : Nat → Nat → Int) (hI : InvC dt)    : GO (am_XX L xs sio) (d) 253 0 [some (.inr (.inr (some 1015)))] [] (SH, dt) (fun r w2 => w2 = (SH, dt) ∧ ((r = some (.inl 0) ∧ True))) := by
  refine go_retq PM253 (k := 5) (r := some (.inl 0)) (w1 := (SH, dt)) rfl ?_
  exact ⟨rfl, ⟨rfl, trivial⟩⟩
theorem sp_J0_length_8abf5_1015 (L : Nat) (xs : Nat → Int32) (sio : Option Nat) (d : Nat) (dt : Nat → Nat → Int) (hI : InvC dt)    : GO (am_XX L xs sio) (d + 1) 249 0 [some (.inr (.inr (some 1015)))] [] (SH, dt) (fun r w2 => w2 = (SH, dt) ∧ ((r = some (.inl 2) ∧ True))) := by
  refine go_toq PM249 (k := 4) (pc' := 6) (L' := [some (.inr (.inr (some 1015)))]) (st' := [.inr (.inr (some 1015)), .inl 2]) (w' := (SH, dt)) rfl ?_
  refine go_callq PM249 PM253 (Q' := _) rfl rfl rfl rfl (sp_J0_coder_7d493_1015 L xs sio (d + 0) dt hI   ) ?_
  rintro _ _ ⟨rfl, h1⟩
  refine ⟨rfl, ?_⟩
  rcases h1 with ⟨rfl, h1⟩
  refine go_smpq PM249 (L' := [some (.inr (.inr (some 1015)))]) (st' := [.inl 2]) (w' := (SH, dt)) rfl rfl (s_bshr (v := 2) (by decide)) ?_
  refine go_retq PM249 (k := 0) (r := some (.inl 2)) (w1 := (SH, dt)) rfl ?_
  exact ⟨rfl, ⟨rfl, trivial⟩⟩
theorem sp_J0_isLatin1_aae02_1015 (L : Nat) (xs : Nat → Int32) (sio : Option Nat) (d : Nat) (dt : Nat → Nat → Int) (hI : InvC dt)    : GO (am_XX L xs sio) (d) 254 0 [some (.inr (.inr (some 1015)))] [] (SH, dt) (fun r w2 => w2 = (SH, dt) ∧ ((r = some (.inl 1) ∧ True))) := by
  refine go_retq PM254 (k := 7) (r := some (.inl 1)) (w1 := (SH, dt)) rfl ?_
  exact ⟨rfl, ⟨rfl, trivial⟩⟩
theorem sp_J1_charAt_3b067_1015 (L : Nat) (xs : Nat → Int32) (sio : Option Nat) (d : Nat) (dt : Nat → Nat → Int) (hI : InvC dt)  (p2 : Int) (h_p2 : 0 ≤ p2 ∧ p2 ≤ 1)  : GO (am_XX L xs sio) (d + 2) 256 0 [some (.inr (.inr (some 2015))), some (.inl p2)] [] (SH, dt) (fun r w2 => w2 = (SH, dt) ∧ ((∃ v : Int, r = some (.inl v) ∧ (0 ≤ v ∧ v ≤ 65535) ∧ True))) := by
  refine go_toq PM256 (k := 3) (pc' := 3) (L' := [some (.inr (.inr (some 2015))), some (.inl p2)]) (st' := [.inl 2, .inl p2]) (w' := (SH, dt)) rfl ?_
  refine go_callq PM256 PM255 (Q' := _) rfl rfl rfl rfl (sp_J0_checkIndex_df160 L xs sio (d + 0) dt hI  p2 (by first | exact h_p2 | exact bnd h_p2 (by decide) (by decide) | exact ⟨by fail, by fail⟩) 2 ⟨by decide, by decide⟩ (by first | exact True.intro | with_reducible assumption | rfl | omega | trivial)) ?_
  rintro _ _ ⟨rfl, h1⟩
  refine ⟨rfl, ?_⟩
  rcases h1 with ⟨rfl, h1⟩
  refine go_toq PM256 (k := 2) (pc' := 8) (L' := [some (.inr (.inr (some 2015))), some (.inl p2)]) (st' := [.inl p2, .inr (.inr (some 2015))]) (w' := (SH, dt)) rfl ?_
  have r2 := sby_R 15 (p2).toNat
  refine go_smpq PM256 (L' := [some (.inr (.inr (some 2015))), some (.inl p2)]) (st' := [.inl ((am_Sby.getD 15 []).getD (p2).toNat 0)]) (w' := (SH, dt)) rfl rfl (s_bald (n := 2) (f := fun q => (am_Sby.getD 15 []).getD q 0) rfl (by first | exact bndx h_p2 (by decide) (by decide) | exact ⟨by fail, by fail⟩)) ?_
  have r3 : 0 ≤ am_and ((am_Sby.getD 15 []).getD (p2).toNat 0) 255 ∧ am_and ((am_Sby.getD 15 []).getD (p2).toNat 0) 255 ≤ 255 := and_R255
  have r4 := i2c_R (am_and ((am_Sby.getD 15 []).getD (p2).toNat 0) 255)
  refine go_toq PM256 (k := 3) (pc' := 14) (L' := [some (.inr (.inr (some 2015))), some (.inl p2)]) (st' := [.inl (am_i2c (am_and ((am_Sby.getD 15 []).getD (p2).toNat 0) 255))]) (w' := (SH, dt)) rfl ?_
  refine go_retvq PM256 (v := am_i2c (am_and ((am_Sby.getD 15 []).getD (p2).toNat 0) 255)) rfl (decide_eq_true (show 0 ≤ am_i2c (am_and ((am_Sby.getD 15 []).getD (p2).toNat 0) 255) ∧ am_i2c (am_and ((am_Sby.getD 15 []).getD (p2).toNat 0) 255) < 65536 by omega)) ?_
  exact ⟨rfl, ⟨_, rfl, ⟨by omega, by omega⟩, trivial⟩⟩
theorem sp_J0_charAt_5068e_1015 (L : Nat) (xs : Nat → Int32) (sio : Option Nat) (d : Nat) (dt : Nat → Nat → Int) (hI : InvC dt)  (p1 : Int) (h_p1 : 0 ≤ p1 ∧ p1 ≤ 1)  : GO (am_XX L xs sio) (d + 3) 250 0 [some (.inr (.inr (some 1015))), some (.inl p1)] [] (SH, dt) (fun r w2 => w2 = (SH, dt) ∧ ((∃ v : Int, r = some (.inl v) ∧ (0 ≤ v ∧ v ≤ 65535) ∧ True))) := by
  refine go_toq PM250 (k := 1) (pc' := 1) (L' := [some (.inr (.inr (some 1015))), some (.inl p1)]) (st' := [.inr (.inr (some 1015))]) (w' := (SH, dt)) rfl ?_
  refine go_callq PM250 PM254 (Q' := _) rfl rfl rfl rfl (sp_J0_isLatin1_aae02_1015 L xs sio (d + 2) dt hI   ) ?_
  rintro _ _ ⟨rfl, h1⟩
  refine ⟨rfl, ?_⟩
  rcases h1 with ⟨rfl, h1⟩
  refine go_toq PM250 (k := 4) (pc' := 12) (L' := [some (.inr (.inr (some 1015))), some (.inl p1)]) (st' := [.inl p1, .inr (.inr (some 2015))]) (w' := (SH, dt)) rfl ?_
  refine go_callq PM250 PM256 (Q' := _) rfl rfl rfl rfl (sp_J1_charAt_3b067_1015 L xs sio (d + 0) dt hI  p1 (by first | exact h_p1 | exact bnd h_p1 (by decide) (by decide) | exact ⟨by fail, by fail⟩) ) ?_
  rintro _ _ ⟨rfl, h2⟩
  refine ⟨rfl, ?_⟩
  rcases h2 with ⟨v_h2, rfl, h2r, h2⟩
  refine go_retvq PM250 (v := v_h2) rfl (decide_eq_true (show 0 ≤ v_h2 ∧ v_h2 < 65536 by omega)) ?_
  exact ⟨rfl, ⟨_, rfl, ⟨by omega, by omega⟩, trivial⟩⟩
set_option maxRecDepth 20000 in
theorem sp_X6_is_1015 (L : Nat) (xs : Nat → Int32) (sio : Option Nat) (d : Nat) (dt : Nat → Nat → Int) (hI : InvC dt)   (h_p0 : dt 79 13 ≤ 500) : GO (am_XX L xs sio) (d + 4) 156 0 [some (.inr (.inr (some 79))), some (.inr (.inr (some 1015))), none, none] [] (SH, dt) (fun r w2 => w2 = (SH, dt) ∧ ((∃ v : Int, r = some (.inl v) ∧ (0 ≤ v ∧ v ≤ 1) ∧ True))) := by
  have r1 : 0 ≤ dt 79 13 ∧ dt 79 13 ≤ 501 := InvC_get hI 79 13 rfl rfl
  have r2 : 0 ≤ dt 79 15 ∧ dt 79 15 ≤ 500 := InvC_get hI 79 15 rfl rfl
  refine go_toq PM156 (k := 6) (pc' := 10) (L' := [some (.inr (.inr (some 79))), some (.inr (.inr (some 1015))), none, none]) (st' := [.inr (.inr (some 1015)), .inl ((dt 79 13) - (dt 79 15))]) (w' := (SH, dt)) rfl ?_
  refine go_callq PM156 PM249 (Q' := _) rfl rfl rfl rfl (sp_J0_length_8abf5_1015 L xs sio (d + 2) dt hI   ) ?_
  rintro _ _ ⟨rfl, h3⟩
  refine ⟨rfl, ?_⟩
  rcases h3 with ⟨rfl, h3⟩
  refine go_ifq PM156 (k := 0) (p1 := 20) (p2 := 16) (L' := [some (.inr (.inr (some 79))), some (.inr (.inr (some 1015))), none, none]) (st' := []) (w' := (SH, dt)) rfl (c_ne (a := (dt 79 13) - (dt 79 15)) (b := 2) ⟨by omega, by omega⟩ ⟨by decide, by decide⟩) (fun c5 => ?_) (fun c5 => ?_)
  · skip
    replace c5 := hid c5
    refine go_toq PM156 (k := 4) (pc' := 24) (L' := [some (.inr (.inr (some 79))), some (.inr (.inr (some 1015))), some (.inl 0), some (.inl 0)]) (st' := []) (w' := (SH, dt)) rfl ?_
    have loop30 : ∀ (k_ : Nat) (l24_2 : Int) (l24_3 : Int) (i27 : 0 ≤ l24_2 ∧ l24_2 ≤ 1) (i28 : 0 ≤ l24_3 ∧ l24_3 ≤ 2) (i29 : l24_2 = 0 ∨ dt 79 13 - dt 79 15 = 2), (3 - l24_3).toNat < k_ → GO (am_XX L xs sio) (d + 4) 156 24 [some (.inr (.inr (some 79))), some (.inr (.inr (some 1015))), some (.inl l24_2), some (.inl l24_3)] [] (SH, dt) (fun r w2 => w2 = (SH, dt) ∧ ((∃ v : Int, r = some (.inl v) ∧ (0 ≤ v ∧ v ≤ 1) ∧ True))) := by
      intro k_
      induction k_ with
      | zero => intro l24_2 l24_3 i27 i28 i29 hm; exact absurd hm (Nat.not_lt_zero _)
      | succ k_ ih_loop30 =>
        intro l24_2 l24_3 i27 i28 i29 hm
        replace i29 := hid i29
        refine go_toq PM156 (k := 2) (pc' := 26) (L' := [some (.inr (.inr (some 79))), some (.inr (.inr (some 1015))), some (.inl l24_2), some (.inl l24_3)]) (st' := [.inr (.inr (some 1015)), .inl l24_3]) (w' := (SH, dt)) rfl ?_
        refine go_callq PM156 PM249 (Q' := _) rfl rfl rfl rfl (sp_J0_length_8abf5_1015 L xs sio (d + 2) dt hI   ) ?_
        rintro _ _ ⟨rfl, h31⟩
        refine ⟨rfl, ?_⟩
        rcases h31 with ⟨rfl, h31⟩
        have j37 :  GO (am_XX L xs sio) (d + 4) 156 67 [some (.inr (.inr (some 79))), some (.inr (.inr (some 1015))), some (.inl l24_2), none] [] (SH, dt) (fun r w2 => w2 = (SH, dt) ∧ ((∃ v : Int, r = some (.inl v) ∧ (0 ≤ v ∧ v ≤ 1) ∧ True))) := by
          skip
          refine go_toq PM156 (k := 1) (pc' := 68) (L' := [some (.inr (.inr (some 79))), some (.inr (.inr (some 1015))), some (.inl l24_2), none]) (st' := [.inl l24_2]) (w' := (SH, dt)) rfl ?_
          refine go_retvq PM156 (v := l24_2) rfl (decide_eq_true (show l24_2 = 0 ∨ l24_2 = 1 by omega)) ?_
          exact ⟨rfl, ⟨_, rfl, ⟨by omega, by omega⟩, trivial⟩⟩
        refine go_ifq PM156 (k := 0) (p1 := 67) (p2 := 32) (L' := [some (.inr (.inr (some 79))), some (.inr (.inr (some 1015))), some (.inl l24_2), some (.inl l24_3)]) (st' := []) (w' := (SH, dt)) rfl (c_ge (a := l24_3) (b := 2) (by first | exact bnd i28 (by decide) (by decide) | exact ⟨by fail, by fail⟩) ⟨by decide, by decide⟩) (fun c38 => ?_) (fun c38 => ?_)
        · skip
          exact GO.le (j37 ) ⟨.inl rfl, .inl rfl, .inl rfl, .inr ⟨rfl, trivial⟩, trivial⟩
        · skip
          refine go_ifq PM156 (k := 1) (p1 := 67) (p2 := 36) (L' := [some (.inr (.inr (some 79))), some (.inr (.inr (some 1015))), some (.inl l24_2), some (.inl l24_3)]) (st' := []) (w' := (SH, dt)) rfl (z_eq (a := l24_2) (by first | exact bnd i27 (by decide) (by decide) | exact ⟨by fail, by fail⟩)) (fun c39 => ?_) (fun c39 => ?_)
          · skip
            exact GO.le (j37 ) ⟨.inl rfl, .inl rfl, .inl rfl, .inr ⟨rfl, trivial⟩, trivial⟩
          · skip
            replace c39 := hid c39
            refine go_toq PM156 (k := 6) (pc' := 46) (L' := [some (.inr (.inr (some 79))), some (.inr (.inr (some 1015))), some (.inl l24_2), some (.inl l24_3)]) (st' := [.inl ((dt 79 15) + l24_3), .inr (.inr (some 85))]) (w' := (SH, dt)) rfl ?_
            have r40 : 0 ≤ dt 85 (((dt 79 15) + l24_3).toNat) ∧ dt 85 (((dt 79 15) + l24_3).toNat) ≤ 255 := InvC_get hI 85 (((dt 79 15) + l24_3).toNat) rfl rfl
            refine go_smpq PM156 (L' := [some (.inr (.inr (some 79))), some (.inr (.inr (some 1015))), some (.inl l24_2), some (.inl l24_3)]) (st' := [.inl (dt 85 (((dt 79 15) + l24_3).toNat))]) (w' := (SH, dt)) rfl rfl (s_iald (n := 500) (f := dt 85) rfl ⟨by omega, by (have z0_ := unhid c5; have z1_ := unhid i29; have z2_ := unhid c39; omega)⟩) ?_
            refine go_toq PM156 (k := 2) (pc' := 49) (L' := [some (.inr (.inr (some 79))), some (.inr (.inr (some 1015))), some (.inl l24_2), some (.inl l24_3)]) (st' := [.inl l24_3, .inr (.inr (some 1015)), .inl (dt 85 (((dt 79 15) + l24_3).toNat))]) (w' := (SH, dt)) rfl ?_
            refine go_callq PM156 PM250 (Q' := _) rfl rfl rfl rfl (sp_J0_charAt_5068e_1015 L xs sio (d + 0) dt hI  l24_3 (by first | exact bnd i28 (by decide) (by decide) | exact bndd i28 c38 (by decide) (by decide) | exact ⟨by fail, by fail⟩) ) ?_
            rintro _ _ ⟨rfl, h41⟩
            refine ⟨rfl, ?_⟩
            rcases h41 with ⟨v_h41, rfl, h41r, h41⟩
            refine go_ifq PM156 (k := 0) (p1 := 59) (p2 := 55) (L' := [some (.inr (.inr (some 79))), some (.inr (.inr (some 1015))), some (.inl l24_2), some (.inl l24_3)]) (st' := []) (w' := (SH, dt)) rfl (c_ne (a := dt 85 (((dt 79 15) + l24_3).toNat)) (b := v_h41) (by first | exact bnd r40 (by decide) (by decide) | exact ⟨by fail, by fail⟩) (by first | exact bnd h41r (by decide) (by decide) | exact ⟨by fail, by fail⟩)) (fun c43 => ?_) (fun c43 => ?_)
            · skip
              replace c43 := hid c43
              refine go_toq PM156 (k := 4) (pc' := 24) (L' := [some (.inr (.inr (some 79))), some (.inr (.inr (some 1015))), some (.inl 0), some (.inl (l24_3 + 1))]) (st' := []) (w' := (SH, dt)) rfl ?_
              exact GO.le (ih_loop30 0 (l24_3 + 1) ⟨by decide, by decide⟩ (by first | exact bndp i28 (by decide) (by decide) | exact bnde i28 c38 (by decide) (by decide) | fail) (by omega) (by omega)) ⟨.inl rfl, .inl rfl, .inl rfl, .inl rfl, trivial⟩
            · skip
              refine go_toq PM156 (k := 5) (pc' := 24) (L' := [some (.inr (.inr (some 79))), some (.inr (.inr (some 1015))), some (.inl 1), some (.inl (l24_3 + 1))]) (st' := []) (w' := (SH, dt)) rfl ?_
              exact GO.le (ih_loop30 1 (l24_3 + 1) ⟨by decide, by decide⟩ (by first | exact bndp i28 (by decide) (by decide) | exact bnde i28 c38 (by decide) (by decide) | fail) (by (have z0_ := unhid c5; have z1_ := unhid i29; have z2_ := unhid c39; omega)) (by omega)) ⟨.inl rfl, .inl rfl, .inl rfl, .inl rfl, trivial⟩
    exact GO.le (loop30 _ 0 0 ⟨by decide, by decide⟩ ⟨by decide, by decide⟩ (by omega) (Nat.lt_succ_self _)) ⟨.inl rfl, .inl rfl, .inl rfl, .inl rfl, trivial⟩
  · skip
    refine go_toq PM156 (k := 5) (pc' := 24) (L' := [some (.inr (.inr (some 79))), some (.inr (.inr (some 1015))), some (.inl 1), some (.inl 0)]) (st' := []) (w' := (SH, dt)) rfl ?_
    have loop68 : ∀ (k_ : Nat) (l24_2 : Int) (l24_3 : Int) (i65 : 0 ≤ l24_2 ∧ l24_2 ≤ 1) (i66 : 0 ≤ l24_3 ∧ l24_3 ≤ 2) (i67 : l24_2 = 0 ∨ dt 79 13 - dt 79 15 = 2), (3 - l24_3).toNat < k_ → GO (am_XX L xs sio) (d + 4) 156 24 [some (.inr (.inr (some 79))), some (.inr (.inr (some 1015))), some (.inl l24_2), some (.inl l24_3)] [] (SH, dt) (fun r w2 => w2 = (SH, dt) ∧ ((∃ v : Int, r = some (.inl v) ∧ (0 ≤ v ∧ v ≤ 1) ∧ True))) := by
      intro k_
      induction k_ with
      | zero => intro l24_2 l24_3 i65 i66 i67 hm; exact absurd hm (Nat.not_lt_zero _)
      | succ k_ ih_loop68 =>
        intro l24_2 l24_3 i65 i66 i67 hm
        replace i67 := hid i67
        refine go_toq PM156 (k := 2) (pc' := 26) (L' := [some (.inr (.inr (some 79))), some (.inr (.inr (some 1015))), some (.inl l24_2), some (.inl l24_3)]) (st' := [.inr (.inr (some 1015)), .inl l24_3]) (w' := (SH, dt)) rfl ?_
        refine go_callq PM156 PM249 (Q' := _) rfl rfl rfl rfl (sp_J0_length_8abf5_1015 L xs sio (d + 2) dt hI   ) ?_
        rintro _ _ ⟨rfl, h69⟩
        refine ⟨rfl, ?_⟩
        rcases h69 with ⟨rfl, h69⟩
        have j75 :  GO (am_XX L xs sio) (d + 4) 156 67 [some (.inr (.inr (some 79))), some (.inr (.inr (some 1015))), some (.inl l24_2), none] [] (SH, dt) (fun r w2 => w2 = (SH, dt) ∧ ((∃ v : Int, r = some (.inl v) ∧ (0 ≤ v ∧ v ≤ 1) ∧ True))) := by
          skip
          refine go_toq PM156 (k := 1) (pc' := 68) (L' := [some (.inr (.inr (some 79))), some (.inr (.inr (some 1015))), some (.inl l24_2), none]) (st' := [.inl l24_2]) (w' := (SH, dt)) rfl ?_
          refine go_retvq PM156 (v := l24_2) rfl (decide_eq_true (show l24_2 = 0 ∨ l24_2 = 1 by omega)) ?_
          exact ⟨rfl, ⟨_, rfl, ⟨by omega, by omega⟩, trivial⟩⟩
        refine go_ifq PM156 (k := 0) (p1 := 67) (p2 := 32) (L' := [some (.inr (.inr (some 79))), some (.inr (.inr (some 1015))), some (.inl l24_2), some (.inl l24_3)]) (st' := []) (w' := (SH, dt)) rfl (c_ge (a := l24_3) (b := 2) (by first | exact bnd i66 (by decide) (by decide) | exact ⟨by fail, by fail⟩) ⟨by decide, by decide⟩) (fun c76 => ?_) (fun c76 => ?_)
        · skip
          exact GO.le (j75 ) ⟨.inl rfl, .inl rfl, .inl rfl, .inr ⟨rfl, trivial⟩, trivial⟩
        · skip
          refine go_ifq PM156 (k := 1) (p1 := 67) (p2 := 36) (L' := [some (.inr (.inr (some 79))), some (.inr (.inr (some 1015))), some (.inl l24_2), some (.inl l24_3)]) (st' := []) (w' := (SH, dt)) rfl (z_eq (a := l24_2) (by first | exact bnd i65 (by decide) (by decide) | exact ⟨by fail, by fail⟩)) (fun c77 => ?_) (fun c77 => ?_)
          · skip
            exact GO.le (j75 ) ⟨.inl rfl, .inl rfl, .inl rfl, .inr ⟨rfl, trivial⟩, trivial⟩
          · skip
            replace c77 := hid c77
            refine go_toq PM156 (k := 6) (pc' := 46) (L' := [some (.inr (.inr (some 79))), some (.inr (.inr (some 1015))), some (.inl l24_2), some (.inl l24_3)]) (st' := [.inl ((dt 79 15) + l24_3), .inr (.inr (some 85))]) (w' := (SH, dt)) rfl ?_
            have r78 : 0 ≤ dt 85 (((dt 79 15) + l24_3).toNat) ∧ dt 85 (((dt 79 15) + l24_3).toNat) ≤ 255 := InvC_get hI 85 (((dt 79 15) + l24_3).toNat) rfl rfl
            refine go_smpq PM156 (L' := [some (.inr (.inr (some 79))), some (.inr (.inr (some 1015))), some (.inl l24_2), some (.inl l24_3)]) (st' := [.inl (dt 85 (((dt 79 15) + l24_3).toNat))]) (w' := (SH, dt)) rfl rfl (s_iald (n := 500) (f := dt 85) rfl ⟨by omega, by omega⟩) ?_
            refine go_toq PM156 (k := 2) (pc' := 49) (L' := [some (.inr (.inr (some 79))), some (.inr (.inr (some 1015))), some (.inl l24_2), some (.inl l24_3)]) (st' := [.inl l24_3, .inr (.inr (some 1015)), .inl (dt 85 (((dt 79 15) + l24_3).toNat))]) (w' := (SH, dt)) rfl ?_
            refine go_callq PM156 PM250 (Q' := _) rfl rfl rfl rfl (sp_J0_charAt_5068e_1015 L xs sio (d + 0) dt hI  l24_3 (by first | exact bnd i66 (by decide) (by decide) | exact bndd i66 c76 (by decide) (by decide) | exact ⟨by fail, by fail⟩) ) ?_
            rintro _ _ ⟨rfl, h79⟩
            refine ⟨rfl, ?_⟩
            rcases h79 with ⟨v_h79, rfl, h79r, h79⟩
            refine go_ifq PM156 (k := 0) (p1 := 59) (p2 := 55) (L' := [some (.inr (.inr (some 79))), some (.inr (.inr (some 1015))), some (.inl l24_2), some (.inl l24_3)]) (st' := []) (w' := (SH, dt)) rfl (c_ne (a := dt 85 (((dt 79 15) + l24_3).toNat)) (b := v_h79) (by first | exact bnd r78 (by decide) (by decide) | exact ⟨by fail, by fail⟩) (by first | exact bnd h79r (by decide) (by decide) | exact ⟨by fail, by fail⟩)) (fun c81 => ?_) (fun c81 => ?_)
            · skip
              replace c81 := hid c81
              refine go_toq PM156 (k := 4) (pc' := 24) (L' := [some (.inr (.inr (some 79))), some (.inr (.inr (some 1015))), some (.inl 0), some (.inl (l24_3 + 1))]) (st' := []) (w' := (SH, dt)) rfl ?_
              exact GO.le (ih_loop68 0 (l24_3 + 1) ⟨by decide, by decide⟩ (by first | exact bndp i66 (by decide) (by decide) | exact bnde i66 c76 (by decide) (by decide) | fail) (by omega) (by omega)) ⟨.inl rfl, .inl rfl, .inl rfl, .inl rfl, trivial⟩
            · skip
              refine go_toq PM156 (k := 5) (pc' := 24) (L' := [some (.inr (.inr (some 79))), some (.inr (.inr (some 1015))), some (.inl 1), some (.inl (l24_3 + 1))]) (st' := []) (w' := (SH, dt)) rfl ?_
              exact GO.le (ih_loop68 1 (l24_3 + 1) ⟨by decide, by decide⟩ (by first | exact bndp i66 (by decide) (by decide) | exact bnde i66 c76 (by decide) (by decide) | fail) (by omega) (by omega)) ⟨.inl rfl, .inl rfl, .inl rfl, .inl rfl, trivial⟩
    exact GO.le (loop68 _ 1 0 ⟨by decide, by decide⟩ ⟨by decide, by decide⟩ (by omega) (Nat.lt_succ_self _)) ⟨.inl rfl, .inl rfl, .inl rfl, .inl rfl, trivial⟩
theorem sp_J0_coder_7d493_1016 (L : Nat) (xs : Nat → Int32) (sio : Option Nat) (d : Nat) (dt : Nat → Nat → Int) (hI : InvC dt)    : GO (am_XX L xs sio) (d) 253 0 [some (.inr (.inr (some 1016)))] [] (SH, dt) (fun r w2 => w2 = (SH, dt) ∧ ((r = some (.inl 0) ∧ True))) := by
  refine go_retq PM253 (k := 5) (r := some (.inl 0)) (w1 := (SH, dt)) rfl ?_
  exact ⟨rfl, ⟨rfl, trivial⟩⟩
theorem sp_J0_length_8abf5_1016 (L : Nat) (xs : Nat → Int32) (sio : Option Nat) (d : Nat) (dt : Nat → Nat → Int) (hI : InvC dt)    : GO (am_XX L xs sio) (d + 1) 249 0 [some (.inr (.inr (some 1016)))] [] (SH, dt) (fun r w2 => w2 = (SH, dt) ∧ ((r = some (.inl 3) ∧ True))) := by
  refine go_toq PM249 (k := 4) (pc' := 6) (L' := [some (.inr (.inr (some 1016)))]) (st' := [.inr (.inr (some 1016)), .inl 3]) (w' := (SH, dt)) rfl ?_
  refine go_callq PM249 PM253 (Q' := _) rfl rfl rfl rfl (sp_J0_coder_7d493_1016 L xs sio (d + 0) dt hI   ) ?_
  rintro _ _ ⟨rfl, h1⟩
  refine ⟨rfl, ?_⟩
  rcases h1 with ⟨rfl, h1⟩
  refine go_smpq PM249 (L' := [some (.inr (.inr (some 1016)))]) (st' := [.inl 3]) (w' := (SH, dt)) rfl rfl (s_bshr (v := 3) (by decide)) ?_
  refine go_retq PM249 (k := 0) (r := some (.inl 3)) (w1 := (SH, dt)) rfl ?_
  exact ⟨rfl, ⟨rfl, trivial⟩⟩
theorem sp_J0_isLatin1_aae02_1016 (L : Nat) (xs : Nat → Int32) (sio : Option Nat) (d : Nat) (dt : Nat → Nat → Int) (hI : InvC dt)    : GO (am_XX L xs sio) (d) 254 0 [some (.inr (.inr (some 1016)))] [] (SH, dt) (fun r w2 => w2 = (SH, dt) ∧ ((r = some (.inl 1) ∧ True))) := by
  refine go_retq PM254 (k := 7) (r := some (.inl 1)) (w1 := (SH, dt)) rfl ?_
  exact ⟨rfl, ⟨rfl, trivial⟩⟩
theorem sp_J1_charAt_3b067_1016 (L : Nat) (xs : Nat → Int32) (sio : Option Nat) (d : Nat) (dt : Nat → Nat → Int) (hI : InvC dt)  (p2 : Int) (h_p2 : 0 ≤ p2 ∧ p2 ≤ 2)  : GO (am_XX L xs sio) (d + 2) 256 0 [some (.inr (.inr (some 2016))), some (.inl p2)] [] (SH, dt) (fun r w2 => w2 = (SH, dt) ∧ ((∃ v : Int, r = some (.inl v) ∧ (0 ≤ v ∧ v ≤ 65535) ∧ True))) := by
  refine go_toq PM256 (k := 3) (pc' := 3) (L' := [some (.inr (.inr (some 2016))), some (.inl p2)]) (st' := [.inl 3, .inl p2]) (w' := (SH, dt)) rfl ?_
  refine go_callq PM256 PM255 (Q' := _) rfl rfl rfl rfl (sp_J0_checkIndex_df160 L xs sio (d + 0) dt hI  p2 (by first | exact h_p2 | exact bnd h_p2 (by decide) (by decide) | exact ⟨by fail, by fail⟩) 3 ⟨by decide, by decide⟩ (by first | exact True.intro | with_reducible assumption | rfl | omega | trivial)) ?_
  rintro _ _ ⟨rfl, h1⟩
  refine ⟨rfl, ?_⟩
  rcases h1 with ⟨rfl, h1⟩
  refine go_toq PM256 (k := 2) (pc' := 8) (L' := [some (.inr (.inr (some 2016))), some (.inl p2)]) (st' := [.inl p2, .inr (.inr (some 2016))]) (w' := (SH, dt)) rfl ?_
  have r2 := sby_R 16 (p2).toNat
  refine go_smpq PM256 (L' := [some (.inr (.inr (some 2016))), some (.inl p2)]) (st' := [.inl ((am_Sby.getD 16 []).getD (p2).toNat 0)]) (w' := (SH, dt)) rfl rfl (s_bald (n := 3) (f := fun q => (am_Sby.getD 16 []).getD q 0) rfl (by first | exact bndx h_p2 (by decide) (by decide) | exact ⟨by fail, by fail⟩)) ?_
  have r3 : 0 ≤ am_and ((am_Sby.getD 16 []).getD (p2).toNat 0) 255 ∧ am_and ((am_Sby.getD 16 []).getD (p2).toNat 0) 255 ≤ 255 := and_R255
  have r4 := i2c_R (am_and ((am_Sby.getD 16 []).getD (p2).toNat 0) 255)
  refine go_toq PM256 (k := 3) (pc' := 14) (L' := [some (.inr (.inr (some 2016))), some (.inl p2)]) (st' := [.inl (am_i2c (am_and ((am_Sby.getD 16 []).getD (p2).toNat 0) 255))]) (w' := (SH, dt)) rfl ?_
  refine go_retvq PM256 (v := am_i2c (am_and ((am_Sby.getD 16 []).getD (p2).toNat 0) 255)) rfl (decide_eq_true (show 0 ≤ am_i2c (am_and ((am_Sby.getD 16 []).getD (p2).toNat 0) 255) ∧ am_i2c (am_and ((am_Sby.getD 16 []).getD (p2).toNat 0) 255) < 65536 by omega)) ?_
  exact ⟨rfl, ⟨_, rfl, ⟨by omega, by omega⟩, trivial⟩⟩
theorem sp_J0_charAt_5068e_1016 (L : Nat) (xs : Nat → Int32) (sio : Option Nat) (d : Nat) (dt : Nat → Nat → Int) (hI : InvC dt)  (p1 : Int) (h_p1 : 0 ≤ p1 ∧ p1 ≤ 2)  : GO (am_XX L xs sio) (d + 3) 250 0 [some (.inr (.inr (some 1016))), some (.inl p1)] [] (SH, dt) (fun r w2 => w2 = (SH, dt) ∧ ((∃ v : Int, r = some (.inl v) ∧ (0 ≤ v ∧ v ≤ 65535) ∧ True))) := by
  refine go_toq PM250 (k := 1) (pc' := 1) (L' := [some (.inr (.inr (some 1016))), some (.inl p1)]) (st' := [.inr (.inr (some 1016))]) (w' := (SH, dt)) rfl ?_
  refine go_callq PM250 PM254 (Q' := _) rfl rfl rfl rfl (sp_J0_isLatin1_aae02_1016 L xs sio (d + 2) dt hI   ) ?_
  rintro _ _ ⟨rfl, h1⟩
  refine ⟨rfl, ?_⟩
  rcases h1 with ⟨rfl, h1⟩
  refine go_toq PM250 (k := 4) (pc' := 12) (L' := [some (.inr (.inr (some 1016))), some (.inl p1)]) (st' := [.inl p1, .inr (.inr (some 2016))]) (w' := (SH, dt)) rfl ?_
  refine go_callq PM250 PM256 (Q' := _) rfl rfl rfl rfl (sp_J1_charAt_3b067_1016 L xs sio (d + 0) dt hI  p1 (by first | exact h_p1 | exact bnd h_p1 (by decide) (by decide) | exact ⟨by fail, by fail⟩) ) ?_
  rintro _ _ ⟨rfl, h2⟩
  refine ⟨rfl, ?_⟩
  rcases h2 with ⟨v_h2, rfl, h2r, h2⟩
  refine go_retvq PM250 (v := v_h2) rfl (decide_eq_true (show 0 ≤ v_h2 ∧ v_h2 < 65536 by omega)) ?_
  exact ⟨rfl, ⟨_, rfl, ⟨by omega, by omega⟩, trivial⟩⟩
set_option maxRecDepth 20000 in
theorem sp_X6_is_1016 (L : Nat) (xs : Nat → Int32) (sio : Option Nat) (d : Nat) (dt : Nat → Nat → Int) (hI : InvC dt)   (h_p0 : dt 79 13 ≤ 500) : GO (am_XX L xs sio) (d + 4) 156 0 [some (.inr (.inr (some 79))), some (.inr (.inr (some 1016))), none, none] [] (SH, dt) (fun r w2 => w2 = (SH, dt) ∧ ((∃ v : Int, r = some (.inl v) ∧ (0 ≤ v ∧ v ≤ 1) ∧ True))) := by
  have r1 : 0 ≤ dt 79 13 ∧ dt 79 13 ≤ 501 := InvC_get hI 79 13 rfl rfl
  have r2 : 0 ≤ dt 79 15 ∧ dt 79 15 ≤ 500 := InvC_get hI 79 15 rfl rfl
  refine go_toq PM156 (k := 6) (pc' := 10) (L' := [some (.inr (.inr (some 79))), some (.inr (.inr (some 1016))), none, none]) (st' := [.inr (.inr (some 1016)), .inl ((dt 79 13) - (dt 79 15))]) (w' := (SH, dt)) rfl ?_
  refine go_callq PM156 PM249 (Q' := _) rfl rfl rfl rfl (sp_J0_length_8abf5_1016 L xs sio (d + 2) dt hI   ) ?_
  rintro _ _ ⟨rfl, h3⟩
  refine ⟨rfl, ?_⟩
  rcases h3 with ⟨rfl, h3⟩
  refine go_ifq PM156 (k := 0) (p1 := 20) (p2 := 16) (L' := [some (.inr (.inr (some 79))), some (.inr (.inr (some 1016))), none, none]) (st' := []) (w' := (SH, dt)) rfl (c_ne (a := (dt 79 13) - (dt 79 15)) (b := 3) ⟨by omega, by omega⟩ ⟨by decide, by decide⟩) (fun c5 => ?_) (fun c5 => ?_)
  · skip
    replace c5 := hid c5
    refine go_toq PM156 (k := 4) (pc' := 24) (L' := [some (.inr (.inr (some 79))), some (.inr (.inr (some 1016))), some (.inl 0), some (.inl 0)]) (st' := []) (w' := (SH, dt)) rfl ?_
    have loop44 : ∀ (k_ : Nat) (l24_2 : Int) (l24_3 : Int) (i41 : 0 ≤ l24_2 ∧ l24_2 ≤ 1) (i42 : 0 ≤ l24_3 ∧ l24_3 ≤ 3) (i43 : l24_2 = 0 ∨ dt 79 13 - dt 79 15 = 3), (4 - l24_3).toNat < k_ → GO (am_XX L xs sio) (d + 4) 156 24 [some (.inr (.inr (some 79))), some (.inr (.inr (some 1016))), some (.inl l24_2), some (.inl l24_3)] [] (SH, dt) (fun r w2 => w2 = (SH, dt) ∧ ((∃ v : Int, r = some (.inl v) ∧ (0 ≤ v ∧ v ≤ 1) ∧ True))) := by
      intro k_
      induction k_ with
      | zero => intro l24_2 l24_3 i41 i42 i43 hm; exact absurd hm (Nat.not_lt_zero _)
      | succ k_ ih_loop44 =>
        intro l24_2 l24_3 i41 i42 i43 hm
        replace i43 := hid i43
        refine go_toq PM156 (k := 2) (pc' := 26) (L' := [some (.inr (.inr (some 79))), some (.inr (.inr (some 1016))), some (.inl l24_2), some (.inl l24_3)]) (st' := [.inr (.inr (some 1016)), .inl l24_3]) (w' := (SH, dt)) rfl ?_
        refine go_callq PM156 PM249 (Q' := _) rfl rfl rfl rfl (sp_J0_length_8abf5_1016 L xs sio (d + 2) dt hI   ) ?_
        rintro _ _ ⟨rfl, h45⟩
        refine ⟨rfl, ?_⟩
        rcases h45 with ⟨rfl, h45⟩
        have j51 :  GO (am_XX L xs sio) (d + 4) 156 67 [some (.inr (.inr (some 79))), some (.inr (.inr (some 1016))), some (.inl l24_2), none] [] (SH, dt) (fun r w2 => w2 = (SH, dt) ∧ ((∃ v : Int, r = some (.inl v) ∧ (0 ≤ v ∧ v ≤ 1) ∧ True))) := by
          skip
          refine go_toq PM156 (k := 1) (pc' := 68) (L' := [some (.inr (.inr (some 79))), some (.inr (.inr (some 1016))), some (.inl l24_2), none]) (st' := [.inl l24_2]) (w' := (SH, dt)) rfl ?_
          refine go_retvq PM156 (v := l24_2) rfl (decide_eq_true (show l24_2 = 0 ∨ l24_2 = 1 by omega)) ?_
          exact ⟨rfl, ⟨_, rfl, ⟨by omega, by omega⟩, trivial⟩⟩
        refine go_ifq PM156 (k := 0) (p1 := 67) (p2 := 32) (L' := [some (.inr (.inr (some 79))), some (.inr (.inr (some 1016))), some (.inl l24_2), some (.inl l24_3)]) (st' := []) (w' := (SH, dt)) rfl (c_ge (a := l24_3) (b := 3) (by first | exact bnd i42 (by decide) (by decide) | exact ⟨by fail, by fail⟩) ⟨by decide, by decide⟩) (fun c52 => ?_) (fun c52 => ?_)
        · skip
          exact GO.le (j51 ) ⟨.inl rfl, .inl rfl, .inl rfl, .inr ⟨rfl, trivial⟩, trivial⟩
        · skip
          refine go_ifq PM156 (k := 1) (p1 := 67) (p2 := 36) (L' := [some (.inr (.inr (some 79))), some (.inr (.inr (some 1016))), some (.inl l24_2), some (.inl l24_3)]) (st' := []) (w' := (SH, dt)) rfl (z_eq (a := l24_2) (by first | exact bnd i41 (by decide) (by decide) | exact ⟨by fail, by fail⟩)) (fun c53 => ?_) (fun c53 => ?_)
          · skip
            exact GO.le (j51 ) ⟨.inl rfl, .inl rfl, .inl rfl, .inr ⟨rfl, trivial⟩, trivial⟩
          · skip
            replace c53 := hid c53
            refine go_toq PM156 (k := 6) (pc' := 46) (L' := [some (.inr (.inr (some 79))), some (.inr (.inr (some 1016))), some (.inl l24_2), some (.inl l24_3)]) (st' := [.inl ((dt 79 15) + l24_3), .inr (.inr (some 85))]) (w' := (SH, dt)) rfl ?_
            have r54 : 0 ≤ dt 85 (((dt 79 15) + l24_3).toNat) ∧ dt 85 (((dt 79 15) + l24_3).toNat) ≤ 255 := InvC_get hI 85 (((dt 79 15) + l24_3).toNat) rfl rfl
            refine go_smpq PM156 (L' := [some (.inr (.inr (some 79))), some (.inr (.inr (some 1016))), some (.inl l24_2), some (.inl l24_3)]) (st' := [.inl (dt 85 (((dt 79 15) + l24_3).toNat))]) (w' := (SH, dt)) rfl rfl (s_iald (n := 500) (f := dt 85) rfl ⟨by omega, by (have z0_ := unhid c5; have z1_ := unhid i43; have z2_ := unhid c53; omega)⟩) ?_
            refine go_toq PM156 (k := 2) (pc' := 49) (L' := [some (.inr (.inr (some 79))), some (.inr (.inr (some 1016))), some (.inl l24_2), some (.inl l24_3)]) (st' := [.inl l24_3, .inr (.inr (some 1016)), .inl (dt 85 (((dt 79 15) + l24_3).toNat))]) (w' := (SH, dt)) rfl ?_
            refine go_callq PM156 PM250 (Q' := _) rfl rfl rfl rfl (sp_J0_charAt_5068e_1016 L xs sio (d + 0) dt hI  l24_3 (by first | exact bnd i42 (by decide) (by decide) | exact bndd i42 c52 (by decide) (by decide) | exact ⟨by fail, by fail⟩) ) ?_
            rintro _ _ ⟨rfl, h55⟩
            refine ⟨rfl, ?_⟩
            rcases h55 with ⟨v_h55, rfl, h55r, h55⟩
            refine go_ifq PM156 (k := 0) (p1 := 59) (p2 := 55) (L' := [some (.inr (.inr (some 79))), some (.inr (.inr (some 1016))), some (.inl l24_2), some (.inl l24_3)]) (st' := []) (w' := (SH, dt)) rfl (c_ne (a := dt 85 (((dt 79 15) + l24_3).toNat)) (b := v_h55) (by first | exact bnd r54 (by decide) (by decide) | exact ⟨by fail, by fail⟩) (by first | exact bnd h55r (by decide) (by decide) | exact ⟨by fail, by fail⟩)) (fun c57 => ?_) (fun c57 => ?_)
            · skip
              replace c57 := hid c57
              refine go_toq PM156 (k := 4) (pc' := 24) (L' := [some (.inr (.inr (some 79))), some (.inr (.inr (some 1016))), some (.inl 0), some (.inl (l24_3 + 1))]) (st' := []) (w' := (SH, dt)) rfl ?_
              exact GO.le (ih_loop44 0 (l24_3 + 1) ⟨by decide, by decide⟩ (by first | exact bndp i42 (by decide) (by decide) | exact bnde i42 c52 (by decide) (by decide) | fail) (by omega) (by omega)) ⟨.inl rfl, .inl rfl, .inl rfl, .inl rfl, trivial⟩
            · skip
              refine go_toq PM156 (k := 5) (pc' := 24) (L' := [some (.inr (.inr (some 79))), some (.inr (.inr (some 1016))), some (.inl 1), some (.inl (l24_3 + 1))]) (st' := []) (w' := (SH, dt)) rfl ?_
              exact GO.le (ih_loop44 1 (l24_3 + 1) ⟨by decide, by decide⟩ (by first | exact bndp i42 (by decide) (by decide) | exact bnde i42 c52 (by decide) (by decide) | fail) (by (have z0_ := unhid c5; have z1_ := unhid i43; have z2_ := unhid c53; omega)) (by omega)) ⟨.inl rfl, .inl rfl, .inl rfl, .inl rfl, trivial⟩
    exact GO.le (loop44 _ 0 0 ⟨by decide, by decide⟩ ⟨by decide, by decide⟩ (by omega) (Nat.lt_succ_self _)) ⟨.inl rfl, .inl rfl, .inl rfl, .inl rfl, trivial⟩
  · skip
    refine go_toq PM156 (k := 5) (pc' := 24) (L' := [some (.inr (.inr (some 79))), some (.inr (.inr (some 1016))), some (.inl 1), some (.inl 0)]) (st' := []) (w' := (SH, dt)) rfl ?_
    have loop96 : ∀ (k_ : Nat) (l24_2 : Int) (l24_3 : Int) (i93 : 0 ≤ l24_2 ∧ l24_2 ≤ 1) (i94 : 0 ≤ l24_3 ∧ l24_3 ≤ 3) (i95 : l24_2 = 0 ∨ dt 79 13 - dt 79 15 = 3), (4 - l24_3).toNat < k_ → GO (am_XX L xs sio) (d + 4) 156 24 [some (.inr (.inr (some 79))), some (.inr (.inr (some 1016))), some (.inl l24_2), some (.inl l24_3)] [] (SH, dt) (fun r w2 => w2 = (SH, dt) ∧ ((∃ v : Int, r = some (.inl v) ∧ (0 ≤ v ∧ v ≤ 1) ∧ True))) := by
      intro k_
      induction k_ with
      | zero => intro l24_2 l24_3 i93 i94 i95 hm; exact absurd hm (Nat.not_lt_zero _)
      | succ k_ ih_loop96 =>
        intro l24_2 l24_3 i93 i94 i95 hm
        replace i95 := hid i95
        refine go_toq PM156 (k := 2) (pc' := 26) (L' := [some (.inr (.inr (some 79))), some (.inr (.inr (some 1016))), some (.inl l24_2), some (.inl l24_3)]) (st' := [.inr (.inr (some 1016)), .inl l24_3]) (w' := (SH, dt)) rfl ?_
        refine go_callq PM156 PM249 (Q' := _) rfl rfl rfl rfl (sp_J0_length_8abf5_1016 L xs sio (d + 2) dt hI   ) ?_
        rintro _ _ ⟨rfl, h97⟩
        refine ⟨rfl, ?_⟩
        rcases h97 with ⟨rfl, h97⟩
        have j103 :  GO (am_XX L xs sio) (d + 4) 156 67 [some (.inr (.inr (some 79))), some (.inr (.inr (some 1016))), some (.inl l24_2), none] [] (SH, dt) (fun r w2 => w2 = (SH, dt) ∧ ((∃ v : Int, r = some (.inl v) ∧ (0 ≤ v ∧ v ≤ 1) ∧ True))) := by
          skip
          refine go_toq PM156 (k := 1) (pc' := 68) (L' := [some (.inr (.inr (some 79))), some (.inr (.inr (some 1016))), some (.inl l24_2), none]) (st' := [.inl l24_2]) (w' := (SH, dt)) rfl ?_
          refine go_retvq PM156 (v := l24_2) rfl (decide_eq_true (show l24_2 = 0 ∨ l24_2 = 1 by omega)) ?_
          exact ⟨rfl, ⟨_, rfl, ⟨by omega, by omega⟩, trivial⟩⟩
        refine go_ifq PM156 (k := 0) (p1 := 67) (p2 := 32) (L' := [some (.inr (.inr (some 79))), some (.inr (.inr (some 1016))), some (.inl l24_2), some (.inl l24_3)]) (st' := []) (w' := (SH, dt)) rfl (c_ge (a := l24_3) (b := 3) (by first | exact bnd i94 (by decide) (by decide) | exact ⟨by fail, by fail⟩) ⟨by decide, by decide⟩) (fun c104 => ?_) (fun c104 => ?_)
        · skip
          exact GO.le (j103 ) ⟨.inl rfl, .inl rfl, .inl rfl, .inr ⟨rfl, trivial⟩, trivial⟩
        · skip
          refine go_ifq PM156 (k := 1) (p1 := 67) (p2 := 36) (L' := [some (.inr (.inr (some 79))), some (.inr (.inr (some 1016))), some (.inl l24_2), some (.inl l24_3)]) (st' := []) (w' := (SH, dt)) rfl (z_eq (a := l24_2) (by first | exact bnd i93 (by decide) (by decide) | exact ⟨by fail, by fail⟩)) (fun c105 => ?_) (fun c105 => ?_)
          · skip
            exact GO.le (j103 ) ⟨.inl rfl, .inl rfl, .inl rfl, .inr ⟨rfl, trivial⟩, trivial⟩
          · skip
            replace c105 := hid c105
            refine go_toq PM156 (k := 6) (pc' := 46) (L' := [some (.inr (.inr (some 79))), some (.inr (.inr (some 1016))), some (.inl l24_2), some (.inl l24_3)]) (st' := [.inl ((dt 79 15) + l24_3), .inr (.inr (some 85))]) (w' := (SH, dt)) rfl ?_
            have r106 : 0 ≤ dt 85 (((dt 79 15) + l24_3).toNat) ∧ dt 85 (((dt 79 15) + l24_3).toNat) ≤ 255 := InvC_get hI 85 (((dt 79 15) + l24_3).toNat) rfl rfl
            refine go_smpq PM156 (L' := [some (.inr (.inr (some 79))), some (.inr (.inr (some 1016))), some (.inl l24_2), some (.inl l24_3)]) (st' := [.inl (dt 85 (((dt 79 15) + l24_3).toNat))]) (w' := (SH, dt)) rfl rfl (s_iald (n := 500) (f := dt 85) rfl ⟨by omega, by omega⟩) ?_
            refine go_toq PM156 (k := 2) (pc' := 49) (L' := [some (.inr (.inr (some 79))), some (.inr (.inr (some 1016))), some (.inl l24_2), some (.inl l24_3)]) (st' := [.inl l24_3, .inr (.inr (some 1016)), .inl (dt 85 (((dt 79 15) + l24_3).toNat))]) (w' := (SH, dt)) rfl ?_
            refine go_callq PM156 PM250 (Q' := _) rfl rfl rfl rfl (sp_J0_charAt_5068e_1016 L xs sio (d + 0) dt hI  l24_3 (by first | exact bnd i94 (by decide) (by decide) | exact bndd i94 c104 (by decide) (by decide) | exact ⟨by fail, by fail⟩) ) ?_
            rintro _ _ ⟨rfl, h107⟩
            refine ⟨rfl, ?_⟩
            rcases h107 with ⟨v_h107, rfl, h107r, h107⟩
            refine go_ifq PM156 (k := 0) (p1 := 59) (p2 := 55) (L' := [some (.inr (.inr (some 79))), some (.inr (.inr (some 1016))), some (.inl l24_2), some (.inl l24_3)]) (st' := []) (w' := (SH, dt)) rfl (c_ne (a := dt 85 (((dt 79 15) + l24_3).toNat)) (b := v_h107) (by first | exact bnd r106 (by decide) (by decide) | exact ⟨by fail, by fail⟩) (by first | exact bnd h107r (by decide) (by decide) | exact ⟨by fail, by fail⟩)) (fun c109 => ?_) (fun c109 => ?_)
            · skip
              replace c109 := hid c109
              refine go_toq PM156 (k := 4) (pc' := 24) (L' := [some (.inr (.inr (some 79))), some (.inr (.inr (some 1016))), some (.inl 0), some (.inl (l24_3 + 1))]) (st' := []) (w' := (SH, dt)) rfl ?_
              exact GO.le (ih_loop96 0 (l24_3 + 1) ⟨by decide, by decide⟩ (by first | exact bndp i94 (by decide) (by decide) | exact bnde i94 c104 (by decide) (by decide) | fail) (by omega) (by omega)) ⟨.inl rfl, .inl rfl, .inl rfl, .inl rfl, trivial⟩
            · skip
              refine go_toq PM156 (k := 5) (pc' := 24) (L' := [some (.inr (.inr (some 79))), some (.inr (.inr (some 1016))), some (.inl 1), some (.inl (l24_3 + 1))]) (st' := []) (w' := (SH, dt)) rfl ?_
              exact GO.le (ih_loop96 1 (l24_3 + 1) ⟨by decide, by decide⟩ (by first | exact bndp i94 (by decide) (by decide) | exact bnde i94 c104 (by decide) (by decide) | fail) (by omega) (by omega)) ⟨.inl rfl, .inl rfl, .inl rfl, .inl rfl, trivial⟩
    exact GO.le (loop96 _ 1 0 ⟨by decide, by decide⟩ ⟨by decide, by decide⟩ (by omega) (Nat.lt_succ_self _)) ⟨.inl rfl, .inl rfl, .inl rfl, .inl rfl, trivial⟩
theorem sp_J0_coder_7d493_1017 (L : Nat) (xs : Nat → Int32) (sio : Option Nat) (d : Nat) (dt : Nat → Nat → Int) (hI : InvC dt)    : GO (am_XX L xs sio) (d) 253 0 [some (.inr (.inr (some 1017)))] [] (SH, dt) (fun r w2 => w2 = (SH, dt) ∧ ((r = some (.inl 0) ∧ True))) := by
  refine go_retq PM253 (k := 5) (r := some (.inl 0)) (w1 := (SH, dt)) rfl ?_
  exact ⟨rfl, ⟨rfl, trivial⟩⟩
theorem sp_J0_length_8abf5_1017 (L : Nat) (xs : Nat → Int32) (sio : Option Nat) (d : Nat) (dt : Nat → Nat → Int) (hI : InvC dt)    : GO (am_XX L xs sio) (d + 1) 249 0 [some (.inr (.inr (some 1017)))] [] (SH, dt) (fun r w2 => w2 = (SH, dt) ∧ ((r = some (.inl 3) ∧ True))) := by
  refine go_toq PM249 (k := 4) (pc' := 6) (L' := [some (.inr (.inr (some 1017)))]) (st' := [.inr (.inr (some 1017)), .inl 3]) (w' := (SH, dt)) rfl ?_
  refine go_callq PM249 PM253 (Q' := _) rfl rfl rfl rfl (sp_J0_coder_7d493_1017 L xs sio (d + 0) dt hI   ) ?_
  rintro _ _ ⟨rfl, h1⟩
  refine ⟨rfl, ?_⟩
  rcases h1 with ⟨rfl, h1⟩
  refine go_smpq PM249 (L' := [some (.inr (.inr (some 1017)))]) (st' := [.inl 3]) (w' := (SH, dt)) rfl rfl (s_bshr (v := 3) (by decide)) ?_
  refine go_retq PM249 (k := 0) (r := some (.inl 3)) (w1 := (SH, dt)) rfl ?_
  exact ⟨rfl, ⟨rfl, trivial⟩⟩
theorem sp_J0_isLatin1_aae02_1017 (L : Nat) (xs : Nat → Int32) (sio : Option Nat) (d : Nat) (dt : Nat → Nat → Int) (hI : InvC dt)    : GO (am_XX L xs sio) (d) 254 0 [some (.inr (.inr (some 1017)))] [] (SH, dt) (fun r w2 => w2 = (SH, dt) ∧ ((r = some (.inl 1) ∧ True))) := by
  refine go_retq PM254 (k := 7) (r := some (.inl 1)) (w1 := (SH, dt)) rfl ?_
  exact ⟨rfl, ⟨rfl, trivial⟩⟩
theorem sp_J1_charAt_3b067_1017 (L : Nat) (xs : Nat → Int32) (sio : Option Nat) (d : Nat) (dt : Nat → Nat → Int) (hI : InvC dt)  (p2 : Int) (h_p2 : 0 ≤ p2 ∧ p2 ≤ 2)  : GO (am_XX L xs sio) (d + 2) 256 0 [some (.inr (.inr (some 2017))), some (.inl p2)] [] (SH, dt) (fun r w2 => w2 = (SH, dt) ∧ ((∃ v : Int, r = some (.inl v) ∧ (0 ≤ v ∧ v ≤ 65535) ∧ True))) := by
  refine go_toq PM256 (k := 3) (pc' := 3) (L' := [some (.inr (.inr (some 2017))), some (.inl p2)]) (st' := [.inl 3, .inl p2]) (w' := (SH, dt)) rfl ?_
  refine go_callq PM256 PM255 (Q' := _) rfl rfl rfl rfl (sp_J0_checkIndex_df160 L xs sio (d + 0) dt hI  p2 (by first | exact h_p2 | exact bnd h_p2 (by decide) (by decide) | exact ⟨by fail, by fail⟩) 3 ⟨by decide, by decide⟩ (by first | exact True.intro | with_reducible assumption | rfl | omega | trivial)) ?_
  rintro _ _ ⟨rfl, h1⟩
  refine ⟨rfl, ?_⟩
  rcases h1 with ⟨rfl, h1⟩
  refine go_toq PM256 (k := 2) (pc' := 8) (L' := [some (.inr (.inr (some 2017))), some (.inl p2)]) (st' := [.inl p2, .inr (.inr (some 2017))]) (w' := (SH, dt)) rfl ?_
  have r2 := sby_R 17 (p2).toNat
  refine go_smpq PM256 (L' := [some (.inr (.inr (some 2017))), some (.inl p2)]) (st' := [.inl ((am_Sby.getD 17 []).getD (p2).toNat 0)]) (w' := (SH, dt)) rfl rfl (s_bald (n := 3) (f := fun q => (am_Sby.getD 17 []).getD q 0) rfl (by first | exact bndx h_p2 (by decide) (by decide) | exact ⟨by fail, by fail⟩)) ?_
  have r3 : 0 ≤ am_and ((am_Sby.getD 17 []).getD (p2).toNat 0) 255 ∧ am_and ((am_Sby.getD 17 []).getD (p2).toNat 0) 255 ≤ 255 := and_R255
  have r4 := i2c_R (am_and ((am_Sby.getD 17 []).getD (p2).toNat 0) 255)
  refine go_toq PM256 (k := 3) (pc' := 14) (L' := [some (.inr (.inr (some 2017))), some (.inl p2)]) (st' := [.inl (am_i2c (am_and ((am_Sby.getD 17 []).getD (p2).toNat 0) 255))]) (w' := (SH, dt)) rfl ?_
  refine go_retvq PM256 (v := am_i2c (am_and ((am_Sby.getD 17 []).getD (p2).toNat 0) 255)) rfl (decide_eq_true (show 0 ≤ am_i2c (am_and ((am_Sby.getD 17 []).getD (p2).toNat 0) 255) ∧ am_i2c (am_and ((am_Sby.getD 17 []).getD (p2).toNat 0) 255) < 65536 by omega)) ?_
  exact ⟨rfl, ⟨_, rfl, ⟨by omega, by omega⟩, trivial⟩⟩
theorem sp_J0_charAt_5068e_1017 (L : Nat) (xs : Nat → Int32) (sio : Option Nat) (d : Nat) (dt : Nat → Nat → Int) (hI : InvC dt)  (p1 : Int) (h_p1 : 0 ≤ p1 ∧ p1 ≤ 2)  : GO (am_XX L xs sio) (d + 3) 250 0 [some (.inr (.inr (some 1017))), some (.inl p1)] [] (SH, dt) (fun r w2 => w2 = (SH, dt) ∧ ((∃ v : Int, r = some (.inl v) ∧ (0 ≤ v ∧ v ≤ 65535) ∧ True))) := by
  refine go_toq PM250 (k := 1) (pc' := 1) (L' := [some (.inr (.inr (some 1017))), some (.inl p1)]) (st' := [.inr (.inr (some 1017))]) (w' := (SH, dt)) rfl ?_
  refine go_callq PM250 PM254 (Q' := _) rfl rfl rfl rfl (sp_J0_isLatin1_aae02_1017 L xs sio (d + 2) dt hI   ) ?_
  rintro _ _ ⟨rfl, h1⟩
  refine ⟨rfl, ?_⟩
  rcases h1 with ⟨rfl, h1⟩
  refine go_toq PM250 (k := 4) (pc' := 12) (L' := [some (.inr (.inr (some 1017))), some (.inl p1)]) (st' := [.inl p1, .inr (.inr (some 2017))]) (w' := (SH, dt)) rfl ?_
  refine go_callq PM250 PM256 (Q' := _) rfl rfl rfl rfl (sp_J1_charAt_3b067_1017 L xs sio (d + 0) dt hI  p1 (by first | exact h_p1 | exact bnd h_p1 (by decide) (by decide) | exact ⟨by fail, by fail⟩) ) ?_
  rintro _ _ ⟨rfl, h2⟩
  refine ⟨rfl, ?_⟩
  rcases h2 with ⟨v_h2, rfl, h2r, h2⟩
  refine go_retvq PM250 (v := v_h2) rfl (decide_eq_true (show 0 ≤ v_h2 ∧ v_h2 < 65536 by omega)) ?_
  exact ⟨rfl, ⟨_, rfl, ⟨by omega, by omega⟩, trivial⟩⟩
set_option maxRecDepth 20000 in
theorem sp_X6_is_1017 (L : Nat) (xs : Nat → Int32) (sio : Option Nat) (d : Nat) (dt : Nat → Nat → Int) (hI : InvC dt)   (h_p0 : dt 79 13 ≤ 500) : GO (am_XX L xs sio) (d + 4) 156 0 [some (.inr (.inr (some 79))), some (.inr (.inr (some 1017))), none, none] [] (SH, dt) (fun r w2 => w2 = (SH, dt) ∧ ((∃ v : Int, r = some (.inl v) ∧ (0 ≤ v ∧ v ≤ 1) ∧ True))) := by
  have r1 : 0 ≤ dt 79 13 ∧ dt 79 13 ≤ 501 := InvC_get hI 79 13 rfl rfl
  have r2 : 0 ≤ dt 79 15 ∧ dt 79 15 ≤ 500 := InvC_get hI 79 15 rfl rfl
  refine go_toq PM156 (k := 6) (pc' := 10) (L' := [some (.inr (.inr (some 79))), some (.inr (.inr (some 1017))), none, none]) (st' := [.inr (.inr (some 1017)), .inl ((dt 79 13) - (dt 79 15))]) (w' := (SH, dt)) rfl ?_
  refine go_callq PM156 PM249 (Q' := _) rfl rfl rfl rfl (sp_J0_length_8abf5_1017 L xs sio (d + 2) dt hI   ) ?_
  rintro _ _ ⟨rfl, h3⟩
  refine ⟨rfl, ?_⟩
  rcases h3 with ⟨rfl, h3⟩
  refine go_ifq PM156 (k := 0) (p1 := 20) (p2 := 16) (L' := [some (.inr (.inr (some 79))), some (.inr (.inr (some 1017))), none, none]) (st' := []) (w' := (SH, dt)) rfl (c_ne (a := (dt 79 13) - (dt 79 15)) (b := 3) ⟨by omega, by omega⟩ ⟨by decide, by decide⟩) (fun c5 => ?_) (fun c5 => ?_)
  · skip
    replace c5 := hid c5
    refine go_toq PM156 (k := 4) (pc' := 24) (L' := [some (.inr (.inr (some 79))), some (.inr (.inr (some 1017))), some (.inl 0), some (.inl 0)]) (st' := []) (w' := (SH, dt)) rfl ?_
    have loop44 : ∀ (k_ : Nat) (l24_2 : Int) (l24_3 : Int) (i41 : 0 ≤ l24_2 ∧ l24_2 ≤ 1) (i42 : 0 ≤ l24_3 ∧ l24_3 ≤ 3) (i43 : l24_2 = 0 ∨ dt 79 13 - dt 79 15 = 3), (4 - l24_3).toNat < k_ → GO (am_XX L xs sio) (d + 4) 156 24 [some (.inr (.inr (some 79))), some (.inr (.inr (some 1017))), some (.inl l24_2), some (.inl l24_3)] [] (SH, dt) (fun r w2 => w2 = (SH, dt) ∧ ((∃ v : Int, r = some (.inl v) ∧ (0 ≤ v ∧ v ≤ 1) ∧ True))) := by
      intro k_
      induction k_ with
      | zero => intro l24_2 l24_3 i41 i42 i43 hm; exact absurd hm (Nat.not_lt_zero _)
      | succ k_ ih_loop44 =>
        intro l24_2 l24_3 i41 i42 i43 hm
        replace i43 := hid i43
        refine go_toq PM156 (k := 2) (pc' := 26) (L' := [some (.inr (.inr (some 79))), some (.inr (.inr (some 1017))), some (.inl l24_2), some (.inl l24_3)]) (st' := [.inr (.inr (some 1017)), .inl l24_3]) (w' := (SH, dt)) rfl ?_
        refine go_callq PM156 PM249 (Q' := _) rfl rfl rfl rfl (sp_J0_length_8abf5_1017 L xs sio (d + 2) dt hI   ) ?_
        rintro _ _ ⟨rfl, h45⟩
        refine ⟨rfl, ?_⟩
        rcases h45 with ⟨rfl, h45⟩
        have j51 :  GO (am_XX L xs sio) (d + 4) 156 67 [some (.inr (.inr (some 79))), some (.inr (.inr (some 1017))), some (.inl l24_2), none] [] (SH, dt) (fun r w2 => w2 = (SH, dt) ∧ ((∃ v : Int, r = some (.inl v) ∧ (0 ≤ v ∧ v ≤ 1) ∧ True))) := by
          skip
          refine go_toq PM156 (k := 1) (pc' := 68) (L' := [some (.inr (.inr (some 79))), some (.inr (.inr (some 1017))), some (.inl l24_2), none]) (st' := [.inl l24_2]) (w' := (SH, dt)) rfl ?_
          refine go_retvq PM156 (v := l24_2) rfl (decide_eq_true (show l24_2 = 0 ∨ l24_2 = 1 by omega)) ?_
          exact ⟨rfl, ⟨_, rfl, ⟨by omega, by omega⟩, trivial⟩⟩
        refine go_ifq PM156 (k := 0) (p1 := 67) (p2 := 32) (L' := [some (.inr (.inr (some 79))), some (.inr (.inr (some 1017))), some (.inl l24_2), some (.inl l24_3)]) (st' := []) (w' := (SH, dt)) rfl (c_ge (a := l24_3) (b := 3) (by first | exact bnd i42 (by decide) (by decide) | exact ⟨by fail, by fail⟩) ⟨by decide, by decide⟩) (fun c52 => ?_) (fun c52 => ?_)
        · skip
          exact GO.le (j51 ) ⟨.inl rfl, .inl rfl, .inl rfl, .inr ⟨rfl, trivial⟩, trivial⟩
        · skip
          refine go_ifq PM156 (k := 1) (p1 := 67) (p2 := 36) (L' := [some (.inr (.inr (some 79))), some (.inr (.inr (some 1017))), some (.inl l24_2), some (.inl l24_3)]) (st' := []) (w' := (SH, dt)) rfl (z_eq (a := l24_2) (by first | exact bnd i41 (by decide) (by decide) | exact ⟨by fail, by fail⟩)) (fun c53 => ?_) (fun c53 => ?_)
          · skip
            exact GO.le (j51 ) ⟨.inl rfl, .inl rfl, .inl rfl, .inr ⟨rfl, trivial⟩, trivial⟩
          · skip
            replace c53 := hid c53
            refine go_toq PM156 (k := 6) (pc' := 46) (L' := [some (.inr (.inr (some 79))), some (.inr (.inr (some 1017))), some (.inl l24_2), some (.inl l24_3)]) (st' := [.inl ((dt 79 15) + l24_3), .inr (.inr (some 85))]) (w' := (SH, dt)) rfl ?_
            have r54 : 0 ≤ dt 85 (((dt 79 15) + l24_3).toNat) ∧ dt 85 (((dt 79 15) + l24_3).toNat) ≤ 255 := InvC_get hI 85 (((dt 79 15) + l24_3).toNat) rfl rfl
            refine go_smpq PM156 (L' := [some (.inr (.inr (some 79))), some (.inr (.inr (some 1017))), some (.inl l24_2), some (.inl l24_3)]) (st' := [.inl (dt 85 (((dt 79 15) + l24_3).toNat))]) (w' := (SH, dt)) rfl rfl (s_iald (n := 500) (f := dt 85) rfl ⟨by omega, by (have z0_ := unhid c5; have z1_ := unhid i43; have z2_ := unhid c53; omega)⟩) ?_
            refine go_toq PM156 (k := 2) (pc' := 49) (L' := [some (.inr (.inr (some 79))), some (.inr (.inr (some 1017))), some (.inl l24_2), some (.inl l24_3)]) (st' := [.inl l24_3, .inr (.inr (some 1017)), .inl (dt 85 (((dt 79 15) + l24_3).toNat))]) (w' := (SH, dt)) rfl ?_
            refine go_callq PM156 PM250 (Q' := _) rfl rfl rfl rfl (sp_J0_charAt_5068e_1017 L xs sio (d + 0) dt hI  l24_3 (by first | exact bnd i42 (by decide) (by decide) | exact bndd i42 c52 (by decide) (by decide) | exact ⟨by fail, by fail⟩) ) ?_
            rintro _ _ ⟨rfl, h55⟩
            refine ⟨rfl, ?_⟩
            rcases h55 with ⟨v_h55, rfl, h55r, h55⟩
            refine go_ifq PM156 (k := 0) (p1 := 59) (p2 := 55) (L' := [some (.inr (.inr (some 79))), some (.inr (.inr (some 1017))), some (.inl l24_2), some (.inl l24_3)]) (st' := []) (w' := (SH, dt)) rfl (c_ne (a := dt 85 (((dt 79 15) + l24_3).toNat)) (b := v_h55) (by first | exact bnd r54 (by decide) (by decide) | exact ⟨by fail, by fail⟩) (by first | exact bnd h55r (by decide) (by decide) | exact ⟨by fail, by fail⟩)) (fun c57 => ?_) (fun c57 => ?_)
            · skip
              replace c57 := hid c57
              refine go_toq PM156 (k := 4) (pc' := 24) (L' := [some (.inr (.inr (some 79))), some (.inr (.inr (some 1017))), some (.inl 0), some (.inl (l24_3 + 1))]) (st' := []) (w' := (SH, dt)) rfl ?_
              exact GO.le (ih_loop44 0 (l24_3 + 1) ⟨by decide, by decide⟩ (by first | exact bndp i42 (by decide) (by decide) | exact bnde i42 c52 (by decide) (by decide) | fail) (by omega) (by omega)) ⟨.inl rfl, .inl rfl, .inl rfl, .inl rfl, trivial⟩
            · skip
              refine go_toq PM156 (k := 5) (pc' := 24) (L' := [some (.inr (.inr (some 79))), some (.inr (.inr (some 1017))), some (.inl 1), some (.inl (l24_3 + 1))]) (st' := []) (w' := (SH, dt)) rfl ?_
              exact GO.le (ih_loop44 1 (l24_3 + 1) ⟨by decide, by decide⟩ (by first | exact bndp i42 (by decide) (by decide) | exact bnde i42 c52 (by decide) (by decide) | fail) (by (have z0_ := unhid c5; have z1_ := unhid i43; have z2_ := unhid c53; omega)) (by omega)) ⟨.inl rfl, .inl rfl, .inl rfl, .inl rfl, trivial⟩
    exact GO.le (loop44 _ 0 0 ⟨by decide, by decide⟩ ⟨by decide, by decide⟩ (by omega) (Nat.lt_succ_self _)) ⟨.inl rfl, .inl rfl, .inl rfl, .inl rfl, trivial⟩
  · skip
    refine go_toq PM156 (k := 5) (pc' := 24) (L' := [some (.inr (.inr (some 79))), some (.inr (.inr (some 1017))), some (.inl 1), some (.inl 0)]) (st' := []) (w' := (SH, dt)) rfl ?_
    have loop96 : ∀ (k_ : Nat) (l24_2 : Int) (l24_3 : Int) (i93 : 0 ≤ l24_2 ∧ l24_2 ≤ 1) (i94 : 0 ≤ l24_3 ∧ l24_3 ≤ 3) (i95 : l24_2 = 0 ∨ dt 79 13 - dt 79 15 = 3), (4 - l24_3).toNat < k_ → GO (am_XX L xs sio) (d + 4) 156 24 [some (.inr (.inr (some 79))), some (.inr (.inr (some 1017))), some (.inl l24_2), some (.inl l24_3)] [] (SH, dt) (fun r w2 => w2 = (SH, dt) ∧ ((∃ v : Int, r = some (.inl v) ∧ (0 ≤ v ∧ v ≤ 1) ∧ True))) := by
      intro k_
      induction k_ with
      | zero => intro l24_2 l24_3 i93 i94 i95 hm; exact absurd hm (Nat.not_lt_zero _)
      | succ k_ ih_loop96 =>
        intro l24_2 l24_3 i93 i94 i95 hm
        replace i95 := hid i95
        refine go_toq PM156 (k := 2) (pc' := 26) (L' := [some (.inr (.inr (some 79))), some (.inr (.inr (some 1017))), some (.inl l24_2), some (.inl l24_3)]) (st' := [.inr (.inr (some 1017)), .inl l24_3]) (w' := (SH, dt)) rfl ?_
        refine go_callq PM156 PM249 (Q' := _) rfl rfl rfl rfl (sp_J0_length_8abf5_1017 L xs sio (d + 2) dt hI   ) ?_
        rintro _ _ ⟨rfl, h97⟩
        refine ⟨rfl, ?_⟩
        rcases h97 with ⟨rfl, h97⟩
        have j103 :  GO (am_XX L xs sio) (d + 4) 156 67 [some (.inr (.inr (some 79))), some (.inr (.inr (some 1017))), some (.inl l24_2), none] [] (SH, dt) (fun r w2 => w2 = (SH, dt) ∧ ((∃ v : Int, r = some (.inl v) ∧ (0 ≤ v ∧ v ≤ 1) ∧ True))) := by
          skip
          refine go_toq PM156 (k := 1) (pc' := 68) (L' := [some (.inr (.inr (some 79))), some (.inr (.inr (some 1017))), some (.inl l24_2), none]) (st' := [.inl l24_2]) (w' := (SH, dt)) rfl ?_
          refine go_retvq PM156 (v := l24_2) rfl (decide_eq_true (show l24_2 = 0 ∨ l24_2 = 1 by omega)) ?_
          exact ⟨rfl, ⟨_, rfl, ⟨by omega, by omega⟩, trivial⟩⟩
        refine go_ifq PM156 (k := 0) (p1 := 67) (p2 := 32) (L' := [some (.inr (.inr (some 79))), some (.inr (.inr (some 1017))), some (.inl l24_2), some (.inl l24_3)]) (st' := []) (w' := (SH, dt)) rfl (c_ge (a := l24_3) (b := 3) (by first | exact bnd i94 (by decide) (by decide) | exact ⟨by fail, by fail⟩) ⟨by decide, by decide⟩) (fun c104 => ?_) (fun c104 => ?_)
        · skip
          exact GO.le (j103 ) ⟨.inl rfl, .inl rfl, .inl rfl, .inr ⟨rfl, trivial⟩, trivial⟩
        · skip
          refine go_ifq PM156 (k := 1) (p1 := 67) (p2 := 36) (L' := [some (.inr (.inr (some 79))), some (.inr (.inr (some 1017))), some (.inl l24_2), some (.inl l24_3)]) (st' := []) (w' := (SH, dt)) rfl (z_eq (a := l24_2) (by first | exact bnd i93 (by decide) (by decide) | exact ⟨by fail, by fail⟩)) (fun c105 => ?_) (fun c105 => ?_)
          · skip
            exact GO.le (j103 ) ⟨.inl rfl, .inl rfl, .inl rfl, .inr ⟨rfl, trivial⟩, trivial⟩
          · skip
            replace c105 := hid c105
            refine go_toq PM156 (k := 6) (pc' := 46) (L' := [some (.inr (.inr (some 79))), some (.inr (.inr (some 1017))), some (.inl l24_2), some (.inl l24_3)]) (st' := [.inl ((dt 79 15) + l24_3), .inr (.inr (some 85))]) (w' := (SH, dt)) rfl ?_
            have r106 : 0 ≤ dt 85 (((dt 79 15) + l24_3).toNat) ∧ dt 85 (((dt 79 15) + l24_3).toNat) ≤ 255 := InvC_get hI 85 (((dt 79 15) + l24_3).toNat) rfl rfl
            refine go_smpq PM156 (L' := [some (.inr (.inr (some 79))), some (.inr (.inr (some 1017))), some (.inl l24_2), some (.inl l24_3)]) (st' := [.inl (dt 85 (((dt 79 15) + l24_3).toNat))]) (w' := (SH, dt)) rfl rfl (s_iald (n := 500) (f := dt 85) rfl ⟨by omega, by omega⟩) ?_
            refine go_toq PM156 (k := 2) (pc' := 49) (L' := [some (.inr (.inr (some 79))), some (.inr (.inr (some 1017))), some (.inl l24_2), some (.inl l24_3)]) (st' := [.inl l24_3, .inr (.inr (some 1017)), .inl (dt 85 (((dt 79 15) + l24_3).toNat))]) (w' := (SH, dt)) rfl ?_
            refine go_callq PM156 PM250 (Q' := _) rfl rfl rfl rfl (sp_J0_charAt_5068e_1017 L xs sio (d + 0) dt hI  l24_3 (by first | exact bnd i94 (by decide) (by decide) | exact bndd i94 c104 (by decide) (by decide) | exact ⟨by fail, by fail⟩) ) ?_
            rintro _ _ ⟨rfl, h107⟩
            refine ⟨rfl, ?_⟩
            rcases h107 with ⟨v_h107, rfl, h107r, h107⟩
            refine go_ifq PM156 (k := 0) (p1 := 59) (p2 := 55) (L' := [some (.inr (.inr (some 79))), some (.inr (.inr (some 1017))), some (.inl l24_2), some (.inl l24_3)]) (st' := []) (w' := (SH, dt)) rfl (c_ne (a := dt 85 (((dt 79 15) + l24_3).toNat)) (b := v_h107) (by first | exact bnd r106 (by decide) (by decide) | exact ⟨by fail, by fail⟩) (by first | exact bnd h107r (by decide) (by decide) | exact ⟨by fail, by fail⟩)) (fun c109 => ?_) (fun c109 => ?_)
            · skip
              replace c109 := hid c109
              refine go_toq PM156 (k := 4) (pc' := 24) (L' := [some (.inr (.inr (some 79))), some (.inr (.inr (some 1017))), some (.inl 0), some (.inl (l24_3 + 1))]) (st' := []) (w' := (SH, dt)) rfl ?_
              exact GO.le (ih_loop96 0 (l24_3 + 1) ⟨by decide, by decide⟩ (by first | exact bndp i94 (by decide) (by decide) | exact bnde i94 c104 (by decide) (by decide) | fail) (by omega) (by omega)) ⟨.inl rfl, .inl rfl, .inl rfl, .inl rfl, trivial⟩
            · skip
              refine go_toq PM156 (k := 5) (pc' := 24) (L' := [some (.inr (.inr (some 79))), some (.inr (.inr (some 1017))), some (.inl 1), some (.inl (l24_3 + 1))]) (st' := []) (w' := (SH, dt)) rfl ?_
              exact GO.le (ih_loop96 1 (l24_3 + 1) ⟨by decide, by decide⟩ (by first | exact bndp i94 (by decide) (by decide) | exact bnde i94 c104 (by decide) (by decide) | fail) (by omega) (by omega)) ⟨.inl rfl, .inl rfl, .inl rfl, .inl rfl, trivial⟩
    exact GO.le (loop96 _ 1 0 ⟨by decide, by decide⟩ ⟨by decide, by decide⟩ (by omega) (Nat.lt_succ_self _)) ⟨.inl rfl, .inl rfl, .inl rfl, .inl rfl, trivial⟩
theorem sp_J0_coder_7d493_1018 (L : Nat) (xs : Nat → Int32) (sio : Option Nat) (d : Nat) (dt : Nat → Nat → Int) (hI : InvC dt)    : GO (am_XX L xs sio) (d) 253 0 [some (.inr (.inr (some 1018)))] [] (SH, dt) (fun r w2 => w2 = (SH, dt) ∧ ((r = some (.inl 0) ∧ True))) := by
  refine go_retq PM253 (k := 5) (r := some (.inl 0)) (w1 := (SH, dt)) rfl ?_
  exact ⟨rfl, ⟨rfl, trivial⟩⟩
theorem sp_J0_length_8abf5_1018 (L : Nat) (xs : Nat → Int32) (sio : Option Nat) (d : Nat) (dt : Nat → Nat → Int) (hI : InvC dt)    : GO (am_XX L xs sio) (d + 1) 249 0 [some (.inr (.inr (some 1018)))] [] (SH, dt) (fun r w2 => w2 = (SH, dt) ∧ ((r = some (.inl 6) ∧ True))) := by
  refine go_toq PM249 (k := 4) (pc' := 6) (L' := [some (.inr (.inr (some 1018)))]) (st' := [.inr (.inr (some 1018)), .inl 6]) (w' := (SH, dt)) rfl ?_
  refine go_callq PM249 PM253 (Q' := _) rfl rfl rfl rfl (sp_J0_coder_7d493_1018 L xs sio (d + 0) dt hI   ) ?_
  rintro _ _ ⟨rfl, h1⟩
  refine ⟨rfl, ?_⟩
  rcases h1 with ⟨rfl, h1⟩
  refine go_smpq PM249 (L' := [some (.inr (.inr (some 1018)))]) (st' := [.inl 6]) (w' := (SH, dt)) rfl rfl (s_bshr (v := 6) (by decide)) ?_
  refine go_retq PM249 (k := 0) (r := some (.inl 6)) (w1 := (SH, dt)) rfl ?_
  exact ⟨rfl, ⟨rfl, trivial⟩⟩
theorem sp_J0_isLatin1_aae02_1018 (L : Nat) (xs : Nat → Int32) (sio : Option Nat) (d : Nat) (dt : Nat → Nat → Int) (hI : InvC dt)    : GO (am_XX L xs sio) (d) 254 0 [some (.inr (.inr (some 1018)))] [] (SH, dt) (fun r w2 => w2 = (SH, dt) ∧ ((r = some (.inl 1) ∧ True))) := by
  refine go_retq PM254 (k := 7) (r := some (.inl 1)) (w1 := (SH, dt)) rfl ?_
  exact ⟨rfl, ⟨rfl, trivial⟩⟩
theorem sp_J1_charAt_3b067_1018 (L : Nat) (xs : Nat → Int32) (sio : Option Nat) (d : Nat) (dt : Nat → Nat → Int) (hI : InvC dt)  (p2 : Int) (h_p2 : 0 ≤ p2 ∧ p2 ≤ 5)  : GO (am_XX L xs sio) (d + 2) 256 0 [some (.inr (.inr (some 2018))), some (.inl p2)] [] (SH, dt) (fun r w2 => w2 = (SH, dt) ∧ ((∃ v : Int, r = some (.inl v) ∧ (0 ≤ v ∧ v ≤ 65535) ∧ True))) := by
  refine go_toq PM256 (k := 3) (pc' := 3) (L' := [some (.inr (.inr (some 2018))), some (.inl p2)]) (st' := [.inl 6, .inl p2]) (w' := (SH, dt)) rfl ?_
  refine go_callq PM256 PM255 (Q' := _) rfl rfl rfl rfl (sp_J0_checkIndex_df160 L xs sio (d + 0) dt hI  p2 (by first | exact h_p2 | exact bnd h_p2 (by decide) (by decide) | exact ⟨by fail, by fail⟩) 6 ⟨by decide, by decide⟩ (by first | exact True.intro | with_reducible assumption | rfl | omega | trivial)) ?_
  rintro _ _ ⟨rfl, h1⟩
  refine ⟨rfl, ?_⟩
  rcases h1 with ⟨rfl, h1⟩
  refine go_toq PM256 (k := 2) (pc' := 8) (L' := [some (.inr (.inr (some 2018))), some (.inl p2)]) (st' := [.inl p2, .inr (.inr (some 2018))]) (w' := (SH, dt)) rfl ?_
  have r2 := sby_R 18 (p2).toNat
  refine go_smpq PM256 (L' := [some (.inr (.inr (some 2018))), some (.inl p2)]) (st' := [.inl ((am_Sby.getD 18 []).getD (p2).toNat 0)]) (w' := (SH, dt)) rfl rfl (s_bald (n := 6) (f := fun q => (am_Sby.getD 18 []).getD q 0) rfl (by first | exact bndx h_p2 (by decide) (by decide) | exact ⟨by fail, by fail⟩)) ?_
  have r3 : 0 ≤ am_and ((am_Sby.getD 18 []).getD (p2).toNat 0) 255 ∧ am_and ((am_Sby.getD 18 []).getD (p2).toNat 0) 255 ≤ 255 := and_R255
  have r4 := i2c_R (am_and ((am_Sby.getD 18 []).getD (p2).toNat 0) 255)
  refine go_toq PM256 (k := 3) (pc' := 14) (L' := [some (.inr (.inr (some 2018))), some (.inl p2)]) (st' := [.inl (am_i2c (am_and ((am_Sby.getD 18 []).getD (p2).toNat 0) 255))]) (w' := (SH, dt)) rfl ?_
  refine go_retvq PM256 (v := am_i2c (am_and ((am_Sby.getD 18 []).getD (p2).toNat 0) 255)) rfl (decide_eq_true (show 0 ≤ am_i2c (am_and ((am_Sby.getD 18 []).getD (p2).toNat 0) 255) ∧ am_i2c (am_and ((am_Sby.getD 18 []).getD (p2).toNat 0) 255) < 65536 by omega)) ?_
  exact ⟨rfl, ⟨_, rfl, ⟨by omega, by omega⟩, trivial⟩⟩
theorem sp_J0_charAt_5068e_1018 (L : Nat) (xs : Nat → Int32) (sio : Option Nat) (d : Nat) (dt : Nat → Nat → Int) (hI : InvC dt)  (p1 : Int) (h_p1 : 0 ≤ p1 ∧ p1 ≤ 5)  : GO (am_XX L xs sio) (d + 3) 250 0 [some (.inr (.inr (some 1018))), some (.inl p1)] [] (SH, dt) (fun r w2 => w2 = (SH, dt) ∧ ((∃ v : Int, r = some (.inl v) ∧ (0 ≤ v ∧ v ≤ 65535) ∧ True))) := by
  refine go_toq PM250 (k := 1) (pc' := 1) (L' := [some (.inr (.inr (some 1018))), some (.inl p1)]) (st' := [.inr (.inr (some 1018))]) (w' := (SH, dt)) rfl ?_
  refine go_callq PM250 PM254 (Q' := _) rfl rfl rfl rfl (sp_J0_isLatin1_aae02_1018 L xs sio (d + 2) dt hI   ) ?_
  rintro _ _ ⟨rfl, h1⟩
  refine ⟨rfl, ?_⟩
  rcases h1 with ⟨rfl, h1⟩
  refine go_toq PM250 (k := 4) (pc' := 12) (L' := [some (.inr (.inr (some 1018))), some (.inl p1)]) (st' := [.inl p1, .inr (.inr (some 2018))]) (w' := (SH, dt)) rfl ?_
  refine go_callq PM250 PM256 (Q' := _) rfl rfl rfl rfl (sp_J1_charAt_3b067_1018 L xs sio (d + 0) dt hI  p1 (by first | exact h_p1 | exact bnd h_p1 (by decide) (by decide) | exact ⟨by fail, by fail⟩) ) ?_
  rintro _ _ ⟨rfl, h2⟩
  refine ⟨rfl, ?_⟩
  rcases h2 with ⟨v_h2, rfl, h2r, h2⟩
  refine go_retvq PM250 (v := v_h2) rfl (decide_eq_true (show 0 ≤ v_h2 ∧ v_h2 < 65536 by omega)) ?_
  exact ⟨rfl, ⟨_, rfl, ⟨by omega, by omega⟩, trivial⟩⟩
set_option maxRecDepth 20000 in
theorem sp_X6_is_1018 (L : Nat) (xs : Nat → Int32) (sio : Option Nat) (d : Nat) (dt : Nat → Nat → Int) (hI : InvC dt)   (h_p0 : dt 79 13 ≤ 500) : GO (am_XX L xs sio) (d + 4) 156 0 [some (.inr (.inr (some 79))), some (.inr (.inr (some 1018))), none, none] [] (SH, dt) (fun r w2 => w2 = (SH, dt) ∧ ((∃ v : Int, r = some (.inl v) ∧ (0 ≤ v ∧ v ≤ 1) ∧ True))) := by
  have r1 : 0 ≤ dt 79 13 ∧ dt 79 13 ≤ 501 := InvC_get hI 79 13 rfl rfl
  have r2 : 0 ≤ dt 79 15 ∧ dt 79 15 ≤ 500 := InvC_get hI 79 15 rfl rfl
  refine go_toq PM156 (k := 6) (pc' := 10) (L' := [some (.inr (.inr (some 79))), some (.inr (.inr (some 1018))), none, none]) (st' := [.inr (.inr (some 1018)), .inl ((dt 79 13) - (dt 79 15))]) (w' := (SH, dt)) rfl ?_
  refine go_callq PM156 PM249 (Q' := _) rfl rfl rfl rfl (sp_J0_length_8abf5_1018 L xs sio (d + 2) dt hI   ) ?_
  rintro _ _ ⟨rfl, h3⟩
  refine ⟨rfl, ?_⟩
  rcases h3 with ⟨rfl, h3⟩
  refine go_ifq PM156 (k := 0) (p1 := 20) (p2 := 16) (L' := [some (.inr (.inr (some 79))), some (.inr (.inr (some 1018))), none, none]) (st' := []) (w' := (SH, dt)) rfl (c_ne (a := (dt 79 13) - (dt 79 15)) (b := 6) ⟨by omega, by omega⟩ ⟨by decide, by decide⟩) (fun c5 => ?_) (fun c5 => ?_)
  · skip
    replace c5 := hid c5
    refine go_toq PM156 (k := 4) (pc' := 24) (L' := [some (.inr (.inr (some 79))), some (.inr (.inr (some 1018))), some (.inl 0), some (.inl 0)]) (st' := []) (w' := (SH, dt)) rfl ?_
    have loop44 : ∀ (k_ : Nat) (l24_2 : Int) (l24_3 : Int) (i41 : 0 ≤ l24_2 ∧ l24_2 ≤ 1) (i42 : 0 ≤ l24_3 ∧ l24_3 ≤ 6) (i43 : l24_2 = 0 ∨ dt 79 13 - dt 79 15 = 6), (7 - l24_3).toNat < k_ → GO (am_XX L xs sio) (d + 4) 156 24 [some (.inr (.inr (some 79))), some (.inr (.inr (some 1018))), some (.inl l24_2), some (.inl l24_3)] [] (SH, dt) (fun r w2 => w2 = (SH, dt) ∧ ((∃ v : Int, r = some (.inl v) ∧ (0 ≤ v ∧ v ≤ 1) ∧ True))) := by
      intro k_
      induction k_ with
      | zero => intro l24_2 l24_3 i41 i42 i43 hm; exact absurd hm (Nat.not_lt_zero _)
      | succ k_ ih_loop44 =>
        intro l24_2 l24_3 i41 i42 i43 hm
        replace i43 := hid i43
        refine go_toq PM156 (k := 2) (pc' := 26) (L' := [some (.inr (.inr (some 79))), some (.inr (.inr (some 1018))), some (.inl l24_2), some (.inl l24_3)]) (st' := [.inr (.inr (some 1018)), .inl l24_3]) (w' := (SH, dt)) rfl ?_
        refine go_callq PM156 PM249 (Q' := _) rfl rfl rfl rfl (sp_J0_length_8abf5_1018 L xs sio (d + 2) dt hI   ) ?_
        rintro _ _ ⟨rfl, h45⟩
        refine ⟨rfl, ?_⟩
        rcases h45 with ⟨rfl, h45⟩
        have j51 :  GO (am_XX L xs sio) (d + 4) 156 67 [some (.inr (.inr (some 79))), some (.inr (.inr (some 1018))), some (.inl l24_2), none] [] (SH, dt) (fun r w2 => w2 = (SH, dt) ∧ ((∃ v : Int, r = some (.inl v) ∧ (0 ≤ v ∧ v ≤ 1) ∧ True))) := by
          skip
          refine go_toq PM156 (k := 1) (pc' := 68) (L' := [some (.inr (.inr (some 79))), some (.inr (.inr (some 1018))), some (.inl l24_2), none]) (st' := [.inl l24_2]) (w' := (SH, dt)) rfl ?_
          refine go_retvq PM156 (v := l24_2) rfl (decide_eq_true (show l24_2 = 0 ∨ l24_2 = 1 by omega)) ?_
          exact ⟨rfl, ⟨_, rfl, ⟨by omega, by omega⟩, trivial⟩⟩
        refine go_ifq PM156 (k := 0) (p1 := 67) (p2 := 32) (L' := [some (.inr (.inr (some 79))), some (.inr (.inr (some 1018))), some (.inl l24_2), some (.inl l24_3)]) (st' := []) (w' := (SH, dt)) rfl (c_ge (a := l24_3) (b := 6) (by first | exact bnd i42 (by decide) (by decide) | exact ⟨by fail, by fail⟩) ⟨by decide, by decide⟩) (fun c52 => ?_) (fun c52 => ?_)
        · skip
          exact GO.le (j51 ) ⟨.inl rfl, .inl rfl, .inl rfl, .inr ⟨rfl, trivial⟩, trivial⟩
        · skip
          refine go_ifq PM156 (k := 1) (p1 := 67) (p2 := 36) (L' := [some (.inr (.inr (some 79))), some (.inr (.inr (some 1018))), some (.inl l24_2), some (.inl l24_3)]) (st' := []) (w' := (SH, dt)) rfl (z_eq (a := l24_2) (by first | exact bnd i41 (by decide) (by decide) | exact ⟨by fail, by fail⟩)) (fun c53 => ?_) (fun c53 => ?_)
          · skip
            exact GO.le (j51 ) ⟨.inl rfl, .inl rfl, .inl rfl, .inr ⟨rfl, trivial⟩, trivial⟩
          · skip
            replace c53 := hid c53
            refine go_toq PM156 (k := 6) (pc' := 46) (L' := [some (.inr (.inr (some 79))), some (.inr (.inr (some 1018))), some (.inl l24_2), some (.inl l24_3)]) (st' := [.inl ((dt 79 15) + l24_3), .inr (.inr (some 85))]) (w' := (SH, dt)) rfl ?_
            have r54 : 0 ≤ dt 85 (((dt 79 15) + l24_3).toNat) ∧ dt 85 (((dt 79 15) + l24_3).toNat) ≤ 255 := InvC_get hI 85 (((dt 79 15) + l24_3).toNat) rfl rfl
            refine go_smpq PM156 (L' := [some (.inr (.inr (some 79))), some (.inr (.inr (some 1018))), some (.inl l24_2), some (.inl l24_3)]) (st' := [.inl (dt 85 (((dt 79 15) + l24_3).toNat))]) (w' := (SH, dt)) rfl rfl (s_iald (n := 500) (f := dt 85) rfl ⟨by omega, by (have z0_ := unhid c5; have z1_ := unhid i43; have z2_ := unhid c53; omega)⟩) ?_
            refine go_toq PM156 (k := 2) (pc' := 49) (L' := [some (.inr (.inr (some 79))), some (.inr (.inr (some 1018))), some (.inl l24_2), some (.inl l24_3)]) (st' := [.inl l24_3, .inr (.inr (some 1018)), .inl (dt 85 (((dt 79 15) + l24_3).toNat))]) (w' := (SH, dt)) rfl ?_
            refine go_callq PM156 PM250 (Q' := _) rfl rfl rfl rfl (sp_J0_charAt_5068e_1018 L xs sio (d + 0) dt hI  l24_3 (by first | exact bnd i42 (by decide) (by decide) | exact bndd i42 c52 (by decide) (by decide) | exact ⟨by fail, by fail⟩) ) ?_
            rintro _ _ ⟨rfl, h55⟩
            refine ⟨rfl, ?_⟩
            rcases h55 with ⟨v_h55, rfl, h55r, h55⟩
            refine go_ifq PM156 (k := 0) (p1 := 59) (p2 := 55) (L' := [some (.inr (.inr (some 79))), some (.inr (.inr (some 1018))), some (.inl l24_2), some (.inl l24_3)]) (st' := []) (w' := (SH, dt)) rfl (c_ne (a := dt 85 (((dt 79 15) + l24_3).toNat)) (b := v_h55) (by first | exact bnd r54 (by decide) (by decide) | exact ⟨by fail, by fail⟩) (by first | exact bnd h55r (by decide) (by decide) | exact ⟨by fail, by fail⟩)) (fun c57 => ?_) (fun c57 => ?_)
            · skip
              replace c57 := hid c57
              refine go_toq PM156 (k := 4) (pc' := 24) (L' := [some (.inr (.inr (some 79))), some (.inr (.inr (some 1018))), some (.inl 0), some (.inl (l24_3 + 1))]) (st' := []) (w' := (SH, dt)) rfl ?_
              exact GO.le (ih_loop44 0 (l24_3 + 1) ⟨by decide, by decide⟩ (by first | exact bndp i42 (by decide) (by decide) | exact bnde i42 c52 (by decide) (by decide) | fail) (by omega) (by omega)) ⟨.inl rfl, .inl rfl, .inl rfl, .inl rfl, trivial⟩
            · skip
              refine go_toq PM156 (k := 5) (pc' := 24) (L' := [some (.inr (.inr (some 79))), some (.inr (.inr (some 1018))), some (.inl 1), some (.inl (l24_3 + 1))]) (st' := []) (w' := (SH, dt)) rfl ?_
              exact GO.le (ih_loop44 1 (l24_3 + 1) ⟨by decide, by decide⟩ (by first | exact bndp i42 (by decide) (by decide) | exact bnde i42 c52 (by decide) (by decide) | fail) (by (have z0_ := unhid c5; have z1_ := unhid i43; have z2_ := unhid c53; omega)) (by omega)) ⟨.inl rfl, .inl rfl, .inl rfl, .inl rfl, trivial⟩
    exact GO.le (loop44 _ 0 0 ⟨by decide, by decide⟩ ⟨by decide, by decide⟩ (by omega) (Nat.lt_succ_self _)) ⟨.inl rfl, .inl rfl, .inl rfl, .inl rfl, trivial⟩
  · skip
    refine go_toq PM156 (k := 5) (pc' := 24) (L' := [some (.inr (.inr (some 79))), some (.inr (.inr (some 1018))), some (.inl 1), some (.inl 0)]) (st' := []) (w' := (SH, dt)) rfl ?_
    have loop96 : ∀ (k_ : Nat) (l24_2 : Int) (l24_3 : Int) (i93 : 0 ≤ l24_2 ∧ l24_2 ≤ 1) (i94 : 0 ≤ l24_3 ∧ l24_3 ≤ 6) (i95 : l24_2 = 0 ∨ dt 79 13 - dt 79 15 = 6), (7 - l24_3).toNat < k_ → GO (am_XX L xs sio) (d + 4) 156 24 [some (.inr (.inr (some 79))), some (.inr (.inr (some 1018))), some (.inl l24_2), some (.inl l24_3)] [] (SH, dt) (fun r w2 => w2 = (SH, dt) ∧ ((∃ v : Int, r = some (.inl v) ∧ (0 ≤ v ∧ v ≤ 1) ∧ True))) := by
      intro k_
      induction k_ with
      | zero => intro l24_2 l24_3 i93 i94 i95 hm; exact absurd hm (Nat.not_lt_zero _)
      | succ k_ ih_loop96 =>
        intro l24_2 l24_3 i93 i94 i95 hm
        replace i95 := hid i95
        refine go_toq PM156 (k := 2) (pc' := 26) (L' := [some (.inr (.inr (some 79))), some (.inr (.inr (some 1018))), some (.inl l24_2), some (.inl l24_3)]) (st' := [.inr (.inr (some 1018)), .inl l24_3]) (w' := (SH, dt)) rfl ?_
        refine go_callq PM156 PM249 (Q' := _) rfl rfl rfl rfl (sp_J0_length_8abf5_1018 L xs sio (d + 2) dt hI   ) ?_
        rintro _ _ ⟨rfl, h97⟩
        refine ⟨rfl, ?_⟩
        rcases h97 with ⟨rfl, h97⟩
        have j103 :  GO (am_XX L xs sio) (d + 4) 156 67 [some (.inr (.inr (some 79))), some (.inr (.inr (some 1018))), some (.inl l24_2), none] [] (SH, dt) (fun r w2 => w2 = (SH, dt) ∧ ((∃ v : Int, r = some (.inl v) ∧ (0 ≤ v ∧ v ≤ 1) ∧ True))) := by
          skip
          refine go_toq PM156 (k := 1) (pc' := 68) (L' := [some (.inr (.inr (some 79))), some (.inr (.inr (some 1018))), some (.inl l24_2), none]) (st' := [.inl l24_2]) (w' := (SH, dt)) rfl ?_
          refine go_retvq PM156 (v := l24_2) rfl (decide_eq_true (show l24_2 = 0 ∨ l24_2 = 1 by omega)) ?_
          exact ⟨rfl, ⟨_, rfl, ⟨by omega, by omega⟩, trivial⟩⟩
        refine go_ifq PM156 (k := 0) (p1 := 67) (p2 := 32) (L' := [some (.inr (.inr (some 79))), some (.inr (.inr (some 1018))), some (.inl l24_2), some (.inl l24_3)]) (st' := []) (w' := (SH, dt)) rfl (c_ge (a := l24_3) (b := 6) (by first | exact bnd i94 (by decide) (by decide) | exact ⟨by fail, by fail⟩) ⟨by decide, by decide⟩) (fun c104 => ?_) (fun c104 => ?_)
        · skip
          exact GO.le (j103 ) ⟨.inl rfl, .inl rfl, .inl rfl, .inr ⟨rfl, trivial⟩, trivial⟩
        · skip
          refine go_ifq PM156 (k := 1) (p1 := 67) (p2 := 36) (L' := [some (.inr (.inr (some 79))), some (.inr (.inr (some 1018))), some (.inl l24_2), some (.inl l24_3)]) (st' := []) (w' := (SH, dt)) rfl (z_eq (a := l24_2) (by first | exact bnd i93 (by decide) (by decide) | exact ⟨by fail, by fail⟩)) (fun c105 => ?_) (fun c105 => ?_)
          · skip
            exact GO.le (j103 ) ⟨.inl rfl, .inl rfl, .inl rfl, .inr ⟨rfl, trivial⟩, trivial⟩
          · skip
            replace c105 := hid c105
            refine go_toq PM156 (k := 6) (pc' := 46) (L' := [some (.inr (.inr (some 79))), some (.inr (.inr (some 1018))), some (.inl l24_2), some (.inl l24_3)]) (st' := [.inl ((dt 79 15) + l24_3), .inr (.inr (some 85))]) (w' := (SH, dt)) rfl ?_
            have r106 : 0 ≤ dt 85 (((dt 79 15) + l24_3).toNat) ∧ dt 85 (((dt 79 15) + l24_3).toNat) ≤ 255 := InvC_get hI 85 (((dt 79 15) + l24_3).toNat) rfl rfl
            refine go_smpq PM156 (L' := [some (.inr (.inr (some 79))), some (.inr (.inr (some 1018))), some (.inl l24_2), some (.inl l24_3)]) (st' := [.inl (dt 85 (((dt 79 15) + l24_3).toNat))]) (w' := (SH, dt)) rfl rfl (s_iald (n := 500) (f := dt 85) rfl ⟨by omega, by omega⟩) ?_
            refine go_toq PM156 (k := 2) (pc' := 49) (L' := [some (.inr (.inr (some 79))), some (.inr (.inr (some 1018))), some (.inl l24_2), some (.inl l24_3)]) (st' := [.inl l24_3, .inr (.inr (some 1018)), .inl (dt 85 (((dt 79 15) + l24_3).toNat))]) (w' := (SH, dt)) rfl ?_
            refine go_callq PM156 PM250 (Q' := _) rfl rfl rfl rfl (sp_J0_charAt_5068e_1018 L xs sio (d + 0) dt hI  l24_3 (by first | exact bnd i94 (by decide) (by decide) | exact bndd i94 c104 (by decide) (by decide) | exact ⟨by fail, by fail⟩) ) ?_
            rintro _ _ ⟨rfl, h107⟩
            refine ⟨rfl, ?_⟩
            rcases h107 with ⟨v_h107, rfl, h107r, h107⟩
            refine go_ifq PM156 (k := 0) (p1 := 59) (p2 := 55) (L' := [some (.inr (.inr (some 79))), some (.inr (.inr (some 1018))), some (.inl l24_2), some (.inl l24_3)]) (st' := []) (w' := (SH, dt)) rfl (c_ne (a := dt 85 (((dt 79 15) + l24_3).toNat)) (b := v_h107) (by first | exact bnd r106 (by decide) (by decide) | exact ⟨by fail, by fail⟩) (by first | exact bnd h107r (by decide) (by decide) | exact ⟨by fail, by fail⟩)) (fun c109 => ?_) (fun c109 => ?_)
            · skip
              replace c109 := hid c109
              refine go_toq PM156 (k := 4) (pc' := 24) (L' := [some (.inr (.inr (some 79))), some (.inr (.inr (some 1018))), some (.inl 0), some (.inl (l24_3 + 1))]) (st' := []) (w' := (SH, dt)) rfl ?_
              exact GO.le (ih_loop96 0 (l24_3 + 1) ⟨by decide, by decide⟩ (by first | exact bndp i94 (by decide) (by decide) | exact bnde i94 c104 (by decide) (by decide) | fail) (by omega) (by omega)) ⟨.inl rfl, .inl rfl, .inl rfl, .inl rfl, trivial⟩
            · skip
              refine go_toq PM156 (k := 5) (pc' := 24) (L' := [some (.inr (.inr (some 79))), some (.inr (.inr (some 1018))), some (.inl 1), some (.inl (l24_3 + 1))]) (st' := []) (w' := (SH, dt)) rfl ?_
              exact GO.le (ih_loop96 1 (l24_3 + 1) ⟨by decide, by decide⟩ (by first | exact bndp i94 (by decide) (by decide) | exact bnde i94 c104 (by decide) (by decide) | fail) (by omega) (by omega)) ⟨.inl rfl, .inl rfl, .inl rfl, .inl rfl, trivial⟩
    exact GO.le (loop96 _ 1 0 ⟨by decide, by decide⟩ ⟨by decide, by decide⟩ (by omega) (Nat.lt_succ_self _)) ⟨.inl rfl, .inl rfl, .inl rfl, .inl rfl, trivial⟩
theorem sp_J0_coder_7d493_1019 (L : Nat) (xs : Nat → Int32) (sio : Option Nat) (d : Nat) (dt : Nat → Nat → Int) (hI : InvC dt)    : GO (am_XX L xs sio) (d) 253 0 [some (.inr (.inr (some 1019)))] [] (SH, dt) (fun r w2 => w2 = (SH, dt) ∧ ((r = some (.inl 0) ∧ True))) := by
  refine go_retq PM253 (k := 5) (r := some (.inl 0)) (w1 := (SH, dt)) rfl ?_
  exact ⟨rfl, ⟨rfl, trivial⟩⟩
theorem sp_J0_length_8abf5_1019 (L : Nat) (xs : Nat → Int32) (sio : Option Nat) (d : Nat) (dt : Nat → Nat → Int) (hI : InvC dt)    : GO (am_XX L xs sio) (d + 1) 249 0 [some (.inr (.inr (some 1019)))] [] (SH, dt) (fun r w2 => w2 = (SH, dt) ∧ ((r = some (.inl 5) ∧ True))) := by
  refine go_toq PM249 (k := 4) (pc' := 6) (L' := [some (.inr (.inr (some 1019)))]) (st' := [.inr (.inr (some 1019)), .inl 5]) (w' := (SH, dt)) rfl ?_
  refine go_callq PM249 PM253 (Q' := _) rfl rfl rfl rfl (sp_J0_coder_7d493_1019 L xs sio (d + 0) dt hI   ) ?_
  rintro _ _ ⟨rfl, h1⟩
  refine ⟨rfl, ?_⟩
  rcases h1 with ⟨rfl, h1⟩
  refine go_smpq PM249 (L' := [some (.inr (.inr (some 1019)))]) (st' := [.inl 5]) (w' := (SH, dt)) rfl rfl (s_bshr (v := 5) (by decide)) ?_
  refine go_retq PM249 (k := 0) (r := some (.inl 5)) (w1 := (SH, dt)) rfl ?_
  exact ⟨rfl, ⟨rfl, trivial⟩⟩
theorem sp_J0_isLatin1_aae02_1019 (L : Nat) (xs : Nat → Int32) (sio : Option Nat) (d : Nat) (dt : Nat → Nat → Int) (hI : InvC dt)    : GO (am_XX L xs sio) (d) 254 0 [some (.inr (.inr (some 1019)))] [] (SH, dt) (fun r w2 => w2 = (SH, dt) ∧ ((r = some (.inl 1) ∧ True))) := by
  refine go_retq PM254 (k := 7) (r := some (.inl 1)) (w1 := (SH, dt)) rfl ?_
  exact ⟨rfl, ⟨rfl, trivial⟩⟩
theorem sp_J1_charAt_3b067_1019 (L : Nat) (xs : Nat → Int32) (sio : Option Nat) (d : Nat) (dt : Nat → Nat → Int) (hI : InvC dt)  (p2 : Int) (h_p2 : 0 ≤ p2 ∧ p2 ≤ 4)  : GO (am_XX L xs sio) (d + 2) 256 0 [some (.inr (.inr (some 2019))), some (.inl p2)] [] (SH, dt) (fun r w2 => w2 = (SH, dt) ∧ ((∃ v : Int, r = some (.inl v) ∧ (0 ≤ v ∧ v ≤ 65535) ∧ True))) := by
  refine go_toq PM256 (k := 3) (pc' := 3) (L' := [some (.inr (.inr (some 2019))), some (.inl p2)]) (st' := [.inl 5, .inl p2]) (w' := (SH, dt)) rfl ?_
  refine go_callq PM256 PM255 (Q' := _) rfl rfl rfl rfl (sp_J0_checkIndex_df160 L xs sio (d + 0) dt hI  p2 (by first | exact h_p2 | exact bnd h_p2 (by decide) (by decide) | exact ⟨by fail, by fail⟩) 5 ⟨by decide, by decide⟩ (by first | exact True.intro | with_reducible assumption | rfl | omega | trivial)) ?_
  rintro _ _ ⟨rfl, h1⟩
  refine ⟨rfl, ?_⟩
  rcases h1 with ⟨rfl, h1⟩
  refine go_toq PM256 (k := 2) (pc' := 8) (L' := [some (.inr (.inr (some 2019))), some (.inl p2)]) (st' := [.inl p2, .inr (.inr (some 2019))]) (w' := (SH, dt)) rfl ?_
  have r2 := sby_R 19 (p2).toNat
  refine go_smpq PM256 (L' := [some (.inr (.inr (some 2019))), some (.inl p2)]) (st' := [.inl ((am_Sby.getD 19 []).getD (p2).toNat 0)]) (w' := (SH, dt)) rfl rfl (s_bald (n := 5) (f := fun q => (am_Sby.getD 19 []).getD q 0) rfl (by first | exact bndx h_p2 (by decide) (by decide) | exact ⟨by fail, by fail⟩)) ?_
  have r3 : 0 ≤ am_and ((am_Sby.getD 19 []).getD (p2).toNat 0) 255 ∧ am_and ((am_Sby.getD 19 []).getD (p2).toNat 0) 255 ≤ 255 := and_R255
  have r4 := i2c_R (am_and ((am_Sby.getD 19 []).getD (p2).toNat 0) 255)
  refine go_toq PM256 (k := 3) (pc' := 14) (L' := [some (.inr (.inr (some 2019))), some (.inl p2)]) (st' := [.inl (am_i2c (am_and ((am_Sby.getD 19 []).getD (p2).toNat 0) 255))]) (w' := (SH, dt)) rfl ?_
  refine go_retvq PM256 (v := am_i2c (am_and ((am_Sby.getD 19 []).getD (p2).toNat 0) 255)) rfl (decide_eq_true (show 0 ≤ am_i2c (am_and ((am_Sby.getD 19 []).getD (p2).toNat 0) 255) ∧ am_i2c (am_and ((am_Sby.getD 19 []).getD (p2).toNat 0) 255) < 65536 by omega)) ?_
  exact ⟨rfl, ⟨_, rfl, ⟨by omega, by omega⟩, trivial⟩⟩
theorem sp_J0_charAt_5068e_1019 (L : Nat) (xs : Nat → Int32) (sio : Option Nat) (d : Nat) (dt : Nat → Nat → Int) (hI : InvC dt)  (p1 : Int) (h_p1 : 0 ≤ p1 ∧ p1 ≤ 4)  : GO (am_XX L xs sio) (d + 3) 250 0 [some (.inr (.inr (some 1019))), some (.inl p1)] [] (SH, dt) (fun r w2 => w2 = (SH, dt) ∧ ((∃ v : Int, r = some (.inl v) ∧ (0 ≤ v ∧ v ≤ 65535) ∧ True))) := by
  refine go_toq PM250 (k := 1) (pc' := 1) (L' := [some (.inr (.inr (some 1019))), some (.inl p1)]) (st' := [.inr (.inr (some 1019))]) (w' := (SH, dt)) rfl ?_
  refine go_callq PM250 PM254 (Q' := _) rfl rfl rfl rfl (sp_J0_isLatin1_aae02_1019 L xs sio (d + 2) dt hI   ) ?_
  rintro _ _ ⟨rfl, h1⟩
  refine ⟨rfl, ?_⟩
  rcases h1 with ⟨rfl, h1⟩
  refine go_toq PM250 (k := 4) (pc' := 12) (L' := [some (.inr (.inr (some 1019))), some (.inl p1)]) (st' := [.inl p1, .inr (.inr (some 2019))]) (w' := (SH, dt)) rfl ?_
  refine go_callq PM250 PM256 (Q' := _) rfl rfl rfl rfl (sp_J1_charAt_3b067_1019 L xs sio (d + 0) dt hI  p1 (by first | exact h_p1 | exact bnd h_p1 (by decide) (by decide) | exact ⟨by fail, by fail⟩) ) ?_
  rintro _ _ ⟨rfl, h2⟩
  refine ⟨rfl, ?_⟩
  rcases h2 with ⟨v_h2, rfl, h2r, h2⟩
  refine go_retvq PM250 (v := v_h2) rfl (decide_eq_true (show 0 ≤ v_h2 ∧ v_h2 < 65536 by omega)) ?_
  exact ⟨rfl, ⟨_, rfl, ⟨by omega, by omega⟩, trivial⟩⟩
set_option maxRecDepth 20000 in
theorem sp_X6_is_1019 (L : Nat) (xs : Nat → Int32) (sio : Option Nat) (d : Nat) (dt : Nat → Nat → Int) (hI : InvC dt)   (h_p0 : dt 79 13 ≤ 500) : GO (am_XX L xs sio) (d + 4) 156 0 [some (.inr (.inr (some 79))), some (.inr (.inr (some 1019))), none, none] [] (SH, dt) (fun r w2 => w2 = (SH, dt) ∧ ((∃ v : Int, r = some (.inl v) ∧ (0 ≤ v ∧ v ≤ 1) ∧ True))) := by
  have r1 : 0 ≤ dt 79 13 ∧ dt 79 13 ≤ 501 := InvC_get hI 79 13 rfl rfl
  have r2 : 0 ≤ dt 79 15 ∧ dt 79 15 ≤ 500 := InvC_get hI 79 15 rfl rfl
  refine go_toq PM156 (k := 6) (pc' := 10) (L' := [some (.inr (.inr (some 79))), some (.inr (.inr (some 1019))), none, none]) (st' := [.inr (.inr (some 1019)), .inl ((dt 79 13) - (dt 79 15))]) (w' := (SH, dt)) rfl ?_
  refine go_callq PM156 PM249 (Q' := _) rfl rfl rfl rfl (sp_J0_length_8abf5_1019 L xs sio (d + 2) dt hI   ) ?_
  rintro _ _ ⟨rfl, h3⟩
  refine ⟨rfl, ?_⟩
  rcases h3 with ⟨rfl, h3⟩
  refine go_ifq PM156 (k := 0) (p1 := 20) (p2 := 16) (L' := [some (.inr (.inr (some 79))), some (.inr (.inr (some 1019))), none, none]) (st' := []) (w' := (SH, dt)) rfl (c_ne (a := (dt 79 13) - (dt 79 15)) (b := 5) ⟨by omega, by omega⟩ ⟨by decide, by decide⟩) (fun c5 => ?_) (fun c5 => ?_)
  · skip
    replace c5 := hid c5
    refine go_toq PM156 (k := 4) (pc' := 24) (L' := [some (.inr (.inr (some 79))), some (.inr (.inr (some 1019))), some (.inl 0), some (.inl 0)]) (st' := []) (w' := (SH, dt)) rfl ?_
    have loop44 : ∀ (k_ : Nat) (l24_2 : Int) (l24_3 : Int) (i41 : 0 ≤ l24_2 ∧ l24_2 ≤ 1) (i42 : 0 ≤ l24_3 ∧ l24_3 ≤ 5) (i43 : l24_2 = 0 ∨ dt 79 13 - dt 79 15 = 5), (6 - l24_3).toNat < k_ → GO (am_XX L xs sio) (d + 4) 156 24 [some (.inr (.inr (some 79))), some (.inr (.inr (some 1019))), some (.inl l24_2), some (.inl l24_3)] [] (SH, dt) (fun r w2 => w2 = (SH, dt) ∧ ((∃ v : Int, r = some (.inl v) ∧ (0 ≤ v ∧ v ≤ 1) ∧ True))) := by
      intro k_
      induction k_ with
      | zero => intro l24_2 l24_3 i41 i42 i43 hm; exact absurd hm (Nat.not_lt_zero _)
      | succ k_ ih_loop44 =>
        intro l24_2 l24_3 i41 i42 i43 hm
        replace i43 := hid i43
        refine go_toq PM156 (k := 2) (pc' := 26) (L' := [some (.inr (.inr (some 79))), some (.inr (.inr (some 1019))), some (.inl l24_2), some (.inl l24_3)]) (st' := [.inr (.inr (some 1019)), .inl l24_3]) (w' := (SH, dt)) rfl ?_
        refine go_callq PM156 PM249 (Q' := _) rfl rfl rfl rfl (sp_J0_length_8abf5_1019 L xs sio (d + 2) dt hI   ) ?_
        rintro _ _ ⟨rfl, h45⟩
        refine ⟨rfl, ?_⟩
        rcases h45 with ⟨rfl, h45⟩
        have j51 :  GO (am_XX L xs sio) (d + 4) 156 67 [some (.inr (.inr (some 79))), some (.inr (.inr (some 1019))), some (.inl l24_2), none] [] (SH, dt) (fun r w2 => w2 = (SH, dt) ∧ ((∃ v : Int, r = some (.inl v) ∧ (0 ≤ v ∧ v ≤ 1) ∧ True))) := by
          skip
          refine go_toq PM156 (k := 1) (pc' := 68) (L' := [some (.inr (.inr (some 79))), some (.inr (.inr (some 1019))), some (.inl l24_2), none]) (st' := [.inl l24_2]) (w' := (SH, dt)) rfl ?_
          refine go_retvq PM156 (v := l24_2) rfl (decide_eq_true (show l24_2 = 0 ∨ l24_2 = 1 by omega)) ?_
          exact ⟨rfl, ⟨_, rfl, ⟨by omega, by omega⟩, trivial⟩⟩
        refine go_ifq PM156 (k := 0) (p1 := 67) (p2 := 32) (L' := [some (.inr (.inr (some 79))), some (.inr (.inr (some 1019))), some (.inl l24_2), some (.inl l24_3)]) (st' := []) (w' := (SH, dt)) rfl (c_ge (a := l24_3) (b := 5) (by first | exact bnd i42 (by decide) (by decide) | exact ⟨by fail, by fail⟩) ⟨by decide, by decide⟩) (fun c52 => ?_) (fun c52 => ?_)
        · skip
          exact GO.le (j51 ) ⟨.inl rfl, .inl rfl, .inl rfl, .inr ⟨rfl, trivial⟩, trivial⟩
        · skip
          refine go_ifq PM156 (k := 1) (p1 := 67) (p2 := 36) (L' := [some (.inr (.inr (some 79))), some (.inr (.inr (some 1019))), some (.inl l24_2), some (.inl l24_3)]) (st' := []) (w' := (SH, dt)) rfl (z_eq (a := l24_2) (by first | exact bnd i41 (by decide) (by decide) | exact ⟨by fail, by fail⟩)) (fun c53 => ?_) (fun c53 => ?_)
          · skip
            exact GO.le (j51 ) ⟨.inl rfl, .inl rfl, .inl rfl, .inr ⟨rfl, trivial⟩, trivial⟩
          · skip
            replace c53 := hid c53
            refine go_toq PM156 (k := 6) (pc' := 46) (L' := [some (.inr (.inr (some 79))), some (.inr (.inr (some 1019))), some (.inl l24_2), some (.inl l24_3)]) (st' := [.inl ((dt 79 15) + l24_3), .inr (.inr (some 85))]) (w' := (SH, dt)) rfl ?_
            have r54 : 0 ≤ dt 85 (((dt 79 15) + l24_3).toNat) ∧ dt 85 (((dt 79 15) + l24_3).toNat) ≤ 255 := InvC_get hI 85 (((dt 79 15) + l24_3).toNat) rfl rfl
            refine go_smpq PM156 (L' := [some (.inr (.inr (some 79))), some (.inr (.inr (some 1019))), some (.inl l24_2), some (.inl l24_3)]) (st' := [.inl (dt 85 (((dt 79 15) + l24_3).toNat))]) (w' := (SH, dt)) rfl rfl (s_iald (n := 500) (f := dt 85) rfl ⟨by omega, by (have z0_ := unhid c5; have z1_ := unhid i43; have z2_ := unhid c53; omega)⟩) ?_
            refine go_toq PM156 (k := 2) (pc' := 49) (L' := [some (.inr (.inr (some 79))), some (.inr (.inr (some 1019))), some (.inl l24_2), some (.inl l24_3)]) (st' := [.inl l24_3, .inr (.inr (some 1019)), .inl (dt 85 (((dt 79 15) + l24_3).toNat))]) (w' := (SH, dt)) rfl ?_
            refine go_callq PM156 PM250 (Q' := _) rfl rfl rfl rfl (sp_J0_charAt_5068e_1019 L xs sio (d + 0) dt hI  l24_3 (by first | exact bnd i42 (by decide) (by decide) | exact bndd i42 c52 (by decide) (by decide) | exact ⟨by fail, by fail⟩) ) ?_
            rintro _ _ ⟨rfl, h55⟩
            refine ⟨rfl, ?_⟩
            rcases h55 with ⟨v_h55, rfl, h55r, h55⟩
            refine go_ifq PM156 (k := 0) (p1 := 59) (p2 := 55) (L' := [some (.inr (.inr (some 79))), some (.inr (.inr (some 1019))), some (.inl l24_2), some (.inl l24_3)]) (st' := []) (w' := (SH, dt)) rfl (c_ne (a := dt 85 (((dt 79 15) + l24_3).toNat)) (b := v_h55) (by first | exact bnd r54 (by decide) (by decide) | exact ⟨by fail, by fail⟩) (by first | exact bnd h55r (by decide) (by decide) | exact ⟨by fail, by fail⟩)) (fun c57 => ?_) (fun c57 => ?_)
            · skip
              replace c57 := hid c57
              refine go_toq PM156 (k := 4) (pc' := 24) (L' := [some (.inr (.inr (some 79))), some (.inr (.inr (some 1019))), some (.inl 0), some (.inl (l24_3 + 1))]) (st' := []) (w' := (SH, dt)) rfl ?_
              exact GO.le (ih_loop44 0 (l24_3 + 1) ⟨by decide, by decide⟩ (by first | exact bndp i42 (by decide) (by decide) | exact bnde i42 c52 (by decide) (by decide) | fail) (by omega) (by omega)) ⟨.inl rfl, .inl rfl, .inl rfl, .inl rfl, trivial⟩
            · skip
              refine go_toq PM156 (k := 5) (pc' := 24) (L' := [some (.inr (.inr (some 79))), some (.inr (.inr (some 1019))), some (.inl 1), some (.inl (l24_3 + 1))]) (st' := []) (w' := (SH, dt)) rfl ?_
              exact GO.le (ih_loop44 1 (l24_3 + 1) ⟨by decide, by decide⟩ (by first | exact bndp i42 (by decide) (by decide) | exact bnde i42 c52 (by decide) (by decide) | fail) (by (have z0_ := unhid c5; have z1_ := unhid i43; have z2_ := unhid c53; omega)) (by omega)) ⟨.inl rfl, .inl rfl, .inl rfl, .inl rfl, trivial⟩
    exact GO.le (loop44 _ 0 0 ⟨by decide, by decide⟩ ⟨by decide, by decide⟩ (by omega) (Nat.lt_succ_self _)) ⟨.inl rfl, .inl rfl, .inl rfl, .inl rfl, trivial⟩
  · skip
    refine go_toq PM156 (k := 5) (pc' := 24) (L' := [some (.inr (.inr (some 79))), some (.inr (.inr (some 1019))), some (.inl 1), some (.inl 0)]) (st' := []) (w' := (SH, dt)) rfl ?_
    have loop96 : ∀ (k_ : Nat) (l24_2 : Int) (l24_3 : Int) (i93 : 0 ≤ l24_2 ∧ l24_2 ≤ 1) (i94 : 0 ≤ l24_3 ∧ l24_3 ≤ 5) (i95 : l24_2 = 0 ∨ dt 79 13 - dt 79 15 = 5), (6 - l24_3).toNat < k_ → GO (am_XX L xs sio) (d + 4) 156 24 [some (.inr (.inr (some 79))), some (.inr (.inr (some 1019))), some (.inl l24_2), some (.inl l24_3)] [] (SH, dt) (fun r w2 => w2 = (SH, dt) ∧ ((∃ v : Int, r = some (.inl v) ∧ (0 ≤ v ∧ v ≤ 1) ∧ True))) := by
      intro k_
      induction k_ with
      | zero => intro l24_2 l24_3 i93 i94 i95 hm; exact absurd hm (Nat.not_lt_zero _)
      | succ k_ ih_loop96 =>
        intro l24_2 l24_3 i93 i94 i95 hm
        replace i95 := hid i95
        refine go_toq PM156 (k := 2) (pc' := 26) (L' := [some (.inr (.inr (some 79))), some (.inr (.inr (some 1019))), some (.inl l24_2), some (.inl l24_3)]) (st' := [.inr (.inr (some 1019)), .inl l24_3]) (w' := (SH, dt)) rfl ?_
        refine go_callq PM156 PM249 (Q' := _) rfl rfl rfl rfl (sp_J0_length_8abf5_1019 L xs sio (d + 2) dt hI   ) ?_
        rintro _ _ ⟨rfl, h97⟩
        refine ⟨rfl, ?_⟩
        rcases h97 with ⟨rfl, h97⟩
        have j103 :  GO (am_XX L xs sio) (d + 4) 156 67 [some (.inr (.inr (some 79))), some (.inr (.inr (some 1019))), some (.inl l24_2), none] [] (SH, dt) (fun r w2 => w2 = (SH, dt) ∧ ((∃ v : Int, r = some (.inl v) ∧ (0 ≤ v ∧ v ≤ 1) ∧ True))) := by
          skip
          refine go_toq PM156 (k := 1) (pc' := 68) (L' := [some (.inr (.inr (some 79))), some (.inr (.inr (some 1019))), some (.inl l24_2), none]) (st' := [.inl l24_2]) (w' := (SH, dt)) rfl ?_
          refine go_retvq PM156 (v := l24_2) rfl (decide_eq_true (show l24_2 = 0 ∨ l24_2 = 1 by omega)) ?_
          exact ⟨rfl, ⟨_, rfl, ⟨by omega, by omega⟩, trivial⟩⟩
        refine go_ifq PM156 (k := 0) (p1 := 67) (p2 := 32) (L' := [some (.inr (.inr (some 79))), some (.inr (.inr (some 1019))), some (.inl l24_2), some (.inl l24_3)]) (st' := []) (w' := (SH, dt)) rfl (c_ge (a := l24_3) (b := 5) (by first | exact bnd i94 (by decide) (by decide) | exact ⟨by fail, by fail⟩) ⟨by decide, by decide⟩) (fun c104 => ?_) (fun c104 => ?_)
        · skip
          exact GO.le (j103 ) ⟨.inl rfl, .inl rfl, .inl rfl, .inr ⟨rfl, trivial⟩, trivial⟩
        · skip
          refine go_ifq PM156 (k := 1) (p1 := 67) (p2 := 36) (L' := [some (.inr (.inr (some 79))), some (.inr (.inr (some 1019))), some (.inl l24_2), some (.inl l24_3)]) (st' := []) (w' := (SH, dt)) rfl (z_eq (a := l24_2) (by first | exact bnd i93 (by decide) (by decide) | exact ⟨by fail, by fail⟩)) (fun c105 => ?_) (fun c105 => ?_)
          · skip
            exact GO.le (j103 ) ⟨.inl rfl, .inl rfl, .inl rfl, .inr ⟨rfl, trivial⟩, trivial⟩
          · skip
            replace c105 := hid c105
            refine go_toq PM156 (k := 6) (pc' := 46) (L' := [some (.inr (.inr (some 79))), some (.inr (.inr (some 1019))), some (.inl l24_2), some (.inl l24_3)]) (st' := [.inl ((dt 79 15) + l24_3), .inr (.inr (some 85))]) (w' := (SH, dt)) rfl ?_
            have r106 : 0 ≤ dt 85 (((dt 79 15) + l24_3).toNat) ∧ dt 85 (((dt 79 15) + l24_3).toNat) ≤ 255 := InvC_get hI 85 (((dt 79 15) + l24_3).toNat) rfl rfl
            refine go_smpq PM156 (L' := [some (.inr (.inr (some 79))), some (.inr (.inr (some 1019))), some (.inl l24_2), some (.inl l24_3)]) (st' := [.inl (dt 85 (((dt 79 15) + l24_3).toNat))]) (w' := (SH, dt)) rfl rfl (s_iald (n := 500) (f := dt 85) rfl ⟨by omega, by omega⟩) ?_
            refine go_toq PM156 (k := 2) (pc' := 49) (L' := [some (.inr (.inr (some 79))), some (.inr (.inr (some 1019))), some (.inl l24_2), some (.inl l24_3)]) (st' := [.inl l24_3, .inr (.inr (some 1019)), .inl (dt 85 (((dt 79 15) + l24_3).toNat))]) (w' := (SH, dt)) rfl ?_
            refine go_callq PM156 PM250 (Q' := _) rfl rfl rfl rfl (sp_J0_charAt_5068e_1019 L xs sio (d + 0) dt hI  l24_3 (by first | exact bnd i94 (by decide) (by decide) | exact bndd i94 c104 (by decide) (by decide) | exact ⟨by fail, by fail⟩) ) ?_
            rintro _ _ ⟨rfl, h107⟩
            refine ⟨rfl, ?_⟩
            rcases h107 with ⟨v_h107, rfl, h107r, h107⟩
            refine go_ifq PM156 (k := 0) (p1 := 59) (p2 := 55) (L' := [some (.inr (.inr (some 79))), some (.inr (.inr (some 1019))), some (.inl l24_2), some (.inl l24_3)]) (st' := []) (w' := (SH, dt)) rfl (c_ne (a := dt 85 (((dt 79 15) + l24_3).toNat)) (b := v_h107) (by first | exact bnd r106 (by decide) (by decide) | exact ⟨by fail, by fail⟩) (by first | exact bnd h107r (by decide) (by decide) | exact ⟨by fail, by fail⟩)) (fun c109 => ?_) (fun c109 => ?_)
            · skip
              replace c109 := hid c109
              refine go_toq PM156 (k := 4) (pc' := 24) (L' := [some (.inr (.inr (some 79))), some (.inr (.inr (some 1019))), some (.inl 0), some (.inl (l24_3 + 1))]) (st' := []) (w' := (SH, dt)) rfl ?_
              exact GO.le (ih_loop96 0 (l24_3 + 1) ⟨by decide, by decide⟩ (by first | exact bndp i94 (by decide) (by decide) | exact bnde i94 c104 (by decide) (by decide) | fail) (by omega) (by omega)) ⟨.inl rfl, .inl rfl, .inl rfl, .inl rfl, trivial⟩
            · skip
              refine go_toq PM156 (k := 5) (pc' := 24) (L' := [some (.inr (.inr (some 79))), some (.inr (.inr (some 1019))), some (.inl 1), some (.inl (l24_3 + 1))]) (st' := []) (w' := (SH, dt)) rfl ?_
              exact GO.le (ih_loop96 1 (l24_3 + 1) ⟨by decide, by decide⟩ (by first | exact bndp i94 (by decide) (by decide) | exact bnde i94 c104 (by decide) (by decide) | fail) (by omega) (by omega)) ⟨.inl rfl, .inl rfl, .inl rfl, .inl rfl, trivial⟩
    exact GO.le (loop96 _ 1 0 ⟨by decide, by decide⟩ ⟨by decide, by decide⟩ (by omega) (Nat.lt_succ_self _)) ⟨.inl rfl, .inl rfl, .inl rfl, .inl rfl, trivial⟩
theorem sp_J0_coder_7d493_1020 (L : Nat) (xs : Nat → Int32) (sio : Option Nat) (d : Nat) (dt : Nat → Nat → Int) (hI : InvC dt)    : GO (am_XX L xs sio) (d) 253 0 [some (.inr (.inr (some 1020)))] [] (SH, dt) (fun r w2 => w2 = (SH, dt) ∧ ((r = some (.inl 0) ∧ True))) := by
  refine go_retq PM253 (k := 5) (r := some (.inl 0)) (w1 := (SH, dt)) rfl ?_
  exact ⟨rfl, ⟨rfl, trivial⟩⟩
theorem sp_J0_length_8abf5_1020 (L : Nat) (xs : Nat → Int32) (sio : Option Nat) (d : Nat) (dt : Nat → Nat → Int) (hI : InvC dt)    : GO (am_XX L xs sio) (d + 1) 249 0 [some (.inr (.inr (some 1020)))] [] (SH, dt) (fun r w2 => w2 = (SH, dt) ∧ ((r = some (.inl 3) ∧ True))) := by
  refine go_toq PM249 (k := 4) (pc' := 6) (L' := [some (.inr (.inr (some 1020)))]) (st' := [.inr (.inr (some 1020)), .inl 3]) (w' := (SH, dt)) rfl ?_
  refine go_callq PM249 PM253 (Q' := _) rfl rfl rfl rfl (sp_J0_coder_7d493_1020 L xs sio (d + 0) dt hI   ) ?_
  rintro _ _ ⟨rfl, h1⟩
  refine ⟨rfl, ?_⟩
  rcases h1 with ⟨rfl, h1⟩
  refine go_smpq PM249 (L' := [some (.inr (.inr (some 1020)))]) (st' := [.inl 3]) (w' := (SH, dt)) rfl rfl (s_bshr (v := 3) (by decide)) ?_
  refine go_retq PM249 (k := 0) (r := some (.inl 3)) (w1 := (SH, dt)) rfl ?_
  exact ⟨rfl, ⟨rfl, trivial⟩⟩
theorem sp_J0_isLatin1_aae02_1020 (L : Nat) (xs : Nat → Int32) (sio : Option Nat) (d : Nat) (dt : Nat → Nat → Int) (hI : InvC dt)    : GO (am_XX L xs sio) (d) 254 0 [some (.inr (.inr (some 1020)))] [] (SH, dt) (fun r w2 => w2 = (SH, dt) ∧ ((r = some (.inl 1) ∧ True))) := by
  refine go_retq PM254 (k := 7) (r := some (.inl 1)) (w1 := (SH, dt)) rfl ?_
  exact ⟨rfl, ⟨rfl, trivial⟩⟩
theorem sp_J1_charAt_3b067_1020 (L : Nat) (xs : Nat → Int32) (sio : Option Nat) (d : Nat) (dt : Nat → Nat → Int) (hI : InvC dt)  (p2 : Int) (h_p2 : 0 ≤ p2 ∧ p2 ≤ 2)  : GO (am_XX L xs sio) (d + 2) 256 0 [some (.inr (.inr (some 2020))), some (.inl p2)] [] (SH, dt) (fun r w2 => w2 = (SH, dt) ∧ ((∃ v : Int, r = some (.inl v) ∧ (0 ≤ v ∧ v ≤ 65535) ∧ True))) := by
  refine go_toq PM256 (k := 3) (pc' := 3) (L' := [some (.inr (.inr (some 2020))), some (.inl p2)]) (st' := [.inl 3, .inl p2]) (w' := (SH, dt)) rfl ?_
  refine go_callq PM256 PM255 (Q' := _) rfl rfl rfl rfl (sp_J0_checkIndex_df160 L xs sio (d + 0) dt hI  p2 (by first | exact h_p2 | exact bnd h_p2 (by decide) (by decide) | exact ⟨by fail, by fail⟩) 3 ⟨by decide, by decide⟩ (by first | exact True.intro | with_reducible assumption | rfl | omega | trivial)) ?_
  rintro _ _ ⟨rfl, h1⟩
  refine ⟨rfl, ?_⟩
  rcases h1 with ⟨rfl, h1⟩
  refine go_toq PM256 (k := 2) (pc' := 8) (L' := [some (.inr (.inr (some 2020))), some (.inl p2)]) (st' := [.inl p2, .inr (.inr (some 2020))]) (w' := (SH, dt)) rfl ?_
  have r2 := sby_R 20 (p2).toNat
  refine go_smpq PM256 (L' := [some (.inr (.inr (some 2020))), some (.inl p2)]) (st' := [.inl ((am_Sby.getD 20 []).getD (p2).toNat 0)]) (w' := (SH, dt)) rfl rfl (s_bald (n := 3) (f := fun q => (am_Sby.getD 20 []).getD q 0) rfl (by first | exact bndx h_p2 (by decide) (by decide) | exact ⟨by fail, by fail⟩)) ?_
  have r3 : 0 ≤ am_and ((am_Sby.getD 20 []).getD (p2).toNat 0) 255 ∧ am_and ((am_Sby.getD 20 []).getD (p2).toNat 0) 255 ≤ 255 := and_R255
  have r4 := i2c_R (am_and ((am_Sby.getD 20 []).getD (p2).toNat 0) 255)
  refine go_toq PM256 (k := 3) (pc' := 14) (L' := [some (.inr (.inr (some 2020))), some (.inl p2)]) (st' := [.inl (am_i2c (am_and ((am_Sby.getD 20 []).getD (p2).toNat 0) 255))]) (w' := (SH, dt)) rfl ?_
  refine go_retvq PM256 (v := am_i2c (am_and ((am_Sby.getD 20 []).getD (p2).toNat 0) 255)) rfl (decide_eq_true (show 0 ≤ am_i2c (am_and ((am_Sby.getD 20 []).getD (p2).toNat 0) 255) ∧ am_i2c (am_and ((am_Sby.getD 20 []).getD (p2).toNat 0) 255) < 65536 by omega)) ?_
  exact ⟨rfl, ⟨_, rfl, ⟨by omega, by omega⟩, trivial⟩⟩
theorem sp_J0_charAt_5068e_1020 (L : Nat) (xs : Nat → Int32) (sio : Option Nat) (d : Nat) (dt : Nat → Nat → Int) (hI : InvC dt)  (p1 : Int) (h_p1 : 0 ≤ p1 ∧ p1 ≤ 2)  : GO (am_XX L xs sio) (d + 3) 250 0 [some (.inr (.inr (some 1020))), some (.inl p1)] [] (SH, dt) (fun r w2 => w2 = (SH, dt) ∧ ((∃ v : Int, r = some (.inl v) ∧ (0 ≤ v ∧ v ≤ 65535) ∧ True))) := by
  refine go_toq PM250 (k := 1) (pc' := 1) (L' := [some (.inr (.inr (some 1020))), some (.inl p1)]) (st' := [.inr (.inr (some 1020))]) (w' := (SH, dt)) rfl ?_
  refine go_callq PM250 PM254 (Q' := _) rfl rfl rfl rfl (sp_J0_isLatin1_aae02_1020 L xs sio (d + 2) dt hI   ) ?_
  rintro _ _ ⟨rfl, h1⟩
  refine ⟨rfl, ?_⟩
  rcases h1 with ⟨rfl, h1⟩
  refine go_toq PM250 (k := 4) (pc' := 12) (L' := [some (.inr (.inr (some 1020))), some (.inl p1)]) (st' := [.inl p1, .inr (.inr (some 2020))]) (w' := (SH, dt)) rfl ?_
  refine go_callq PM250 PM256 (Q' := _) rfl rfl rfl rfl (sp_J1_charAt_3b067_1020 L xs sio (d + 0) dt hI  p1 (by first | exact h_p1 | exact bnd h_p1 (by decide) (by decide) | exact ⟨by fail, by fail⟩) ) ?_
  rintro _ _ ⟨rfl, h2⟩
  refine ⟨rfl, ?_⟩
  rcases h2 with ⟨v_h2, rfl, h2r, h2⟩
  refine go_retvq PM250 (v := v_h2) rfl (decide_eq_true (show 0 ≤ v_h2 ∧ v_h2 < 65536 by omega)) ?_
  exact ⟨rfl, ⟨_, rfl, ⟨by omega, by omega⟩, trivial⟩⟩
set_option maxRecDepth 20000 in
theorem sp_X6_is_1020 (L : Nat) (xs : Nat → Int32) (sio : Option Nat) (d : Nat) (dt : Nat → Nat → Int) (hI : InvC dt)   (h_p0 : dt 79 13 ≤ 500) : GO (am_XX L xs sio) (d + 4) 156 0 [some (.inr (.inr (some 79))), some (.inr (.inr (some 1020))), none, none] [] (SH, dt) (fun r w2 => w2 = (SH, dt) ∧ ((∃ v : Int, r = some (.inl v) ∧ (0 ≤ v ∧ v ≤ 1) ∧ True))) := by
  have r1 : 0 ≤ dt 79 13 ∧ dt 79 13 ≤ 501 := InvC_get hI 79 13 rfl rfl
  have r2 : 0 ≤ dt 79 15 ∧ dt 79 15 ≤ 500 := InvC_get hI 79 15 rfl rfl
  refine go_toq PM156 (k := 6) (pc' := 10) (L' := [some (.inr (.inr (some 79))), some (.inr (.inr (some 1020))), none, none]) (st' := [.inr (.inr (some 1020)), .inl ((dt 79 13) - (dt 79 15))]) (w' := (SH, dt)) rfl ?_
  refine go_callq PM156 PM249 (Q' := _) rfl rfl rfl rfl (sp_J0_length_8abf5_1020 L xs sio (d + 2) dt hI   ) ?_
  rintro _ _ ⟨rfl, h3⟩
  refine ⟨rfl, ?_⟩
  rcases h3 with ⟨rfl, h3⟩
  refine go_ifq PM156 (k := 0) (p1 := 20) (p2 := 16) (L' := [some (.inr (.inr (some 79))), some (.inr (.inr (some 1020))), none, none]) (st' := []) (w' := (SH, dt)) rfl (c_ne (a := (dt 79 13) - (dt 79 15)) (b := 3) ⟨by omega, by omega⟩ ⟨by decide, by decide⟩) (fun c5 => ?_) (fun c5 => ?_)
  · skip
    replace c5 := hid c5
    refine go_toq PM156 (k := 4) (pc' := 24) (L' := [some (.inr (.inr (some 79))), some (.inr (.inr (some 1020))), some (.inl 0), some (.inl 0)]) (st' := []) (w' := (SH, dt)) rfl ?_
    have loop44 : ∀ (k_ : Nat) (l24_2 : Int) (l24_3 : Int) (i41 : 0 ≤ l24_2 ∧ l24_2 ≤ 1) (i42 : 0 ≤ l24_3 ∧ l24_3 ≤ 3) (i43 : l24_2 = 0 ∨ dt 79 13 - dt 79 15 = 3), (4 - l24_3).toNat < k_ → GO (am_XX L xs sio) (d + 4) 156 24 [some (.inr (.inr (some 79))), some (.inr (.inr (some 1020))), some (.inl l24_2), some (.inl l24_3)] [] (SH, dt) (fun r w2 => w2 = (SH, dt) ∧ ((∃ v : Int, r = some (.inl v) ∧ (0 ≤ v ∧ v ≤ 1) ∧ True))) := by
      intro k_
      induction k_ with
      | zero => intro l24_2 l24_3 i41 i42 i43 hm; exact absurd hm (Nat.not_lt_zero _)
      | succ k_ ih_loop44 =>
        intro l24_2 l24_3 i41 i42 i43 hm
        replace i43 := hid i43
        refine go_toq PM156 (k := 2) (pc' := 26) (L' := [some (.inr (.inr (some 79))), some (.inr (.inr (some 1020))), some (.inl l24_2), some (.inl l24_3)]) (st' := [.inr (.inr (some 1020)), .inl l24_3]) (w' := (SH, dt)) rfl ?_
        refine go_callq PM156 PM249 (Q' := _) rfl rfl rfl rfl (sp_J0_length_8abf5_1020 L xs sio (d + 2) dt hI   ) ?_
        rintro _ _ ⟨rfl, h45⟩
        refine ⟨rfl, ?_⟩
        rcases h45 with ⟨rfl, h45⟩
        have j51 :  GO (am_XX L xs sio) (d + 4) 156 67 [some (.inr (.inr (some 79))), some (.inr (.inr (some 1020))), some (.inl l24_2), none] [] (SH, dt) (fun r w2 => w2 = (SH, dt) ∧ ((∃ v : Int, r = some (.inl v) ∧ (0 ≤ v ∧ v ≤ 1) ∧ True))) := by
          skip
          refine go_toq PM156 (k := 1) (pc' := 68) (L' := [some (.inr (.inr (some 79))), some (.inr (.inr (some 1020))), some (.inl l24_2), none]) (st' := [.inl l24_2]) (w' := (SH, dt)) rfl ?_
          refine go_retvq PM156 (v := l24_2) rfl (decide_eq_true (show l24_2 = 0 ∨ l24_2 = 1 by omega)) ?_
          exact ⟨rfl, ⟨_, rfl, ⟨by omega, by omega⟩, trivial⟩⟩
        refine go_ifq PM156 (k := 0) (p1 := 67) (p2 := 32) (L' := [some (.inr (.inr (some 79))), some (.inr (.inr (some 1020))), some (.inl l24_2), some (.inl l24_3)]) (st' := []) (w' := (SH, dt)) rfl (c_ge (a := l24_3) (b := 3) (by first | exact bnd i42 (by decide) (by decide) | exact ⟨by fail, by fail⟩) ⟨by decide, by decide⟩) (fun c52 => ?_) (fun c52 => ?_)
        · skip
          exact GO.le (j51 ) ⟨.inl rfl, .inl rfl, .inl rfl, .inr ⟨rfl, trivial⟩, trivial⟩
        · skip
          refine go_ifq PM156 (k := 1) (p1 := 67) (p2 := 36) (L' := [some (.inr (.inr (some 79))), some (.inr (.inr (some 1020))), some (.inl l24_2), some (.inl l24_3)]) (st' := []) (w' := (SH, dt)) rfl (z_eq (a := l24_2) (by first | exact bnd i41 (by decide) (by decide) | exact ⟨by fail, by fail⟩)) (fun c53 => ?_) (fun c53 => ?_)
          · skip
            exact GO.le (j51 ) ⟨.inl rfl, .inl rfl, .inl rfl, .inr ⟨rfl, trivial⟩, trivial⟩
          · skip
            replace c53 := hid c53
            refine go_toq PM156 (k := 6) (pc' := 46) (L' := [some (.inr (.inr (some 79))), some (.inr (.inr (some 1020))), some (.inl l24_2), some (.inl l24_3)]) (st' := [.inl ((dt 79 15) + l24_3), .inr (.inr (some 85))]) (w' := (SH, dt)) rfl ?_
            have r54 : 0 ≤ dt 85 (((dt 79 15) + l24_3).toNat) ∧ dt 85 (((dt 79 15) + l24_3).toNat) ≤ 255 := InvC_get hI 85 (((dt 79 15) + l24_3).toNat) rfl rfl
            refine go_smpq PM156 (L' := [some (.inr (.inr (some 79))), some (.inr (.inr (some 1020))), some (.inl l24_2), some (.inl l24_3)]) (st' := [.inl (dt 85 (((dt 79 15) + l24_3).toNat))]) (w' := (SH, dt)) rfl rfl (s_iald (n := 500) (f := dt 85) rfl ⟨by omega, by (have z0_ := unhid c5; have z1_ := unhid i43; have z2_ := unhid c53; omega)⟩) ?_
            refine go_toq PM156 (k := 2) (pc' := 49) (L' := [some (.inr (.inr (some 79))), some (.inr (.inr (some 1020))), some (.inl l24_2), some (.inl l24_3)]) (st' := [.inl l24_3, .inr (.inr (some 1020)), .inl (dt 85 (((dt 79 15) + l24_3).toNat))]) (w' := (SH, dt)) rfl ?_
            refine go_callq PM156 PM250 (Q' := _) rfl rfl rfl rfl (sp_J0_charAt_5068e_1020 L xs sio (d + 0) dt hI  l24_3 (by first | exact bnd i42 (by decide) (by decide) | exact bndd i42 c52 (by decide) (by decide) | exact ⟨by fail, by fail⟩) ) ?_
            rintro _ _ ⟨rfl, h55⟩
            refine ⟨rfl, ?_⟩
            rcases h55 with ⟨v_h55, rfl, h55r, h55⟩
            refine go_ifq PM156 (k := 0) (p1 := 59) (p2 := 55) (L' := [some (.inr (.inr (some 79))), some (.inr (.inr (some 1020))), some (.inl l24_2), some (.inl l24_3)]) (st' := []) (w' := (SH, dt)) rfl (c_ne (a := dt 85 (((dt 79 15) + l24_3).toNat)) (b := v_h55) (by first | exact bnd r54 (by decide) (by decide) | exact ⟨by fail, by fail⟩) (by first | exact bnd h55r (by decide) (by decide) | exact ⟨by fail, by fail⟩)) (fun c57 => ?_) (fun c57 => ?_)
            · skip
              replace c57 := hid c57
              refine go_toq PM156 (k := 4) (pc' := 24) (L' := [some (.inr (.inr (some 79))), some (.inr (.inr (some 1020))), some (.inl 0), some (.inl (l24_3 + 1))]) (st' := []) (w' := (SH, dt)) rfl ?_
              exact GO.le (ih_loop44 0 (l24_3 + 1) ⟨by decide, by decide⟩ (by first | exact bndp i42 (by decide) (by decide) | exact bnde i42 c52 (by decide) (by decide) | fail) (by omega) (by omega)) ⟨.inl rfl, .inl rfl, .inl rfl, .inl rfl, trivial⟩
            · skip
              refine go_toq PM156 (k := 5) (pc' := 24) (L' := [some (.inr (.inr (some 79))), some (.inr (.inr (some 1020))), some (.inl 1), some (.inl (l24_3 + 1))]) (st' := []) (w' := (SH, dt)) rfl ?_
              exact GO.le (ih_loop44 1 (l24_3 + 1) ⟨by decide, by decide⟩ (by first | exact bndp i42 (by decide) (by decide) | exact bnde i42 c52 (by decide) (by decide) | fail) (by (have z0_ := unhid c5; have z1_ := unhid i43; have z2_ := unhid c53; omega)) (by omega)) ⟨.inl rfl, .inl rfl, .inl rfl, .inl rfl, trivial⟩
    exact GO.le (loop44 _ 0 0 ⟨by decide, by decide⟩ ⟨by decide, by decide⟩ (by omega) (Nat.lt_succ_self _)) ⟨.inl rfl, .inl rfl, .inl rfl, .inl rfl, trivial⟩
  · skip
    refine go_toq PM156 (k := 5) (pc' := 24) (L' := [some (.inr (.inr (some 79))), some (.inr (.inr (some 1020))), some (.inl 1), some (.inl 0)]) (st' := []) (w' := (SH, dt)) rfl ?_
    have loop96 : ∀ (k_ : Nat) (l24_2 : Int) (l24_3 : Int) (i93 : 0 ≤ l24_2 ∧ l24_2 ≤ 1) (i94 : 0 ≤ l24_3 ∧ l24_3 ≤ 3) (i95 : l24_2 = 0 ∨ dt 79 13 - dt 79 15 = 3), (4 - l24_3).toNat < k_ → GO (am_XX L xs sio) (d + 4) 156 24 [some (.inr (.inr (some 79))), some (.inr (.inr (some 1020))), some (.inl l24_2), some (.inl l24_3)] [] (SH, dt) (fun r w2 => w2 = (SH, dt) ∧ ((∃ v : Int, r = some (.inl v) ∧ (0 ≤ v ∧ v ≤ 1) ∧ True))) := by
      intro k_
      induction k_ with
      | zero => intro l24_2 l24_3 i93 i94 i95 hm; exact absurd hm (Nat.not_lt_zero _)
      | succ k_ ih_loop96 =>
        intro l24_2 l24_3 i93 i94 i95 hm
        replace i95 := hid i95
        refine go_toq PM156 (k := 2) (pc' := 26) (L' := [some (.inr (.inr (some 79))), some (.inr (.inr (some 1020))), some (.inl l24_2), some (.inl l24_3)]) (st' := [.inr (.inr (some 1020)), .inl l24_3]) (w' := (SH, dt)) rfl ?_
        refine go_callq PM156 PM249 (Q' := _) rfl rfl rfl rfl (sp_J0_length_8abf5_1020 L xs sio (d + 2) dt hI   ) ?_
        rintro _ _ ⟨rfl, h97⟩
        refine ⟨rfl, ?_⟩
        rcases h97 with ⟨rfl, h97⟩
        have j103 :  GO (am_XX L xs sio) (d + 4) 156 67 [some (.inr (.inr (some 79))), some (.inr (.inr (some 1020))), some (.inl l24_2), none] [] (SH, dt) (fun r w2 => w2 = (SH, dt) ∧ ((∃ v : Int, r = some (.inl v) ∧ (0 ≤ v ∧ v ≤ 1) ∧ True))) := by
          skip
          refine go_toq PM156 (k := 1) (pc' := 68) (L' := [some (.inr (.inr (some 79))), some (.inr (.inr (some 1020))), some (.inl l24_2), none]) (st' := [.inl l24_2]) (w' := (SH, dt)) rfl ?_
          refine go_retvq PM156 (v := l24_2) rfl (decide_eq_true (show l24_2 = 0 ∨ l24_2 = 1 by omega)) ?_
          exact ⟨rfl, ⟨_, rfl, ⟨by omega, by omega⟩, trivial⟩⟩
        refine go_ifq PM156 (k := 0) (p1 := 67) (p2 := 32) (L' := [some (.inr (.inr (some 79))), some (.inr (.inr (some 1020))), some (.inl l24_2), some (.inl l24_3)]) (st' := []) (w' := (SH, dt)) rfl (c_ge (a := l24_3) (b := 3) (by first | exact bnd i94 (by decide) (by decide) | exact ⟨by fail, by fail⟩) ⟨by decide, by decide⟩) (fun c104 => ?_) (fun c104 => ?_)
        · skip
          exact GO.le (j103 ) ⟨.inl rfl, .inl rfl, .inl rfl, .inr ⟨rfl, trivial⟩, trivial⟩
        · skip
          refine go_ifq PM156 (k := 1) (p1 := 67) (p2 := 36) (L' := [some (.inr (.inr (some 79))), some (.inr (.inr (some 1020))), some (.inl l24_2), some (.inl l24_3)]) (st' := []) (w' := (SH, dt)) rfl (z_eq (a := l24_2) (by first | exact bnd i93 (by decide) (by decide) | exact ⟨by fail, by fail⟩)) (fun c105 => ?_) (fun c105 => ?_)
          · skip
            exact GO.le (j103 ) ⟨.inl rfl, .inl rfl, .inl rfl, .inr ⟨rfl, trivial⟩, trivial⟩
          · skip
            replace c105 := hid c105
            refine go_toq PM156 (k := 6) (pc' := 46) (L' := [some (.inr (.inr (some 79))), some (.inr (.inr (some 1020))), some (.inl l24_2), some (.inl l24_3)]) (st' := [.inl ((dt 79 15) + l24_3), .inr (.inr (some 85))]) (w' := (SH, dt)) rfl ?_
            have r106 : 0 ≤ dt 85 (((dt 79 15) + l24_3).toNat) ∧ dt 85 (((dt 79 15) + l24_3).toNat) ≤ 255 := InvC_get hI 85 (((dt 79 15) + l24_3).toNat) rfl rfl
            refine go_smpq PM156 (L' := [some (.inr (.inr (some 79))), some (.inr (.inr (some 1020))), some (.inl l24_2), some (.inl l24_3)]) (st' := [.inl (dt 85 (((dt 79 15) + l24_3).toNat))]) (w' := (SH, dt)) rfl rfl (s_iald (n := 500) (f := dt 85) rfl ⟨by omega, by omega⟩) ?_
            refine go_toq PM156 (k := 2) (pc' := 49) (L' := [some (.inr (.inr (some 79))), some (.inr (.inr (some 1020))), some (.inl l24_2), some (.inl l24_3)]) (st' := [.inl l24_3, .inr (.inr (some 1020)), .inl (dt 85 (((dt 79 15) + l24_3).toNat))]) (w' := (SH, dt)) rfl ?_
            refine go_callq PM156 PM250 (Q' := _) rfl rfl rfl rfl (sp_J0_charAt_5068e_1020 L xs sio (d + 0) dt hI  l24_3 (by first | exact bnd i94 (by decide) (by decide) | exact bndd i94 c104 (by decide) (by decide) | exact ⟨by fail, by fail⟩) ) ?_
            rintro _ _ ⟨rfl, h107⟩
            refine ⟨rfl, ?_⟩
            rcases h107 with ⟨v_h107, rfl, h107r, h107⟩
            refine go_ifq PM156 (k := 0) (p1 := 59) (p2 := 55) (L' := [some (.inr (.inr (some 79))), some (.inr (.inr (some 1020))), some (.inl l24_2), some (.inl l24_3)]) (st' := []) (w' := (SH, dt)) rfl (c_ne (a := dt 85 (((dt 79 15) + l24_3).toNat)) (b := v_h107) (by first | exact bnd r106 (by decide) (by decide) | exact ⟨by fail, by fail⟩) (by first | exact bnd h107r (by decide) (by decide) | exact ⟨by fail, by fail⟩)) (fun c109 => ?_) (fun c109 => ?_)
            · skip
              replace c109 := hid c109
              refine go_toq PM156 (k := 4) (pc' := 24) (L' := [some (.inr (.inr (some 79))), some (.inr (.inr (some 1020))), some (.inl 0), some (.inl (l24_3 + 1))]) (st' := []) (w' := (SH, dt)) rfl ?_
              exact GO.le (ih_loop96 0 (l24_3 + 1) ⟨by decide, by decide⟩ (by first | exact bndp i94 (by decide) (by decide) | exact bnde i94 c104 (by decide) (by decide) | fail) (by omega) (by omega)) ⟨.inl rfl, .inl rfl, .inl rfl, .inl rfl, trivial⟩
            · skip
              refine go_toq PM156 (k := 5) (pc' := 24) (L' := [some (.inr (.inr (some 79))), some (.inr (.inr (some 1020))), some (.inl 1), some (.inl (l24_3 + 1))]) (st' := []) (w' := (SH, dt)) rfl ?_
              exact GO.le (ih_loop96 1 (l24_3 + 1) ⟨by decide, by decide⟩ (by first | exact bndp i94 (by decide) (by decide) | exact bnde i94 c104 (by decide) (by decide) | fail) (by omega) (by omega)) ⟨.inl rfl, .inl rfl, .inl rfl, .inl rfl, trivial⟩
    exact GO.le (loop96 _ 1 0 ⟨by decide, by decide⟩ ⟨by decide, by decide⟩ (by omega) (Nat.lt_succ_self _)) ⟨.inl rfl, .inl rfl, .inl rfl, .inl rfl, trivial⟩
theorem sp_J0_coder_7d493_1021 (L : Nat) (xs : Nat → Int32) (sio : Option Nat) (d : Nat) (dt : Nat → Nat → Int) (hI : InvC dt)    : GO (am_XX L xs sio) (d) 253 0 [some (.inr (.inr (some 1021)))] [] (SH, dt) (fun r w2 => w2 = (SH, dt) ∧ ((r = some (.inl 0) ∧ True))) := by
  refine go_retq PM253 (k := 5) (r := some (.inl 0)) (w1 := (SH, dt)) rfl ?_
  exact ⟨rfl, ⟨rfl, trivial⟩⟩
theorem sp_J0_length_8abf5_1021 (L : Nat) (xs : Nat → Int32) (sio : Option Nat) (d : Nat) (dt : Nat → Nat → Int) (hI : InvC dt)    : GO (am_XX L xs sio) (d + 1) 249 0 [some (.inr (.inr (some 1021)))] [] (SH, dt) (fun r w2 => w2 = (SH, dt) ∧ ((r = some (.inl 5) ∧ True))) := by
  refine go_toq PM249 (k := 4) (pc' := 6) (L' := [some (.inr (.inr (some 1021)))]) (st' := [.inr (.inr (some 1021)), .inl 5]) (w' := (SH, dt)) rfl ?_
  refine go_callq PM249 PM253 (Q' := _) rfl rfl rfl rfl (sp_J0_coder_7d493_1021 L xs sio (d + 0) dt hI   ) ?_
  rintro _ _ ⟨rfl, h1⟩
  refine ⟨rfl, ?_⟩
  rcases h1 with ⟨rfl, h1⟩
  refine go_smpq PM249 (L' := [some (.inr (.inr (some 1021)))]) (st' := [.inl 5]) (w' := (SH, dt)) rfl rfl (s_bshr (v := 5) (by decide)) ?_
  refine go_retq PM249 (k := 0) (r := some (.inl 5)) (w1 := (SH, dt)) rfl ?_
  exact ⟨rfl, ⟨rfl, trivial⟩⟩
theorem sp_J0_isLatin1_aae02_1021 (L : Nat) (xs : Nat → Int32) (sio : Option Nat) (d : Nat) (dt : Nat → Nat → Int) (hI : InvC dt)    : GO (am_XX L xs sio) (d) 254 0 [some (.inr (.inr (some 1021)))] [] (SH, dt) (fun r w2 => w2 = (SH, dt) ∧ ((r = some (.inl 1) ∧ True))) := by
  refine go_retq PM254 (k := 7) (r := some (.inl 1)) (w1 := (SH, dt)) rfl ?_
  exact ⟨rfl, ⟨rfl, trivial⟩⟩
theorem sp_J1_charAt_3b067_1021 (L : Nat) (xs : Nat → Int32) (sio : Option Nat) (d : Nat) (dt : Nat → Nat → Int) (hI : InvC dt)  (p2 : Int) (h_p2 : 0 ≤ p2 ∧ p2 ≤ 4)  : GO (am_XX L xs sio) (d + 2) 256 0 [some (.inr (.inr (some 2021))), some (.inl p2)] [] (SH, dt) (fun r w2 => w2 = (SH, dt) ∧ ((∃ v : Int, r = some (.inl v) ∧ (0 ≤ v ∧ v ≤ 65535) ∧ True))) := by
  refine go_toq PM256 (k := 3) (pc' := 3) (L' := [some (.inr (.inr (some 2021))), some (.inl p2)]) (st' := [.inl 5, .inl p2]) (w' := (SH, dt)) rfl ?_
  refine go_callq PM256 PM255 (Q' := _) rfl rfl rfl rfl (sp_J0_checkIndex_df160 L xs sio (d + 0) dt hI  p2 (by first | exact h_p2 | exact bnd h_p2 (by decide) (by decide) | exact ⟨by fail, by fail⟩) 5 ⟨by decide, by decide⟩ (by first | exact True.intro | with_reducible assumption | rfl | omega | trivial)) ?_
  rintro _ _ ⟨rfl, h1⟩
  refine ⟨rfl, ?_⟩
  rcases h1 with ⟨rfl, h1⟩
  refine go_toq PM256 (k := 2) (pc' := 8) (L' := [some (.inr (.inr (some 2021))), some (.inl p2)]) (st' := [.inl p2, .inr (.inr (some 2021))]) (w' := (SH, dt)) rfl ?_
  have r2 := sby_R 21 (p2).toNat
  refine go_smpq PM256 (L' := [some (.inr (.inr (some 2021))), some (.inl p2)]) (st' := [.inl ((am_Sby.getD 21 []).getD (p2).toNat 0)]) (w' := (SH, dt)) rfl rfl (s_bald (n := 5) (f := fun q => (am_Sby.getD 21 []).getD q 0) rfl (by first | exact bndx h_p2 (by decide) (by decide) | exact ⟨by fail, by fail⟩)) ?_
  have r3 : 0 ≤ am_and ((am_Sby.getD 21 []).getD (p2).toNat 0) 255 ∧ am_and ((am_Sby.getD 21 []).getD (p2).toNat 0) 255 ≤ 255 := and_R255
  have r4 := i2c_R (am_and ((am_Sby.getD 21 []).getD (p2).toNat 0) 255)
  refine go_toq PM256 (k := 3) (pc' := 14) (L' := [some (.inr (.inr (some 2021))), some (.inl p2)]) (st' := [.inl (am_i2c (am_and ((am_Sby.getD 21 []).getD (p2).toNat 0) 255))]) (w' := (SH, dt)) rfl ?_
  refine go_retvq PM256 (v := am_i2c (am_and ((am_Sby.getD 21 []).getD (p2).toNat 0) 255)) rfl (decide_eq_true (show 0 ≤ am_i2c (am_and ((am_Sby.getD 21 []).getD (p2).toNat 0) 255) ∧ am_i2c (am_and ((am_Sby.getD 21 []).getD (p2).toNat 0) 255) < 65536 by omega)) ?_
  exact ⟨rfl, ⟨_, rfl, ⟨by omega, by omega⟩, trivial⟩⟩
theorem sp_J0_charAt_5068e_1021 (L : Nat) (xs : Nat → Int32) (sio : Option Nat) (d : Nat) (dt : Nat → Nat → Int) (hI : InvC dt)  (p1 : Int) (h_p1 : 0 ≤ p1 ∧ p1 ≤ 4)  : GO (am_XX L xs sio) (d + 3) 250 0 [some (.inr (.inr (some 1021))), some (.inl p1)] [] (SH, dt) (fun r w2 => w2 = (SH, dt) ∧ ((∃ v : Int, r = some (.inl v) ∧ (0 ≤ v ∧ v ≤ 65535) ∧ True))) := by
  refine go_toq PM250 (k := 1) (pc' := 1) (L' := [some (.inr (.inr (some 1021))), some (.inl p1)]) (st' := [.inr (.inr (some 1021))]) (w' := (SH, dt)) rfl ?_
  refine go_callq PM250 PM254 (Q' := _) rfl rfl rfl rfl (sp_J0_isLatin1_aae02_1021 L xs sio (d + 2) dt hI   ) ?_
  rintro _ _ ⟨rfl, h1⟩
  refine ⟨rfl, ?_⟩
  rcases h1 with ⟨rfl, h1⟩
  refine go_toq PM250 (k := 4) (pc' := 12) (L' := [some (.inr (.inr (some 1021))), some (.inl p1)]) (st' := [.inl p1, .inr (.inr (some 2021))]) (w' := (SH, dt)) rfl ?_
  refine go_callq PM250 PM256 (Q' := _) rfl rfl rfl rfl (sp_J1_charAt_3b067_1021 L xs sio (d + 0) dt hI  p1 (by first | exact h_p1 | exact bnd h_p1 (by decide) (by decide) | exact ⟨by fail, by fail⟩) ) ?_
  rintro _ _ ⟨rfl, h2⟩
  refine ⟨rfl, ?_⟩
  rcases h2 with ⟨v_h2, rfl, h2r, h2⟩
  refine go_retvq PM250 (v := v_h2) rfl (decide_eq_true (show 0 ≤ v_h2 ∧ v_h2 < 65536 by omega)) ?_
  exact ⟨rfl, ⟨_, rfl, ⟨by omega, by omega⟩, trivial⟩⟩
set_option maxRecDepth 20000 in
theorem sp_X6_is_1021 (L : Nat) (xs : Nat → Int32) (sio : Option Nat) (d : Nat) (dt : Nat → Nat → Int) (hI : InvC dt)   (h_p0 : dt 79 13 ≤ 500) : GO (am_XX L xs sio) (d + 4) 156 0 [some (.inr (.inr (some 79))), some (.inr (.inr (some 1021))), none, none] [] (SH, dt) (fun r w2 => w2 = (SH, dt) ∧ ((∃ v : Int, r = some (.inl v) ∧ (0 ≤ v ∧ v ≤ 1) ∧ True))) := by
  have r1 : 0 ≤ dt 79 13 ∧ dt 79 13 ≤ 501 := InvC_get hI 79 13 rfl rfl
  have r2 : 0 ≤ dt 79 15 ∧ dt 79 15 ≤ 500 := InvC_get hI 79 15 rfl rfl
  refine go_toq PM156 (k := 6) (pc' := 10) (L' := [some (.inr (.inr (some 79))), some (.inr (.inr (some 1021))), none, none]) (st' := [.inr (.inr (some 1021)), .inl ((dt 79 13) - (dt 79 15))]) (w' := (SH, dt)) rfl ?_
  refine go_callq PM156 PM249 (Q' := _) rfl rfl rfl rfl (sp_J0_length_8abf5_1021 L xs sio (d + 2) dt hI   ) ?_
  rintro _ _ ⟨rfl, h3⟩
  refine ⟨rfl, ?_⟩
  rcases h3 with ⟨rfl, h3⟩
  refine go_ifq PM156 (k := 0) (p1 := 20) (p2 := 16) (L' := [some (.inr (.inr (some 79))), some (.inr (.inr (some 1021))), none, none]) (st' := []) (w' := (SH, dt)) rfl (c_ne (a := (dt 79 13) - (dt 79 15)) (b := 5) ⟨by omega, by omega⟩ ⟨by decide, by decide⟩) (fun c5 => ?_) (fun c5 => ?_)
  · skip
    replace c5 := hid c5
    refine go_toq PM156 (k := 4) (pc' := 24) (L' := [some (.inr (.inr (some 79))), some (.inr (.inr (some 1021))), some (.inl 0), some (.inl 0)]) (st' := []) (w' := (SH, dt)) rfl ?_
    have loop44 : ∀ (k_ : Nat) (l24_2 : Int) (l24_3 : Int) (i41 : 0 ≤ l24_2 ∧ l24_2 ≤ 1) (i42 : 0 ≤ l24_3 ∧ l24_3 ≤ 5) (i43 : l24_2 = 0 ∨ dt 79 13 - dt 79 15 = 5), (6 - l24_3).toNat < k_ → GO (am_XX L xs sio) (d + 4) 156 24 [some (.inr (.inr (some 79))), some (.inr (.inr (some 1021))), some (.inl l24_2), some (.inl l24_3)] [] (SH, dt) (fun r w2 => w2 = (SH, dt) ∧ ((∃ v : Int, r = some (.inl v) ∧ (0 ≤ v ∧ v ≤ 1) ∧ True))) := by
      intro k_
      induction k_ with
      | zero => intro l24_2 l24_3 i41 i42 i43 hm; exact absurd hm (Nat.not_lt_zero _)
      | succ k_ ih_loop44 =>
        intro l24_2 l24_3 i41 i42 i43 hm
        replace i43 := hid i43
        refine go_toq PM156 (k := 2) (pc' := 26) (L' := [some (.inr (.inr (some 79))), some (.inr (.inr (some 1021))), some (.inl l24_2), some (.inl l24_3)]) (st' := [.inr (.inr (some 1021)), .inl l24_3]) (w' := (SH, dt)) rfl ?_
        refine go_callq PM156 PM249 (Q' := _) rfl rfl rfl rfl (sp_J0_length_8abf5_1021 L xs sio (d + 2) dt hI   ) ?_
        rintro _ _ ⟨rfl, h45⟩
        refine ⟨rfl, ?_⟩
        rcases h45 with ⟨rfl, h45⟩
        have j51 :  GO (am_XX L xs sio) (d + 4) 156 67 [some (.inr (.inr (some 79))), some (.inr (.inr (some 1021))), some (.inl l24_2), none] [] (SH, dt) (fun r w2 => w2 = (SH, dt) ∧ ((∃ v : Int, r = some (.inl v) ∧ (0 ≤ v ∧ v ≤ 1) ∧ True))) := by
          skip
          refine go_toq PM156 (k := 1) (pc' := 68) (L' := [some (.inr (.inr (some 79))), some (.inr (.inr (some 1021))), some (.inl l24_2), none]) (st' := [.inl l24_2]) (w' := (SH, dt)) rfl ?_
          refine go_retvq PM156 (v := l24_2) rfl (decide_eq_true (show l24_2 = 0 ∨ l24_2 = 1 by omega)) ?_
          exact ⟨rfl, ⟨_, rfl, ⟨by omega, by omega⟩, trivial⟩⟩
        refine go_ifq PM156 (k := 0) (p1 := 67) (p2 := 32) (L' := [some (.inr (.inr (some 79))), some (.inr (.inr (some 1021))), some (.inl l24_2), some (.inl l24_3)]) (st' := []) (w' := (SH, dt)) rfl (c_ge (a := l24_3) (b := 5) (by first | exact bnd i42 (by decide) (by decide) | exact ⟨by fail, by fail⟩) ⟨by decide, by decide⟩) (fun c52 => ?_) (fun c52 => ?_)
        · skip
          exact GO.le (j51 ) ⟨.inl rfl, .inl rfl, .inl rfl, .inr ⟨rfl, trivial⟩, trivial⟩
        · skip
          refine go_ifq PM156 (k := 1) (p1 := 67) (p2 := 36) (L' := [some (.inr (.inr (some 79))), some (.inr (.inr (some 1021))), some (.inl l24_2), some (.inl l24_3)]) (st' := []) (w' := (SH, dt)) rfl (z_eq (a := l24_2) (by first | exact bnd i41 (by decide) (by decide) | exact ⟨by fail, by fail⟩)) (fun c53 => ?_) (fun c53 => ?_)
          · skip
            exact GO.le (j51 ) ⟨.inl rfl, .inl rfl, .inl rfl, .inr ⟨rfl, trivial⟩, trivial⟩
          · skip
            replace c53 := hid c53
            refine go_toq PM156 (k := 6) (pc' := 46) (L' := [some (.inr (.inr (some 79))), some (.inr (.inr (some 1021))), some (.inl l24_2), some (.inl l24_3)]) (st' := [.inl ((dt 79 15) + l24_3), .inr (.inr (some 85))]) (w' := (SH, dt)) rfl ?_
            have r54 : 0 ≤ dt 85 (((dt 79 15) + l24_3).toNat) ∧ dt 85 (((dt 79 15) + l24_3).toNat) ≤ 255 := InvC_get hI 85 (((dt 79 15) + l24_3).toNat) rfl rfl
            refine go_smpq PM156 (L' := [some (.inr (.inr (some 79))), some (.inr (.inr (some 1021))), some (.inl l24_2), some (.inl l24_3)]) (st' := [.inl (dt 85 (((dt 79 15) + l24_3).toNat))]) (w' := (SH, dt)) rfl rfl (s_iald (n := 500) (f := dt 85) rfl ⟨by omega, by (have z0_ := unhid c5; have z1_ := unhid i43; have z2_ := unhid c53; omega)⟩) ?_
            refine go_toq PM156 (k := 2) (pc' := 49) (L' := [some (.inr (.inr (some 79))), some (.inr (.inr (some 1021))), some (.inl l24_2), some (.inl l24_3)]) (st' := [.inl l24_3, .inr (.inr (some 1021)), .inl (dt 85 (((dt 79 15) + l24_3).toNat))]) (w' := (SH, dt)) rfl ?_
            refine go_callq PM156 PM250 (Q' := _) rfl rfl rfl rfl (sp_J0_charAt_5068e_1021 L xs sio (d + 0) dt hI  l24_3 (by first | exact bnd i42 (by decide) (by decide) | exact bndd i42 c52 (by decide) (by decide) | exact ⟨by fail, by fail⟩) ) ?_
            rintro _ _ ⟨rfl, h55⟩
            refine ⟨rfl, ?_⟩
            rcases h55 with ⟨v_h55, rfl, h55r, h55⟩
            refine go_ifq PM156 (k := 0) (p1 := 59) (p2 := 55) (L' := [some (.inr (.inr (some 79))), some (.inr (.inr (some 1021))), some (.inl l24_2), some (.inl l24_3)]) (st' := []) (w' := (SH, dt)) rfl (c_ne (a := dt 85 (((dt 79 15) + l24_3).toNat)) (b := v_h55) (by first | exact bnd r54 (by decide) (by decide) | exact ⟨by fail, by fail⟩) (by first | exact bnd h55r (by decide) (by decide) | exact ⟨by fail, by fail⟩)) (fun c57 => ?_) (fun c57 => ?_)
            · skip
              replace c57 := hid c57
              refine go_toq PM156 (k := 4) (pc' := 24) (L' := [some (.inr (.inr (some 79))), some (.inr (.inr (some 1021))), some (.inl 0), some (.inl (l24_3 + 1))]) (st' := []) (w' := (SH, dt)) rfl ?_
              exact GO.le (ih_loop44 0 (l24_3 + 1) ⟨by decide, by decide⟩ (by first | exact bndp i42 (by decide) (by decide) | exact bnde i42 c52 (by decide) (by decide) | fail) (by omega) (by omega)) ⟨.inl rfl, .inl rfl, .inl rfl, .inl rfl, trivial⟩
            · skip
              refine go_toq PM156 (k := 5) (pc' := 24) (L' := [some (.inr (.inr (some 79))), some (.inr (.inr (some 1021))), some (.inl 1), some (.inl (l24_3 + 1))]) (st' := []) (w' := (SH, dt)) rfl ?_
              exact GO.le (ih_loop44 1 (l24_3 + 1) ⟨by decide, by decide⟩ (by first | exact bndp i42 (by decide) (by decide) | exact bnde i42 c52 (by decide) (by decide) | fail) (by (have z0_ := unhid c5; have z1_ := unhid i43; have z2_ := unhid c53; omega)) (by omega)) ⟨.inl rfl, .inl rfl, .inl rfl, .inl rfl, trivial⟩
    exact GO.le (loop44 _ 0 0 ⟨by decide, by decide⟩ ⟨by decide, by decide⟩ (by omega) (Nat.lt_succ_self _)) ⟨.inl rfl, .inl rfl, .inl rfl, .inl rfl, trivial⟩
  · skip
    refine go_toq PM156 (k := 5) (pc' := 24) (L' := [some (.inr (.inr (some 79))), some (.inr (.inr (some 1021))), some (.inl 1), some (.inl 0)]) (st' := []) (w' := (SH, dt)) rfl ?_
    have loop96 : ∀ (k_ : Nat) (l24_2 : Int) (l24_3 : Int) (i93 : 0 ≤ l24_2 ∧ l24_2 ≤ 1) (i94 : 0 ≤ l24_3 ∧ l24_3 ≤ 5) (i95 : l24_2 = 0 ∨ dt 79 13 - dt 79 15 = 5), (6 - l24_3).toNat < k_ → GO (am_XX L xs sio) (d + 4) 156 24 [some (.inr (.inr (some 79))), some (.inr (.inr (some 1021))), some (.inl l24_2), some (.inl l24_3)] [] (SH, dt) (fun r w2 => w2 = (SH, dt) ∧ ((∃ v : Int, r = some (.inl v) ∧ (0 ≤ v ∧ v ≤ 1) ∧ True))) := by
      intro k_
      induction k_ with
      | zero => intro l24_2 l24_3 i93 i94 i95 hm; exact absurd hm (Nat.not_lt_zero _)
      | succ k_ ih_loop96 =>
        intro l24_2 l24_3 i93 i94 i95 hm
        replace i95 := hid i95
        refine go_toq PM156 (k := 2) (pc' := 26) (L' := [some (.inr (.inr (some 79))), some (.inr (.inr (some 1021))), some (.inl l24_2), some (.inl l24_3)]) (st' := [.inr (.inr (some 1021)), .inl l24_3]) (w' := (SH, dt)) rfl ?_
        refine go_callq PM156 PM249 (Q' := _) rfl rfl rfl rfl (sp_J0_length_8abf5_1021 L xs sio (d + 2) dt hI   ) ?_
        rintro _ _ ⟨rfl, h97⟩
        refine ⟨rfl, ?_⟩
        rcases h97 with ⟨rfl, h97⟩
        have j103 :  GO (am_XX L xs sio) (d + 4) 156 67 [some (.inr (.inr (some 79))), some (.inr (.inr (some 1021))), some (.inl l24_2), none] [] (SH, dt) (fun r w2 => w2 = (SH, dt) ∧ ((∃ v : Int, r = some (.inl v) ∧ (0 ≤ v ∧ v ≤ 1) ∧ True))) := by
          skip
          refine go_toq PM156 (k := 1) (pc' := 68) (L' := [some (.inr (.inr (some 79))), some (.inr (.inr (some 1021))), some (.inl l24_2), none]) (st' := [.inl l24_2]) (w' := (SH, dt)) rfl ?_
          refine go_retvq PM156 (v := l24_2) rfl (decide_eq_true (show l24_2 = 0 ∨ l24_2 = 1 by omega)) ?_
          exact ⟨rfl, ⟨_, rfl, ⟨by omega, by omega⟩, trivial⟩⟩
        refine go_ifq PM156 (k := 0) (p1 := 67) (p2 := 32) (L' := [some (.inr (.inr (some 79))), some (.inr (.inr (some 1021))), some (.inl l24_2), some (.inl l24_3)]) (st' := []) (w' := (SH, dt)) rfl (c_ge (a := l24_3) (b := 5) (by first | exact bnd i94 (by decide) (by decide) | exact ⟨by fail, by fail⟩) ⟨by decide, by decide⟩) (fun c104 => ?_) (fun c104 => ?_)
        · skip
          exact GO.le (j103 ) ⟨.inl rfl, .inl rfl, .inl rfl, .inr ⟨rfl, trivial⟩, trivial⟩
        · skip
          refine go_ifq PM156 (k := 1) (p1 := 67) (p2 := 36) (L' := [some (.inr (.inr (some 79))), some (.inr (.inr (some 1021))), some (.inl l24_2), some (.inl l24_3)]) (st' := []) (w' := (SH, dt)) rfl (z_eq (a := l24_2) (by first | exact bnd i93 (by decide) (by decide) | exact ⟨by fail, by fail⟩)) (fun c105 => ?_) (fun c105 => ?_)
          · skip
            exact GO.le (j103 ) ⟨.inl rfl, .inl rfl, .inl rfl, .inr ⟨rfl, trivial⟩, trivial⟩
          · skip
            replace c105 := hid c105
            refine go_toq PM156 (k := 6) (pc' := 46) (L' := [some (.inr (.inr (some 79))), some (.inr (.inr (some 1021))), some (.inl l24_2), some (.inl l24_3)]) (st' := [.inl ((dt 79 15) + l24_3), .inr (.inr (some 85))]) (w' := (SH, dt)) rfl ?_
            have r106 : 0 ≤ dt 85 (((dt 79 15) + l24_3).toNat) ∧ dt 85 (((dt 79 15) + l24_3).toNat) ≤ 255 := InvC_get hI 85 (((dt 79 15) + l24_3).toNat) rfl rfl
            refine go_smpq PM156 (L' := [some (.inr (.inr (some 79))), some (.inr (.inr (some 1021))), some (.inl l24_2), some (.inl l24_3)]) (st' := [.inl (dt 85 (((dt 79 15) + l24_3).toNat))]) (w' := (SH, dt)) rfl rfl (s_iald (n := 500) (f := dt 85) rfl ⟨by omega, by omega⟩) ?_
            refine go_toq PM156 (k := 2) (pc' := 49) (L' := [some (.inr (.inr (some 79))), some (.inr (.inr (some 1021))), some (.inl l24_2), some (.inl l24_3)]) (st' := [.inl l24_3, .inr (.inr (some 1021)), .inl (dt 85 (((dt 79 15) + l24_3).toNat))]) (w' := (SH, dt)) rfl ?_
            refine go_callq PM156 PM250 (Q' := _) rfl rfl rfl rfl (sp_J0_charAt_5068e_1021 L xs sio (d + 0) dt hI  l24_3 (by first | exact bnd i94 (by decide) (by decide) | exact bndd i94 c104 (by decide) (by decide) | exact ⟨by fail, by fail⟩) ) ?_
            rintro _ _ ⟨rfl, h107⟩
            refine ⟨rfl, ?_⟩
            rcases h107 with ⟨v_h107, rfl, h107r, h107⟩
            refine go_ifq PM156 (k := 0) (p1 := 59) (p2 := 55) (L' := [some (.inr (.inr (some 79))), some (.inr (.inr (some 1021))), some (.inl l24_2), some (.inl l24_3)]) (st' := []) (w' := (SH, dt)) rfl (c_ne (a := dt 85 (((dt 79 15) + l24_3).toNat)) (b := v_h107) (by first | exact bnd r106 (by decide) (by decide) | exact ⟨by fail, by fail⟩) (by first | exact bnd h107r (by decide) (by decide) | exact ⟨by fail, by fail⟩)) (fun c109 => ?_) (fun c109 => ?_)
            · skip
              replace c109 := hid c109
              refine go_toq PM156 (k := 4) (pc' := 24) (L' := [some (.inr (.inr (some 79))), some (.inr (.inr (some 1021))), some (.inl 0), some (.inl (l24_3 + 1))]) (st' := []) (w' := (SH, dt)) rfl ?_
              exact GO.le (ih_loop96 0 (l24_3 + 1) ⟨by decide, by decide⟩ (by first | exact bndp i94 (by decide) (by decide) | exact bnde i94 c104 (by decide) (by decide) | fail) (by omega) (by omega)) ⟨.inl rfl, .inl rfl, .inl rfl, .inl rfl, trivial⟩
            · skip
              refine go_toq PM156 (k := 5) (pc' := 24) (L' := [some (.inr (.inr (some 79))), some (.inr (.inr (some 1021))), some (.inl 1), some (.inl (l24_3 + 1))]) (st' := []) (w' := (SH, dt)) rfl ?_
              exact GO.le (ih_loop96 1 (l24_3 + 1) ⟨by decide, by decide⟩ (by first | exact bndp i94 (by decide) (by decide) | exact bnde i94 c104 (by decide) (by decide) | fail) (by omega) (by omega)) ⟨.inl rfl, .inl rfl, .inl rfl, .inl rfl, trivial⟩
    exact GO.le (loop96 _ 1 0 ⟨by decide, by decide⟩ ⟨by decide, by decide⟩ (by omega) (Nat.lt_succ_self _)) ⟨.inl rfl, .inl rfl, .inl rfl, .inl rfl, trivial⟩
theorem sp_J0_coder_7d493_1022 (L : Nat) (xs : Nat → Int32) (sio : Option Nat) (d : Nat) (dt : Nat → Nat → Int) (hI : InvC dt)    : GO (am_XX L xs sio) (d) 253 0 [some (.inr (.inr (some 1022)))] [] (SH, dt) (fun r w2 => w2 = (SH, dt) ∧ ((r = some (.inl 0) ∧ True))) := by
  refine go_retq PM253 (k := 5) (r := some (.inl 0)) (w1 := (SH, dt)) rfl ?_
  exact ⟨rfl, ⟨rfl, trivial⟩⟩
theorem sp_J0_length_8abf5_1022 (L : Nat) (xs : Nat → Int32) (sio : Option Nat) (d : Nat) (dt : Nat → Nat → Int) (hI : InvC dt)    : GO (am_XX L xs sio) (d + 1) 249 0 [some (.inr (.inr (some 1022)))] [] (SH, dt) (fun r w2 => w2 = (SH, dt) ∧ ((r = some (.inl 4) ∧ True))) := by
  refine go_toq PM249 (k := 4) (pc' := 6) (L' := [some (.inr (.inr (some 1022)))]) (st' := [.inr (.inr (some 1022)), .inl 4]) (w' := (SH, dt)) rfl ?_
  refine go_callq PM249 PM253 (Q' := _) rfl rfl rfl rfl (sp_J0_coder_7d493_1022 L xs sio (d + 0) dt hI   ) ?_
  rintro _ _ ⟨rfl, h1⟩
  refine ⟨rfl, ?_⟩
  rcases h1 with ⟨rfl, h1⟩
  refine go_smpq PM249 (L' := [some (.inr (.inr (some 1022)))]) (st' := [.inl 4]) (w' := (SH, dt)) rfl rfl (s_bshr (v := 4) (by decide)) ?_
  refine go_retq PM249 (k := 0) (r := some (.inl 4)) (w1 := (SH, dt)) rfl ?_
  exact ⟨rfl, ⟨rfl, trivial⟩⟩
theorem sp_J0_isLatin1_aae02_1022 (L : Nat) (xs : Nat → Int32) (sio : Option Nat) (d : Nat) (dt : Nat → Nat → Int) (hI : InvC dt)    : GO (am_XX L xs sio) (d) 254 0 [some (.inr (.inr (some 1022)))] [] (SH, dt) (fun r w2 => w2 = (SH, dt) ∧ ((r = some (.inl 1) ∧ True))) := by
  refine go_retq PM254 (k := 7) (r := some (.inl 1)) (w1 := (SH, dt)) rfl ?_
  exact ⟨rfl, ⟨rfl, trivial⟩⟩
theorem sp_J1_charAt_3b067_1022 (L : Nat) (xs : Nat → Int32) (sio : Option Nat) (d : Nat) (dt : Nat → Nat → Int) (hI : InvC dt)  (p2 : Int) (h_p2 : 0 ≤ p2 ∧ p2 ≤ 3)  : GO (am_XX L xs sio) (d + 2) 256 0 [some (.inr (.inr (some 2022))), some (.inl p2)] [] (SH, dt) (fun r w2 => w2 = (SH, dt) ∧ ((∃ v : Int, r = some (.inl v) ∧ (0 ≤ v ∧ v ≤ 65535) ∧ True))) := by
  refine go_toq PM256 (k := 3) (pc' := 3) (L' := [some (.inr (.inr (some 2022))), some (.inl p2)]) (st' := [.inl 4, .inl p2]) (w' := (SH, dt)) rfl ?_
  refine go_callq PM256 PM255 (Q' := _) rfl rfl rfl rfl (sp_J0_checkIndex_df160 L xs sio (d + 0) dt hI  p2 (by first | exact h_p2 | exact bnd h_p2 (by decide) (by decide) | exact ⟨by fail, by fail⟩) 4 ⟨by decide, by decide⟩ (by first | exact True.intro | with_reducible assumption | rfl | omega | trivial)) ?_
  rintro _ _ ⟨rfl, h1⟩
  refine ⟨rfl, ?_⟩
  rcases h1 with ⟨rfl, h1⟩
  refine go_toq PM256 (k := 2) (pc' := 8) (L' := [some (.inr (.inr (some 2022))), some (.inl p2)]) (st' := [.inl p2, .inr (.inr (some 2022))]) (w' := (SH, dt)) rfl ?_
  have r2 := sby_R 22 (p2).toNat
  refine go_smpq PM256 (L' := [some (.inr (.inr (some 2022))), some (.inl p2)]) (st' := [.inl ((am_Sby.getD 22 []).getD (p2).toNat 0)]) (w' := (SH, dt)) rfl rfl (s_bald (n := 4) (f := fun q => (am_Sby.getD 22 []).getD q 0) rfl (by first | exact bndx h_p2 (by decide) (by decide) | exact ⟨by fail, by fail⟩)) ?_
  have r3 : 0 ≤ am_and ((am_Sby.getD 22 []).getD (p2).toNat 0) 255 ∧ am_and ((am_Sby.getD 22 []).getD (p2).toNat 0) 255 ≤ 255 := and_R255
  have r4 := i2c_R (am_and ((am_Sby.getD 22 []).getD (p2).toNat 0) 255)
  refine go_toq PM256 (k := 3) (pc' := 14) (L' := [some (.inr (.inr (some 2022))), some (.inl p2)]) (st' := [.inl (am_i2c (am_and ((am_Sby.getD 22 []).getD (p2).toNat 0) 255))]) (w' := (SH, dt)) rfl ?_
  refine go_retvq PM256 (v := am_i2c (am_and ((am_Sby.getD 22 []).getD (p2).toNat 0) 255)) rfl (decide_eq_true (show 0 ≤ am_i2c (am_and ((am_Sby.getD 22 []).getD (p2).toNat 0) 255) ∧ am_i2c (am_and ((am_Sby.getD 22 []).getD (p2).toNat 0) 255) < 65536 by omega)) ?_
  exact ⟨rfl, ⟨_, rfl, ⟨by omega, by omega⟩, trivial⟩⟩
theorem sp_J0_charAt_5068e_1022 (L : Nat) (xs : Nat → Int32) (sio : Option Nat) (d : Nat) (dt : Nat → Nat → Int) (hI : InvC dt)  (p1 : Int) (h_p1 : 0 ≤ p1 ∧ p1 ≤ 3)  : GO (am_XX L xs sio) (d + 3) 250 0 [some (.inr (.inr (some 1022))), some (.inl p1)] [] (SH, dt) (fun r w2 => w2 = (SH, dt) ∧ ((∃ v : Int, r = some (.inl v) ∧ (0 ≤ v ∧ v ≤ 65535) ∧ True))) := by
  refine go_toq PM250 (k := 1) (pc' := 1) (L' := [some (.inr (.inr (some 1022))), some (.inl p1)]) (st' := [.inr (.inr (some 1022))]) (w' := (SH, dt)) rfl ?_
  refine go_callq PM250 PM254 (Q' := _) rfl rfl rfl rfl (sp_J0_isLatin1_aae02_1022 L xs sio (d + 2) dt hI   ) ?_
  rintro _ _ ⟨rfl, h1⟩
  refine ⟨rfl, ?_⟩
  rcases h1 with ⟨rfl, h1⟩
  refine go_toq PM250 (k := 4) (pc' := 12) (L' := [some (.inr (.inr (some 1022))), some (.inl p1)]) (st' := [.inl p1, .inr (.inr (some 2022))]) (w' := (SH, dt)) rfl ?_
  refine go_callq PM250 PM256 (Q' := _) rfl rfl rfl rfl (sp_J1_charAt_3b067_1022 L xs sio (d + 0) dt hI  p1 (by first | exact h_p1 | exact bnd h_p1 (by decide) (by decide) | exact ⟨by fail, by fail⟩) ) ?_
  rintro _ _ ⟨rfl, h2⟩
  refine ⟨rfl, ?_⟩
  rcases h2 with ⟨v_h2, rfl, h2r, h2⟩
  refine go_retvq PM250 (v := v_h2) rfl (decide_eq_true (show 0 ≤ v_h2 ∧ v_h2 < 65536 by omega)) ?_
  exact ⟨rfl, ⟨_, rfl, ⟨by omega, by omega⟩, trivial⟩⟩
set_option maxRecDepth 20000 in
theorem sp_X6_is_1022 (L : Nat) (xs : Nat → Int32) (sio : Option Nat) (d : Nat) (dt : Nat → Nat → Int) (hI : InvC dt)   (h_p0 : dt 79 13 ≤ 500) : GO (am_XX L xs sio) (d + 4) 156 0 [some (.inr (.inr (some 79))), some (.inr (.inr (some 1022))), none, none] [] (SH, dt) (fun r w2 => w2 = (SH, dt) ∧ ((∃ v : Int, r = some (.inl v) ∧ (0 ≤ v ∧ v ≤ 1) ∧ True))) := by
  have r1 : 0 ≤ dt 79 13 ∧ dt 79 13 ≤ 501 := InvC_get hI 79 13 rfl rfl
  have r2 : 0 ≤ dt 79 15 ∧ dt 79 15 ≤ 500 := InvC_get hI 79 15 rfl rfl
  refine go_toq PM156 (k := 6) (pc' := 10) (L' := [some (.inr (.inr (some 79))), some (.inr (.inr (some 1022))), none, none]) (st' := [.inr (.inr (some 1022)), .inl ((dt 79 13) - (dt 79 15))]) (w' := (SH, dt)) rfl ?_
  refine go_callq PM156 PM249 (Q' := _) rfl rfl rfl rfl (sp_J0_length_8abf5_1022 L xs sio (d + 2) dt hI   ) ?_
  rintro _ _ ⟨rfl, h3⟩
  refine ⟨rfl, ?_⟩
  rcases h3 with ⟨rfl, h3⟩
  refine go_ifq PM156 (k := 0) (p1 := 20) (p2 := 16) (L' := [some (.inr (.inr (some 79))), some (.inr (.inr (some 1022))), none, none]) (st' := []) (w' := (SH, dt)) rfl (c_ne (a := (dt 79 13) - (dt 79 15)) (b := 4) ⟨by omega, by omega⟩ ⟨by decide, by decide⟩) (fun c5 => ?_) (fun c5 => ?_)
  · skip
    replace c5 := hid c5
    refine go_toq PM156 (k := 4) (pc' := 24) (L' := [some (.inr (.inr (some 79))), some (.inr (.inr (some 1022))), some (.inl 0), some (.inl 0)]) (st' := []) (w' := (SH, dt)) rfl ?_
    have loop44 : ∀ (k_ : Nat) (l24_2 : Int) (l24_3 : Int) (i41 : 0 ≤ l24_2 ∧ l24_2 ≤ 1) (i42 : 0 ≤ l24_3 ∧ l24_3 ≤ 4) (i43 : l24_2 = 0 ∨ dt 79 13 - dt 79 15 = 4), (5 - l24_3).toNat < k_ → GO (am_XX L xs sio) (d + 4) 156 24 [some (.inr (.inr (some 79))), some (.inr (.inr (some 1022))), some (.inl l24_2), some (.inl l24_3)] [] (SH, dt) (fun r w2 => w2 = (SH, dt) ∧ ((∃ v : Int, r = some (.inl v) ∧ (0 ≤ v ∧ v ≤ 1) ∧ True))) := by
      intro k_
      induction k_ with
      | zero => intro l24_2 l24_3 i41 i42 i43 hm; exact absurd hm (Nat.not_lt_zero _)
      | succ k_ ih_loop44 =>
        intro l24_2 l24_3 i41 i42 i43 hm
        replace i43 := hid i43
        refine go_toq PM156 (k := 2) (pc' := 26) (L' := [some (.inr (.inr (some 79))), some (.inr (.inr (some 1022))), some (.inl l24_2), some (.inl l24_3)]) (st' := [.inr (.inr (some 1022)), .inl l24_3]) (w' := (SH, dt)) rfl ?_
        refine go_callq PM156 PM249 (Q' := _) rfl rfl rfl rfl (sp_J0_length_8abf5_1022 L xs sio (d + 2) dt hI   ) ?_
        rintro _ _ ⟨rfl, h45⟩
        refine ⟨rfl, ?_⟩
        rcases h45 with ⟨rfl, h45⟩
        have j51 :  GO (am_XX L xs sio) (d + 4) 156 67 [some (.inr (.inr (some 79))), some (.inr (.inr (some 1022))), some (.inl l24_2), none] [] (SH, dt) (fun r w2 => w2 = (SH, dt) ∧ ((∃ v : Int, r = some (.inl v) ∧ (0 ≤ v ∧ v ≤ 1) ∧ True))) := by
          skip
          refine go_toq PM156 (k := 1) (pc' := 68) (L' := [some (.inr (.inr (some 79))), some (.inr (.inr (some 1022))), some (.inl l24_2), none]) (st' := [.inl l24_2]) (w' := (SH, dt)) rfl ?_
          refine go_retvq PM156 (v := l24_2) rfl (decide_eq_true (show l24_2 = 0 ∨ l24_2 = 1 by omega)) ?_
          exact ⟨rfl, ⟨_, rfl, ⟨by omega, by omega⟩, trivial⟩⟩
        refine go_ifq PM156 (k := 0) (p1 := 67) (p2 := 32) (L' := [some (.inr (.inr (some 79))), some (.inr (.inr (some 1022))), some (.inl l24_2), some (.inl l24_3)]) (st' := []) (w' := (SH, dt)) rfl (c_ge (a := l24_3) (b := 4) (by first | exact bnd i42 (by decide) (by decide) | exact ⟨by fail, by fail⟩) ⟨by decide, by decide⟩) (fun c52 => ?_) (fun c52 => ?_)
        · skip
          exact GO.le (j51 ) ⟨.inl rfl, .inl rfl, .inl rfl, .inr ⟨rfl, trivial⟩, trivial⟩
        · skip
          refine go_ifq PM156 (k := 1) (p1 := 67) (p2 := 36) (L' := [some (.inr (.inr (some 79))), some (.inr (.inr (some 1022))), some (.inl l24_2), some (.inl l24_3)]) (st' := []) (w' := (SH, dt)) rfl (z_eq (a := l24_2) (by first | exact bnd i41 (by decide) (by decide) | exact ⟨by fail, by fail⟩)) (fun c53 => ?_) (fun c53 => ?_)
          · skip
            exact GO.le (j51 ) ⟨.inl rfl, .inl rfl, .inl rfl, .inr ⟨rfl, trivial⟩, trivial⟩
          · skip
            replace c53 := hid c53
            refine go_toq PM156 (k := 6) (pc' := 46) (L' := [some (.inr (.inr (some 79))), some (.inr (.inr (some 1022))), some (.inl l24_2), some (.inl l24_3)]) (st' := [.inl ((dt 79 15) + l24_3), .inr (.inr (some 85))]) (w' := (SH, dt)) rfl ?_
            have r54 : 0 ≤ dt 85 (((dt 79 15) + l24_3).toNat) ∧ dt 85 (((dt 79 15) + l24_3).toNat) ≤ 255 := InvC_get hI 85 (((dt 79 15) + l24_3).toNat) rfl rfl
            refine go_smpq PM156 (L' := [some (.inr (.inr (some 79))), some (.inr (.inr (some 1022))), some (.inl l24_2), some (.inl l24_3)]) (st' := [.inl (dt 85 (((dt 79 15) + l24_3).toNat))]) (w' := (SH, dt)) rfl rfl (s_iald (n := 500) (f := dt 85) rfl ⟨by omega, by (have z0_ := unhid c5; have z1_ := unhid i43; have z2_ := unhid c53; omega)⟩) ?_
            refine go_toq PM156 (k := 2) (pc' := 49) (L' := [some (.inr (.inr (some 79))), some (.inr (.inr (some 1022))), some (.inl l24_2), some (.inl l24_3)]) (st' := [.inl l24_3, .inr (.inr (some 1022)), .inl (dt 85 (((dt 79 15) + l24_3).toNat))]) (w' := (SH, dt)) rfl ?_
            refine go_callq PM156 PM250 (Q' := _) rfl rfl rfl rfl (sp_J0_charAt_5068e_1022 L xs sio (d + 0) dt hI  l24_3 (by first | exact bnd i42 (by decide) (by decide) | exact bndd i42 c52 (by decide) (by decide) | exact ⟨by fail, by fail⟩) ) ?_
            rintro _ _ ⟨rfl, h55⟩
            refine ⟨rfl, ?_⟩
            rcases h55 with ⟨v_h55, rfl, h55r, h55⟩
            refine go_ifq PM156 (k := 0) (p1 := 59) (p2 := 55) (L' := [some (.inr (.inr (some 79))), some (.inr (.inr (some 1022))), some (.inl l24_2), some (.inl l24_3)]) (st' := []) (w' := (SH, dt)) rfl (c_ne (a := dt 85 (((dt 79 15) + l24_3).toNat)) (b := v_h55) (by first | exact bnd r54 (by decide) (by decide) | exact ⟨by fail, by fail⟩) (by first | exact bnd h55r (by decide) (by decide) | exact ⟨by fail, by fail⟩)) (fun c57 => ?_) (fun c57 => ?_)
            · skip
              replace c57 := hid c57
              refine go_toq PM156 (k := 4) (pc' := 24) (L' := [some (.inr (.inr (some 79))), some (.inr (.inr (some 1022))), some (.inl 0), some (.inl (l24_3 + 1))]) (st' := []) (w' := (SH, dt)) rfl ?_
              exact GO.le (ih_loop44 0 (l24_3 + 1) ⟨by decide, by decide⟩ (by first | exact bndp i42 (by decide) (by decide) | exact bnde i42 c52 (by decide) (by decide) | fail) (by omega) (by omega)) ⟨.inl rfl, .inl rfl, .inl rfl, .inl rfl, trivial⟩
            · skip
              refine go_toq PM156 (k := 5) (pc' := 24) (L' := [some (.inr (.inr (some 79))), some (.inr (.inr (some 1022))), some (.inl 1), some (.inl (l24_3 + 1))]) (st' := []) (w' := (SH, dt)) rfl ?_
              exact GO.le (ih_loop44 1 (l24_3 + 1) ⟨by decide, by decide⟩ (by first | exact bndp i42 (by decide) (by decide) | exact bnde i42 c52 (by decide) (by decide) | fail) (by (have z0_ := unhid c5; have z1_ := unhid i43; have z2_ := unhid c53; omega)) (by omega)) ⟨.inl rfl, .inl rfl, .inl rfl, .inl rfl, trivial⟩
    exact GO.le (loop44 _ 0 0 ⟨by decide, by decide⟩ ⟨by decide, by decide⟩ (by omega) (Nat.lt_succ_self _)) ⟨.inl rfl, .inl rfl, .inl rfl, .inl rfl, trivial⟩
  · skip
    refine go_toq PM156 (k := 5) (pc' := 24) (L' := [some (.inr (.inr (some 79))), some (.inr (.inr (some 1022))), some (.inl 1), some (.inl 0)]) (st' := []) (w' := (SH, dt)) rfl ?_
    have loop96 : ∀ (k_ : Nat) (l24_2 : Int) (l24_3 : Int) (i93 : 0 ≤ l24_2 ∧ l24_2 ≤ 1) (i94 : 0 ≤ l24_3 ∧ l24_3 ≤ 4) (i95 : l24_2 = 0 ∨ dt 79 13 - dt 79 15 = 4), (5 - l24_3).toNat < k_ → GO (am_XX L xs sio) (d + 4) 156 24 [some (.inr (.inr (some 79))), some (.inr (.inr (some 1022))), some (.inl l24_2), some (.inl l24_3)] [] (SH, dt) (fun r w2 => w2 = (SH, dt) ∧ ((∃ v : Int, r = some (.inl v) ∧ (0 ≤ v ∧ v ≤ 1) ∧ True))) := by
      intro k_
      induction k_ with
      | zero => intro l24_2 l24_3 i93 i94 i95 hm; exact absurd hm (Nat.not_lt_zero _)
      | succ k_ ih_loop96 =>
        intro l24_2 l24_3 i93 i94 i95 hm
        replace i95 := hid i95
        refine go_toq PM156 (k := 2) (pc' := 26) (L' := [some (.inr (.inr (some 79))), some (.inr (.inr (some 1022))), some (.inl l24_2), some (.inl l24_3)]) (st' := [.inr (.inr (some 1022)), .inl l24_3]) (w' := (SH, dt)) rfl ?_
        refine go_callq PM156 PM249 (Q' := _) rfl rfl rfl rfl (sp_J0_length_8abf5_1022 L xs sio (d + 2) dt hI   ) ?_
        rintro _ _ ⟨rfl, h97⟩
        refine ⟨rfl, ?_⟩
        rcases h97 with ⟨rfl, h97⟩
        have j103 :  GO (am_XX L xs sio) (d + 4) 156 67 [some (.inr (.inr (some 79))), some (.inr (.inr (some 1022))), some (.inl l24_2), none] [] (SH, dt) (fun r w2 => w2 = (SH, dt) ∧ ((∃ v : Int, r = some (.inl v) ∧ (0 ≤ v ∧ v ≤ 1) ∧ True))) := by
          skip
          refine go_toq PM156 (k := 1) (pc' := 68) (L' := [some (.inr (.inr (some 79))), some (.inr (.inr (some 1022))), some (.inl l24_2), none]) (st' := [.inl l24_2]) (w' := (SH, dt)) rfl ?_
          refine go_retvq PM156 (v := l24_2) rfl (decide_eq_true (show l24_2 = 0 ∨ l24_2 = 1 by omega)) ?_
          exact ⟨rfl, ⟨_, rfl, ⟨by omega, by omega⟩, trivial⟩⟩
        refine go_ifq PM156 (k := 0) (p1 := 67) (p2 := 32) (L' := [some (.inr (.inr (some 79))), some (.inr (.inr (some 1022))), some (.inl l24_2), some (.inl l24_3)]) (st' := []) (w' := (SH, dt)) rfl (c_ge (a := l24_3) (b := 4) (by first | exact bnd i94 (by decide) (by decide) | exact ⟨by fail, by fail⟩) ⟨by decide, by decide⟩) (fun c104 => ?_) (fun c104 => ?_)
        · skip
          exact GO.le (j103 ) ⟨.inl rfl, .inl rfl, .inl rfl, .inr ⟨rfl, trivial⟩, trivial⟩
        · skip
          refine go_ifq PM156 (k := 1) (p1 := 67) (p2 := 36) (L' := [some (.inr (.inr (some 79))), some (.inr (.inr (some 1022))), some (.inl l24_2), some (.inl l24_3)]) (st' := []) (w' := (SH, dt)) rfl (z_eq (a := l24_2) (by first | exact bnd i93 (by decide) (by decide) | exact ⟨by fail, by fail⟩)) (fun c105 => ?_) (fun c105 => ?_)
          · skip
            exact GO.le (j103 ) ⟨.inl rfl, .inl rfl, .inl rfl, .inr ⟨rfl, trivial⟩, trivial⟩
          · skip
            replace c105 := hid c105
            refine go_toq PM156 (k := 6) (pc' := 46) (L' := [some (.inr (.inr (some 79))), some (.inr (.inr (some 1022))), some (.inl l24_2), some (.inl l24_3)]) (st' := [.inl ((dt 79 15) + l24_3), .inr (.inr (some 85))]) (w' := (SH, dt)) rfl ?_
            have r106 : 0 ≤ dt 85 (((dt 79 15) + l24_3).toNat) ∧ dt 85 (((dt 79 15) + l24_3).toNat) ≤ 255 := InvC_get hI 85 (((dt 79 15) + l24_3).toNat) rfl rfl
            refine go_smpq PM156 (L' := [some (.inr (.inr (some 79))), some (.inr (.inr (some 1022))), some (.inl l24_2), some (.inl l24_3)]) (st' := [.inl (dt 85 (((dt 79 15) + l24_3).toNat))]) (w' := (SH, dt)) rfl rfl (s_iald (n := 500) (f := dt 85) rfl ⟨by omega, by omega⟩) ?_
            refine go_toq PM156 (k := 2) (pc' := 49) (L' := [some (.inr (.inr (some 79))), some (.inr (.inr (some 1022))), some (.inl l24_2), some (.inl l24_3)]) (st' := [.inl l24_3, .inr (.inr (some 1022)), .inl (dt 85 (((dt 79 15) + l24_3).toNat))]) (w' := (SH, dt)) rfl ?_
            refine go_callq PM156 PM250 (Q' := _) rfl rfl rfl rfl (sp_J0_charAt_5068e_1022 L xs sio (d + 0) dt hI  l24_3 (by first | exact bnd i94 (by decide) (by decide) | exact bndd i94 c104 (by decide) (by decide) | exact ⟨by fail, by fail⟩) ) ?_
            rintro _ _ ⟨rfl, h107⟩
            refine ⟨rfl, ?_⟩
            rcases h107 with ⟨v_h107, rfl, h107r, h107⟩
            refine go_ifq PM156 (k := 0) (p1 := 59) (p2 := 55) (L' := [some (.inr (.inr (some 79))), some (.inr (.inr (some 1022))), some (.inl l24_2), some (.inl l24_3)]) (st' := []) (w' := (SH, dt)) rfl (c_ne (a := dt 85 (((dt 79 15) + l24_3).toNat)) (b := v_h107) (by first | exact bnd r106 (by decide) (by decide) | exact ⟨by fail, by fail⟩) (by first | exact bnd h107r (by decide) (by decide) | exact ⟨by fail, by fail⟩)) (fun c109 => ?_) (fun c109 => ?_)
            · skip
              replace c109 := hid c109
              refine go_toq PM156 (k := 4) (pc' := 24) (L' := [some (.inr (.inr (some 79))), some (.inr (.inr (some 1022))), some (.inl 0), some (.inl (l24_3 + 1))]) (st' := []) (w' := (SH, dt)) rfl ?_
              exact GO.le (ih_loop96 0 (l24_3 + 1) ⟨by decide, by decide⟩ (by first | exact bndp i94 (by decide) (by decide) | exact bnde i94 c104 (by decide) (by decide) | fail) (by omega) (by omega)) ⟨.inl rfl, .inl rfl, .inl rfl, .inl rfl, trivial⟩
            · skip
              refine go_toq PM156 (k := 5) (pc' := 24) (L' := [some (.inr (.inr (some 79))), some (.inr (.inr (some 1022))), some (.inl 1), some (.inl (l24_3 + 1))]) (st' := []) (w' := (SH, dt)) rfl ?_
              exact GO.le (ih_loop96 1 (l24_3 + 1) ⟨by decide, by decide⟩ (by first | exact bndp i94 (by decide) (by decide) | exact bnde i94 c104 (by decide) (by decide) | fail) (by omega) (by omega)) ⟨.inl rfl, .inl rfl, .inl rfl, .inl rfl, trivial⟩
    exact GO.le (loop96 _ 1 0 ⟨by decide, by decide⟩ ⟨by decide, by decide⟩ (by omega) (Nat.lt_succ_self _)) ⟨.inl rfl, .inl rfl, .inl rfl, .inl rfl, trivial⟩
theorem sp_J0_coder_7d493_1023 (L : Nat) (xs : Nat → Int32) (sio : Option Nat) (d : Nat) (dt : Nat → Nat → Int) (hI : InvC dt)    : GO (am_XX L xs sio) (d) 253 0 [some (.inr (.inr (some 1023)))] [] (SH, dt) (fun r w2 => w2 = (SH, dt) ∧ ((r = some (.inl 0) ∧ True))) := by
  refine go_retq PM253 (k := 5) (r := some (.inl 0)) (w1 := (SH, dt)) rfl ?_
  exact ⟨rfl, ⟨rfl, trivial⟩⟩
theorem sp_J0_length_8abf5_1023 (L : Nat) (xs : Nat → Int32) (sio : Option Nat) (d : Nat) (dt : Nat → Nat → Int) (hI : InvC dt)    : GO (am_XX L xs sio) (d + 1) 249 0 [some (.inr (.inr (some 1023)))] [] (SH, dt) (fun r w2 => w2 = (SH, dt) ∧ ((r = some (.inl 7) ∧ True))) := by
  refine go_toq PM249 (k := 4) (pc' := 6) (L' := [some (.inr (.inr (some 1023)))]) (st' := [.inr (.inr (some 1023)), .inl 7]) (w' := (SH, dt)) rfl ?_
  refine go_callq PM249 PM253 (Q' := _) rfl rfl rfl rfl (sp_J0_coder_7d493_1023 L xs sio (d + 0) dt hI   ) ?_
  rintro _ _ ⟨rfl, h1⟩
  refine ⟨rfl, ?_⟩
  rcases h1 with ⟨rfl, h1⟩
  refine go_smpq PM249 (L' := [some (.inr (.inr (some 1023)))]) (st' := [.inl 7]) (w' := (SH, dt)) rfl rfl (s_bshr (v := 7) (by decide)) ?_
  refine go_retq PM249 (k := 0) (r := some (.inl 7)) (w1 := (SH, dt)) rfl ?_
  exact ⟨rfl, ⟨rfl, trivial⟩⟩
theorem sp_J0_isLatin1_aae02_1023 (L : Nat) (xs : Nat → Int32) (sio : Option Nat) (d : Nat) (dt : Nat → Nat → Int) (hI : InvC dt)    : GO (am_XX L xs sio) (d) 254 0 [some (.inr (.inr (some 1023)))] [] (SH, dt) (fun r w2 => w2 = (SH, dt) ∧ ((r = some (.inl 1) ∧ True))) := by
  refine go_retq PM254 (k := 7) (r := some (.inl 1)) (w1 := (SH, dt)) rfl ?_
  exact ⟨rfl, ⟨rfl, trivial⟩⟩
theorem sp_J1_charAt_3b067_1023 (L : Nat) (xs : Nat → Int32) (sio : Option Nat) (d : Nat) (dt : Nat → Nat → Int) (hI : InvC dt)  (p2 : Int) (h_p2 : 0 ≤ p2 ∧ p2 ≤ 6)  : GO (am_XX L xs sio) (d + 2) 256 0 [some (.inr (.inr (some 2023))), some (.inl p2)] [] (SH, dt) (fun r w2 => w2 = (SH, dt) ∧ ((∃ v : Int, r = some (.inl v) ∧ (0 ≤ v ∧ v ≤ 65535) ∧ True))) := by
  refine go_toq PM256 (k := 3) (pc' := 3) (L' := [some (.inr (.inr (some 2023))), some (.inl p2)]) (st' := [.inl 7, .inl p2]) (w' := (SH, dt)) rfl ?_
  refine go_callq PM256 PM255 (Q' := _) rfl rfl rfl rfl (sp_J0_checkIndex_df160 L xs sio (d + 0) dt hI  p2 (by first | exact h_p2 | exact bnd h_p2 (by decide) (by decide) | exact ⟨by fail, by fail⟩) 7 ⟨by decide, by decide⟩ (by first | exact True.intro | with_reducible assumption | rfl | omega | trivial)) ?_
  rintro _ _ ⟨rfl, h1⟩
  refine ⟨rfl, ?_⟩
  rcases h1 with ⟨rfl, h1⟩
  refine go_toq PM256 (k := 2) (pc' := 8) (L' := [some (.inr (.inr (some 2023))), some (.inl p2)]) (st' := [.inl p2, .inr (.inr (some 2023))]) (w' := (SH, dt)) rfl ?_
  have r2 := sby_R 23 (p2).toNat
  refine go_smpq PM256 (L' := [some (.inr (.inr (some 2023))), some (.inl p2)]) (st' := [.inl ((am_Sby.getD 23 []).getD (p2).toNat 0)]) (w' := (SH, dt)) rfl rfl (s_bald (n := 7) (f := fun q => (am_Sby.getD 23 []).getD q 0) rfl (by first | exact bndx h_p2 (by decide) (by decide) | exact ⟨by fail, by fail⟩)) ?_
  have r3 : 0 ≤ am_and ((am_Sby.getD 23 []).getD (p2).toNat 0) 255 ∧ am_and ((am_Sby.getD 23 []).getD (p2).toNat 0) 255 ≤ 255 := and_R255
  have r4 := i2c_R (am_and ((am_Sby.getD 23 []).getD (p2).toNat 0) 255)
  refine go_toq PM256 (k := 3) (pc' := 14) (L' := [some (.inr (.inr (some 2023))), some (.inl p2)]) (st' := [.inl (am_i2c (am_and ((am_Sby.getD 23 []).getD (p2).toNat 0) 255))]) (w' := (SH, dt)) rfl ?_
  refine go_retvq PM256 (v := am_i2c (am_and ((am_Sby.getD 23 []).getD (p2).toNat 0) 255)) rfl (decide_eq_true (show 0 ≤ am_i2c (am_and ((am_Sby.getD 23 []).getD (p2).toNat 0) 255) ∧ am_i2c (am_and ((am_Sby.getD 23 []).getD (p2).toNat 0) 255) < 65536 by omega)) ?_
  exact ⟨rfl, ⟨_, rfl, ⟨by omega, by omega⟩, trivial⟩⟩
theorem sp_J0_charAt_5068e_1023 (L : Nat) (xs : Nat → Int32) (sio : Option Nat) (d : Nat) (dt : Nat → Nat → Int) (hI : InvC dt)  (p1 : Int) (h_p1 : 0 ≤ p1 ∧ p1 ≤ 6)  : GO (am_XX L xs sio) (d + 3) 250 0 [some (.inr (.inr (some 1023))), some (.inl p1)] [] (SH, dt) (fun r w2 => w2 = (SH, dt) ∧ ((∃ v : Int, r = some (.inl v) ∧ (0 ≤ v ∧ v ≤ 65535) ∧ True))) := by
  refine go_toq PM250 (k := 1) (pc' := 1) (L' := [some (.inr (.inr (some 1023))), some (.inl p1)]) (st' := [.inr (.inr (some 1023))]) (w' := (SH, dt)) rfl ?_
  refine go_callq PM250 PM254 (Q' := _) rfl rfl rfl rfl (sp_J0_isLatin1_aae02_1023 L xs sio (d + 2) dt hI   ) ?_
  rintro _ _ ⟨rfl, h1⟩
  refine ⟨rfl, ?_⟩
  rcases h1 with ⟨rfl, h1⟩
  refine go_toq PM250 (k := 4) (pc' := 12) (L' := [some (.inr (.inr (some 1023))), some (.inl p1)]) (st' := [.inl p1, .inr (.inr (some 2023))]) (w' := (SH, dt)) rfl ?_
  refine go_callq PM250 PM256 (Q' := _) rfl rfl rfl rfl (sp_J1_charAt_3b067_1023 L xs sio (d + 0) dt hI  p1 (by first | exact h_p1 | exact bnd h_p1 (by decide) (by decide) | exact ⟨by fail, by fail⟩) ) ?_
  rintro _ _ ⟨rfl, h2⟩
  refine ⟨rfl, ?_⟩
  rcases h2 with ⟨v_h2, rfl, h2r, h2⟩
  refine go_retvq PM250 (v := v_h2) rfl (decide_eq_true (show 0 ≤ v_h2 ∧ v_h2 < 65536 by omega)) ?_
  exact ⟨rfl, ⟨_, rfl, ⟨by omega, by omega⟩, trivial⟩⟩
set_option maxRecDepth 20000 in
theorem sp_X6_is_1023 (L : Nat) (xs : Nat → Int32) (sio : Option Nat) (d : Nat) (dt : Nat → Nat → Int) (hI : InvC dt)   (h_p0 : dt 79 13 ≤ 500) : GO (am_XX L xs sio) (d + 4) 156 0 [some (.inr (.inr (some 79))), some (.inr (.inr (some 1023))), none, none] [] (SH, dt) (fun r w2 => w2 = (SH, dt) ∧ ((∃ v : Int, r = some (.inl v) ∧ (0 ≤ v ∧ v ≤ 1) ∧ True))) := by
  have r1 : 0 ≤ dt 79 13 ∧ dt 79 13 ≤ 501 := InvC_get hI 79 13 rfl rfl
  have r2 : 0 ≤ dt 79 15 ∧ dt 79 15 ≤ 500 := InvC_get hI 79 15 rfl rfl
  refine go_toq PM156 (k := 6) (pc' := 10) (L' := [some (.inr (.inr (some 79))), some (.inr (.inr (some 1023))), none, none]) (st' := [.inr (.inr (some 1023)), .inl ((dt 79 13) - (dt 79 15))]) (w' := (SH, dt)) rfl ?_
  refine go_callq PM156 PM249 (Q' := _) rfl rfl rfl rfl (sp_J0_length_8abf5_1023 L xs sio (d + 2) dt hI   ) ?_
  rintro _ _ ⟨rfl, h3⟩
  refine ⟨rfl, ?_⟩
  rcases h3 with ⟨rfl, h3⟩
  refine go_ifq PM156 (k := 0) (p1 := 20) (p2 := 16) (L' := [some (.inr (.inr (some 79))), some (.inr (.inr (some 1023))), none, none]) (st' := []) (w' := (SH, dt)) rfl (c_ne (a := (dt 79 13) - (dt 79 15)) (b := 7) ⟨by omega, by omega⟩ ⟨by decide, by decide⟩) (fun c5 => ?_) (fun c5 => ?_)
  · skip
    replace c5 := hid c5
    refine go_toq PM156 (k := 4) (pc' := 24) (L' := [some (.inr (.inr (some 79))), some (.inr (.inr (some 1023))), some (.inl 0), some (.inl 0)]) (st' := []) (w' := (SH, dt)) rfl ?_
    have loop44 : ∀ (k_ : Nat) (l24_2 : Int) (l24_3 : Int) (i41 : 0 ≤ l24_2 ∧ l24_2 ≤ 1) (i42 : 0 ≤ l24_3 ∧ l24_3 ≤ 7) (i43 : l24_2 = 0 ∨ dt 79 13 - dt 79 15 = 7), (8 - l24_3).toNat < k_ → GO (am_XX L xs sio) (d + 4) 156 24 [some (.inr (.inr (some 79))), some (.inr (.inr (some 1023))), some (.inl l24_2), some (.inl l24_3)] [] (SH, dt) (fun r w2 => w2 = (SH, dt) ∧ ((∃ v : Int, r = some (.inl v) ∧ (0 ≤ v ∧ v ≤ 1) ∧ True))) := by
      intro k_
      induction k_ with
      | zero => intro l24_2 l24_3 i41 i42 i43 hm; exact absurd hm (Nat.not_lt_zero _)
      | succ k_ ih_loop44 =>
        intro l24_2 l24_3 i41 i42 i43 hm
        replace i43 := hid i43
        refine go_toq PM156 (k := 2) (pc' := 26) (L' := [some (.inr (.inr (some 79))), some (.inr (.inr (some 1023))), some (.inl l24_2), some (.inl l24_3)]) (st' := [.inr (.inr (some 1023)), .inl l24_3]) (w' := (SH, dt)) rfl ?_
        refine go_callq PM156 PM249 (Q' := _) rfl rfl rfl rfl (sp_J0_length_8abf5_1023 L xs sio (d + 2) dt hI   ) ?_
        rintro _ _ ⟨rfl, h45⟩
        refine ⟨rfl, ?_⟩
        rcases h45 with ⟨rfl, h45⟩
        have j51 :  GO (am_XX L xs sio) (d + 4) 156 67 [some (.inr (.inr (some 79))), some (.inr (.inr (some 1023))), some (.inl l24_2), none] [] (SH, dt) (fun r w2 => w2 = (SH, dt) ∧ ((∃ v : Int, r = some (.inl v) ∧ (0 ≤ v ∧ v ≤ 1) ∧ True))) := by
          skip
          refine go_toq PM156 (k := 1) (pc' := 68) (L' := [some (.inr (.inr (some 79))), some (.inr (.inr (some 1023))), some (.inl l24_2), none]) (st' := [.inl l24_2]) (w' := (SH, dt)) rfl ?_
          refine go_retvq PM156 (v := l24_2) rfl (decide_eq_true (show l24_2 = 0 ∨ l24_2 = 1 by omega)) ?_
          exact ⟨rfl, ⟨_, rfl, ⟨by omega, by omega⟩, trivial⟩⟩
        refine go_ifq PM156 (k := 0) (p1 := 67) (p2 := 32) (L' := [some (.inr (.inr (some 79))), some (.inr (.inr (some 1023))), some (.inl l24_2), some (.inl l24_3)]) (st' := []) (w' := (SH, dt)) rfl (c_ge (a := l24_3) (b := 7) (by first | exact bnd i42 (by decide) (by decide) | exact ⟨by fail, by fail⟩) ⟨by decide, by decide⟩) (fun c52 => ?_) (fun c52 => ?_)
        · skip
          exact GO.le (j51 ) ⟨.inl rfl, .inl rfl, .inl rfl, .inr ⟨rfl, trivial⟩, trivial⟩
        · skip
          refine go_ifq PM156 (k := 1) (p1 := 67) (p2 := 36) (L' := [some (.inr (.inr (some 79))), some (.inr (.inr (some 1023))), some (.inl l24_2), some (.inl l24_3)]) (st' := []) (w' := (SH, dt)) rfl (z_eq (a := l24_2) (by first | exact bnd i41 (by decide) (by decide) | exact ⟨by fail, by fail⟩)) (fun c53 => ?_) (fun c53 => ?_)
          · skip
            exact GO.le (j51 ) ⟨.inl rfl, .inl rfl, .inl rfl, .inr ⟨rfl, trivial⟩, trivial⟩
          · skip
            replace c53 := hid c53
            refine go_toq PM156 (k := 6) (pc' := 46) (L' := [some (.inr (.inr (some 79))), some (.inr (.inr (some 1023))), some (.inl l24_2), some (.inl l24_3)]) (st' := [.inl ((dt 79 15) + l24_3), .inr (.inr (some 85))]) (w' := (SH, dt)) rfl ?_
            have r54 : 0 ≤ dt 85 (((dt 79 15) + l24_3).toNat) ∧ dt 85 (((dt 79 15) + l24_3).toNat) ≤ 255 := InvC_get hI 85 (((dt 79 15) + l24_3).toNat) rfl rfl
            refine go_smpq PM156 (L' := [some (.inr (.inr (some 79))), some (.inr (.inr (some 1023))), some (.inl l24_2), some (.inl l24_3)]) (st' := [.inl (dt 85 (((dt 79 15) + l24_3).toNat))]) (w' := (SH, dt)) rfl rfl (s_iald (n := 500) (f := dt 85) rfl ⟨by omega, by (have z0_ := unhid c5; have z1_ := unhid i43; have z2_ := unhid c53; omega)⟩) ?_
            refine go_toq PM156 (k := 2) (pc' := 49) (L' := [some (.inr (.inr (some 79))), some (.inr (.inr (some 1023))), some (.inl l24_2), some (.inl l24_3)]) (st' := [.inl l24_3, .inr (.inr (some 1023)), .inl (dt 85 (((dt 79 15) + l24_3).toNat))]) (w' := (SH, dt)) rfl ?_
            refine go_callq PM156 PM250 (Q' := _) rfl rfl rfl rfl (sp_J0_charAt_5068e_1023 L xs sio (d + 0) dt hI  l24_3 (by first | exact bnd i42 (by decide) (by decide) | exact bndd i42 c52 (by decide) (by decide) | exact ⟨by fail, by fail⟩) ) ?_
            rintro _ _ ⟨rfl, h55⟩
            refine ⟨rfl, ?_⟩
            rcases h55 with ⟨v_h55, rfl, h55r, h55⟩
            refine go_ifq PM156 (k := 0) (p1 := 59) (p2 := 55) (L' := [some (.inr (.inr (some 79))), some (.inr (.inr (some 1023))), some (.inl l24_2), some (.inl l24_3)]) (st' := []) (w' := (SH, dt)) rfl (c_ne (a := dt 85 (((dt 79 15) + l24_3).toNat)) (b := v_h55) (by first | exact bnd r54 (by decide) (by decide) | exact ⟨by fail, by fail⟩) (by first | exact bnd h55r (by decide) (by decide) | exact ⟨by fail, by fail⟩)) (fun c57 => ?_) (fun c57 => ?_)
            · skip
              replace c57 := hid c57
              refine go_toq PM156 (k := 4) (pc' := 24) (L' := [some (.inr (.inr (some 79))), some (.inr (.inr (some 1023))), some (.inl 0), some (.inl (l24_3 + 1))]) (st' := []) (w' := (SH, dt)) rfl ?_
              exact GO.le (ih_loop44 0 (l24_3 + 1) ⟨by decide, by decide⟩ (by first | exact bndp i42 (by decide) (by decide) | exact bnde i42 c52 (by decide) (by decide) | fail) (by omega) (by omega)) ⟨.inl rfl, .inl rfl, .inl rfl, .inl rfl, trivial⟩
            · skip
              refine go_toq PM156 (k := 5) (pc' := 24) (L' := [some (.inr (.inr (some 79))), some (.inr (.inr (some 1023))), some (.inl 1), some (.inl (l24_3 + 1))]) (st' := []) (w' := (SH, dt)) rfl ?_
              exact GO.le (ih_loop44 1 (l24_3 + 1) ⟨by decide, by decide⟩ (by first | exact bndp i42 (by decide) (by decide) | exact bnde i42 c52 (by decide) (by decide) | fail) (by (have z0_ := unhid c5; have z1_ := unhid i43; have z2_ := unhid c53; omega)) (by omega)) ⟨.inl rfl, .inl rfl, .inl rfl, .inl rfl, trivial⟩
    exact GO.le (loop44 _ 0 0 ⟨by decide, by decide⟩ ⟨by decide, by decide⟩ (by omega) (Nat.lt_succ_self _)) ⟨.inl rfl, .inl rfl, .inl rfl, .inl rfl, trivial⟩
  · skip
    refine go_toq PM156 (k := 5) (pc' := 24) (L' := [some (.inr (.inr (some 79))), some (.inr (.inr (some 1023))), some (.inl 1), some (.inl 0)]) (st' := []) (w' := (SH, dt)) rfl ?_
    have loop96 : ∀ (k_ : Nat) (l24_2 : Int) (l24_3 : Int) (i93 : 0 ≤ l24_2 ∧ l24_2 ≤ 1) (i94 : 0 ≤ l24_3 ∧ l24_3 ≤ 7) (i95 : l24_2 = 0 ∨ dt 79 13 - dt 79 15 = 7), (8 - l24_3).toNat < k_ → GO (am_XX L xs sio) (d + 4) 156 24 [some (.inr (.inr (some 79))), some (.inr (.inr (some 1023))), some (.inl l24_2), some (.inl l24_3)] [] (SH, dt) (fun r w2 => w2 = (SH, dt) ∧ ((∃ v : Int, r = some (.inl v) ∧ (0 ≤ v ∧ v ≤ 1) ∧ True))) := by
      intro k_
      induction k_ with
      | zero => intro l24_2 l24_3 i93 i94 i95 hm; exact absurd hm (Nat.not_lt_zero _)
      | succ k_ ih_loop96 =>
        intro l24_2 l24_3 i93 i94 i95 hm
        replace i95 := hid i95
        refine go_toq PM156 (k := 2) (pc' := 26) (L' := [some (.inr (.inr (some 79))), some (.inr (.inr (some 1023))), some (.inl l24_2), some (.inl l24_3)]) (st' := [.inr (.inr (some 1023)), .inl l24_3]) (w' := (SH, dt)) rfl ?_
        refine go_callq PM156 PM249 (Q' := _) rfl rfl rfl rfl (sp_J0_length_8abf5_1023 L xs sio (d + 2) dt hI   ) ?_
        rintro _ _ ⟨rfl, h97⟩
        refine ⟨rfl, ?_⟩
        rcases h97 with ⟨rfl, h97⟩
        have j103 :  GO (am_XX L xs sio) (d + 4) 156 67 [some (.inr (.inr (some 79))), some (.inr (.inr (some 1023))), some (.inl l24_2), none] [] (SH, dt) (fun r w2 => w2 = (SH, dt) ∧ ((∃ v : Int, r = some (.inl v) ∧ (0 ≤ v ∧ v ≤ 1) ∧ True))) := by
          skip
          refine go_toq PM156 (k := 1) (pc' := 68) (L' := [some (.inr (.inr (some 79))), some (.inr (.inr (some 1023))), some (.inl l24_2), none]) (st' := [.inl l24_2]) (w' := (SH, dt)) rfl ?_
          refine go_retvq PM156 (v := l24_2) rfl (decide_eq_true (show l24_2 = 0 ∨ l24_2 = 1 by omega)) ?_
          exact ⟨rfl, ⟨_, rfl, ⟨by omega, by omega⟩, trivial⟩⟩
        refine go_ifq PM156 (k := 0) (p1 := 67) (p2 := 32) (L' := [some (.inr (.inr (some 79))), some (.inr (.inr (some 1023))), some (.inl l24_2), some (.inl l24_3)]) (st' := []) (w' := (SH, dt)) rfl (c_ge (a := l24_3) (b := 7) (by first | exact bnd i94 (by decide) (by decide) | exact ⟨by fail, by fail⟩) ⟨by decide, by decide⟩) (fun c104 => ?_) (fun c104 => ?_)
        · skip
          exact GO.le (j103 ) ⟨.inl rfl, .inl rfl, .inl rfl, .inr ⟨rfl, trivial⟩, trivial⟩
        · skip
          refine go_ifq PM156 (k := 1) (p1 := 67) (p2 := 36) (L' := [some (.inr (.inr (some 79))), some (.inr (.inr (some 1023))), some (.inl l24_2), some (.inl l24_3)]) (st' := []) (w' := (SH, dt)) rfl (z_eq (a := l24_2) (by first | exact bnd i93 (by decide) (by decide) | exact ⟨by fail, by fail⟩)) (fun c105 => ?_) (fun c105 => ?_)
          · skip
            exact GO.le (j103 ) ⟨.inl rfl, .inl rfl, .inl rfl, .inr ⟨rfl, trivial⟩, trivial⟩
          · skip
            replace c105 := hid c105
            refine go_toq PM156 (k := 6) (pc' := 46) (L' := [some (.inr (.inr (some 79))), some (.inr (.inr (some 1023))), some (.inl l24_2), some (.inl l24_3)]) (st' := [.inl ((dt 79 15) + l24_3), .inr (.inr (some 85))]) (w' := (SH, dt)) rfl ?_
            have r106 : 0 ≤ dt 85 (((dt 79 15) + l24_3).toNat) ∧ dt 85 (((dt 79 15) + l24_3).toNat) ≤ 255 := InvC_get hI 85 (((dt 79 15) + l24_3).toNat) rfl rfl
            refine go_smpq PM156 (L' := [some (.inr (.inr (some 79))), some (.inr (.inr (some 1023))), some (.inl l24_2), some (.inl l24_3)]) (st' := [.inl (dt 85 (((dt 79 15) + l24_3).toNat))]) (w' := (SH, dt)) rfl rfl (s_iald (n := 500) (f := dt 85) rfl ⟨by omega, by omega⟩) ?_
            refine go_toq PM156 (k := 2) (pc' := 49) (L' := [some (.inr (.inr (some 79))), some (.inr (.inr (some 1023))), some (.inl l24_2), some (.inl l24_3)]) (st' := [.inl l24_3, .inr (.inr (some 1023)), .inl (dt 85 (((dt 79 15) + l24_3).toNat))]) (w' := (SH, dt)) rfl ?_
            refine go_callq PM156 PM250 (Q' := _) rfl rfl rfl rfl (sp_J0_charAt_5068e_1023 L xs sio (d + 0) dt hI  l24_3 (by first | exact bnd i94 (by decide) (by decide) | exact bndd i94 c104 (by decide) (by decide) | exact ⟨by fail, by fail⟩) ) ?_
            rintro _ _ ⟨rfl, h107⟩
            refine ⟨rfl, ?_⟩
            rcases h107 with ⟨v_h107, rfl, h107r, h107⟩
            refine go_ifq PM156 (k := 0) (p1 := 59) (p2 := 55) (L' := [some (.inr (.inr (some 79))), some (.inr (.inr (some 1023))), some (.inl l24_2), some (.inl l24_3)]) (st' := []) (w' := (SH, dt)) rfl (c_ne (a := dt 85 (((dt 79 15) + l24_3).toNat)) (b := v_h107) (by first | exact bnd r106 (by decide) (by decide) | exact ⟨by fail, by fail⟩) (by first | exact bnd h107r (by decide) (by decide) | exact ⟨by fail, by fail⟩)) (fun c109 => ?_) (fun c109 => ?_)
            · skip
              replace c109 := hid c109
              refine go_toq PM156 (k := 4) (pc' := 24) (L' := [some (.inr (.inr (some 79))), some (.inr (.inr (some 1023))), some (.inl 0), some (.inl (l24_3 + 1))]) (st' := []) (w' := (SH, dt)) rfl ?_
              exact GO.le (ih_loop96 0 (l24_3 + 1) ⟨by decide, by decide⟩ (by first | exact bndp i94 (by decide) (by decide) | exact bnde i94 c104 (by decide) (by decide) | fail) (by omega) (by omega)) ⟨.inl rfl, .inl rfl, .inl rfl, .inl rfl, trivial⟩
            · skip
              refine go_toq PM156 (k := 5) (pc' := 24) (L' := [some (.inr (.inr (some 79))), some (.inr (.inr (some 1023))), some (.inl 1), some (.inl (l24_3 + 1))]) (st' := []) (w' := (SH, dt)) rfl ?_
              exact GO.le (ih_loop96 1 (l24_3 + 1) ⟨by decide, by decide⟩ (by first | exact bndp i94 (by decide) (by decide) | exact bnde i94 c104 (by decide) (by decide) | fail) (by omega) (by omega)) ⟨.inl rfl, .inl rfl, .inl rfl, .inl rfl, trivial⟩
    exact GO.le (loop96 _ 1 0 ⟨by decide, by decide⟩ ⟨by decide, by decide⟩ (by omega) (Nat.lt_succ_self _)) ⟨.inl rfl, .inl rfl, .inl rfl, .inl rfl, trivial⟩
