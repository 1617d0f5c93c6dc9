set_option maxRecDepth 20000 in
theorem sp_X6_keeps_g0 (L : Nat) (xs : Nat → Int32) (sio : Option Nat) (d : Nat) (dt : Nat → Nat → Int) (hI : InvC dt)  (p1 : Int) (h_p1 : 0 ≤ p1 ∧ p1 ≤ 7) (h_p0 : dt 79 9 = 0) (h_p1 : 0 ≤ dt 79 10 ∧ dt 79 10 ≤ 24) : GO (am_XX L xs sio) (d) 175 0 [some (.inr (.inr (some 79))), some (.inl p1), none] [] (SH, dt) (fun r w2 => ∃ dt2 : Nat → Nat → Int, w2 = (SH, dt2) ∧ InvC dt2 ∧ Fr [80] dt dt2 ∧ ((r = none ∧ (∀ j : Nat, dt2 80 j = K0 (dt 80) (dt 82) p1 (dt 79 10) (5 * dt 79 10) j)))) := by
  have hF : Fr [80] dt dt := Fr_refl
  have r1 : 0 ≤ dt 79 9 ∧ dt 79 9 ≤ 1 := InvC_get hI 79 9 rfl rfl
  have r2 : 0 ≤ dt 79 10 ∧ dt 79 10 ≤ 24 := InvC_get hI 79 10 rfl rfl
  refine go_ifq PM175 (k := 2) (p1 := 59) (p2 := 7) (L' := [some (.inr (.inr (some 79))), some (.inl p1), none]) (st' := []) (w' := (SH, dt)) rfl (z_ne (a := dt 79 9) (by first | exact bnd r1 (by decide) (by decide) | exact ⟨by fail, by fail⟩)) (fun c3 => ?_) (fun c3 => ?_)
  · skip
    have qc3 : 1 ≤ dt 79 9 := by omega
    replace c3 := hid c3
    exfalso; omega
  · skip
    refine go_toq PM175 (k := 7) (pc' := 19) (L' := [some (.inr (.inr (some 79))), some (.inl p1), none]) (st' := [.inl (dt 79 10), .inl (6 + p1), .inr (.inr (some 80))]) (w' := (SH, dt)) rfl ?_
    have hI4 : InvC (u2 dt 80 ((6 + p1).toNat) (dt 79 10)) := InvC_u2 hI (lo := -2147483648) (hi := 2147483647) rfl rfl rfl (by first | exact bnd1 r2 (by decide) | fail) (by first | exact bnd2 r2 (by decide) | fail)
    have hF5 : Fr [80] dt (u2 dt 80 ((6 + p1).toNat) (dt 79 10)) := Fr_u2 hF (by decide)
    refine go_smpq PM175 (L' := [some (.inr (.inr (some 79))), some (.inl p1), none]) (st' := []) (w' := (SH, (u2 dt 80 ((6 + p1).toNat) (dt 79 10)))) rfl rfl (s_iast (n := 7460) rfl ⟨by omega, by omega⟩ (by first | exact bnd r2 (by decide) (by decide) | exact ⟨by fail, by fail⟩)) ?_
    refine go_toq PM175 (k := 2) (pc' := 22) (L' := [some (.inr (.inr (some 79))), some (.inl p1), some (.inl 0)]) (st' := []) (w' := (SH, (u2 dt 80 ((6 + p1).toNat) (dt 79 10)))) rfl ?_
    have loop17 : ∀ (k_ : Nat) (l22_2 : Int) (dt11 : Nat → Nat → Int) (hI12 : InvC dt11) (hF13 : Fr [80] dt dt11) (i14 : 0 ≤ l22_2 ∧ l22_2 ≤ 120) (i15 : l22_2 ≤ 5 * dt 79 10) (i16 : ∀ j : Nat, dt11 80 j = K0 (dt 80) (dt 82) p1 (dt 79 10) l22_2 j), (121 - l22_2).toNat < k_ → GO (am_XX L xs sio) (d) 175 22 [some (.inr (.inr (some 79))), some (.inl p1), some (.inl l22_2)] [] (SH, dt11) (fun r w2 => ∃ dt2 : Nat → Nat → Int, w2 = (SH, dt2) ∧ InvC dt2 ∧ Fr [80] dt dt2 ∧ ((r = none ∧ (∀ j : Nat, dt2 80 j = K0 (dt 80) (dt 82) p1 (dt 79 10) (5 * dt 79 10) j)))) := by
      intro k_
      induction k_ with
      | zero => intro l22_2 dt11 hI12 hF13 i14 i15 i16 hm; exact absurd hm (Nat.not_lt_zero _)
      | succ k_ ih_loop17 =>
        intro l22_2 dt11 hI12 hF13 i14 i15 i16 hm
        refine go_toq PM175 (k := 3) (pc' := 25) (L' := [some (.inr (.inr (some 79))), some (.inl p1), some (.inl l22_2)]) (st' := [.inr (.inr (some 79)), .inl 5, .inl l22_2]) (w' := (SH, dt11)) rfl ?_
        refine go_smpq PM175 (L' := [some (.inr (.inr (some 79))), some (.inl p1), some (.inl l22_2)]) (st' := [.inl (dt 79 10), .inl 5, .inl l22_2]) (w' := (SH, dt11)) rfl rfl (s_gfc rfl rfl rfl (hF13 79 (by decide) 10)) ?_
        refine go_ifq PM175 (k := 1) (p1 := 58) (p2 := 32) (L' := [some (.inr (.inr (some 79))), some (.inl p1), some (.inl l22_2)]) (st' := []) (w' := (SH, dt11)) rfl (c_ge (a := l22_2) (b := 5 * (dt 79 10)) (by first | exact bnd i14 (by decide) (by decide) | exact ⟨by fail, by fail⟩) ⟨by omega, by omega⟩) (fun c18 => ?_) (fun c18 => ?_)
        · skip
          refine go_retq PM175 (k := 0) (r := none) (w1 := (SH, dt11)) rfl ?_
          exact ⟨dt11, rfl, hI12, hF13, ⟨rfl, by have el_ : l22_2 = 5 * dt 79 10 := (by omega); rw [← el_]; assumption⟩⟩
        · skip
          refine go_toq PM175 (k := 12) (pc' := 50) (L' := [some (.inr (.inr (some 79))), some (.inl p1), some (.inl l22_2)]) (st' := [.inl l22_2, .inr (.inr (some 82)), .inl ((14 + (120 * p1)) + l22_2), .inr (.inr (some 80))]) (w' := (SH, dt11)) rfl ?_
          have r19 : (-2147483648) ≤ dt 82 (l22_2).toNat ∧ dt 82 (l22_2).toNat ≤ 2147483647 := InvC_get hI 82 (l22_2).toNat rfl rfl
          refine go_smpq PM175 (L' := [some (.inr (.inr (some 79))), some (.inl p1), some (.inl l22_2)]) (st' := [.inl (dt 82 (l22_2).toNat), .inl ((14 + (120 * p1)) + l22_2), .inr (.inr (some 80))]) (w' := (SH, dt11)) rfl rfl (s_ev (s_iald (n := 120) (f := dt11 82) rfl (by first | exact bndc i14 c18 (by decide) (by decide) | exact bndx i14 (by decide) (by decide) | exact ⟨by omega, by omega⟩)) (hF13 82 (by decide) _)) ?_
          have hI20 : InvC (u2 dt11 80 (((14 + (120 * p1)) + l22_2).toNat) (dt 82 (l22_2).toNat)) := InvC_u2 hI12 (lo := -2147483648) (hi := 2147483647) rfl rfl rfl (by first | exact bnd1 r19 (by decide) | fail) (by first | exact bnd2 r19 (by decide) | fail)
          have hF21 : Fr [80] dt (u2 dt11 80 (((14 + (120 * p1)) + l22_2).toNat) (dt 82 (l22_2).toNat)) := Fr_u2 hF13 (by decide)
          refine go_smpq PM175 (L' := [some (.inr (.inr (some 79))), some (.inl p1), some (.inl l22_2)]) (st' := []) (w' := (SH, (u2 dt11 80 (((14 + (120 * p1)) + l22_2).toNat) (dt 82 (l22_2).toNat)))) rfl rfl (s_iast (n := 7460) rfl ⟨by omega, by omega⟩ (by first | exact bnd r19 (by decide) (by decide) | exact ⟨by fail, by fail⟩)) ?_
          refine go_toq PM175 (k := 2) (pc' := 22) (L' := [some (.inr (.inr (some 79))), some (.inl p1), some (.inl (l22_2 + 1))]) (st' := []) (w' := (SH, (u2 dt11 80 (((14 + (120 * p1)) + l22_2).toNat) (dt 82 (l22_2).toNat)))) rfl ?_
          exact GO.le (ih_loop17 (l22_2 + 1) (u2 dt11 80 (((14 + (120 * p1)) + l22_2).toNat) (dt 82 (l22_2).toNat)) hI20 hF21 (by first | with_reducible assumption | omega | exact K0_0 (by fail) | exact K0_s (by assumption) (by fail) (by fail) rfl) (by first | with_reducible assumption | omega | exact K0_0 (by fail) | exact K0_s (by assumption) (by fail) (by fail) rfl) (by first | with_reducible assumption | fail | exact K0_0 (by omega) | exact K0_s (by assumption) (by omega) (by omega) rfl) (by omega)) ⟨.inl rfl, .inl rfl, .inl rfl, trivial⟩
    exact GO.le (loop17 _ 0 (u2 dt 80 ((6 + p1).toNat) (dt 79 10)) hI4 hF5 (by first | with_reducible assumption | omega | exact K0_0 (by fail) | exact K0_s (by assumption) (by fail) (by fail) rfl) (by first | with_reducible assumption | omega | exact K0_0 (by fail) | exact K0_s (by assumption) (by fail) (by fail) rfl) (by first | with_reducible assumption | fail | exact K0_0 (by omega) | exact K0_s (by assumption) (by fail) (by fail) rfl) (Nat.lt_succ_self _)) ⟨.inl rfl, .inl rfl, .inl rfl, trivial⟩
set_option maxRecDepth 20000 in
theorem sp_X6_keeps_g1 (L : Nat) (xs : Nat → Int32) (sio : Option Nat) (d : Nat) (dt : Nat → Nat → Int) (hI : InvC dt)  (p1 : Int) (h_p1 : 0 ≤ p1 ∧ p1 ≤ 3) (h_p0 : dt 79 9 = 1) (h_p1 : 0 ≤ dt 79 10 ∧ dt 79 10 ≤ 16) (h_p2 : 0 ≤ dt 79 11 ∧ dt 79 11 ≤ 510) : GO (am_XX L xs sio) (d) 175 0 [some (.inr (.inr (some 79))), some (.inl p1), none] [] (SH, dt) (fun r w2 => ∃ dt2 : Nat → Nat → Int, w2 = (SH, dt2) ∧ InvC dt2 ∧ Fr [80] dt dt2 ∧ ((r = none ∧ (∀ j : Nat, j < 974 → dt2 80 j = dt 80 j)))) := by
  have hF : Fr [80] dt dt := Fr_refl
  have r1 : 0 ≤ dt 79 9 ∧ dt 79 9 ≤ 1 := InvC_get hI 79 9 rfl rfl
  have r2 : 0 ≤ dt 79 10 ∧ dt 79 10 ≤ 24 := InvC_get hI 79 10 rfl rfl
  have r3 : 0 ≤ dt 79 11 ∧ dt 79 11 ≤ 510 := InvC_get hI 79 11 rfl rfl
  refine go_ifq PM175 (k := 2) (p1 := 59) (p2 := 7) (L' := [some (.inr (.inr (some 79))), some (.inl p1), none]) (st' := []) (w' := (SH, dt)) rfl (z_ne (a := dt 79 9) (by first | exact bnd r1 (by decide) (by decide) | exact ⟨by omega, by omega⟩)) (fun c4 => ?_) (fun c4 => ?_)
  · skip
    have qc4 : 1 ≤ dt 79 9 := by omega
    replace c4 := hid c4
    refine go_toq PM175 (k := 7) (pc' := 72) (L' := [some (.inr (.inr (some 79))), some (.inl p1), none]) (st' := [.inl (dt 79 10), .inl (974 + p1), .inr (.inr (some 80))]) (w' := (SH, dt)) rfl ?_
    have hI5 : InvC (u2 dt 80 ((974 + p1).toNat) (dt 79 10)) := InvC_u2 hI (lo := -2147483648) (hi := 2147483647) rfl rfl rfl (by first | exact bnd1 r2 (by decide) | (first | omega | (have z0_ := unhid c4; omega))) (by first | exact bnd2 r2 (by decide) | (first | omega | (have z0_ := unhid c4; omega)))
    have hF6 : Fr [80] dt (u2 dt 80 ((974 + p1).toNat) (dt 79 10)) := Fr_u2 hF (by decide)
    refine go_smpq PM175 (L' := [some (.inr (.inr (some 79))), some (.inl p1), none]) (st' := []) (w' := (SH, (u2 dt 80 ((974 + p1).toNat) (dt 79 10)))) rfl rfl (s_iast (n := 7460) rfl ⟨by (first | omega | (have z0_ := unhid c4; omega)), by (first | omega | (have z0_ := unhid c4; omega))⟩ (by first | exact bnd r2 (by decide) (by decide) | exact ⟨by (first | omega | (have z0_ := unhid c4; omega)), by (first | omega | (have z0_ := unhid c4; omega))⟩)) ?_
    refine go_toq PM175 (k := 2) (pc' := 75) (L' := [some (.inr (.inr (some 79))), some (.inl p1), some (.inl 0)]) (st' := []) (w' := (SH, (u2 dt 80 ((974 + p1).toNat) (dt 79 10)))) rfl ?_
    have loop27 : ∀ (k_ : Nat) (l75_2 : Int) (dt21 : Nat → Nat → Int) (hI22 : InvC dt21) (hF23 : Fr [80] dt dt21) (i24 : 0 ≤ l75_2 ∧ l75_2 ≤ 16) (i25 : l75_2 ≤ dt 79 10) (i26 : ∀ j : Nat, j < 974 → dt21 80 j = dt 80 j), (17 - l75_2).toNat < k_ → GO (am_XX L xs sio) (d) 175 75 [some (.inr (.inr (some 79))), some (.inl p1), some (.inl l75_2)] [] (SH, dt21) (fun r w2 => ∃ dt2 : Nat → Nat → Int, w2 = (SH, dt2) ∧ InvC dt2 ∧ Fr [80] dt dt2 ∧ ((r = none ∧ (∀ j : Nat, j < 974 → dt2 80 j = dt 80 j)))) := by
      intro k_
      induction k_ with
      | zero => intro l75_2 dt21 hI22 hF23 i24 i25 i26 hm; exact absurd hm (Nat.not_lt_zero _)
      | succ k_ ih_loop27 =>
        intro l75_2 dt21 hI22 hF23 i24 i25 i26 hm
        have qU0 := i26
        refine go_toq PM175 (k := 2) (pc' := 77) (L' := [some (.inr (.inr (some 79))), some (.inl p1), some (.inl l75_2)]) (st' := [.inr (.inr (some 79)), .inl l75_2]) (w' := (SH, dt21)) rfl ?_
        refine go_smpq PM175 (L' := [some (.inr (.inr (some 79))), some (.inl p1), some (.inl l75_2)]) (st' := [.inl (dt 79 10), .inl l75_2]) (w' := (SH, dt21)) rfl rfl (s_gfc rfl rfl rfl (hF23 79 (by decide) 10)) ?_
        refine go_ifq PM175 (k := 0) (p1 := 187) (p2 := 83) (L' := [some (.inr (.inr (some 79))), some (.inl p1), some (.inl l75_2)]) (st' := []) (w' := (SH, dt21)) rfl (c_ge (a := l75_2) (b := dt 79 10) (by first | exact bnd i24 (by decide) (by decide) | exact ⟨by (first | omega | (have z0_ := unhid c4; omega)), by (first | omega | (have z0_ := unhid c4; omega))⟩) (by first | exact bnd r2 (by decide) (by decide) | exact ⟨by (first | omega | (have z0_ := unhid c4; omega)), by (first | omega | (have z0_ := unhid c4; omega))⟩)) (fun c28 => ?_) (fun c28 => ?_)
        · skip
          refine go_toq PM175 (k := 2) (pc' := 189) (L' := [some (.inr (.inr (some 79))), some (.inl p1), some (.inl 0)]) (st' := []) (w' := (SH, dt21)) rfl ?_
          have loop40 : ∀ (k_ : Nat) (l189_2 : Int) (dt34 : Nat → Nat → Int) (hI35 : InvC dt34) (hF36 : Fr [80] dt dt34) (i37 : 0 ≤ l189_2 ∧ l189_2 ≤ 1020) (i38 : l189_2 ≤ 2 * dt 79 11) (i39 : ∀ j : Nat, j < 974 → dt34 80 j = dt 80 j), (1021 - l189_2).toNat < k_ → GO (am_XX L xs sio) (d) 175 189 [some (.inr (.inr (some 79))), some (.inl p1), some (.inl l189_2)] [] (SH, dt34) (fun r w2 => ∃ dt2 : Nat → Nat → Int, w2 = (SH, dt2) ∧ InvC dt2 ∧ Fr [80] dt dt2 ∧ ((r = none ∧ (∀ j : Nat, j < 974 → dt2 80 j = dt 80 j)))) := by
            intro k_
            induction k_ with
            | zero => intro l189_2 dt34 hI35 hF36 i37 i38 i39 hm; exact absurd hm (Nat.not_lt_zero _)
            | succ k_ ih_loop40 =>
              intro l189_2 dt34 hI35 hF36 i37 i38 i39 hm
              have qU := i39
              refine go_toq PM175 (k := 3) (pc' := 192) (L' := [some (.inr (.inr (some 79))), some (.inl p1), some (.inl l189_2)]) (st' := [.inr (.inr (some 79)), .inl 2, .inl l189_2]) (w' := (SH, dt34)) rfl ?_
              refine go_smpq PM175 (L' := [some (.inr (.inr (some 79))), some (.inl p1), some (.inl l189_2)]) (st' := [.inl (dt 79 11), .inl 2, .inl l189_2]) (w' := (SH, dt34)) rfl rfl (s_gfc rfl rfl rfl (hF36 79 (by decide) 11)) ?_
              refine go_ifq PM175 (k := 1) (p1 := 227) (p2 := 199) (L' := [some (.inr (.inr (some 79))), some (.inl p1), some (.inl l189_2)]) (st' := []) (w' := (SH, dt34)) rfl (c_ge (a := l189_2) (b := 2 * (dt 79 11)) (by first | exact bnd i37 (by decide) (by decide) | exact ⟨by (first | omega | (have z0_ := unhid c4; omega)), by (first | omega | (have z0_ := unhid c4; omega))⟩) ⟨by (first | omega | (have z0_ := unhid c4; omega)), by (first | omega | (have z0_ := unhid c4; omega))⟩) (fun c41 => ?_) (fun c41 => ?_)
              · skip
                refine go_retq PM175 (k := 0) (r := none) (w1 := (SH, dt34)) rfl ?_
                exact ⟨dt34, rfl, hI35, hF36, ⟨rfl, by exact qU⟩⟩
              · skip
                refine go_toq PM175 (k := 12) (pc' := 219) (L' := [some (.inr (.inr (some 79))), some (.inl p1), some (.inl l189_2)]) (st' := [.inl l189_2, .inr (.inr (some 84)), .inl ((1240 + (1020 * p1)) + l189_2), .inr (.inr (some 80))]) (w' := (SH, dt34)) rfl ?_
                have r42 : (-2147483648) ≤ dt 84 (l189_2).toNat ∧ dt 84 (l189_2).toNat ≤ 2147483647 := InvC_get hI 84 (l189_2).toNat rfl rfl
                refine go_smpq PM175 (L' := [some (.inr (.inr (some 79))), some (.inl p1), some (.inl l189_2)]) (st' := [.inl (dt 84 (l189_2).toNat), .inl ((1240 + (1020 * p1)) + l189_2), .inr (.inr (some 80))]) (w' := (SH, dt34)) rfl rfl (s_ev (s_iald (n := 1020) (f := dt34 84) rfl (by first | exact bndc i37 c41 (by decide) (by decide) | exact bndx i37 (by decide) (by decide) | exact ⟨by (first | omega | (have z0_ := unhid c4; omega)), by (first | omega | (have z0_ := unhid c4; omega))⟩)) (hF36 84 (by decide) _)) ?_
                have hI43 : InvC (u2 dt34 80 (((1240 + (1020 * p1)) + l189_2).toNat) (dt 84 (l189_2).toNat)) := InvC_u2 hI35 (lo := -2147483648) (hi := 2147483647) rfl rfl rfl (by first | exact bnd1 r42 (by decide) | (first | omega | (have z0_ := unhid c4; omega))) (by first | exact bnd2 r42 (by decide) | (first | omega | (have z0_ := unhid c4; omega)))
                have hF44 : Fr [80] dt (u2 dt34 80 (((1240 + (1020 * p1)) + l189_2).toNat) (dt 84 (l189_2).toNat)) := Fr_u2 hF36 (by decide)
                refine go_smpq PM175 (L' := [some (.inr (.inr (some 79))), some (.inl p1), some (.inl l189_2)]) (st' := []) (w' := (SH, (u2 dt34 80 (((1240 + (1020 * p1)) + l189_2).toNat) (dt 84 (l189_2).toNat)))) rfl rfl (s_iast (n := 7460) rfl ⟨by (first | omega | (have z0_ := unhid c4; omega)), by (first | omega | (have z0_ := unhid c4; omega))⟩ (by first | exact bnd r42 (by decide) (by decide) | exact ⟨by (first | omega | (have z0_ := unhid c4; omega)), by (first | omega | (have z0_ := unhid c4; omega))⟩)) ?_
                refine go_toq PM175 (k := 2) (pc' := 189) (L' := [some (.inr (.inr (some 79))), some (.inl p1), some (.inl (l189_2 + 1))]) (st' := []) (w' := (SH, (u2 dt34 80 (((1240 + (1020 * p1)) + l189_2).toNat) (dt 84 (l189_2).toNat)))) rfl ?_
                exact GO.le (ih_loop40 (l189_2 + 1) (u2 dt34 80 (((1240 + (1020 * p1)) + l189_2).toNat) (dt 84 (l189_2).toNat)) hI43 hF44 (by first | (first | omega | (have z0_ := unhid c4; omega)) | (intro j hj; (repeat rw [u2_ne (by (first | omega | (have z0_ := unhid c4; omega)))]); done) | (intro j hj; (repeat rw [u2_ne (by (first | omega | (have z0_ := unhid c4; omega)))]); first | exact qU j hj | exact qU0 j hj)) (by first | (first | omega | (have z0_ := unhid c4; omega)) | (intro j hj; (repeat rw [u2_ne (by (first | omega | (have z0_ := unhid c4; omega)))]); done) | (intro j hj; (repeat rw [u2_ne (by (first | omega | (have z0_ := unhid c4; omega)))]); first | exact qU j hj | exact qU0 j hj)) (by first | (first | omega | (have z0_ := unhid c4; omega)) | (intro j hj; (repeat rw [u2_ne (by (first | omega | (have z0_ := unhid c4; omega)))]); done) | (intro j hj; (repeat rw [u2_ne (by (first | omega | (have z0_ := unhid c4; omega)))]); first | exact qU j hj | exact qU0 j hj)) (by (first | omega | (have z0_ := unhid c4; omega)))) ⟨.inl rfl, .inl rfl, .inl rfl, trivial⟩
          exact GO.le (loop40 _ 0 dt21 hI22 hF23 (by first | (first | omega | (have z0_ := unhid c4; omega)) | (intro j hj; (repeat rw [u2_ne (by (first | omega | (have z0_ := unhid c4; omega)))]); done) | (intro j hj; (repeat rw [u2_ne (by (first | omega | (have z0_ := unhid c4; omega)))]); first | exact qU j hj | exact qU0 j hj)) (by first | (first | omega | (have z0_ := unhid c4; omega)) | (intro j hj; (repeat rw [u2_ne (by (first | omega | (have z0_ := unhid c4; omega)))]); done) | (intro j hj; (repeat rw [u2_ne (by (first | omega | (have z0_ := unhid c4; omega)))]); first | exact qU j hj | exact qU0 j hj)) (by first | (first | omega | (have z0_ := unhid c4; omega)) | (intro j hj; (repeat rw [u2_ne (by (first | omega | (have z0_ := unhid c4; omega)))]); done) | (intro j hj; (repeat rw [u2_ne (by (first | omega | (have z0_ := unhid c4; omega)))]); first | exact qU j hj | exact qU0 j hj)) (Nat.lt_succ_self _)) ⟨.inl rfl, .inl rfl, .inl rfl, trivial⟩
        · skip
          refine go_toq PM175 (k := 14) (pc' := 104) (L' := [some (.inr (.inr (some 79))), some (.inl p1), some (.inl l75_2)]) (st' := [.inl (4 * l75_2), .inr (.inr (some 83)), .inl ((978 + (16 * p1)) + l75_2), .inr (.inr (some 80))]) (w' := (SH, dt21)) rfl ?_
          have r45 : (-2147483648) ≤ dt 83 ((4 * l75_2).toNat) ∧ dt 83 ((4 * l75_2).toNat) ≤ 2147483647 := InvC_get hI 83 ((4 * l75_2).toNat) rfl rfl
          refine go_smpq PM175 (L' := [some (.inr (.inr (some 79))), some (.inl p1), some (.inl l75_2)]) (st' := [.inl (dt 83 ((4 * l75_2).toNat)), .inl ((978 + (16 * p1)) + l75_2), .inr (.inr (some 80))]) (w' := (SH, dt21)) rfl rfl (s_ev (s_iald (n := 64) (f := dt21 83) rfl ⟨by (first | omega | (have z0_ := unhid c4; omega)), by (first | omega | (have z0_ := unhid c4; omega))⟩) (hF23 83 (by decide) _)) ?_
          have hI46 : InvC (u2 dt21 80 (((978 + (16 * p1)) + l75_2).toNat) (dt 83 ((4 * l75_2).toNat))) := InvC_u2 hI22 (lo := -2147483648) (hi := 2147483647) rfl rfl rfl (by first | exact bnd1 r45 (by decide) | (first | omega | (have z0_ := unhid c4; omega))) (by first | exact bnd2 r45 (by decide) | (first | omega | (have z0_ := unhid c4; omega)))
          have hF47 : Fr [80] dt (u2 dt21 80 (((978 + (16 * p1)) + l75_2).toNat) (dt 83 ((4 * l75_2).toNat))) := Fr_u2 hF23 (by decide)
          refine go_smpq PM175 (L' := [some (.inr (.inr (some 79))), some (.inl p1), some (.inl l75_2)]) (st' := []) (w' := (SH, (u2 dt21 80 (((978 + (16 * p1)) + l75_2).toNat) (dt 83 ((4 * l75_2).toNat))))) rfl rfl (s_iast (n := 7460) rfl ⟨by (first | omega | (have z0_ := unhid c4; omega)), by (first | omega | (have z0_ := unhid c4; omega))⟩ (by first | exact bnd r45 (by decide) (by decide) | exact ⟨by (first | omega | (have z0_ := unhid c4; omega)), by (first | omega | (have z0_ := unhid c4; omega))⟩)) ?_
          refine go_toq PM175 (k := 16) (pc' := 129) (L' := [some (.inr (.inr (some 79))), some (.inl p1), some (.inl l75_2)]) (st' := [.inl ((4 * l75_2) + 1), .inr (.inr (some 83)), .inl ((1042 + (16 * p1)) + l75_2), .inr (.inr (some 80))]) (w' := (SH, (u2 dt21 80 (((978 + (16 * p1)) + l75_2).toNat) (dt 83 ((4 * l75_2).toNat))))) rfl ?_
          have r48 : (-2147483648) ≤ dt 83 (((4 * l75_2) + 1).toNat) ∧ dt 83 (((4 * l75_2) + 1).toNat) ≤ 2147483647 := InvC_get hI 83 (((4 * l75_2) + 1).toNat) rfl rfl
          refine go_smpq PM175 (L' := [some (.inr (.inr (some 79))), some (.inl p1), some (.inl l75_2)]) (st' := [.inl (dt 83 (((4 * l75_2) + 1).toNat)), .inl ((1042 + (16 * p1)) + l75_2), .inr (.inr (some 80))]) (w' := (SH, (u2 dt21 80 (((978 + (16 * p1)) + l75_2).toNat) (dt 83 ((4 * l75_2).toNat))))) rfl rfl (s_ev (s_iald (n := 64) (f := (u2 dt21 80 (((978 + (16 * p1)) + l75_2).toNat) (dt 83 ((4 * l75_2).toNat))) 83) rfl ⟨by (first | omega | (have z0_ := unhid c4; omega)), by (first | omega | (have z0_ := unhid c4; omega))⟩) (hF47 83 (by decide) _)) ?_
          have hI49 : InvC (u2 (u2 dt21 80 (((978 + (16 * p1)) + l75_2).toNat) (dt 83 ((4 * l75_2).toNat))) 80 (((1042 + (16 * p1)) + l75_2).toNat) (dt 83 (((4 * l75_2) + 1).toNat))) := InvC_u2 hI46 (lo := -2147483648) (hi := 2147483647) rfl rfl rfl (by first | exact bnd1 r48 (by decide) | (first | omega | (have z0_ := unhid c4; omega))) (by first | exact bnd2 r48 (by decide) | (first | omega | (have z0_ := unhid c4; omega)))
          have hF50 : Fr [80] dt (u2 (u2 dt21 80 (((978 + (16 * p1)) + l75_2).toNat) (dt 83 ((4 * l75_2).toNat))) 80 (((1042 + (16 * p1)) + l75_2).toNat) (dt 83 (((4 * l75_2) + 1).toNat))) := Fr_u2 hF47 (by decide)
          refine go_smpq PM175 (L' := [some (.inr (.inr (some 79))), some (.inl p1), some (.inl l75_2)]) (st' := []) (w' := (SH, (u2 (u2 dt21 80 (((978 + (16 * p1)) + l75_2).toNat) (dt 83 ((4 * l75_2).toNat))) 80 (((1042 + (16 * p1)) + l75_2).toNat) (dt 83 (((4 * l75_2) + 1).toNat))))) rfl rfl (s_iast (n := 7460) rfl ⟨by (first | omega | (have z0_ := unhid c4; omega)), by (first | omega | (have z0_ := unhid c4; omega))⟩ (by first | exact bnd r48 (by decide) (by decide) | exact ⟨by (first | omega | (have z0_ := unhid c4; omega)), by (first | omega | (have z0_ := unhid c4; omega))⟩)) ?_
          refine go_toq PM175 (k := 16) (pc' := 154) (L' := [some (.inr (.inr (some 79))), some (.inl p1), some (.inl l75_2)]) (st' := [.inl ((4 * l75_2) + 2), .inr (.inr (some 83)), .inl ((1106 + (16 * p1)) + l75_2), .inr (.inr (some 80))]) (w' := (SH, (u2 (u2 dt21 80 (((978 + (16 * p1)) + l75_2).toNat) (dt 83 ((4 * l75_2).toNat))) 80 (((1042 + (16 * p1)) + l75_2).toNat) (dt 83 (((4 * l75_2) + 1).toNat))))) rfl ?_
          have r51 : (-2147483648) ≤ dt 83 (((4 * l75_2) + 2).toNat) ∧ dt 83 (((4 * l75_2) + 2).toNat) ≤ 2147483647 := InvC_get hI 83 (((4 * l75_2) + 2).toNat) rfl rfl
          refine go_smpq PM175 (L' := [some (.inr (.inr (some 79))), some (.inl p1), some (.inl l75_2)]) (st' := [.inl (dt 83 (((4 * l75_2) + 2).toNat)), .inl ((1106 + (16 * p1)) + l75_2), .inr (.inr (some 80))]) (w' := (SH, (u2 (u2 dt21 80 (((978 + (16 * p1)) + l75_2).toNat) (dt 83 ((4 * l75_2).toNat))) 80 (((1042 + (16 * p1)) + l75_2).toNat) (dt 83 (((4 * l75_2) + 1).toNat))))) rfl rfl (s_ev (s_iald (n := 64) (f := (u2 (u2 dt21 80 (((978 + (16 * p1)) + l75_2).toNat) (dt 83 ((4 * l75_2).toNat))) 80 (((1042 + (16 * p1)) + l75_2).toNat) (dt 83 (((4 * l75_2) + 1).toNat))) 83) rfl ⟨by (first | omega | (have z0_ := unhid c4; omega)), by (first | omega | (have z0_ := unhid c4; omega))⟩) (hF50 83 (by decide) _)) ?_
          have hI52 : InvC (u2 (u2 (u2 dt21 80 (((978 + (16 * p1)) + l75_2).toNat) (dt 83 ((4 * l75_2).toNat))) 80 (((1042 + (16 * p1)) + l75_2).toNat) (dt 83 (((4 * l75_2) + 1).toNat))) 80 (((1106 + (16 * p1)) + l75_2).toNat) (dt 83 (((4 * l75_2) + 2).toNat))) := InvC_u2 hI49 (lo := -2147483648) (hi := 2147483647) rfl rfl rfl (by first | exact bnd1 r51 (by decide) | (first | omega | (have z0_ := unhid c4; omega))) (by first | exact bnd2 r51 (by decide) | (first | omega | (have z0_ := unhid c4; omega)))
          have hF53 : Fr [80] dt (u2 (u2 (u2 dt21 80 (((978 + (16 * p1)) + l75_2).toNat) (dt 83 ((4 * l75_2).toNat))) 80 (((1042 + (16 * p1)) + l75_2).toNat) (dt 83 (((4 * l75_2) + 1).toNat))) 80 (((1106 + (16 * p1)) + l75_2).toNat) (dt 83 (((4 * l75_2) + 2).toNat))) := Fr_u2 hF50 (by decide)
          refine go_smpq PM175 (L' := [some (.inr (.inr (some 79))), some (.inl p1), some (.inl l75_2)]) (st' := []) (w' := (SH, (u2 (u2 (u2 dt21 80 (((978 + (16 * p1)) + l75_2).toNat) (dt 83 ((4 * l75_2).toNat))) 80 (((1042 + (16 * p1)) + l75_2).toNat) (dt 83 (((4 * l75_2) + 1).toNat))) 80 (((1106 + (16 * p1)) + l75_2).toNat) (dt 83 (((4 * l75_2) + 2).toNat))))) rfl rfl (s_iast (n := 7460) rfl ⟨by (first | omega | (have z0_ := unhid c4; omega)), by (first | omega | (have z0_ := unhid c4; omega))⟩ (by first | exact bnd r51 (by decide) (by decide) | exact ⟨by (first | omega | (have z0_ := unhid c4; omega)), by (first | omega | (have z0_ := unhid c4; omega))⟩)) ?_
          refine go_toq PM175 (k := 16) (pc' := 179) (L' := [some (.inr (.inr (some 79))), some (.inl p1), some (.inl l75_2)]) (st' := [.inl ((4 * l75_2) + 3), .inr (.inr (some 83)), .inl ((1170 + (16 * p1)) + l75_2), .inr (.inr (some 80))]) (w' := (SH, (u2 (u2 (u2 dt21 80 (((978 + (16 * p1)) + l75_2).toNat) (dt 83 ((4 * l75_2).toNat))) 80 (((1042 + (16 * p1)) + l75_2).toNat) (dt 83 (((4 * l75_2) + 1).toNat))) 80 (((1106 + (16 * p1)) + l75_2).toNat) (dt 83 (((4 * l75_2) + 2).toNat))))) rfl ?_
          have r54 : (-2147483648) ≤ dt 83 (((4 * l75_2) + 3).toNat) ∧ dt 83 (((4 * l75_2) + 3).toNat) ≤ 2147483647 := InvC_get hI 83 (((4 * l75_2) + 3).toNat) rfl rfl
          refine go_smpq PM175 (L' := [some (.inr (.inr (some 79))), some (.inl p1), some (.inl l75_2)]) (st' := [.inl (dt 83 (((4 * l75_2) + 3).toNat)), .inl ((1170 + (16 * p1)) + l75_2), .inr (.inr (some 80))]) (w' := (SH, (u2 (u2 (u2 dt21 80 (((978 + (16 * p1)) + l75_2).toNat) (dt 83 ((4 * l75_2).toNat))) 80 (((1042 + (16 * p1)) + l75_2).toNat) (dt 83 (((4 * l75_2) + 1).toNat))) 80 (((1106 + (16 * p1)) + l75_2).toNat) (dt 83 (((4 * l75_2) + 2).toNat))))) rfl rfl (s_ev (s_iald (n := 64) (f := (u2 (u2 (u2 dt21 80 (((978 + (16 * p1)) + l75_2).toNat) (dt 83 ((4 * l75_2).toNat))) 80 (((1042 + (16 * p1)) + l75_2).toNat) (dt 83 (((4 * l75_2) + 1).toNat))) 80 (((1106 + (16 * p1)) + l75_2).toNat) (dt 83 (((4 * l75_2) + 2).toNat))) 83) rfl ⟨by (first | omega | (have z0_ := unhid c4; omega)), by (first | omega | (have z0_ := unhid c4; omega))⟩) (hF53 83 (by decide) _)) ?_
          have hI55 : InvC (u2 (u2 (u2 (u2 dt21 80 (((978 + (16 * p1)) + l75_2).toNat) (dt 83 ((4 * l75_2).toNat))) 80 (((1042 + (16 * p1)) + l75_2).toNat) (dt 83 (((4 * l75_2) + 1).toNat))) 80 (((1106 + (16 * p1)) + l75_2).toNat) (dt 83 (((4 * l75_2) + 2).toNat))) 80 (((1170 + (16 * p1)) + l75_2).toNat) (dt 83 (((4 * l75_2) + 3).toNat))) := InvC_u2 hI52 (lo := -2147483648) (hi := 2147483647) rfl rfl rfl (by first | exact bnd1 r54 (by decide) | (first | omega | (have z0_ := unhid c4; omega))) (by first | exact bnd2 r54 (by decide) | (first | omega | (have z0_ := unhid c4; omega)))
          have hF56 : Fr [80] dt (u2 (u2 (u2 (u2 dt21 80 (((978 + (16 * p1)) + l75_2).toNat) (dt 83 ((4 * l75_2).toNat))) 80 (((1042 + (16 * p1)) + l75_2).toNat) (dt 83 (((4 * l75_2) + 1).toNat))) 80 (((1106 + (16 * p1)) + l75_2).toNat) (dt 83 (((4 * l75_2) + 2).toNat))) 80 (((1170 + (16 * p1)) + l75_2).toNat) (dt 83 (((4 * l75_2) + 3).toNat))) := Fr_u2 hF53 (by decide)
          refine go_smpq PM175 (L' := [some (.inr (.inr (some 79))), some (.inl p1), some (.inl l75_2)]) (st' := []) (w' := (SH, (u2 (u2 (u2 (u2 dt21 80 (((978 + (16 * p1)) + l75_2).toNat) (dt 83 ((4 * l75_2).toNat))) 80 (((1042 + (16 * p1)) + l75_2).toNat) (dt 83 (((4 * l75_2) + 1).toNat))) 80 (((1106 + (16 * p1)) + l75_2).toNat) (dt 83 (((4 * l75_2) + 2).toNat))) 80 (((1170 + (16 * p1)) + l75_2).toNat) (dt 83 (((4 * l75_2) + 3).toNat))))) rfl rfl (s_iast (n := 7460) rfl ⟨by (first | omega | (have z0_ := unhid c4; omega)), by (first | omega | (have z0_ := unhid c4; omega))⟩ (by first | exact bnd r54 (by decide) (by decide) | exact ⟨by (first | omega | (have z0_ := unhid c4; omega)), by (first | omega | (have z0_ := unhid c4; omega))⟩)) ?_
          refine go_toq PM175 (k := 2) (pc' := 75) (L' := [some (.inr (.inr (some 79))), some (.inl p1), some (.inl (l75_2 + 1))]) (st' := []) (w' := (SH, (u2 (u2 (u2 (u2 dt21 80 (((978 + (16 * p1)) + l75_2).toNat) (dt 83 ((4 * l75_2).toNat))) 80 (((1042 + (16 * p1)) + l75_2).toNat) (dt 83 (((4 * l75_2) + 1).toNat))) 80 (((1106 + (16 * p1)) + l75_2).toNat) (dt 83 (((4 * l75_2) + 2).toNat))) 80 (((1170 + (16 * p1)) + l75_2).toNat) (dt 83 (((4 * l75_2) + 3).toNat))))) rfl ?_
          exact GO.le (ih_loop27 (l75_2 + 1) (u2 (u2 (u2 (u2 dt21 80 (((978 + (16 * p1)) + l75_2).toNat) (dt 83 ((4 * l75_2).toNat))) 80 (((1042 + (16 * p1)) + l75_2).toNat) (dt 83 (((4 * l75_2) + 1).toNat))) 80 (((1106 + (16 * p1)) + l75_2).toNat) (dt 83 (((4 * l75_2) + 2).toNat))) 80 (((1170 + (16 * p1)) + l75_2).toNat) (dt 83 (((4 * l75_2) + 3).toNat))) hI55 hF56 (by first | (first | omega | (have z0_ := unhid c4; omega)) | (intro j hj; (repeat rw [u2_ne (by (first | omega | (have z0_ := unhid c4; omega)))]); done) | (intro j hj; (repeat rw [u2_ne (by (first | omega | (have z0_ := unhid c4; omega)))]); exact qU0 j hj)) (by first | (first | omega | (have z0_ := unhid c4; omega)) | (intro j hj; (repeat rw [u2_ne (by (first | omega | (have z0_ := unhid c4; omega)))]); done) | (intro j hj; (repeat rw [u2_ne (by (first | omega | (have z0_ := unhid c4; omega)))]); exact qU0 j hj)) (by first | (first | omega | (have z0_ := unhid c4; omega)) | (intro j hj; (repeat rw [u2_ne (by (first | omega | (have z0_ := unhid c4; omega)))]); done) | (intro j hj; (repeat rw [u2_ne (by (first | omega | (have z0_ := unhid c4; omega)))]); exact qU0 j hj)) (by (first | omega | (have z0_ := unhid c4; omega)))) ⟨.inl rfl, .inl rfl, .inl rfl, trivial⟩
    exact GO.le (loop27 _ 0 (u2 dt 80 ((974 + p1).toNat) (dt 79 10)) hI5 hF6 (by first | (first | omega | (have z0_ := unhid c4; omega)) | (intro j hj; (repeat rw [u2_ne (by (first | omega | (have z0_ := unhid c4; omega)))]); done) | (intro j hj; (repeat rw [u2_ne (by (first | omega | (have z0_ := unhid c4; omega)))]); exact qU0 j hj)) (by first | (first | omega | (have z0_ := unhid c4; omega)) | (intro j hj; (repeat rw [u2_ne (by (first | omega | (have z0_ := unhid c4; omega)))]); done) | (intro j hj; (repeat rw [u2_ne (by (first | omega | (have z0_ := unhid c4; omega)))]); exact qU0 j hj)) (by first | (first | omega | (have z0_ := unhid c4; omega)) | (intro j hj; (repeat rw [u2_ne (by (first | omega | (have z0_ := unhid c4; omega)))]); done) | (intro j hj; (repeat rw [u2_ne (by (first | omega | (have z0_ := unhid c4; omega)))]); exact qU0 j hj)) (Nat.lt_succ_self _)) ⟨.inl rfl, .inl rfl, .inl rfl, trivial⟩
  · skip
    exfalso; omega
set_option maxHeartbeats 1500000 in
set_option maxRecDepth 20000 in
theorem sp_X6_text_g0 (L : Nat) (xs : Nat → Int32) (sio : Option Nat) (d : Nat) (dt : Nat → Nat → Int) (hI : InvC dt)  (p2 : Int) (h_p2 : (-2147483648) ≤ p2 ∧ p2 ≤ 2147483647)  : GO (am_XX L xs sio) (d + 38) 174 0 [some (.inr (.inr (some 79))), some (.inl 0), some (.inl p2), none] [] (SH, dt) (fun r w2 => ∃ dt2 : Nat → Nat → Int, w2 = (SH, dt2) ∧ InvC dt2 ∧ Fr [79, 80, 82, 83, 84] dt dt2 ∧ ((∃ v : Int, r = some (.inl v) ∧ ((-1) ≤ v ∧ v ≤ 24) ∧ (dt2 79 12 = 0) ∧ (dt2 79 2 = dt 79 2) ∧ (TRS 0 p2 (mB (dt 85) (dt 79 12)) (dt 79 12).toNat v (dt2 79 19) (dt2 79 21)) ∧ (TSR 0 p2 (mB (dt 85) (dt 79 12)) (dt 79 12).toNat (dt2 79 19) v (dt 80) (dt2 80))))) := by
  have hF : Fr [79, 80, 82, 83, 84] dt dt := Fr_refl
  have r1 : 0 ≤ dt 79 15 ∧ dt 79 15 ≤ 500 := InvC_get hI 79 15 rfl rfl
  have r2 : 0 ≤ dt 79 11 ∧ dt 79 11 ≤ 510 := InvC_get hI 79 11 rfl rfl
  have r3 : 0 ≤ dt 79 10 ∧ dt 79 10 ≤ 24 := InvC_get hI 79 10 rfl rfl
  have r4 : 0 ≤ dt 79 12 ∧ dt 79 12 ≤ 500 := InvC_get hI 79 12 rfl rfl
  have hz : KZ (KF 0 (mB (dt 85) (dt 79 12)) (dt 79 12).toNat) (dt 79 12).toNat := KF_z TP_n
  have hn5 : (dt 79 12).toNat ≤ 500 := by omega
  refine go_toq PM174 (k := 2) (pc' := 2) (L' := [some (.inr (.inr (some 79))), some (.inl 0), some (.inl p2), none]) (st' := [.inl 0, .inr (.inr (some 79))]) (w' := (SH, dt)) rfl ?_
  have hI5 : InvC (u2 dt 79 17 0) := InvC_u2 hI (lo := -2147483648) (hi := 2147483647) rfl rfl rfl (by decide) (by decide)
  have hF6 : Fr [79, 80, 82, 83, 84] dt (u2 dt 79 17 0) := Fr_u2 hF (by decide)
  have w7 : (u2 dt 79 17 0) 79 2 = dt 79 2 := rfl
  have w8 : (u2 dt 79 17 0) 79 9 = dt 79 9 := rfl
  have w9 : (u2 dt 79 17 0) 79 10 = dt 79 10 := rfl
  have w10 : (u2 dt 79 17 0) 79 11 = dt 79 11 := rfl
  have w11 : (u2 dt 79 17 0) 79 12 = dt 79 12 := rfl
  have w12 : (u2 dt 79 17 0) 79 13 = dt 79 13 := rfl
  have w13 : (u2 dt 79 17 0) 79 14 = dt 79 14 := rfl
  have w14 : (u2 dt 79 17 0) 79 15 = dt 79 15 := rfl
  have w15 : (u2 dt 79 17 0) 79 16 = dt 79 16 := rfl
  have w16 : (u2 dt 79 17 0) 79 17 = 0 := rfl
  have w17 : (u2 dt 79 17 0) 79 18 = dt 79 18 := rfl
  have w18 : (u2 dt 79 17 0) 79 19 = dt 79 19 := rfl
  have w19 : (u2 dt 79 17 0) 79 20 = dt 79 20 := rfl
  have w20 : (u2 dt 79 17 0) 79 21 = dt 79 21 := rfl
  have E8021 : (u2 dt 79 17 0) 80 = dt 80 := (funext fun _ => u2_ne (fun z => absurd z.1 (by decide))).trans rfl
  refine go_smpq PM174 (L' := [some (.inr (.inr (some 79))), some (.inl 0), some (.inl p2), none]) (st' := []) (w' := (SH, (u2 dt 79 17 0))) rfl rfl (s_pf rfl rfl rfl rfl ⟨by decide, by decide⟩) ?_
  refine go_toq PM174 (k := 3) (pc' := 8) (L' := [some (.inr (.inr (some 79))), some (.inl 0), some (.inl p2), none]) (st' := [.inl 1, .inl 0, .inl 0]) (w' := (SH, (u2 dt 79 17 0))) rfl ?_
  refine go_callq PM174 PM146 (Q' := _) rfl rfl rfl rfl (sp_X6_isIn L xs sio (d + 37) (u2 dt 79 17 0) hI5  0 ⟨by decide, by decide⟩ 0 ⟨by decide, by decide⟩ 1 ⟨by decide, by decide⟩ ) ?_
  rintro _ _ ⟨rfl, h22⟩
  refine ⟨rfl, ?_⟩
  rcases h22 with ⟨rfl, h22⟩ | ⟨rfl, h22⟩
  · skip
    refine go_toq PM174 (k := 7) (pc' := 26) (L' := [some (.inr (.inr (some 79))), some (.inl 0), some (.inl p2), none]) (st' := [.inl 7, .inl 0, .inl p2]) (w' := (SH, (u2 dt 79 17 0))) rfl ?_
    refine go_callq PM174 PM146 (Q' := _) rfl rfl rfl rfl (sp_X6_isIn L xs sio (d + 37) (u2 dt 79 17 0) hI5  p2 (by first | exact h_p2 | exact bnd h_p2 (by decide) (by decide) | exact ⟨by omega, by omega⟩) 0 ⟨by decide, by decide⟩ 7 ⟨by decide, by decide⟩ ) ?_
    rintro _ _ ⟨rfl, h23⟩
    refine ⟨rfl, ?_⟩
    rcases h23 with ⟨rfl, h23⟩ | ⟨rfl, h23⟩
    · skip
      refine go_toq PM174 (k := 3) (pc' := 51) (L' := [some (.inr (.inr (some 79))), some (.inl 0), some (.inl p2), none]) (st' := [.inl 0, .inr (.inr (some 79))]) (w' := (SH, (u2 dt 79 17 0))) rfl ?_
      have hI24 : InvC (u2 (u2 dt 79 17 0) 79 9 0) := InvC_u2 hI5 (lo := 0) (hi := 1) rfl rfl rfl (by decide) (by decide)
      have hF25 : Fr [79, 80, 82, 83, 84] dt (u2 (u2 dt 79 17 0) 79 9 0) := Fr_u2 hF6 (by decide)
      have w26 : (u2 (u2 dt 79 17 0) 79 9 0) 79 2 = (u2 dt 79 17 0) 79 2 := rfl
      have w27 : (u2 (u2 dt 79 17 0) 79 9 0) 79 9 = 0 := rfl
      have w28 : (u2 (u2 dt 79 17 0) 79 9 0) 79 10 = (u2 dt 79 17 0) 79 10 := rfl
      have w29 : (u2 (u2 dt 79 17 0) 79 9 0) 79 11 = (u2 dt 79 17 0) 79 11 := rfl
      have w30 : (u2 (u2 dt 79 17 0) 79 9 0) 79 12 = (u2 dt 79 17 0) 79 12 := rfl
      have w31 : (u2 (u2 dt 79 17 0) 79 9 0) 79 13 = (u2 dt 79 17 0) 79 13 := rfl
      have w32 : (u2 (u2 dt 79 17 0) 79 9 0) 79 14 = (u2 dt 79 17 0) 79 14 := rfl
      have w33 : (u2 (u2 dt 79 17 0) 79 9 0) 79 15 = (u2 dt 79 17 0) 79 15 := rfl
      have w34 : (u2 (u2 dt 79 17 0) 79 9 0) 79 16 = (u2 dt 79 17 0) 79 16 := rfl
      have w35 : (u2 (u2 dt 79 17 0) 79 9 0) 79 17 = (u2 dt 79 17 0) 79 17 := rfl
      have w36 : (u2 (u2 dt 79 17 0) 79 9 0) 79 18 = (u2 dt 79 17 0) 79 18 := rfl
      have w37 : (u2 (u2 dt 79 17 0) 79 9 0) 79 19 = (u2 dt 79 17 0) 79 19 := rfl
      have w38 : (u2 (u2 dt 79 17 0) 79 9 0) 79 20 = (u2 dt 79 17 0) 79 20 := rfl
      have w39 : (u2 (u2 dt 79 17 0) 79 9 0) 79 21 = (u2 dt 79 17 0) 79 21 := rfl
      have E8040 : (u2 (u2 dt 79 17 0) 79 9 0) 80 = dt 80 := (funext fun _ => u2_ne (fun z => absurd z.1 (by decide))).trans E8021
      refine go_smpq PM174 (L' := [some (.inr (.inr (some 79))), some (.inl 0), some (.inl p2), none]) (st' := []) (w' := (SH, (u2 (u2 dt 79 17 0) 79 9 0))) rfl rfl (s_pf rfl rfl rfl rfl ⟨by decide, by decide⟩) ?_
      refine go_toq PM174 (k := 2) (pc' := 56) (L' := [some (.inr (.inr (some 79))), some (.inl 0), some (.inl p2), none]) (st' := [.inl 0, .inr (.inr (some 79))]) (w' := (SH, (u2 (u2 dt 79 17 0) 79 9 0))) rfl ?_
      have hI41 : InvC (u2 (u2 (u2 dt 79 17 0) 79 9 0) 79 13 0) := InvC_u2 hI24 (lo := 0) (hi := 501) rfl rfl rfl (by decide) (by decide)
      have hF42 : Fr [79, 80, 82, 83, 84] dt (u2 (u2 (u2 dt 79 17 0) 79 9 0) 79 13 0) := Fr_u2 hF25 (by decide)
      have w43 : (u2 (u2 (u2 dt 79 17 0) 79 9 0) 79 13 0) 79 2 = (u2 (u2 dt 79 17 0) 79 9 0) 79 2 := rfl
      have w44 : (u2 (u2 (u2 dt 79 17 0) 79 9 0) 79 13 0) 79 9 = (u2 (u2 dt 79 17 0) 79 9 0) 79 9 := rfl
      have w45 : (u2 (u2 (u2 dt 79 17 0) 79 9 0) 79 13 0) 79 10 = (u2 (u2 dt 79 17 0) 79 9 0) 79 10 := rfl
      have w46 : (u2 (u2 (u2 dt 79 17 0) 79 9 0) 79 13 0) 79 11 = (u2 (u2 dt 79 17 0) 79 9 0) 79 11 := rfl
      have w47 : (u2 (u2 (u2 dt 79 17 0) 79 9 0) 79 13 0) 79 12 = (u2 (u2 dt 79 17 0) 79 9 0) 79 12 := rfl
      have w48 : (u2 (u2 (u2 dt 79 17 0) 79 9 0) 79 13 0) 79 13 = 0 := rfl
      have w49 : (u2 (u2 (u2 dt 79 17 0) 79 9 0) 79 13 0) 79 14 = (u2 (u2 dt 79 17 0) 79 9 0) 79 14 := rfl
      have w50 : (u2 (u2 (u2 dt 79 17 0) 79 9 0) 79 13 0) 79 15 = (u2 (u2 dt 79 17 0) 79 9 0) 79 15 := rfl
      have w51 : (u2 (u2 (u2 dt 79 17 0) 79 9 0) 79 13 0) 79 16 = (u2 (u2 dt 79 17 0) 79 9 0) 79 16 := rfl
      have w52 : (u2 (u2 (u2 dt 79 17 0) 79 9 0) 79 13 0) 79 17 = (u2 (u2 dt 79 17 0) 79 9 0) 79 17 := rfl
      have w53 : (u2 (u2 (u2 dt 79 17 0) 79 9 0) 79 13 0) 79 18 = (u2 (u2 dt 79 17 0) 79 9 0) 79 18 := rfl
      have w54 : (u2 (u2 (u2 dt 79 17 0) 79 9 0) 79 13 0) 79 19 = (u2 (u2 dt 79 17 0) 79 9 0) 79 19 := rfl
      have w55 : (u2 (u2 (u2 dt 79 17 0) 79 9 0) 79 13 0) 79 20 = (u2 (u2 dt 79 17 0) 79 9 0) 79 20 := rfl
      have w56 : (u2 (u2 (u2 dt 79 17 0) 79 9 0) 79 13 0) 79 21 = (u2 (u2 dt 79 17 0) 79 9 0) 79 21 := rfl
      have E8057 : (u2 (u2 (u2 dt 79 17 0) 79 9 0) 79 13 0) 80 = dt 80 := (funext fun _ => u2_ne (fun z => absurd z.1 (by decide))).trans E8040
      refine go_smpq PM174 (L' := [some (.inr (.inr (some 79))), some (.inl 0), some (.inl p2), none]) (st' := []) (w' := (SH, (u2 (u2 (u2 dt 79 17 0) 79 9 0) 79 13 0))) rfl rfl (s_pf rfl rfl rfl rfl ⟨by decide, by decide⟩) ?_
      refine go_toq PM174 (k := 2) (pc' := 61) (L' := [some (.inr (.inr (some 79))), some (.inl 0), some (.inl p2), none]) (st' := [.inl 0, .inr (.inr (some 79))]) (w' := (SH, (u2 (u2 (u2 dt 79 17 0) 79 9 0) 79 13 0))) rfl ?_
      have hI58 : InvC (u2 (u2 (u2 (u2 dt 79 17 0) 79 9 0) 79 13 0) 79 10 0) := InvC_u2 hI41 (lo := 0) (hi := 24) rfl rfl rfl (by decide) (by decide)
      have hF59 : Fr [79, 80, 82, 83, 84] dt (u2 (u2 (u2 (u2 dt 79 17 0) 79 9 0) 79 13 0) 79 10 0) := Fr_u2 hF42 (by decide)
      have w60 : (u2 (u2 (u2 (u2 dt 79 17 0) 79 9 0) 79 13 0) 79 10 0) 79 2 = (u2 (u2 (u2 dt 79 17 0) 79 9 0) 79 13 0) 79 2 := rfl
      have w61 : (u2 (u2 (u2 (u2 dt 79 17 0) 79 9 0) 79 13 0) 79 10 0) 79 9 = (u2 (u2 (u2 dt 79 17 0) 79 9 0) 79 13 0) 79 9 := rfl
      have w62 : (u2 (u2 (u2 (u2 dt 79 17 0) 79 9 0) 79 13 0) 79 10 0) 79 10 = 0 := rfl
      have w63 : (u2 (u2 (u2 (u2 dt 79 17 0) 79 9 0) 79 13 0) 79 10 0) 79 11 = (u2 (u2 (u2 dt 79 17 0) 79 9 0) 79 13 0) 79 11 := rfl
      have w64 : (u2 (u2 (u2 (u2 dt 79 17 0) 79 9 0) 79 13 0) 79 10 0) 79 12 = (u2 (u2 (u2 dt 79 17 0) 79 9 0) 79 13 0) 79 12 := rfl
      have w65 : (u2 (u2 (u2 (u2 dt 79 17 0) 79 9 0) 79 13 0) 79 10 0) 79 13 = (u2 (u2 (u2 dt 79 17 0) 79 9 0) 79 13 0) 79 13 := rfl
      have w66 : (u2 (u2 (u2 (u2 dt 79 17 0) 79 9 0) 79 13 0) 79 10 0) 79 14 = (u2 (u2 (u2 dt 79 17 0) 79 9 0) 79 13 0) 79 14 := rfl
      have w67 : (u2 (u2 (u2 (u2 dt 79 17 0) 79 9 0) 79 13 0) 79 10 0) 79 15 = (u2 (u2 (u2 dt 79 17 0) 79 9 0) 79 13 0) 79 15 := rfl
      have w68 : (u2 (u2 (u2 (u2 dt 79 17 0) 79 9 0) 79 13 0) 79 10 0) 79 16 = (u2 (u2 (u2 dt 79 17 0) 79 9 0) 79 13 0) 79 16 := rfl
      have w69 : (u2 (u2 (u2 (u2 dt 79 17 0) 79 9 0) 79 13 0) 79 10 0) 79 17 = (u2 (u2 (u2 dt 79 17 0) 79 9 0) 79 13 0) 79 17 := rfl
      have w70 : (u2 (u2 (u2 (u2 dt 79 17 0) 79 9 0) 79 13 0) 79 10 0) 79 18 = (u2 (u2 (u2 dt 79 17 0) 79 9 0) 79 13 0) 79 18 := rfl
      have w71 : (u2 (u2 (u2 (u2 dt 79 17 0) 79 9 0) 79 13 0) 79 10 0) 79 19 = (u2 (u2 (u2 dt 79 17 0) 79 9 0) 79 13 0) 79 19 := rfl
      have w72 : (u2 (u2 (u2 (u2 dt 79 17 0) 79 9 0) 79 13 0) 79 10 0) 79 20 = (u2 (u2 (u2 dt 79 17 0) 79 9 0) 79 13 0) 79 20 := rfl
      have w73 : (u2 (u2 (u2 (u2 dt 79 17 0) 79 9 0) 79 13 0) 79 10 0) 79 21 = (u2 (u2 (u2 dt 79 17 0) 79 9 0) 79 13 0) 79 21 := rfl
      have E8074 : (u2 (u2 (u2 (u2 dt 79 17 0) 79 9 0) 79 13 0) 79 10 0) 80 = dt 80 := (funext fun _ => u2_ne (fun z => absurd z.1 (by decide))).trans E8057
      refine go_smpq PM174 (L' := [some (.inr (.inr (some 79))), some (.inl 0), some (.inl p2), none]) (st' := []) (w' := (SH, (u2 (u2 (u2 (u2 dt 79 17 0) 79 9 0) 79 13 0) 79 10 0))) rfl rfl (s_pf rfl rfl rfl rfl ⟨by decide, by decide⟩) ?_
      refine go_toq PM174 (k := 2) (pc' := 66) (L' := [some (.inr (.inr (some 79))), some (.inl 0), some (.inl p2), none]) (st' := [.inl 0, .inr (.inr (some 79))]) (w' := (SH, (u2 (u2 (u2 (u2 dt 79 17 0) 79 9 0) 79 13 0) 79 10 0))) rfl ?_
      have hI75 : InvC (u2 (u2 (u2 (u2 (u2 dt 79 17 0) 79 9 0) 79 13 0) 79 10 0) 79 11 0) := InvC_u2 hI58 (lo := 0) (hi := 510) rfl rfl rfl (by decide) (by decide)
      have hF76 : Fr [79, 80, 82, 83, 84] dt (u2 (u2 (u2 (u2 (u2 dt 79 17 0) 79 9 0) 79 13 0) 79 10 0) 79 11 0) := Fr_u2 hF59 (by decide)
      have w77 : (u2 (u2 (u2 (u2 (u2 dt 79 17 0) 79 9 0) 79 13 0) 79 10 0) 79 11 0) 79 2 = (u2 (u2 (u2 (u2 dt 79 17 0) 79 9 0) 79 13 0) 79 10 0) 79 2 := rfl
      have w78 : (u2 (u2 (u2 (u2 (u2 dt 79 17 0) 79 9 0) 79 13 0) 79 10 0) 79 11 0) 79 9 = (u2 (u2 (u2 (u2 dt 79 17 0) 79 9 0) 79 13 0) 79 10 0) 79 9 := rfl
      have w79 : (u2 (u2 (u2 (u2 (u2 dt 79 17 0) 79 9 0) 79 13 0) 79 10 0) 79 11 0) 79 10 = (u2 (u2 (u2 (u2 dt 79 17 0) 79 9 0) 79 13 0) 79 10 0) 79 10 := rfl
      have w80 : (u2 (u2 (u2 (u2 (u2 dt 79 17 0) 79 9 0) 79 13 0) 79 10 0) 79 11 0) 79 11 = 0 := rfl
      have w81 : (u2 (u2 (u2 (u2 (u2 dt 79 17 0) 79 9 0) 79 13 0) 79 10 0) 79 11 0) 79 12 = (u2 (u2 (u2 (u2 dt 79 17 0) 79 9 0) 79 13 0) 79 10 0) 79 12 := rfl
      have w82 : (u2 (u2 (u2 (u2 (u2 dt 79 17 0) 79 9 0) 79 13 0) 79 10 0) 79 11 0) 79 13 = (u2 (u2 (u2 (u2 dt 79 17 0) 79 9 0) 79 13 0) 79 10 0) 79 13 := rfl
      have w83 : (u2 (u2 (u2 (u2 (u2 dt 79 17 0) 79 9 0) 79 13 0) 79 10 0) 79 11 0) 79 14 = (u2 (u2 (u2 (u2 dt 79 17 0) 79 9 0) 79 13 0) 79 10 0) 79 14 := rfl
      have w84 : (u2 (u2 (u2 (u2 (u2 dt 79 17 0) 79 9 0) 79 13 0) 79 10 0) 79 11 0) 79 15 = (u2 (u2 (u2 (u2 dt 79 17 0) 79 9 0) 79 13 0) 79 10 0) 79 15 := rfl
      have w85 : (u2 (u2 (u2 (u2 (u2 dt 79 17 0) 79 9 0) 79 13 0) 79 10 0) 79 11 0) 79 16 = (u2 (u2 (u2 (u2 dt 79 17 0) 79 9 0) 79 13 0) 79 10 0) 79 16 := rfl
      have w86 : (u2 (u2 (u2 (u2 (u2 dt 79 17 0) 79 9 0) 79 13 0) 79 10 0) 79 11 0) 79 17 = (u2 (u2 (u2 (u2 dt 79 17 0) 79 9 0) 79 13 0) 79 10 0) 79 17 := rfl
      have w87 : (u2 (u2 (u2 (u2 (u2 dt 79 17 0) 79 9 0) 79 13 0) 79 10 0) 79 11 0) 79 18 = (u2 (u2 (u2 (u2 dt 79 17 0) 79 9 0) 79 13 0) 79 10 0) 79 18 := rfl
      have w88 : (u2 (u2 (u2 (u2 (u2 dt 79 17 0) 79 9 0) 79 13 0) 79 10 0) 79 11 0) 79 19 = (u2 (u2 (u2 (u2 dt 79 17 0) 79 9 0) 79 13 0) 79 10 0) 79 19 := rfl
      have w89 : (u2 (u2 (u2 (u2 (u2 dt 79 17 0) 79 9 0) 79 13 0) 79 10 0) 79 11 0) 79 20 = (u2 (u2 (u2 (u2 dt 79 17 0) 79 9 0) 79 13 0) 79 10 0) 79 20 := rfl
      have w90 : (u2 (u2 (u2 (u2 (u2 dt 79 17 0) 79 9 0) 79 13 0) 79 10 0) 79 11 0) 79 21 = (u2 (u2 (u2 (u2 dt 79 17 0) 79 9 0) 79 13 0) 79 10 0) 79 21 := rfl
      have E8091 : (u2 (u2 (u2 (u2 (u2 dt 79 17 0) 79 9 0) 79 13 0) 79 10 0) 79 11 0) 80 = dt 80 := (funext fun _ => u2_ne (fun z => absurd z.1 (by decide))).trans E8074
      refine go_smpq PM174 (L' := [some (.inr (.inr (some 79))), some (.inl 0), some (.inl p2), none]) (st' := []) (w' := (SH, (u2 (u2 (u2 (u2 (u2 dt 79 17 0) 79 9 0) 79 13 0) 79 10 0) 79 11 0))) rfl rfl (s_pf rfl rfl rfl rfl ⟨by decide, by decide⟩) ?_
      refine go_toq PM174 (k := 1) (pc' := 70) (L' := [some (.inr (.inr (some 79))), some (.inl 0), some (.inl p2), none]) (st' := [.inr (.inr (some 79))]) (w' := (SH, (u2 (u2 (u2 (u2 (u2 dt 79 17 0) 79 9 0) 79 13 0) 79 10 0) 79 11 0))) rfl ?_
      have hf92 := hF76
      refine go_callq PM174 PM159 (Q' := _) rfl rfl rfl rfl (sp_X6_next0_p0 L xs sio (d + 31) (u2 (u2 (u2 (u2 (u2 dt 79 17 0) 79 9 0) 79 13 0) 79 10 0) 79 11 0) hI75   (by first | exact True.intro | with_reducible assumption | rfl | omega | trivial) (by first | exact True.intro | with_reducible assumption | rfl | omega | trivial)) ?_
      rintro _ _ ⟨dt94, rfl, hI95, hF96, h93⟩
      refine ⟨rfl, ?_⟩
      have hF97 : Fr [79, 80, 82, 83, 84] dt dt94 := Fr_tr hF76 hF96 (by decide)
      have E8098 : dt94 80 = dt 80 := (funext (hF96 80 (by decide))).trans E8091
      rcases h93 with ⟨rfl, h93⟩
      obtain ⟨h93_0, h93_1, h93_2, h93_3, h93_4, h93_5, h93_6, h93_7, h93_8⟩ := h93
      have hq99 := h93_0
      rw [show (u2 (u2 (u2 (u2 (u2 dt 79 17 0) 79 9 0) 79 13 0) 79 10 0) 79 11 0) 85 = dt 85 from funext (hf92 85 (by decide)), show (u2 (u2 (u2 (u2 (u2 dt 79 17 0) 79 9 0) 79 13 0) 79 10 0) 79 11 0) 79 12 = dt 79 12 by first | with_reducible assumption | omega, show ((u2 (u2 (u2 (u2 (u2 dt 79 17 0) 79 9 0) 79 13 0) 79 10 0) 79 11 0) 79 13).toNat = 0 by first | with_reducible assumption | omega] at hq99
      have T100 : TRa (mB (dt 85) (dt 79 12)) (dt 79 12).toNat (dt 79 12).toNat dt94 0 1 := TRa_0 hq99
      refine go_toq PM174 (k := 2) (pc' := 75) (L' := [some (.inr (.inr (some 79))), some (.inl 0), some (.inl p2), some (.inl 1)]) (st' := []) (w' := (SH, dt94)) rfl ?_
      have loop167 : ∀ (k_ : Nat) (l75_3 : Int) (dt153 : Nat → Nat → Int) (hI154 : InvC dt153) (hF155 : Fr [79, 80, 82, 83, 84] dt dt153) (i156 : 0 ≤ l75_3 ∧ l75_3 ≤ 1) (i157 : TRa (mB (dt 85) (dt 79 12)) (dt 79 12).toNat (dt 79 12).toNat dt153 (dt153 79 10) l75_3) (i158 : dt153 79 15 ≤ 500) (i159 : l75_3 = 1 → dt153 79 17 = 0) (i160 : l75_3 = 1 → dt153 79 10 ≤ 24) (i161 : l75_3 = 1 → dt153 79 11 ≤ dt153 79 15) (i162 : dt153 79 2 = dt 79 2) (i163 : dt153 79 9 = 0) (i164 : dt153 79 12 = dt 79 12) (i165 : l75_3 = 1 → ∀ q : Nat, (q : Int) < dt153 79 10 → ARF (dt153 82) (q : Int) (KF 0 (mB (dt 85) (dt 79 12)) (dt 79 12).toNat) (VF (mB (dt 85) (dt 79 12)) (dt 79 12).toNat) (gpos (KF 0 (mB (dt 85) (dt 79 12)) (dt 79 12).toNat) (VF (mB (dt 85) (dt 79 12)) (dt 79 12).toNat) q)) (i166 : dt153 80 = dt 80), (l75_3 * (502 - dt153 79 15)).toNat < k_ → GO (am_XX L xs sio) (d + 38) 174 75 [some (.inr (.inr (some 79))), some (.inl 0), some (.inl p2), some (.inl l75_3)] [] (SH, dt153) (fun r w2 => ∃ dt2 : Nat → Nat → Int, w2 = (SH, dt2) ∧ InvC dt2 ∧ Fr [79, 80, 82, 83, 84] dt dt2 ∧ ((∃ v : Int, r = some (.inl v) ∧ ((-1) ≤ v ∧ v ≤ 24) ∧ (dt2 79 12 = 0) ∧ (dt2 79 2 = dt 79 2) ∧ (TRS 0 p2 (mB (dt 85) (dt 79 12)) (dt 79 12).toNat v (dt2 79 19) (dt2 79 21)) ∧ (TSR 0 p2 (mB (dt 85) (dt 79 12)) (dt 79 12).toNat (dt2 79 19) v (dt 80) (dt2 80))))) := by
        intro k_
        induction k_ with
        | zero => intro l75_3 dt153 hI154 hF155 i156 i157 i158 i159 i160 i161 i162 i163 i164 i165 i166 hm; exact absurd hm (Nat.not_lt_zero _)
        | succ k_ ih_loop167 =>
          intro l75_3 dt153 hI154 hF155 i156 i157 i158 i159 i160 i161 i162 i163 i164 i165 i166 hm
          replace i159 := hid i159
          replace i160 := hid i160
          replace i161 := hid i161
          replace i165 := hid i165
          have qT := i157
          have qf_ : l75_3 = 0 → ¬ dt153 79 17 = 0 := TRr_f (TRa_r qT)
          replace qf_ := hid qf_
          have qAR := i165
          have hE80 := i166
          have q10 : 0 ≤ dt153 79 10 ∧ dt153 79 10 ≤ 24 := InvC_get (by assumption) 79 10 rfl rfl
          have q11 : 0 ≤ dt153 79 11 ∧ dt153 79 11 ≤ 510 := InvC_get (by assumption) 79 11 rfl rfl
          have hm1 : l75_3 = 1 → (l75_3 * (502 - dt153 79 15)).toNat = (502 - dt153 79 15).toNat := fun e => by rw [e, Int.one_mul]
          replace hm1 := hid hm1
          have u1_ := hid (And.intro (unhid i159) (And.intro (unhid i160) (And.intro (unhid i161) (And.intro (unhid qf_) (unhid hm1)))))
          refine go_ifq PM174 (k := 1) (p1 := 123) (p2 := 79) (L' := [some (.inr (.inr (some 79))), some (.inl 0), some (.inl p2), some (.inl l75_3)]) (st' := []) (w' := (SH, dt153)) rfl (z_eq (a := l75_3) (by first | exact bnd i156 (by decide) (by decide) | exact ⟨by (first | omega | (have z_ := unhid u1_; omega)), by (first | omega | (have z_ := unhid u1_; omega))⟩)) (fun c168 => ?_) (fun c168 => ?_)
          · skip
            have hc169 : l75_3 = 0 := by (first | omega | (have z_ := unhid u1_; omega))
            subst hc169
            refine go_toq PM174 (k := 2) (pc' := 125) (L' := [some (.inr (.inr (some 79))), some (.inl 0), some (.inl p2), some (.inl 0)]) (st' := [.inl 0, .inr (.inr (some 79))]) (w' := (SH, dt153)) rfl ?_
            have hI170 : InvC (u2 dt153 79 12 0) := InvC_u2 hI154 (lo := 0) (hi := 500) rfl rfl rfl (by decide) (by decide)
            have hF171 : Fr [79, 80, 82, 83, 84] dt (u2 dt153 79 12 0) := Fr_u2 hF155 (by decide)
            have w172 : (u2 dt153 79 12 0) 79 2 = dt153 79 2 := rfl
            have w173 : (u2 dt153 79 12 0) 79 9 = dt153 79 9 := rfl
            have w174 : (u2 dt153 79 12 0) 79 10 = dt153 79 10 := rfl
            have w175 : (u2 dt153 79 12 0) 79 11 = dt153 79 11 := rfl
            have w176 : (u2 dt153 79 12 0) 79 12 = 0 := rfl
            have w177 : (u2 dt153 79 12 0) 79 13 = dt153 79 13 := rfl
            have w178 : (u2 dt153 79 12 0) 79 14 = dt153 79 14 := rfl
            have w179 : (u2 dt153 79 12 0) 79 15 = dt153 79 15 := rfl
            have w180 : (u2 dt153 79 12 0) 79 16 = dt153 79 16 := rfl
            have w181 : (u2 dt153 79 12 0) 79 17 = dt153 79 17 := rfl
            have w182 : (u2 dt153 79 12 0) 79 18 = dt153 79 18 := rfl
            have w183 : (u2 dt153 79 12 0) 79 19 = dt153 79 19 := rfl
            have w184 : (u2 dt153 79 12 0) 79 20 = dt153 79 20 := rfl
            have w185 : (u2 dt153 79 12 0) 79 21 = dt153 79 21 := rfl
            have E80186 : (u2 dt153 79 12 0) 80 = dt 80 := (funext fun _ => u2_ne (fun z => absurd z.1 (by decide))).trans hE80
            refine go_smpq PM174 (L' := [some (.inr (.inr (some 79))), some (.inl 0), some (.inl p2), some (.inl 0)]) (st' := []) (w' := (SH, (u2 dt153 79 12 0))) rfl rfl (s_pf rfl rfl rfl rfl ⟨by decide, by decide⟩) ?_
            have r187 : (-2147483648) ≤ dt153 79 17 ∧ dt153 79 17 ≤ 2147483647 := InvC_get hI154 79 17 rfl rfl
            refine go_toq PM174 (k := 3) (pc' := 133) (L' := [some (.inr (.inr (some 79))), some (.inl 0), some (.inl p2), some (.inl 0)]) (st' := [.inl (dt153 79 17), .inr (.inr (some 79))]) (w' := (SH, (u2 dt153 79 12 0))) rfl ?_
            have hI188 : InvC (u2 (u2 dt153 79 12 0) 79 19 (dt153 79 17)) := InvC_u2 hI170 (lo := -2147483648) (hi := 2147483647) rfl rfl rfl (by first | exact bnd1 r187 (by decide) | (first | omega | (have z_ := unhid u1_; omega))) (by first | exact bnd2 r187 (by decide) | (first | omega | (have z_ := unhid u1_; omega)))
            have hF189 : Fr [79, 80, 82, 83, 84] dt (u2 (u2 dt153 79 12 0) 79 19 (dt153 79 17)) := Fr_u2 hF171 (by decide)
            have w190 : (u2 (u2 dt153 79 12 0) 79 19 (dt153 79 17)) 79 2 = (u2 dt153 79 12 0) 79 2 := rfl
            have w191 : (u2 (u2 dt153 79 12 0) 79 19 (dt153 79 17)) 79 9 = (u2 dt153 79 12 0) 79 9 := rfl
            have w192 : (u2 (u2 dt153 79 12 0) 79 19 (dt153 79 17)) 79 10 = (u2 dt153 79 12 0) 79 10 := rfl
            have w193 : (u2 (u2 dt153 79 12 0) 79 19 (dt153 79 17)) 79 11 = (u2 dt153 79 12 0) 79 11 := rfl
            have w194 : (u2 (u2 dt153 79 12 0) 79 19 (dt153 79 17)) 79 12 = (u2 dt153 79 12 0) 79 12 := rfl
            have w195 : (u2 (u2 dt153 79 12 0) 79 19 (dt153 79 17)) 79 13 = (u2 dt153 79 12 0) 79 13 := rfl
            have w196 : (u2 (u2 dt153 79 12 0) 79 19 (dt153 79 17)) 79 14 = (u2 dt153 79 12 0) 79 14 := rfl
            have w197 : (u2 (u2 dt153 79 12 0) 79 19 (dt153 79 17)) 79 15 = (u2 dt153 79 12 0) 79 15 := rfl
            have w198 : (u2 (u2 dt153 79 12 0) 79 19 (dt153 79 17)) 79 16 = (u2 dt153 79 12 0) 79 16 := rfl
            have w199 : (u2 (u2 dt153 79 12 0) 79 19 (dt153 79 17)) 79 17 = (u2 dt153 79 12 0) 79 17 := rfl
            have w200 : (u2 (u2 dt153 79 12 0) 79 19 (dt153 79 17)) 79 18 = (u2 dt153 79 12 0) 79 18 := rfl
            have w201 : (u2 (u2 dt153 79 12 0) 79 19 (dt153 79 17)) 79 19 = dt153 79 17 := rfl
            have w202 : (u2 (u2 dt153 79 12 0) 79 19 (dt153 79 17)) 79 20 = (u2 dt153 79 12 0) 79 20 := rfl
            have w203 : (u2 (u2 dt153 79 12 0) 79 19 (dt153 79 17)) 79 21 = (u2 dt153 79 12 0) 79 21 := rfl
            have E80204 : (u2 (u2 dt153 79 12 0) 79 19 (dt153 79 17)) 80 = dt 80 := (funext fun _ => u2_ne (fun z => absurd z.1 (by decide))).trans E80186
            refine go_smpq PM174 (L' := [some (.inr (.inr (some 79))), some (.inl 0), some (.inl p2), some (.inl 0)]) (st' := []) (w' := (SH, (u2 (u2 dt153 79 12 0) 79 19 (dt153 79 17)))) rfl rfl (s_pf rfl rfl rfl rfl (by first | exact bnd r187 (by decide) (by decide) | exact ⟨by (first | omega | (have z_ := unhid u1_; omega)), by (first | omega | (have z_ := unhid u1_; omega))⟩)) ?_
            have r205 : (-2147483648) ≤ dt153 79 18 ∧ dt153 79 18 ≤ 2147483647 := InvC_get hI154 79 18 rfl rfl
            refine go_toq PM174 (k := 5) (pc' := 149) (L' := [some (.inr (.inr (some 79))), some (.inl 0), some (.inl p2), some (.inl 0)]) (st' := [.inl (dt153 79 18), .inr (.inr (some 79))]) (w' := (SH, (u2 (u2 dt153 79 12 0) 79 19 (dt153 79 17)))) rfl ?_
            have hI206 : InvC (u2 (u2 (u2 dt153 79 12 0) 79 19 (dt153 79 17)) 79 21 (dt153 79 18)) := InvC_u2 hI188 (lo := -2147483648) (hi := 2147483647) rfl rfl rfl (by first | exact bnd1 r205 (by decide) | (first | omega | (have z_ := unhid u1_; omega))) (by first | exact bnd2 r205 (by decide) | (first | omega | (have z_ := unhid u1_; omega)))
            have hF207 : Fr [79, 80, 82, 83, 84] dt (u2 (u2 (u2 dt153 79 12 0) 79 19 (dt153 79 17)) 79 21 (dt153 79 18)) := Fr_u2 hF189 (by decide)
            have w208 : (u2 (u2 (u2 dt153 79 12 0) 79 19 (dt153 79 17)) 79 21 (dt153 79 18)) 79 2 = (u2 (u2 dt153 79 12 0) 79 19 (dt153 79 17)) 79 2 := rfl
            have w209 : (u2 (u2 (u2 dt153 79 12 0) 79 19 (dt153 79 17)) 79 21 (dt153 79 18)) 79 9 = (u2 (u2 dt153 79 12 0) 79 19 (dt153 79 17)) 79 9 := rfl
            have w210 : (u2 (u2 (u2 dt153 79 12 0) 79 19 (dt153 79 17)) 79 21 (dt153 79 18)) 79 10 = (u2 (u2 dt153 79 12 0) 79 19 (dt153 79 17)) 79 10 := rfl
            have w211 : (u2 (u2 (u2 dt153 79 12 0) 79 19 (dt153 79 17)) 79 21 (dt153 79 18)) 79 11 = (u2 (u2 dt153 79 12 0) 79 19 (dt153 79 17)) 79 11 := rfl
            have w212 : (u2 (u2 (u2 dt153 79 12 0) 79 19 (dt153 79 17)) 79 21 (dt153 79 18)) 79 12 = (u2 (u2 dt153 79 12 0) 79 19 (dt153 79 17)) 79 12 := rfl
            have w213 : (u2 (u2 (u2 dt153 79 12 0) 79 19 (dt153 79 17)) 79 21 (dt153 79 18)) 79 13 = (u2 (u2 dt153 79 12 0) 79 19 (dt153 79 17)) 79 13 := rfl
            have w214 : (u2 (u2 (u2 dt153 79 12 0) 79 19 (dt153 79 17)) 79 21 (dt153 79 18)) 79 14 = (u2 (u2 dt153 79 12 0) 79 19 (dt153 79 17)) 79 14 := rfl
            have w215 : (u2 (u2 (u2 dt153 79 12 0) 79 19 (dt153 79 17)) 79 21 (dt153 79 18)) 79 15 = (u2 (u2 dt153 79 12 0) 79 19 (dt153 79 17)) 79 15 := rfl
            have w216 : (u2 (u2 (u2 dt153 79 12 0) 79 19 (dt153 79 17)) 79 21 (dt153 79 18)) 79 16 = (u2 (u2 dt153 79 12 0) 79 19 (dt153 79 17)) 79 16 := rfl
            have w217 : (u2 (u2 (u2 dt153 79 12 0) 79 19 (dt153 79 17)) 79 21 (dt153 79 18)) 79 17 = (u2 (u2 dt153 79 12 0) 79 19 (dt153 79 17)) 79 17 := rfl
            have w218 : (u2 (u2 (u2 dt153 79 12 0) 79 19 (dt153 79 17)) 79 21 (dt153 79 18)) 79 18 = (u2 (u2 dt153 79 12 0) 79 19 (dt153 79 17)) 79 18 := rfl
            have w219 : (u2 (u2 (u2 dt153 79 12 0) 79 19 (dt153 79 17)) 79 21 (dt153 79 18)) 79 19 = (u2 (u2 dt153 79 12 0) 79 19 (dt153 79 17)) 79 19 := rfl
            have w220 : (u2 (u2 (u2 dt153 79 12 0) 79 19 (dt153 79 17)) 79 21 (dt153 79 18)) 79 20 = (u2 (u2 dt153 79 12 0) 79 19 (dt153 79 17)) 79 20 := rfl
            have w221 : (u2 (u2 (u2 dt153 79 12 0) 79 19 (dt153 79 17)) 79 21 (dt153 79 18)) 79 21 = dt153 79 18 := rfl
            have E80222 : (u2 (u2 (u2 dt153 79 12 0) 79 19 (dt153 79 17)) 79 21 (dt153 79 18)) 80 = dt 80 := (funext fun _ => u2_ne (fun z => absurd z.1 (by decide))).trans E80204
            refine go_smpq PM174 (L' := [some (.inr (.inr (some 79))), some (.inl 0), some (.inl p2), some (.inl 0)]) (st' := []) (w' := (SH, (u2 (u2 (u2 dt153 79 12 0) 79 19 (dt153 79 17)) 79 21 (dt153 79 18)))) rfl rfl (s_pf rfl rfl rfl rfl (by first | exact bnd r205 (by decide) (by decide) | exact ⟨by (first | omega | (have z_ := unhid u1_; omega)), by (first | omega | (have z_ := unhid u1_; omega))⟩)) ?_
            refine go_retq PM174 (k := 3) (r := some (.inl (-1))) (w1 := (SH, (u2 (u2 (u2 dt153 79 12 0) 79 19 (dt153 79 17)) 79 21 (dt153 79 18)))) rfl ?_
            exact ⟨(u2 (u2 (u2 dt153 79 12 0) 79 19 (dt153 79 17)) 79 21 (dt153 79 18)), rfl, hI206, hF207, ⟨_, rfl, ⟨by decide, by decide⟩, ⟨by first | exact True.intro | with_reducible assumption | exact unhid (by with_reducible assumption) | rfl | (first | omega | (have z_ := unhid u1_; omega)) | trivial, by first | exact True.intro | with_reducible assumption | exact unhid (by with_reducible assumption) | rfl | (first | omega | (have z_ := unhid u1_; omega)) | trivial, by first | exact TRS_y (by unfold okT; (first | omega | (have z_ := unhid u1_; omega))) rfl (by (first | omega | (have z_ := unhid u1_; omega))) (by (first | omega | (have z_ := unhid u1_; omega))) | exact TRr_e (TRa_r qT) (by unfold okT; (first | omega | (have z_ := unhid u1_; omega))) hz (by (first | omega | (have z_ := unhid u1_; omega))) (fun z_ => by (first | omega | (have z_ := unhid u1_; omega))) (by decide) (by first | (rw [if_pos (by (first | omega | (have z_ := unhid u1_; omega)))]; done) | (rw [if_neg (by (first | omega | (have z_ := unhid u1_; omega)))]; (first | omega | (have z_ := unhid u1_; omega)))) (by first | (rw [if_pos (by (first | omega | (have z_ := unhid u1_; omega)))]; (first | omega | (have z_ := unhid u1_; omega))) | (rw [if_neg (by (first | omega | (have z_ := unhid u1_; omega)))]; (first | omega | (have z_ := unhid u1_; omega)))) (by first | (rw [if_pos (by (first | omega | (have z_ := unhid u1_; omega)))]; (first | omega | (have z_ := unhid u1_; omega))) | (rw [if_neg (by (first | omega | (have z_ := unhid u1_; omega)))]; (first | omega | (have z_ := unhid u1_; omega)))), by first | exact TSR_n (by (first | omega | (have z_ := unhid u1_; omega))) (fun j _ => rfl) | exact TSR_n (by (first | omega | (have z_ := unhid u1_; omega))) (fun j _ => congrFun E80222 j) | exact TSR_n (by (first | omega | (have z_ := unhid u1_; omega))) (fun j hj => (hI j hj).trans (congrFun rfl j)) | exact TSR_y (fun j => congrFun rfl j) hI ⟨by (first | omega | (have z_ := unhid u1_; omega)), by (first | omega | (have z_ := unhid u1_; omega))⟩ (by (first | omega | (have z_ := unhid u1_; omega))) (fun q hq => qAR (by (first | omega | (have z_ := unhid u1_; omega))) q (by (first | omega | (have z_ := unhid u1_; omega)))) ⟨by (first | omega | (have z_ := unhid u1_; omega)), ⟨by (first | omega | (have z_ := unhid u1_; omega)), by (first | omega | (have z_ := unhid u1_; omega))⟩, by (first | omega | (have z_ := unhid u1_; omega))⟩⟩⟩⟩
          · skip
            replace c168 := hid c168
            have u2_ := hid (And.intro (unhid i159) (And.intro (unhid i160) (And.intro (unhid i161) (And.intro (unhid qf_) (And.intro (unhid hm1) (unhid c168))))))
            have hc223 : l75_3 = 1 := by (first | omega | (have z_ := unhid u2_; omega))
            subst hc223
            have r224 : (-2147483648) ≤ dt153 79 14 ∧ dt153 79 14 ≤ 2147483647 := InvC_get hI154 79 14 rfl rfl
            refine go_ifq PM174 (k := 2) (p1 := 123) (p2 := 86) (L' := [some (.inr (.inr (some 79))), some (.inl 0), some (.inl p2), some (.inl 1)]) (st' := []) (w' := (SH, dt153)) rfl (z_eq (a := dt153 79 14) (by first | exact bnd r224 (by decide) (by decide) | exact ⟨by (first | omega | (have z_ := unhid u2_; omega)), by (first | omega | (have z_ := unhid u2_; omega))⟩)) (fun c225 => ?_) (fun c225 => ?_)
            · skip
              refine go_toq PM174 (k := 2) (pc' := 125) (L' := [some (.inr (.inr (some 79))), some (.inl 0), some (.inl p2), some (.inl 1)]) (st' := [.inl 0, .inr (.inr (some 79))]) (w' := (SH, dt153)) rfl ?_
              have hI226 : InvC (u2 dt153 79 12 0) := InvC_u2 hI154 (lo := 0) (hi := 500) rfl rfl rfl (by decide) (by decide)
              have hF227 : Fr [79, 80, 82, 83, 84] dt (u2 dt153 79 12 0) := Fr_u2 hF155 (by decide)
              have w228 : (u2 dt153 79 12 0) 79 2 = dt153 79 2 := rfl
              have w229 : (u2 dt153 79 12 0) 79 9 = dt153 79 9 := rfl
              have w230 : (u2 dt153 79 12 0) 79 10 = dt153 79 10 := rfl
              have w231 : (u2 dt153 79 12 0) 79 11 = dt153 79 11 := rfl
              have w232 : (u2 dt153 79 12 0) 79 12 = 0 := rfl
              have w233 : (u2 dt153 79 12 0) 79 13 = dt153 79 13 := rfl
              have w234 : (u2 dt153 79 12 0) 79 14 = dt153 79 14 := rfl
              have w235 : (u2 dt153 79 12 0) 79 15 = dt153 79 15 := rfl
              have w236 : (u2 dt153 79 12 0) 79 16 = dt153 79 16 := rfl
              have w237 : (u2 dt153 79 12 0) 79 17 = dt153 79 17 := rfl
              have w238 : (u2 dt153 79 12 0) 79 18 = dt153 79 18 := rfl
              have w239 : (u2 dt153 79 12 0) 79 19 = dt153 79 19 := rfl
              have w240 : (u2 dt153 79 12 0) 79 20 = dt153 79 20 := rfl
              have w241 : (u2 dt153 79 12 0) 79 21 = dt153 79 21 := rfl
              have E80242 : (u2 dt153 79 12 0) 80 = dt 80 := (funext fun _ => u2_ne (fun z => absurd z.1 (by decide))).trans hE80
              refine go_smpq PM174 (L' := [some (.inr (.inr (some 79))), some (.inl 0), some (.inl p2), some (.inl 1)]) (st' := []) (w' := (SH, (u2 dt153 79 12 0))) rfl rfl (s_pf rfl rfl rfl rfl ⟨by decide, by decide⟩) ?_
              have r243 : (-2147483648) ≤ dt153 79 17 ∧ dt153 79 17 ≤ 2147483647 := InvC_get hI154 79 17 rfl rfl
              refine go_toq PM174 (k := 3) (pc' := 133) (L' := [some (.inr (.inr (some 79))), some (.inl 0), some (.inl p2), some (.inl 1)]) (st' := [.inl (dt153 79 17), .inr (.inr (some 79))]) (w' := (SH, (u2 dt153 79 12 0))) rfl ?_
              have hI244 : InvC (u2 (u2 dt153 79 12 0) 79 19 (dt153 79 17)) := InvC_u2 hI226 (lo := -2147483648) (hi := 2147483647) rfl rfl rfl (by first | exact bnd1 r243 (by decide) | (first | omega | (have z_ := unhid u2_; omega))) (by first | exact bnd2 r243 (by decide) | (first | omega | (have z_ := unhid u2_; omega)))
              have hF245 : Fr [79, 80, 82, 83, 84] dt (u2 (u2 dt153 79 12 0) 79 19 (dt153 79 17)) := Fr_u2 hF227 (by decide)
              have w246 : (u2 (u2 dt153 79 12 0) 79 19 (dt153 79 17)) 79 2 = (u2 dt153 79 12 0) 79 2 := rfl
              have w247 : (u2 (u2 dt153 79 12 0) 79 19 (dt153 79 17)) 79 9 = (u2 dt153 79 12 0) 79 9 := rfl
              have w248 : (u2 (u2 dt153 79 12 0) 79 19 (dt153 79 17)) 79 10 = (u2 dt153 79 12 0) 79 10 := rfl
              have w249 : (u2 (u2 dt153 79 12 0) 79 19 (dt153 79 17)) 79 11 = (u2 dt153 79 12 0) 79 11 := rfl
              have w250 : (u2 (u2 dt153 79 12 0) 79 19 (dt153 79 17)) 79 12 = (u2 dt153 79 12 0) 79 12 := rfl
              have w251 : (u2 (u2 dt153 79 12 0) 79 19 (dt153 79 17)) 79 13 = (u2 dt153 79 12 0) 79 13 := rfl
              have w252 : (u2 (u2 dt153 79 12 0) 79 19 (dt153 79 17)) 79 14 = (u2 dt153 79 12 0) 79 14 := rfl
              have w253 : (u2 (u2 dt153 79 12 0) 79 19 (dt153 79 17)) 79 15 = (u2 dt153 79 12 0) 79 15 := rfl
              have w254 : (u2 (u2 dt153 79 12 0) 79 19 (dt153 79 17)) 79 16 = (u2 dt153 79 12 0) 79 16 := rfl
              have w255 : (u2 (u2 dt153 79 12 0) 79 19 (dt153 79 17)) 79 17 = (u2 dt153 79 12 0) 79 17 := rfl
              have w256 : (u2 (u2 dt153 79 12 0) 79 19 (dt153 79 17)) 79 18 = (u2 dt153 79 12 0) 79 18 := rfl
              have w257 : (u2 (u2 dt153 79 12 0) 79 19 (dt153 79 17)) 79 19 = dt153 79 17 := rfl
              have w258 : (u2 (u2 dt153 79 12 0) 79 19 (dt153 79 17)) 79 20 = (u2 dt153 79 12 0) 79 20 := rfl
              have w259 : (u2 (u2 dt153 79 12 0) 79 19 (dt153 79 17)) 79 21 = (u2 dt153 79 12 0) 79 21 := rfl
              have E80260 : (u2 (u2 dt153 79 12 0) 79 19 (dt153 79 17)) 80 = dt 80 := (funext fun _ => u2_ne (fun z => absurd z.1 (by decide))).trans E80242
              refine go_smpq PM174 (L' := [some (.inr (.inr (some 79))), some (.inl 0), some (.inl p2), some (.inl 1)]) (st' := []) (w' := (SH, (u2 (u2 dt153 79 12 0) 79 19 (dt153 79 17)))) rfl rfl (s_pf rfl rfl rfl rfl (by first | exact bnd r243 (by decide) (by decide) | exact ⟨by (first | omega | (have z_ := unhid u2_; omega)), by (first | omega | (have z_ := unhid u2_; omega))⟩)) ?_
              refine go_toq PM174 (k := 5) (pc' := 149) (L' := [some (.inr (.inr (some 79))), some (.inl 0), some (.inl p2), some (.inl 1)]) (st' := [.inl (-1), .inr (.inr (some 79))]) (w' := (SH, (u2 (u2 dt153 79 12 0) 79 19 (dt153 79 17)))) rfl ?_
              have hI261 : InvC (u2 (u2 (u2 dt153 79 12 0) 79 19 (dt153 79 17)) 79 21 (-1)) := InvC_u2 hI244 (lo := -2147483648) (hi := 2147483647) rfl rfl rfl (by decide) (by decide)
              have hF262 : Fr [79, 80, 82, 83, 84] dt (u2 (u2 (u2 dt153 79 12 0) 79 19 (dt153 79 17)) 79 21 (-1)) := Fr_u2 hF245 (by decide)
              have w263 : (u2 (u2 (u2 dt153 79 12 0) 79 19 (dt153 79 17)) 79 21 (-1)) 79 2 = (u2 (u2 dt153 79 12 0) 79 19 (dt153 79 17)) 79 2 := rfl
              have w264 : (u2 (u2 (u2 dt153 79 12 0) 79 19 (dt153 79 17)) 79 21 (-1)) 79 9 = (u2 (u2 dt153 79 12 0) 79 19 (dt153 79 17)) 79 9 := rfl
              have w265 : (u2 (u2 (u2 dt153 79 12 0) 79 19 (dt153 79 17)) 79 21 (-1)) 79 10 = (u2 (u2 dt153 79 12 0) 79 19 (dt153 79 17)) 79 10 := rfl
              have w266 : (u2 (u2 (u2 dt153 79 12 0) 79 19 (dt153 79 17)) 79 21 (-1)) 79 11 = (u2 (u2 dt153 79 12 0) 79 19 (dt153 79 17)) 79 11 := rfl
              have w267 : (u2 (u2 (u2 dt153 79 12 0) 79 19 (dt153 79 17)) 79 21 (-1)) 79 12 = (u2 (u2 dt153 79 12 0) 79 19 (dt153 79 17)) 79 12 := rfl
              have w268 : (u2 (u2 (u2 dt153 79 12 0) 79 19 (dt153 79 17)) 79 21 (-1)) 79 13 = (u2 (u2 dt153 79 12 0) 79 19 (dt153 79 17)) 79 13 := rfl
              have w269 : (u2 (u2 (u2 dt153 79 12 0) 79 19 (dt153 79 17)) 79 21 (-1)) 79 14 = (u2 (u2 dt153 79 12 0) 79 19 (dt153 79 17)) 79 14 := rfl
              have w270 : (u2 (u2 (u2 dt153 79 12 0) 79 19 (dt153 79 17)) 79 21 (-1)) 79 15 = (u2 (u2 dt153 79 12 0) 79 19 (dt153 79 17)) 79 15 := rfl
              have w271 : (u2 (u2 (u2 dt153 79 12 0) 79 19 (dt153 79 17)) 79 21 (-1)) 79 16 = (u2 (u2 dt153 79 12 0) 79 19 (dt153 79 17)) 79 16 := rfl
              have w272 : (u2 (u2 (u2 dt153 79 12 0) 79 19 (dt153 79 17)) 79 21 (-1)) 79 17 = (u2 (u2 dt153 79 12 0) 79 19 (dt153 79 17)) 79 17 := rfl
              have w273 : (u2 (u2 (u2 dt153 79 12 0) 79 19 (dt153 79 17)) 79 21 (-1)) 79 18 = (u2 (u2 dt153 79 12 0) 79 19 (dt153 79 17)) 79 18 := rfl
              have w274 : (u2 (u2 (u2 dt153 79 12 0) 79 19 (dt153 79 17)) 79 21 (-1)) 79 19 = (u2 (u2 dt153 79 12 0) 79 19 (dt153 79 17)) 79 19 := rfl
              have w275 : (u2 (u2 (u2 dt153 79 12 0) 79 19 (dt153 79 17)) 79 21 (-1)) 79 20 = (u2 (u2 dt153 79 12 0) 79 19 (dt153 79 17)) 79 20 := rfl
              have w276 : (u2 (u2 (u2 dt153 79 12 0) 79 19 (dt153 79 17)) 79 21 (-1)) 79 21 = (-1) := rfl
              have E80277 : (u2 (u2 (u2 dt153 79 12 0) 79 19 (dt153 79 17)) 79 21 (-1)) 80 = dt 80 := (funext fun _ => u2_ne (fun z => absurd z.1 (by decide))).trans E80260
              refine go_smpq PM174 (L' := [some (.inr (.inr (some 79))), some (.inl 0), some (.inl p2), some (.inl 1)]) (st' := []) (w' := (SH, (u2 (u2 (u2 dt153 79 12 0) 79 19 (dt153 79 17)) 79 21 (-1)))) rfl rfl (s_pf rfl rfl rfl rfl ⟨by decide, by decide⟩) ?_
              refine go_toq PM174 (k := 4) (pc' := 160) (L' := [some (.inr (.inr (some 79))), some (.inl 0), some (.inl p2), some (.inl 1)]) (st' := [.inl p2, .inr (.inr (some 79))]) (w' := (SH, (u2 (u2 (u2 dt153 79 12 0) 79 19 (dt153 79 17)) 79 21 (-1)))) rfl ?_
              refine go_callq PM174 PM175 (Q' := _) rfl rfl rfl rfl (sp_X6_keeps_g0 L xs sio (d + 37) (u2 (u2 (u2 dt153 79 12 0) 79 19 (dt153 79 17)) 79 21 (-1)) hI261  p2 (by first | exact h_p2 | exact bnd h_p2 (by decide) (by decide) | exact ⟨by (first | omega | (have z_ := unhid u2_; omega)), by (first | omega | (have z_ := unhid u2_; omega))⟩) (by first | exact True.intro | with_reducible assumption | exact unhid (by with_reducible assumption) | rfl | (first | omega | (have z_ := unhid u2_; omega)) | trivial) (by first | exact True.intro | with_reducible assumption | exact unhid (by with_reducible assumption) | rfl | (first | omega | (have z_ := unhid u2_; omega)) | trivial)) ?_
              rintro _ _ ⟨dt279, rfl, hI280, hF281, h278⟩
              refine ⟨rfl, ?_⟩
              have hF282 : Fr [79, 80, 82, 83, 84] dt dt279 := Fr_tr hF262 hF281 (by decide)
              have w283 : dt279 79 2 = (u2 (u2 (u2 dt153 79 12 0) 79 19 (dt153 79 17)) 79 21 (-1)) 79 2 := hF281 79 (by decide) 2
              have w284 : dt279 79 9 = (u2 (u2 (u2 dt153 79 12 0) 79 19 (dt153 79 17)) 79 21 (-1)) 79 9 := hF281 79 (by decide) 9
              have w285 : dt279 79 10 = (u2 (u2 (u2 dt153 79 12 0) 79 19 (dt153 79 17)) 79 21 (-1)) 79 10 := hF281 79 (by decide) 10
              have w286 : dt279 79 11 = (u2 (u2 (u2 dt153 79 12 0) 79 19 (dt153 79 17)) 79 21 (-1)) 79 11 := hF281 79 (by decide) 11
              have w287 : dt279 79 12 = (u2 (u2 (u2 dt153 79 12 0) 79 19 (dt153 79 17)) 79 21 (-1)) 79 12 := hF281 79 (by decide) 12
              have w288 : dt279 79 13 = (u2 (u2 (u2 dt153 79 12 0) 79 19 (dt153 79 17)) 79 21 (-1)) 79 13 := hF281 79 (by decide) 13
              have w289 : dt279 79 14 = (u2 (u2 (u2 dt153 79 12 0) 79 19 (dt153 79 17)) 79 21 (-1)) 79 14 := hF281 79 (by decide) 14
              have w290 : dt279 79 15 = (u2 (u2 (u2 dt153 79 12 0) 79 19 (dt153 79 17)) 79 21 (-1)) 79 15 := hF281 79 (by decide) 15
              have w291 : dt279 79 16 = (u2 (u2 (u2 dt153 79 12 0) 79 19 (dt153 79 17)) 79 21 (-1)) 79 16 := hF281 79 (by decide) 16
              have w292 : dt279 79 17 = (u2 (u2 (u2 dt153 79 12 0) 79 19 (dt153 79 17)) 79 21 (-1)) 79 17 := hF281 79 (by decide) 17
              have w293 : dt279 79 18 = (u2 (u2 (u2 dt153 79 12 0) 79 19 (dt153 79 17)) 79 21 (-1)) 79 18 := hF281 79 (by decide) 18
              have w294 : dt279 79 19 = (u2 (u2 (u2 dt153 79 12 0) 79 19 (dt153 79 17)) 79 21 (-1)) 79 19 := hF281 79 (by decide) 19
              have w295 : dt279 79 20 = (u2 (u2 (u2 dt153 79 12 0) 79 19 (dt153 79 17)) 79 21 (-1)) 79 20 := hF281 79 (by decide) 20
              have w296 : dt279 79 21 = (u2 (u2 (u2 dt153 79 12 0) 79 19 (dt153 79 17)) 79 21 (-1)) 79 21 := hF281 79 (by decide) 21
              rcases h278 with ⟨rfl, h278⟩
              have r297 : 0 ≤ dt279 79 10 ∧ dt279 79 10 ≤ 24 := InvC_get hI280 79 10 rfl rfl
              refine go_retq PM174 (k := 2) (r := some (.inl (dt279 79 10))) (w1 := (SH, dt279)) rfl ?_
              exact ⟨dt279, rfl, hI280, hF282, ⟨_, rfl, (by first | exact bnd r297 (by decide) (by decide) | exact ⟨by (first | omega | (have z_ := unhid u2_; omega)), by (first | omega | (have z_ := unhid u2_; omega))⟩), ⟨by first | exact True.intro | with_reducible assumption | exact unhid (by with_reducible assumption) | rfl | (first | omega | (have z_ := unhid u2_; omega)) | trivial, by first | exact True.intro | with_reducible assumption | exact unhid (by with_reducible assumption) | rfl | (first | omega | (have z_ := unhid u2_; omega)) | trivial, by first | exact TRS_y (by unfold okT; (first | omega | (have z_ := unhid u2_; omega))) rfl (by (first | omega | (have z_ := unhid u2_; omega))) (by (first | omega | (have z_ := unhid u2_; omega))) | exact TRr_e (TRa_r qT) (by unfold okT; (first | omega | (have z_ := unhid u2_; omega))) hz (by (first | omega | (have z_ := unhid u2_; omega))) (fun z_ => by (first | omega | (have z_ := unhid u2_; omega))) (by decide) (by first | (rw [if_pos (by (first | omega | (have z_ := unhid u2_; omega)))]; done) | (rw [if_neg (by (first | omega | (have z_ := unhid u2_; omega)))]; (first | omega | (have z_ := unhid u2_; omega)))) (by first | (rw [if_pos (by (first | omega | (have z_ := unhid u2_; omega)))]; (first | omega | (have z_ := unhid u2_; omega))) | (rw [if_neg (by (first | omega | (have z_ := unhid u2_; omega)))]; (first | omega | (have z_ := unhid u2_; omega)))) (by first | (rw [if_pos (by (first | omega | (have z_ := unhid u2_; omega)))]; (first | omega | (have z_ := unhid u2_; omega))) | (rw [if_neg (by (first | omega | (have z_ := unhid u2_; omega)))]; (first | omega | (have z_ := unhid u2_; omega)))), by first | exact TSR_n (by (first | omega | (have z_ := unhid u2_; omega))) (fun j _ => rfl) | exact TSR_n (by (first | omega | (have z_ := unhid u2_; omega))) (fun j _ => congrFun E80277 j) | exact TSR_n (by (first | omega | (have z_ := unhid u2_; omega))) (fun j hj => (h278 j hj).trans (congrFun E80277 j)) | exact TSR_y (fun j => congrFun E80277 j) h278 ⟨by (first | omega | (have z_ := unhid u2_; omega)), by (first | omega | (have z_ := unhid u2_; omega))⟩ (by (first | omega | (have z_ := unhid u2_; omega))) (fun q hq => qAR (by (first | omega | (have z_ := unhid u2_; omega))) q (by (first | omega | (have z_ := unhid u2_; omega)))) ⟨by (first | omega | (have z_ := unhid u2_; omega)), ⟨by (first | omega | (have z_ := unhid u2_; omega)), by (first | omega | (have z_ := unhid u2_; omega))⟩, by (first | omega | (have z_ := unhid u2_; omega))⟩⟩⟩⟩
            · skip
              replace c225 := hid c225
              obtain ⟨hgi_, hgc_, hgF_⟩ := TRa_g qT rfl
              have cr_ := CUR_R hgc_ (.inl rfl)
              refine go_toq PM174 (k := 3) (pc' := 91) (L' := [some (.inr (.inr (some 79))), some (.inl 0), some (.inl p2), some (.inl 1)]) (st' := [.inr (.inr (some 79))]) (w' := (SH, dt153)) rfl ?_
              have u3_ := hid (And.intro (unhid i159) (And.intro (unhid i160) (And.intro (unhid i161) (And.intro (unhid qf_) (And.intro (unhid hm1) (And.intro (unhid c168) (unhid c225)))))))
              refine go_callq PM174 PM172 (Q' := _) rfl rfl rfl rfl (sp_X6_anAct_g0 L xs sio (d + 28) dt153 hI154 (mB (dt 85) (dt 79 12)) (dt 79 12).toNat (dt 79 12).toNat (gpos (KF 0 (mB (dt 85) (dt 79 12)) (dt 79 12).toNat) (VF (mB (dt 85) (dt 79 12)) (dt 79 12).toNat) (dt153 79 10).toNat) (by rw [show dt153 85 = dt 85 from funext (hF155 85 (by decide)), show dt153 79 12 = dt 79 12 by first | with_reducible assumption | exact unhid (by with_reducible assumption) | (first | omega | (have z_ := unhid u3_; omega))]) (by (first | omega | (have z_ := unhid u3_; omega))) hz hn5 hgc_ hgi_ hn5  (by first | exact True.intro | with_reducible assumption | exact unhid (by with_reducible assumption) | rfl | (first | omega | (have z_ := unhid u3_; omega)) | trivial) (by first | exact True.intro | with_reducible assumption | exact unhid (by with_reducible assumption) | rfl | (first | omega | (have z_ := unhid u3_; omega)) | trivial)) ?_
              rintro _ _ ⟨dt299, rfl, hI300, hF301, h298⟩
              refine ⟨rfl, ?_⟩
              have hF302 : Fr [79, 80, 82, 83, 84] dt dt299 := Fr_tr hF155 hF301 (by decide)
              have E80303 : dt299 80 = dt 80 := (funext (hF301 80 (by decide))).trans hE80
              rcases h298 with ⟨rfl, h298⟩ | ⟨rfl, h298⟩
              · skip
                obtain ⟨h298_0, h298_1, h298_2, h298_3⟩ := h298
                have T304 : TRa (mB (dt 85) (dt 79 12)) (dt 79 12).toNat (dt 79 12).toNat dt299 (if (0 : Int) = 0 then dt153 79 10 else dt153 79 10 + 1) 0 := TRa_s h298_0 hgi_ rfl (by (first | omega | (have z_ := unhid u3_; omega))) hz (FXa hz (by (first | omega | (have z_ := unhid u3_; omega))) hgi_ hgF_ (by (first | omega | (have z_ := unhid u3_; omega))) (by (first | omega | (have z_ := unhid u3_; omega))))
                have r305 : 0 ≤ dt299 79 10 ∧ dt299 79 10 ≤ 24 := InvC_get hI300 79 10 rfl rfl
                refine go_toq PM174 (k := 9) (pc' := 117) (L' := [some (.inr (.inr (some 79))), some (.inl 0), some (.inl p2), some (.inl 0)]) (st' := [.inl ((dt299 79 10) + 0), .inr (.inr (some 79))]) (w' := (SH, dt299)) rfl ?_
                have hI306 : InvC (u2 dt299 79 10 ((dt299 79 10) + 0)) := InvC_u2 hI300 (lo := 0) (hi := 24) rfl rfl rfl (by (first | omega | (have z_ := unhid u3_; omega))) (by (first | omega | (have z_ := unhid u3_; omega)))
                have hF307 : Fr [79, 80, 82, 83, 84] dt (u2 dt299 79 10 ((dt299 79 10) + 0)) := Fr_u2 hF302 (by decide)
                have w308 : (u2 dt299 79 10 ((dt299 79 10) + 0)) 79 2 = dt299 79 2 := rfl
                have w309 : (u2 dt299 79 10 ((dt299 79 10) + 0)) 79 9 = dt299 79 9 := rfl
                have w310 : (u2 dt299 79 10 ((dt299 79 10) + 0)) 79 10 = (dt299 79 10) + 0 := rfl
                have w311 : (u2 dt299 79 10 ((dt299 79 10) + 0)) 79 11 = dt299 79 11 := rfl
                have w312 : (u2 dt299 79 10 ((dt299 79 10) + 0)) 79 12 = dt299 79 12 := rfl
                have w313 : (u2 dt299 79 10 ((dt299 79 10) + 0)) 79 13 = dt299 79 13 := rfl
                have w314 : (u2 dt299 79 10 ((dt299 79 10) + 0)) 79 14 = dt299 79 14 := rfl
                have w315 : (u2 dt299 79 10 ((dt299 79 10) + 0)) 79 15 = dt299 79 15 := rfl
                have w316 : (u2 dt299 79 10 ((dt299 79 10) + 0)) 79 16 = dt299 79 16 := rfl
                have w317 : (u2 dt299 79 10 ((dt299 79 10) + 0)) 79 17 = dt299 79 17 := rfl
                have w318 : (u2 dt299 79 10 ((dt299 79 10) + 0)) 79 18 = dt299 79 18 := rfl
                have w319 : (u2 dt299 79 10 ((dt299 79 10) + 0)) 79 19 = dt299 79 19 := rfl
                have w320 : (u2 dt299 79 10 ((dt299 79 10) + 0)) 79 20 = dt299 79 20 := rfl
                have w321 : (u2 dt299 79 10 ((dt299 79 10) + 0)) 79 21 = dt299 79 21 := rfl
                have E80322 : (u2 dt299 79 10 ((dt299 79 10) + 0)) 80 = dt 80 := (funext fun _ => u2_ne (fun z => absurd z.1 (by decide))).trans E80303
                have T323 : TRa (mB (dt 85) (dt 79 12)) (dt 79 12).toNat (dt 79 12).toNat (u2 dt299 79 10 ((dt299 79 10) + 0)) ((u2 dt299 79 10 ((dt299 79 10) + 0)) 79 10) 0 := TRa_x T304 rfl rfl rfl rfl rfl rfl (fun z_ => by first | (rw [if_neg (by (first | omega | (have z_ := unhid u3_; omega)))]; (first | omega | (have z_ := unhid u3_; omega))) | (first | omega | (have z_ := unhid u3_; omega)))
                refine go_smpq PM174 (L' := [some (.inr (.inr (some 79))), some (.inl 0), some (.inl p2), some (.inl 0)]) (st' := []) (w' := (SH, (u2 dt299 79 10 ((dt299 79 10) + 0)))) rfl rfl (s_pf rfl rfl rfl rfl (by first | exact bndp r305 (by decide) (by decide) | exact ⟨by (first | omega | (have z_ := unhid u3_; omega)), by (first | omega | (have z_ := unhid u3_; omega))⟩)) ?_
                refine go_toq PM174 (k := 1) (pc' := 75) (L' := [some (.inr (.inr (some 79))), some (.inl 0), some (.inl p2), some (.inl 0)]) (st' := []) (w' := (SH, (u2 dt299 79 10 ((dt299 79 10) + 0)))) rfl ?_
                exact GO.le (ih_loop167 0 (u2 dt299 79 10 ((dt299 79 10) + 0)) hI306 hF307 (by first | with_reducible assumption | exact unhid (by with_reducible assumption) | (first | omega | (have z_ := unhid u3_; omega)) | exact (InvC_get (by assumption) 79 15 rfl rfl).2) (by first | exact T323 | exact TRa_c T323 (by (first | omega | (have z_ := unhid u3_; omega)))) (by first | with_reducible assumption | exact unhid (by with_reducible assumption) | (first | omega | (have z_ := unhid u3_; omega)) | exact (InvC_get (by assumption) 79 15 rfl rfl).2) (by first | with_reducible assumption | exact unhid (by with_reducible assumption) | (first | omega | (have z_ := unhid u3_; omega)) | exact (InvC_get (by assumption) 79 15 rfl rfl).2) (by first | with_reducible assumption | exact unhid (by with_reducible assumption) | (first | omega | (have z_ := unhid u3_; omega)) | exact (InvC_get (by assumption) 79 15 rfl rfl).2) (by first | with_reducible assumption | exact unhid (by with_reducible assumption) | (first | omega | (have z_ := unhid u3_; omega)) | exact (InvC_get (by assumption) 79 15 rfl rfl).2) (by first | with_reducible assumption | exact unhid (by with_reducible assumption) | (first | omega | (have z_ := unhid u3_; omega)) | exact (InvC_get (by assumption) 79 15 rfl rfl).2) (by first | with_reducible assumption | exact unhid (by with_reducible assumption) | (first | omega | (have z_ := unhid u3_; omega)) | exact (InvC_get (by assumption) 79 15 rfl rfl).2) (by first | with_reducible assumption | exact unhid (by with_reducible assumption) | (first | omega | (have z_ := unhid u3_; omega)) | exact (InvC_get (by assumption) 79 15 rfl rfl).2) (by first | exact fun _ q hq => by exfalso; (first | omega | (have z_ := unhid u3_; omega)) | (intro z_ q hq; exfalso; (first | omega | (have z_ := unhid u3_; omega))) | (intro z_ q hq; exact hI q (by (first | omega | (have z_ := unhid u3_; omega))))) (by exact E80322) (by (first | omega | (have z_ := unhid u3_; omega)))) ⟨.inl rfl, .inl rfl, .inl rfl, .inl rfl, trivial⟩
              · skip
                obtain ⟨h298_0, h298_1, h298_2, h298_3, h298_4, h298_5, h298_6, h298_7, h298_8, h298_9, h298_10, h298_11⟩ := h298
                have T324 : TRa (mB (dt 85) (dt 79 12)) (dt 79 12).toNat (dt 79 12).toNat dt299 (if (1 : Int) = 0 then dt153 79 10 else dt153 79 10 + 1) 1 := TRa_s h298_0 hgi_ rfl (by (first | omega | (have z_ := unhid u3_; omega))) hz (FXa hz (by (first | omega | (have z_ := unhid u3_; omega))) hgi_ hgF_ (by (first | omega | (have z_ := unhid u3_; omega))) (by (first | omega | (have z_ := unhid u3_; omega))))
                have AR325 : ∀ q : Nat, (q : Int) < dt153 79 10 + 1 → ARF (dt299 82) (q : Int) (KF 0 (mB (dt 85) (dt 79 12)) (dt 79 12).toNat) (VF (mB (dt 85) (dt 79 12)) (dt 79 12).toNat) (gpos (KF 0 (mB (dt 85) (dt 79 12)) (dt 79 12).toNat) (VF (mB (dt 85) (dt 79 12)) (dt 79 12).toNat) q) := by intro q hq; by_cases eq_ : (q : Int) < dt153 79 10; exact ARF_k (qAR (by (first | omega | (have z_ := unhid u3_; omega))) q eq_) (by (first | omega | (have z_ := unhid u3_; omega))) (fun j hj => h298_3 j (by (first | omega | (have z_ := unhid u3_; omega)))); have eq2_ : q = (dt153 79 10).toNat := (by (first | omega | (have z_ := unhid u3_; omega))); subst eq2_; rw [show (((dt153 79 10).toNat : Nat) : Int) = dt153 79 10 by first | with_reducible assumption | exact unhid (by with_reducible assumption) | (first | omega | (have z_ := unhid u3_; omega))]; exact h298_2
                have r326 : 0 ≤ dt299 79 10 ∧ dt299 79 10 ≤ 24 := InvC_get hI300 79 10 rfl rfl
                refine go_toq PM174 (k := 10) (pc' := 117) (L' := [some (.inr (.inr (some 79))), some (.inl 0), some (.inl p2), some (.inl 1)]) (st' := [.inl ((dt299 79 10) + 1), .inr (.inr (some 79))]) (w' := (SH, dt299)) rfl ?_
                have hI327 : InvC (u2 dt299 79 10 ((dt299 79 10) + 1)) := InvC_u2 hI300 (lo := 0) (hi := 24) rfl rfl rfl (by (first | omega | (have z_ := unhid u3_; omega))) (by (first | omega | (have z_ := unhid u3_; omega)))
                have hF328 : Fr [79, 80, 82, 83, 84] dt (u2 dt299 79 10 ((dt299 79 10) + 1)) := Fr_u2 hF302 (by decide)
                have w329 : (u2 dt299 79 10 ((dt299 79 10) + 1)) 79 2 = dt299 79 2 := rfl
                have w330 : (u2 dt299 79 10 ((dt299 79 10) + 1)) 79 9 = dt299 79 9 := rfl
                have w331 : (u2 dt299 79 10 ((dt299 79 10) + 1)) 79 10 = (dt299 79 10) + 1 := rfl
                have w332 : (u2 dt299 79 10 ((dt299 79 10) + 1)) 79 11 = dt299 79 11 := rfl
                have w333 : (u2 dt299 79 10 ((dt299 79 10) + 1)) 79 12 = dt299 79 12 := rfl
                have w334 : (u2 dt299 79 10 ((dt299 79 10) + 1)) 79 13 = dt299 79 13 := rfl
                have w335 : (u2 dt299 79 10 ((dt299 79 10) + 1)) 79 14 = dt299 79 14 := rfl
                have w336 : (u2 dt299 79 10 ((dt299 79 10) + 1)) 79 15 = dt299 79 15 := rfl
                have w337 : (u2 dt299 79 10 ((dt299 79 10) + 1)) 79 16 = dt299 79 16 := rfl
                have w338 : (u2 dt299 79 10 ((dt299 79 10) + 1)) 79 17 = dt299 79 17 := rfl
                have w339 : (u2 dt299 79 10 ((dt299 79 10) + 1)) 79 18 = dt299 79 18 := rfl
                have w340 : (u2 dt299 79 10 ((dt299 79 10) + 1)) 79 19 = dt299 79 19 := rfl
                have w341 : (u2 dt299 79 10 ((dt299 79 10) + 1)) 79 20 = dt299 79 20 := rfl
                have w342 : (u2 dt299 79 10 ((dt299 79 10) + 1)) 79 21 = dt299 79 21 := rfl
                have E80343 : (u2 dt299 79 10 ((dt299 79 10) + 1)) 80 = dt 80 := (funext fun _ => u2_ne (fun z => absurd z.1 (by decide))).trans E80303
                have T344 : TRa (mB (dt 85) (dt 79 12)) (dt 79 12).toNat (dt 79 12).toNat (u2 dt299 79 10 ((dt299 79 10) + 1)) ((u2 dt299 79 10 ((dt299 79 10) + 1)) 79 10) 1 := TRa_x T324 rfl rfl rfl rfl rfl rfl (fun z_ => by first | (rw [if_neg (by (first | omega | (have z_ := unhid u3_; omega)))]; (first | omega | (have z_ := unhid u3_; omega))) | (first | omega | (have z_ := unhid u3_; omega)))
                refine go_smpq PM174 (L' := [some (.inr (.inr (some 79))), some (.inl 0), some (.inl p2), some (.inl 1)]) (st' := []) (w' := (SH, (u2 dt299 79 10 ((dt299 79 10) + 1)))) rfl rfl (s_pf rfl rfl rfl rfl (by first | exact bndp r326 (by decide) (by decide) | exact ⟨by (first | omega | (have z_ := unhid u3_; omega)), by (first | omega | (have z_ := unhid u3_; omega))⟩)) ?_
                refine go_toq PM174 (k := 1) (pc' := 75) (L' := [some (.inr (.inr (some 79))), some (.inl 0), some (.inl p2), some (.inl 1)]) (st' := []) (w' := (SH, (u2 dt299 79 10 ((dt299 79 10) + 1)))) rfl ?_
                exact GO.le (ih_loop167 1 (u2 dt299 79 10 ((dt299 79 10) + 1)) hI327 hF328 (by first | with_reducible assumption | exact unhid (by with_reducible assumption) | (first | omega | (have z_ := unhid u3_; omega)) | exact (InvC_get (by assumption) 79 15 rfl rfl).2) (by first | exact T344 | exact TRa_c T344 (by (first | omega | (have z_ := unhid u3_; omega)))) (by first | with_reducible assumption | exact unhid (by with_reducible assumption) | (first | omega | (have z_ := unhid u3_; omega)) | exact (InvC_get (by assumption) 79 15 rfl rfl).2) (by first | with_reducible assumption | exact unhid (by with_reducible assumption) | (first | omega | (have z_ := unhid u3_; omega)) | exact (InvC_get (by assumption) 79 15 rfl rfl).2) (by first | with_reducible assumption | exact unhid (by with_reducible assumption) | (first | omega | (have z_ := unhid u3_; omega)) | exact (InvC_get (by assumption) 79 15 rfl rfl).2) (by first | with_reducible assumption | exact unhid (by with_reducible assumption) | (first | omega | (have z_ := unhid u3_; omega)) | exact (InvC_get (by assumption) 79 15 rfl rfl).2) (by first | with_reducible assumption | exact unhid (by with_reducible assumption) | (first | omega | (have z_ := unhid u3_; omega)) | exact (InvC_get (by assumption) 79 15 rfl rfl).2) (by first | with_reducible assumption | exact unhid (by with_reducible assumption) | (first | omega | (have z_ := unhid u3_; omega)) | exact (InvC_get (by assumption) 79 15 rfl rfl).2) (by first | with_reducible assumption | exact unhid (by with_reducible assumption) | (first | omega | (have z_ := unhid u3_; omega)) | exact (InvC_get (by assumption) 79 15 rfl rfl).2) (by first | exact fun _ q hq => by exfalso; (first | omega | (have z_ := unhid u3_; omega)) | (intro z_ q hq; exfalso; (first | omega | (have z_ := unhid u3_; omega))) | (intro z_ q hq; exact AR325 q (by (first | omega | (have z_ := unhid u3_; omega))))) (by exact E80343) (by (first | omega | (have z_ := unhid u3_; omega)))) ⟨.inl rfl, .inl rfl, .inl rfl, .inl rfl, trivial⟩
      exact GO.le (loop167 _ 1 dt94 hI95 hF97 (by first | with_reducible assumption | omega | exact (InvC_get (by assumption) 79 15 rfl rfl).2) (by first | exact T100 | exact TRa_c T100 (by omega)) (by first | with_reducible assumption | omega | exact (InvC_get (by assumption) 79 15 rfl rfl).2) (by first | with_reducible assumption | omega | exact (InvC_get (by assumption) 79 15 rfl rfl).2) (by first | with_reducible assumption | omega | exact (InvC_get (by assumption) 79 15 rfl rfl).2) (by first | with_reducible assumption | omega | exact (InvC_get (by assumption) 79 15 rfl rfl).2) (by first | with_reducible assumption | omega | exact (InvC_get (by assumption) 79 15 rfl rfl).2) (by first | with_reducible assumption | omega | exact (InvC_get (by assumption) 79 15 rfl rfl).2) (by first | with_reducible assumption | omega | exact (InvC_get (by assumption) 79 15 rfl rfl).2) (by first | exact fun _ q hq => by exfalso; omega | (intro z_ q hq; exfalso; omega) | (intro z_ q hq; exact hI q (by omega))) (by exact E8098) (Nat.lt_succ_self _)) ⟨.inl rfl, .inl rfl, .inl rfl, .inl rfl, trivial⟩
    · skip
      refine go_toq PM174 (k := 3) (pc' := 34) (L' := [some (.inr (.inr (some 79))), some (.inl 0), some (.inl p2), none]) (st' := [.inl 0, .inr (.inr (some 79))]) (w' := (SH, (u2 dt 79 17 0))) rfl ?_
      have hI345 : InvC (u2 (u2 dt 79 17 0) 79 12 0) := InvC_u2 hI5 (lo := 0) (hi := 500) rfl rfl rfl (by decide) (by decide)
      have hF346 : Fr [79, 80, 82, 83, 84] dt (u2 (u2 dt 79 17 0) 79 12 0) := Fr_u2 hF6 (by decide)
      have w347 : (u2 (u2 dt 79 17 0) 79 12 0) 79 2 = (u2 dt 79 17 0) 79 2 := rfl
      have w348 : (u2 (u2 dt 79 17 0) 79 12 0) 79 9 = (u2 dt 79 17 0) 79 9 := rfl
      have w349 : (u2 (u2 dt 79 17 0) 79 12 0) 79 10 = (u2 dt 79 17 0) 79 10 := rfl
      have w350 : (u2 (u2 dt 79 17 0) 79 12 0) 79 11 = (u2 dt 79 17 0) 79 11 := rfl
      have w351 : (u2 (u2 dt 79 17 0) 79 12 0) 79 12 = 0 := rfl
      have w352 : (u2 (u2 dt 79 17 0) 79 12 0) 79 13 = (u2 dt 79 17 0) 79 13 := rfl
      have w353 : (u2 (u2 dt 79 17 0) 79 12 0) 79 14 = (u2 dt 79 17 0) 79 14 := rfl
      have w354 : (u2 (u2 dt 79 17 0) 79 12 0) 79 15 = (u2 dt 79 17 0) 79 15 := rfl
      have w355 : (u2 (u2 dt 79 17 0) 79 12 0) 79 16 = (u2 dt 79 17 0) 79 16 := rfl
      have w356 : (u2 (u2 dt 79 17 0) 79 12 0) 79 17 = (u2 dt 79 17 0) 79 17 := rfl
      have w357 : (u2 (u2 dt 79 17 0) 79 12 0) 79 18 = (u2 dt 79 17 0) 79 18 := rfl
      have w358 : (u2 (u2 dt 79 17 0) 79 12 0) 79 19 = (u2 dt 79 17 0) 79 19 := rfl
      have w359 : (u2 (u2 dt 79 17 0) 79 12 0) 79 20 = (u2 dt 79 17 0) 79 20 := rfl
      have w360 : (u2 (u2 dt 79 17 0) 79 12 0) 79 21 = (u2 dt 79 17 0) 79 21 := rfl
      have E80361 : (u2 (u2 dt 79 17 0) 79 12 0) 80 = dt 80 := (funext fun _ => u2_ne (fun z => absurd z.1 (by decide))).trans E8021
      refine go_smpq PM174 (L' := [some (.inr (.inr (some 79))), some (.inl 0), some (.inl p2), none]) (st' := []) (w' := (SH, (u2 (u2 dt 79 17 0) 79 12 0))) rfl rfl (s_pf rfl rfl rfl rfl ⟨by decide, by decide⟩) ?_
      refine go_toq PM174 (k := 2) (pc' := 39) (L' := [some (.inr (.inr (some 79))), some (.inl 0), some (.inl p2), none]) (st' := [.inl 0, .inr (.inr (some 79))]) (w' := (SH, (u2 (u2 dt 79 17 0) 79 12 0))) rfl ?_
      have hI362 : InvC (u2 (u2 (u2 dt 79 17 0) 79 12 0) 79 19 0) := InvC_u2 hI345 (lo := -2147483648) (hi := 2147483647) rfl rfl rfl (by decide) (by decide)
      have hF363 : Fr [79, 80, 82, 83, 84] dt (u2 (u2 (u2 dt 79 17 0) 79 12 0) 79 19 0) := Fr_u2 hF346 (by decide)
      have w364 : (u2 (u2 (u2 dt 79 17 0) 79 12 0) 79 19 0) 79 2 = (u2 (u2 dt 79 17 0) 79 12 0) 79 2 := rfl
      have w365 : (u2 (u2 (u2 dt 79 17 0) 79 12 0) 79 19 0) 79 9 = (u2 (u2 dt 79 17 0) 79 12 0) 79 9 := rfl
      have w366 : (u2 (u2 (u2 dt 79 17 0) 79 12 0) 79 19 0) 79 10 = (u2 (u2 dt 79 17 0) 79 12 0) 79 10 := rfl
      have w367 : (u2 (u2 (u2 dt 79 17 0) 79 12 0) 79 19 0) 79 11 = (u2 (u2 dt 79 17 0) 79 12 0) 79 11 := rfl
      have w368 : (u2 (u2 (u2 dt 79 17 0) 79 12 0) 79 19 0) 79 12 = (u2 (u2 dt 79 17 0) 79 12 0) 79 12 := rfl
      have w369 : (u2 (u2 (u2 dt 79 17 0) 79 12 0) 79 19 0) 79 13 = (u2 (u2 dt 79 17 0) 79 12 0) 79 13 := rfl
      have w370 : (u2 (u2 (u2 dt 79 17 0) 79 12 0) 79 19 0) 79 14 = (u2 (u2 dt 79 17 0) 79 12 0) 79 14 := rfl
      have w371 : (u2 (u2 (u2 dt 79 17 0) 79 12 0) 79 19 0) 79 15 = (u2 (u2 dt 79 17 0) 79 12 0) 79 15 := rfl
      have w372 : (u2 (u2 (u2 dt 79 17 0) 79 12 0) 79 19 0) 79 16 = (u2 (u2 dt 79 17 0) 79 12 0) 79 16 := rfl
      have w373 : (u2 (u2 (u2 dt 79 17 0) 79 12 0) 79 19 0) 79 17 = (u2 (u2 dt 79 17 0) 79 12 0) 79 17 := rfl
      have w374 : (u2 (u2 (u2 dt 79 17 0) 79 12 0) 79 19 0) 79 18 = (u2 (u2 dt 79 17 0) 79 12 0) 79 18 := rfl
      have w375 : (u2 (u2 (u2 dt 79 17 0) 79 12 0) 79 19 0) 79 19 = 0 := rfl
      have w376 : (u2 (u2 (u2 dt 79 17 0) 79 12 0) 79 19 0) 79 20 = (u2 (u2 dt 79 17 0) 79 12 0) 79 20 := rfl
      have w377 : (u2 (u2 (u2 dt 79 17 0) 79 12 0) 79 19 0) 79 21 = (u2 (u2 dt 79 17 0) 79 12 0) 79 21 := rfl
      have E80378 : (u2 (u2 (u2 dt 79 17 0) 79 12 0) 79 19 0) 80 = dt 80 := (funext fun _ => u2_ne (fun z => absurd z.1 (by decide))).trans E80361
      refine go_smpq PM174 (L' := [some (.inr (.inr (some 79))), some (.inl 0), some (.inl p2), none]) (st' := []) (w' := (SH, (u2 (u2 (u2 dt 79 17 0) 79 12 0) 79 19 0))) rfl rfl (s_pf rfl rfl rfl rfl ⟨by decide, by decide⟩) ?_
      refine go_toq PM174 (k := 2) (pc' := 44) (L' := [some (.inr (.inr (some 79))), some (.inl 0), some (.inl p2), none]) (st' := [.inl (-1), .inr (.inr (some 79))]) (w' := (SH, (u2 (u2 (u2 dt 79 17 0) 79 12 0) 79 19 0))) rfl ?_
      have hI379 : InvC (u2 (u2 (u2 (u2 dt 79 17 0) 79 12 0) 79 19 0) 79 21 (-1)) := InvC_u2 hI362 (lo := -2147483648) (hi := 2147483647) rfl rfl rfl (by decide) (by decide)
      have hF380 : Fr [79, 80, 82, 83, 84] dt (u2 (u2 (u2 (u2 dt 79 17 0) 79 12 0) 79 19 0) 79 21 (-1)) := Fr_u2 hF363 (by decide)
      have w381 : (u2 (u2 (u2 (u2 dt 79 17 0) 79 12 0) 79 19 0) 79 21 (-1)) 79 2 = (u2 (u2 (u2 dt 79 17 0) 79 12 0) 79 19 0) 79 2 := rfl
      have w382 : (u2 (u2 (u2 (u2 dt 79 17 0) 79 12 0) 79 19 0) 79 21 (-1)) 79 9 = (u2 (u2 (u2 dt 79 17 0) 79 12 0) 79 19 0) 79 9 := rfl
      have w383 : (u2 (u2 (u2 (u2 dt 79 17 0) 79 12 0) 79 19 0) 79 21 (-1)) 79 10 = (u2 (u2 (u2 dt 79 17 0) 79 12 0) 79 19 0) 79 10 := rfl
      have w384 : (u2 (u2 (u2 (u2 dt 79 17 0) 79 12 0) 79 19 0) 79 21 (-1)) 79 11 = (u2 (u2 (u2 dt 79 17 0) 79 12 0) 79 19 0) 79 11 := rfl
      have w385 : (u2 (u2 (u2 (u2 dt 79 17 0) 79 12 0) 79 19 0) 79 21 (-1)) 79 12 = (u2 (u2 (u2 dt 79 17 0) 79 12 0) 79 19 0) 79 12 := rfl
      have w386 : (u2 (u2 (u2 (u2 dt 79 17 0) 79 12 0) 79 19 0) 79 21 (-1)) 79 13 = (u2 (u2 (u2 dt 79 17 0) 79 12 0) 79 19 0) 79 13 := rfl
      have w387 : (u2 (u2 (u2 (u2 dt 79 17 0) 79 12 0) 79 19 0) 79 21 (-1)) 79 14 = (u2 (u2 (u2 dt 79 17 0) 79 12 0) 79 19 0) 79 14 := rfl
      have w388 : (u2 (u2 (u2 (u2 dt 79 17 0) 79 12 0) 79 19 0) 79 21 (-1)) 79 15 = (u2 (u2 (u2 dt 79 17 0) 79 12 0) 79 19 0) 79 15 := rfl
      have w389 : (u2 (u2 (u2 (u2 dt 79 17 0) 79 12 0) 79 19 0) 79 21 (-1)) 79 16 = (u2 (u2 (u2 dt 79 17 0) 79 12 0) 79 19 0) 79 16 := rfl
      have w390 : (u2 (u2 (u2 (u2 dt 79 17 0) 79 12 0) 79 19 0) 79 21 (-1)) 79 17 = (u2 (u2 (u2 dt 79 17 0) 79 12 0) 79 19 0) 79 17 := rfl
      have w391 : (u2 (u2 (u2 (u2 dt 79 17 0) 79 12 0) 79 19 0) 79 21 (-1)) 79 18 = (u2 (u2 (u2 dt 79 17 0) 79 12 0) 79 19 0) 79 18 := rfl
      have w392 : (u2 (u2 (u2 (u2 dt 79 17 0) 79 12 0) 79 19 0) 79 21 (-1)) 79 19 = (u2 (u2 (u2 dt 79 17 0) 79 12 0) 79 19 0) 79 19 := rfl
      have w393 : (u2 (u2 (u2 (u2 dt 79 17 0) 79 12 0) 79 19 0) 79 21 (-1)) 79 20 = (u2 (u2 (u2 dt 79 17 0) 79 12 0) 79 19 0) 79 20 := rfl
      have w394 : (u2 (u2 (u2 (u2 dt 79 17 0) 79 12 0) 79 19 0) 79 21 (-1)) 79 21 = (-1) := rfl
      have E80395 : (u2 (u2 (u2 (u2 dt 79 17 0) 79 12 0) 79 19 0) 79 21 (-1)) 80 = dt 80 := (funext fun _ => u2_ne (fun z => absurd z.1 (by decide))).trans E80378
      refine go_smpq PM174 (L' := [some (.inr (.inr (some 79))), some (.inl 0), some (.inl p2), none]) (st' := []) (w' := (SH, (u2 (u2 (u2 (u2 dt 79 17 0) 79 12 0) 79 19 0) 79 21 (-1)))) rfl rfl (s_pf rfl rfl rfl rfl ⟨by decide, by decide⟩) ?_
      refine go_retq PM174 (k := 1) (r := some (.inl (-1))) (w1 := (SH, (u2 (u2 (u2 (u2 dt 79 17 0) 79 12 0) 79 19 0) 79 21 (-1)))) rfl ?_
      exact ⟨(u2 (u2 (u2 (u2 dt 79 17 0) 79 12 0) 79 19 0) 79 21 (-1)), rfl, hI379, hF380, ⟨_, rfl, ⟨by decide, by decide⟩, ⟨by first | exact True.intro | with_reducible assumption | rfl | omega | trivial, by first | exact True.intro | with_reducible assumption | rfl | omega | trivial, by first | exact TRS_y (by unfold okT; omega) rfl (by omega) (by omega) | exact TRr_e (TRa_r ) (by unfold okT; omega) hz (by omega) (fun z_ => by omega) (by decide) (by first | (rw [if_pos (by omega)]; done) | (rw [if_neg (by omega)]; omega)) (by first | (rw [if_pos (by omega)]; omega) | (rw [if_neg (by omega)]; omega)) (by first | (rw [if_pos (by omega)]; omega) | (rw [if_neg (by omega)]; omega)), by first | exact TSR_n (by omega) (fun j _ => rfl) | exact TSR_n (by omega) (fun j _ => congrFun E80395 j) | exact TSR_n (by omega) (fun j hj => (hI j hj).trans (congrFun rfl j)) | exact TSR_y (fun j => congrFun rfl j) hI ⟨by omega, by omega⟩ (by omega) (fun q hq => qAR (by omega) q (by omega)) ⟨by omega, ⟨by omega, by omega⟩, by omega⟩⟩⟩⟩
  · skip
    refine go_toq PM174 (k := 3) (pc' := 34) (L' := [some (.inr (.inr (some 79))), some (.inl 0), some (.inl p2), none]) (st' := [.inl 0, .inr (.inr (some 79))]) (w' := (SH, (u2 dt 79 17 0))) rfl ?_
    have hI396 : InvC (u2 (u2 dt 79 17 0) 79 12 0) := InvC_u2 hI5 (lo := 0) (hi := 500) rfl rfl rfl (by decide) (by decide)
    have hF397 : Fr [79, 80, 82, 83, 84] dt (u2 (u2 dt 79 17 0) 79 12 0) := Fr_u2 hF6 (by decide)
    have w398 : (u2 (u2 dt 79 17 0) 79 12 0) 79 2 = (u2 dt 79 17 0) 79 2 := rfl
    have w399 : (u2 (u2 dt 79 17 0) 79 12 0) 79 9 = (u2 dt 79 17 0) 79 9 := rfl
    have w400 : (u2 (u2 dt 79 17 0) 79 12 0) 79 10 = (u2 dt 79 17 0) 79 10 := rfl
    have w401 : (u2 (u2 dt 79 17 0) 79 12 0) 79 11 = (u2 dt 79 17 0) 79 11 := rfl
    have w402 : (u2 (u2 dt 79 17 0) 79 12 0) 79 12 = 0 := rfl
    have w403 : (u2 (u2 dt 79 17 0) 79 12 0) 79 13 = (u2 dt 79 17 0) 79 13 := rfl
    have w404 : (u2 (u2 dt 79 17 0) 79 12 0) 79 14 = (u2 dt 79 17 0) 79 14 := rfl
    have w405 : (u2 (u2 dt 79 17 0) 79 12 0) 79 15 = (u2 dt 79 17 0) 79 15 := rfl
    have w406 : (u2 (u2 dt 79 17 0) 79 12 0) 79 16 = (u2 dt 79 17 0) 79 16 := rfl
    have w407 : (u2 (u2 dt 79 17 0) 79 12 0) 79 17 = (u2 dt 79 17 0) 79 17 := rfl
    have w408 : (u2 (u2 dt 79 17 0) 79 12 0) 79 18 = (u2 dt 79 17 0) 79 18 := rfl
    have w409 : (u2 (u2 dt 79 17 0) 79 12 0) 79 19 = (u2 dt 79 17 0) 79 19 := rfl
    have w410 : (u2 (u2 dt 79 17 0) 79 12 0) 79 20 = (u2 dt 79 17 0) 79 20 := rfl
    have w411 : (u2 (u2 dt 79 17 0) 79 12 0) 79 21 = (u2 dt 79 17 0) 79 21 := rfl
    have E80412 : (u2 (u2 dt 79 17 0) 79 12 0) 80 = dt 80 := (funext fun _ => u2_ne (fun z => absurd z.1 (by decide))).trans E8021
    refine go_smpq PM174 (L' := [some (.inr (.inr (some 79))), some (.inl 0), some (.inl p2), none]) (st' := []) (w' := (SH, (u2 (u2 dt 79 17 0) 79 12 0))) rfl rfl (s_pf rfl rfl rfl rfl ⟨by decide, by decide⟩) ?_
    refine go_toq PM174 (k := 2) (pc' := 39) (L' := [some (.inr (.inr (some 79))), some (.inl 0), some (.inl p2), none]) (st' := [.inl 0, .inr (.inr (some 79))]) (w' := (SH, (u2 (u2 dt 79 17 0) 79 12 0))) rfl ?_
    have hI413 : InvC (u2 (u2 (u2 dt 79 17 0) 79 12 0) 79 19 0) := InvC_u2 hI396 (lo := -2147483648) (hi := 2147483647) rfl rfl rfl (by decide) (by decide)
    have hF414 : Fr [79, 80, 82, 83, 84] dt (u2 (u2 (u2 dt 79 17 0) 79 12 0) 79 19 0) := Fr_u2 hF397 (by decide)
    have w415 : (u2 (u2 (u2 dt 79 17 0) 79 12 0) 79 19 0) 79 2 = (u2 (u2 dt 79 17 0) 79 12 0) 79 2 := rfl
    have w416 : (u2 (u2 (u2 dt 79 17 0) 79 12 0) 79 19 0) 79 9 = (u2 (u2 dt 79 17 0) 79 12 0) 79 9 := rfl
    have w417 : (u2 (u2 (u2 dt 79 17 0) 79 12 0) 79 19 0) 79 10 = (u2 (u2 dt 79 17 0) 79 12 0) 79 10 := rfl
    have w418 : (u2 (u2 (u2 dt 79 17 0) 79 12 0) 79 19 0) 79 11 = (u2 (u2 dt 79 17 0) 79 12 0) 79 11 := rfl
    have w419 : (u2 (u2 (u2 dt 79 17 0) 79 12 0) 79 19 0) 79 12 = (u2 (u2 dt 79 17 0) 79 12 0) 79 12 := rfl
    have w420 : (u2 (u2 (u2 dt 79 17 0) 79 12 0) 79 19 0) 79 13 = (u2 (u2 dt 79 17 0) 79 12 0) 79 13 := rfl
    have w421 : (u2 (u2 (u2 dt 79 17 0) 79 12 0) 79 19 0) 79 14 = (u2 (u2 dt 79 17 0) 79 12 0) 79 14 := rfl
    have w422 : (u2 (u2 (u2 dt 79 17 0) 79 12 0) 79 19 0) 79 15 = (u2 (u2 dt 79 17 0) 79 12 0) 79 15 := rfl
    have w423 : (u2 (u2 (u2 dt 79 17 0) 79 12 0) 79 19 0) 79 16 = (u2 (u2 dt 79 17 0) 79 12 0) 79 16 := rfl
    have w424 : (u2 (u2 (u2 dt 79 17 0) 79 12 0) 79 19 0) 79 17 = (u2 (u2 dt 79 17 0) 79 12 0) 79 17 := rfl
    have w425 : (u2 (u2 (u2 dt 79 17 0) 79 12 0) 79 19 0) 79 18 = (u2 (u2 dt 79 17 0) 79 12 0) 79 18 := rfl
    have w426 : (u2 (u2 (u2 dt 79 17 0) 79 12 0) 79 19 0) 79 19 = 0 := rfl
    have w427 : (u2 (u2 (u2 dt 79 17 0) 79 12 0) 79 19 0) 79 20 = (u2 (u2 dt 79 17 0) 79 12 0) 79 20 := rfl
    have w428 : (u2 (u2 (u2 dt 79 17 0) 79 12 0) 79 19 0) 79 21 = (u2 (u2 dt 79 17 0) 79 12 0) 79 21 := rfl
    have E80429 : (u2 (u2 (u2 dt 79 17 0) 79 12 0) 79 19 0) 80 = dt 80 := (funext fun _ => u2_ne (fun z => absurd z.1 (by decide))).trans E80412
    refine go_smpq PM174 (L' := [some (.inr (.inr (some 79))), some (.inl 0), some (.inl p2), none]) (st' := []) (w' := (SH, (u2 (u2 (u2 dt 79 17 0) 79 12 0) 79 19 0))) rfl rfl (s_pf rfl rfl rfl rfl ⟨by decide, by decide⟩) ?_
    refine go_toq PM174 (k := 2) (pc' := 44) (L' := [some (.inr (.inr (some 79))), some (.inl 0), some (.inl p2), none]) (st' := [.inl (-1), .inr (.inr (some 79))]) (w' := (SH, (u2 (u2 (u2 dt 79 17 0) 79 12 0) 79 19 0))) rfl ?_
    have hI430 : InvC (u2 (u2 (u2 (u2 dt 79 17 0) 79 12 0) 79 19 0) 79 21 (-1)) := InvC_u2 hI413 (lo := -2147483648) (hi := 2147483647) rfl rfl rfl (by decide) (by decide)
    have hF431 : Fr [79, 80, 82, 83, 84] dt (u2 (u2 (u2 (u2 dt 79 17 0) 79 12 0) 79 19 0) 79 21 (-1)) := Fr_u2 hF414 (by decide)
    have w432 : (u2 (u2 (u2 (u2 dt 79 17 0) 79 12 0) 79 19 0) 79 21 (-1)) 79 2 = (u2 (u2 (u2 dt 79 17 0) 79 12 0) 79 19 0) 79 2 := rfl
    have w433 : (u2 (u2 (u2 (u2 dt 79 17 0) 79 12 0) 79 19 0) 79 21 (-1)) 79 9 = (u2 (u2 (u2 dt 79 17 0) 79 12 0) 79 19 0) 79 9 := rfl
    have w434 : (u2 (u2 (u2 (u2 dt 79 17 0) 79 12 0) 79 19 0) 79 21 (-1)) 79 10 = (u2 (u2 (u2 dt 79 17 0) 79 12 0) 79 19 0) 79 10 := rfl
    have w435 : (u2 (u2 (u2 (u2 dt 79 17 0) 79 12 0) 79 19 0) 79 21 (-1)) 79 11 = (u2 (u2 (u2 dt 79 17 0) 79 12 0) 79 19 0) 79 11 := rfl
    have w436 : (u2 (u2 (u2 (u2 dt 79 17 0) 79 12 0) 79 19 0) 79 21 (-1)) 79 12 = (u2 (u2 (u2 dt 79 17 0) 79 12 0) 79 19 0) 79 12 := rfl
    have w437 : (u2 (u2 (u2 (u2 dt 79 17 0) 79 12 0) 79 19 0) 79 21 (-1)) 79 13 = (u2 (u2 (u2 dt 79 17 0) 79 12 0) 79 19 0) 79 13 := rfl
    have w438 : (u2 (u2 (u2 (u2 dt 79 17 0) 79 12 0) 79 19 0) 79 21 (-1)) 79 14 = (u2 (u2 (u2 dt 79 17 0) 79 12 0) 79 19 0) 79 14 := rfl
    have w439 : (u2 (u2 (u2 (u2 dt 79 17 0) 79 12 0) 79 19 0) 79 21 (-1)) 79 15 = (u2 (u2 (u2 dt 79 17 0) 79 12 0) 79 19 0) 79 15 := rfl
    have w440 : (u2 (u2 (u2 (u2 dt 79 17 0) 79 12 0) 79 19 0) 79 21 (-1)) 79 16 = (u2 (u2 (u2 dt 79 17 0) 79 12 0) 79 19 0) 79 16 := rfl
    have w441 : (u2 (u2 (u2 (u2 dt 79 17 0) 79 12 0) 79 19 0) 79 21 (-1)) 79 17 = (u2 (u2 (u2 dt 79 17 0) 79 12 0) 79 19 0) 79 17 := rfl
    have w442 : (u2 (u2 (u2 (u2 dt 79 17 0) 79 12 0) 79 19 0) 79 21 (-1)) 79 18 = (u2 (u2 (u2 dt 79 17 0) 79 12 0) 79 19 0) 79 18 := rfl
    have w443 : (u2 (u2 (u2 (u2 dt 79 17 0) 79 12 0) 79 19 0) 79 21 (-1)) 79 19 = (u2 (u2 (u2 dt 79 17 0) 79 12 0) 79 19 0) 79 19 := rfl
    have w444 : (u2 (u2 (u2 (u2 dt 79 17 0) 79 12 0) 79 19 0) 79 21 (-1)) 79 20 = (u2 (u2 (u2 dt 79 17 0) 79 12 0) 79 19 0) 79 20 := rfl
    have w445 : (u2 (u2 (u2 (u2 dt 79 17 0) 79 12 0) 79 19 0) 79 21 (-1)) 79 21 = (-1) := rfl
    have E80446 : (u2 (u2 (u2 (u2 dt 79 17 0) 79 12 0) 79 19 0) 79 21 (-1)) 80 = dt 80 := (funext fun _ => u2_ne (fun z => absurd z.1 (by decide))).trans E80429
    refine go_smpq PM174 (L' := [some (.inr (.inr (some 79))), some (.inl 0), some (.inl p2), none]) (st' := []) (w' := (SH, (u2 (u2 (u2 (u2 dt 79 17 0) 79 12 0) 79 19 0) 79 21 (-1)))) rfl rfl (s_pf rfl rfl rfl rfl ⟨by decide, by decide⟩) ?_
    refine go_retq PM174 (k := 1) (r := some (.inl (-1))) (w1 := (SH, (u2 (u2 (u2 (u2 dt 79 17 0) 79 12 0) 79 19 0) 79 21 (-1)))) rfl ?_
    exact ⟨(u2 (u2 (u2 (u2 dt 79 17 0) 79 12 0) 79 19 0) 79 21 (-1)), rfl, hI430, hF431, ⟨_, rfl, ⟨by decide, by decide⟩, ⟨by first | exact True.intro | with_reducible assumption | rfl | omega | trivial, by first | exact True.intro | with_reducible assumption | rfl | omega | trivial, by first | exact TRS_y (by unfold okT; omega) rfl (by omega) (by omega) | exact TRr_e (TRa_r ) (by unfold okT; omega) hz (by omega) (fun z_ => by omega) (by decide) (by first | (rw [if_pos (by omega)]; done) | (rw [if_neg (by omega)]; omega)) (by first | (rw [if_pos (by omega)]; omega) | (rw [if_neg (by omega)]; omega)) (by first | (rw [if_pos (by omega)]; omega) | (rw [if_neg (by omega)]; omega)), by first | exact TSR_n (by omega) (fun j _ => rfl) | exact TSR_n (by omega) (fun j _ => congrFun E80446 j) | exact TSR_n (by omega) (fun j hj => (hI j hj).trans (congrFun rfl j)) | exact TSR_y (fun j => congrFun rfl j) hI ⟨by omega, by omega⟩ (by omega) (fun q hq => qAR (by omega) q (by omega)) ⟨by omega, ⟨by omega, by omega⟩, by omega⟩⟩⟩⟩
set_option maxHeartbeats 1500000 in
set_option maxRecDepth 20000 in
theorem sp_X6_text_g1 (L : Nat) (xs : Nat → Int32) (sio : Option Nat) (d : Nat) (dt : Nat → Nat → Int) (hI : InvC dt)  (p2 : Int) (h_p2 : (-2147483648) ≤ p2 ∧ p2 ≤ 2147483647)  : GO (am_XX L xs sio) (d + 38) 174 0 [some (.inr (.inr (some 79))), some (.inl 1), some (.inl p2), none] [] (SH, dt) (fun r w2 => ∃ dt2 : Nat → Nat → Int, w2 = (SH, dt2) ∧ InvC dt2 ∧ Fr [79, 80, 82, 83, 84] dt dt2 ∧ ((∃ v : Int, r = some (.inl v) ∧ ((-1) ≤ v ∧ v ≤ 24) ∧ (dt2 79 12 = 0) ∧ (dt2 79 2 = dt 79 2) ∧ (TRS 1 p2 (mB (dt 85) (dt 79 12)) (dt 79 12).toNat v (dt2 79 19) (dt2 79 21)) ∧ (TSR 1 p2 (mB (dt 85) (dt 79 12)) (dt 79 12).toNat (dt2 79 19) v (dt 80) (dt2 80))))) := by
  have hF : Fr [79, 80, 82, 83, 84] dt dt := Fr_refl
  have r1 : 0 ≤ dt 79 15 ∧ dt 79 15 ≤ 500 := InvC_get hI 79 15 rfl rfl
  have r2 : 0 ≤ dt 79 11 ∧ dt 79 11 ≤ 510 := InvC_get hI 79 11 rfl rfl
  have r3 : 0 ≤ dt 79 10 ∧ dt 79 10 ≤ 24 := InvC_get hI 79 10 rfl rfl
  have r4 : 0 ≤ dt 79 12 ∧ dt 79 12 ≤ 500 := InvC_get hI 79 12 rfl rfl
  have hz : KZ (KF 1 (mB (dt 85) (dt 79 12)) (dt 79 12).toNat) (dt 79 12).toNat := KF_z TP_n
  have hn5 : (dt 79 12).toNat ≤ 500 := by omega
  refine go_toq PM174 (k := 2) (pc' := 2) (L' := [some (.inr (.inr (some 79))), some (.inl 1), some (.inl p2), none]) (st' := [.inl 0, .inr (.inr (some 79))]) (w' := (SH, dt)) rfl ?_
  have hI5 : InvC (u2 dt 79 17 0) := InvC_u2 hI (lo := -2147483648) (hi := 2147483647) rfl rfl rfl (by decide) (by decide)
  have hF6 : Fr [79, 80, 82, 83, 84] dt (u2 dt 79 17 0) := Fr_u2 hF (by decide)
  have w7 : (u2 dt 79 17 0) 79 2 = dt 79 2 := rfl
  have w8 : (u2 dt 79 17 0) 79 9 = dt 79 9 := rfl
  have w9 : (u2 dt 79 17 0) 79 10 = dt 79 10 := rfl
  have w10 : (u2 dt 79 17 0) 79 11 = dt 79 11 := rfl
  have w11 : (u2 dt 79 17 0) 79 12 = dt 79 12 := rfl
  have w12 : (u2 dt 79 17 0) 79 13 = dt 79 13 := rfl
  have w13 : (u2 dt 79 17 0) 79 14 = dt 79 14 := rfl
  have w14 : (u2 dt 79 17 0) 79 15 = dt 79 15 := rfl
  have w15 : (u2 dt 79 17 0) 79 16 = dt 79 16 := rfl
  have w16 : (u2 dt 79 17 0) 79 17 = 0 := rfl
  have w17 : (u2 dt 79 17 0) 79 18 = dt 79 18 := rfl
  have w18 : (u2 dt 79 17 0) 79 19 = dt 79 19 := rfl
  have w19 : (u2 dt 79 17 0) 79 20 = dt 79 20 := rfl
  have w20 : (u2 dt 79 17 0) 79 21 = dt 79 21 := rfl
  have E8021 : (u2 dt 79 17 0) 80 = dt 80 := (funext fun _ => u2_ne (fun z => absurd z.1 (by decide))).trans rfl
  refine go_smpq PM174 (L' := [some (.inr (.inr (some 79))), some (.inl 1), some (.inl p2), none]) (st' := []) (w' := (SH, (u2 dt 79 17 0))) rfl rfl (s_pf rfl rfl rfl rfl ⟨by decide, by decide⟩) ?_
  refine go_toq PM174 (k := 3) (pc' := 8) (L' := [some (.inr (.inr (some 79))), some (.inl 1), some (.inl p2), none]) (st' := [.inl 1, .inl 0, .inl 1]) (w' := (SH, (u2 dt 79 17 0))) rfl ?_
  refine go_callq PM174 PM146 (Q' := _) rfl rfl rfl rfl (sp_X6_isIn L xs sio (d + 37) (u2 dt 79 17 0) hI5  1 ⟨by decide, by decide⟩ 0 ⟨by decide, by decide⟩ 1 ⟨by decide, by decide⟩ ) ?_
  rintro _ _ ⟨rfl, h22⟩
  refine ⟨rfl, ?_⟩
  rcases h22 with ⟨rfl, h22⟩ | ⟨rfl, h22⟩
  · skip
    refine go_toq PM174 (k := 6) (pc' := 26) (L' := [some (.inr (.inr (some 79))), some (.inl 1), some (.inl p2), none]) (st' := [.inl 3, .inl 0, .inl p2]) (w' := (SH, (u2 dt 79 17 0))) rfl ?_
    refine go_callq PM174 PM146 (Q' := _) rfl rfl rfl rfl (sp_X6_isIn L xs sio (d + 37) (u2 dt 79 17 0) hI5  p2 (by first | exact h_p2 | exact bnd h_p2 (by decide) (by decide) | exact ⟨by omega, by omega⟩) 0 ⟨by decide, by decide⟩ 3 ⟨by decide, by decide⟩ ) ?_
    rintro _ _ ⟨rfl, h23⟩
    refine ⟨rfl, ?_⟩
    rcases h23 with ⟨rfl, h23⟩ | ⟨rfl, h23⟩
    · skip
      refine go_toq PM174 (k := 3) (pc' := 51) (L' := [some (.inr (.inr (some 79))), some (.inl 1), some (.inl p2), none]) (st' := [.inl 1, .inr (.inr (some 79))]) (w' := (SH, (u2 dt 79 17 0))) rfl ?_
      have hI24 : InvC (u2 (u2 dt 79 17 0) 79 9 1) := InvC_u2 hI5 (lo := 0) (hi := 1) rfl rfl rfl (by decide) (by decide)
      have hF25 : Fr [79, 80, 82, 83, 84] dt (u2 (u2 dt 79 17 0) 79 9 1) := Fr_u2 hF6 (by decide)
      have w26 : (u2 (u2 dt 79 17 0) 79 9 1) 79 2 = (u2 dt 79 17 0) 79 2 := rfl
      have w27 : (u2 (u2 dt 79 17 0) 79 9 1) 79 9 = 1 := rfl
      have w28 : (u2 (u2 dt 79 17 0) 79 9 1) 79 10 = (u2 dt 79 17 0) 79 10 := rfl
      have w29 : (u2 (u2 dt 79 17 0) 79 9 1) 79 11 = (u2 dt 79 17 0) 79 11 := rfl
      have w30 : (u2 (u2 dt 79 17 0) 79 9 1) 79 12 = (u2 dt 79 17 0) 79 12 := rfl
      have w31 : (u2 (u2 dt 79 17 0) 79 9 1) 79 13 = (u2 dt 79 17 0) 79 13 := rfl
      have w32 : (u2 (u2 dt 79 17 0) 79 9 1) 79 14 = (u2 dt 79 17 0) 79 14 := rfl
      have w33 : (u2 (u2 dt 79 17 0) 79 9 1) 79 15 = (u2 dt 79 17 0) 79 15 := rfl
      have w34 : (u2 (u2 dt 79 17 0) 79 9 1) 79 16 = (u2 dt 79 17 0) 79 16 := rfl
      have w35 : (u2 (u2 dt 79 17 0) 79 9 1) 79 17 = (u2 dt 79 17 0) 79 17 := rfl
      have w36 : (u2 (u2 dt 79 17 0) 79 9 1) 79 18 = (u2 dt 79 17 0) 79 18 := rfl
      have w37 : (u2 (u2 dt 79 17 0) 79 9 1) 79 19 = (u2 dt 79 17 0) 79 19 := rfl
      have w38 : (u2 (u2 dt 79 17 0) 79 9 1) 79 20 = (u2 dt 79 17 0) 79 20 := rfl
      have w39 : (u2 (u2 dt 79 17 0) 79 9 1) 79 21 = (u2 dt 79 17 0) 79 21 := rfl
      have E8040 : (u2 (u2 dt 79 17 0) 79 9 1) 80 = dt 80 := (funext fun _ => u2_ne (fun z => absurd z.1 (by decide))).trans E8021
      refine go_smpq PM174 (L' := [some (.inr (.inr (some 79))), some (.inl 1), some (.inl p2), none]) (st' := []) (w' := (SH, (u2 (u2 dt 79 17 0) 79 9 1))) rfl rfl (s_pf rfl rfl rfl rfl ⟨by decide, by decide⟩) ?_
      refine go_toq PM174 (k := 2) (pc' := 56) (L' := [some (.inr (.inr (some 79))), some (.inl 1), some (.inl p2), none]) (st' := [.inl 0, .inr (.inr (some 79))]) (w' := (SH, (u2 (u2 dt 79 17 0) 79 9 1))) rfl ?_
      have hI41 : InvC (u2 (u2 (u2 dt 79 17 0) 79 9 1) 79 13 0) := InvC_u2 hI24 (lo := 0) (hi := 501) rfl rfl rfl (by decide) (by decide)
      have hF42 : Fr [79, 80, 82, 83, 84] dt (u2 (u2 (u2 dt 79 17 0) 79 9 1) 79 13 0) := Fr_u2 hF25 (by decide)
      have w43 : (u2 (u2 (u2 dt 79 17 0) 79 9 1) 79 13 0) 79 2 = (u2 (u2 dt 79 17 0) 79 9 1) 79 2 := rfl
      have w44 : (u2 (u2 (u2 dt 79 17 0) 79 9 1) 79 13 0) 79 9 = (u2 (u2 dt 79 17 0) 79 9 1) 79 9 := rfl
      have w45 : (u2 (u2 (u2 dt 79 17 0) 79 9 1) 79 13 0) 79 10 = (u2 (u2 dt 79 17 0) 79 9 1) 79 10 := rfl
      have w46 : (u2 (u2 (u2 dt 79 17 0) 79 9 1) 79 13 0) 79 11 = (u2 (u2 dt 79 17 0) 79 9 1) 79 11 := rfl
      have w47 : (u2 (u2 (u2 dt 79 17 0) 79 9 1) 79 13 0) 79 12 = (u2 (u2 dt 79 17 0) 79 9 1) 79 12 := rfl
      have w48 : (u2 (u2 (u2 dt 79 17 0) 79 9 1) 79 13 0) 79 13 = 0 := rfl
      have w49 : (u2 (u2 (u2 dt 79 17 0) 79 9 1) 79 13 0) 79 14 = (u2 (u2 dt 79 17 0) 79 9 1) 79 14 := rfl
      have w50 : (u2 (u2 (u2 dt 79 17 0) 79 9 1) 79 13 0) 79 15 = (u2 (u2 dt 79 17 0) 79 9 1) 79 15 := rfl
      have w51 : (u2 (u2 (u2 dt 79 17 0) 79 9 1) 79 13 0) 79 16 = (u2 (u2 dt 79 17 0) 79 9 1) 79 16 := rfl
      have w52 : (u2 (u2 (u2 dt 79 17 0) 79 9 1) 79 13 0) 79 17 = (u2 (u2 dt 79 17 0) 79 9 1) 79 17 := rfl
      have w53 : (u2 (u2 (u2 dt 79 17 0) 79 9 1) 79 13 0) 79 18 = (u2 (u2 dt 79 17 0) 79 9 1) 79 18 := rfl
      have w54 : (u2 (u2 (u2 dt 79 17 0) 79 9 1) 79 13 0) 79 19 = (u2 (u2 dt 79 17 0) 79 9 1) 79 19 := rfl
      have w55 : (u2 (u2 (u2 dt 79 17 0) 79 9 1) 79 13 0) 79 20 = (u2 (u2 dt 79 17 0) 79 9 1) 79 20 := rfl
      have w56 : (u2 (u2 (u2 dt 79 17 0) 79 9 1) 79 13 0) 79 21 = (u2 (u2 dt 79 17 0) 79 9 1) 79 21 := rfl
      have E8057 : (u2 (u2 (u2 dt 79 17 0) 79 9 1) 79 13 0) 80 = dt 80 := (funext fun _ => u2_ne (fun z => absurd z.1 (by decide))).trans E8040
      refine go_smpq PM174 (L' := [some (.inr (.inr (some 79))), some (.inl 1), some (.inl p2), none]) (st' := []) (w' := (SH, (u2 (u2 (u2 dt 79 17 0) 79 9 1) 79 13 0))) rfl rfl (s_pf rfl rfl rfl rfl ⟨by decide, by decide⟩) ?_
      refine go_toq PM174 (k := 2) (pc' := 61) (L' := [some (.inr (.inr (some 79))), some (.inl 1), some (.inl p2), none]) (st' := [.inl 0, .inr (.inr (some 79))]) (w' := (SH, (u2 (u2 (u2 dt 79 17 0) 79 9 1) 79 13 0))) rfl ?_
      have hI58 : InvC (u2 (u2 (u2 (u2 dt 79 17 0) 79 9 1) 79 13 0) 79 10 0) := InvC_u2 hI41 (lo := 0) (hi := 24) rfl rfl rfl (by decide) (by decide)
      have hF59 : Fr [79, 80, 82, 83, 84] dt (u2 (u2 (u2 (u2 dt 79 17 0) 79 9 1) 79 13 0) 79 10 0) := Fr_u2 hF42 (by decide)
      have w60 : (u2 (u2 (u2 (u2 dt 79 17 0) 79 9 1) 79 13 0) 79 10 0) 79 2 = (u2 (u2 (u2 dt 79 17 0) 79 9 1) 79 13 0) 79 2 := rfl
      have w61 : (u2 (u2 (u2 (u2 dt 79 17 0) 79 9 1) 79 13 0) 79 10 0) 79 9 = (u2 (u2 (u2 dt 79 17 0) 79 9 1) 79 13 0) 79 9 := rfl
      have w62 : (u2 (u2 (u2 (u2 dt 79 17 0) 79 9 1) 79 13 0) 79 10 0) 79 10 = 0 := rfl
      have w63 : (u2 (u2 (u2 (u2 dt 79 17 0) 79 9 1) 79 13 0) 79 10 0) 79 11 = (u2 (u2 (u2 dt 79 17 0) 79 9 1) 79 13 0) 79 11 := rfl
      have w64 : (u2 (u2 (u2 (u2 dt 79 17 0) 79 9 1) 79 13 0) 79 10 0) 79 12 = (u2 (u2 (u2 dt 79 17 0) 79 9 1) 79 13 0) 79 12 := rfl
      have w65 : (u2 (u2 (u2 (u2 dt 79 17 0) 79 9 1) 79 13 0) 79 10 0) 79 13 = (u2 (u2 (u2 dt 79 17 0) 79 9 1) 79 13 0) 79 13 := rfl
      have w66 : (u2 (u2 (u2 (u2 dt 79 17 0) 79 9 1) 79 13 0) 79 10 0) 79 14 = (u2 (u2 (u2 dt 79 17 0) 79 9 1) 79 13 0) 79 14 := rfl
      have w67 : (u2 (u2 (u2 (u2 dt 79 17 0) 79 9 1) 79 13 0) 79 10 0) 79 15 = (u2 (u2 (u2 dt 79 17 0) 79 9 1) 79 13 0) 79 15 := rfl
      have w68 : (u2 (u2 (u2 (u2 dt 79 17 0) 79 9 1) 79 13 0) 79 10 0) 79 16 = (u2 (u2 (u2 dt 79 17 0) 79 9 1) 79 13 0) 79 16 := rfl
      have w69 : (u2 (u2 (u2 (u2 dt 79 17 0) 79 9 1) 79 13 0) 79 10 0) 79 17 = (u2 (u2 (u2 dt 79 17 0) 79 9 1) 79 13 0) 79 17 := rfl
      have w70 : (u2 (u2 (u2 (u2 dt 79 17 0) 79 9 1) 79 13 0) 79 10 0) 79 18 = (u2 (u2 (u2 dt 79 17 0) 79 9 1) 79 13 0) 79 18 := rfl
      have w71 : (u2 (u2 (u2 (u2 dt 79 17 0) 79 9 1) 79 13 0) 79 10 0) 79 19 = (u2 (u2 (u2 dt 79 17 0) 79 9 1) 79 13 0) 79 19 := rfl
      have w72 : (u2 (u2 (u2 (u2 dt 79 17 0) 79 9 1) 79 13 0) 79 10 0) 79 20 = (u2 (u2 (u2 dt 79 17 0) 79 9 1) 79 13 0) 79 20 := rfl
      have w73 : (u2 (u2 (u2 (u2 dt 79 17 0) 79 9 1) 79 13 0) 79 10 0) 79 21 = (u2 (u2 (u2 dt 79 17 0) 79 9 1) 79 13 0) 79 21 := rfl
      have E8074 : (u2 (u2 (u2 (u2 dt 79 17 0) 79 9 1) 79 13 0) 79 10 0) 80 = dt 80 := (funext fun _ => u2_ne (fun z => absurd z.1 (by decide))).trans E8057
      refine go_smpq PM174 (L' := [some (.inr (.inr (some 79))), some (.inl 1), some (.inl p2), none]) (st' := []) (w' := (SH, (u2 (u2 (u2 (u2 dt 79 17 0) 79 9 1) 79 13 0) 79 10 0))) rfl rfl (s_pf rfl rfl rfl rfl ⟨by decide, by decide⟩) ?_
      refine go_toq PM174 (k := 2) (pc' := 66) (L' := [some (.inr (.inr (some 79))), some (.inl 1), some (.inl p2), none]) (st' := [.inl 0, .inr (.inr (some 79))]) (w' := (SH, (u2 (u2 (u2 (u2 dt 79 17 0) 79 9 1) 79 13 0) 79 10 0))) rfl ?_
      have hI75 : InvC (u2 (u2 (u2 (u2 (u2 dt 79 17 0) 79 9 1) 79 13 0) 79 10 0) 79 11 0) := InvC_u2 hI58 (lo := 0) (hi := 510) rfl rfl rfl (by decide) (by decide)
      have hF76 : Fr [79, 80, 82, 83, 84] dt (u2 (u2 (u2 (u2 (u2 dt 79 17 0) 79 9 1) 79 13 0) 79 10 0) 79 11 0) := Fr_u2 hF59 (by decide)
      have w77 : (u2 (u2 (u2 (u2 (u2 dt 79 17 0) 79 9 1) 79 13 0) 79 10 0) 79 11 0) 79 2 = (u2 (u2 (u2 (u2 dt 79 17 0) 79 9 1) 79 13 0) 79 10 0) 79 2 := rfl
      have w78 : (u2 (u2 (u2 (u2 (u2 dt 79 17 0) 79 9 1) 79 13 0) 79 10 0) 79 11 0) 79 9 = (u2 (u2 (u2 (u2 dt 79 17 0) 79 9 1) 79 13 0) 79 10 0) 79 9 := rfl
      have w79 : (u2 (u2 (u2 (u2 (u2 dt 79 17 0) 79 9 1) 79 13 0) 79 10 0) 79 11 0) 79 10 = (u2 (u2 (u2 (u2 dt 79 17 0) 79 9 1) 79 13 0) 79 10 0) 79 10 := rfl
      have w80 : (u2 (u2 (u2 (u2 (u2 dt 79 17 0) 79 9 1) 79 13 0) 79 10 0) 79 11 0) 79 11 = 0 := rfl
      have w81 : (u2 (u2 (u2 (u2 (u2 dt 79 17 0) 79 9 1) 79 13 0) 79 10 0) 79 11 0) 79 12 = (u2 (u2 (u2 (u2 dt 79 17 0) 79 9 1) 79 13 0) 79 10 0) 79 12 := rfl
      have w82 : (u2 (u2 (u2 (u2 (u2 dt 79 17 0) 79 9 1) 79 13 0) 79 10 0) 79 11 0) 79 13 = (u2 (u2 (u2 (u2 dt 79 17 0) 79 9 1) 79 13 0) 79 10 0) 79 13 := rfl
      have w83 : (u2 (u2 (u2 (u2 (u2 dt 79 17 0) 79 9 1) 79 13 0) 79 10 0) 79 11 0) 79 14 = (u2 (u2 (u2 (u2 dt 79 17 0) 79 9 1) 79 13 0) 79 10 0) 79 14 := rfl
      have w84 : (u2 (u2 (u2 (u2 (u2 dt 79 17 0) 79 9 1) 79 13 0) 79 10 0) 79 11 0) 79 15 = (u2 (u2 (u2 (u2 dt 79 17 0) 79 9 1) 79 13 0) 79 10 0) 79 15 := rfl
      have w85 : (u2 (u2 (u2 (u2 (u2 dt 79 17 0) 79 9 1) 79 13 0) 79 10 0) 79 11 0) 79 16 = (u2 (u2 (u2 (u2 dt 79 17 0) 79 9 1) 79 13 0) 79 10 0) 79 16 := rfl
      have w86 : (u2 (u2 (u2 (u2 (u2 dt 79 17 0) 79 9 1) 79 13 0) 79 10 0) 79 11 0) 79 17 = (u2 (u2 (u2 (u2 dt 79 17 0) 79 9 1) 79 13 0) 79 10 0) 79 17 := rfl
      have w87 : (u2 (u2 (u2 (u2 (u2 dt 79 17 0) 79 9 1) 79 13 0) 79 10 0) 79 11 0) 79 18 = (u2 (u2 (u2 (u2 dt 79 17 0) 79 9 1) 79 13 0) 79 10 0) 79 18 := rfl
      have w88 : (u2 (u2 (u2 (u2 (u2 dt 79 17 0) 79 9 1) 79 13 0) 79 10 0) 79 11 0) 79 19 = (u2 (u2 (u2 (u2 dt 79 17 0) 79 9 1) 79 13 0) 79 10 0) 79 19 := rfl
      have w89 : (u2 (u2 (u2 (u2 (u2 dt 79 17 0) 79 9 1) 79 13 0) 79 10 0) 79 11 0) 79 20 = (u2 (u2 (u2 (u2 dt 79 17 0) 79 9 1) 79 13 0) 79 10 0) 79 20 := rfl
      have w90 : (u2 (u2 (u2 (u2 (u2 dt 79 17 0) 79 9 1) 79 13 0) 79 10 0) 79 11 0) 79 21 = (u2 (u2 (u2 (u2 dt 79 17 0) 79 9 1) 79 13 0) 79 10 0) 79 21 := rfl
      have E8091 : (u2 (u2 (u2 (u2 (u2 dt 79 17 0) 79 9 1) 79 13 0) 79 10 0) 79 11 0) 80 = dt 80 := (funext fun _ => u2_ne (fun z => absurd z.1 (by decide))).trans E8074
      refine go_smpq PM174 (L' := [some (.inr (.inr (some 79))), some (.inl 1), some (.inl p2), none]) (st' := []) (w' := (SH, (u2 (u2 (u2 (u2 (u2 dt 79 17 0) 79 9 1) 79 13 0) 79 10 0) 79 11 0))) rfl rfl (s_pf rfl rfl rfl rfl ⟨by decide, by decide⟩) ?_
      refine go_toq PM174 (k := 1) (pc' := 70) (L' := [some (.inr (.inr (some 79))), some (.inl 1), some (.inl p2), none]) (st' := [.inr (.inr (some 79))]) (w' := (SH, (u2 (u2 (u2 (u2 (u2 dt 79 17 0) 79 9 1) 79 13 0) 79 10 0) 79 11 0))) rfl ?_
      have hf92 := hF76
      refine go_callq PM174 PM159 (Q' := _) rfl rfl rfl rfl (sp_X6_next0_p1 L xs sio (d + 31) (u2 (u2 (u2 (u2 (u2 dt 79 17 0) 79 9 1) 79 13 0) 79 10 0) 79 11 0) hI75   (by first | exact True.intro | with_reducible assumption | rfl | omega | trivial) (by first | exact True.intro | with_reducible assumption | rfl | omega | trivial)) ?_
      rintro _ _ ⟨dt94, rfl, hI95, hF96, h93⟩
      refine ⟨rfl, ?_⟩
      have hF97 : Fr [79, 80, 82, 83, 84] dt dt94 := Fr_tr hF76 hF96 (by decide)
      have E8098 : dt94 80 = dt 80 := (funext (hF96 80 (by decide))).trans E8091
      rcases h93 with ⟨rfl, h93⟩
      obtain ⟨h93_0, h93_1, h93_2, h93_3, h93_4, h93_5, h93_6, h93_7, h93_8⟩ := h93
      have hq99 := h93_0
      rw [show (u2 (u2 (u2 (u2 (u2 dt 79 17 0) 79 9 1) 79 13 0) 79 10 0) 79 11 0) 85 = dt 85 from funext (hf92 85 (by decide)), show (u2 (u2 (u2 (u2 (u2 dt 79 17 0) 79 9 1) 79 13 0) 79 10 0) 79 11 0) 79 12 = dt 79 12 by first | with_reducible assumption | omega, show ((u2 (u2 (u2 (u2 (u2 dt 79 17 0) 79 9 1) 79 13 0) 79 10 0) 79 11 0) 79 13).toNat = 0 by first | with_reducible assumption | omega] at hq99
      have T100 : TRr 1 (mB (dt 85) (dt 79 12)) (dt 79 12).toNat (dt 79 12).toNat dt94 0 1 := TRr_0 hq99
      refine go_toq PM174 (k := 2) (pc' := 75) (L' := [some (.inr (.inr (some 79))), some (.inl 1), some (.inl p2), some (.inl 1)]) (st' := []) (w' := (SH, dt94)) rfl ?_
      have loop165 : ∀ (k_ : Nat) (l75_3 : Int) (dt152 : Nat → Nat → Int) (hI153 : InvC dt152) (hF154 : Fr [79, 80, 82, 83, 84] dt dt152) (i155 : 0 ≤ l75_3 ∧ l75_3 ≤ 1) (i156 : TRr 1 (mB (dt 85) (dt 79 12)) (dt 79 12).toNat (dt 79 12).toNat dt152 (dt152 79 10) l75_3) (i157 : dt152 79 15 ≤ 500) (i158 : l75_3 = 1 → dt152 79 17 = 0) (i159 : l75_3 = 1 → dt152 79 10 ≤ 16) (i160 : l75_3 = 1 → dt152 79 11 ≤ dt152 79 15) (i161 : dt152 79 2 = dt 79 2) (i162 : dt152 79 9 = 1) (i163 : dt152 79 12 = dt 79 12) (i164 : dt152 80 = dt 80), (l75_3 * (502 - dt152 79 15)).toNat < k_ → GO (am_XX L xs sio) (d + 38) 174 75 [some (.inr (.inr (some 79))), some (.inl 1), some (.inl p2), some (.inl l75_3)] [] (SH, dt152) (fun r w2 => ∃ dt2 : Nat → Nat → Int, w2 = (SH, dt2) ∧ InvC dt2 ∧ Fr [79, 80, 82, 83, 84] dt dt2 ∧ ((∃ v : Int, r = some (.inl v) ∧ ((-1) ≤ v ∧ v ≤ 24) ∧ (dt2 79 12 = 0) ∧ (dt2 79 2 = dt 79 2) ∧ (TRS 1 p2 (mB (dt 85) (dt 79 12)) (dt 79 12).toNat v (dt2 79 19) (dt2 79 21)) ∧ (TSR 1 p2 (mB (dt 85) (dt 79 12)) (dt 79 12).toNat (dt2 79 19) v (dt 80) (dt2 80))))) := by
        intro k_
        induction k_ with
        | zero => intro l75_3 dt152 hI153 hF154 i155 i156 i157 i158 i159 i160 i161 i162 i163 i164 hm; exact absurd hm (Nat.not_lt_zero _)
        | succ k_ ih_loop165 =>
          intro l75_3 dt152 hI153 hF154 i155 i156 i157 i158 i159 i160 i161 i162 i163 i164 hm
          replace i158 := hid i158
          replace i159 := hid i159
          replace i160 := hid i160
          have qT := i156
          have qf_ : l75_3 = 0 → ¬ dt152 79 17 = 0 := TRr_f qT
          replace qf_ := hid qf_
          have hE80 := i164
          have q10 : 0 ≤ dt152 79 10 ∧ dt152 79 10 ≤ 24 := InvC_get (by assumption) 79 10 rfl rfl
          have q11 : 0 ≤ dt152 79 11 ∧ dt152 79 11 ≤ 510 := InvC_get (by assumption) 79 11 rfl rfl
          have hm1 : l75_3 = 1 → (l75_3 * (502 - dt152 79 15)).toNat = (502 - dt152 79 15).toNat := fun e => by rw [e, Int.one_mul]
          replace hm1 := hid hm1
          have u4_ := hid (And.intro (unhid i158) (And.intro (unhid i159) (And.intro (unhid i160) (And.intro (unhid qf_) (unhid hm1)))))
          refine go_ifq PM174 (k := 1) (p1 := 123) (p2 := 79) (L' := [some (.inr (.inr (some 79))), some (.inl 1), some (.inl p2), some (.inl l75_3)]) (st' := []) (w' := (SH, dt152)) rfl (z_eq (a := l75_3) (by first | exact bnd i155 (by decide) (by decide) | exact ⟨by (first | omega | (have z_ := unhid u4_; omega)), by (first | omega | (have z_ := unhid u4_; omega))⟩)) (fun c166 => ?_) (fun c166 => ?_)
          · skip
            have hc167 : l75_3 = 0 := by (first | omega | (have z_ := unhid u4_; omega))
            subst hc167
            refine go_toq PM174 (k := 2) (pc' := 125) (L' := [some (.inr (.inr (some 79))), some (.inl 1), some (.inl p2), some (.inl 0)]) (st' := [.inl 0, .inr (.inr (some 79))]) (w' := (SH, dt152)) rfl ?_
            have hI168 : InvC (u2 dt152 79 12 0) := InvC_u2 hI153 (lo := 0) (hi := 500) rfl rfl rfl (by decide) (by decide)
            have hF169 : Fr [79, 80, 82, 83, 84] dt (u2 dt152 79 12 0) := Fr_u2 hF154 (by decide)
            have w170 : (u2 dt152 79 12 0) 79 2 = dt152 79 2 := rfl
            have w171 : (u2 dt152 79 12 0) 79 9 = dt152 79 9 := rfl
            have w172 : (u2 dt152 79 12 0) 79 10 = dt152 79 10 := rfl
            have w173 : (u2 dt152 79 12 0) 79 11 = dt152 79 11 := rfl
            have w174 : (u2 dt152 79 12 0) 79 12 = 0 := rfl
            have w175 : (u2 dt152 79 12 0) 79 13 = dt152 79 13 := rfl
            have w176 : (u2 dt152 79 12 0) 79 14 = dt152 79 14 := rfl
            have w177 : (u2 dt152 79 12 0) 79 15 = dt152 79 15 := rfl
            have w178 : (u2 dt152 79 12 0) 79 16 = dt152 79 16 := rfl
            have w179 : (u2 dt152 79 12 0) 79 17 = dt152 79 17 := rfl
            have w180 : (u2 dt152 79 12 0) 79 18 = dt152 79 18 := rfl
            have w181 : (u2 dt152 79 12 0) 79 19 = dt152 79 19 := rfl
            have w182 : (u2 dt152 79 12 0) 79 20 = dt152 79 20 := rfl
            have w183 : (u2 dt152 79 12 0) 79 21 = dt152 79 21 := rfl
            have E80184 : (u2 dt152 79 12 0) 80 = dt 80 := (funext fun _ => u2_ne (fun z => absurd z.1 (by decide))).trans hE80
            refine go_smpq PM174 (L' := [some (.inr (.inr (some 79))), some (.inl 1), some (.inl p2), some (.inl 0)]) (st' := []) (w' := (SH, (u2 dt152 79 12 0))) rfl rfl (s_pf rfl rfl rfl rfl ⟨by decide, by decide⟩) ?_
            have r185 : (-2147483648) ≤ dt152 79 17 ∧ dt152 79 17 ≤ 2147483647 := InvC_get hI153 79 17 rfl rfl
            refine go_toq PM174 (k := 3) (pc' := 133) (L' := [some (.inr (.inr (some 79))), some (.inl 1), some (.inl p2), some (.inl 0)]) (st' := [.inl (dt152 79 17), .inr (.inr (some 79))]) (w' := (SH, (u2 dt152 79 12 0))) rfl ?_
            have hI186 : InvC (u2 (u2 dt152 79 12 0) 79 19 (dt152 79 17)) := InvC_u2 hI168 (lo := -2147483648) (hi := 2147483647) rfl rfl rfl (by first | exact bnd1 r185 (by decide) | (first | omega | (have z_ := unhid u4_; omega))) (by first | exact bnd2 r185 (by decide) | (first | omega | (have z_ := unhid u4_; omega)))
            have hF187 : Fr [79, 80, 82, 83, 84] dt (u2 (u2 dt152 79 12 0) 79 19 (dt152 79 17)) := Fr_u2 hF169 (by decide)
            have w188 : (u2 (u2 dt152 79 12 0) 79 19 (dt152 79 17)) 79 2 = (u2 dt152 79 12 0) 79 2 := rfl
            have w189 : (u2 (u2 dt152 79 12 0) 79 19 (dt152 79 17)) 79 9 = (u2 dt152 79 12 0) 79 9 := rfl
            have w190 : (u2 (u2 dt152 79 12 0) 79 19 (dt152 79 17)) 79 10 = (u2 dt152 79 12 0) 79 10 := rfl
            have w191 : (u2 (u2 dt152 79 12 0) 79 19 (dt152 79 17)) 79 11 = (u2 dt152 79 12 0) 79 11 := rfl
            have w192 : (u2 (u2 dt152 79 12 0) 79 19 (dt152 79 17)) 79 12 = (u2 dt152 79 12 0) 79 12 := rfl
            have w193 : (u2 (u2 dt152 79 12 0) 79 19 (dt152 79 17)) 79 13 = (u2 dt152 79 12 0) 79 13 := rfl
            have w194 : (u2 (u2 dt152 79 12 0) 79 19 (dt152 79 17)) 79 14 = (u2 dt152 79 12 0) 79 14 := rfl
            have w195 : (u2 (u2 dt152 79 12 0) 79 19 (dt152 79 17)) 79 15 = (u2 dt152 79 12 0) 79 15 := rfl
            have w196 : (u2 (u2 dt152 79 12 0) 79 19 (dt152 79 17)) 79 16 = (u2 dt152 79 12 0) 79 16 := rfl
            have w197 : (u2 (u2 dt152 79 12 0) 79 19 (dt152 79 17)) 79 17 = (u2 dt152 79 12 0) 79 17 := rfl
            have w198 : (u2 (u2 dt152 79 12 0) 79 19 (dt152 79 17)) 79 18 = (u2 dt152 79 12 0) 79 18 := rfl
            have w199 : (u2 (u2 dt152 79 12 0) 79 19 (dt152 79 17)) 79 19 = dt152 79 17 := rfl
            have w200 : (u2 (u2 dt152 79 12 0) 79 19 (dt152 79 17)) 79 20 = (u2 dt152 79 12 0) 79 20 := rfl
            have w201 : (u2 (u2 dt152 79 12 0) 79 19 (dt152 79 17)) 79 21 = (u2 dt152 79 12 0) 79 21 := rfl
            have E80202 : (u2 (u2 dt152 79 12 0) 79 19 (dt152 79 17)) 80 = dt 80 := (funext fun _ => u2_ne (fun z => absurd z.1 (by decide))).trans E80184
            refine go_smpq PM174 (L' := [some (.inr (.inr (some 79))), some (.inl 1), some (.inl p2), some (.inl 0)]) (st' := []) (w' := (SH, (u2 (u2 dt152 79 12 0) 79 19 (dt152 79 17)))) rfl rfl (s_pf rfl rfl rfl rfl (by first | exact bnd r185 (by decide) (by decide) | exact ⟨by (first | omega | (have z_ := unhid u4_; omega)), by (first | omega | (have z_ := unhid u4_; omega))⟩)) ?_
            have r203 : (-2147483648) ≤ dt152 79 18 ∧ dt152 79 18 ≤ 2147483647 := InvC_get hI153 79 18 rfl rfl
            refine go_toq PM174 (k := 5) (pc' := 149) (L' := [some (.inr (.inr (some 79))), some (.inl 1), some (.inl p2), some (.inl 0)]) (st' := [.inl (dt152 79 18), .inr (.inr (some 79))]) (w' := (SH, (u2 (u2 dt152 79 12 0) 79 19 (dt152 79 17)))) rfl ?_
            have hI204 : InvC (u2 (u2 (u2 dt152 79 12 0) 79 19 (dt152 79 17)) 79 21 (dt152 79 18)) := InvC_u2 hI186 (lo := -2147483648) (hi := 2147483647) rfl rfl rfl (by first | exact bnd1 r203 (by decide) | (first | omega | (have z_ := unhid u4_; omega))) (by first | exact bnd2 r203 (by decide) | (first | omega | (have z_ := unhid u4_; omega)))
            have hF205 : Fr [79, 80, 82, 83, 84] dt (u2 (u2 (u2 dt152 79 12 0) 79 19 (dt152 79 17)) 79 21 (dt152 79 18)) := Fr_u2 hF187 (by decide)
            have w206 : (u2 (u2 (u2 dt152 79 12 0) 79 19 (dt152 79 17)) 79 21 (dt152 79 18)) 79 2 = (u2 (u2 dt152 79 12 0) 79 19 (dt152 79 17)) 79 2 := rfl
            have w207 : (u2 (u2 (u2 dt152 79 12 0) 79 19 (dt152 79 17)) 79 21 (dt152 79 18)) 79 9 = (u2 (u2 dt152 79 12 0) 79 19 (dt152 79 17)) 79 9 := rfl
            have w208 : (u2 (u2 (u2 dt152 79 12 0) 79 19 (dt152 79 17)) 79 21 (dt152 79 18)) 79 10 = (u2 (u2 dt152 79 12 0) 79 19 (dt152 79 17)) 79 10 := rfl
            have w209 : (u2 (u2 (u2 dt152 79 12 0) 79 19 (dt152 79 17)) 79 21 (dt152 79 18)) 79 11 = (u2 (u2 dt152 79 12 0) 79 19 (dt152 79 17)) 79 11 := rfl
            have w210 : (u2 (u2 (u2 dt152 79 12 0) 79 19 (dt152 79 17)) 79 21 (dt152 79 18)) 79 12 = (u2 (u2 dt152 79 12 0) 79 19 (dt152 79 17)) 79 12 := rfl
            have w211 : (u2 (u2 (u2 dt152 79 12 0) 79 19 (dt152 79 17)) 79 21 (dt152 79 18)) 79 13 = (u2 (u2 dt152 79 12 0) 79 19 (dt152 79 17)) 79 13 := rfl
            have w212 : (u2 (u2 (u2 dt152 79 12 0) 79 19 (dt152 79 17)) 79 21 (dt152 79 18)) 79 14 = (u2 (u2 dt152 79 12 0) 79 19 (dt152 79 17)) 79 14 := rfl
            have w213 : (u2 (u2 (u2 dt152 79 12 0) 79 19 (dt152 79 17)) 79 21 (dt152 79 18)) 79 15 = (u2 (u2 dt152 79 12 0) 79 19 (dt152 79 17)) 79 15 := rfl
            have w214 : (u2 (u2 (u2 dt152 79 12 0) 79 19 (dt152 79 17)) 79 21 (dt152 79 18)) 79 16 = (u2 (u2 dt152 79 12 0) 79 19 (dt152 79 17)) 79 16 := rfl
            have w215 : (u2 (u2 (u2 dt152 79 12 0) 79 19 (dt152 79 17)) 79 21 (dt152 79 18)) 79 17 = (u2 (u2 dt152 79 12 0) 79 19 (dt152 79 17)) 79 17 := rfl
            have w216 : (u2 (u2 (u2 dt152 79 12 0) 79 19 (dt152 79 17)) 79 21 (dt152 79 18)) 79 18 = (u2 (u2 dt152 79 12 0) 79 19 (dt152 79 17)) 79 18 := rfl
            have w217 : (u2 (u2 (u2 dt152 79 12 0) 79 19 (dt152 79 17)) 79 21 (dt152 79 18)) 79 19 = (u2 (u2 dt152 79 12 0) 79 19 (dt152 79 17)) 79 19 := rfl
            have w218 : (u2 (u2 (u2 dt152 79 12 0) 79 19 (dt152 79 17)) 79 21 (dt152 79 18)) 79 20 = (u2 (u2 dt152 79 12 0) 79 19 (dt152 79 17)) 79 20 := rfl
            have w219 : (u2 (u2 (u2 dt152 79 12 0) 79 19 (dt152 79 17)) 79 21 (dt152 79 18)) 79 21 = dt152 79 18 := rfl
            have E80220 : (u2 (u2 (u2 dt152 79 12 0) 79 19 (dt152 79 17)) 79 21 (dt152 79 18)) 80 = dt 80 := (funext fun _ => u2_ne (fun z => absurd z.1 (by decide))).trans E80202
            refine go_smpq PM174 (L' := [some (.inr (.inr (some 79))), some (.inl 1), some (.inl p2), some (.inl 0)]) (st' := []) (w' := (SH, (u2 (u2 (u2 dt152 79 12 0) 79 19 (dt152 79 17)) 79 21 (dt152 79 18)))) rfl rfl (s_pf rfl rfl rfl rfl (by first | exact bnd r203 (by decide) (by decide) | exact ⟨by (first | omega | (have z_ := unhid u4_; omega)), by (first | omega | (have z_ := unhid u4_; omega))⟩)) ?_
            refine go_retq PM174 (k := 3) (r := some (.inl (-1))) (w1 := (SH, (u2 (u2 (u2 dt152 79 12 0) 79 19 (dt152 79 17)) 79 21 (dt152 79 18)))) rfl ?_
            exact ⟨(u2 (u2 (u2 dt152 79 12 0) 79 19 (dt152 79 17)) 79 21 (dt152 79 18)), rfl, hI204, hF205, ⟨_, rfl, ⟨by decide, by decide⟩, ⟨by first | exact True.intro | with_reducible assumption | exact unhid (by with_reducible assumption) | rfl | (first | omega | (have z_ := unhid u4_; omega)) | trivial, by first | exact True.intro | with_reducible assumption | exact unhid (by with_reducible assumption) | rfl | (first | omega | (have z_ := unhid u4_; omega)) | trivial, by first | exact TRS_y (by unfold okT; (first | omega | (have z_ := unhid u4_; omega))) rfl (by (first | omega | (have z_ := unhid u4_; omega))) (by (first | omega | (have z_ := unhid u4_; omega))) | exact TRr_e qT (by unfold okT; (first | omega | (have z_ := unhid u4_; omega))) hz (by (first | omega | (have z_ := unhid u4_; omega))) (fun z_ => by (first | omega | (have z_ := unhid u4_; omega))) (by decide) (by first | (rw [if_pos (by (first | omega | (have z_ := unhid u4_; omega)))]; done) | (rw [if_neg (by (first | omega | (have z_ := unhid u4_; omega)))]; (first | omega | (have z_ := unhid u4_; omega)))) (by first | (rw [if_pos (by (first | omega | (have z_ := unhid u4_; omega)))]; (first | omega | (have z_ := unhid u4_; omega))) | (rw [if_neg (by (first | omega | (have z_ := unhid u4_; omega)))]; (first | omega | (have z_ := unhid u4_; omega)))) (by first | (rw [if_pos (by (first | omega | (have z_ := unhid u4_; omega)))]; (first | omega | (have z_ := unhid u4_; omega))) | (rw [if_neg (by (first | omega | (have z_ := unhid u4_; omega)))]; (first | omega | (have z_ := unhid u4_; omega)))), by first | exact TSR_n (by (first | omega | (have z_ := unhid u4_; omega))) (fun j _ => rfl) | exact TSR_n (by (first | omega | (have z_ := unhid u4_; omega))) (fun j _ => congrFun E80220 j) | exact TSR_n (by (first | omega | (have z_ := unhid u4_; omega))) (fun j hj => (hI j hj).trans (congrFun rfl j)) | exact TSR_y (fun j => congrFun rfl j) hI ⟨by (first | omega | (have z_ := unhid u4_; omega)), by (first | omega | (have z_ := unhid u4_; omega))⟩ (by (first | omega | (have z_ := unhid u4_; omega))) (fun q hq => qAR (by (first | omega | (have z_ := unhid u4_; omega))) q (by (first | omega | (have z_ := unhid u4_; omega)))) ⟨by (first | omega | (have z_ := unhid u4_; omega)), ⟨by (first | omega | (have z_ := unhid u4_; omega)), by (first | omega | (have z_ := unhid u4_; omega))⟩, by (first | omega | (have z_ := unhid u4_; omega))⟩⟩⟩⟩
          · skip
            replace c166 := hid c166
            have u5_ := hid (And.intro (unhid i158) (And.intro (unhid i159) (And.intro (unhid i160) (And.intro (unhid qf_) (And.intro (unhid hm1) (unhid c166))))))
            have hc221 : l75_3 = 1 := by (first | omega | (have z_ := unhid u5_; omega))
            subst hc221
            have r222 : (-2147483648) ≤ dt152 79 14 ∧ dt152 79 14 ≤ 2147483647 := InvC_get hI153 79 14 rfl rfl
            refine go_ifq PM174 (k := 2) (p1 := 123) (p2 := 86) (L' := [some (.inr (.inr (some 79))), some (.inl 1), some (.inl p2), some (.inl 1)]) (st' := []) (w' := (SH, dt152)) rfl (z_eq (a := dt152 79 14) (by first | exact bnd r222 (by decide) (by decide) | exact ⟨by (first | omega | (have z_ := unhid u5_; omega)), by (first | omega | (have z_ := unhid u5_; omega))⟩)) (fun c223 => ?_) (fun c223 => ?_)
            · skip
              refine go_toq PM174 (k := 2) (pc' := 125) (L' := [some (.inr (.inr (some 79))), some (.inl 1), some (.inl p2), some (.inl 1)]) (st' := [.inl 0, .inr (.inr (some 79))]) (w' := (SH, dt152)) rfl ?_
              have hI224 : InvC (u2 dt152 79 12 0) := InvC_u2 hI153 (lo := 0) (hi := 500) rfl rfl rfl (by decide) (by decide)
              have hF225 : Fr [79, 80, 82, 83, 84] dt (u2 dt152 79 12 0) := Fr_u2 hF154 (by decide)
              have w226 : (u2 dt152 79 12 0) 79 2 = dt152 79 2 := rfl
              have w227 : (u2 dt152 79 12 0) 79 9 = dt152 79 9 := rfl
              have w228 : (u2 dt152 79 12 0) 79 10 = dt152 79 10 := rfl
              have w229 : (u2 dt152 79 12 0) 79 11 = dt152 79 11 := rfl
              have w230 : (u2 dt152 79 12 0) 79 12 = 0 := rfl
              have w231 : (u2 dt152 79 12 0) 79 13 = dt152 79 13 := rfl
              have w232 : (u2 dt152 79 12 0) 79 14 = dt152 79 14 := rfl
              have w233 : (u2 dt152 79 12 0) 79 15 = dt152 79 15 := rfl
              have w234 : (u2 dt152 79 12 0) 79 16 = dt152 79 16 := rfl
              have w235 : (u2 dt152 79 12 0) 79 17 = dt152 79 17 := rfl
              have w236 : (u2 dt152 79 12 0) 79 18 = dt152 79 18 := rfl
              have w237 : (u2 dt152 79 12 0) 79 19 = dt152 79 19 := rfl
              have w238 : (u2 dt152 79 12 0) 79 20 = dt152 79 20 := rfl
              have w239 : (u2 dt152 79 12 0) 79 21 = dt152 79 21 := rfl
              have E80240 : (u2 dt152 79 12 0) 80 = dt 80 := (funext fun _ => u2_ne (fun z => absurd z.1 (by decide))).trans hE80
              refine go_smpq PM174 (L' := [some (.inr (.inr (some 79))), some (.inl 1), some (.inl p2), some (.inl 1)]) (st' := []) (w' := (SH, (u2 dt152 79 12 0))) rfl rfl (s_pf rfl rfl rfl rfl ⟨by decide, by decide⟩) ?_
              have r241 : (-2147483648) ≤ dt152 79 17 ∧ dt152 79 17 ≤ 2147483647 := InvC_get hI153 79 17 rfl rfl
              refine go_toq PM174 (k := 3) (pc' := 133) (L' := [some (.inr (.inr (some 79))), some (.inl 1), some (.inl p2), some (.inl 1)]) (st' := [.inl (dt152 79 17), .inr (.inr (some 79))]) (w' := (SH, (u2 dt152 79 12 0))) rfl ?_
              have hI242 : InvC (u2 (u2 dt152 79 12 0) 79 19 (dt152 79 17)) := InvC_u2 hI224 (lo := -2147483648) (hi := 2147483647) rfl rfl rfl (by first | exact bnd1 r241 (by decide) | (first | omega | (have z_ := unhid u5_; omega))) (by first | exact bnd2 r241 (by decide) | (first | omega | (have z_ := unhid u5_; omega)))
              have hF243 : Fr [79, 80, 82, 83, 84] dt (u2 (u2 dt152 79 12 0) 79 19 (dt152 79 17)) := Fr_u2 hF225 (by decide)
              have w244 : (u2 (u2 dt152 79 12 0) 79 19 (dt152 79 17)) 79 2 = (u2 dt152 79 12 0) 79 2 := rfl
              have w245 : (u2 (u2 dt152 79 12 0) 79 19 (dt152 79 17)) 79 9 = (u2 dt152 79 12 0) 79 9 := rfl
              have w246 : (u2 (u2 dt152 79 12 0) 79 19 (dt152 79 17)) 79 10 = (u2 dt152 79 12 0) 79 10 := rfl
              have w247 : (u2 (u2 dt152 79 12 0) 79 19 (dt152 79 17)) 79 11 = (u2 dt152 79 12 0) 79 11 := rfl
              have w248 : (u2 (u2 dt152 79 12 0) 79 19 (dt152 79 17)) 79 12 = (u2 dt152 79 12 0) 79 12 := rfl
              have w249 : (u2 (u2 dt152 79 12 0) 79 19 (dt152 79 17)) 79 13 = (u2 dt152 79 12 0) 79 13 := rfl
              have w250 : (u2 (u2 dt152 79 12 0) 79 19 (dt152 79 17)) 79 14 = (u2 dt152 79 12 0) 79 14 := rfl
              have w251 : (u2 (u2 dt152 79 12 0) 79 19 (dt152 79 17)) 79 15 = (u2 dt152 79 12 0) 79 15 := rfl
              have w252 : (u2 (u2 dt152 79 12 0) 79 19 (dt152 79 17)) 79 16 = (u2 dt152 79 12 0) 79 16 := rfl
              have w253 : (u2 (u2 dt152 79 12 0) 79 19 (dt152 79 17)) 79 17 = (u2 dt152 79 12 0) 79 17 := rfl
              have w254 : (u2 (u2 dt152 79 12 0) 79 19 (dt152 79 17)) 79 18 = (u2 dt152 79 12 0) 79 18 := rfl
              have w255 : (u2 (u2 dt152 79 12 0) 79 19 (dt152 79 17)) 79 19 = dt152 79 17 := rfl
              have w256 : (u2 (u2 dt152 79 12 0) 79 19 (dt152 79 17)) 79 20 = (u2 dt152 79 12 0) 79 20 := rfl
              have w257 : (u2 (u2 dt152 79 12 0) 79 19 (dt152 79 17)) 79 21 = (u2 dt152 79 12 0) 79 21 := rfl
              have E80258 : (u2 (u2 dt152 79 12 0) 79 19 (dt152 79 17)) 80 = dt 80 := (funext fun _ => u2_ne (fun z => absurd z.1 (by decide))).trans E80240
              refine go_smpq PM174 (L' := [some (.inr (.inr (some 79))), some (.inl 1), some (.inl p2), some (.inl 1)]) (st' := []) (w' := (SH, (u2 (u2 dt152 79 12 0) 79 19 (dt152 79 17)))) rfl rfl (s_pf rfl rfl rfl rfl (by first | exact bnd r241 (by decide) (by decide) | exact ⟨by (first | omega | (have z_ := unhid u5_; omega)), by (first | omega | (have z_ := unhid u5_; omega))⟩)) ?_
              refine go_toq PM174 (k := 5) (pc' := 149) (L' := [some (.inr (.inr (some 79))), some (.inl 1), some (.inl p2), some (.inl 1)]) (st' := [.inl (-1), .inr (.inr (some 79))]) (w' := (SH, (u2 (u2 dt152 79 12 0) 79 19 (dt152 79 17)))) rfl ?_
              have hI259 : InvC (u2 (u2 (u2 dt152 79 12 0) 79 19 (dt152 79 17)) 79 21 (-1)) := InvC_u2 hI242 (lo := -2147483648) (hi := 2147483647) rfl rfl rfl (by decide) (by decide)
              have hF260 : Fr [79, 80, 82, 83, 84] dt (u2 (u2 (u2 dt152 79 12 0) 79 19 (dt152 79 17)) 79 21 (-1)) := Fr_u2 hF243 (by decide)
              have w261 : (u2 (u2 (u2 dt152 79 12 0) 79 19 (dt152 79 17)) 79 21 (-1)) 79 2 = (u2 (u2 dt152 79 12 0) 79 19 (dt152 79 17)) 79 2 := rfl
              have w262 : (u2 (u2 (u2 dt152 79 12 0) 79 19 (dt152 79 17)) 79 21 (-1)) 79 9 = (u2 (u2 dt152 79 12 0) 79 19 (dt152 79 17)) 79 9 := rfl
              have w263 : (u2 (u2 (u2 dt152 79 12 0) 79 19 (dt152 79 17)) 79 21 (-1)) 79 10 = (u2 (u2 dt152 79 12 0) 79 19 (dt152 79 17)) 79 10 := rfl
              have w264 : (u2 (u2 (u2 dt152 79 12 0) 79 19 (dt152 79 17)) 79 21 (-1)) 79 11 = (u2 (u2 dt152 79 12 0) 79 19 (dt152 79 17)) 79 11 := rfl
              have w265 : (u2 (u2 (u2 dt152 79 12 0) 79 19 (dt152 79 17)) 79 21 (-1)) 79 12 = (u2 (u2 dt152 79 12 0) 79 19 (dt152 79 17)) 79 12 := rfl
              have w266 : (u2 (u2 (u2 dt152 79 12 0) 79 19 (dt152 79 17)) 79 21 (-1)) 79 13 = (u2 (u2 dt152 79 12 0) 79 19 (dt152 79 17)) 79 13 := rfl
              have w267 : (u2 (u2 (u2 dt152 79 12 0) 79 19 (dt152 79 17)) 79 21 (-1)) 79 14 = (u2 (u2 dt152 79 12 0) 79 19 (dt152 79 17)) 79 14 := rfl
              have w268 : (u2 (u2 (u2 dt152 79 12 0) 79 19 (dt152 79 17)) 79 21 (-1)) 79 15 = (u2 (u2 dt152 79 12 0) 79 19 (dt152 79 17)) 79 15 := rfl
              have w269 : (u2 (u2 (u2 dt152 79 12 0) 79 19 (dt152 79 17)) 79 21 (-1)) 79 16 = (u2 (u2 dt152 79 12 0) 79 19 (dt152 79 17)) 79 16 := rfl
              have w270 : (u2 (u2 (u2 dt152 79 12 0) 79 19 (dt152 79 17)) 79 21 (-1)) 79 17 = (u2 (u2 dt152 79 12 0) 79 19 (dt152 79 17)) 79 17 := rfl
              have w271 : (u2 (u2 (u2 dt152 79 12 0) 79 19 (dt152 79 17)) 79 21 (-1)) 79 18 = (u2 (u2 dt152 79 12 0) 79 19 (dt152 79 17)) 79 18 := rfl
              have w272 : (u2 (u2 (u2 dt152 79 12 0) 79 19 (dt152 79 17)) 79 21 (-1)) 79 19 = (u2 (u2 dt152 79 12 0) 79 19 (dt152 79 17)) 79 19 := rfl
              have w273 : (u2 (u2 (u2 dt152 79 12 0) 79 19 (dt152 79 17)) 79 21 (-1)) 79 20 = (u2 (u2 dt152 79 12 0) 79 19 (dt152 79 17)) 79 20 := rfl
              have w274 : (u2 (u2 (u2 dt152 79 12 0) 79 19 (dt152 79 17)) 79 21 (-1)) 79 21 = (-1) := rfl
              have E80275 : (u2 (u2 (u2 dt152 79 12 0) 79 19 (dt152 79 17)) 79 21 (-1)) 80 = dt 80 := (funext fun _ => u2_ne (fun z => absurd z.1 (by decide))).trans E80258
              refine go_smpq PM174 (L' := [some (.inr (.inr (some 79))), some (.inl 1), some (.inl p2), some (.inl 1)]) (st' := []) (w' := (SH, (u2 (u2 (u2 dt152 79 12 0) 79 19 (dt152 79 17)) 79 21 (-1)))) rfl rfl (s_pf rfl rfl rfl rfl ⟨by decide, by decide⟩) ?_
              refine go_toq PM174 (k := 4) (pc' := 160) (L' := [some (.inr (.inr (some 79))), some (.inl 1), some (.inl p2), some (.inl 1)]) (st' := [.inl p2, .inr (.inr (some 79))]) (w' := (SH, (u2 (u2 (u2 dt152 79 12 0) 79 19 (dt152 79 17)) 79 21 (-1)))) rfl ?_
              refine go_callq PM174 PM175 (Q' := _) rfl rfl rfl rfl (sp_X6_keeps_g1 L xs sio (d + 37) (u2 (u2 (u2 dt152 79 12 0) 79 19 (dt152 79 17)) 79 21 (-1)) hI259  p2 (by first | exact h_p2 | exact bnd h_p2 (by decide) (by decide) | exact ⟨by (first | omega | (have z_ := unhid u5_; omega)), by (first | omega | (have z_ := unhid u5_; omega))⟩) (by first | exact True.intro | with_reducible assumption | exact unhid (by with_reducible assumption) | rfl | (first | omega | (have z_ := unhid u5_; omega)) | trivial) (by first | exact True.intro | with_reducible assumption | exact unhid (by with_reducible assumption) | rfl | (first | omega | (have z_ := unhid u5_; omega)) | trivial) (by first | exact True.intro | with_reducible assumption | exact unhid (by with_reducible assumption) | rfl | (first | omega | (have z_ := unhid u5_; omega)) | trivial)) ?_
              rintro _ _ ⟨dt277, rfl, hI278, hF279, h276⟩
              refine ⟨rfl, ?_⟩
              have hF280 : Fr [79, 80, 82, 83, 84] dt dt277 := Fr_tr hF260 hF279 (by decide)
              have w281 : dt277 79 2 = (u2 (u2 (u2 dt152 79 12 0) 79 19 (dt152 79 17)) 79 21 (-1)) 79 2 := hF279 79 (by decide) 2
              have w282 : dt277 79 9 = (u2 (u2 (u2 dt152 79 12 0) 79 19 (dt152 79 17)) 79 21 (-1)) 79 9 := hF279 79 (by decide) 9
              have w283 : dt277 79 10 = (u2 (u2 (u2 dt152 79 12 0) 79 19 (dt152 79 17)) 79 21 (-1)) 79 10 := hF279 79 (by decide) 10
              have w284 : dt277 79 11 = (u2 (u2 (u2 dt152 79 12 0) 79 19 (dt152 79 17)) 79 21 (-1)) 79 11 := hF279 79 (by decide) 11
              have w285 : dt277 79 12 = (u2 (u2 (u2 dt152 79 12 0) 79 19 (dt152 79 17)) 79 21 (-1)) 79 12 := hF279 79 (by decide) 12
              have w286 : dt277 79 13 = (u2 (u2 (u2 dt152 79 12 0) 79 19 (dt152 79 17)) 79 21 (-1)) 79 13 := hF279 79 (by decide) 13
              have w287 : dt277 79 14 = (u2 (u2 (u2 dt152 79 12 0) 79 19 (dt152 79 17)) 79 21 (-1)) 79 14 := hF279 79 (by decide) 14
              have w288 : dt277 79 15 = (u2 (u2 (u2 dt152 79 12 0) 79 19 (dt152 79 17)) 79 21 (-1)) 79 15 := hF279 79 (by decide) 15
              have w289 : dt277 79 16 = (u2 (u2 (u2 dt152 79 12 0) 79 19 (dt152 79 17)) 79 21 (-1)) 79 16 := hF279 79 (by decide) 16
              have w290 : dt277 79 17 = (u2 (u2 (u2 dt152 79 12 0) 79 19 (dt152 79 17)) 79 21 (-1)) 79 17 := hF279 79 (by decide) 17
              have w291 : dt277 79 18 = (u2 (u2 (u2 dt152 79 12 0) 79 19 (dt152 79 17)) 79 21 (-1)) 79 18 := hF279 79 (by decide) 18
              have w292 : dt277 79 19 = (u2 (u2 (u2 dt152 79 12 0) 79 19 (dt152 79 17)) 79 21 (-1)) 79 19 := hF279 79 (by decide) 19
              have w293 : dt277 79 20 = (u2 (u2 (u2 dt152 79 12 0) 79 19 (dt152 79 17)) 79 21 (-1)) 79 20 := hF279 79 (by decide) 20
              have w294 : dt277 79 21 = (u2 (u2 (u2 dt152 79 12 0) 79 19 (dt152 79 17)) 79 21 (-1)) 79 21 := hF279 79 (by decide) 21
              rcases h276 with ⟨rfl, h276⟩
              have r295 : 0 ≤ dt277 79 10 ∧ dt277 79 10 ≤ 24 := InvC_get hI278 79 10 rfl rfl
              refine go_retq PM174 (k := 2) (r := some (.inl (dt277 79 10))) (w1 := (SH, dt277)) rfl ?_
              exact ⟨dt277, rfl, hI278, hF280, ⟨_, rfl, (by first | exact bnd r295 (by decide) (by decide) | exact ⟨by (first | omega | (have z_ := unhid u5_; omega)), by (first | omega | (have z_ := unhid u5_; omega))⟩), ⟨by first | exact True.intro | with_reducible assumption | exact unhid (by with_reducible assumption) | rfl | (first | omega | (have z_ := unhid u5_; omega)) | trivial, by first | exact True.intro | with_reducible assumption | exact unhid (by with_reducible assumption) | rfl | (first | omega | (have z_ := unhid u5_; omega)) | trivial, by first | exact TRS_y (by unfold okT; (first | omega | (have z_ := unhid u5_; omega))) rfl (by (first | omega | (have z_ := unhid u5_; omega))) (by (first | omega | (have z_ := unhid u5_; omega))) | exact TRr_e qT (by unfold okT; (first | omega | (have z_ := unhid u5_; omega))) hz (by (first | omega | (have z_ := unhid u5_; omega))) (fun z_ => by (first | omega | (have z_ := unhid u5_; omega))) (by decide) (by first | (rw [if_pos (by (first | omega | (have z_ := unhid u5_; omega)))]; done) | (rw [if_neg (by (first | omega | (have z_ := unhid u5_; omega)))]; (first | omega | (have z_ := unhid u5_; omega)))) (by first | (rw [if_pos (by (first | omega | (have z_ := unhid u5_; omega)))]; (first | omega | (have z_ := unhid u5_; omega))) | (rw [if_neg (by (first | omega | (have z_ := unhid u5_; omega)))]; (first | omega | (have z_ := unhid u5_; omega)))) (by first | (rw [if_pos (by (first | omega | (have z_ := unhid u5_; omega)))]; (first | omega | (have z_ := unhid u5_; omega))) | (rw [if_neg (by (first | omega | (have z_ := unhid u5_; omega)))]; (first | omega | (have z_ := unhid u5_; omega)))), by first | exact TSR_n (by (first | omega | (have z_ := unhid u5_; omega))) (fun j _ => rfl) | exact TSR_n (by (first | omega | (have z_ := unhid u5_; omega))) (fun j _ => congrFun E80275 j) | exact TSR_n (by (first | omega | (have z_ := unhid u5_; omega))) (fun j hj => (h276 j hj).trans (congrFun E80275 j)) | exact TSR_y (fun j => congrFun E80275 j) h276 ⟨by (first | omega | (have z_ := unhid u5_; omega)), by (first | omega | (have z_ := unhid u5_; omega))⟩ (by (first | omega | (have z_ := unhid u5_; omega))) (fun q hq => qAR (by (first | omega | (have z_ := unhid u5_; omega))) q (by (first | omega | (have z_ := unhid u5_; omega)))) ⟨by (first | omega | (have z_ := unhid u5_; omega)), ⟨by (first | omega | (have z_ := unhid u5_; omega)), by (first | omega | (have z_ := unhid u5_; omega))⟩, by (first | omega | (have z_ := unhid u5_; omega))⟩⟩⟩⟩
            · skip
              replace c223 := hid c223
              obtain ⟨gi_, hgi_, hgc_, hgF_⟩ := TRr_g qT rfl
              have cr_ := CUR_R hgc_ (.inr rfl)
              refine go_toq PM174 (k := 3) (pc' := 98) (L' := [some (.inr (.inr (some 79))), some (.inl 1), some (.inl p2), some (.inl 1)]) (st' := [.inr (.inr (some 79))]) (w' := (SH, dt152)) rfl ?_
              have u6_ := hid (And.intro (unhid i158) (And.intro (unhid i159) (And.intro (unhid i160) (And.intro (unhid qf_) (And.intro (unhid hm1) (And.intro (unhid c166) (unhid c223)))))))
              refine go_callq PM174 PM173 (Q' := _) rfl rfl rfl rfl (sp_X6_aLine_g1 L xs sio (d + 0) dt152 hI153 (mB (dt 85) (dt 79 12)) (dt 79 12).toNat (dt 79 12).toNat gi_ (by rw [show dt152 85 = dt 85 from funext (hF154 85 (by decide)), show dt152 79 12 = dt 79 12 by first | with_reducible assumption | exact unhid (by with_reducible assumption) | (first | omega | (have z_ := unhid u6_; omega))]) (by (first | omega | (have z_ := unhid u6_; omega))) hz hn5 hgc_ hgi_ hn5  (by first | exact True.intro | with_reducible assumption | exact unhid (by with_reducible assumption) | rfl | (first | omega | (have z_ := unhid u6_; omega)) | trivial) (by first | exact True.intro | with_reducible assumption | exact unhid (by with_reducible assumption) | rfl | (first | omega | (have z_ := unhid u6_; omega)) | trivial) (by first | exact True.intro | with_reducible assumption | exact unhid (by with_reducible assumption) | rfl | (first | omega | (have z_ := unhid u6_; omega)) | trivial)) ?_
              rintro _ _ ⟨dt297, rfl, hI298, hF299, h296⟩
              refine ⟨rfl, ?_⟩
              have hF300 : Fr [79, 80, 82, 83, 84] dt dt297 := Fr_tr hF154 hF299 (by decide)
              have E80301 : dt297 80 = dt 80 := (funext (hF299 80 (by decide))).trans hE80
              rcases h296 with ⟨rfl, h296⟩ | ⟨rfl, h296⟩
              · skip
                obtain ⟨h296_0, h296_1, h296_2, h296_3, h296_4⟩ := h296
                have T302 : TRr 1 (mB (dt 85) (dt 79 12)) (dt 79 12).toNat (dt 79 12).toNat dt297 (if (0 : Int) = 0 then dt152 79 10 else dt152 79 10 + 1) 0 := TRr_s h296_0 (gLF_M hz) hgi_ (FXl hz (by (first | omega | (have z_ := unhid u6_; omega))) hgi_ hgF_ (by (first | omega | (have z_ := unhid u6_; omega))) (by (first | omega | (have z_ := unhid u6_; omega))))
                have r303 : 0 ≤ dt297 79 10 ∧ dt297 79 10 ≤ 24 := InvC_get hI298 79 10 rfl rfl
                refine go_toq PM174 (k := 8) (pc' := 117) (L' := [some (.inr (.inr (some 79))), some (.inl 1), some (.inl p2), some (.inl 0)]) (st' := [.inl ((dt297 79 10) + 0), .inr (.inr (some 79))]) (w' := (SH, dt297)) rfl ?_
                have hI304 : InvC (u2 dt297 79 10 ((dt297 79 10) + 0)) := InvC_u2 hI298 (lo := 0) (hi := 24) rfl rfl rfl (by (first | omega | (have z_ := unhid u6_; omega))) (by (first | omega | (have z_ := unhid u6_; omega)))
                have hF305 : Fr [79, 80, 82, 83, 84] dt (u2 dt297 79 10 ((dt297 79 10) + 0)) := Fr_u2 hF300 (by decide)
                have w306 : (u2 dt297 79 10 ((dt297 79 10) + 0)) 79 2 = dt297 79 2 := rfl
                have w307 : (u2 dt297 79 10 ((dt297 79 10) + 0)) 79 9 = dt297 79 9 := rfl
                have w308 : (u2 dt297 79 10 ((dt297 79 10) + 0)) 79 10 = (dt297 79 10) + 0 := rfl
                have w309 : (u2 dt297 79 10 ((dt297 79 10) + 0)) 79 11 = dt297 79 11 := rfl
                have w310 : (u2 dt297 79 10 ((dt297 79 10) + 0)) 79 12 = dt297 79 12 := rfl
                have w311 : (u2 dt297 79 10 ((dt297 79 10) + 0)) 79 13 = dt297 79 13 := rfl
                have w312 : (u2 dt297 79 10 ((dt297 79 10) + 0)) 79 14 = dt297 79 14 := rfl
                have w313 : (u2 dt297 79 10 ((dt297 79 10) + 0)) 79 15 = dt297 79 15 := rfl
                have w314 : (u2 dt297 79 10 ((dt297 79 10) + 0)) 79 16 = dt297 79 16 := rfl
                have w315 : (u2 dt297 79 10 ((dt297 79 10) + 0)) 79 17 = dt297 79 17 := rfl
                have w316 : (u2 dt297 79 10 ((dt297 79 10) + 0)) 79 18 = dt297 79 18 := rfl
                have w317 : (u2 dt297 79 10 ((dt297 79 10) + 0)) 79 19 = dt297 79 19 := rfl
                have w318 : (u2 dt297 79 10 ((dt297 79 10) + 0)) 79 20 = dt297 79 20 := rfl
                have w319 : (u2 dt297 79 10 ((dt297 79 10) + 0)) 79 21 = dt297 79 21 := rfl
                have E80320 : (u2 dt297 79 10 ((dt297 79 10) + 0)) 80 = dt 80 := (funext fun _ => u2_ne (fun z => absurd z.1 (by decide))).trans E80301
                have T321 : TRr 1 (mB (dt 85) (dt 79 12)) (dt 79 12).toNat (dt 79 12).toNat (u2 dt297 79 10 ((dt297 79 10) + 0)) ((u2 dt297 79 10 ((dt297 79 10) + 0)) 79 10) 0 := TRr_x T302 rfl rfl rfl rfl rfl rfl (fun z_ => by first | (rw [if_neg (by (first | omega | (have z_ := unhid u6_; omega)))]; (first | omega | (have z_ := unhid u6_; omega))) | (first | omega | (have z_ := unhid u6_; omega)))
                refine go_smpq PM174 (L' := [some (.inr (.inr (some 79))), some (.inl 1), some (.inl p2), some (.inl 0)]) (st' := []) (w' := (SH, (u2 dt297 79 10 ((dt297 79 10) + 0)))) rfl rfl (s_pf rfl rfl rfl rfl (by first | exact bndp r303 (by decide) (by decide) | exact ⟨by (first | omega | (have z_ := unhid u6_; omega)), by (first | omega | (have z_ := unhid u6_; omega))⟩)) ?_
                refine go_toq PM174 (k := 1) (pc' := 75) (L' := [some (.inr (.inr (some 79))), some (.inl 1), some (.inl p2), some (.inl 0)]) (st' := []) (w' := (SH, (u2 dt297 79 10 ((dt297 79 10) + 0)))) rfl ?_
                exact GO.le (ih_loop165 0 (u2 dt297 79 10 ((dt297 79 10) + 0)) hI304 hF305 (by first | with_reducible assumption | exact unhid (by with_reducible assumption) | (first | omega | (have z_ := unhid u6_; omega)) | exact (InvC_get (by assumption) 79 15 rfl rfl).2) (by first | exact T321 | exact TRr_c T321 (by (first | omega | (have z_ := unhid u6_; omega)))) (by first | with_reducible assumption | exact unhid (by with_reducible assumption) | (first | omega | (have z_ := unhid u6_; omega)) | exact (InvC_get (by assumption) 79 15 rfl rfl).2) (by first | with_reducible assumption | exact unhid (by with_reducible assumption) | (first | omega | (have z_ := unhid u6_; omega)) | exact (InvC_get (by assumption) 79 15 rfl rfl).2) (by first | with_reducible assumption | exact unhid (by with_reducible assumption) | (first | omega | (have z_ := unhid u6_; omega)) | exact (InvC_get (by assumption) 79 15 rfl rfl).2) (by first | with_reducible assumption | exact unhid (by with_reducible assumption) | (first | omega | (have z_ := unhid u6_; omega)) | exact (InvC_get (by assumption) 79 15 rfl rfl).2) (by first | with_reducible assumption | exact unhid (by with_reducible assumption) | (first | omega | (have z_ := unhid u6_; omega)) | exact (InvC_get (by assumption) 79 15 rfl rfl).2) (by first | with_reducible assumption | exact unhid (by with_reducible assumption) | (first | omega | (have z_ := unhid u6_; omega)) | exact (InvC_get (by assumption) 79 15 rfl rfl).2) (by first | with_reducible assumption | exact unhid (by with_reducible assumption) | (first | omega | (have z_ := unhid u6_; omega)) | exact (InvC_get (by assumption) 79 15 rfl rfl).2) (by exact E80320) (by (first | omega | (have z_ := unhid u6_; omega)))) ⟨.inl rfl, .inl rfl, .inl rfl, .inl rfl, trivial⟩
              · skip
                obtain ⟨h296_0, h296_1, h296_2, h296_3, h296_4, h296_5, h296_6, h296_7, h296_8, h296_9, h296_10⟩ := h296
                have T322 : TRr 1 (mB (dt 85) (dt 79 12)) (dt 79 12).toNat (dt 79 12).toNat dt297 (if (1 : Int) = 0 then dt152 79 10 else dt152 79 10 + 1) 1 := TRr_s h296_0 (gLF_M hz) hgi_ (FXl hz (by (first | omega | (have z_ := unhid u6_; omega))) hgi_ hgF_ (by (first | omega | (have z_ := unhid u6_; omega))) (by (first | omega | (have z_ := unhid u6_; omega))))
                have r323 : 0 ≤ dt297 79 10 ∧ dt297 79 10 ≤ 24 := InvC_get hI298 79 10 rfl rfl
                refine go_toq PM174 (k := 9) (pc' := 117) (L' := [some (.inr (.inr (some 79))), some (.inl 1), some (.inl p2), some (.inl 1)]) (st' := [.inl ((dt297 79 10) + 1), .inr (.inr (some 79))]) (w' := (SH, dt297)) rfl ?_
                have hI324 : InvC (u2 dt297 79 10 ((dt297 79 10) + 1)) := InvC_u2 hI298 (lo := 0) (hi := 24) rfl rfl rfl (by (first | omega | (have z_ := unhid u6_; omega))) (by (first | omega | (have z_ := unhid u6_; omega)))
                have hF325 : Fr [79, 80, 82, 83, 84] dt (u2 dt297 79 10 ((dt297 79 10) + 1)) := Fr_u2 hF300 (by decide)
                have w326 : (u2 dt297 79 10 ((dt297 79 10) + 1)) 79 2 = dt297 79 2 := rfl
                have w327 : (u2 dt297 79 10 ((dt297 79 10) + 1)) 79 9 = dt297 79 9 := rfl
                have w328 : (u2 dt297 79 10 ((dt297 79 10) + 1)) 79 10 = (dt297 79 10) + 1 := rfl
                have w329 : (u2 dt297 79 10 ((dt297 79 10) + 1)) 79 11 = dt297 79 11 := rfl
                have w330 : (u2 dt297 79 10 ((dt297 79 10) + 1)) 79 12 = dt297 79 12 := rfl
                have w331 : (u2 dt297 79 10 ((dt297 79 10) + 1)) 79 13 = dt297 79 13 := rfl
                have w332 : (u2 dt297 79 10 ((dt297 79 10) + 1)) 79 14 = dt297 79 14 := rfl
                have w333 : (u2 dt297 79 10 ((dt297 79 10) + 1)) 79 15 = dt297 79 15 := rfl
                have w334 : (u2 dt297 79 10 ((dt297 79 10) + 1)) 79 16 = dt297 79 16 := rfl
                have w335 : (u2 dt297 79 10 ((dt297 79 10) + 1)) 79 17 = dt297 79 17 := rfl
                have w336 : (u2 dt297 79 10 ((dt297 79 10) + 1)) 79 18 = dt297 79 18 := rfl
                have w337 : (u2 dt297 79 10 ((dt297 79 10) + 1)) 79 19 = dt297 79 19 := rfl
                have w338 : (u2 dt297 79 10 ((dt297 79 10) + 1)) 79 20 = dt297 79 20 := rfl
                have w339 : (u2 dt297 79 10 ((dt297 79 10) + 1)) 79 21 = dt297 79 21 := rfl
                have E80340 : (u2 dt297 79 10 ((dt297 79 10) + 1)) 80 = dt 80 := (funext fun _ => u2_ne (fun z => absurd z.1 (by decide))).trans E80301
                have T341 : TRr 1 (mB (dt 85) (dt 79 12)) (dt 79 12).toNat (dt 79 12).toNat (u2 dt297 79 10 ((dt297 79 10) + 1)) ((u2 dt297 79 10 ((dt297 79 10) + 1)) 79 10) 1 := TRr_x T322 rfl rfl rfl rfl rfl rfl (fun z_ => by first | (rw [if_neg (by (first | omega | (have z_ := unhid u6_; omega)))]; (first | omega | (have z_ := unhid u6_; omega))) | (first | omega | (have z_ := unhid u6_; omega)))
                refine go_smpq PM174 (L' := [some (.inr (.inr (some 79))), some (.inl 1), some (.inl p2), some (.inl 1)]) (st' := []) (w' := (SH, (u2 dt297 79 10 ((dt297 79 10) + 1)))) rfl rfl (s_pf rfl rfl rfl rfl (by first | exact bndp r323 (by decide) (by decide) | exact ⟨by (first | omega | (have z_ := unhid u6_; omega)), by (first | omega | (have z_ := unhid u6_; omega))⟩)) ?_
                refine go_toq PM174 (k := 1) (pc' := 75) (L' := [some (.inr (.inr (some 79))), some (.inl 1), some (.inl p2), some (.inl 1)]) (st' := []) (w' := (SH, (u2 dt297 79 10 ((dt297 79 10) + 1)))) rfl ?_
                exact GO.le (ih_loop165 1 (u2 dt297 79 10 ((dt297 79 10) + 1)) hI324 hF325 (by first | with_reducible assumption | exact unhid (by with_reducible assumption) | (first | omega | (have z_ := unhid u6_; omega)) | exact (InvC_get (by assumption) 79 15 rfl rfl).2) (by first | exact T341 | exact TRr_c T341 (by (first | omega | (have z_ := unhid u6_; omega)))) (by first | with_reducible assumption | exact unhid (by with_reducible assumption) | (first | omega | (have z_ := unhid u6_; omega)) | exact (InvC_get (by assumption) 79 15 rfl rfl).2) (by first | with_reducible assumption | exact unhid (by with_reducible assumption) | (first | omega | (have z_ := unhid u6_; omega)) | exact (InvC_get (by assumption) 79 15 rfl rfl).2) (by first | with_reducible assumption | exact unhid (by with_reducible assumption) | (first | omega | (have z_ := unhid u6_; omega)) | exact (InvC_get (by assumption) 79 15 rfl rfl).2) (by first | with_reducible assumption | exact unhid (by with_reducible assumption) | (first | omega | (have z_ := unhid u6_; omega)) | exact (InvC_get (by assumption) 79 15 rfl rfl).2) (by first | with_reducible assumption | exact unhid (by with_reducible assumption) | (first | omega | (have z_ := unhid u6_; omega)) | exact (InvC_get (by assumption) 79 15 rfl rfl).2) (by first | with_reducible assumption | exact unhid (by with_reducible assumption) | (first | omega | (have z_ := unhid u6_; omega)) | exact (InvC_get (by assumption) 79 15 rfl rfl).2) (by first | with_reducible assumption | exact unhid (by with_reducible assumption) | (first | omega | (have z_ := unhid u6_; omega)) | exact (InvC_get (by assumption) 79 15 rfl rfl).2) (by exact E80340) (by (first | omega | (have z_ := unhid u6_; omega)))) ⟨.inl rfl, .inl rfl, .inl rfl, .inl rfl, trivial⟩
      exact GO.le (loop165 _ 1 dt94 hI95 hF97 (by first | with_reducible assumption | omega | exact (InvC_get (by assumption) 79 15 rfl rfl).2) (by first | exact T100 | exact TRr_c T100 (by omega)) (by first | with_reducible assumption | omega | exact (InvC_get (by assumption) 79 15 rfl rfl).2) (by first | with_reducible assumption | omega | exact (InvC_get (by assumption) 79 15 rfl rfl).2) (by first | with_reducible assumption | omega | exact (InvC_get (by assumption) 79 15 rfl rfl).2) (by first | with_reducible assumption | omega | exact (InvC_get (by assumption) 79 15 rfl rfl).2) (by first | with_reducible assumption | omega | exact (InvC_get (by assumption) 79 15 rfl rfl).2) (by first | with_reducible assumption | omega | exact (InvC_get (by assumption) 79 15 rfl rfl).2) (by first | with_reducible assumption | omega | exact (InvC_get (by assumption) 79 15 rfl rfl).2) (by exact E8098) (Nat.lt_succ_self _)) ⟨.inl rfl, .inl rfl, .inl rfl, .inl rfl, trivial⟩
    · skip
      refine go_toq PM174 (k := 3) (pc' := 34) (L' := [some (.inr (.inr (some 79))), some (.inl 1), some (.inl p2), none]) (st' := [.inl 0, .inr (.inr (some 79))]) (w' := (SH, (u2 dt 79 17 0))) rfl ?_
      have hI342 : InvC (u2 (u2 dt 79 17 0) 79 12 0) := InvC_u2 hI5 (lo := 0) (hi := 500) rfl rfl rfl (by decide) (by decide)
      have hF343 : Fr [79, 80, 82, 83, 84] dt (u2 (u2 dt 79 17 0) 79 12 0) := Fr_u2 hF6 (by decide)
      have w344 : (u2 (u2 dt 79 17 0) 79 12 0) 79 2 = (u2 dt 79 17 0) 79 2 := rfl
      have w345 : (u2 (u2 dt 79 17 0) 79 12 0) 79 9 = (u2 dt 79 17 0) 79 9 := rfl
      have w346 : (u2 (u2 dt 79 17 0) 79 12 0) 79 10 = (u2 dt 79 17 0) 79 10 := rfl
      have w347 : (u2 (u2 dt 79 17 0) 79 12 0) 79 11 = (u2 dt 79 17 0) 79 11 := rfl
      have w348 : (u2 (u2 dt 79 17 0) 79 12 0) 79 12 = 0 := rfl
      have w349 : (u2 (u2 dt 79 17 0) 79 12 0) 79 13 = (u2 dt 79 17 0) 79 13 := rfl
      have w350 : (u2 (u2 dt 79 17 0) 79 12 0) 79 14 = (u2 dt 79 17 0) 79 14 := rfl
      have w351 : (u2 (u2 dt 79 17 0) 79 12 0) 79 15 = (u2 dt 79 17 0) 79 15 := rfl
      have w352 : (u2 (u2 dt 79 17 0) 79 12 0) 79 16 = (u2 dt 79 17 0) 79 16 := rfl
      have w353 : (u2 (u2 dt 79 17 0) 79 12 0) 79 17 = (u2 dt 79 17 0) 79 17 := rfl
      have w354 : (u2 (u2 dt 79 17 0) 79 12 0) 79 18 = (u2 dt 79 17 0) 79 18 := rfl
      have w355 : (u2 (u2 dt 79 17 0) 79 12 0) 79 19 = (u2 dt 79 17 0) 79 19 := rfl
      have w356 : (u2 (u2 dt 79 17 0) 79 12 0) 79 20 = (u2 dt 79 17 0) 79 20 := rfl
      have w357 : (u2 (u2 dt 79 17 0) 79 12 0) 79 21 = (u2 dt 79 17 0) 79 21 := rfl
      have E80358 : (u2 (u2 dt 79 17 0) 79 12 0) 80 = dt 80 := (funext fun _ => u2_ne (fun z => absurd z.1 (by decide))).trans E8021
      refine go_smpq PM174 (L' := [some (.inr (.inr (some 79))), some (.inl 1), some (.inl p2), none]) (st' := []) (w' := (SH, (u2 (u2 dt 79 17 0) 79 12 0))) rfl rfl (s_pf rfl rfl rfl rfl ⟨by decide, by decide⟩) ?_
      refine go_toq PM174 (k := 2) (pc' := 39) (L' := [some (.inr (.inr (some 79))), some (.inl 1), some (.inl p2), none]) (st' := [.inl 0, .inr (.inr (some 79))]) (w' := (SH, (u2 (u2 dt 79 17 0) 79 12 0))) rfl ?_
      have hI359 : InvC (u2 (u2 (u2 dt 79 17 0) 79 12 0) 79 19 0) := InvC_u2 hI342 (lo := -2147483648) (hi := 2147483647) rfl rfl rfl (by decide) (by decide)
      have hF360 : Fr [79, 80, 82, 83, 84] dt (u2 (u2 (u2 dt 79 17 0) 79 12 0) 79 19 0) := Fr_u2 hF343 (by decide)
      have w361 : (u2 (u2 (u2 dt 79 17 0) 79 12 0) 79 19 0) 79 2 = (u2 (u2 dt 79 17 0) 79 12 0) 79 2 := rfl
      have w362 : (u2 (u2 (u2 dt 79 17 0) 79 12 0) 79 19 0) 79 9 = (u2 (u2 dt 79 17 0) 79 12 0) 79 9 := rfl
      have w363 : (u2 (u2 (u2 dt 79 17 0) 79 12 0) 79 19 0) 79 10 = (u2 (u2 dt 79 17 0) 79 12 0) 79 10 := rfl
      have w364 : (u2 (u2 (u2 dt 79 17 0) 79 12 0) 79 19 0) 79 11 = (u2 (u2 dt 79 17 0) 79 12 0) 79 11 := rfl
      have w365 : (u2 (u2 (u2 dt 79 17 0) 79 12 0) 79 19 0) 79 12 = (u2 (u2 dt 79 17 0) 79 12 0) 79 12 := rfl
      have w366 : (u2 (u2 (u2 dt 79 17 0) 79 12 0) 79 19 0) 79 13 = (u2 (u2 dt 79 17 0) 79 12 0) 79 13 := rfl
      have w367 : (u2 (u2 (u2 dt 79 17 0) 79 12 0) 79 19 0) 79 14 = (u2 (u2 dt 79 17 0) 79 12 0) 79 14 := rfl
      have w368 : (u2 (u2 (u2 dt 79 17 0) 79 12 0) 79 19 0) 79 15 = (u2 (u2 dt 79 17 0) 79 12 0) 79 15 := rfl
      have w369 : (u2 (u2 (u2 dt 79 17 0) 79 12 0) 79 19 0) 79 16 = (u2 (u2 dt 79 17 0) 79 12 0) 79 16 := rfl
      have w370 : (u2 (u2 (u2 dt 79 17 0) 79 12 0) 79 19 0) 79 17 = (u2 (u2 dt 79 17 0) 79 12 0) 79 17 := rfl
      have w371 : (u2 (u2 (u2 dt 79 17 0) 79 12 0) 79 19 0) 79 18 = (u2 (u2 dt 79 17 0) 79 12 0) 79 18 := rfl
      have w372 : (u2 (u2 (u2 dt 79 17 0) 79 12 0) 79 19 0) 79 19 = 0 := rfl
      have w373 : (u2 (u2 (u2 dt 79 17 0) 79 12 0) 79 19 0) 79 20 = (u2 (u2 dt 79 17 0) 79 12 0) 79 20 := rfl
      have w374 : (u2 (u2 (u2 dt 79 17 0) 79 12 0) 79 19 0) 79 21 = (u2 (u2 dt 79 17 0) 79 12 0) 79 21 := rfl
      have E80375 : (u2 (u2 (u2 dt 79 17 0) 79 12 0) 79 19 0) 80 = dt 80 := (funext fun _ => u2_ne (fun z => absurd z.1 (by decide))).trans E80358
      refine go_smpq PM174 (L' := [some (.inr (.inr (some 79))), some (.inl 1), some (.inl p2), none]) (st' := []) (w' := (SH, (u2 (u2 (u2 dt 79 17 0) 79 12 0) 79 19 0))) rfl rfl (s_pf rfl rfl rfl rfl ⟨by decide, by decide⟩) ?_
      refine go_toq PM174 (k := 2) (pc' := 44) (L' := [some (.inr (.inr (some 79))), some (.inl 1), some (.inl p2), none]) (st' := [.inl (-1), .inr (.inr (some 79))]) (w' := (SH, (u2 (u2 (u2 dt 79 17 0) 79 12 0) 79 19 0))) rfl ?_
      have hI376 : InvC (u2 (u2 (u2 (u2 dt 79 17 0) 79 12 0) 79 19 0) 79 21 (-1)) := InvC_u2 hI359 (lo := -2147483648) (hi := 2147483647) rfl rfl rfl (by decide) (by decide)
      have hF377 : Fr [79, 80, 82, 83, 84] dt (u2 (u2 (u2 (u2 dt 79 17 0) 79 12 0) 79 19 0) 79 21 (-1)) := Fr_u2 hF360 (by decide)
      have w378 : (u2 (u2 (u2 (u2 dt 79 17 0) 79 12 0) 79 19 0) 79 21 (-1)) 79 2 = (u2 (u2 (u2 dt 79 17 0) 79 12 0) 79 19 0) 79 2 := rfl
      have w379 : (u2 (u2 (u2 (u2 dt 79 17 0) 79 12 0) 79 19 0) 79 21 (-1)) 79 9 = (u2 (u2 (u2 dt 79 17 0) 79 12 0) 79 19 0) 79 9 := rfl
      have w380 : (u2 (u2 (u2 (u2 dt 79 17 0) 79 12 0) 79 19 0) 79 21 (-1)) 79 10 = (u2 (u2 (u2 dt 79 17 0) 79 12 0) 79 19 0) 79 10 := rfl
      have w381 : (u2 (u2 (u2 (u2 dt 79 17 0) 79 12 0) 79 19 0) 79 21 (-1)) 79 11 = (u2 (u2 (u2 dt 79 17 0) 79 12 0) 79 19 0) 79 11 := rfl
      have w382 : (u2 (u2 (u2 (u2 dt 79 17 0) 79 12 0) 79 19 0) 79 21 (-1)) 79 12 = (u2 (u2 (u2 dt 79 17 0) 79 12 0) 79 19 0) 79 12 := rfl
      have w383 : (u2 (u2 (u2 (u2 dt 79 17 0) 79 12 0) 79 19 0) 79 21 (-1)) 79 13 = (u2 (u2 (u2 dt 79 17 0) 79 12 0) 79 19 0) 79 13 := rfl
      have w384 : (u2 (u2 (u2 (u2 dt 79 17 0) 79 12 0) 79 19 0) 79 21 (-1)) 79 14 = (u2 (u2 (u2 dt 79 17 0) 79 12 0) 79 19 0) 79 14 := rfl
      have w385 : (u2 (u2 (u2 (u2 dt 79 17 0) 79 12 0) 79 19 0) 79 21 (-1)) 79 15 = (u2 (u2 (u2 dt 79 17 0) 79 12 0) 79 19 0) 79 15 := rfl
      have w386 : (u2 (u2 (u2 (u2 dt 79 17 0) 79 12 0) 79 19 0) 79 21 (-1)) 79 16 = (u2 (u2 (u2 dt 79 17 0) 79 12 0) 79 19 0) 79 16 := rfl
      have w387 : (u2 (u2 (u2 (u2 dt 79 17 0) 79 12 0) 79 19 0) 79 21 (-1)) 79 17 = (u2 (u2 (u2 dt 79 17 0) 79 12 0) 79 19 0) 79 17 := rfl
      have w388 : (u2 (u2 (u2 (u2 dt 79 17 0) 79 12 0) 79 19 0) 79 21 (-1)) 79 18 = (u2 (u2 (u2 dt 79 17 0) 79 12 0) 79 19 0) 79 18 := rfl
      have w389 : (u2 (u2 (u2 (u2 dt 79 17 0) 79 12 0) 79 19 0) 79 21 (-1)) 79 19 = (u2 (u2 (u2 dt 79 17 0) 79 12 0) 79 19 0) 79 19 := rfl
      have w390 : (u2 (u2 (u2 (u2 dt 79 17 0) 79 12 0) 79 19 0) 79 21 (-1)) 79 20 = (u2 (u2 (u2 dt 79 17 0) 79 12 0) 79 19 0) 79 20 := rfl
      have w391 : (u2 (u2 (u2 (u2 dt 79 17 0) 79 12 0) 79 19 0) 79 21 (-1)) 79 21 = (-1) := rfl
      have E80392 : (u2 (u2 (u2 (u2 dt 79 17 0) 79 12 0) 79 19 0) 79 21 (-1)) 80 = dt 80 := (funext fun _ => u2_ne (fun z => absurd z.1 (by decide))).trans E80375
      refine go_smpq PM174 (L' := [some (.inr (.inr (some 79))), some (.inl 1), some (.inl p2), none]) (st' := []) (w' := (SH, (u2 (u2 (u2 (u2 dt 79 17 0) 79 12 0) 79 19 0) 79 21 (-1)))) rfl rfl (s_pf rfl rfl rfl rfl ⟨by decide, by decide⟩) ?_
      refine go_retq PM174 (k := 1) (r := some (.inl (-1))) (w1 := (SH, (u2 (u2 (u2 (u2 dt 79 17 0) 79 12 0) 79 19 0) 79 21 (-1)))) rfl ?_
      exact ⟨(u2 (u2 (u2 (u2 dt 79 17 0) 79 12 0) 79 19 0) 79 21 (-1)), rfl, hI376, hF377, ⟨_, rfl, ⟨by decide, by decide⟩, ⟨by first | exact True.intro | with_reducible assumption | rfl | omega | trivial, by first | exact True.intro | with_reducible assumption | rfl | omega | trivial, by first | exact TRS_y (by unfold okT; omega) rfl (by omega) (by omega) | exact TRr_e  (by unfold okT; omega) hz (by omega) (fun z_ => by omega) (by decide) (by first | (rw [if_pos (by omega)]; done) | (rw [if_neg (by omega)]; omega)) (by first | (rw [if_pos (by omega)]; omega) | (rw [if_neg (by omega)]; omega)) (by first | (rw [if_pos (by omega)]; omega) | (rw [if_neg (by omega)]; omega)), by first | exact TSR_n (by omega) (fun j _ => rfl) | exact TSR_n (by omega) (fun j _ => congrFun E80392 j) | exact TSR_n (by omega) (fun j hj => (hI j hj).trans (congrFun rfl j)) | exact TSR_y (fun j => congrFun rfl j) hI ⟨by omega, by omega⟩ (by omega) (fun q hq => qAR (by omega) q (by omega)) ⟨by omega, ⟨by omega, by omega⟩, by omega⟩⟩⟩⟩
  · skip
    refine go_toq PM174 (k := 3) (pc' := 34) (L' := [some (.inr (.inr (some 79))), some (.inl 1), some (.inl p2), none]) (st' := [.inl 0, .inr (.inr (some 79))]) (w' := (SH, (u2 dt 79 17 0))) rfl ?_
    have hI393 : InvC (u2 (u2 dt 79 17 0) 79 12 0) := InvC_u2 hI5 (lo := 0) (hi := 500) rfl rfl rfl (by decide) (by decide)
    have hF394 : Fr [79, 80, 82, 83, 84] dt (u2 (u2 dt 79 17 0) 79 12 0) := Fr_u2 hF6 (by decide)
    have w395 : (u2 (u2 dt 79 17 0) 79 12 0) 79 2 = (u2 dt 79 17 0) 79 2 := rfl
    have w396 : (u2 (u2 dt 79 17 0) 79 12 0) 79 9 = (u2 dt 79 17 0) 79 9 := rfl
    have w397 : (u2 (u2 dt 79 17 0) 79 12 0) 79 10 = (u2 dt 79 17 0) 79 10 := rfl
    have w398 : (u2 (u2 dt 79 17 0) 79 12 0) 79 11 = (u2 dt 79 17 0) 79 11 := rfl
    have w399 : (u2 (u2 dt 79 17 0) 79 12 0) 79 12 = 0 := rfl
    have w400 : (u2 (u2 dt 79 17 0) 79 12 0) 79 13 = (u2 dt 79 17 0) 79 13 := rfl
    have w401 : (u2 (u2 dt 79 17 0) 79 12 0) 79 14 = (u2 dt 79 17 0) 79 14 := rfl
    have w402 : (u2 (u2 dt 79 17 0) 79 12 0) 79 15 = (u2 dt 79 17 0) 79 15 := rfl
    have w403 : (u2 (u2 dt 79 17 0) 79 12 0) 79 16 = (u2 dt 79 17 0) 79 16 := rfl
    have w404 : (u2 (u2 dt 79 17 0) 79 12 0) 79 17 = (u2 dt 79 17 0) 79 17 := rfl
    have w405 : (u2 (u2 dt 79 17 0) 79 12 0) 79 18 = (u2 dt 79 17 0) 79 18 := rfl
    have w406 : (u2 (u2 dt 79 17 0) 79 12 0) 79 19 = (u2 dt 79 17 0) 79 19 := rfl
    have w407 : (u2 (u2 dt 79 17 0) 79 12 0) 79 20 = (u2 dt 79 17 0) 79 20 := rfl
    have w408 : (u2 (u2 dt 79 17 0) 79 12 0) 79 21 = (u2 dt 79 17 0) 79 21 := rfl
    have E80409 : (u2 (u2 dt 79 17 0) 79 12 0) 80 = dt 80 := (funext fun _ => u2_ne (fun z => absurd z.1 (by decide))).trans E8021
    refine go_smpq PM174 (L' := [some (.inr (.inr (some 79))), some (.inl 1), some (.inl p2), none]) (st' := []) (w' := (SH, (u2 (u2 dt 79 17 0) 79 12 0))) rfl rfl (s_pf rfl rfl rfl rfl ⟨by decide, by decide⟩) ?_
    refine go_toq PM174 (k := 2) (pc' := 39) (L' := [some (.inr (.inr (some 79))), some (.inl 1), some (.inl p2), none]) (st' := [.inl 0, .inr (.inr (some 79))]) (w' := (SH, (u2 (u2 dt 79 17 0) 79 12 0))) rfl ?_
    have hI410 : InvC (u2 (u2 (u2 dt 79 17 0) 79 12 0) 79 19 0) := InvC_u2 hI393 (lo := -2147483648) (hi := 2147483647) rfl rfl rfl (by decide) (by decide)
    have hF411 : Fr [79, 80, 82, 83, 84] dt (u2 (u2 (u2 dt 79 17 0) 79 12 0) 79 19 0) := Fr_u2 hF394 (by decide)
    have w412 : (u2 (u2 (u2 dt 79 17 0) 79 12 0) 79 19 0) 79 2 = (u2 (u2 dt 79 17 0) 79 12 0) 79 2 := rfl
    have w413 : (u2 (u2 (u2 dt 79 17 0) 79 12 0) 79 19 0) 79 9 = (u2 (u2 dt 79 17 0) 79 12 0) 79 9 := rfl
    have w414 : (u2 (u2 (u2 dt 79 17 0) 79 12 0) 79 19 0) 79 10 = (u2 (u2 dt 79 17 0) 79 12 0) 79 10 := rfl
    have w415 : (u2 (u2 (u2 dt 79 17 0) 79 12 0) 79 19 0) 79 11 = (u2 (u2 dt 79 17 0) 79 12 0) 79 11 := rfl
    have w416 : (u2 (u2 (u2 dt 79 17 0) 79 12 0) 79 19 0) 79 12 = (u2 (u2 dt 79 17 0) 79 12 0) 79 12 := rfl
    have w417 : (u2 (u2 (u2 dt 79 17 0) 79 12 0) 79 19 0) 79 13 = (u2 (u2 dt 79 17 0) 79 12 0) 79 13 := rfl
    have w418 : (u2 (u2 (u2 dt 79 17 0) 79 12 0) 79 19 0) 79 14 = (u2 (u2 dt 79 17 0) 79 12 0) 79 14 := rfl
    have w419 : (u2 (u2 (u2 dt 79 17 0) 79 12 0) 79 19 0) 79 15 = (u2 (u2 dt 79 17 0) 79 12 0) 79 15 := rfl
    have w420 : (u2 (u2 (u2 dt 79 17 0) 79 12 0) 79 19 0) 79 16 = (u2 (u2 dt 79 17 0) 79 12 0) 79 16 := rfl
    have w421 : (u2 (u2 (u2 dt 79 17 0) 79 12 0) 79 19 0) 79 17 = (u2 (u2 dt 79 17 0) 79 12 0) 79 17 := rfl
    have w422 : (u2 (u2 (u2 dt 79 17 0) 79 12 0) 79 19 0) 79 18 = (u2 (u2 dt 79 17 0) 79 12 0) 79 18 := rfl
    have w423 : (u2 (u2 (u2 dt 79 17 0) 79 12 0) 79 19 0) 79 19 = 0 := rfl
    have w424 : (u2 (u2 (u2 dt 79 17 0) 79 12 0) 79 19 0) 79 20 = (u2 (u2 dt 79 17 0) 79 12 0) 79 20 := rfl
    have w425 : (u2 (u2 (u2 dt 79 17 0) 79 12 0) 79 19 0) 79 21 = (u2 (u2 dt 79 17 0) 79 12 0) 79 21 := rfl
    have E80426 : (u2 (u2 (u2 dt 79 17 0) 79 12 0) 79 19 0) 80 = dt 80 := (funext fun _ => u2_ne (fun z => absurd z.1 (by decide))).trans E80409
    refine go_smpq PM174 (L' := [some (.inr (.inr (some 79))), some (.inl 1), some (.inl p2), none]) (st' := []) (w' := (SH, (u2 (u2 (u2 dt 79 17 0) 79 12 0) 79 19 0))) rfl rfl (s_pf rfl rfl rfl rfl ⟨by decide, by decide⟩) ?_
    refine go_toq PM174 (k := 2) (pc' := 44) (L' := [some (.inr (.inr (some 79))), some (.inl 1), some (.inl p2), none]) (st' := [.inl (-1), .inr (.inr (some 79))]) (w' := (SH, (u2 (u2 (u2 dt 79 17 0) 79 12 0) 79 19 0))) rfl ?_
    have hI427 : InvC (u2 (u2 (u2 (u2 dt 79 17 0) 79 12 0) 79 19 0) 79 21 (-1)) := InvC_u2 hI410 (lo := -2147483648) (hi := 2147483647) rfl rfl rfl (by decide) (by decide)
    have hF428 : Fr [79, 80, 82, 83, 84] dt (u2 (u2 (u2 (u2 dt 79 17 0) 79 12 0) 79 19 0) 79 21 (-1)) := Fr_u2 hF411 (by decide)
    have w429 : (u2 (u2 (u2 (u2 dt 79 17 0) 79 12 0) 79 19 0) 79 21 (-1)) 79 2 = (u2 (u2 (u2 dt 79 17 0) 79 12 0) 79 19 0) 79 2 := rfl
    have w430 : (u2 (u2 (u2 (u2 dt 79 17 0) 79 12 0) 79 19 0) 79 21 (-1)) 79 9 = (u2 (u2 (u2 dt 79 17 0) 79 12 0) 79 19 0) 79 9 := rfl
    have w431 : (u2 (u2 (u2 (u2 dt 79 17 0) 79 12 0) 79 19 0) 79 21 (-1)) 79 10 = (u2 (u2 (u2 dt 79 17 0) 79 12 0) 79 19 0) 79 10 := rfl
    have w432 : (u2 (u2 (u2 (u2 dt 79 17 0) 79 12 0) 79 19 0) 79 21 (-1)) 79 11 = (u2 (u2 (u2 dt 79 17 0) 79 12 0) 79 19 0) 79 11 := rfl
    have w433 : (u2 (u2 (u2 (u2 dt 79 17 0) 79 12 0) 79 19 0) 79 21 (-1)) 79 12 = (u2 (u2 (u2 dt 79 17 0) 79 12 0) 79 19 0) 79 12 := rfl
    have w434 : (u2 (u2 (u2 (u2 dt 79 17 0) 79 12 0) 79 19 0) 79 21 (-1)) 79 13 = (u2 (u2 (u2 dt 79 17 0) 79 12 0) 79 19 0) 79 13 := rfl
    have w435 : (u2 (u2 (u2 (u2 dt 79 17 0) 79 12 0) 79 19 0) 79 21 (-1)) 79 14 = (u2 (u2 (u2 dt 79 17 0) 79 12 0) 79 19 0) 79 14 := rfl
    have w436 : (u2 (u2 (u2 (u2 dt 79 17 0) 79 12 0) 79 19 0) 79 21 (-1)) 79 15 = (u2 (u2 (u2 dt 79 17 0) 79 12 0) 79 19 0) 79 15 := rfl
    have w437 : (u2 (u2 (u2 (u2 dt 79 17 0) 79 12 0) 79 19 0) 79 21 (-1)) 79 16 = (u2 (u2 (u2 dt 79 17 0) 79 12 0) 79 19 0) 79 16 := rfl
    have w438 : (u2 (u2 (u2 (u2 dt 79 17 0) 79 12 0) 79 19 0) 79 21 (-1)) 79 17 = (u2 (u2 (u2 dt 79 17 0) 79 12 0) 79 19 0) 79 17 := rfl
    have w439 : (u2 (u2 (u2 (u2 dt 79 17 0) 79 12 0) 79 19 0) 79 21 (-1)) 79 18 = (u2 (u2 (u2 dt 79 17 0) 79 12 0) 79 19 0) 79 18 := rfl
    have w440 : (u2 (u2 (u2 (u2 dt 79 17 0) 79 12 0) 79 19 0) 79 21 (-1)) 79 19 = (u2 (u2 (u2 dt 79 17 0) 79 12 0) 79 19 0) 79 19 := rfl
    have w441 : (u2 (u2 (u2 (u2 dt 79 17 0) 79 12 0) 79 19 0) 79 21 (-1)) 79 20 = (u2 (u2 (u2 dt 79 17 0) 79 12 0) 79 19 0) 79 20 := rfl
    have w442 : (u2 (u2 (u2 (u2 dt 79 17 0) 79 12 0) 79 19 0) 79 21 (-1)) 79 21 = (-1) := rfl
    have E80443 : (u2 (u2 (u2 (u2 dt 79 17 0) 79 12 0) 79 19 0) 79 21 (-1)) 80 = dt 80 := (funext fun _ => u2_ne (fun z => absurd z.1 (by decide))).trans E80426
    refine go_smpq PM174 (L' := [some (.inr (.inr (some 79))), some (.inl 1), some (.inl p2), none]) (st' := []) (w' := (SH, (u2 (u2 (u2 (u2 dt 79 17 0) 79 12 0) 79 19 0) 79 21 (-1)))) rfl rfl (s_pf rfl rfl rfl rfl ⟨by decide, by decide⟩) ?_
    refine go_retq PM174 (k := 1) (r := some (.inl (-1))) (w1 := (SH, (u2 (u2 (u2 (u2 dt 79 17 0) 79 12 0) 79 19 0) 79 21 (-1)))) rfl ?_
    exact ⟨(u2 (u2 (u2 (u2 dt 79 17 0) 79 12 0) 79 19 0) 79 21 (-1)), rfl, hI427, hF428, ⟨_, rfl, ⟨by decide, by decide⟩, ⟨by first | exact True.intro | with_reducible assumption | rfl | omega | trivial, by first | exact True.intro | with_reducible assumption | rfl | omega | trivial, by first | exact TRS_y (by unfold okT; omega) rfl (by omega) (by omega) | exact TRr_e  (by unfold okT; omega) hz (by omega) (fun z_ => by omega) (by decide) (by first | (rw [if_pos (by omega)]; done) | (rw [if_neg (by omega)]; omega)) (by first | (rw [if_pos (by omega)]; omega) | (rw [if_neg (by omega)]; omega)) (by first | (rw [if_pos (by omega)]; omega) | (rw [if_neg (by omega)]; omega)), by first | exact TSR_n (by omega) (fun j _ => rfl) | exact TSR_n (by omega) (fun j _ => congrFun E80443 j) | exact TSR_n (by omega) (fun j hj => (hI j hj).trans (congrFun rfl j)) | exact TSR_y (fun j => congrFun rfl j) hI ⟨by omega, by omega⟩ (by omega) (fun q hq => qAR (by omega) q (by omega)) ⟨by omega, ⟨by omega, by omega⟩, by omega⟩⟩⟩⟩
set_option maxRecDepth 20000 in
theorem sp_X6_text_gx (L : Nat) (xs : Nat → Int32) (sio : Option Nat) (d : Nat) (dt : Nat → Nat → Int) (hI : InvC dt)  (p1 : Int) (h_p1 : (-2147483648) ≤ p1 ∧ p1 ≤ 2147483647) (p2 : Int) (h_p2 : (-2147483648) ≤ p2 ∧ p2 ≤ 2147483647) (h_p0 : ¬ p1 = 0) (h_p1 : ¬ p1 = 1) : GO (am_XX L xs sio) (d + 38) 174 0 [some (.inr (.inr (some 79))), some (.inl p1), some (.inl p2), none] [] (SH, dt) (fun r w2 => ∃ dt2 : Nat → Nat → Int, w2 = (SH, dt2) ∧ InvC dt2 ∧ Fr [79, 80, 82, 83, 84] dt dt2 ∧ ((∃ v : Int, r = some (.inl v) ∧ ((-1) ≤ v ∧ v ≤ 24) ∧ (dt2 79 12 = 0) ∧ (dt2 79 2 = dt 79 2) ∧ (TRS p1 p2 (mB (dt 85) (dt 79 12)) (dt 79 12).toNat v (dt2 79 19) (dt2 79 21)) ∧ (TSR p1 p2 (mB (dt 85) (dt 79 12)) (dt 79 12).toNat (dt2 79 19) v (dt 80) (dt2 80))))) := by
  replace h_p0 := hid h_p0
  replace h_p1 := hid h_p1
  have hF : Fr [79, 80, 82, 83, 84] dt dt := Fr_refl
  refine go_toq PM174 (k := 2) (pc' := 2) (L' := [some (.inr (.inr (some 79))), some (.inl p1), some (.inl p2), none]) (st' := [.inl 0, .inr (.inr (some 79))]) (w' := (SH, dt)) rfl ?_
  have hI1 : InvC (u2 dt 79 17 0) := InvC_u2 hI (lo := -2147483648) (hi := 2147483647) rfl rfl rfl (by decide) (by decide)
  have hF2 : Fr [79, 80, 82, 83, 84] dt (u2 dt 79 17 0) := Fr_u2 hF (by decide)
  have w3 : (u2 dt 79 17 0) 79 2 = dt 79 2 := rfl
  have w4 : (u2 dt 79 17 0) 79 9 = dt 79 9 := rfl
  have w5 : (u2 dt 79 17 0) 79 10 = dt 79 10 := rfl
  have w6 : (u2 dt 79 17 0) 79 11 = dt 79 11 := rfl
  have w7 : (u2 dt 79 17 0) 79 12 = dt 79 12 := rfl
  have w8 : (u2 dt 79 17 0) 79 13 = dt 79 13 := rfl
  have w9 : (u2 dt 79 17 0) 79 14 = dt 79 14 := rfl
  have w10 : (u2 dt 79 17 0) 79 15 = dt 79 15 := rfl
  have w11 : (u2 dt 79 17 0) 79 16 = dt 79 16 := rfl
  have w12 : (u2 dt 79 17 0) 79 17 = 0 := rfl
  have w13 : (u2 dt 79 17 0) 79 18 = dt 79 18 := rfl
  have w14 : (u2 dt 79 17 0) 79 19 = dt 79 19 := rfl
  have w15 : (u2 dt 79 17 0) 79 20 = dt 79 20 := rfl
  have w16 : (u2 dt 79 17 0) 79 21 = dt 79 21 := rfl
  refine go_smpq PM174 (L' := [some (.inr (.inr (some 79))), some (.inl p1), some (.inl p2), none]) (st' := []) (w' := (SH, (u2 dt 79 17 0))) rfl rfl (s_pf rfl rfl rfl rfl ⟨by decide, by decide⟩) ?_
  refine go_toq PM174 (k := 3) (pc' := 8) (L' := [some (.inr (.inr (some 79))), some (.inl p1), some (.inl p2), none]) (st' := [.inl 1, .inl 0, .inl p1]) (w' := (SH, (u2 dt 79 17 0))) rfl ?_
  refine go_callq PM174 PM146 (Q' := _) rfl rfl rfl rfl (sp_X6_isIn L xs sio (d + 37) (u2 dt 79 17 0) hI1  p1 (by first | exact h_p1 | exact bnd h_p1 (by decide) (by decide) | exact ⟨by (first | omega | (have z0_ := unhid h_p0; have z1_ := unhid h_p1; omega)), by (first | omega | (have z0_ := unhid h_p0; have z1_ := unhid h_p1; omega))⟩) 0 ⟨by decide, by decide⟩ 1 ⟨by decide, by decide⟩ ) ?_
  rintro _ _ ⟨rfl, h17⟩
  refine ⟨rfl, ?_⟩
  rcases h17 with ⟨rfl, h17⟩ | ⟨rfl, h17⟩
  · skip
    exfalso; (first | omega | (have z0_ := unhid h_p0; have z1_ := unhid h_p1; omega))
  · skip
    refine go_toq PM174 (k := 3) (pc' := 34) (L' := [some (.inr (.inr (some 79))), some (.inl p1), some (.inl p2), none]) (st' := [.inl 0, .inr (.inr (some 79))]) (w' := (SH, (u2 dt 79 17 0))) rfl ?_
    have hI18 : InvC (u2 (u2 dt 79 17 0) 79 12 0) := InvC_u2 hI1 (lo := 0) (hi := 500) rfl rfl rfl (by decide) (by decide)
    have hF19 : Fr [79, 80, 82, 83, 84] dt (u2 (u2 dt 79 17 0) 79 12 0) := Fr_u2 hF2 (by decide)
    have w20 : (u2 (u2 dt 79 17 0) 79 12 0) 79 2 = (u2 dt 79 17 0) 79 2 := rfl
    have w21 : (u2 (u2 dt 79 17 0) 79 12 0) 79 9 = (u2 dt 79 17 0) 79 9 := rfl
    have w22 : (u2 (u2 dt 79 17 0) 79 12 0) 79 10 = (u2 dt 79 17 0) 79 10 := rfl
    have w23 : (u2 (u2 dt 79 17 0) 79 12 0) 79 11 = (u2 dt 79 17 0) 79 11 := rfl
    have w24 : (u2 (u2 dt 79 17 0) 79 12 0) 79 12 = 0 := rfl
    have w25 : (u2 (u2 dt 79 17 0) 79 12 0) 79 13 = (u2 dt 79 17 0) 79 13 := rfl
    have w26 : (u2 (u2 dt 79 17 0) 79 12 0) 79 14 = (u2 dt 79 17 0) 79 14 := rfl
    have w27 : (u2 (u2 dt 79 17 0) 79 12 0) 79 15 = (u2 dt 79 17 0) 79 15 := rfl
    have w28 : (u2 (u2 dt 79 17 0) 79 12 0) 79 16 = (u2 dt 79 17 0) 79 16 := rfl
    have w29 : (u2 (u2 dt 79 17 0) 79 12 0) 79 17 = (u2 dt 79 17 0) 79 17 := rfl
    have w30 : (u2 (u2 dt 79 17 0) 79 12 0) 79 18 = (u2 dt 79 17 0) 79 18 := rfl
    have w31 : (u2 (u2 dt 79 17 0) 79 12 0) 79 19 = (u2 dt 79 17 0) 79 19 := rfl
    have w32 : (u2 (u2 dt 79 17 0) 79 12 0) 79 20 = (u2 dt 79 17 0) 79 20 := rfl
    have w33 : (u2 (u2 dt 79 17 0) 79 12 0) 79 21 = (u2 dt 79 17 0) 79 21 := rfl
    refine go_smpq PM174 (L' := [some (.inr (.inr (some 79))), some (.inl p1), some (.inl p2), none]) (st' := []) (w' := (SH, (u2 (u2 dt 79 17 0) 79 12 0))) rfl rfl (s_pf rfl rfl rfl rfl ⟨by decide, by decide⟩) ?_
    refine go_toq PM174 (k := 2) (pc' := 39) (L' := [some (.inr (.inr (some 79))), some (.inl p1), some (.inl p2), none]) (st' := [.inl 0, .inr (.inr (some 79))]) (w' := (SH, (u2 (u2 dt 79 17 0) 79 12 0))) rfl ?_
    have hI34 : InvC (u2 (u2 (u2 dt 79 17 0) 79 12 0) 79 19 0) := InvC_u2 hI18 (lo := -2147483648) (hi := 2147483647) rfl rfl rfl (by decide) (by decide)
    have hF35 : Fr [79, 80, 82, 83, 84] dt (u2 (u2 (u2 dt 79 17 0) 79 12 0) 79 19 0) := Fr_u2 hF19 (by decide)
    have w36 : (u2 (u2 (u2 dt 79 17 0) 79 12 0) 79 19 0) 79 2 = (u2 (u2 dt 79 17 0) 79 12 0) 79 2 := rfl
    have w37 : (u2 (u2 (u2 dt 79 17 0) 79 12 0) 79 19 0) 79 9 = (u2 (u2 dt 79 17 0) 79 12 0) 79 9 := rfl
    have w38 : (u2 (u2 (u2 dt 79 17 0) 79 12 0) 79 19 0) 79 10 = (u2 (u2 dt 79 17 0) 79 12 0) 79 10 := rfl
    have w39 : (u2 (u2 (u2 dt 79 17 0) 79 12 0) 79 19 0) 79 11 = (u2 (u2 dt 79 17 0) 79 12 0) 79 11 := rfl
    have w40 : (u2 (u2 (u2 dt 79 17 0) 79 12 0) 79 19 0) 79 12 = (u2 (u2 dt 79 17 0) 79 12 0) 79 12 := rfl
    have w41 : (u2 (u2 (u2 dt 79 17 0) 79 12 0) 79 19 0) 79 13 = (u2 (u2 dt 79 17 0) 79 12 0) 79 13 := rfl
    have w42 : (u2 (u2 (u2 dt 79 17 0) 79 12 0) 79 19 0) 79 14 = (u2 (u2 dt 79 17 0) 79 12 0) 79 14 := rfl
    have w43 : (u2 (u2 (u2 dt 79 17 0) 79 12 0) 79 19 0) 79 15 = (u2 (u2 dt 79 17 0) 79 12 0) 79 15 := rfl
    have w44 : (u2 (u2 (u2 dt 79 17 0) 79 12 0) 79 19 0) 79 16 = (u2 (u2 dt 79 17 0) 79 12 0) 79 16 := rfl
    have w45 : (u2 (u2 (u2 dt 79 17 0) 79 12 0) 79 19 0) 79 17 = (u2 (u2 dt 79 17 0) 79 12 0) 79 17 := rfl
    have w46 : (u2 (u2 (u2 dt 79 17 0) 79 12 0) 79 19 0) 79 18 = (u2 (u2 dt 79 17 0) 79 12 0) 79 18 := rfl
    have w47 : (u2 (u2 (u2 dt 79 17 0) 79 12 0) 79 19 0) 79 19 = 0 := rfl
    have w48 : (u2 (u2 (u2 dt 79 17 0) 79 12 0) 79 19 0) 79 20 = (u2 (u2 dt 79 17 0) 79 12 0) 79 20 := rfl
    have w49 : (u2 (u2 (u2 dt 79 17 0) 79 12 0) 79 19 0) 79 21 = (u2 (u2 dt 79 17 0) 79 12 0) 79 21 := rfl
    refine go_smpq PM174 (L' := [some (.inr (.inr (some 79))), some (.inl p1), some (.inl p2), none]) (st' := []) (w' := (SH, (u2 (u2 (u2 dt 79 17 0) 79 12 0) 79 19 0))) rfl rfl (s_pf rfl rfl rfl rfl ⟨by decide, by decide⟩) ?_
    refine go_toq PM174 (k := 2) (pc' := 44) (L' := [some (.inr (.inr (some 79))), some (.inl p1), some (.inl p2), none]) (st' := [.inl (-1), .inr (.inr (some 79))]) (w' := (SH, (u2 (u2 (u2 dt 79 17 0) 79 12 0) 79 19 0))) rfl ?_
    have hI50 : InvC (u2 (u2 (u2 (u2 dt 79 17 0) 79 12 0) 79 19 0) 79 21 (-1)) := InvC_u2 hI34 (lo := -2147483648) (hi := 2147483647) rfl rfl rfl (by decide) (by decide)
    have hF51 : Fr [79, 80, 82, 83, 84] dt (u2 (u2 (u2 (u2 dt 79 17 0) 79 12 0) 79 19 0) 79 21 (-1)) := Fr_u2 hF35 (by decide)
    have w52 : (u2 (u2 (u2 (u2 dt 79 17 0) 79 12 0) 79 19 0) 79 21 (-1)) 79 2 = (u2 (u2 (u2 dt 79 17 0) 79 12 0) 79 19 0) 79 2 := rfl
    have w53 : (u2 (u2 (u2 (u2 dt 79 17 0) 79 12 0) 79 19 0) 79 21 (-1)) 79 9 = (u2 (u2 (u2 dt 79 17 0) 79 12 0) 79 19 0) 79 9 := rfl
    have w54 : (u2 (u2 (u2 (u2 dt 79 17 0) 79 12 0) 79 19 0) 79 21 (-1)) 79 10 = (u2 (u2 (u2 dt 79 17 0) 79 12 0) 79 19 0) 79 10 := rfl
    have w55 : (u2 (u2 (u2 (u2 dt 79 17 0) 79 12 0) 79 19 0) 79 21 (-1)) 79 11 = (u2 (u2 (u2 dt 79 17 0) 79 12 0) 79 19 0) 79 11 := rfl
    have w56 : (u2 (u2 (u2 (u2 dt 79 17 0) 79 12 0) 79 19 0) 79 21 (-1)) 79 12 = (u2 (u2 (u2 dt 79 17 0) 79 12 0) 79 19 0) 79 12 := rfl
    have w57 : (u2 (u2 (u2 (u2 dt 79 17 0) 79 12 0) 79 19 0) 79 21 (-1)) 79 13 = (u2 (u2 (u2 dt 79 17 0) 79 12 0) 79 19 0) 79 13 := rfl
    have w58 : (u2 (u2 (u2 (u2 dt 79 17 0) 79 12 0) 79 19 0) 79 21 (-1)) 79 14 = (u2 (u2 (u2 dt 79 17 0) 79 12 0) 79 19 0) 79 14 := rfl
    have w59 : (u2 (u2 (u2 (u2 dt 79 17 0) 79 12 0) 79 19 0) 79 21 (-1)) 79 15 = (u2 (u2 (u2 dt 79 17 0) 79 12 0) 79 19 0) 79 15 := rfl
    have w60 : (u2 (u2 (u2 (u2 dt 79 17 0) 79 12 0) 79 19 0) 79 21 (-1)) 79 16 = (u2 (u2 (u2 dt 79 17 0) 79 12 0) 79 19 0) 79 16 := rfl
    have w61 : (u2 (u2 (u2 (u2 dt 79 17 0) 79 12 0) 79 19 0) 79 21 (-1)) 79 17 = (u2 (u2 (u2 dt 79 17 0) 79 12 0) 79 19 0) 79 17 := rfl
    have w62 : (u2 (u2 (u2 (u2 dt 79 17 0) 79 12 0) 79 19 0) 79 21 (-1)) 79 18 = (u2 (u2 (u2 dt 79 17 0) 79 12 0) 79 19 0) 79 18 := rfl
    have w63 : (u2 (u2 (u2 (u2 dt 79 17 0) 79 12 0) 79 19 0) 79 21 (-1)) 79 19 = (u2 (u2 (u2 dt 79 17 0) 79 12 0) 79 19 0) 79 19 := rfl
    have w64 : (u2 (u2 (u2 (u2 dt 79 17 0) 79 12 0) 79 19 0) 79 21 (-1)) 79 20 = (u2 (u2 (u2 dt 79 17 0) 79 12 0) 79 19 0) 79 20 := rfl
    have w65 : (u2 (u2 (u2 (u2 dt 79 17 0) 79 12 0) 79 19 0) 79 21 (-1)) 79 21 = (-1) := rfl
    refine go_smpq PM174 (L' := [some (.inr (.inr (some 79))), some (.inl p1), some (.inl p2), none]) (st' := []) (w' := (SH, (u2 (u2 (u2 (u2 dt 79 17 0) 79 12 0) 79 19 0) 79 21 (-1)))) rfl rfl (s_pf rfl rfl rfl rfl ⟨by decide, by decide⟩) ?_
    refine go_retq PM174 (k := 1) (r := some (.inl (-1))) (w1 := (SH, (u2 (u2 (u2 (u2 dt 79 17 0) 79 12 0) 79 19 0) 79 21 (-1)))) rfl ?_
    exact ⟨(u2 (u2 (u2 (u2 dt 79 17 0) 79 12 0) 79 19 0) 79 21 (-1)), rfl, hI50, hF51, ⟨_, rfl, ⟨by decide, by decide⟩, ⟨by first | exact True.intro | with_reducible assumption | exact unhid (by with_reducible assumption) | rfl | (first | omega | (have z0_ := unhid h_p0; have z1_ := unhid h_p1; omega)) | trivial, by first | exact True.intro | with_reducible assumption | exact unhid (by with_reducible assumption) | rfl | (first | omega | (have z0_ := unhid h_p0; have z1_ := unhid h_p1; omega)) | trivial, by exact TRS_y (by unfold okT; (first | omega | (have z0_ := unhid h_p0; have z1_ := unhid h_p1; omega))) rfl (by (first | omega | (have z0_ := unhid h_p0; have z1_ := unhid h_p1; omega))) (by (first | omega | (have z0_ := unhid h_p0; have z1_ := unhid h_p1; omega))), by exact TSR_n (by (first | omega | (have z0_ := unhid h_p0; have z1_ := unhid h_p1; omega))) (fun j _ => rfl)⟩⟩⟩
theorem sp_X6_text_g (L : Nat) (xs : Nat → Int32) (sio : Option Nat) (d : Nat) (dt : Nat → Nat → Int) (hI : InvC dt) (p1 : Int) (h_p1 : (-2147483648) ≤ p1 ∧ p1 ≤ 2147483647) (p2 : Int) (h_p2 : (-2147483648) ≤ p2 ∧ p2 ≤ 2147483647) : GO (am_XX L xs sio) (d + 38) 174 0 [some (.inr (.inr (some 79))), some (.inl p1), some (.inl p2), none] [] (SH, dt) (fun r w2 => ∃ dt2 : Nat → Nat → Int, w2 = (SH, dt2) ∧ InvC dt2 ∧ Fr [79, 80, 82, 83, 84] dt dt2 ∧ ((∃ v : Int, r = some (.inl v) ∧ ((-1) ≤ v ∧ v ≤ 24) ∧ (dt2 79 12 = 0) ∧ (dt2 79 2 = dt 79 2) ∧ (TRS p1 p2 (mB (dt 85) (dt 79 12)) (dt 79 12).toNat v (dt2 79 19) (dt2 79 21)) ∧ (TSR p1 p2 (mB (dt 85) (dt 79 12)) (dt 79 12).toNat (dt2 79 19) v (dt 80) (dt2 80))))) := by
  by_cases c0 : p1 = 0
  · subst c0; exact sp_X6_text_g0 L xs sio (d + 0) dt hI p2 h_p2
  · by_cases c1 : p1 = 1
    · subst c1; exact sp_X6_text_g1 L xs sio (d + 0) dt hI p2 h_p2
    · exact sp_X6_text_gx L xs sio (d + 0) dt hI p1 h_p1 p2 h_p2 c0 c1
