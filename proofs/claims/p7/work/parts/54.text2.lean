set_option maxRecDepth 20000 in
theorem sp_X6_argument (L : Nat) (xs : Nat → Int32) (sio : Option Nat) (d : Nat) (dt : Nat → Nat → Int) (hI : InvC dt)  (p1 : Int) (h_p1 : 1 ≤ p1 ∧ p1 ≤ 4) (p2 : Int) (h_p2 : 0 ≤ p2 ∧ p2 ≤ 3) (h_p0 : (¬ dt 79 14 = 0 → dt 79 15 + 1 ≤ dt 79 13) ∧ dt 79 13 ≤ 500) (h_p1 : dt 79 10 ≤ 23) : GO (am_XX L xs sio) (d + 8) 171 0 [some (.inr (.inr (some 79))), some (.inl p1), some (.inl p2)] [] (SH, dt) (fun r w2 => ∃ dt2 : Nat → Nat → Int, w2 = (SH, dt2) ∧ InvC dt2 ∧ Fr [79, 82] dt dt2 ∧ ((r = some (.inl 0) ∧ (dt2 79 2 = dt 79 2) ∧ (dt2 79 9 = dt 79 9) ∧ (dt2 79 10 = dt 79 10) ∧ (dt2 79 12 = dt 79 12)) ∨ (r = some (.inl 1) ∧ (∀ j : Nat, ¬ (j : Int) = 5 * dt 79 10 + p1 → dt2 82 j = dt 82 j) ∧ (∀ q : Int, q = 5 * dt 79 10 + p1 → 0 ≤ dt2 82 q.toNat ∧ dt2 82 q.toNat ≤ p2) ∧ (dt 79 15 + 1 ≤ dt2 79 15) ∧ ((¬ dt2 79 14 = 0 → dt2 79 15 + 1 ≤ dt2 79 13) ∧ dt2 79 13 ≤ 500) ∧ (dt2 79 15 ≤ 500) ∧ (dt2 79 2 = dt 79 2) ∧ (dt2 79 9 = dt 79 9) ∧ (dt2 79 10 = dt 79 10) ∧ (dt2 79 11 = dt 79 11) ∧ (dt2 79 12 = dt 79 12) ∧ (dt2 79 20 = dt 79 20)))) := by
  have hF : Fr [79, 82] dt dt := Fr_refl
  have r1 : 0 ≤ dt 79 15 ∧ dt 79 15 ≤ 500 := InvC_get hI 79 15 rfl rfl
  have r2 : 0 ≤ dt 79 11 ∧ dt 79 11 ≤ 510 := InvC_get hI 79 11 rfl rfl
  have r3 : 0 ≤ dt 79 10 ∧ dt 79 10 ≤ 24 := InvC_get hI 79 10 rfl rfl
  have r4 : 0 ≤ dt 79 16 ∧ dt 79 16 ≤ 9999 := InvC_get hI 79 16 rfl rfl
  refine go_toq PM171 (k := 10) (pc' := 16) (L' := [some (.inr (.inr (some 79))), some (.inl p1), some (.inl p2)]) (st' := [.inl (dt 79 16), .inl ((5 * (dt 79 10)) + p1), .inr (.inr (some 82))]) (w' := (SH, dt)) rfl ?_
  have hI5 : InvC (u2 dt 82 (((5 * (dt 79 10)) + p1).toNat) (dt 79 16)) := InvC_u2 hI (lo := -2147483648) (hi := 2147483647) rfl rfl rfl (by first | exact bnd1 r4 (by decide) | omega) (by first | exact bnd2 r4 (by decide) | omega)
  have hF6 : Fr [79, 82] dt (u2 dt 82 (((5 * (dt 79 10)) + p1).toNat) (dt 79 16)) := Fr_u2 hF (by decide)
  have w7 : (u2 dt 82 (((5 * (dt 79 10)) + p1).toNat) (dt 79 16)) 79 2 = dt 79 2 := rfl
  have w8 : (u2 dt 82 (((5 * (dt 79 10)) + p1).toNat) (dt 79 16)) 79 9 = dt 79 9 := rfl
  have w9 : (u2 dt 82 (((5 * (dt 79 10)) + p1).toNat) (dt 79 16)) 79 10 = dt 79 10 := rfl
  have w10 : (u2 dt 82 (((5 * (dt 79 10)) + p1).toNat) (dt 79 16)) 79 11 = dt 79 11 := rfl
  have w11 : (u2 dt 82 (((5 * (dt 79 10)) + p1).toNat) (dt 79 16)) 79 12 = dt 79 12 := rfl
  have w12 : (u2 dt 82 (((5 * (dt 79 10)) + p1).toNat) (dt 79 16)) 79 13 = dt 79 13 := rfl
  have w13 : (u2 dt 82 (((5 * (dt 79 10)) + p1).toNat) (dt 79 16)) 79 14 = dt 79 14 := rfl
  have w14 : (u2 dt 82 (((5 * (dt 79 10)) + p1).toNat) (dt 79 16)) 79 15 = dt 79 15 := rfl
  have w15 : (u2 dt 82 (((5 * (dt 79 10)) + p1).toNat) (dt 79 16)) 79 16 = dt 79 16 := rfl
  have w16 : (u2 dt 82 (((5 * (dt 79 10)) + p1).toNat) (dt 79 16)) 79 20 = dt 79 20 := rfl
  refine go_smpq PM171 (L' := [some (.inr (.inr (some 79))), some (.inl p1), some (.inl p2)]) (st' := []) (w' := (SH, (u2 dt 82 (((5 * (dt 79 10)) + p1).toNat) (dt 79 16)))) rfl rfl (s_iast (n := 120) rfl ⟨by omega, by omega⟩ (by first | exact bnd r4 (by decide) (by decide) | exact ⟨by omega, by omega⟩)) ?_
  refine go_toq PM171 (k := 3) (pc' := 20) (L' := [some (.inr (.inr (some 79))), some (.inl p1), some (.inl p2)]) (st' := [.inl p2, .inl 0, .inr (.inr (some 79))]) (w' := (SH, (u2 dt 82 (((5 * (dt 79 10)) + p1).toNat) (dt 79 16)))) rfl ?_
  refine go_callq PM171 PM162 (Q' := _) rfl rfl rfl rfl (sp_X6_number L xs sio (d + 0) (u2 dt 82 (((5 * (dt 79 10)) + p1).toNat) (dt 79 16)) hI5  0 ⟨by decide, by decide⟩ p2 (by first | exact h_p2 | exact bnd h_p2 (by decide) (by decide) | exact ⟨by omega, by omega⟩) (by first | exact True.intro | rfl | omega | trivial)) ?_
  rintro _ _ ⟨dt18, rfl, hI19, hF20, h17⟩
  refine ⟨rfl, ?_⟩
  have hF21 : Fr [79, 82] dt dt18 := Fr_tr hF6 hF20 (by decide)
  rcases h17 with ⟨rfl, h17⟩ | ⟨rfl, h17⟩
  · skip
    have EB22 : ∀ j, dt18 82 j = (u2 dt 82 (((5 * (dt 79 10)) + p1).toNat) (dt 79 16)) 82 j := fun j => hF20 82 (by decide) j
    refine go_retq PM171 (k := 0) (r := some (.inl 0)) (w1 := (SH, dt18)) rfl ?_
    exact ⟨dt18, rfl, hI19, hF21, (Or.inl ⟨rfl, ⟨by first | exact True.intro | rfl | omega | trivial, by first | exact True.intro | rfl | omega | trivial, by first | exact True.intro | rfl | omega | trivial, by first | exact True.intro | rfl | omega | trivial⟩⟩)⟩
  · skip
    have EB23 : ∀ j, dt18 82 j = (u2 dt 82 (((5 * (dt 79 10)) + p1).toNat) (dt 79 16)) 82 j := fun j => hF20 82 (by decide) j
    refine go_retq PM171 (k := 0) (r := some (.inl 1)) (w1 := (SH, dt18)) rfl ?_
    exact ⟨dt18, rfl, hI19, hF21, (Or.inr ⟨rfl, ⟨by intro j hj; rw [EB23 j]; exact u2_ne (by omega), by intro q hq; subst hq; rw [EB23, show u2 dt 82 ((5 * (dt 79 10)) + p1).toNat (dt 79 16) 82 (5 * dt 79 10 + p1).toNat = dt 79 16 from u2_eq]; omega, by first | exact True.intro | rfl | omega | trivial, by first | exact True.intro | rfl | omega | trivial, by exact (InvC_get (by assumption) 79 15 rfl rfl).2, by first | exact True.intro | rfl | omega | trivial, by first | exact True.intro | rfl | omega | trivial, by first | exact True.intro | rfl | omega | trivial, by first | exact True.intro | rfl | omega | trivial, by first | exact True.intro | rfl | omega | trivial, by first | exact True.intro | rfl | omega | trivial⟩⟩)⟩
set_option maxHeartbeats 8000000 in
set_option maxRecDepth 20000 in
theorem sp_X6_anAct (L : Nat) (xs : Nat → Int32) (sio : Option Nat) (d : Nat) (dt : Nat → Nat → Int) (hI : InvC dt)   (h_p0 : (¬ dt 79 14 = 0 → dt 79 15 + 1 ≤ dt 79 13) ∧ dt 79 13 ≤ 500) : GO (am_XX L xs sio) (d + 9) 172 0 [some (.inr (.inr (some 79))), none] [] (SH, dt) (fun r w2 => ∃ dt2 : Nat → Nat → Int, w2 = (SH, dt2) ∧ InvC dt2 ∧ Fr [79, 82] dt dt2 ∧ ((r = some (.inl 0) ∧ (dt2 79 2 = dt 79 2) ∧ (dt2 79 9 = dt 79 9) ∧ (dt2 79 12 = dt 79 12)) ∨ (r = some (.inl 1) ∧ (dt 79 10 ≤ 23) ∧ (∀ j : Nat, (j : Int) < 5 * dt 79 10 → dt2 82 j = dt 82 j) ∧ (aOK (dt2 82 ((5 * (dt 79 10))).toNat) (dt2 82 ((5 * (dt 79 10)) + 1).toNat) (dt2 82 ((5 * (dt 79 10)) + 2).toNat) (dt2 82 ((5 * (dt 79 10)) + 3).toNat) (dt2 82 ((5 * (dt 79 10)) + 4).toNat)) ∧ (dt 79 15 + 1 ≤ dt2 79 15) ∧ ((¬ dt2 79 14 = 0 → dt2 79 15 + 1 ≤ dt2 79 13) ∧ dt2 79 13 ≤ 500) ∧ (dt2 79 15 ≤ 500) ∧ (dt2 79 2 = dt 79 2) ∧ (dt2 79 9 = dt 79 9) ∧ (dt2 79 10 = dt 79 10) ∧ (dt2 79 11 = dt 79 11) ∧ (dt2 79 12 = dt 79 12)))) := by
  have hF : Fr [79, 82] dt dt := Fr_refl
  have r1 : 0 ≤ dt 79 15 ∧ dt 79 15 ≤ 500 := InvC_get hI 79 15 rfl rfl
  have r2 : 0 ≤ dt 79 11 ∧ dt 79 11 ≤ 510 := InvC_get hI 79 11 rfl rfl
  have r3 : 0 ≤ dt 79 10 ∧ dt 79 10 ≤ 24 := InvC_get hI 79 10 rfl rfl
  have hL0 : 0 ≤ dt 79 10 := by omega
  have r4 : (-2147483648) ≤ dt 79 14 ∧ dt 79 14 ≤ 2147483647 := InvC_get hI 79 14 rfl rfl
  refine go_toq PM172 (k := 4) (pc' := 8) (L' := [some (.inr (.inr (some 79))), none]) (st' := [.inl 28, .inl 20, .inl (dt 79 14)]) (w' := (SH, dt)) rfl ?_
  refine go_callq PM172 PM146 (Q' := _) rfl rfl rfl rfl (sp_X6_isIn L xs sio (d + 8) dt hI  (dt 79 14) (by first | exact bnd r4 (by decide) (by decide) | exact ⟨by omega, by omega⟩) 20 ⟨by decide, by decide⟩ 28 ⟨by decide, by decide⟩ ) ?_
  rintro _ _ ⟨rfl, h5⟩
  refine ⟨rfl, ?_⟩
  rcases h5 with ⟨rfl, h5⟩ | ⟨rfl, h5⟩
  · skip
    refine go_ifq PM172 (k := 4) (p1 := 35) (p2 := 29) (L' := [some (.inr (.inr (some 79))), none]) (st' := []) (w' := (SH, dt)) rfl (c_ne (a := dt 79 10) (b := 24) (by first | exact bnd r3 (by decide) (by decide) | exact ⟨by omega, by omega⟩) ⟨by decide, by decide⟩) (fun c6 => ?_) (fun c6 => ?_)
    · skip
      refine go_toq PM172 (k := 5) (pc' := 43) (L' := [some (.inr (.inr (some 79))), some (.inl ((dt 79 14) - 20))]) (st' := []) (w' := (SH, dt)) rfl ?_
      have hc7 : (dt 79 14) - 20 = 0 ∨ (dt 79 14) - 20 = 1 ∨ (dt 79 14) - 20 = 2 ∨ (dt 79 14) - 20 = 3 ∨ (dt 79 14) - 20 = 4 ∨ (dt 79 14) - 20 = 5 ∨ (dt 79 14) - 20 = 6 ∨ (dt 79 14) - 20 = 7 ∨ (dt 79 14) - 20 = 8 := by omega
      rcases hc7 with hc7 | hc7 | hc7 | hc7 | hc7 | hc7 | hc7 | hc7 | hc7
      · rw [hc7]
        refine go_toq PM172 (k := 1) (pc' := 44) (L' := [some (.inr (.inr (some 79))), some (.inl 0)]) (st' := [.inr (.inr (some 79))]) (w' := (SH, dt)) rfl ?_
        refine go_callq PM172 PM159 (Q' := _) rfl rfl rfl rfl (sp_X6_next0 L xs sio (d + 2) dt hI   (by first | exact True.intro | rfl | omega | trivial)) ?_
        rintro _ _ ⟨dt9, rfl, hI10, hF11, h8⟩
        refine ⟨rfl, ?_⟩
        have hF12 : Fr [79, 82] dt dt9 := Fr_tr hF hF11 (by decide)
        have E8413 : dt9 84 = dt 84 := funext (hF11 84 (by decide))
        rcases h8 with ⟨rfl, h8⟩
        obtain ⟨h8_0, h8_1, h8_2, h8_3, h8_4, h8_5, h8_6, h8_7, h8_8⟩ := h8
        have hadv0 : dt 79 15 + 1 ≤ dt 79 13 := by omega
        clear h_p0
        have BL14 : ∀ j : Nat, (j : Int) < 5 * dt 79 10 → dt9 82 j = dt 82 j := fun j hj => (hF11 82 (by decide) j).trans ((fun _ _ => rfl) j hj)
        have y15 : dt9 82 ((5 * (dt 79 10))).toNat = dt 82 ((5 * (dt 79 10))).toNat := hF11 82 (by decide) _
        have y16 : dt9 82 ((5 * (dt 79 10)) + 1).toNat = dt 82 ((5 * (dt 79 10)) + 1).toNat := hF11 82 (by decide) _
        have y17 : dt9 82 ((5 * (dt 79 10)) + 2).toNat = dt 82 ((5 * (dt 79 10)) + 2).toNat := hF11 82 (by decide) _
        have y18 : dt9 82 ((5 * (dt 79 10)) + 3).toNat = dt 82 ((5 * (dt 79 10)) + 3).toNat := hF11 82 (by decide) _
        have y19 : dt9 82 ((5 * (dt 79 10)) + 4).toNat = dt 82 ((5 * (dt 79 10)) + 4).toNat := hF11 82 (by decide) _
        have r20 : 0 ≤ dt9 79 10 ∧ dt9 79 10 ≤ 24 := InvC_get hI10 79 10 rfl rfl
        refine go_toq PM172 (k := 7) (pc' := 58) (L' := [some (.inr (.inr (some 79))), some (.inl 0)]) (st' := [.inl 0, .inl (5 * (dt9 79 10)), .inr (.inr (some 82))]) (w' := (SH, dt9)) rfl ?_
        have hI21 : InvC (u2 dt9 82 ((5 * (dt9 79 10)).toNat) 0) := InvC_u2 hI10 (lo := -2147483648) (hi := 2147483647) rfl rfl rfl (by decide) (by decide)
        have hF22 : Fr [79, 82] dt (u2 dt9 82 ((5 * (dt9 79 10)).toNat) 0) := Fr_u2 hF12 (by decide)
        have w23 : (u2 dt9 82 ((5 * (dt9 79 10)).toNat) 0) 79 2 = dt9 79 2 := rfl
        have w24 : (u2 dt9 82 ((5 * (dt9 79 10)).toNat) 0) 79 9 = dt9 79 9 := rfl
        have w25 : (u2 dt9 82 ((5 * (dt9 79 10)).toNat) 0) 79 10 = dt9 79 10 := rfl
        have w26 : (u2 dt9 82 ((5 * (dt9 79 10)).toNat) 0) 79 11 = dt9 79 11 := rfl
        have w27 : (u2 dt9 82 ((5 * (dt9 79 10)).toNat) 0) 79 12 = dt9 79 12 := rfl
        have w28 : (u2 dt9 82 ((5 * (dt9 79 10)).toNat) 0) 79 13 = dt9 79 13 := rfl
        have w29 : (u2 dt9 82 ((5 * (dt9 79 10)).toNat) 0) 79 14 = dt9 79 14 := rfl
        have w30 : (u2 dt9 82 ((5 * (dt9 79 10)).toNat) 0) 79 15 = dt9 79 15 := rfl
        have w31 : (u2 dt9 82 ((5 * (dt9 79 10)).toNat) 0) 79 16 = dt9 79 16 := rfl
        have w32 : (u2 dt9 82 ((5 * (dt9 79 10)).toNat) 0) 79 20 = dt9 79 20 := rfl
        have E8433 : (u2 dt9 82 ((5 * (dt9 79 10)).toNat) 0) 84 = dt 84 := (funext fun _ => rfl).trans E8413
        have ex35 : ((5 * (dt 79 10))).toNat = (5 * (dt9 79 10)).toNat := by omega
        have BL34 : ∀ j : Nat, (j : Int) < 5 * dt 79 10 → (u2 dt9 82 ((5 * (dt9 79 10)).toNat) 0) 82 j = dt 82 j := fun j hj => (u2_ne (by omega)).trans (BL14 j hj)
        have y36 : (u2 dt9 82 ((5 * (dt9 79 10)).toNat) 0) 82 ((5 * (dt 79 10))).toNat = 0 := by rw [ex35]; exact u2_eq
        have y37 : (u2 dt9 82 ((5 * (dt9 79 10)).toNat) 0) 82 ((5 * (dt 79 10)) + 1).toNat = dt9 82 ((5 * (dt 79 10)) + 1).toNat := u2_ne (by omega)
        have y38 : (u2 dt9 82 ((5 * (dt9 79 10)).toNat) 0) 82 ((5 * (dt 79 10)) + 2).toNat = dt9 82 ((5 * (dt 79 10)) + 2).toNat := u2_ne (by omega)
        have y39 : (u2 dt9 82 ((5 * (dt9 79 10)).toNat) 0) 82 ((5 * (dt 79 10)) + 3).toNat = dt9 82 ((5 * (dt 79 10)) + 3).toNat := u2_ne (by omega)
        have y40 : (u2 dt9 82 ((5 * (dt9 79 10)).toNat) 0) 82 ((5 * (dt 79 10)) + 4).toNat = dt9 82 ((5 * (dt 79 10)) + 4).toNat := u2_ne (by omega)
        refine go_smpq PM172 (L' := [some (.inr (.inr (some 79))), some (.inl 0)]) (st' := []) (w' := (SH, (u2 dt9 82 ((5 * (dt9 79 10)).toNat) 0))) rfl rfl (s_iast (n := 120) rfl ⟨by omega, by omega⟩ ⟨by decide, by decide⟩) ?_
        refine go_toq PM172 (k := 6) (pc' := 72) (L' := [some (.inr (.inr (some 79))), some (.inl 0)]) (st' := [.inl 3, .inl 1, .inr (.inr (some 79))]) (w' := (SH, (u2 dt9 82 ((5 * (dt9 79 10)).toNat) 0))) rfl ?_
        refine go_callq PM172 PM171 (Q' := _) rfl rfl rfl rfl (sp_X6_argument L xs sio (d + 0) (u2 dt9 82 ((5 * (dt9 79 10)).toNat) 0) hI21  1 ⟨by decide, by decide⟩ 3 ⟨by decide, by decide⟩ (by first | exact True.intro | rfl | omega | trivial) (by first | exact True.intro | rfl | omega | trivial)) ?_
        rintro _ _ ⟨dt42, rfl, hI43, hF44, h41⟩
        refine ⟨rfl, ?_⟩
        have hF45 : Fr [79, 82] dt dt42 := Fr_tr hF22 hF44 (by decide)
        have E8446 : dt42 84 = dt 84 := (funext (hF44 84 (by decide))).trans E8433
        rcases h41 with ⟨rfl, h41⟩ | ⟨rfl, h41⟩
        · skip
          obtain ⟨h41_0, h41_1, h41_2, h41_3⟩ := h41
          refine go_retq PM172 (k := 2) (r := some (.inl 0)) (w1 := (SH, dt42)) rfl ?_
          exact ⟨dt42, rfl, hI43, hF45, (Or.inl ⟨rfl, ⟨by first | exact True.intro | rfl | omega | trivial, by first | exact True.intro | rfl | omega | trivial, by first | exact True.intro | rfl | omega | trivial⟩⟩)⟩
        · skip
          obtain ⟨h41_0, h41_1, h41_2, h41_3, h41_4, h41_5, h41_6, h41_7, h41_8, h41_9, h41_10⟩ := h41
          clear h8_1
          have ee47 : (u2 dt9 82 ((5 * (dt9 79 10)).toNat) 0) 79 10 = dt 79 10 := by omega
          rw [ee47] at h41_0 h41_1
          have BL48 : ∀ j : Nat, (j : Int) < 5 * dt 79 10 → dt42 82 j = dt 82 j := fun j hj => (h41_0 j (blq hj (by decide))).trans (BL34 j hj)
          have y49 : dt42 82 ((5 * (dt 79 10))).toNat = (u2 dt9 82 ((5 * (dt9 79 10)).toNat) 0) 82 ((5 * (dt 79 10))).toNat := h41_0 _ (xq0 hL0 (by decide))
          have y50 : dt42 82 ((5 * (dt 79 10)) + 2).toNat = (u2 dt9 82 ((5 * (dt9 79 10)).toNat) 0) 82 ((5 * (dt 79 10)) + 2).toNat := h41_0 _ (xq hL0 (by decide) (by decide))
          have y51 : dt42 82 ((5 * (dt 79 10)) + 3).toNat = (u2 dt9 82 ((5 * (dt9 79 10)).toNat) 0) 82 ((5 * (dt 79 10)) + 3).toNat := h41_0 _ (xq hL0 (by decide) (by decide))
          have y52 : dt42 82 ((5 * (dt 79 10)) + 4).toNat = (u2 dt9 82 ((5 * (dt9 79 10)).toNat) 0) 82 ((5 * (dt 79 10)) + 4).toNat := h41_0 _ (xq hL0 (by decide) (by decide))
          have y53 := h41_1 ((5 * (dt 79 10)) + 1) rfl
          refine go_toq PM172 (k := 30) (pc' := 208) (L' := [some (.inr (.inr (some 79))), some (.inl 0)]) (st' := [.inl 159, .inr (.inr (some 79))]) (w' := (SH, dt42)) rfl ?_
          refine go_callq PM172 PM161 (Q' := _) rfl rfl rfl rfl (sp_X6_need0 L xs sio (d + 1) dt42 hI43  159 ⟨by decide, by decide⟩ (by first | exact True.intro | rfl | omega | trivial)) ?_
          rintro _ _ ⟨dt55, rfl, hI56, hF57, h54⟩
          refine ⟨rfl, ?_⟩
          have hF58 : Fr [79, 82] dt dt55 := Fr_tr hF45 hF57 (by decide)
          have E8459 : dt55 84 = dt 84 := (funext (hF57 84 (by decide))).trans E8446
          rcases h54 with ⟨rfl, h54⟩ | ⟨rfl, h54⟩
          · skip
            obtain ⟨h54_0, h54_1, h54_2, h54_3⟩ := h54
            have BL60 : ∀ j : Nat, (j : Int) < 5 * dt 79 10 → dt55 82 j = dt 82 j := fun j hj => (hF57 82 (by decide) j).trans (BL48 j hj)
            have y61 : dt55 82 ((5 * (dt 79 10))).toNat = dt42 82 ((5 * (dt 79 10))).toNat := hF57 82 (by decide) _
            have y62 : dt55 82 ((5 * (dt 79 10)) + 1).toNat = dt42 82 ((5 * (dt 79 10)) + 1).toNat := hF57 82 (by decide) _
            have y63 : dt55 82 ((5 * (dt 79 10)) + 2).toNat = dt42 82 ((5 * (dt 79 10)) + 2).toNat := hF57 82 (by decide) _
            have y64 : dt55 82 ((5 * (dt 79 10)) + 3).toNat = dt42 82 ((5 * (dt 79 10)) + 3).toNat := hF57 82 (by decide) _
            have y65 : dt55 82 ((5 * (dt 79 10)) + 4).toNat = dt42 82 ((5 * (dt 79 10)) + 4).toNat := hF57 82 (by decide) _
            refine go_retq PM172 (k := 0) (r := some (.inl 0)) (w1 := (SH, dt55)) rfl ?_
            exact ⟨dt55, rfl, hI56, hF58, (Or.inl ⟨rfl, ⟨by first | exact True.intro | rfl | omega | trivial, by first | exact True.intro | rfl | omega | trivial, by first | exact True.intro | rfl | omega | trivial⟩⟩)⟩
          · skip
            obtain ⟨h54_0, h54_1, h54_2, h54_3, h54_4, h54_5, h54_6, h54_7, h54_8⟩ := h54
            clear h41_3
            have BL66 : ∀ j : Nat, (j : Int) < 5 * dt 79 10 → dt55 82 j = dt 82 j := fun j hj => (hF57 82 (by decide) j).trans (BL48 j hj)
            have y67 : dt55 82 ((5 * (dt 79 10))).toNat = dt42 82 ((5 * (dt 79 10))).toNat := hF57 82 (by decide) _
            have y68 : dt55 82 ((5 * (dt 79 10)) + 1).toNat = dt42 82 ((5 * (dt 79 10)) + 1).toNat := hF57 82 (by decide) _
            have y69 : dt55 82 ((5 * (dt 79 10)) + 2).toNat = dt42 82 ((5 * (dt 79 10)) + 2).toNat := hF57 82 (by decide) _
            have y70 : dt55 82 ((5 * (dt 79 10)) + 3).toNat = dt42 82 ((5 * (dt 79 10)) + 3).toNat := hF57 82 (by decide) _
            have y71 : dt55 82 ((5 * (dt 79 10)) + 4).toNat = dt42 82 ((5 * (dt 79 10)) + 4).toNat := hF57 82 (by decide) _
            refine go_retq PM172 (k := 0) (r := some (.inl 1)) (w1 := (SH, dt55)) rfl ?_
            exact ⟨dt55, rfl, hI56, hF58, (Or.inr ⟨rfl, ⟨by first | exact True.intro | rfl | omega | trivial, by exact BL66, by unfold aOK; omega, by first | exact True.intro | rfl | omega | trivial, by first | exact True.intro | rfl | omega | trivial, by exact (InvC_get (by assumption) 79 15 rfl rfl).2, by first | exact True.intro | rfl | omega | trivial, by first | exact True.intro | rfl | omega | trivial, by first | exact True.intro | rfl | omega | trivial, by first | exact True.intro | rfl | omega | trivial, by first | exact True.intro | rfl | omega | trivial⟩⟩)⟩
      · rw [hc7]
        refine go_toq PM172 (k := 1) (pc' := 44) (L' := [some (.inr (.inr (some 79))), some (.inl 1)]) (st' := [.inr (.inr (some 79))]) (w' := (SH, dt)) rfl ?_
        refine go_callq PM172 PM159 (Q' := _) rfl rfl rfl rfl (sp_X6_next0 L xs sio (d + 2) dt hI   (by first | exact True.intro | rfl | omega | trivial)) ?_
        rintro _ _ ⟨dt73, rfl, hI74, hF75, h72⟩
        refine ⟨rfl, ?_⟩
        have hF76 : Fr [79, 82] dt dt73 := Fr_tr hF hF75 (by decide)
        have E8477 : dt73 84 = dt 84 := funext (hF75 84 (by decide))
        rcases h72 with ⟨rfl, h72⟩
        obtain ⟨h72_0, h72_1, h72_2, h72_3, h72_4, h72_5, h72_6, h72_7, h72_8⟩ := h72
        have hadv0 : dt 79 15 + 1 ≤ dt 79 13 := by omega
        clear h_p0
        have BL78 : ∀ j : Nat, (j : Int) < 5 * dt 79 10 → dt73 82 j = dt 82 j := fun j hj => (hF75 82 (by decide) j).trans ((fun _ _ => rfl) j hj)
        have y79 : dt73 82 ((5 * (dt 79 10))).toNat = dt 82 ((5 * (dt 79 10))).toNat := hF75 82 (by decide) _
        have y80 : dt73 82 ((5 * (dt 79 10)) + 1).toNat = dt 82 ((5 * (dt 79 10)) + 1).toNat := hF75 82 (by decide) _
        have y81 : dt73 82 ((5 * (dt 79 10)) + 2).toNat = dt 82 ((5 * (dt 79 10)) + 2).toNat := hF75 82 (by decide) _
        have y82 : dt73 82 ((5 * (dt 79 10)) + 3).toNat = dt 82 ((5 * (dt 79 10)) + 3).toNat := hF75 82 (by decide) _
        have y83 : dt73 82 ((5 * (dt 79 10)) + 4).toNat = dt 82 ((5 * (dt 79 10)) + 4).toNat := hF75 82 (by decide) _
        have r84 : 0 ≤ dt73 79 10 ∧ dt73 79 10 ≤ 24 := InvC_get hI74 79 10 rfl rfl
        refine go_toq PM172 (k := 7) (pc' := 58) (L' := [some (.inr (.inr (some 79))), some (.inl 1)]) (st' := [.inl 1, .inl (5 * (dt73 79 10)), .inr (.inr (some 82))]) (w' := (SH, dt73)) rfl ?_
        have hI85 : InvC (u2 dt73 82 ((5 * (dt73 79 10)).toNat) 1) := InvC_u2 hI74 (lo := -2147483648) (hi := 2147483647) rfl rfl rfl (by decide) (by decide)
        have hF86 : Fr [79, 82] dt (u2 dt73 82 ((5 * (dt73 79 10)).toNat) 1) := Fr_u2 hF76 (by decide)
        have w87 : (u2 dt73 82 ((5 * (dt73 79 10)).toNat) 1) 79 2 = dt73 79 2 := rfl
        have w88 : (u2 dt73 82 ((5 * (dt73 79 10)).toNat) 1) 79 9 = dt73 79 9 := rfl
        have w89 : (u2 dt73 82 ((5 * (dt73 79 10)).toNat) 1) 79 10 = dt73 79 10 := rfl
        have w90 : (u2 dt73 82 ((5 * (dt73 79 10)).toNat) 1) 79 11 = dt73 79 11 := rfl
        have w91 : (u2 dt73 82 ((5 * (dt73 79 10)).toNat) 1) 79 12 = dt73 79 12 := rfl
        have w92 : (u2 dt73 82 ((5 * (dt73 79 10)).toNat) 1) 79 13 = dt73 79 13 := rfl
        have w93 : (u2 dt73 82 ((5 * (dt73 79 10)).toNat) 1) 79 14 = dt73 79 14 := rfl
        have w94 : (u2 dt73 82 ((5 * (dt73 79 10)).toNat) 1) 79 15 = dt73 79 15 := rfl
        have w95 : (u2 dt73 82 ((5 * (dt73 79 10)).toNat) 1) 79 16 = dt73 79 16 := rfl
        have w96 : (u2 dt73 82 ((5 * (dt73 79 10)).toNat) 1) 79 20 = dt73 79 20 := rfl
        have E8497 : (u2 dt73 82 ((5 * (dt73 79 10)).toNat) 1) 84 = dt 84 := (funext fun _ => rfl).trans E8477
        have ex99 : ((5 * (dt 79 10))).toNat = (5 * (dt73 79 10)).toNat := by omega
        have BL98 : ∀ j : Nat, (j : Int) < 5 * dt 79 10 → (u2 dt73 82 ((5 * (dt73 79 10)).toNat) 1) 82 j = dt 82 j := fun j hj => (u2_ne (by omega)).trans (BL78 j hj)
        have y100 : (u2 dt73 82 ((5 * (dt73 79 10)).toNat) 1) 82 ((5 * (dt 79 10))).toNat = 1 := by rw [ex99]; exact u2_eq
        have y101 : (u2 dt73 82 ((5 * (dt73 79 10)).toNat) 1) 82 ((5 * (dt 79 10)) + 1).toNat = dt73 82 ((5 * (dt 79 10)) + 1).toNat := u2_ne (by omega)
        have y102 : (u2 dt73 82 ((5 * (dt73 79 10)).toNat) 1) 82 ((5 * (dt 79 10)) + 2).toNat = dt73 82 ((5 * (dt 79 10)) + 2).toNat := u2_ne (by omega)
        have y103 : (u2 dt73 82 ((5 * (dt73 79 10)).toNat) 1) 82 ((5 * (dt 79 10)) + 3).toNat = dt73 82 ((5 * (dt 79 10)) + 3).toNat := u2_ne (by omega)
        have y104 : (u2 dt73 82 ((5 * (dt73 79 10)).toNat) 1) 82 ((5 * (dt 79 10)) + 4).toNat = dt73 82 ((5 * (dt 79 10)) + 4).toNat := u2_ne (by omega)
        refine go_smpq PM172 (L' := [some (.inr (.inr (some 79))), some (.inl 1)]) (st' := []) (w' := (SH, (u2 dt73 82 ((5 * (dt73 79 10)).toNat) 1))) rfl rfl (s_iast (n := 120) rfl ⟨by omega, by omega⟩ ⟨by decide, by decide⟩) ?_
        refine go_toq PM172 (k := 6) (pc' := 72) (L' := [some (.inr (.inr (some 79))), some (.inl 1)]) (st' := [.inl 3, .inl 1, .inr (.inr (some 79))]) (w' := (SH, (u2 dt73 82 ((5 * (dt73 79 10)).toNat) 1))) rfl ?_
        refine go_callq PM172 PM171 (Q' := _) rfl rfl rfl rfl (sp_X6_argument L xs sio (d + 0) (u2 dt73 82 ((5 * (dt73 79 10)).toNat) 1) hI85  1 ⟨by decide, by decide⟩ 3 ⟨by decide, by decide⟩ (by first | exact True.intro | rfl | omega | trivial) (by first | exact True.intro | rfl | omega | trivial)) ?_
        rintro _ _ ⟨dt106, rfl, hI107, hF108, h105⟩
        refine ⟨rfl, ?_⟩
        have hF109 : Fr [79, 82] dt dt106 := Fr_tr hF86 hF108 (by decide)
        have E84110 : dt106 84 = dt 84 := (funext (hF108 84 (by decide))).trans E8497
        rcases h105 with ⟨rfl, h105⟩ | ⟨rfl, h105⟩
        · skip
          obtain ⟨h105_0, h105_1, h105_2, h105_3⟩ := h105
          refine go_retq PM172 (k := 2) (r := some (.inl 0)) (w1 := (SH, dt106)) rfl ?_
          exact ⟨dt106, rfl, hI107, hF109, (Or.inl ⟨rfl, ⟨by first | exact True.intro | rfl | omega | trivial, by first | exact True.intro | rfl | omega | trivial, by first | exact True.intro | rfl | omega | trivial⟩⟩)⟩
        · skip
          obtain ⟨h105_0, h105_1, h105_2, h105_3, h105_4, h105_5, h105_6, h105_7, h105_8, h105_9, h105_10⟩ := h105
          clear h72_1
          have ee111 : (u2 dt73 82 ((5 * (dt73 79 10)).toNat) 1) 79 10 = dt 79 10 := by omega
          rw [ee111] at h105_0 h105_1
          have BL112 : ∀ j : Nat, (j : Int) < 5 * dt 79 10 → dt106 82 j = dt 82 j := fun j hj => (h105_0 j (blq hj (by decide))).trans (BL98 j hj)
          have y113 : dt106 82 ((5 * (dt 79 10))).toNat = (u2 dt73 82 ((5 * (dt73 79 10)).toNat) 1) 82 ((5 * (dt 79 10))).toNat := h105_0 _ (xq0 hL0 (by decide))
          have y114 : dt106 82 ((5 * (dt 79 10)) + 2).toNat = (u2 dt73 82 ((5 * (dt73 79 10)).toNat) 1) 82 ((5 * (dt 79 10)) + 2).toNat := h105_0 _ (xq hL0 (by decide) (by decide))
          have y115 : dt106 82 ((5 * (dt 79 10)) + 3).toNat = (u2 dt73 82 ((5 * (dt73 79 10)).toNat) 1) 82 ((5 * (dt 79 10)) + 3).toNat := h105_0 _ (xq hL0 (by decide) (by decide))
          have y116 : dt106 82 ((5 * (dt 79 10)) + 4).toNat = (u2 dt73 82 ((5 * (dt73 79 10)).toNat) 1) 82 ((5 * (dt 79 10)) + 4).toNat := h105_0 _ (xq hL0 (by decide) (by decide))
          have y117 := h105_1 ((5 * (dt 79 10)) + 1) rfl
          refine go_toq PM172 (k := 30) (pc' := 208) (L' := [some (.inr (.inr (some 79))), some (.inl 1)]) (st' := [.inl 159, .inr (.inr (some 79))]) (w' := (SH, dt106)) rfl ?_
          refine go_callq PM172 PM161 (Q' := _) rfl rfl rfl rfl (sp_X6_need0 L xs sio (d + 1) dt106 hI107  159 ⟨by decide, by decide⟩ (by first | exact True.intro | rfl | omega | trivial)) ?_
          rintro _ _ ⟨dt119, rfl, hI120, hF121, h118⟩
          refine ⟨rfl, ?_⟩
          have hF122 : Fr [79, 82] dt dt119 := Fr_tr hF109 hF121 (by decide)
          have E84123 : dt119 84 = dt 84 := (funext (hF121 84 (by decide))).trans E84110
          rcases h118 with ⟨rfl, h118⟩ | ⟨rfl, h118⟩
          · skip
            obtain ⟨h118_0, h118_1, h118_2, h118_3⟩ := h118
            have BL124 : ∀ j : Nat, (j : Int) < 5 * dt 79 10 → dt119 82 j = dt 82 j := fun j hj => (hF121 82 (by decide) j).trans (BL112 j hj)
            have y125 : dt119 82 ((5 * (dt 79 10))).toNat = dt106 82 ((5 * (dt 79 10))).toNat := hF121 82 (by decide) _
            have y126 : dt119 82 ((5 * (dt 79 10)) + 1).toNat = dt106 82 ((5 * (dt 79 10)) + 1).toNat := hF121 82 (by decide) _
            have y127 : dt119 82 ((5 * (dt 79 10)) + 2).toNat = dt106 82 ((5 * (dt 79 10)) + 2).toNat := hF121 82 (by decide) _
            have y128 : dt119 82 ((5 * (dt 79 10)) + 3).toNat = dt106 82 ((5 * (dt 79 10)) + 3).toNat := hF121 82 (by decide) _
            have y129 : dt119 82 ((5 * (dt 79 10)) + 4).toNat = dt106 82 ((5 * (dt 79 10)) + 4).toNat := hF121 82 (by decide) _
            refine go_retq PM172 (k := 0) (r := some (.inl 0)) (w1 := (SH, dt119)) rfl ?_
            exact ⟨dt119, rfl, hI120, hF122, (Or.inl ⟨rfl, ⟨by first | exact True.intro | rfl | omega | trivial, by first | exact True.intro | rfl | omega | trivial, by first | exact True.intro | rfl | omega | trivial⟩⟩)⟩
          · skip
            obtain ⟨h118_0, h118_1, h118_2, h118_3, h118_4, h118_5, h118_6, h118_7, h118_8⟩ := h118
            clear h105_3
            have BL130 : ∀ j : Nat, (j : Int) < 5 * dt 79 10 → dt119 82 j = dt 82 j := fun j hj => (hF121 82 (by decide) j).trans (BL112 j hj)
            have y131 : dt119 82 ((5 * (dt 79 10))).toNat = dt106 82 ((5 * (dt 79 10))).toNat := hF121 82 (by decide) _
            have y132 : dt119 82 ((5 * (dt 79 10)) + 1).toNat = dt106 82 ((5 * (dt 79 10)) + 1).toNat := hF121 82 (by decide) _
            have y133 : dt119 82 ((5 * (dt 79 10)) + 2).toNat = dt106 82 ((5 * (dt 79 10)) + 2).toNat := hF121 82 (by decide) _
            have y134 : dt119 82 ((5 * (dt 79 10)) + 3).toNat = dt106 82 ((5 * (dt 79 10)) + 3).toNat := hF121 82 (by decide) _
            have y135 : dt119 82 ((5 * (dt 79 10)) + 4).toNat = dt106 82 ((5 * (dt 79 10)) + 4).toNat := hF121 82 (by decide) _
            refine go_retq PM172 (k := 0) (r := some (.inl 1)) (w1 := (SH, dt119)) rfl ?_
            exact ⟨dt119, rfl, hI120, hF122, (Or.inr ⟨rfl, ⟨by first | exact True.intro | rfl | omega | trivial, by exact BL130, by unfold aOK; omega, by first | exact True.intro | rfl | omega | trivial, by first | exact True.intro | rfl | omega | trivial, by exact (InvC_get (by assumption) 79 15 rfl rfl).2, by first | exact True.intro | rfl | omega | trivial, by first | exact True.intro | rfl | omega | trivial, by first | exact True.intro | rfl | omega | trivial, by first | exact True.intro | rfl | omega | trivial, by first | exact True.intro | rfl | omega | trivial⟩⟩)⟩
      · rw [hc7]
        refine go_toq PM172 (k := 1) (pc' := 44) (L' := [some (.inr (.inr (some 79))), some (.inl 2)]) (st' := [.inr (.inr (some 79))]) (w' := (SH, dt)) rfl ?_
        refine go_callq PM172 PM159 (Q' := _) rfl rfl rfl rfl (sp_X6_next0 L xs sio (d + 2) dt hI   (by first | exact True.intro | rfl | omega | trivial)) ?_
        rintro _ _ ⟨dt137, rfl, hI138, hF139, h136⟩
        refine ⟨rfl, ?_⟩
        have hF140 : Fr [79, 82] dt dt137 := Fr_tr hF hF139 (by decide)
        have E84141 : dt137 84 = dt 84 := funext (hF139 84 (by decide))
        rcases h136 with ⟨rfl, h136⟩
        obtain ⟨h136_0, h136_1, h136_2, h136_3, h136_4, h136_5, h136_6, h136_7, h136_8⟩ := h136
        have hadv0 : dt 79 15 + 1 ≤ dt 79 13 := by omega
        clear h_p0
        have BL142 : ∀ j : Nat, (j : Int) < 5 * dt 79 10 → dt137 82 j = dt 82 j := fun j hj => (hF139 82 (by decide) j).trans ((fun _ _ => rfl) j hj)
        have y143 : dt137 82 ((5 * (dt 79 10))).toNat = dt 82 ((5 * (dt 79 10))).toNat := hF139 82 (by decide) _
        have y144 : dt137 82 ((5 * (dt 79 10)) + 1).toNat = dt 82 ((5 * (dt 79 10)) + 1).toNat := hF139 82 (by decide) _
        have y145 : dt137 82 ((5 * (dt 79 10)) + 2).toNat = dt 82 ((5 * (dt 79 10)) + 2).toNat := hF139 82 (by decide) _
        have y146 : dt137 82 ((5 * (dt 79 10)) + 3).toNat = dt 82 ((5 * (dt 79 10)) + 3).toNat := hF139 82 (by decide) _
        have y147 : dt137 82 ((5 * (dt 79 10)) + 4).toNat = dt 82 ((5 * (dt 79 10)) + 4).toNat := hF139 82 (by decide) _
        have r148 : 0 ≤ dt137 79 10 ∧ dt137 79 10 ≤ 24 := InvC_get hI138 79 10 rfl rfl
        refine go_toq PM172 (k := 7) (pc' := 58) (L' := [some (.inr (.inr (some 79))), some (.inl 2)]) (st' := [.inl 2, .inl (5 * (dt137 79 10)), .inr (.inr (some 82))]) (w' := (SH, dt137)) rfl ?_
        have hI149 : InvC (u2 dt137 82 ((5 * (dt137 79 10)).toNat) 2) := InvC_u2 hI138 (lo := -2147483648) (hi := 2147483647) rfl rfl rfl (by decide) (by decide)
        have hF150 : Fr [79, 82] dt (u2 dt137 82 ((5 * (dt137 79 10)).toNat) 2) := Fr_u2 hF140 (by decide)
        have w151 : (u2 dt137 82 ((5 * (dt137 79 10)).toNat) 2) 79 2 = dt137 79 2 := rfl
        have w152 : (u2 dt137 82 ((5 * (dt137 79 10)).toNat) 2) 79 9 = dt137 79 9 := rfl
        have w153 : (u2 dt137 82 ((5 * (dt137 79 10)).toNat) 2) 79 10 = dt137 79 10 := rfl
        have w154 : (u2 dt137 82 ((5 * (dt137 79 10)).toNat) 2) 79 11 = dt137 79 11 := rfl
        have w155 : (u2 dt137 82 ((5 * (dt137 79 10)).toNat) 2) 79 12 = dt137 79 12 := rfl
        have w156 : (u2 dt137 82 ((5 * (dt137 79 10)).toNat) 2) 79 13 = dt137 79 13 := rfl
        have w157 : (u2 dt137 82 ((5 * (dt137 79 10)).toNat) 2) 79 14 = dt137 79 14 := rfl
        have w158 : (u2 dt137 82 ((5 * (dt137 79 10)).toNat) 2) 79 15 = dt137 79 15 := rfl
        have w159 : (u2 dt137 82 ((5 * (dt137 79 10)).toNat) 2) 79 16 = dt137 79 16 := rfl
        have w160 : (u2 dt137 82 ((5 * (dt137 79 10)).toNat) 2) 79 20 = dt137 79 20 := rfl
        have E84161 : (u2 dt137 82 ((5 * (dt137 79 10)).toNat) 2) 84 = dt 84 := (funext fun _ => rfl).trans E84141
        have ex163 : ((5 * (dt 79 10))).toNat = (5 * (dt137 79 10)).toNat := by omega
        have BL162 : ∀ j : Nat, (j : Int) < 5 * dt 79 10 → (u2 dt137 82 ((5 * (dt137 79 10)).toNat) 2) 82 j = dt 82 j := fun j hj => (u2_ne (by omega)).trans (BL142 j hj)
        have y164 : (u2 dt137 82 ((5 * (dt137 79 10)).toNat) 2) 82 ((5 * (dt 79 10))).toNat = 2 := by rw [ex163]; exact u2_eq
        have y165 : (u2 dt137 82 ((5 * (dt137 79 10)).toNat) 2) 82 ((5 * (dt 79 10)) + 1).toNat = dt137 82 ((5 * (dt 79 10)) + 1).toNat := u2_ne (by omega)
        have y166 : (u2 dt137 82 ((5 * (dt137 79 10)).toNat) 2) 82 ((5 * (dt 79 10)) + 2).toNat = dt137 82 ((5 * (dt 79 10)) + 2).toNat := u2_ne (by omega)
        have y167 : (u2 dt137 82 ((5 * (dt137 79 10)).toNat) 2) 82 ((5 * (dt 79 10)) + 3).toNat = dt137 82 ((5 * (dt 79 10)) + 3).toNat := u2_ne (by omega)
        have y168 : (u2 dt137 82 ((5 * (dt137 79 10)).toNat) 2) 82 ((5 * (dt 79 10)) + 4).toNat = dt137 82 ((5 * (dt 79 10)) + 4).toNat := u2_ne (by omega)
        refine go_smpq PM172 (L' := [some (.inr (.inr (some 79))), some (.inl 2)]) (st' := []) (w' := (SH, (u2 dt137 82 ((5 * (dt137 79 10)).toNat) 2))) rfl rfl (s_iast (n := 120) rfl ⟨by omega, by omega⟩ ⟨by decide, by decide⟩) ?_
        refine go_toq PM172 (k := 6) (pc' := 72) (L' := [some (.inr (.inr (some 79))), some (.inl 2)]) (st' := [.inl 3, .inl 1, .inr (.inr (some 79))]) (w' := (SH, (u2 dt137 82 ((5 * (dt137 79 10)).toNat) 2))) rfl ?_
        refine go_callq PM172 PM171 (Q' := _) rfl rfl rfl rfl (sp_X6_argument L xs sio (d + 0) (u2 dt137 82 ((5 * (dt137 79 10)).toNat) 2) hI149  1 ⟨by decide, by decide⟩ 3 ⟨by decide, by decide⟩ (by first | exact True.intro | rfl | omega | trivial) (by first | exact True.intro | rfl | omega | trivial)) ?_
        rintro _ _ ⟨dt170, rfl, hI171, hF172, h169⟩
        refine ⟨rfl, ?_⟩
        have hF173 : Fr [79, 82] dt dt170 := Fr_tr hF150 hF172 (by decide)
        have E84174 : dt170 84 = dt 84 := (funext (hF172 84 (by decide))).trans E84161
        rcases h169 with ⟨rfl, h169⟩ | ⟨rfl, h169⟩
        · skip
          obtain ⟨h169_0, h169_1, h169_2, h169_3⟩ := h169
          refine go_retq PM172 (k := 2) (r := some (.inl 0)) (w1 := (SH, dt170)) rfl ?_
          exact ⟨dt170, rfl, hI171, hF173, (Or.inl ⟨rfl, ⟨by first | exact True.intro | rfl | omega | trivial, by first | exact True.intro | rfl | omega | trivial, by first | exact True.intro | rfl | omega | trivial⟩⟩)⟩
        · skip
          obtain ⟨h169_0, h169_1, h169_2, h169_3, h169_4, h169_5, h169_6, h169_7, h169_8, h169_9, h169_10⟩ := h169
          clear h136_1
          have ee175 : (u2 dt137 82 ((5 * (dt137 79 10)).toNat) 2) 79 10 = dt 79 10 := by omega
          rw [ee175] at h169_0 h169_1
          have BL176 : ∀ j : Nat, (j : Int) < 5 * dt 79 10 → dt170 82 j = dt 82 j := fun j hj => (h169_0 j (blq hj (by decide))).trans (BL162 j hj)
          have y177 : dt170 82 ((5 * (dt 79 10))).toNat = (u2 dt137 82 ((5 * (dt137 79 10)).toNat) 2) 82 ((5 * (dt 79 10))).toNat := h169_0 _ (xq0 hL0 (by decide))
          have y178 : dt170 82 ((5 * (dt 79 10)) + 2).toNat = (u2 dt137 82 ((5 * (dt137 79 10)).toNat) 2) 82 ((5 * (dt 79 10)) + 2).toNat := h169_0 _ (xq hL0 (by decide) (by decide))
          have y179 : dt170 82 ((5 * (dt 79 10)) + 3).toNat = (u2 dt137 82 ((5 * (dt137 79 10)).toNat) 2) 82 ((5 * (dt 79 10)) + 3).toNat := h169_0 _ (xq hL0 (by decide) (by decide))
          have y180 : dt170 82 ((5 * (dt 79 10)) + 4).toNat = (u2 dt137 82 ((5 * (dt137 79 10)).toNat) 2) 82 ((5 * (dt 79 10)) + 4).toNat := h169_0 _ (xq hL0 (by decide) (by decide))
          have y181 := h169_1 ((5 * (dt 79 10)) + 1) rfl
          refine go_toq PM172 (k := 10) (pc' := 148) (L' := [some (.inr (.inr (some 79))), some (.inl 2)]) (st' := [.inl 2, .inl 2, .inr (.inr (some 79))]) (w' := (SH, dt170)) rfl ?_
          refine go_callq PM172 PM171 (Q' := _) rfl rfl rfl rfl (sp_X6_argument L xs sio (d + 0) dt170 hI171  2 ⟨by decide, by decide⟩ 2 ⟨by decide, by decide⟩ (by first | exact True.intro | rfl | omega | trivial) (by first | exact True.intro | rfl | omega | trivial)) ?_
          rintro _ _ ⟨dt183, rfl, hI184, hF185, h182⟩
          refine ⟨rfl, ?_⟩
          have hF186 : Fr [79, 82] dt dt183 := Fr_tr hF173 hF185 (by decide)
          have E84187 : dt183 84 = dt 84 := (funext (hF185 84 (by decide))).trans E84174
          rcases h182 with ⟨rfl, h182⟩ | ⟨rfl, h182⟩
          · skip
            obtain ⟨h182_0, h182_1, h182_2, h182_3⟩ := h182
            refine go_retq PM172 (k := 2) (r := some (.inl 0)) (w1 := (SH, dt183)) rfl ?_
            exact ⟨dt183, rfl, hI184, hF186, (Or.inl ⟨rfl, ⟨by first | exact True.intro | rfl | omega | trivial, by first | exact True.intro | rfl | omega | trivial, by first | exact True.intro | rfl | omega | trivial⟩⟩)⟩
          · skip
            obtain ⟨h182_0, h182_1, h182_2, h182_3, h182_4, h182_5, h182_6, h182_7, h182_8, h182_9, h182_10⟩ := h182
            clear h169_3
            have ee188 : dt170 79 10 = dt 79 10 := by omega
            rw [ee188] at h182_0 h182_1
            have BL189 : ∀ j : Nat, (j : Int) < 5 * dt 79 10 → dt183 82 j = dt 82 j := fun j hj => (h182_0 j (blq hj (by decide))).trans (BL176 j hj)
            have y190 : dt183 82 ((5 * (dt 79 10))).toNat = dt170 82 ((5 * (dt 79 10))).toNat := h182_0 _ (xq0 hL0 (by decide))
            have y191 : dt183 82 ((5 * (dt 79 10)) + 1).toNat = dt170 82 ((5 * (dt 79 10)) + 1).toNat := h182_0 _ (xq hL0 (by decide) (by decide))
            have y192 : dt183 82 ((5 * (dt 79 10)) + 3).toNat = dt170 82 ((5 * (dt 79 10)) + 3).toNat := h182_0 _ (xq hL0 (by decide) (by decide))
            have y193 : dt183 82 ((5 * (dt 79 10)) + 4).toNat = dt170 82 ((5 * (dt 79 10)) + 4).toNat := h182_0 _ (xq hL0 (by decide) (by decide))
            have y194 := h182_1 ((5 * (dt 79 10)) + 2) rfl
            refine go_toq PM172 (k := 7) (pc' := 179) (L' := [some (.inr (.inr (some 79))), some (.inl 2)]) (st' := [.inl 3, .inl 3, .inr (.inr (some 79))]) (w' := (SH, dt183)) rfl ?_
            refine go_callq PM172 PM171 (Q' := _) rfl rfl rfl rfl (sp_X6_argument L xs sio (d + 0) dt183 hI184  3 ⟨by decide, by decide⟩ 3 ⟨by decide, by decide⟩ (by first | exact True.intro | rfl | omega | trivial) (by first | exact True.intro | rfl | omega | trivial)) ?_
            rintro _ _ ⟨dt196, rfl, hI197, hF198, h195⟩
            refine ⟨rfl, ?_⟩
            have hF199 : Fr [79, 82] dt dt196 := Fr_tr hF186 hF198 (by decide)
            have E84200 : dt196 84 = dt 84 := (funext (hF198 84 (by decide))).trans E84187
            rcases h195 with ⟨rfl, h195⟩ | ⟨rfl, h195⟩
            · skip
              obtain ⟨h195_0, h195_1, h195_2, h195_3⟩ := h195
              refine go_retq PM172 (k := 2) (r := some (.inl 0)) (w1 := (SH, dt196)) rfl ?_
              exact ⟨dt196, rfl, hI197, hF199, (Or.inl ⟨rfl, ⟨by first | exact True.intro | rfl | omega | trivial, by first | exact True.intro | rfl | omega | trivial, by first | exact True.intro | rfl | omega | trivial⟩⟩)⟩
            · skip
              obtain ⟨h195_0, h195_1, h195_2, h195_3, h195_4, h195_5, h195_6, h195_7, h195_8, h195_9, h195_10⟩ := h195
              clear h182_3
              have ee201 : dt183 79 10 = dt 79 10 := by omega
              rw [ee201] at h195_0 h195_1
              have BL202 : ∀ j : Nat, (j : Int) < 5 * dt 79 10 → dt196 82 j = dt 82 j := fun j hj => (h195_0 j (blq hj (by decide))).trans (BL189 j hj)
              have y203 : dt196 82 ((5 * (dt 79 10))).toNat = dt183 82 ((5 * (dt 79 10))).toNat := h195_0 _ (xq0 hL0 (by decide))
              have y204 : dt196 82 ((5 * (dt 79 10)) + 1).toNat = dt183 82 ((5 * (dt 79 10)) + 1).toNat := h195_0 _ (xq hL0 (by decide) (by decide))
              have y205 : dt196 82 ((5 * (dt 79 10)) + 2).toNat = dt183 82 ((5 * (dt 79 10)) + 2).toNat := h195_0 _ (xq hL0 (by decide) (by decide))
              have y206 : dt196 82 ((5 * (dt 79 10)) + 4).toNat = dt183 82 ((5 * (dt 79 10)) + 4).toNat := h195_0 _ (xq hL0 (by decide) (by decide))
              have y207 := h195_1 ((5 * (dt 79 10)) + 3) rfl
              refine go_toq PM172 (k := 6) (pc' := 208) (L' := [some (.inr (.inr (some 79))), some (.inl 2)]) (st' := [.inl 159, .inr (.inr (some 79))]) (w' := (SH, dt196)) rfl ?_
              refine go_callq PM172 PM161 (Q' := _) rfl rfl rfl rfl (sp_X6_need0 L xs sio (d + 1) dt196 hI197  159 ⟨by decide, by decide⟩ (by first | exact True.intro | rfl | omega | trivial)) ?_
              rintro _ _ ⟨dt209, rfl, hI210, hF211, h208⟩
              refine ⟨rfl, ?_⟩
              have hF212 : Fr [79, 82] dt dt209 := Fr_tr hF199 hF211 (by decide)
              have E84213 : dt209 84 = dt 84 := (funext (hF211 84 (by decide))).trans E84200
              rcases h208 with ⟨rfl, h208⟩ | ⟨rfl, h208⟩
              · skip
                obtain ⟨h208_0, h208_1, h208_2, h208_3⟩ := h208
                have BL214 : ∀ j : Nat, (j : Int) < 5 * dt 79 10 → dt209 82 j = dt 82 j := fun j hj => (hF211 82 (by decide) j).trans (BL202 j hj)
                have y215 : dt209 82 ((5 * (dt 79 10))).toNat = dt196 82 ((5 * (dt 79 10))).toNat := hF211 82 (by decide) _
                have y216 : dt209 82 ((5 * (dt 79 10)) + 1).toNat = dt196 82 ((5 * (dt 79 10)) + 1).toNat := hF211 82 (by decide) _
                have y217 : dt209 82 ((5 * (dt 79 10)) + 2).toNat = dt196 82 ((5 * (dt 79 10)) + 2).toNat := hF211 82 (by decide) _
                have y218 : dt209 82 ((5 * (dt 79 10)) + 3).toNat = dt196 82 ((5 * (dt 79 10)) + 3).toNat := hF211 82 (by decide) _
                have y219 : dt209 82 ((5 * (dt 79 10)) + 4).toNat = dt196 82 ((5 * (dt 79 10)) + 4).toNat := hF211 82 (by decide) _
                refine go_retq PM172 (k := 0) (r := some (.inl 0)) (w1 := (SH, dt209)) rfl ?_
                exact ⟨dt209, rfl, hI210, hF212, (Or.inl ⟨rfl, ⟨by first | exact True.intro | rfl | omega | trivial, by first | exact True.intro | rfl | omega | trivial, by first | exact True.intro | rfl | omega | trivial⟩⟩)⟩
              · skip
                obtain ⟨h208_0, h208_1, h208_2, h208_3, h208_4, h208_5, h208_6, h208_7, h208_8⟩ := h208
                clear h195_3
                have BL220 : ∀ j : Nat, (j : Int) < 5 * dt 79 10 → dt209 82 j = dt 82 j := fun j hj => (hF211 82 (by decide) j).trans (BL202 j hj)
                have y221 : dt209 82 ((5 * (dt 79 10))).toNat = dt196 82 ((5 * (dt 79 10))).toNat := hF211 82 (by decide) _
                have y222 : dt209 82 ((5 * (dt 79 10)) + 1).toNat = dt196 82 ((5 * (dt 79 10)) + 1).toNat := hF211 82 (by decide) _
                have y223 : dt209 82 ((5 * (dt 79 10)) + 2).toNat = dt196 82 ((5 * (dt 79 10)) + 2).toNat := hF211 82 (by decide) _
                have y224 : dt209 82 ((5 * (dt 79 10)) + 3).toNat = dt196 82 ((5 * (dt 79 10)) + 3).toNat := hF211 82 (by decide) _
                have y225 : dt209 82 ((5 * (dt 79 10)) + 4).toNat = dt196 82 ((5 * (dt 79 10)) + 4).toNat := hF211 82 (by decide) _
                refine go_retq PM172 (k := 0) (r := some (.inl 1)) (w1 := (SH, dt209)) rfl ?_
                exact ⟨dt209, rfl, hI210, hF212, (Or.inr ⟨rfl, ⟨by first | exact True.intro | rfl | omega | trivial, by exact BL220, by unfold aOK; omega, by first | exact True.intro | rfl | omega | trivial, by first | exact True.intro | rfl | omega | trivial, by exact (InvC_get (by assumption) 79 15 rfl rfl).2, by first | exact True.intro | rfl | omega | trivial, by first | exact True.intro | rfl | omega | trivial, by first | exact True.intro | rfl | omega | trivial, by first | exact True.intro | rfl | omega | trivial, by first | exact True.intro | rfl | omega | trivial⟩⟩)⟩
      · rw [hc7]
        refine go_toq PM172 (k := 1) (pc' := 44) (L' := [some (.inr (.inr (some 79))), some (.inl 3)]) (st' := [.inr (.inr (some 79))]) (w' := (SH, dt)) rfl ?_
        refine go_callq PM172 PM159 (Q' := _) rfl rfl rfl rfl (sp_X6_next0 L xs sio (d + 2) dt hI   (by first | exact True.intro | rfl | omega | trivial)) ?_
        rintro _ _ ⟨dt227, rfl, hI228, hF229, h226⟩
        refine ⟨rfl, ?_⟩
        have hF230 : Fr [79, 82] dt dt227 := Fr_tr hF hF229 (by decide)
        have E84231 : dt227 84 = dt 84 := funext (hF229 84 (by decide))
        rcases h226 with ⟨rfl, h226⟩
        obtain ⟨h226_0, h226_1, h226_2, h226_3, h226_4, h226_5, h226_6, h226_7, h226_8⟩ := h226
        have hadv0 : dt 79 15 + 1 ≤ dt 79 13 := by omega
        clear h_p0
        have BL232 : ∀ j : Nat, (j : Int) < 5 * dt 79 10 → dt227 82 j = dt 82 j := fun j hj => (hF229 82 (by decide) j).trans ((fun _ _ => rfl) j hj)
        have y233 : dt227 82 ((5 * (dt 79 10))).toNat = dt 82 ((5 * (dt 79 10))).toNat := hF229 82 (by decide) _
        have y234 : dt227 82 ((5 * (dt 79 10)) + 1).toNat = dt 82 ((5 * (dt 79 10)) + 1).toNat := hF229 82 (by decide) _
        have y235 : dt227 82 ((5 * (dt 79 10)) + 2).toNat = dt 82 ((5 * (dt 79 10)) + 2).toNat := hF229 82 (by decide) _
        have y236 : dt227 82 ((5 * (dt 79 10)) + 3).toNat = dt 82 ((5 * (dt 79 10)) + 3).toNat := hF229 82 (by decide) _
        have y237 : dt227 82 ((5 * (dt 79 10)) + 4).toNat = dt 82 ((5 * (dt 79 10)) + 4).toNat := hF229 82 (by decide) _
        have r238 : 0 ≤ dt227 79 10 ∧ dt227 79 10 ≤ 24 := InvC_get hI228 79 10 rfl rfl
        refine go_toq PM172 (k := 7) (pc' := 58) (L' := [some (.inr (.inr (some 79))), some (.inl 3)]) (st' := [.inl 3, .inl (5 * (dt227 79 10)), .inr (.inr (some 82))]) (w' := (SH, dt227)) rfl ?_
        have hI239 : InvC (u2 dt227 82 ((5 * (dt227 79 10)).toNat) 3) := InvC_u2 hI228 (lo := -2147483648) (hi := 2147483647) rfl rfl rfl (by decide) (by decide)
        have hF240 : Fr [79, 82] dt (u2 dt227 82 ((5 * (dt227 79 10)).toNat) 3) := Fr_u2 hF230 (by decide)
        have w241 : (u2 dt227 82 ((5 * (dt227 79 10)).toNat) 3) 79 2 = dt227 79 2 := rfl
        have w242 : (u2 dt227 82 ((5 * (dt227 79 10)).toNat) 3) 79 9 = dt227 79 9 := rfl
        have w243 : (u2 dt227 82 ((5 * (dt227 79 10)).toNat) 3) 79 10 = dt227 79 10 := rfl
        have w244 : (u2 dt227 82 ((5 * (dt227 79 10)).toNat) 3) 79 11 = dt227 79 11 := rfl
        have w245 : (u2 dt227 82 ((5 * (dt227 79 10)).toNat) 3) 79 12 = dt227 79 12 := rfl
        have w246 : (u2 dt227 82 ((5 * (dt227 79 10)).toNat) 3) 79 13 = dt227 79 13 := rfl
        have w247 : (u2 dt227 82 ((5 * (dt227 79 10)).toNat) 3) 79 14 = dt227 79 14 := rfl
        have w248 : (u2 dt227 82 ((5 * (dt227 79 10)).toNat) 3) 79 15 = dt227 79 15 := rfl
        have w249 : (u2 dt227 82 ((5 * (dt227 79 10)).toNat) 3) 79 16 = dt227 79 16 := rfl
        have w250 : (u2 dt227 82 ((5 * (dt227 79 10)).toNat) 3) 79 20 = dt227 79 20 := rfl
        have E84251 : (u2 dt227 82 ((5 * (dt227 79 10)).toNat) 3) 84 = dt 84 := (funext fun _ => rfl).trans E84231
        have ex253 : ((5 * (dt 79 10))).toNat = (5 * (dt227 79 10)).toNat := by omega
        have BL252 : ∀ j : Nat, (j : Int) < 5 * dt 79 10 → (u2 dt227 82 ((5 * (dt227 79 10)).toNat) 3) 82 j = dt 82 j := fun j hj => (u2_ne (by omega)).trans (BL232 j hj)
        have y254 : (u2 dt227 82 ((5 * (dt227 79 10)).toNat) 3) 82 ((5 * (dt 79 10))).toNat = 3 := by rw [ex253]; exact u2_eq
        have y255 : (u2 dt227 82 ((5 * (dt227 79 10)).toNat) 3) 82 ((5 * (dt 79 10)) + 1).toNat = dt227 82 ((5 * (dt 79 10)) + 1).toNat := u2_ne (by omega)
        have y256 : (u2 dt227 82 ((5 * (dt227 79 10)).toNat) 3) 82 ((5 * (dt 79 10)) + 2).toNat = dt227 82 ((5 * (dt 79 10)) + 2).toNat := u2_ne (by omega)
        have y257 : (u2 dt227 82 ((5 * (dt227 79 10)).toNat) 3) 82 ((5 * (dt 79 10)) + 3).toNat = dt227 82 ((5 * (dt 79 10)) + 3).toNat := u2_ne (by omega)
        have y258 : (u2 dt227 82 ((5 * (dt227 79 10)).toNat) 3) 82 ((5 * (dt 79 10)) + 4).toNat = dt227 82 ((5 * (dt 79 10)) + 4).toNat := u2_ne (by omega)
        refine go_smpq PM172 (L' := [some (.inr (.inr (some 79))), some (.inl 3)]) (st' := []) (w' := (SH, (u2 dt227 82 ((5 * (dt227 79 10)).toNat) 3))) rfl rfl (s_iast (n := 120) rfl ⟨by omega, by omega⟩ ⟨by decide, by decide⟩) ?_
        refine go_toq PM172 (k := 6) (pc' := 72) (L' := [some (.inr (.inr (some 79))), some (.inl 3)]) (st' := [.inl 3, .inl 1, .inr (.inr (some 79))]) (w' := (SH, (u2 dt227 82 ((5 * (dt227 79 10)).toNat) 3))) rfl ?_
        refine go_callq PM172 PM171 (Q' := _) rfl rfl rfl rfl (sp_X6_argument L xs sio (d + 0) (u2 dt227 82 ((5 * (dt227 79 10)).toNat) 3) hI239  1 ⟨by decide, by decide⟩ 3 ⟨by decide, by decide⟩ (by first | exact True.intro | rfl | omega | trivial) (by first | exact True.intro | rfl | omega | trivial)) ?_
        rintro _ _ ⟨dt260, rfl, hI261, hF262, h259⟩
        refine ⟨rfl, ?_⟩
        have hF263 : Fr [79, 82] dt dt260 := Fr_tr hF240 hF262 (by decide)
        have E84264 : dt260 84 = dt 84 := (funext (hF262 84 (by decide))).trans E84251
        rcases h259 with ⟨rfl, h259⟩ | ⟨rfl, h259⟩
        · skip
          obtain ⟨h259_0, h259_1, h259_2, h259_3⟩ := h259
          refine go_retq PM172 (k := 2) (r := some (.inl 0)) (w1 := (SH, dt260)) rfl ?_
          exact ⟨dt260, rfl, hI261, hF263, (Or.inl ⟨rfl, ⟨by first | exact True.intro | rfl | omega | trivial, by first | exact True.intro | rfl | omega | trivial, by first | exact True.intro | rfl | omega | trivial⟩⟩)⟩
        · skip
          obtain ⟨h259_0, h259_1, h259_2, h259_3, h259_4, h259_5, h259_6, h259_7, h259_8, h259_9, h259_10⟩ := h259
          clear h226_1
          have ee265 : (u2 dt227 82 ((5 * (dt227 79 10)).toNat) 3) 79 10 = dt 79 10 := by omega
          rw [ee265] at h259_0 h259_1
          have BL266 : ∀ j : Nat, (j : Int) < 5 * dt 79 10 → dt260 82 j = dt 82 j := fun j hj => (h259_0 j (blq hj (by decide))).trans (BL252 j hj)
          have y267 : dt260 82 ((5 * (dt 79 10))).toNat = (u2 dt227 82 ((5 * (dt227 79 10)).toNat) 3) 82 ((5 * (dt 79 10))).toNat := h259_0 _ (xq0 hL0 (by decide))
          have y268 : dt260 82 ((5 * (dt 79 10)) + 2).toNat = (u2 dt227 82 ((5 * (dt227 79 10)).toNat) 3) 82 ((5 * (dt 79 10)) + 2).toNat := h259_0 _ (xq hL0 (by decide) (by decide))
          have y269 : dt260 82 ((5 * (dt 79 10)) + 3).toNat = (u2 dt227 82 ((5 * (dt227 79 10)).toNat) 3) 82 ((5 * (dt 79 10)) + 3).toNat := h259_0 _ (xq hL0 (by decide) (by decide))
          have y270 : dt260 82 ((5 * (dt 79 10)) + 4).toNat = (u2 dt227 82 ((5 * (dt227 79 10)).toNat) 3) 82 ((5 * (dt 79 10)) + 4).toNat := h259_0 _ (xq hL0 (by decide) (by decide))
          have y271 := h259_1 ((5 * (dt 79 10)) + 1) rfl
          refine go_toq PM172 (k := 13) (pc' := 148) (L' := [some (.inr (.inr (some 79))), some (.inl 3)]) (st' := [.inl 2, .inl 2, .inr (.inr (some 79))]) (w' := (SH, dt260)) rfl ?_
          refine go_callq PM172 PM171 (Q' := _) rfl rfl rfl rfl (sp_X6_argument L xs sio (d + 0) dt260 hI261  2 ⟨by decide, by decide⟩ 2 ⟨by decide, by decide⟩ (by first | exact True.intro | rfl | omega | trivial) (by first | exact True.intro | rfl | omega | trivial)) ?_
          rintro _ _ ⟨dt273, rfl, hI274, hF275, h272⟩
          refine ⟨rfl, ?_⟩
          have hF276 : Fr [79, 82] dt dt273 := Fr_tr hF263 hF275 (by decide)
          have E84277 : dt273 84 = dt 84 := (funext (hF275 84 (by decide))).trans E84264
          rcases h272 with ⟨rfl, h272⟩ | ⟨rfl, h272⟩
          · skip
            obtain ⟨h272_0, h272_1, h272_2, h272_3⟩ := h272
            refine go_retq PM172 (k := 2) (r := some (.inl 0)) (w1 := (SH, dt273)) rfl ?_
            exact ⟨dt273, rfl, hI274, hF276, (Or.inl ⟨rfl, ⟨by first | exact True.intro | rfl | omega | trivial, by first | exact True.intro | rfl | omega | trivial, by first | exact True.intro | rfl | omega | trivial⟩⟩)⟩
          · skip
            obtain ⟨h272_0, h272_1, h272_2, h272_3, h272_4, h272_5, h272_6, h272_7, h272_8, h272_9, h272_10⟩ := h272
            clear h259_3
            have ee278 : dt260 79 10 = dt 79 10 := by omega
            rw [ee278] at h272_0 h272_1
            have BL279 : ∀ j : Nat, (j : Int) < 5 * dt 79 10 → dt273 82 j = dt 82 j := fun j hj => (h272_0 j (blq hj (by decide))).trans (BL266 j hj)
            have y280 : dt273 82 ((5 * (dt 79 10))).toNat = dt260 82 ((5 * (dt 79 10))).toNat := h272_0 _ (xq0 hL0 (by decide))
            have y281 : dt273 82 ((5 * (dt 79 10)) + 1).toNat = dt260 82 ((5 * (dt 79 10)) + 1).toNat := h272_0 _ (xq hL0 (by decide) (by decide))
            have y282 : dt273 82 ((5 * (dt 79 10)) + 3).toNat = dt260 82 ((5 * (dt 79 10)) + 3).toNat := h272_0 _ (xq hL0 (by decide) (by decide))
            have y283 : dt273 82 ((5 * (dt 79 10)) + 4).toNat = dt260 82 ((5 * (dt 79 10)) + 4).toNat := h272_0 _ (xq hL0 (by decide) (by decide))
            have y284 := h272_1 ((5 * (dt 79 10)) + 2) rfl
            refine go_toq PM172 (k := 10) (pc' := 179) (L' := [some (.inr (.inr (some 79))), some (.inl 3)]) (st' := [.inl 3, .inl 3, .inr (.inr (some 79))]) (w' := (SH, dt273)) rfl ?_
            refine go_callq PM172 PM171 (Q' := _) rfl rfl rfl rfl (sp_X6_argument L xs sio (d + 0) dt273 hI274  3 ⟨by decide, by decide⟩ 3 ⟨by decide, by decide⟩ (by first | exact True.intro | rfl | omega | trivial) (by first | exact True.intro | rfl | omega | trivial)) ?_
            rintro _ _ ⟨dt286, rfl, hI287, hF288, h285⟩
            refine ⟨rfl, ?_⟩
            have hF289 : Fr [79, 82] dt dt286 := Fr_tr hF276 hF288 (by decide)
            have E84290 : dt286 84 = dt 84 := (funext (hF288 84 (by decide))).trans E84277
            rcases h285 with ⟨rfl, h285⟩ | ⟨rfl, h285⟩
            · skip
              obtain ⟨h285_0, h285_1, h285_2, h285_3⟩ := h285
              refine go_retq PM172 (k := 2) (r := some (.inl 0)) (w1 := (SH, dt286)) rfl ?_
              exact ⟨dt286, rfl, hI287, hF289, (Or.inl ⟨rfl, ⟨by first | exact True.intro | rfl | omega | trivial, by first | exact True.intro | rfl | omega | trivial, by first | exact True.intro | rfl | omega | trivial⟩⟩)⟩
            · skip
              obtain ⟨h285_0, h285_1, h285_2, h285_3, h285_4, h285_5, h285_6, h285_7, h285_8, h285_9, h285_10⟩ := h285
              clear h272_3
              have ee291 : dt273 79 10 = dt 79 10 := by omega
              rw [ee291] at h285_0 h285_1
              have BL292 : ∀ j : Nat, (j : Int) < 5 * dt 79 10 → dt286 82 j = dt 82 j := fun j hj => (h285_0 j (blq hj (by decide))).trans (BL279 j hj)
              have y293 : dt286 82 ((5 * (dt 79 10))).toNat = dt273 82 ((5 * (dt 79 10))).toNat := h285_0 _ (xq0 hL0 (by decide))
              have y294 : dt286 82 ((5 * (dt 79 10)) + 1).toNat = dt273 82 ((5 * (dt 79 10)) + 1).toNat := h285_0 _ (xq hL0 (by decide) (by decide))
              have y295 : dt286 82 ((5 * (dt 79 10)) + 2).toNat = dt273 82 ((5 * (dt 79 10)) + 2).toNat := h285_0 _ (xq hL0 (by decide) (by decide))
              have y296 : dt286 82 ((5 * (dt 79 10)) + 4).toNat = dt273 82 ((5 * (dt 79 10)) + 4).toNat := h285_0 _ (xq hL0 (by decide) (by decide))
              have y297 := h285_1 ((5 * (dt 79 10)) + 3) rfl
              refine go_toq PM172 (k := 6) (pc' := 208) (L' := [some (.inr (.inr (some 79))), some (.inl 3)]) (st' := [.inl 159, .inr (.inr (some 79))]) (w' := (SH, dt286)) rfl ?_
              refine go_callq PM172 PM161 (Q' := _) rfl rfl rfl rfl (sp_X6_need0 L xs sio (d + 1) dt286 hI287  159 ⟨by decide, by decide⟩ (by first | exact True.intro | rfl | omega | trivial)) ?_
              rintro _ _ ⟨dt299, rfl, hI300, hF301, h298⟩
              refine ⟨rfl, ?_⟩
              have hF302 : Fr [79, 82] dt dt299 := Fr_tr hF289 hF301 (by decide)
              have E84303 : dt299 84 = dt 84 := (funext (hF301 84 (by decide))).trans E84290
              rcases h298 with ⟨rfl, h298⟩ | ⟨rfl, h298⟩
              · skip
                obtain ⟨h298_0, h298_1, h298_2, h298_3⟩ := h298
                have BL304 : ∀ j : Nat, (j : Int) < 5 * dt 79 10 → dt299 82 j = dt 82 j := fun j hj => (hF301 82 (by decide) j).trans (BL292 j hj)
                have y305 : dt299 82 ((5 * (dt 79 10))).toNat = dt286 82 ((5 * (dt 79 10))).toNat := hF301 82 (by decide) _
                have y306 : dt299 82 ((5 * (dt 79 10)) + 1).toNat = dt286 82 ((5 * (dt 79 10)) + 1).toNat := hF301 82 (by decide) _
                have y307 : dt299 82 ((5 * (dt 79 10)) + 2).toNat = dt286 82 ((5 * (dt 79 10)) + 2).toNat := hF301 82 (by decide) _
                have y308 : dt299 82 ((5 * (dt 79 10)) + 3).toNat = dt286 82 ((5 * (dt 79 10)) + 3).toNat := hF301 82 (by decide) _
                have y309 : dt299 82 ((5 * (dt 79 10)) + 4).toNat = dt286 82 ((5 * (dt 79 10)) + 4).toNat := hF301 82 (by decide) _
                refine go_retq PM172 (k := 0) (r := some (.inl 0)) (w1 := (SH, dt299)) rfl ?_
                exact ⟨dt299, rfl, hI300, hF302, (Or.inl ⟨rfl, ⟨by first | exact True.intro | rfl | omega | trivial, by first | exact True.intro | rfl | omega | trivial, by first | exact True.intro | rfl | omega | trivial⟩⟩)⟩
              · skip
                obtain ⟨h298_0, h298_1, h298_2, h298_3, h298_4, h298_5, h298_6, h298_7, h298_8⟩ := h298
                clear h285_3
                have BL310 : ∀ j : Nat, (j : Int) < 5 * dt 79 10 → dt299 82 j = dt 82 j := fun j hj => (hF301 82 (by decide) j).trans (BL292 j hj)
                have y311 : dt299 82 ((5 * (dt 79 10))).toNat = dt286 82 ((5 * (dt 79 10))).toNat := hF301 82 (by decide) _
                have y312 : dt299 82 ((5 * (dt 79 10)) + 1).toNat = dt286 82 ((5 * (dt 79 10)) + 1).toNat := hF301 82 (by decide) _
                have y313 : dt299 82 ((5 * (dt 79 10)) + 2).toNat = dt286 82 ((5 * (dt 79 10)) + 2).toNat := hF301 82 (by decide) _
                have y314 : dt299 82 ((5 * (dt 79 10)) + 3).toNat = dt286 82 ((5 * (dt 79 10)) + 3).toNat := hF301 82 (by decide) _
                have y315 : dt299 82 ((5 * (dt 79 10)) + 4).toNat = dt286 82 ((5 * (dt 79 10)) + 4).toNat := hF301 82 (by decide) _
                refine go_retq PM172 (k := 0) (r := some (.inl 1)) (w1 := (SH, dt299)) rfl ?_
                exact ⟨dt299, rfl, hI300, hF302, (Or.inr ⟨rfl, ⟨by first | exact True.intro | rfl | omega | trivial, by exact BL310, by unfold aOK; omega, by first | exact True.intro | rfl | omega | trivial, by first | exact True.intro | rfl | omega | trivial, by exact (InvC_get (by assumption) 79 15 rfl rfl).2, by first | exact True.intro | rfl | omega | trivial, by first | exact True.intro | rfl | omega | trivial, by first | exact True.intro | rfl | omega | trivial, by first | exact True.intro | rfl | omega | trivial, by first | exact True.intro | rfl | omega | trivial⟩⟩)⟩
      · rw [hc7]
        refine go_toq PM172 (k := 1) (pc' := 44) (L' := [some (.inr (.inr (some 79))), some (.inl 4)]) (st' := [.inr (.inr (some 79))]) (w' := (SH, dt)) rfl ?_
        refine go_callq PM172 PM159 (Q' := _) rfl rfl rfl rfl (sp_X6_next0 L xs sio (d + 2) dt hI   (by first | exact True.intro | rfl | omega | trivial)) ?_
        rintro _ _ ⟨dt317, rfl, hI318, hF319, h316⟩
        refine ⟨rfl, ?_⟩
        have hF320 : Fr [79, 82] dt dt317 := Fr_tr hF hF319 (by decide)
        have E84321 : dt317 84 = dt 84 := funext (hF319 84 (by decide))
        rcases h316 with ⟨rfl, h316⟩
        obtain ⟨h316_0, h316_1, h316_2, h316_3, h316_4, h316_5, h316_6, h316_7, h316_8⟩ := h316
        have hadv0 : dt 79 15 + 1 ≤ dt 79 13 := by omega
        clear h_p0
        have BL322 : ∀ j : Nat, (j : Int) < 5 * dt 79 10 → dt317 82 j = dt 82 j := fun j hj => (hF319 82 (by decide) j).trans ((fun _ _ => rfl) j hj)
        have y323 : dt317 82 ((5 * (dt 79 10))).toNat = dt 82 ((5 * (dt 79 10))).toNat := hF319 82 (by decide) _
        have y324 : dt317 82 ((5 * (dt 79 10)) + 1).toNat = dt 82 ((5 * (dt 79 10)) + 1).toNat := hF319 82 (by decide) _
        have y325 : dt317 82 ((5 * (dt 79 10)) + 2).toNat = dt 82 ((5 * (dt 79 10)) + 2).toNat := hF319 82 (by decide) _
        have y326 : dt317 82 ((5 * (dt 79 10)) + 3).toNat = dt 82 ((5 * (dt 79 10)) + 3).toNat := hF319 82 (by decide) _
        have y327 : dt317 82 ((5 * (dt 79 10)) + 4).toNat = dt 82 ((5 * (dt 79 10)) + 4).toNat := hF319 82 (by decide) _
        have r328 : 0 ≤ dt317 79 10 ∧ dt317 79 10 ≤ 24 := InvC_get hI318 79 10 rfl rfl
        refine go_toq PM172 (k := 7) (pc' := 58) (L' := [some (.inr (.inr (some 79))), some (.inl 4)]) (st' := [.inl 4, .inl (5 * (dt317 79 10)), .inr (.inr (some 82))]) (w' := (SH, dt317)) rfl ?_
        have hI329 : InvC (u2 dt317 82 ((5 * (dt317 79 10)).toNat) 4) := InvC_u2 hI318 (lo := -2147483648) (hi := 2147483647) rfl rfl rfl (by decide) (by decide)
        have hF330 : Fr [79, 82] dt (u2 dt317 82 ((5 * (dt317 79 10)).toNat) 4) := Fr_u2 hF320 (by decide)
        have w331 : (u2 dt317 82 ((5 * (dt317 79 10)).toNat) 4) 79 2 = dt317 79 2 := rfl
        have w332 : (u2 dt317 82 ((5 * (dt317 79 10)).toNat) 4) 79 9 = dt317 79 9 := rfl
        have w333 : (u2 dt317 82 ((5 * (dt317 79 10)).toNat) 4) 79 10 = dt317 79 10 := rfl
        have w334 : (u2 dt317 82 ((5 * (dt317 79 10)).toNat) 4) 79 11 = dt317 79 11 := rfl
        have w335 : (u2 dt317 82 ((5 * (dt317 79 10)).toNat) 4) 79 12 = dt317 79 12 := rfl
        have w336 : (u2 dt317 82 ((5 * (dt317 79 10)).toNat) 4) 79 13 = dt317 79 13 := rfl
        have w337 : (u2 dt317 82 ((5 * (dt317 79 10)).toNat) 4) 79 14 = dt317 79 14 := rfl
        have w338 : (u2 dt317 82 ((5 * (dt317 79 10)).toNat) 4) 79 15 = dt317 79 15 := rfl
        have w339 : (u2 dt317 82 ((5 * (dt317 79 10)).toNat) 4) 79 16 = dt317 79 16 := rfl
        have w340 : (u2 dt317 82 ((5 * (dt317 79 10)).toNat) 4) 79 20 = dt317 79 20 := rfl
        have E84341 : (u2 dt317 82 ((5 * (dt317 79 10)).toNat) 4) 84 = dt 84 := (funext fun _ => rfl).trans E84321
        have ex343 : ((5 * (dt 79 10))).toNat = (5 * (dt317 79 10)).toNat := by omega
        have BL342 : ∀ j : Nat, (j : Int) < 5 * dt 79 10 → (u2 dt317 82 ((5 * (dt317 79 10)).toNat) 4) 82 j = dt 82 j := fun j hj => (u2_ne (by omega)).trans (BL322 j hj)
        have y344 : (u2 dt317 82 ((5 * (dt317 79 10)).toNat) 4) 82 ((5 * (dt 79 10))).toNat = 4 := by rw [ex343]; exact u2_eq
        have y345 : (u2 dt317 82 ((5 * (dt317 79 10)).toNat) 4) 82 ((5 * (dt 79 10)) + 1).toNat = dt317 82 ((5 * (dt 79 10)) + 1).toNat := u2_ne (by omega)
        have y346 : (u2 dt317 82 ((5 * (dt317 79 10)).toNat) 4) 82 ((5 * (dt 79 10)) + 2).toNat = dt317 82 ((5 * (dt 79 10)) + 2).toNat := u2_ne (by omega)
        have y347 : (u2 dt317 82 ((5 * (dt317 79 10)).toNat) 4) 82 ((5 * (dt 79 10)) + 3).toNat = dt317 82 ((5 * (dt 79 10)) + 3).toNat := u2_ne (by omega)
        have y348 : (u2 dt317 82 ((5 * (dt317 79 10)).toNat) 4) 82 ((5 * (dt 79 10)) + 4).toNat = dt317 82 ((5 * (dt 79 10)) + 4).toNat := u2_ne (by omega)
        refine go_smpq PM172 (L' := [some (.inr (.inr (some 79))), some (.inl 4)]) (st' := []) (w' := (SH, (u2 dt317 82 ((5 * (dt317 79 10)).toNat) 4))) rfl rfl (s_iast (n := 120) rfl ⟨by omega, by omega⟩ ⟨by decide, by decide⟩) ?_
        refine go_toq PM172 (k := 6) (pc' := 72) (L' := [some (.inr (.inr (some 79))), some (.inl 4)]) (st' := [.inl 3, .inl 1, .inr (.inr (some 79))]) (w' := (SH, (u2 dt317 82 ((5 * (dt317 79 10)).toNat) 4))) rfl ?_
        refine go_callq PM172 PM171 (Q' := _) rfl rfl rfl rfl (sp_X6_argument L xs sio (d + 0) (u2 dt317 82 ((5 * (dt317 79 10)).toNat) 4) hI329  1 ⟨by decide, by decide⟩ 3 ⟨by decide, by decide⟩ (by first | exact True.intro | rfl | omega | trivial) (by first | exact True.intro | rfl | omega | trivial)) ?_
        rintro _ _ ⟨dt350, rfl, hI351, hF352, h349⟩
        refine ⟨rfl, ?_⟩
        have hF353 : Fr [79, 82] dt dt350 := Fr_tr hF330 hF352 (by decide)
        have E84354 : dt350 84 = dt 84 := (funext (hF352 84 (by decide))).trans E84341
        rcases h349 with ⟨rfl, h349⟩ | ⟨rfl, h349⟩
        · skip
          obtain ⟨h349_0, h349_1, h349_2, h349_3⟩ := h349
          refine go_retq PM172 (k := 2) (r := some (.inl 0)) (w1 := (SH, dt350)) rfl ?_
          exact ⟨dt350, rfl, hI351, hF353, (Or.inl ⟨rfl, ⟨by first | exact True.intro | rfl | omega | trivial, by first | exact True.intro | rfl | omega | trivial, by first | exact True.intro | rfl | omega | trivial⟩⟩)⟩
        · skip
          obtain ⟨h349_0, h349_1, h349_2, h349_3, h349_4, h349_5, h349_6, h349_7, h349_8, h349_9, h349_10⟩ := h349
          clear h316_1
          have ee355 : (u2 dt317 82 ((5 * (dt317 79 10)).toNat) 4) 79 10 = dt 79 10 := by omega
          rw [ee355] at h349_0 h349_1
          have BL356 : ∀ j : Nat, (j : Int) < 5 * dt 79 10 → dt350 82 j = dt 82 j := fun j hj => (h349_0 j (blq hj (by decide))).trans (BL342 j hj)
          have y357 : dt350 82 ((5 * (dt 79 10))).toNat = (u2 dt317 82 ((5 * (dt317 79 10)).toNat) 4) 82 ((5 * (dt 79 10))).toNat := h349_0 _ (xq0 hL0 (by decide))
          have y358 : dt350 82 ((5 * (dt 79 10)) + 2).toNat = (u2 dt317 82 ((5 * (dt317 79 10)).toNat) 4) 82 ((5 * (dt 79 10)) + 2).toNat := h349_0 _ (xq hL0 (by decide) (by decide))
          have y359 : dt350 82 ((5 * (dt 79 10)) + 3).toNat = (u2 dt317 82 ((5 * (dt317 79 10)).toNat) 4) 82 ((5 * (dt 79 10)) + 3).toNat := h349_0 _ (xq hL0 (by decide) (by decide))
          have y360 : dt350 82 ((5 * (dt 79 10)) + 4).toNat = (u2 dt317 82 ((5 * (dt317 79 10)).toNat) 4) 82 ((5 * (dt 79 10)) + 4).toNat := h349_0 _ (xq hL0 (by decide) (by decide))
          have y361 := h349_1 ((5 * (dt 79 10)) + 1) rfl
          have r362 : (-2147483648) ≤ dt350 79 14 ∧ dt350 79 14 ≤ 2147483647 := InvC_get hI351 79 14 rfl rfl
          refine go_ifq PM172 (k := 7) (p1 := 119) (p2 := 93) (L' := [some (.inr (.inr (some 79))), some (.inl 4)]) (st' := []) (w' := (SH, dt350)) rfl (c_ne (a := dt350 79 14) (b := 2) (by first | exact bnd r362 (by decide) (by decide) | exact ⟨by omega, by omega⟩) ⟨by decide, by decide⟩) (fun c363 => ?_) (fun c363 => ?_)
          · skip
            refine go_toq PM172 (k := 3) (pc' := 122) (L' := [some (.inr (.inr (some 79))), some (.inl 4)]) (st' := [.inl 3, .inl 4, .inr (.inr (some 79))]) (w' := (SH, dt350)) rfl ?_
            refine go_callq PM172 PM171 (Q' := _) rfl rfl rfl rfl (sp_X6_argument L xs sio (d + 0) dt350 hI351  4 ⟨by decide, by decide⟩ 3 ⟨by decide, by decide⟩ (by first | exact True.intro | rfl | omega | trivial) (by first | exact True.intro | rfl | omega | trivial)) ?_
            rintro _ _ ⟨dt365, rfl, hI366, hF367, h364⟩
            refine ⟨rfl, ?_⟩
            have hF368 : Fr [79, 82] dt dt365 := Fr_tr hF353 hF367 (by decide)
            have E84369 : dt365 84 = dt 84 := (funext (hF367 84 (by decide))).trans E84354
            rcases h364 with ⟨rfl, h364⟩ | ⟨rfl, h364⟩
            · skip
              obtain ⟨h364_0, h364_1, h364_2, h364_3⟩ := h364
              refine go_retq PM172 (k := 2) (r := some (.inl 0)) (w1 := (SH, dt365)) rfl ?_
              exact ⟨dt365, rfl, hI366, hF368, (Or.inl ⟨rfl, ⟨by first | exact True.intro | rfl | omega | trivial, by first | exact True.intro | rfl | omega | trivial, by first | exact True.intro | rfl | omega | trivial⟩⟩)⟩
            · skip
              obtain ⟨h364_0, h364_1, h364_2, h364_3, h364_4, h364_5, h364_6, h364_7, h364_8, h364_9, h364_10⟩ := h364
              clear h349_3
              have ee370 : dt350 79 10 = dt 79 10 := by omega
              rw [ee370] at h364_0 h364_1
              have BL371 : ∀ j : Nat, (j : Int) < 5 * dt 79 10 → dt365 82 j = dt 82 j := fun j hj => (h364_0 j (blq hj (by decide))).trans (BL356 j hj)
              have y372 : dt365 82 ((5 * (dt 79 10))).toNat = dt350 82 ((5 * (dt 79 10))).toNat := h364_0 _ (xq0 hL0 (by decide))
              have y373 : dt365 82 ((5 * (dt 79 10)) + 1).toNat = dt350 82 ((5 * (dt 79 10)) + 1).toNat := h364_0 _ (xq hL0 (by decide) (by decide))
              have y374 : dt365 82 ((5 * (dt 79 10)) + 2).toNat = dt350 82 ((5 * (dt 79 10)) + 2).toNat := h364_0 _ (xq hL0 (by decide) (by decide))
              have y375 : dt365 82 ((5 * (dt 79 10)) + 3).toNat = dt350 82 ((5 * (dt 79 10)) + 3).toNat := h364_0 _ (xq hL0 (by decide) (by decide))
              have y376 := h364_1 ((5 * (dt 79 10)) + 4) rfl
              refine go_toq PM172 (k := 13) (pc' := 148) (L' := [some (.inr (.inr (some 79))), some (.inl 4)]) (st' := [.inl 2, .inl 2, .inr (.inr (some 79))]) (w' := (SH, dt365)) rfl ?_
              refine go_callq PM172 PM171 (Q' := _) rfl rfl rfl rfl (sp_X6_argument L xs sio (d + 0) dt365 hI366  2 ⟨by decide, by decide⟩ 2 ⟨by decide, by decide⟩ (by first | exact True.intro | rfl | omega | trivial) (by first | exact True.intro | rfl | omega | trivial)) ?_
              rintro _ _ ⟨dt378, rfl, hI379, hF380, h377⟩
              refine ⟨rfl, ?_⟩
              have hF381 : Fr [79, 82] dt dt378 := Fr_tr hF368 hF380 (by decide)
              have E84382 : dt378 84 = dt 84 := (funext (hF380 84 (by decide))).trans E84369
              rcases h377 with ⟨rfl, h377⟩ | ⟨rfl, h377⟩
              · skip
                obtain ⟨h377_0, h377_1, h377_2, h377_3⟩ := h377
                refine go_retq PM172 (k := 2) (r := some (.inl 0)) (w1 := (SH, dt378)) rfl ?_
                exact ⟨dt378, rfl, hI379, hF381, (Or.inl ⟨rfl, ⟨by first | exact True.intro | rfl | omega | trivial, by first | exact True.intro | rfl | omega | trivial, by first | exact True.intro | rfl | omega | trivial⟩⟩)⟩
              · skip
                obtain ⟨h377_0, h377_1, h377_2, h377_3, h377_4, h377_5, h377_6, h377_7, h377_8, h377_9, h377_10⟩ := h377
                clear h364_3
                have ee383 : dt365 79 10 = dt 79 10 := by omega
                rw [ee383] at h377_0 h377_1
                have BL384 : ∀ j : Nat, (j : Int) < 5 * dt 79 10 → dt378 82 j = dt 82 j := fun j hj => (h377_0 j (blq hj (by decide))).trans (BL371 j hj)
                have y385 : dt378 82 ((5 * (dt 79 10))).toNat = dt365 82 ((5 * (dt 79 10))).toNat := h377_0 _ (xq0 hL0 (by decide))
                have y386 : dt378 82 ((5 * (dt 79 10)) + 1).toNat = dt365 82 ((5 * (dt 79 10)) + 1).toNat := h377_0 _ (xq hL0 (by decide) (by decide))
                have y387 : dt378 82 ((5 * (dt 79 10)) + 3).toNat = dt365 82 ((5 * (dt 79 10)) + 3).toNat := h377_0 _ (xq hL0 (by decide) (by decide))
                have y388 : dt378 82 ((5 * (dt 79 10)) + 4).toNat = dt365 82 ((5 * (dt 79 10)) + 4).toNat := h377_0 _ (xq hL0 (by decide) (by decide))
                have y389 := h377_1 ((5 * (dt 79 10)) + 2) rfl
                refine go_toq PM172 (k := 13) (pc' := 179) (L' := [some (.inr (.inr (some 79))), some (.inl 4)]) (st' := [.inl 3, .inl 3, .inr (.inr (some 79))]) (w' := (SH, dt378)) rfl ?_
                refine go_callq PM172 PM171 (Q' := _) rfl rfl rfl rfl (sp_X6_argument L xs sio (d + 0) dt378 hI379  3 ⟨by decide, by decide⟩ 3 ⟨by decide, by decide⟩ (by first | exact True.intro | rfl | omega | trivial) (by first | exact True.intro | rfl | omega | trivial)) ?_
                rintro _ _ ⟨dt391, rfl, hI392, hF393, h390⟩
                refine ⟨rfl, ?_⟩
                have hF394 : Fr [79, 82] dt dt391 := Fr_tr hF381 hF393 (by decide)
                have E84395 : dt391 84 = dt 84 := (funext (hF393 84 (by decide))).trans E84382
                rcases h390 with ⟨rfl, h390⟩ | ⟨rfl, h390⟩
                · skip
                  obtain ⟨h390_0, h390_1, h390_2, h390_3⟩ := h390
                  refine go_retq PM172 (k := 2) (r := some (.inl 0)) (w1 := (SH, dt391)) rfl ?_
                  exact ⟨dt391, rfl, hI392, hF394, (Or.inl ⟨rfl, ⟨by first | exact True.intro | rfl | omega | trivial, by first | exact True.intro | rfl | omega | trivial, by first | exact True.intro | rfl | omega | trivial⟩⟩)⟩
                · skip
                  obtain ⟨h390_0, h390_1, h390_2, h390_3, h390_4, h390_5, h390_6, h390_7, h390_8, h390_9, h390_10⟩ := h390
                  clear h377_3
                  have ee396 : dt378 79 10 = dt 79 10 := by omega
                  rw [ee396] at h390_0 h390_1
                  have BL397 : ∀ j : Nat, (j : Int) < 5 * dt 79 10 → dt391 82 j = dt 82 j := fun j hj => (h390_0 j (blq hj (by decide))).trans (BL384 j hj)
                  have y398 : dt391 82 ((5 * (dt 79 10))).toNat = dt378 82 ((5 * (dt 79 10))).toNat := h390_0 _ (xq0 hL0 (by decide))
                  have y399 : dt391 82 ((5 * (dt 79 10)) + 1).toNat = dt378 82 ((5 * (dt 79 10)) + 1).toNat := h390_0 _ (xq hL0 (by decide) (by decide))
                  have y400 : dt391 82 ((5 * (dt 79 10)) + 2).toNat = dt378 82 ((5 * (dt 79 10)) + 2).toNat := h390_0 _ (xq hL0 (by decide) (by decide))
                  have y401 : dt391 82 ((5 * (dt 79 10)) + 4).toNat = dt378 82 ((5 * (dt 79 10)) + 4).toNat := h390_0 _ (xq hL0 (by decide) (by decide))
                  have y402 := h390_1 ((5 * (dt 79 10)) + 3) rfl
                  refine go_toq PM172 (k := 6) (pc' := 208) (L' := [some (.inr (.inr (some 79))), some (.inl 4)]) (st' := [.inl 159, .inr (.inr (some 79))]) (w' := (SH, dt391)) rfl ?_
                  refine go_callq PM172 PM161 (Q' := _) rfl rfl rfl rfl (sp_X6_need0 L xs sio (d + 1) dt391 hI392  159 ⟨by decide, by decide⟩ (by first | exact True.intro | rfl | omega | trivial)) ?_
                  rintro _ _ ⟨dt404, rfl, hI405, hF406, h403⟩
                  refine ⟨rfl, ?_⟩
                  have hF407 : Fr [79, 82] dt dt404 := Fr_tr hF394 hF406 (by decide)
                  have E84408 : dt404 84 = dt 84 := (funext (hF406 84 (by decide))).trans E84395
                  rcases h403 with ⟨rfl, h403⟩ | ⟨rfl, h403⟩
                  · skip
                    obtain ⟨h403_0, h403_1, h403_2, h403_3⟩ := h403
                    have BL409 : ∀ j : Nat, (j : Int) < 5 * dt 79 10 → dt404 82 j = dt 82 j := fun j hj => (hF406 82 (by decide) j).trans (BL397 j hj)
                    have y410 : dt404 82 ((5 * (dt 79 10))).toNat = dt391 82 ((5 * (dt 79 10))).toNat := hF406 82 (by decide) _
                    have y411 : dt404 82 ((5 * (dt 79 10)) + 1).toNat = dt391 82 ((5 * (dt 79 10)) + 1).toNat := hF406 82 (by decide) _
                    have y412 : dt404 82 ((5 * (dt 79 10)) + 2).toNat = dt391 82 ((5 * (dt 79 10)) + 2).toNat := hF406 82 (by decide) _
                    have y413 : dt404 82 ((5 * (dt 79 10)) + 3).toNat = dt391 82 ((5 * (dt 79 10)) + 3).toNat := hF406 82 (by decide) _
                    have y414 : dt404 82 ((5 * (dt 79 10)) + 4).toNat = dt391 82 ((5 * (dt 79 10)) + 4).toNat := hF406 82 (by decide) _
                    refine go_retq PM172 (k := 0) (r := some (.inl 0)) (w1 := (SH, dt404)) rfl ?_
                    exact ⟨dt404, rfl, hI405, hF407, (Or.inl ⟨rfl, ⟨by first | exact True.intro | rfl | omega | trivial, by first | exact True.intro | rfl | omega | trivial, by first | exact True.intro | rfl | omega | trivial⟩⟩)⟩
                  · skip
                    obtain ⟨h403_0, h403_1, h403_2, h403_3, h403_4, h403_5, h403_6, h403_7, h403_8⟩ := h403
                    clear h390_3
                    have BL415 : ∀ j : Nat, (j : Int) < 5 * dt 79 10 → dt404 82 j = dt 82 j := fun j hj => (hF406 82 (by decide) j).trans (BL397 j hj)
                    have y416 : dt404 82 ((5 * (dt 79 10))).toNat = dt391 82 ((5 * (dt 79 10))).toNat := hF406 82 (by decide) _
                    have y417 : dt404 82 ((5 * (dt 79 10)) + 1).toNat = dt391 82 ((5 * (dt 79 10)) + 1).toNat := hF406 82 (by decide) _
                    have y418 : dt404 82 ((5 * (dt 79 10)) + 2).toNat = dt391 82 ((5 * (dt 79 10)) + 2).toNat := hF406 82 (by decide) _
                    have y419 : dt404 82 ((5 * (dt 79 10)) + 3).toNat = dt391 82 ((5 * (dt 79 10)) + 3).toNat := hF406 82 (by decide) _
                    have y420 : dt404 82 ((5 * (dt 79 10)) + 4).toNat = dt391 82 ((5 * (dt 79 10)) + 4).toNat := hF406 82 (by decide) _
                    refine go_retq PM172 (k := 0) (r := some (.inl 1)) (w1 := (SH, dt404)) rfl ?_
                    exact ⟨dt404, rfl, hI405, hF407, (Or.inr ⟨rfl, ⟨by first | exact True.intro | rfl | omega | trivial, by exact BL415, by unfold aOK; omega, by first | exact True.intro | rfl | omega | trivial, by first | exact True.intro | rfl | omega | trivial, by exact (InvC_get (by assumption) 79 15 rfl rfl).2, by first | exact True.intro | rfl | omega | trivial, by first | exact True.intro | rfl | omega | trivial, by first | exact True.intro | rfl | omega | trivial, by first | exact True.intro | rfl | omega | trivial, by first | exact True.intro | rfl | omega | trivial⟩⟩)⟩
          · skip
            have r421 : 0 ≤ dt350 79 16 ∧ dt350 79 16 ≤ 9999 := InvC_get hI351 79 16 rfl rfl
            have r422 : 0 ≤ dt350 79 10 ∧ dt350 79 10 ≤ 24 := InvC_get hI351 79 10 rfl rfl
            refine go_toq PM172 (k := 10) (pc' := 109) (L' := [some (.inr (.inr (some 79))), some (.inl 4)]) (st' := [.inl ((5 * (dt350 79 10)) + 1), .inr (.inr (some 82)), .inl (dt350 79 16)]) (w' := (SH, dt350)) rfl ?_
            have r423 : (-2147483648) ≤ dt350 82 (((5 * (dt350 79 10)) + 1).toNat) ∧ dt350 82 (((5 * (dt350 79 10)) + 1).toNat) ≤ 2147483647 := InvC_get hI351 82 (((5 * (dt350 79 10)) + 1).toNat) rfl rfl
            refine go_smpq PM172 (L' := [some (.inr (.inr (some 79))), some (.inl 4)]) (st' := [.inl (dt350 82 (((5 * (dt350 79 10)) + 1).toNat)), .inl (dt350 79 16)]) (w' := (SH, dt350)) rfl rfl (s_iald (n := 120) (f := dt350 82) rfl ⟨by omega, by omega⟩) ?_
            refine go_ifq PM172 (k := 0) (p1 := 119) (p2 := 113) (L' := [some (.inr (.inr (some 79))), some (.inl 4)]) (st' := []) (w' := (SH, dt350)) rfl (c_ne (a := dt350 79 16) (b := dt350 82 (((5 * (dt350 79 10)) + 1).toNat)) (by first | exact bnd r421 (by decide) (by decide) | exact ⟨by omega, by omega⟩) (by first | exact bnd r423 (by decide) (by decide) | exact ⟨by omega, by omega⟩)) (fun c424 => ?_) (fun c424 => ?_)
            · skip
              refine go_toq PM172 (k := 3) (pc' := 122) (L' := [some (.inr (.inr (some 79))), some (.inl 4)]) (st' := [.inl 3, .inl 4, .inr (.inr (some 79))]) (w' := (SH, dt350)) rfl ?_
              refine go_callq PM172 PM171 (Q' := _) rfl rfl rfl rfl (sp_X6_argument L xs sio (d + 0) dt350 hI351  4 ⟨by decide, by decide⟩ 3 ⟨by decide, by decide⟩ (by first | exact True.intro | rfl | omega | trivial) (by first | exact True.intro | rfl | omega | trivial)) ?_
              rintro _ _ ⟨dt426, rfl, hI427, hF428, h425⟩
              refine ⟨rfl, ?_⟩
              have hF429 : Fr [79, 82] dt dt426 := Fr_tr hF353 hF428 (by decide)
              have E84430 : dt426 84 = dt 84 := (funext (hF428 84 (by decide))).trans E84354
              rcases h425 with ⟨rfl, h425⟩ | ⟨rfl, h425⟩
              · skip
                obtain ⟨h425_0, h425_1, h425_2, h425_3⟩ := h425
                refine go_retq PM172 (k := 2) (r := some (.inl 0)) (w1 := (SH, dt426)) rfl ?_
                exact ⟨dt426, rfl, hI427, hF429, (Or.inl ⟨rfl, ⟨by first | exact True.intro | rfl | omega | trivial, by first | exact True.intro | rfl | omega | trivial, by first | exact True.intro | rfl | omega | trivial⟩⟩)⟩
              · skip
                obtain ⟨h425_0, h425_1, h425_2, h425_3, h425_4, h425_5, h425_6, h425_7, h425_8, h425_9, h425_10⟩ := h425
                clear h349_3
                have ee431 : dt350 79 10 = dt 79 10 := by omega
                rw [ee431] at h425_0 h425_1
                have BL432 : ∀ j : Nat, (j : Int) < 5 * dt 79 10 → dt426 82 j = dt 82 j := fun j hj => (h425_0 j (blq hj (by decide))).trans (BL356 j hj)
                have y433 : dt426 82 ((5 * (dt 79 10))).toNat = dt350 82 ((5 * (dt 79 10))).toNat := h425_0 _ (xq0 hL0 (by decide))
                have y434 : dt426 82 ((5 * (dt 79 10)) + 1).toNat = dt350 82 ((5 * (dt 79 10)) + 1).toNat := h425_0 _ (xq hL0 (by decide) (by decide))
                have y435 : dt426 82 ((5 * (dt 79 10)) + 2).toNat = dt350 82 ((5 * (dt 79 10)) + 2).toNat := h425_0 _ (xq hL0 (by decide) (by decide))
                have y436 : dt426 82 ((5 * (dt 79 10)) + 3).toNat = dt350 82 ((5 * (dt 79 10)) + 3).toNat := h425_0 _ (xq hL0 (by decide) (by decide))
                have y437 := h425_1 ((5 * (dt 79 10)) + 4) rfl
                refine go_toq PM172 (k := 13) (pc' := 148) (L' := [some (.inr (.inr (some 79))), some (.inl 4)]) (st' := [.inl 2, .inl 2, .inr (.inr (some 79))]) (w' := (SH, dt426)) rfl ?_
                refine go_callq PM172 PM171 (Q' := _) rfl rfl rfl rfl (sp_X6_argument L xs sio (d + 0) dt426 hI427  2 ⟨by decide, by decide⟩ 2 ⟨by decide, by decide⟩ (by first | exact True.intro | rfl | omega | trivial) (by first | exact True.intro | rfl | omega | trivial)) ?_
                rintro _ _ ⟨dt439, rfl, hI440, hF441, h438⟩
                refine ⟨rfl, ?_⟩
                have hF442 : Fr [79, 82] dt dt439 := Fr_tr hF429 hF441 (by decide)
                have E84443 : dt439 84 = dt 84 := (funext (hF441 84 (by decide))).trans E84430
                rcases h438 with ⟨rfl, h438⟩ | ⟨rfl, h438⟩
                · skip
                  obtain ⟨h438_0, h438_1, h438_2, h438_3⟩ := h438
                  refine go_retq PM172 (k := 2) (r := some (.inl 0)) (w1 := (SH, dt439)) rfl ?_
                  exact ⟨dt439, rfl, hI440, hF442, (Or.inl ⟨rfl, ⟨by first | exact True.intro | rfl | omega | trivial, by first | exact True.intro | rfl | omega | trivial, by first | exact True.intro | rfl | omega | trivial⟩⟩)⟩
                · skip
                  obtain ⟨h438_0, h438_1, h438_2, h438_3, h438_4, h438_5, h438_6, h438_7, h438_8, h438_9, h438_10⟩ := h438
                  clear h425_3
                  have ee444 : dt426 79 10 = dt 79 10 := by omega
                  rw [ee444] at h438_0 h438_1
                  have BL445 : ∀ j : Nat, (j : Int) < 5 * dt 79 10 → dt439 82 j = dt 82 j := fun j hj => (h438_0 j (blq hj (by decide))).trans (BL432 j hj)
                  have y446 : dt439 82 ((5 * (dt 79 10))).toNat = dt426 82 ((5 * (dt 79 10))).toNat := h438_0 _ (xq0 hL0 (by decide))
                  have y447 : dt439 82 ((5 * (dt 79 10)) + 1).toNat = dt426 82 ((5 * (dt 79 10)) + 1).toNat := h438_0 _ (xq hL0 (by decide) (by decide))
                  have y448 : dt439 82 ((5 * (dt 79 10)) + 3).toNat = dt426 82 ((5 * (dt 79 10)) + 3).toNat := h438_0 _ (xq hL0 (by decide) (by decide))
                  have y449 : dt439 82 ((5 * (dt 79 10)) + 4).toNat = dt426 82 ((5 * (dt 79 10)) + 4).toNat := h438_0 _ (xq hL0 (by decide) (by decide))
                  have y450 := h438_1 ((5 * (dt 79 10)) + 2) rfl
                  refine go_toq PM172 (k := 13) (pc' := 179) (L' := [some (.inr (.inr (some 79))), some (.inl 4)]) (st' := [.inl 3, .inl 3, .inr (.inr (some 79))]) (w' := (SH, dt439)) rfl ?_
                  refine go_callq PM172 PM171 (Q' := _) rfl rfl rfl rfl (sp_X6_argument L xs sio (d + 0) dt439 hI440  3 ⟨by decide, by decide⟩ 3 ⟨by decide, by decide⟩ (by first | exact True.intro | rfl | omega | trivial) (by first | exact True.intro | rfl | omega | trivial)) ?_
                  rintro _ _ ⟨dt452, rfl, hI453, hF454, h451⟩
                  refine ⟨rfl, ?_⟩
                  have hF455 : Fr [79, 82] dt dt452 := Fr_tr hF442 hF454 (by decide)
                  have E84456 : dt452 84 = dt 84 := (funext (hF454 84 (by decide))).trans E84443
                  rcases h451 with ⟨rfl, h451⟩ | ⟨rfl, h451⟩
                  · skip
                    obtain ⟨h451_0, h451_1, h451_2, h451_3⟩ := h451
                    refine go_retq PM172 (k := 2) (r := some (.inl 0)) (w1 := (SH, dt452)) rfl ?_
                    exact ⟨dt452, rfl, hI453, hF455, (Or.inl ⟨rfl, ⟨by first | exact True.intro | rfl | omega | trivial, by first | exact True.intro | rfl | omega | trivial, by first | exact True.intro | rfl | omega | trivial⟩⟩)⟩
                  · skip
                    obtain ⟨h451_0, h451_1, h451_2, h451_3, h451_4, h451_5, h451_6, h451_7, h451_8, h451_9, h451_10⟩ := h451
                    clear h438_3
                    have ee457 : dt439 79 10 = dt 79 10 := by omega
                    rw [ee457] at h451_0 h451_1
                    have BL458 : ∀ j : Nat, (j : Int) < 5 * dt 79 10 → dt452 82 j = dt 82 j := fun j hj => (h451_0 j (blq hj (by decide))).trans (BL445 j hj)
                    have y459 : dt452 82 ((5 * (dt 79 10))).toNat = dt439 82 ((5 * (dt 79 10))).toNat := h451_0 _ (xq0 hL0 (by decide))
                    have y460 : dt452 82 ((5 * (dt 79 10)) + 1).toNat = dt439 82 ((5 * (dt 79 10)) + 1).toNat := h451_0 _ (xq hL0 (by decide) (by decide))
                    have y461 : dt452 82 ((5 * (dt 79 10)) + 2).toNat = dt439 82 ((5 * (dt 79 10)) + 2).toNat := h451_0 _ (xq hL0 (by decide) (by decide))
                    have y462 : dt452 82 ((5 * (dt 79 10)) + 4).toNat = dt439 82 ((5 * (dt 79 10)) + 4).toNat := h451_0 _ (xq hL0 (by decide) (by decide))
                    have y463 := h451_1 ((5 * (dt 79 10)) + 3) rfl
                    refine go_toq PM172 (k := 6) (pc' := 208) (L' := [some (.inr (.inr (some 79))), some (.inl 4)]) (st' := [.inl 159, .inr (.inr (some 79))]) (w' := (SH, dt452)) rfl ?_
                    refine go_callq PM172 PM161 (Q' := _) rfl rfl rfl rfl (sp_X6_need0 L xs sio (d + 1) dt452 hI453  159 ⟨by decide, by decide⟩ (by first | exact True.intro | rfl | omega | trivial)) ?_
                    rintro _ _ ⟨dt465, rfl, hI466, hF467, h464⟩
                    refine ⟨rfl, ?_⟩
                    have hF468 : Fr [79, 82] dt dt465 := Fr_tr hF455 hF467 (by decide)
                    have E84469 : dt465 84 = dt 84 := (funext (hF467 84 (by decide))).trans E84456
                    rcases h464 with ⟨rfl, h464⟩ | ⟨rfl, h464⟩
                    · skip
                      obtain ⟨h464_0, h464_1, h464_2, h464_3⟩ := h464
                      have BL470 : ∀ j : Nat, (j : Int) < 5 * dt 79 10 → dt465 82 j = dt 82 j := fun j hj => (hF467 82 (by decide) j).trans (BL458 j hj)
                      have y471 : dt465 82 ((5 * (dt 79 10))).toNat = dt452 82 ((5 * (dt 79 10))).toNat := hF467 82 (by decide) _
                      have y472 : dt465 82 ((5 * (dt 79 10)) + 1).toNat = dt452 82 ((5 * (dt 79 10)) + 1).toNat := hF467 82 (by decide) _
                      have y473 : dt465 82 ((5 * (dt 79 10)) + 2).toNat = dt452 82 ((5 * (dt 79 10)) + 2).toNat := hF467 82 (by decide) _
                      have y474 : dt465 82 ((5 * (dt 79 10)) + 3).toNat = dt452 82 ((5 * (dt 79 10)) + 3).toNat := hF467 82 (by decide) _
                      have y475 : dt465 82 ((5 * (dt 79 10)) + 4).toNat = dt452 82 ((5 * (dt 79 10)) + 4).toNat := hF467 82 (by decide) _
                      refine go_retq PM172 (k := 0) (r := some (.inl 0)) (w1 := (SH, dt465)) rfl ?_
                      exact ⟨dt465, rfl, hI466, hF468, (Or.inl ⟨rfl, ⟨by first | exact True.intro | rfl | omega | trivial, by first | exact True.intro | rfl | omega | trivial, by first | exact True.intro | rfl | omega | trivial⟩⟩)⟩
                    · skip
                      obtain ⟨h464_0, h464_1, h464_2, h464_3, h464_4, h464_5, h464_6, h464_7, h464_8⟩ := h464
                      clear h451_3
                      have BL476 : ∀ j : Nat, (j : Int) < 5 * dt 79 10 → dt465 82 j = dt 82 j := fun j hj => (hF467 82 (by decide) j).trans (BL458 j hj)
                      have y477 : dt465 82 ((5 * (dt 79 10))).toNat = dt452 82 ((5 * (dt 79 10))).toNat := hF467 82 (by decide) _
                      have y478 : dt465 82 ((5 * (dt 79 10)) + 1).toNat = dt452 82 ((5 * (dt 79 10)) + 1).toNat := hF467 82 (by decide) _
                      have y479 : dt465 82 ((5 * (dt 79 10)) + 2).toNat = dt452 82 ((5 * (dt 79 10)) + 2).toNat := hF467 82 (by decide) _
                      have y480 : dt465 82 ((5 * (dt 79 10)) + 3).toNat = dt452 82 ((5 * (dt 79 10)) + 3).toNat := hF467 82 (by decide) _
                      have y481 : dt465 82 ((5 * (dt 79 10)) + 4).toNat = dt452 82 ((5 * (dt 79 10)) + 4).toNat := hF467 82 (by decide) _
                      refine go_retq PM172 (k := 0) (r := some (.inl 1)) (w1 := (SH, dt465)) rfl ?_
                      exact ⟨dt465, rfl, hI466, hF468, (Or.inr ⟨rfl, ⟨by first | exact True.intro | rfl | omega | trivial, by exact BL476, by unfold aOK; omega, by first | exact True.intro | rfl | omega | trivial, by first | exact True.intro | rfl | omega | trivial, by exact (InvC_get (by assumption) 79 15 rfl rfl).2, by first | exact True.intro | rfl | omega | trivial, by first | exact True.intro | rfl | omega | trivial, by first | exact True.intro | rfl | omega | trivial, by first | exact True.intro | rfl | omega | trivial, by first | exact True.intro | rfl | omega | trivial⟩⟩)⟩
            · skip
              refine go_toq PM172 (k := 2) (pc' := 115) (L' := [some (.inr (.inr (some 79))), some (.inl 4)]) (st' := [.inl 2, .inr (.inr (some 79))]) (w' := (SH, dt350)) rfl ?_
              refine go_callq PM172 PM160 (Q' := _) rfl rfl rfl rfl (sp_X6_bad L xs sio (d + 8) dt350 hI351  2 ⟨by decide, by decide⟩ ) ?_
              rintro _ _ ⟨dt483, rfl, hI484, hF485, h482⟩
              refine ⟨rfl, ?_⟩
              have hF486 : Fr [79, 82] dt dt483 := Fr_tr hF353 hF485 (by decide)
              have E84487 : dt483 84 = dt 84 := (funext (hF485 84 (by decide))).trans E84354
              rcases h482 with ⟨rfl, h482⟩
              obtain ⟨h482_0, h482_1, h482_2, h482_3, h482_4, h482_5⟩ := h482
              have BL488 : ∀ j : Nat, (j : Int) < 5 * dt 79 10 → dt483 82 j = dt 82 j := fun j hj => (hF485 82 (by decide) j).trans (BL356 j hj)
              have y489 : dt483 82 ((5 * (dt 79 10))).toNat = dt350 82 ((5 * (dt 79 10))).toNat := hF485 82 (by decide) _
              have y490 : dt483 82 ((5 * (dt 79 10)) + 1).toNat = dt350 82 ((5 * (dt 79 10)) + 1).toNat := hF485 82 (by decide) _
              have y491 : dt483 82 ((5 * (dt 79 10)) + 2).toNat = dt350 82 ((5 * (dt 79 10)) + 2).toNat := hF485 82 (by decide) _
              have y492 : dt483 82 ((5 * (dt 79 10)) + 3).toNat = dt350 82 ((5 * (dt 79 10)) + 3).toNat := hF485 82 (by decide) _
              have y493 : dt483 82 ((5 * (dt 79 10)) + 4).toNat = dt350 82 ((5 * (dt 79 10)) + 4).toNat := hF485 82 (by decide) _
              refine go_retq PM172 (k := 0) (r := some (.inl 0)) (w1 := (SH, dt483)) rfl ?_
              exact ⟨dt483, rfl, hI484, hF486, (Or.inl ⟨rfl, ⟨by first | exact True.intro | rfl | omega | trivial, by first | exact True.intro | rfl | omega | trivial, by first | exact True.intro | rfl | omega | trivial⟩⟩)⟩
      · rw [hc7]
        refine go_toq PM172 (k := 1) (pc' := 44) (L' := [some (.inr (.inr (some 79))), some (.inl 5)]) (st' := [.inr (.inr (some 79))]) (w' := (SH, dt)) rfl ?_
        refine go_callq PM172 PM159 (Q' := _) rfl rfl rfl rfl (sp_X6_next0 L xs sio (d + 2) dt hI   (by first | exact True.intro | rfl | omega | trivial)) ?_
        rintro _ _ ⟨dt495, rfl, hI496, hF497, h494⟩
        refine ⟨rfl, ?_⟩
        have hF498 : Fr [79, 82] dt dt495 := Fr_tr hF hF497 (by decide)
        have E84499 : dt495 84 = dt 84 := funext (hF497 84 (by decide))
        rcases h494 with ⟨rfl, h494⟩
        obtain ⟨h494_0, h494_1, h494_2, h494_3, h494_4, h494_5, h494_6, h494_7, h494_8⟩ := h494
        have hadv0 : dt 79 15 + 1 ≤ dt 79 13 := by omega
        clear h_p0
        have BL500 : ∀ j : Nat, (j : Int) < 5 * dt 79 10 → dt495 82 j = dt 82 j := fun j hj => (hF497 82 (by decide) j).trans ((fun _ _ => rfl) j hj)
        have y501 : dt495 82 ((5 * (dt 79 10))).toNat = dt 82 ((5 * (dt 79 10))).toNat := hF497 82 (by decide) _
        have y502 : dt495 82 ((5 * (dt 79 10)) + 1).toNat = dt 82 ((5 * (dt 79 10)) + 1).toNat := hF497 82 (by decide) _
        have y503 : dt495 82 ((5 * (dt 79 10)) + 2).toNat = dt 82 ((5 * (dt 79 10)) + 2).toNat := hF497 82 (by decide) _
        have y504 : dt495 82 ((5 * (dt 79 10)) + 3).toNat = dt 82 ((5 * (dt 79 10)) + 3).toNat := hF497 82 (by decide) _
        have y505 : dt495 82 ((5 * (dt 79 10)) + 4).toNat = dt 82 ((5 * (dt 79 10)) + 4).toNat := hF497 82 (by decide) _
        have r506 : 0 ≤ dt495 79 10 ∧ dt495 79 10 ≤ 24 := InvC_get hI496 79 10 rfl rfl
        refine go_toq PM172 (k := 7) (pc' := 58) (L' := [some (.inr (.inr (some 79))), some (.inl 5)]) (st' := [.inl 5, .inl (5 * (dt495 79 10)), .inr (.inr (some 82))]) (w' := (SH, dt495)) rfl ?_
        have hI507 : InvC (u2 dt495 82 ((5 * (dt495 79 10)).toNat) 5) := InvC_u2 hI496 (lo := -2147483648) (hi := 2147483647) rfl rfl rfl (by decide) (by decide)
        have hF508 : Fr [79, 82] dt (u2 dt495 82 ((5 * (dt495 79 10)).toNat) 5) := Fr_u2 hF498 (by decide)
        have w509 : (u2 dt495 82 ((5 * (dt495 79 10)).toNat) 5) 79 2 = dt495 79 2 := rfl
        have w510 : (u2 dt495 82 ((5 * (dt495 79 10)).toNat) 5) 79 9 = dt495 79 9 := rfl
        have w511 : (u2 dt495 82 ((5 * (dt495 79 10)).toNat) 5) 79 10 = dt495 79 10 := rfl
        have w512 : (u2 dt495 82 ((5 * (dt495 79 10)).toNat) 5) 79 11 = dt495 79 11 := rfl
        have w513 : (u2 dt495 82 ((5 * (dt495 79 10)).toNat) 5) 79 12 = dt495 79 12 := rfl
        have w514 : (u2 dt495 82 ((5 * (dt495 79 10)).toNat) 5) 79 13 = dt495 79 13 := rfl
        have w515 : (u2 dt495 82 ((5 * (dt495 79 10)).toNat) 5) 79 14 = dt495 79 14 := rfl
        have w516 : (u2 dt495 82 ((5 * (dt495 79 10)).toNat) 5) 79 15 = dt495 79 15 := rfl
        have w517 : (u2 dt495 82 ((5 * (dt495 79 10)).toNat) 5) 79 16 = dt495 79 16 := rfl
        have w518 : (u2 dt495 82 ((5 * (dt495 79 10)).toNat) 5) 79 20 = dt495 79 20 := rfl
        have E84519 : (u2 dt495 82 ((5 * (dt495 79 10)).toNat) 5) 84 = dt 84 := (funext fun _ => rfl).trans E84499
        have ex521 : ((5 * (dt 79 10))).toNat = (5 * (dt495 79 10)).toNat := by omega
        have BL520 : ∀ j : Nat, (j : Int) < 5 * dt 79 10 → (u2 dt495 82 ((5 * (dt495 79 10)).toNat) 5) 82 j = dt 82 j := fun j hj => (u2_ne (by omega)).trans (BL500 j hj)
        have y522 : (u2 dt495 82 ((5 * (dt495 79 10)).toNat) 5) 82 ((5 * (dt 79 10))).toNat = 5 := by rw [ex521]; exact u2_eq
        have y523 : (u2 dt495 82 ((5 * (dt495 79 10)).toNat) 5) 82 ((5 * (dt 79 10)) + 1).toNat = dt495 82 ((5 * (dt 79 10)) + 1).toNat := u2_ne (by omega)
        have y524 : (u2 dt495 82 ((5 * (dt495 79 10)).toNat) 5) 82 ((5 * (dt 79 10)) + 2).toNat = dt495 82 ((5 * (dt 79 10)) + 2).toNat := u2_ne (by omega)
        have y525 : (u2 dt495 82 ((5 * (dt495 79 10)).toNat) 5) 82 ((5 * (dt 79 10)) + 3).toNat = dt495 82 ((5 * (dt 79 10)) + 3).toNat := u2_ne (by omega)
        have y526 : (u2 dt495 82 ((5 * (dt495 79 10)).toNat) 5) 82 ((5 * (dt 79 10)) + 4).toNat = dt495 82 ((5 * (dt 79 10)) + 4).toNat := u2_ne (by omega)
        refine go_smpq PM172 (L' := [some (.inr (.inr (some 79))), some (.inl 5)]) (st' := []) (w' := (SH, (u2 dt495 82 ((5 * (dt495 79 10)).toNat) 5))) rfl rfl (s_iast (n := 120) rfl ⟨by omega, by omega⟩ ⟨by decide, by decide⟩) ?_
        refine go_toq PM172 (k := 6) (pc' := 72) (L' := [some (.inr (.inr (some 79))), some (.inl 5)]) (st' := [.inl 3, .inl 1, .inr (.inr (some 79))]) (w' := (SH, (u2 dt495 82 ((5 * (dt495 79 10)).toNat) 5))) rfl ?_
        refine go_callq PM172 PM171 (Q' := _) rfl rfl rfl rfl (sp_X6_argument L xs sio (d + 0) (u2 dt495 82 ((5 * (dt495 79 10)).toNat) 5) hI507  1 ⟨by decide, by decide⟩ 3 ⟨by decide, by decide⟩ (by first | exact True.intro | rfl | omega | trivial) (by first | exact True.intro | rfl | omega | trivial)) ?_
        rintro _ _ ⟨dt528, rfl, hI529, hF530, h527⟩
        refine ⟨rfl, ?_⟩
        have hF531 : Fr [79, 82] dt dt528 := Fr_tr hF508 hF530 (by decide)
        have E84532 : dt528 84 = dt 84 := (funext (hF530 84 (by decide))).trans E84519
        rcases h527 with ⟨rfl, h527⟩ | ⟨rfl, h527⟩
        · skip
          obtain ⟨h527_0, h527_1, h527_2, h527_3⟩ := h527
          refine go_retq PM172 (k := 2) (r := some (.inl 0)) (w1 := (SH, dt528)) rfl ?_
          exact ⟨dt528, rfl, hI529, hF531, (Or.inl ⟨rfl, ⟨by first | exact True.intro | rfl | omega | trivial, by first | exact True.intro | rfl | omega | trivial, by first | exact True.intro | rfl | omega | trivial⟩⟩)⟩
        · skip
          obtain ⟨h527_0, h527_1, h527_2, h527_3, h527_4, h527_5, h527_6, h527_7, h527_8, h527_9, h527_10⟩ := h527
          clear h494_1
          have ee533 : (u2 dt495 82 ((5 * (dt495 79 10)).toNat) 5) 79 10 = dt 79 10 := by omega
          rw [ee533] at h527_0 h527_1
          have BL534 : ∀ j : Nat, (j : Int) < 5 * dt 79 10 → dt528 82 j = dt 82 j := fun j hj => (h527_0 j (blq hj (by decide))).trans (BL520 j hj)
          have y535 : dt528 82 ((5 * (dt 79 10))).toNat = (u2 dt495 82 ((5 * (dt495 79 10)).toNat) 5) 82 ((5 * (dt 79 10))).toNat := h527_0 _ (xq0 hL0 (by decide))
          have y536 : dt528 82 ((5 * (dt 79 10)) + 2).toNat = (u2 dt495 82 ((5 * (dt495 79 10)).toNat) 5) 82 ((5 * (dt 79 10)) + 2).toNat := h527_0 _ (xq hL0 (by decide) (by decide))
          have y537 : dt528 82 ((5 * (dt 79 10)) + 3).toNat = (u2 dt495 82 ((5 * (dt495 79 10)).toNat) 5) 82 ((5 * (dt 79 10)) + 3).toNat := h527_0 _ (xq hL0 (by decide) (by decide))
          have y538 : dt528 82 ((5 * (dt 79 10)) + 4).toNat = (u2 dt495 82 ((5 * (dt495 79 10)).toNat) 5) 82 ((5 * (dt 79 10)) + 4).toNat := h527_0 _ (xq hL0 (by decide) (by decide))
          have y539 := h527_1 ((5 * (dt 79 10)) + 1) rfl
          refine go_toq PM172 (k := 28) (pc' := 179) (L' := [some (.inr (.inr (some 79))), some (.inl 5)]) (st' := [.inl 3, .inl 3, .inr (.inr (some 79))]) (w' := (SH, dt528)) rfl ?_
          refine go_callq PM172 PM171 (Q' := _) rfl rfl rfl rfl (sp_X6_argument L xs sio (d + 0) dt528 hI529  3 ⟨by decide, by decide⟩ 3 ⟨by decide, by decide⟩ (by first | exact True.intro | rfl | omega | trivial) (by first | exact True.intro | rfl | omega | trivial)) ?_
          rintro _ _ ⟨dt541, rfl, hI542, hF543, h540⟩
          refine ⟨rfl, ?_⟩
          have hF544 : Fr [79, 82] dt dt541 := Fr_tr hF531 hF543 (by decide)
          have E84545 : dt541 84 = dt 84 := (funext (hF543 84 (by decide))).trans E84532
          rcases h540 with ⟨rfl, h540⟩ | ⟨rfl, h540⟩
          · skip
            obtain ⟨h540_0, h540_1, h540_2, h540_3⟩ := h540
            refine go_retq PM172 (k := 2) (r := some (.inl 0)) (w1 := (SH, dt541)) rfl ?_
            exact ⟨dt541, rfl, hI542, hF544, (Or.inl ⟨rfl, ⟨by first | exact True.intro | rfl | omega | trivial, by first | exact True.intro | rfl | omega | trivial, by first | exact True.intro | rfl | omega | trivial⟩⟩)⟩
          · skip
            obtain ⟨h540_0, h540_1, h540_2, h540_3, h540_4, h540_5, h540_6, h540_7, h540_8, h540_9, h540_10⟩ := h540
            clear h527_3
            have ee546 : dt528 79 10 = dt 79 10 := by omega
            rw [ee546] at h540_0 h540_1
            have BL547 : ∀ j : Nat, (j : Int) < 5 * dt 79 10 → dt541 82 j = dt 82 j := fun j hj => (h540_0 j (blq hj (by decide))).trans (BL534 j hj)
            have y548 : dt541 82 ((5 * (dt 79 10))).toNat = dt528 82 ((5 * (dt 79 10))).toNat := h540_0 _ (xq0 hL0 (by decide))
            have y549 : dt541 82 ((5 * (dt 79 10)) + 1).toNat = dt528 82 ((5 * (dt 79 10)) + 1).toNat := h540_0 _ (xq hL0 (by decide) (by decide))
            have y550 : dt541 82 ((5 * (dt 79 10)) + 2).toNat = dt528 82 ((5 * (dt 79 10)) + 2).toNat := h540_0 _ (xq hL0 (by decide) (by decide))
            have y551 : dt541 82 ((5 * (dt 79 10)) + 4).toNat = dt528 82 ((5 * (dt 79 10)) + 4).toNat := h540_0 _ (xq hL0 (by decide) (by decide))
            have y552 := h540_1 ((5 * (dt 79 10)) + 3) rfl
            refine go_toq PM172 (k := 6) (pc' := 208) (L' := [some (.inr (.inr (some 79))), some (.inl 5)]) (st' := [.inl 159, .inr (.inr (some 79))]) (w' := (SH, dt541)) rfl ?_
            refine go_callq PM172 PM161 (Q' := _) rfl rfl rfl rfl (sp_X6_need0 L xs sio (d + 1) dt541 hI542  159 ⟨by decide, by decide⟩ (by first | exact True.intro | rfl | omega | trivial)) ?_
            rintro _ _ ⟨dt554, rfl, hI555, hF556, h553⟩
            refine ⟨rfl, ?_⟩
            have hF557 : Fr [79, 82] dt dt554 := Fr_tr hF544 hF556 (by decide)
            have E84558 : dt554 84 = dt 84 := (funext (hF556 84 (by decide))).trans E84545
            rcases h553 with ⟨rfl, h553⟩ | ⟨rfl, h553⟩
            · skip
              obtain ⟨h553_0, h553_1, h553_2, h553_3⟩ := h553
              have BL559 : ∀ j : Nat, (j : Int) < 5 * dt 79 10 → dt554 82 j = dt 82 j := fun j hj => (hF556 82 (by decide) j).trans (BL547 j hj)
              have y560 : dt554 82 ((5 * (dt 79 10))).toNat = dt541 82 ((5 * (dt 79 10))).toNat := hF556 82 (by decide) _
              have y561 : dt554 82 ((5 * (dt 79 10)) + 1).toNat = dt541 82 ((5 * (dt 79 10)) + 1).toNat := hF556 82 (by decide) _
              have y562 : dt554 82 ((5 * (dt 79 10)) + 2).toNat = dt541 82 ((5 * (dt 79 10)) + 2).toNat := hF556 82 (by decide) _
              have y563 : dt554 82 ((5 * (dt 79 10)) + 3).toNat = dt541 82 ((5 * (dt 79 10)) + 3).toNat := hF556 82 (by decide) _
              have y564 : dt554 82 ((5 * (dt 79 10)) + 4).toNat = dt541 82 ((5 * (dt 79 10)) + 4).toNat := hF556 82 (by decide) _
              refine go_retq PM172 (k := 0) (r := some (.inl 0)) (w1 := (SH, dt554)) rfl ?_
              exact ⟨dt554, rfl, hI555, hF557, (Or.inl ⟨rfl, ⟨by first | exact True.intro | rfl | omega | trivial, by first | exact True.intro | rfl | omega | trivial, by first | exact True.intro | rfl | omega | trivial⟩⟩)⟩
            · skip
              obtain ⟨h553_0, h553_1, h553_2, h553_3, h553_4, h553_5, h553_6, h553_7, h553_8⟩ := h553
              clear h540_3
              have BL565 : ∀ j : Nat, (j : Int) < 5 * dt 79 10 → dt554 82 j = dt 82 j := fun j hj => (hF556 82 (by decide) j).trans (BL547 j hj)
              have y566 : dt554 82 ((5 * (dt 79 10))).toNat = dt541 82 ((5 * (dt 79 10))).toNat := hF556 82 (by decide) _
              have y567 : dt554 82 ((5 * (dt 79 10)) + 1).toNat = dt541 82 ((5 * (dt 79 10)) + 1).toNat := hF556 82 (by decide) _
              have y568 : dt554 82 ((5 * (dt 79 10)) + 2).toNat = dt541 82 ((5 * (dt 79 10)) + 2).toNat := hF556 82 (by decide) _
              have y569 : dt554 82 ((5 * (dt 79 10)) + 3).toNat = dt541 82 ((5 * (dt 79 10)) + 3).toNat := hF556 82 (by decide) _
              have y570 : dt554 82 ((5 * (dt 79 10)) + 4).toNat = dt541 82 ((5 * (dt 79 10)) + 4).toNat := hF556 82 (by decide) _
              refine go_retq PM172 (k := 0) (r := some (.inl 1)) (w1 := (SH, dt554)) rfl ?_
              exact ⟨dt554, rfl, hI555, hF557, (Or.inr ⟨rfl, ⟨by first | exact True.intro | rfl | omega | trivial, by exact BL565, by unfold aOK; omega, by first | exact True.intro | rfl | omega | trivial, by first | exact True.intro | rfl | omega | trivial, by exact (InvC_get (by assumption) 79 15 rfl rfl).2, by first | exact True.intro | rfl | omega | trivial, by first | exact True.intro | rfl | omega | trivial, by first | exact True.intro | rfl | omega | trivial, by first | exact True.intro | rfl | omega | trivial, by first | exact True.intro | rfl | omega | trivial⟩⟩)⟩
      · rw [hc7]
        refine go_toq PM172 (k := 1) (pc' := 44) (L' := [some (.inr (.inr (some 79))), some (.inl 6)]) (st' := [.inr (.inr (some 79))]) (w' := (SH, dt)) rfl ?_
        refine go_callq PM172 PM159 (Q' := _) rfl rfl rfl rfl (sp_X6_next0 L xs sio (d + 2) dt hI   (by first | exact True.intro | rfl | omega | trivial)) ?_
        rintro _ _ ⟨dt572, rfl, hI573, hF574, h571⟩
        refine ⟨rfl, ?_⟩
        have hF575 : Fr [79, 82] dt dt572 := Fr_tr hF hF574 (by decide)
        have E84576 : dt572 84 = dt 84 := funext (hF574 84 (by decide))
        rcases h571 with ⟨rfl, h571⟩
        obtain ⟨h571_0, h571_1, h571_2, h571_3, h571_4, h571_5, h571_6, h571_7, h571_8⟩ := h571
        have hadv0 : dt 79 15 + 1 ≤ dt 79 13 := by omega
        clear h_p0
        have BL577 : ∀ j : Nat, (j : Int) < 5 * dt 79 10 → dt572 82 j = dt 82 j := fun j hj => (hF574 82 (by decide) j).trans ((fun _ _ => rfl) j hj)
        have y578 : dt572 82 ((5 * (dt 79 10))).toNat = dt 82 ((5 * (dt 79 10))).toNat := hF574 82 (by decide) _
        have y579 : dt572 82 ((5 * (dt 79 10)) + 1).toNat = dt 82 ((5 * (dt 79 10)) + 1).toNat := hF574 82 (by decide) _
        have y580 : dt572 82 ((5 * (dt 79 10)) + 2).toNat = dt 82 ((5 * (dt 79 10)) + 2).toNat := hF574 82 (by decide) _
        have y581 : dt572 82 ((5 * (dt 79 10)) + 3).toNat = dt 82 ((5 * (dt 79 10)) + 3).toNat := hF574 82 (by decide) _
        have y582 : dt572 82 ((5 * (dt 79 10)) + 4).toNat = dt 82 ((5 * (dt 79 10)) + 4).toNat := hF574 82 (by decide) _
        have r583 : 0 ≤ dt572 79 10 ∧ dt572 79 10 ≤ 24 := InvC_get hI573 79 10 rfl rfl
        refine go_toq PM172 (k := 7) (pc' := 58) (L' := [some (.inr (.inr (some 79))), some (.inl 6)]) (st' := [.inl 6, .inl (5 * (dt572 79 10)), .inr (.inr (some 82))]) (w' := (SH, dt572)) rfl ?_
        have hI584 : InvC (u2 dt572 82 ((5 * (dt572 79 10)).toNat) 6) := InvC_u2 hI573 (lo := -2147483648) (hi := 2147483647) rfl rfl rfl (by decide) (by decide)
        have hF585 : Fr [79, 82] dt (u2 dt572 82 ((5 * (dt572 79 10)).toNat) 6) := Fr_u2 hF575 (by decide)
        have w586 : (u2 dt572 82 ((5 * (dt572 79 10)).toNat) 6) 79 2 = dt572 79 2 := rfl
        have w587 : (u2 dt572 82 ((5 * (dt572 79 10)).toNat) 6) 79 9 = dt572 79 9 := rfl
        have w588 : (u2 dt572 82 ((5 * (dt572 79 10)).toNat) 6) 79 10 = dt572 79 10 := rfl
        have w589 : (u2 dt572 82 ((5 * (dt572 79 10)).toNat) 6) 79 11 = dt572 79 11 := rfl
        have w590 : (u2 dt572 82 ((5 * (dt572 79 10)).toNat) 6) 79 12 = dt572 79 12 := rfl
        have w591 : (u2 dt572 82 ((5 * (dt572 79 10)).toNat) 6) 79 13 = dt572 79 13 := rfl
        have w592 : (u2 dt572 82 ((5 * (dt572 79 10)).toNat) 6) 79 14 = dt572 79 14 := rfl
        have w593 : (u2 dt572 82 ((5 * (dt572 79 10)).toNat) 6) 79 15 = dt572 79 15 := rfl
        have w594 : (u2 dt572 82 ((5 * (dt572 79 10)).toNat) 6) 79 16 = dt572 79 16 := rfl
        have w595 : (u2 dt572 82 ((5 * (dt572 79 10)).toNat) 6) 79 20 = dt572 79 20 := rfl
        have E84596 : (u2 dt572 82 ((5 * (dt572 79 10)).toNat) 6) 84 = dt 84 := (funext fun _ => rfl).trans E84576
        have ex598 : ((5 * (dt 79 10))).toNat = (5 * (dt572 79 10)).toNat := by omega
        have BL597 : ∀ j : Nat, (j : Int) < 5 * dt 79 10 → (u2 dt572 82 ((5 * (dt572 79 10)).toNat) 6) 82 j = dt 82 j := fun j hj => (u2_ne (by omega)).trans (BL577 j hj)
        have y599 : (u2 dt572 82 ((5 * (dt572 79 10)).toNat) 6) 82 ((5 * (dt 79 10))).toNat = 6 := by rw [ex598]; exact u2_eq
        have y600 : (u2 dt572 82 ((5 * (dt572 79 10)).toNat) 6) 82 ((5 * (dt 79 10)) + 1).toNat = dt572 82 ((5 * (dt 79 10)) + 1).toNat := u2_ne (by omega)
        have y601 : (u2 dt572 82 ((5 * (dt572 79 10)).toNat) 6) 82 ((5 * (dt 79 10)) + 2).toNat = dt572 82 ((5 * (dt 79 10)) + 2).toNat := u2_ne (by omega)
        have y602 : (u2 dt572 82 ((5 * (dt572 79 10)).toNat) 6) 82 ((5 * (dt 79 10)) + 3).toNat = dt572 82 ((5 * (dt 79 10)) + 3).toNat := u2_ne (by omega)
        have y603 : (u2 dt572 82 ((5 * (dt572 79 10)).toNat) 6) 82 ((5 * (dt 79 10)) + 4).toNat = dt572 82 ((5 * (dt 79 10)) + 4).toNat := u2_ne (by omega)
        refine go_smpq PM172 (L' := [some (.inr (.inr (some 79))), some (.inl 6)]) (st' := []) (w' := (SH, (u2 dt572 82 ((5 * (dt572 79 10)).toNat) 6))) rfl rfl (s_iast (n := 120) rfl ⟨by omega, by omega⟩ ⟨by decide, by decide⟩) ?_
        refine go_toq PM172 (k := 6) (pc' := 72) (L' := [some (.inr (.inr (some 79))), some (.inl 6)]) (st' := [.inl 3, .inl 1, .inr (.inr (some 79))]) (w' := (SH, (u2 dt572 82 ((5 * (dt572 79 10)).toNat) 6))) rfl ?_
        refine go_callq PM172 PM171 (Q' := _) rfl rfl rfl rfl (sp_X6_argument L xs sio (d + 0) (u2 dt572 82 ((5 * (dt572 79 10)).toNat) 6) hI584  1 ⟨by decide, by decide⟩ 3 ⟨by decide, by decide⟩ (by first | exact True.intro | rfl | omega | trivial) (by first | exact True.intro | rfl | omega | trivial)) ?_
        rintro _ _ ⟨dt605, rfl, hI606, hF607, h604⟩
        refine ⟨rfl, ?_⟩
        have hF608 : Fr [79, 82] dt dt605 := Fr_tr hF585 hF607 (by decide)
        have E84609 : dt605 84 = dt 84 := (funext (hF607 84 (by decide))).trans E84596
        rcases h604 with ⟨rfl, h604⟩ | ⟨rfl, h604⟩
        · skip
          obtain ⟨h604_0, h604_1, h604_2, h604_3⟩ := h604
          refine go_retq PM172 (k := 2) (r := some (.inl 0)) (w1 := (SH, dt605)) rfl ?_
          exact ⟨dt605, rfl, hI606, hF608, (Or.inl ⟨rfl, ⟨by first | exact True.intro | rfl | omega | trivial, by first | exact True.intro | rfl | omega | trivial, by first | exact True.intro | rfl | omega | trivial⟩⟩)⟩
        · skip
          obtain ⟨h604_0, h604_1, h604_2, h604_3, h604_4, h604_5, h604_6, h604_7, h604_8, h604_9, h604_10⟩ := h604
          clear h571_1
          have ee610 : (u2 dt572 82 ((5 * (dt572 79 10)).toNat) 6) 79 10 = dt 79 10 := by omega
          rw [ee610] at h604_0 h604_1
          have BL611 : ∀ j : Nat, (j : Int) < 5 * dt 79 10 → dt605 82 j = dt 82 j := fun j hj => (h604_0 j (blq hj (by decide))).trans (BL597 j hj)
          have y612 : dt605 82 ((5 * (dt 79 10))).toNat = (u2 dt572 82 ((5 * (dt572 79 10)).toNat) 6) 82 ((5 * (dt 79 10))).toNat := h604_0 _ (xq0 hL0 (by decide))
          have y613 : dt605 82 ((5 * (dt 79 10)) + 2).toNat = (u2 dt572 82 ((5 * (dt572 79 10)).toNat) 6) 82 ((5 * (dt 79 10)) + 2).toNat := h604_0 _ (xq hL0 (by decide) (by decide))
          have y614 : dt605 82 ((5 * (dt 79 10)) + 3).toNat = (u2 dt572 82 ((5 * (dt572 79 10)).toNat) 6) 82 ((5 * (dt 79 10)) + 3).toNat := h604_0 _ (xq hL0 (by decide) (by decide))
          have y615 : dt605 82 ((5 * (dt 79 10)) + 4).toNat = (u2 dt572 82 ((5 * (dt572 79 10)).toNat) 6) 82 ((5 * (dt 79 10)) + 4).toNat := h604_0 _ (xq hL0 (by decide) (by decide))
          have y616 := h604_1 ((5 * (dt 79 10)) + 1) rfl
          refine go_toq PM172 (k := 31) (pc' := 196) (L' := [some (.inr (.inr (some 79))), some (.inl 6)]) (st' := [.inl 1, .inl 3, .inr (.inr (some 79))]) (w' := (SH, dt605)) rfl ?_
          refine go_callq PM172 PM171 (Q' := _) rfl rfl rfl rfl (sp_X6_argument L xs sio (d + 0) dt605 hI606  3 ⟨by decide, by decide⟩ 1 ⟨by decide, by decide⟩ (by first | exact True.intro | rfl | omega | trivial) (by first | exact True.intro | rfl | omega | trivial)) ?_
          rintro _ _ ⟨dt618, rfl, hI619, hF620, h617⟩
          refine ⟨rfl, ?_⟩
          have hF621 : Fr [79, 82] dt dt618 := Fr_tr hF608 hF620 (by decide)
          have E84622 : dt618 84 = dt 84 := (funext (hF620 84 (by decide))).trans E84609
          rcases h617 with ⟨rfl, h617⟩ | ⟨rfl, h617⟩
          · skip
            obtain ⟨h617_0, h617_1, h617_2, h617_3⟩ := h617
            refine go_retq PM172 (k := 2) (r := some (.inl 0)) (w1 := (SH, dt618)) rfl ?_
            exact ⟨dt618, rfl, hI619, hF621, (Or.inl ⟨rfl, ⟨by first | exact True.intro | rfl | omega | trivial, by first | exact True.intro | rfl | omega | trivial, by first | exact True.intro | rfl | omega | trivial⟩⟩)⟩
          · skip
            obtain ⟨h617_0, h617_1, h617_2, h617_3, h617_4, h617_5, h617_6, h617_7, h617_8, h617_9, h617_10⟩ := h617
            clear h604_3
            have ee623 : dt605 79 10 = dt 79 10 := by omega
            rw [ee623] at h617_0 h617_1
            have BL624 : ∀ j : Nat, (j : Int) < 5 * dt 79 10 → dt618 82 j = dt 82 j := fun j hj => (h617_0 j (blq hj (by decide))).trans (BL611 j hj)
            have y625 : dt618 82 ((5 * (dt 79 10))).toNat = dt605 82 ((5 * (dt 79 10))).toNat := h617_0 _ (xq0 hL0 (by decide))
            have y626 : dt618 82 ((5 * (dt 79 10)) + 1).toNat = dt605 82 ((5 * (dt 79 10)) + 1).toNat := h617_0 _ (xq hL0 (by decide) (by decide))
            have y627 : dt618 82 ((5 * (dt 79 10)) + 2).toNat = dt605 82 ((5 * (dt 79 10)) + 2).toNat := h617_0 _ (xq hL0 (by decide) (by decide))
            have y628 : dt618 82 ((5 * (dt 79 10)) + 4).toNat = dt605 82 ((5 * (dt 79 10)) + 4).toNat := h617_0 _ (xq hL0 (by decide) (by decide))
            have y629 := h617_1 ((5 * (dt 79 10)) + 3) rfl
            refine go_toq PM172 (k := 3) (pc' := 208) (L' := [some (.inr (.inr (some 79))), some (.inl 6)]) (st' := [.inl 159, .inr (.inr (some 79))]) (w' := (SH, dt618)) rfl ?_
            refine go_callq PM172 PM161 (Q' := _) rfl rfl rfl rfl (sp_X6_need0 L xs sio (d + 1) dt618 hI619  159 ⟨by decide, by decide⟩ (by first | exact True.intro | rfl | omega | trivial)) ?_
            rintro _ _ ⟨dt631, rfl, hI632, hF633, h630⟩
            refine ⟨rfl, ?_⟩
            have hF634 : Fr [79, 82] dt dt631 := Fr_tr hF621 hF633 (by decide)
            have E84635 : dt631 84 = dt 84 := (funext (hF633 84 (by decide))).trans E84622
            rcases h630 with ⟨rfl, h630⟩ | ⟨rfl, h630⟩
            · skip
              obtain ⟨h630_0, h630_1, h630_2, h630_3⟩ := h630
              have BL636 : ∀ j : Nat, (j : Int) < 5 * dt 79 10 → dt631 82 j = dt 82 j := fun j hj => (hF633 82 (by decide) j).trans (BL624 j hj)
              have y637 : dt631 82 ((5 * (dt 79 10))).toNat = dt618 82 ((5 * (dt 79 10))).toNat := hF633 82 (by decide) _
              have y638 : dt631 82 ((5 * (dt 79 10)) + 1).toNat = dt618 82 ((5 * (dt 79 10)) + 1).toNat := hF633 82 (by decide) _
              have y639 : dt631 82 ((5 * (dt 79 10)) + 2).toNat = dt618 82 ((5 * (dt 79 10)) + 2).toNat := hF633 82 (by decide) _
              have y640 : dt631 82 ((5 * (dt 79 10)) + 3).toNat = dt618 82 ((5 * (dt 79 10)) + 3).toNat := hF633 82 (by decide) _
              have y641 : dt631 82 ((5 * (dt 79 10)) + 4).toNat = dt618 82 ((5 * (dt 79 10)) + 4).toNat := hF633 82 (by decide) _
              refine go_retq PM172 (k := 0) (r := some (.inl 0)) (w1 := (SH, dt631)) rfl ?_
              exact ⟨dt631, rfl, hI632, hF634, (Or.inl ⟨rfl, ⟨by first | exact True.intro | rfl | omega | trivial, by first | exact True.intro | rfl | omega | trivial, by first | exact True.intro | rfl | omega | trivial⟩⟩)⟩
            · skip
              obtain ⟨h630_0, h630_1, h630_2, h630_3, h630_4, h630_5, h630_6, h630_7, h630_8⟩ := h630
              clear h617_3
              have BL642 : ∀ j : Nat, (j : Int) < 5 * dt 79 10 → dt631 82 j = dt 82 j := fun j hj => (hF633 82 (by decide) j).trans (BL624 j hj)
              have y643 : dt631 82 ((5 * (dt 79 10))).toNat = dt618 82 ((5 * (dt 79 10))).toNat := hF633 82 (by decide) _
              have y644 : dt631 82 ((5 * (dt 79 10)) + 1).toNat = dt618 82 ((5 * (dt 79 10)) + 1).toNat := hF633 82 (by decide) _
              have y645 : dt631 82 ((5 * (dt 79 10)) + 2).toNat = dt618 82 ((5 * (dt 79 10)) + 2).toNat := hF633 82 (by decide) _
              have y646 : dt631 82 ((5 * (dt 79 10)) + 3).toNat = dt618 82 ((5 * (dt 79 10)) + 3).toNat := hF633 82 (by decide) _
              have y647 : dt631 82 ((5 * (dt 79 10)) + 4).toNat = dt618 82 ((5 * (dt 79 10)) + 4).toNat := hF633 82 (by decide) _
              refine go_retq PM172 (k := 0) (r := some (.inl 1)) (w1 := (SH, dt631)) rfl ?_
              exact ⟨dt631, rfl, hI632, hF634, (Or.inr ⟨rfl, ⟨by first | exact True.intro | rfl | omega | trivial, by exact BL642, by unfold aOK; omega, by first | exact True.intro | rfl | omega | trivial, by first | exact True.intro | rfl | omega | trivial, by exact (InvC_get (by assumption) 79 15 rfl rfl).2, by first | exact True.intro | rfl | omega | trivial, by first | exact True.intro | rfl | omega | trivial, by first | exact True.intro | rfl | omega | trivial, by first | exact True.intro | rfl | omega | trivial, by first | exact True.intro | rfl | omega | trivial⟩⟩)⟩
      · rw [hc7]
        refine go_toq PM172 (k := 1) (pc' := 44) (L' := [some (.inr (.inr (some 79))), some (.inl 7)]) (st' := [.inr (.inr (some 79))]) (w' := (SH, dt)) rfl ?_
        refine go_callq PM172 PM159 (Q' := _) rfl rfl rfl rfl (sp_X6_next0 L xs sio (d + 2) dt hI   (by first | exact True.intro | rfl | omega | trivial)) ?_
        rintro _ _ ⟨dt649, rfl, hI650, hF651, h648⟩
        refine ⟨rfl, ?_⟩
        have hF652 : Fr [79, 82] dt dt649 := Fr_tr hF hF651 (by decide)
        have E84653 : dt649 84 = dt 84 := funext (hF651 84 (by decide))
        rcases h648 with ⟨rfl, h648⟩
        obtain ⟨h648_0, h648_1, h648_2, h648_3, h648_4, h648_5, h648_6, h648_7, h648_8⟩ := h648
        have hadv0 : dt 79 15 + 1 ≤ dt 79 13 := by omega
        clear h_p0
        have BL654 : ∀ j : Nat, (j : Int) < 5 * dt 79 10 → dt649 82 j = dt 82 j := fun j hj => (hF651 82 (by decide) j).trans ((fun _ _ => rfl) j hj)
        have y655 : dt649 82 ((5 * (dt 79 10))).toNat = dt 82 ((5 * (dt 79 10))).toNat := hF651 82 (by decide) _
        have y656 : dt649 82 ((5 * (dt 79 10)) + 1).toNat = dt 82 ((5 * (dt 79 10)) + 1).toNat := hF651 82 (by decide) _
        have y657 : dt649 82 ((5 * (dt 79 10)) + 2).toNat = dt 82 ((5 * (dt 79 10)) + 2).toNat := hF651 82 (by decide) _
        have y658 : dt649 82 ((5 * (dt 79 10)) + 3).toNat = dt 82 ((5 * (dt 79 10)) + 3).toNat := hF651 82 (by decide) _
        have y659 : dt649 82 ((5 * (dt 79 10)) + 4).toNat = dt 82 ((5 * (dt 79 10)) + 4).toNat := hF651 82 (by decide) _
        have r660 : 0 ≤ dt649 79 10 ∧ dt649 79 10 ≤ 24 := InvC_get hI650 79 10 rfl rfl
        refine go_toq PM172 (k := 7) (pc' := 58) (L' := [some (.inr (.inr (some 79))), some (.inl 7)]) (st' := [.inl 7, .inl (5 * (dt649 79 10)), .inr (.inr (some 82))]) (w' := (SH, dt649)) rfl ?_
        have hI661 : InvC (u2 dt649 82 ((5 * (dt649 79 10)).toNat) 7) := InvC_u2 hI650 (lo := -2147483648) (hi := 2147483647) rfl rfl rfl (by decide) (by decide)
        have hF662 : Fr [79, 82] dt (u2 dt649 82 ((5 * (dt649 79 10)).toNat) 7) := Fr_u2 hF652 (by decide)
        have w663 : (u2 dt649 82 ((5 * (dt649 79 10)).toNat) 7) 79 2 = dt649 79 2 := rfl
        have w664 : (u2 dt649 82 ((5 * (dt649 79 10)).toNat) 7) 79 9 = dt649 79 9 := rfl
        have w665 : (u2 dt649 82 ((5 * (dt649 79 10)).toNat) 7) 79 10 = dt649 79 10 := rfl
        have w666 : (u2 dt649 82 ((5 * (dt649 79 10)).toNat) 7) 79 11 = dt649 79 11 := rfl
        have w667 : (u2 dt649 82 ((5 * (dt649 79 10)).toNat) 7) 79 12 = dt649 79 12 := rfl
        have w668 : (u2 dt649 82 ((5 * (dt649 79 10)).toNat) 7) 79 13 = dt649 79 13 := rfl
        have w669 : (u2 dt649 82 ((5 * (dt649 79 10)).toNat) 7) 79 14 = dt649 79 14 := rfl
        have w670 : (u2 dt649 82 ((5 * (dt649 79 10)).toNat) 7) 79 15 = dt649 79 15 := rfl
        have w671 : (u2 dt649 82 ((5 * (dt649 79 10)).toNat) 7) 79 16 = dt649 79 16 := rfl
        have w672 : (u2 dt649 82 ((5 * (dt649 79 10)).toNat) 7) 79 20 = dt649 79 20 := rfl
        have E84673 : (u2 dt649 82 ((5 * (dt649 79 10)).toNat) 7) 84 = dt 84 := (funext fun _ => rfl).trans E84653
        have ex675 : ((5 * (dt 79 10))).toNat = (5 * (dt649 79 10)).toNat := by omega
        have BL674 : ∀ j : Nat, (j : Int) < 5 * dt 79 10 → (u2 dt649 82 ((5 * (dt649 79 10)).toNat) 7) 82 j = dt 82 j := fun j hj => (u2_ne (by omega)).trans (BL654 j hj)
        have y676 : (u2 dt649 82 ((5 * (dt649 79 10)).toNat) 7) 82 ((5 * (dt 79 10))).toNat = 7 := by rw [ex675]; exact u2_eq
        have y677 : (u2 dt649 82 ((5 * (dt649 79 10)).toNat) 7) 82 ((5 * (dt 79 10)) + 1).toNat = dt649 82 ((5 * (dt 79 10)) + 1).toNat := u2_ne (by omega)
        have y678 : (u2 dt649 82 ((5 * (dt649 79 10)).toNat) 7) 82 ((5 * (dt 79 10)) + 2).toNat = dt649 82 ((5 * (dt 79 10)) + 2).toNat := u2_ne (by omega)
        have y679 : (u2 dt649 82 ((5 * (dt649 79 10)).toNat) 7) 82 ((5 * (dt 79 10)) + 3).toNat = dt649 82 ((5 * (dt 79 10)) + 3).toNat := u2_ne (by omega)
        have y680 : (u2 dt649 82 ((5 * (dt649 79 10)).toNat) 7) 82 ((5 * (dt 79 10)) + 4).toNat = dt649 82 ((5 * (dt 79 10)) + 4).toNat := u2_ne (by omega)
        refine go_smpq PM172 (L' := [some (.inr (.inr (some 79))), some (.inl 7)]) (st' := []) (w' := (SH, (u2 dt649 82 ((5 * (dt649 79 10)).toNat) 7))) rfl rfl (s_iast (n := 120) rfl ⟨by omega, by omega⟩ ⟨by decide, by decide⟩) ?_
        refine go_toq PM172 (k := 6) (pc' := 72) (L' := [some (.inr (.inr (some 79))), some (.inl 7)]) (st' := [.inl 3, .inl 1, .inr (.inr (some 79))]) (w' := (SH, (u2 dt649 82 ((5 * (dt649 79 10)).toNat) 7))) rfl ?_
        refine go_callq PM172 PM171 (Q' := _) rfl rfl rfl rfl (sp_X6_argument L xs sio (d + 0) (u2 dt649 82 ((5 * (dt649 79 10)).toNat) 7) hI661  1 ⟨by decide, by decide⟩ 3 ⟨by decide, by decide⟩ (by first | exact True.intro | rfl | omega | trivial) (by first | exact True.intro | rfl | omega | trivial)) ?_
        rintro _ _ ⟨dt682, rfl, hI683, hF684, h681⟩
        refine ⟨rfl, ?_⟩
        have hF685 : Fr [79, 82] dt dt682 := Fr_tr hF662 hF684 (by decide)
        have E84686 : dt682 84 = dt 84 := (funext (hF684 84 (by decide))).trans E84673
        rcases h681 with ⟨rfl, h681⟩ | ⟨rfl, h681⟩
        · skip
          obtain ⟨h681_0, h681_1, h681_2, h681_3⟩ := h681
          refine go_retq PM172 (k := 2) (r := some (.inl 0)) (w1 := (SH, dt682)) rfl ?_
          exact ⟨dt682, rfl, hI683, hF685, (Or.inl ⟨rfl, ⟨by first | exact True.intro | rfl | omega | trivial, by first | exact True.intro | rfl | omega | trivial, by first | exact True.intro | rfl | omega | trivial⟩⟩)⟩
        · skip
          obtain ⟨h681_0, h681_1, h681_2, h681_3, h681_4, h681_5, h681_6, h681_7, h681_8, h681_9, h681_10⟩ := h681
          clear h648_1
          have ee687 : (u2 dt649 82 ((5 * (dt649 79 10)).toNat) 7) 79 10 = dt 79 10 := by omega
          rw [ee687] at h681_0 h681_1
          have BL688 : ∀ j : Nat, (j : Int) < 5 * dt 79 10 → dt682 82 j = dt 82 j := fun j hj => (h681_0 j (blq hj (by decide))).trans (BL674 j hj)
          have y689 : dt682 82 ((5 * (dt 79 10))).toNat = (u2 dt649 82 ((5 * (dt649 79 10)).toNat) 7) 82 ((5 * (dt 79 10))).toNat := h681_0 _ (xq0 hL0 (by decide))
          have y690 : dt682 82 ((5 * (dt 79 10)) + 2).toNat = (u2 dt649 82 ((5 * (dt649 79 10)).toNat) 7) 82 ((5 * (dt 79 10)) + 2).toNat := h681_0 _ (xq hL0 (by decide) (by decide))
          have y691 : dt682 82 ((5 * (dt 79 10)) + 3).toNat = (u2 dt649 82 ((5 * (dt649 79 10)).toNat) 7) 82 ((5 * (dt 79 10)) + 3).toNat := h681_0 _ (xq hL0 (by decide) (by decide))
          have y692 : dt682 82 ((5 * (dt 79 10)) + 4).toNat = (u2 dt649 82 ((5 * (dt649 79 10)).toNat) 7) 82 ((5 * (dt 79 10)) + 4).toNat := h681_0 _ (xq hL0 (by decide) (by decide))
          have y693 := h681_1 ((5 * (dt 79 10)) + 1) rfl
          refine go_toq PM172 (k := 30) (pc' := 208) (L' := [some (.inr (.inr (some 79))), some (.inl 7)]) (st' := [.inl 159, .inr (.inr (some 79))]) (w' := (SH, dt682)) rfl ?_
          refine go_callq PM172 PM161 (Q' := _) rfl rfl rfl rfl (sp_X6_need0 L xs sio (d + 1) dt682 hI683  159 ⟨by decide, by decide⟩ (by first | exact True.intro | rfl | omega | trivial)) ?_
          rintro _ _ ⟨dt695, rfl, hI696, hF697, h694⟩
          refine ⟨rfl, ?_⟩
          have hF698 : Fr [79, 82] dt dt695 := Fr_tr hF685 hF697 (by decide)
          have E84699 : dt695 84 = dt 84 := (funext (hF697 84 (by decide))).trans E84686
          rcases h694 with ⟨rfl, h694⟩ | ⟨rfl, h694⟩
          · skip
            obtain ⟨h694_0, h694_1, h694_2, h694_3⟩ := h694
            have BL700 : ∀ j : Nat, (j : Int) < 5 * dt 79 10 → dt695 82 j = dt 82 j := fun j hj => (hF697 82 (by decide) j).trans (BL688 j hj)
            have y701 : dt695 82 ((5 * (dt 79 10))).toNat = dt682 82 ((5 * (dt 79 10))).toNat := hF697 82 (by decide) _
            have y702 : dt695 82 ((5 * (dt 79 10)) + 1).toNat = dt682 82 ((5 * (dt 79 10)) + 1).toNat := hF697 82 (by decide) _
            have y703 : dt695 82 ((5 * (dt 79 10)) + 2).toNat = dt682 82 ((5 * (dt 79 10)) + 2).toNat := hF697 82 (by decide) _
            have y704 : dt695 82 ((5 * (dt 79 10)) + 3).toNat = dt682 82 ((5 * (dt 79 10)) + 3).toNat := hF697 82 (by decide) _
            have y705 : dt695 82 ((5 * (dt 79 10)) + 4).toNat = dt682 82 ((5 * (dt 79 10)) + 4).toNat := hF697 82 (by decide) _
            refine go_retq PM172 (k := 0) (r := some (.inl 0)) (w1 := (SH, dt695)) rfl ?_
            exact ⟨dt695, rfl, hI696, hF698, (Or.inl ⟨rfl, ⟨by first | exact True.intro | rfl | omega | trivial, by first | exact True.intro | rfl | omega | trivial, by first | exact True.intro | rfl | omega | trivial⟩⟩)⟩
          · skip
            obtain ⟨h694_0, h694_1, h694_2, h694_3, h694_4, h694_5, h694_6, h694_7, h694_8⟩ := h694
            clear h681_3
            have BL706 : ∀ j : Nat, (j : Int) < 5 * dt 79 10 → dt695 82 j = dt 82 j := fun j hj => (hF697 82 (by decide) j).trans (BL688 j hj)
            have y707 : dt695 82 ((5 * (dt 79 10))).toNat = dt682 82 ((5 * (dt 79 10))).toNat := hF697 82 (by decide) _
            have y708 : dt695 82 ((5 * (dt 79 10)) + 1).toNat = dt682 82 ((5 * (dt 79 10)) + 1).toNat := hF697 82 (by decide) _
            have y709 : dt695 82 ((5 * (dt 79 10)) + 2).toNat = dt682 82 ((5 * (dt 79 10)) + 2).toNat := hF697 82 (by decide) _
            have y710 : dt695 82 ((5 * (dt 79 10)) + 3).toNat = dt682 82 ((5 * (dt 79 10)) + 3).toNat := hF697 82 (by decide) _
            have y711 : dt695 82 ((5 * (dt 79 10)) + 4).toNat = dt682 82 ((5 * (dt 79 10)) + 4).toNat := hF697 82 (by decide) _
            refine go_retq PM172 (k := 0) (r := some (.inl 1)) (w1 := (SH, dt695)) rfl ?_
            exact ⟨dt695, rfl, hI696, hF698, (Or.inr ⟨rfl, ⟨by first | exact True.intro | rfl | omega | trivial, by exact BL706, by unfold aOK; omega, by first | exact True.intro | rfl | omega | trivial, by first | exact True.intro | rfl | omega | trivial, by exact (InvC_get (by assumption) 79 15 rfl rfl).2, by first | exact True.intro | rfl | omega | trivial, by first | exact True.intro | rfl | omega | trivial, by first | exact True.intro | rfl | omega | trivial, by first | exact True.intro | rfl | omega | trivial, by first | exact True.intro | rfl | omega | trivial⟩⟩)⟩
      · rw [hc7]
        refine go_toq PM172 (k := 1) (pc' := 44) (L' := [some (.inr (.inr (some 79))), some (.inl 8)]) (st' := [.inr (.inr (some 79))]) (w' := (SH, dt)) rfl ?_
        refine go_callq PM172 PM159 (Q' := _) rfl rfl rfl rfl (sp_X6_next0 L xs sio (d + 2) dt hI   (by first | exact True.intro | rfl | omega | trivial)) ?_
        rintro _ _ ⟨dt713, rfl, hI714, hF715, h712⟩
        refine ⟨rfl, ?_⟩
        have hF716 : Fr [79, 82] dt dt713 := Fr_tr hF hF715 (by decide)
        have E84717 : dt713 84 = dt 84 := funext (hF715 84 (by decide))
        rcases h712 with ⟨rfl, h712⟩
        obtain ⟨h712_0, h712_1, h712_2, h712_3, h712_4, h712_5, h712_6, h712_7, h712_8⟩ := h712
        have hadv0 : dt 79 15 + 1 ≤ dt 79 13 := by omega
        clear h_p0
        have BL718 : ∀ j : Nat, (j : Int) < 5 * dt 79 10 → dt713 82 j = dt 82 j := fun j hj => (hF715 82 (by decide) j).trans ((fun _ _ => rfl) j hj)
        have y719 : dt713 82 ((5 * (dt 79 10))).toNat = dt 82 ((5 * (dt 79 10))).toNat := hF715 82 (by decide) _
        have y720 : dt713 82 ((5 * (dt 79 10)) + 1).toNat = dt 82 ((5 * (dt 79 10)) + 1).toNat := hF715 82 (by decide) _
        have y721 : dt713 82 ((5 * (dt 79 10)) + 2).toNat = dt 82 ((5 * (dt 79 10)) + 2).toNat := hF715 82 (by decide) _
        have y722 : dt713 82 ((5 * (dt 79 10)) + 3).toNat = dt 82 ((5 * (dt 79 10)) + 3).toNat := hF715 82 (by decide) _
        have y723 : dt713 82 ((5 * (dt 79 10)) + 4).toNat = dt 82 ((5 * (dt 79 10)) + 4).toNat := hF715 82 (by decide) _
        have r724 : 0 ≤ dt713 79 10 ∧ dt713 79 10 ≤ 24 := InvC_get hI714 79 10 rfl rfl
        refine go_toq PM172 (k := 7) (pc' := 58) (L' := [some (.inr (.inr (some 79))), some (.inl 8)]) (st' := [.inl 8, .inl (5 * (dt713 79 10)), .inr (.inr (some 82))]) (w' := (SH, dt713)) rfl ?_
        have hI725 : InvC (u2 dt713 82 ((5 * (dt713 79 10)).toNat) 8) := InvC_u2 hI714 (lo := -2147483648) (hi := 2147483647) rfl rfl rfl (by decide) (by decide)
        have hF726 : Fr [79, 82] dt (u2 dt713 82 ((5 * (dt713 79 10)).toNat) 8) := Fr_u2 hF716 (by decide)
        have w727 : (u2 dt713 82 ((5 * (dt713 79 10)).toNat) 8) 79 2 = dt713 79 2 := rfl
        have w728 : (u2 dt713 82 ((5 * (dt713 79 10)).toNat) 8) 79 9 = dt713 79 9 := rfl
        have w729 : (u2 dt713 82 ((5 * (dt713 79 10)).toNat) 8) 79 10 = dt713 79 10 := rfl
        have w730 : (u2 dt713 82 ((5 * (dt713 79 10)).toNat) 8) 79 11 = dt713 79 11 := rfl
        have w731 : (u2 dt713 82 ((5 * (dt713 79 10)).toNat) 8) 79 12 = dt713 79 12 := rfl
        have w732 : (u2 dt713 82 ((5 * (dt713 79 10)).toNat) 8) 79 13 = dt713 79 13 := rfl
        have w733 : (u2 dt713 82 ((5 * (dt713 79 10)).toNat) 8) 79 14 = dt713 79 14 := rfl
        have w734 : (u2 dt713 82 ((5 * (dt713 79 10)).toNat) 8) 79 15 = dt713 79 15 := rfl
        have w735 : (u2 dt713 82 ((5 * (dt713 79 10)).toNat) 8) 79 16 = dt713 79 16 := rfl
        have w736 : (u2 dt713 82 ((5 * (dt713 79 10)).toNat) 8) 79 20 = dt713 79 20 := rfl
        have E84737 : (u2 dt713 82 ((5 * (dt713 79 10)).toNat) 8) 84 = dt 84 := (funext fun _ => rfl).trans E84717
        have ex739 : ((5 * (dt 79 10))).toNat = (5 * (dt713 79 10)).toNat := by omega
        have BL738 : ∀ j : Nat, (j : Int) < 5 * dt 79 10 → (u2 dt713 82 ((5 * (dt713 79 10)).toNat) 8) 82 j = dt 82 j := fun j hj => (u2_ne (by omega)).trans (BL718 j hj)
        have y740 : (u2 dt713 82 ((5 * (dt713 79 10)).toNat) 8) 82 ((5 * (dt 79 10))).toNat = 8 := by rw [ex739]; exact u2_eq
        have y741 : (u2 dt713 82 ((5 * (dt713 79 10)).toNat) 8) 82 ((5 * (dt 79 10)) + 1).toNat = dt713 82 ((5 * (dt 79 10)) + 1).toNat := u2_ne (by omega)
        have y742 : (u2 dt713 82 ((5 * (dt713 79 10)).toNat) 8) 82 ((5 * (dt 79 10)) + 2).toNat = dt713 82 ((5 * (dt 79 10)) + 2).toNat := u2_ne (by omega)
        have y743 : (u2 dt713 82 ((5 * (dt713 79 10)).toNat) 8) 82 ((5 * (dt 79 10)) + 3).toNat = dt713 82 ((5 * (dt 79 10)) + 3).toNat := u2_ne (by omega)
        have y744 : (u2 dt713 82 ((5 * (dt713 79 10)).toNat) 8) 82 ((5 * (dt 79 10)) + 4).toNat = dt713 82 ((5 * (dt 79 10)) + 4).toNat := u2_ne (by omega)
        refine go_smpq PM172 (L' := [some (.inr (.inr (some 79))), some (.inl 8)]) (st' := []) (w' := (SH, (u2 dt713 82 ((5 * (dt713 79 10)).toNat) 8))) rfl rfl (s_iast (n := 120) rfl ⟨by omega, by omega⟩ ⟨by decide, by decide⟩) ?_
        refine go_toq PM172 (k := 7) (pc' := 72) (L' := [some (.inr (.inr (some 79))), some (.inl 8)]) (st' := [.inl 1, .inl 1, .inr (.inr (some 79))]) (w' := (SH, (u2 dt713 82 ((5 * (dt713 79 10)).toNat) 8))) rfl ?_
        refine go_callq PM172 PM171 (Q' := _) rfl rfl rfl rfl (sp_X6_argument L xs sio (d + 0) (u2 dt713 82 ((5 * (dt713 79 10)).toNat) 8) hI725  1 ⟨by decide, by decide⟩ 1 ⟨by decide, by decide⟩ (by first | exact True.intro | rfl | omega | trivial) (by first | exact True.intro | rfl | omega | trivial)) ?_
        rintro _ _ ⟨dt746, rfl, hI747, hF748, h745⟩
        refine ⟨rfl, ?_⟩
        have hF749 : Fr [79, 82] dt dt746 := Fr_tr hF726 hF748 (by decide)
        have E84750 : dt746 84 = dt 84 := (funext (hF748 84 (by decide))).trans E84737
        rcases h745 with ⟨rfl, h745⟩ | ⟨rfl, h745⟩
        · skip
          obtain ⟨h745_0, h745_1, h745_2, h745_3⟩ := h745
          refine go_retq PM172 (k := 2) (r := some (.inl 0)) (w1 := (SH, dt746)) rfl ?_
          exact ⟨dt746, rfl, hI747, hF749, (Or.inl ⟨rfl, ⟨by first | exact True.intro | rfl | omega | trivial, by first | exact True.intro | rfl | omega | trivial, by first | exact True.intro | rfl | omega | trivial⟩⟩)⟩
        · skip
          obtain ⟨h745_0, h745_1, h745_2, h745_3, h745_4, h745_5, h745_6, h745_7, h745_8, h745_9, h745_10⟩ := h745
          clear h712_1
          have ee751 : (u2 dt713 82 ((5 * (dt713 79 10)).toNat) 8) 79 10 = dt 79 10 := by omega
          rw [ee751] at h745_0 h745_1
          have BL752 : ∀ j : Nat, (j : Int) < 5 * dt 79 10 → dt746 82 j = dt 82 j := fun j hj => (h745_0 j (blq hj (by decide))).trans (BL738 j hj)
          have y753 : dt746 82 ((5 * (dt 79 10))).toNat = (u2 dt713 82 ((5 * (dt713 79 10)).toNat) 8) 82 ((5 * (dt 79 10))).toNat := h745_0 _ (xq0 hL0 (by decide))
          have y754 : dt746 82 ((5 * (dt 79 10)) + 2).toNat = (u2 dt713 82 ((5 * (dt713 79 10)).toNat) 8) 82 ((5 * (dt 79 10)) + 2).toNat := h745_0 _ (xq hL0 (by decide) (by decide))
          have y755 : dt746 82 ((5 * (dt 79 10)) + 3).toNat = (u2 dt713 82 ((5 * (dt713 79 10)).toNat) 8) 82 ((5 * (dt 79 10)) + 3).toNat := h745_0 _ (xq hL0 (by decide) (by decide))
          have y756 : dt746 82 ((5 * (dt 79 10)) + 4).toNat = (u2 dt713 82 ((5 * (dt713 79 10)).toNat) 8) 82 ((5 * (dt 79 10)) + 4).toNat := h745_0 _ (xq hL0 (by decide) (by decide))
          have y757 := h745_1 ((5 * (dt 79 10)) + 1) rfl
          refine go_toq PM172 (k := 30) (pc' := 208) (L' := [some (.inr (.inr (some 79))), some (.inl 8)]) (st' := [.inl 159, .inr (.inr (some 79))]) (w' := (SH, dt746)) rfl ?_
          refine go_callq PM172 PM161 (Q' := _) rfl rfl rfl rfl (sp_X6_need0 L xs sio (d + 1) dt746 hI747  159 ⟨by decide, by decide⟩ (by first | exact True.intro | rfl | omega | trivial)) ?_
          rintro _ _ ⟨dt759, rfl, hI760, hF761, h758⟩
          refine ⟨rfl, ?_⟩
          have hF762 : Fr [79, 82] dt dt759 := Fr_tr hF749 hF761 (by decide)
          have E84763 : dt759 84 = dt 84 := (funext (hF761 84 (by decide))).trans E84750
          rcases h758 with ⟨rfl, h758⟩ | ⟨rfl, h758⟩
          · skip
            obtain ⟨h758_0, h758_1, h758_2, h758_3⟩ := h758
            have BL764 : ∀ j : Nat, (j : Int) < 5 * dt 79 10 → dt759 82 j = dt 82 j := fun j hj => (hF761 82 (by decide) j).trans (BL752 j hj)
            have y765 : dt759 82 ((5 * (dt 79 10))).toNat = dt746 82 ((5 * (dt 79 10))).toNat := hF761 82 (by decide) _
            have y766 : dt759 82 ((5 * (dt 79 10)) + 1).toNat = dt746 82 ((5 * (dt 79 10)) + 1).toNat := hF761 82 (by decide) _
            have y767 : dt759 82 ((5 * (dt 79 10)) + 2).toNat = dt746 82 ((5 * (dt 79 10)) + 2).toNat := hF761 82 (by decide) _
            have y768 : dt759 82 ((5 * (dt 79 10)) + 3).toNat = dt746 82 ((5 * (dt 79 10)) + 3).toNat := hF761 82 (by decide) _
            have y769 : dt759 82 ((5 * (dt 79 10)) + 4).toNat = dt746 82 ((5 * (dt 79 10)) + 4).toNat := hF761 82 (by decide) _
            refine go_retq PM172 (k := 0) (r := some (.inl 0)) (w1 := (SH, dt759)) rfl ?_
            exact ⟨dt759, rfl, hI760, hF762, (Or.inl ⟨rfl, ⟨by first | exact True.intro | rfl | omega | trivial, by first | exact True.intro | rfl | omega | trivial, by first | exact True.intro | rfl | omega | trivial⟩⟩)⟩
          · skip
            obtain ⟨h758_0, h758_1, h758_2, h758_3, h758_4, h758_5, h758_6, h758_7, h758_8⟩ := h758
            clear h745_3
            have BL770 : ∀ j : Nat, (j : Int) < 5 * dt 79 10 → dt759 82 j = dt 82 j := fun j hj => (hF761 82 (by decide) j).trans (BL752 j hj)
            have y771 : dt759 82 ((5 * (dt 79 10))).toNat = dt746 82 ((5 * (dt 79 10))).toNat := hF761 82 (by decide) _
            have y772 : dt759 82 ((5 * (dt 79 10)) + 1).toNat = dt746 82 ((5 * (dt 79 10)) + 1).toNat := hF761 82 (by decide) _
            have y773 : dt759 82 ((5 * (dt 79 10)) + 2).toNat = dt746 82 ((5 * (dt 79 10)) + 2).toNat := hF761 82 (by decide) _
            have y774 : dt759 82 ((5 * (dt 79 10)) + 3).toNat = dt746 82 ((5 * (dt 79 10)) + 3).toNat := hF761 82 (by decide) _
            have y775 : dt759 82 ((5 * (dt 79 10)) + 4).toNat = dt746 82 ((5 * (dt 79 10)) + 4).toNat := hF761 82 (by decide) _
            refine go_retq PM172 (k := 0) (r := some (.inl 1)) (w1 := (SH, dt759)) rfl ?_
            exact ⟨dt759, rfl, hI760, hF762, (Or.inr ⟨rfl, ⟨by first | exact True.intro | rfl | omega | trivial, by exact BL770, by unfold aOK; omega, by first | exact True.intro | rfl | omega | trivial, by first | exact True.intro | rfl | omega | trivial, by exact (InvC_get (by assumption) 79 15 rfl rfl).2, by first | exact True.intro | rfl | omega | trivial, by first | exact True.intro | rfl | omega | trivial, by first | exact True.intro | rfl | omega | trivial, by first | exact True.intro | rfl | omega | trivial, by first | exact True.intro | rfl | omega | trivial⟩⟩)⟩
    · skip
      refine go_toq PM172 (k := 2) (pc' := 31) (L' := [some (.inr (.inr (some 79))), none]) (st' := [.inl 3, .inr (.inr (some 79))]) (w' := (SH, dt)) rfl ?_
      refine go_callq PM172 PM160 (Q' := _) rfl rfl rfl rfl (sp_X6_bad L xs sio (d + 8) dt hI  3 ⟨by decide, by decide⟩ ) ?_
      rintro _ _ ⟨dt777, rfl, hI778, hF779, h776⟩
      refine ⟨rfl, ?_⟩
      have hF780 : Fr [79, 82] dt dt777 := Fr_tr hF hF779 (by decide)
      have E84781 : dt777 84 = dt 84 := funext (hF779 84 (by decide))
      rcases h776 with ⟨rfl, h776⟩
      obtain ⟨h776_0, h776_1, h776_2, h776_3, h776_4, h776_5⟩ := h776
      have BL782 : ∀ j : Nat, (j : Int) < 5 * dt 79 10 → dt777 82 j = dt 82 j := fun j hj => (hF779 82 (by decide) j).trans ((fun _ _ => rfl) j hj)
      have y783 : dt777 82 ((5 * (dt 79 10))).toNat = dt 82 ((5 * (dt 79 10))).toNat := hF779 82 (by decide) _
      have y784 : dt777 82 ((5 * (dt 79 10)) + 1).toNat = dt 82 ((5 * (dt 79 10)) + 1).toNat := hF779 82 (by decide) _
      have y785 : dt777 82 ((5 * (dt 79 10)) + 2).toNat = dt 82 ((5 * (dt 79 10)) + 2).toNat := hF779 82 (by decide) _
      have y786 : dt777 82 ((5 * (dt 79 10)) + 3).toNat = dt 82 ((5 * (dt 79 10)) + 3).toNat := hF779 82 (by decide) _
      have y787 : dt777 82 ((5 * (dt 79 10)) + 4).toNat = dt 82 ((5 * (dt 79 10)) + 4).toNat := hF779 82 (by decide) _
      refine go_retq PM172 (k := 0) (r := some (.inl 0)) (w1 := (SH, dt777)) rfl ?_
      exact ⟨dt777, rfl, hI778, hF780, (Or.inl ⟨rfl, ⟨by first | exact True.intro | rfl | omega | trivial, by first | exact True.intro | rfl | omega | trivial, by first | exact True.intro | rfl | omega | trivial⟩⟩)⟩
  · skip
    refine go_toq PM172 (k := 3) (pc' := 16) (L' := [some (.inr (.inr (some 79))), none]) (st' := [.inl 1, .inr (.inr (some 79))]) (w' := (SH, dt)) rfl ?_
    refine go_callq PM172 PM160 (Q' := _) rfl rfl rfl rfl (sp_X6_bad L xs sio (d + 8) dt hI  1 ⟨by decide, by decide⟩ ) ?_
    rintro _ _ ⟨dt789, rfl, hI790, hF791, h788⟩
    refine ⟨rfl, ?_⟩
    have hF792 : Fr [79, 82] dt dt789 := Fr_tr hF hF791 (by decide)
    have E84793 : dt789 84 = dt 84 := funext (hF791 84 (by decide))
    rcases h788 with ⟨rfl, h788⟩
    obtain ⟨h788_0, h788_1, h788_2, h788_3, h788_4, h788_5⟩ := h788
    have BL794 : ∀ j : Nat, (j : Int) < 5 * dt 79 10 → dt789 82 j = dt 82 j := fun j hj => (hF791 82 (by decide) j).trans ((fun _ _ => rfl) j hj)
    have y795 : dt789 82 ((5 * (dt 79 10))).toNat = dt 82 ((5 * (dt 79 10))).toNat := hF791 82 (by decide) _
    have y796 : dt789 82 ((5 * (dt 79 10)) + 1).toNat = dt 82 ((5 * (dt 79 10)) + 1).toNat := hF791 82 (by decide) _
    have y797 : dt789 82 ((5 * (dt 79 10)) + 2).toNat = dt 82 ((5 * (dt 79 10)) + 2).toNat := hF791 82 (by decide) _
    have y798 : dt789 82 ((5 * (dt 79 10)) + 3).toNat = dt 82 ((5 * (dt 79 10)) + 3).toNat := hF791 82 (by decide) _
    have y799 : dt789 82 ((5 * (dt 79 10)) + 4).toNat = dt 82 ((5 * (dt 79 10)) + 4).toNat := hF791 82 (by decide) _
    refine go_retq PM172 (k := 0) (r := some (.inl 0)) (w1 := (SH, dt789)) rfl ?_
    exact ⟨dt789, rfl, hI790, hF792, (Or.inl ⟨rfl, ⟨by first | exact True.intro | rfl | omega | trivial, by first | exact True.intro | rfl | omega | trivial, by first | exact True.intro | rfl | omega | trivial⟩⟩)⟩
