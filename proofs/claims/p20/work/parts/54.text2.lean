set_option maxRecDepth 20000 in
theorem sp_X6_argument (L : Nat) (xs : Nat → Int32) (sio : Option Nat) (d : Nat) (dt : Nat → Nat → Int) (hI : InvC dt)  (p1 : Int) (h_p1 : 1 ≤ p1 ∧ p1 ≤ 4) (p2 : Int) (h_p2 : 0 ≤ p2 ∧ p2 ≤ 3) (h_p0 : (¬ dt 79 14 = 0 → dt 79 15 + 1 ≤ dt 79 13) ∧ dt 79 13 ≤ 500) (h_p1 : dt 79 10 ≤ 23) : GO (am_XX L xs sio) (d + 8) 171 0 [some (.inr (.inr (some 79))), some (.inl p1), some (.inl p2)] [] (SH, dt) (fun r w2 => ∃ dt2 : Nat → Nat → Int, w2 = (SH, dt2) ∧ InvC dt2 ∧ Fr [79, 82] dt dt2 ∧ ((r = some (.inl 0) ∧ (dt2 79 2 = dt 79 2) ∧ (dt2 79 9 = dt 79 9) ∧ (dt2 79 10 = dt 79 10) ∧ (dt2 79 12 = dt 79 12)) ∨ (r = some (.inl 1) ∧ (∀ j : Nat, ¬ (j : Int) = 5 * dt 79 10 + p1 → dt2 82 j = dt 82 j) ∧ (∀ q : Int, q = 5 * dt 79 10 + p1 → 0 ≤ dt2 82 q.toNat ∧ dt2 82 q.toNat ≤ p2) ∧ (dt 79 15 + 1 ≤ dt2 79 15) ∧ ((¬ dt2 79 14 = 0 → dt2 79 15 + 1 ≤ dt2 79 13) ∧ dt2 79 13 ≤ 500) ∧ (dt2 79 15 ≤ 500) ∧ (dt2 79 2 = dt 79 2) ∧ (dt2 79 9 = dt 79 9) ∧ (dt2 79 10 = dt 79 10) ∧ (dt2 79 11 = dt 79 11) ∧ (dt2 79 12 = dt 79 12) ∧ (dt2 79 20 = dt 79 20)))) := by
  have hF : Fr [79, 82] dt dt := Fr_refl
  have r1 : 0 ≤ dt 79 15 ∧ dt 79 15 ≤ 500 := InvC_get hI 79 15 rfl rfl
  have r2 : 0 ≤ dt 79 11 ∧ dt 79 11 ≤ 510 := InvC_get hI 79 11 rfl rfl
  have r3 : 0 ≤ dt 79 10 ∧ dt 79 10 ≤ 24 := InvC_get hI 79 10 rfl rfl
  have r4 : 0 ≤ dt 79 16 ∧ dt 79 16 ≤ 9999 := InvC_get hI 79 16 rfl rfl
  refine go_toq PM171 (k := 10) (pc' := 16) (L' := [some (.inr (.inr (some 79))), some (.inl p1), some (.inl p2)]) (st' := [.inl (dt 79 16), .inl ((5 * (dt 79 10)) + p1), .inr (.inr (some 82))]) (w' := (SH, dt)) rfl ?_
  have hI5 : InvC (u2 dt 82 (((5 * (dt 79 10)) + p1).toNat) (dt 79 16)) := InvC_u2 hI (lo := -2147483648) (hi := 2147483647) rfl rfl rfl (by first | exact bnd1 r4 (by decide) | fail) (by first | exact bnd2 r4 (by decide) | fail)
  have hF6 : Fr [79, 82] dt (u2 dt 82 (((5 * (dt 79 10)) + p1).toNat) (dt 79 16)) := Fr_u2 hF (by decide)
  have w7 : (u2 dt 82 (((5 * (dt 79 10)) + p1).toNat) (dt 79 16)) 79 2 = dt 79 2 := rfl
  have w8 : (u2 dt 82 (((5 * (dt 79 10)) + p1).toNat) (dt 79 16)) 79 9 = dt 79 9 := rfl
  have w9 : (u2 dt 82 (((5 * (dt 79 10)) + p1).toNat) (dt 79 16)) 79 10 = dt 79 10 := rfl
  have w10 : (u2 dt 82 (((5 * (dt 79 10)) + p1).toNat) (dt 79 16)) 79 11 = dt 79 11 := rfl
  have w11 : (u2 dt 82 (((5 * (dt 79 10)) + p1).toNat) (dt 79 16)) 79 12 = dt 79 12 := rfl
  have w12 : (u2 dt 82 (((5 * (dt 79 10)) + p1).toNat) (dt 79 16)) 79 13 = dt 79 13 := rfl
  have w13 : (u2 dt 82 (((5 * (dt 79 10)) + p1).toNat) (dt 79 16)) 79 14 = dt 79 14 := rfl
  have w14 : (u2 dt 82 (((5 * (dt 79 10)) + p1).toNat) (dt 79 16)) 79 15 = dt 79 15 := rfl
  have w15 : (u2 dt 82 (((5 * (dt 79 10)) + p1).toNat) (dt 79 16)) 79 16 = dt 79 16 := rfl
  have w16 : (u2 dt 82 (((5 * (dt 79 10)) + p1).toNat) (dt 79 16)) 79 20 = dt 79 20 := rfl
  refine go_smpq PM171 (L' := [some (.inr (.inr (some 79))), some (.inl p1), some (.inl p2)]) (st' := []) (w' := (SH, (u2 dt 82 (((5 * (dt 79 10)) + p1).toNat) (dt 79 16)))) rfl rfl (s_iast (n := 120) rfl ⟨by omega, by omega⟩ (by first | exact bnd r4 (by decide) (by decide) | exact ⟨by fail, by fail⟩)) ?_
  refine go_toq PM171 (k := 3) (pc' := 20) (L' := [some (.inr (.inr (some 79))), some (.inl p1), some (.inl p2)]) (st' := [.inl p2, .inl 0, .inr (.inr (some 79))]) (w' := (SH, (u2 dt 82 (((5 * (dt 79 10)) + p1).toNat) (dt 79 16)))) rfl ?_
  refine go_callq PM171 PM162 (Q' := _) rfl rfl rfl rfl (sp_X6_number L xs sio (d + 0) (u2 dt 82 (((5 * (dt 79 10)) + p1).toNat) (dt 79 16)) hI5  0 ⟨by decide, by decide⟩ p2 (by first | exact h_p2 | exact bnd h_p2 (by decide) (by decide) | exact ⟨by fail, by fail⟩) (by first | exact True.intro | with_reducible assumption | rfl | omega | trivial)) ?_
  rintro _ _ ⟨dt18, rfl, hI19, hF20, h17⟩
  refine ⟨rfl, ?_⟩
  have hF21 : Fr [79, 82] dt dt18 := Fr_tr hF6 hF20 (by decide)
  rcases h17 with ⟨rfl, h17⟩ | ⟨rfl, h17⟩
  · skip
    have EB22 : ∀ j, dt18 82 j = (u2 dt 82 (((5 * (dt 79 10)) + p1).toNat) (dt 79 16)) 82 j := fun j => hF20 82 (by decide) j
    refine go_retq PM171 (k := 0) (r := some (.inl 0)) (w1 := (SH, dt18)) rfl ?_
    exact ⟨dt18, rfl, hI19, hF21, (Or.inl ⟨rfl, ⟨by first | exact True.intro | with_reducible assumption | rfl | omega | trivial, by first | exact True.intro | with_reducible assumption | rfl | omega | trivial, by first | exact True.intro | with_reducible assumption | rfl | omega | trivial, by first | exact True.intro | with_reducible assumption | rfl | omega | trivial⟩⟩)⟩
  · skip
    have EB23 : ∀ j, dt18 82 j = (u2 dt 82 (((5 * (dt 79 10)) + p1).toNat) (dt 79 16)) 82 j := fun j => hF20 82 (by decide) j
    refine go_retq PM171 (k := 0) (r := some (.inl 1)) (w1 := (SH, dt18)) rfl ?_
    exact ⟨dt18, rfl, hI19, hF21, (Or.inr ⟨rfl, ⟨by intro j hj; rw [EB23 j]; exact u2_ne (by omega), by intro q hq; subst hq; rw [EB23, show u2 dt 82 ((5 * (dt 79 10)) + p1).toNat (dt 79 16) 82 (5 * dt 79 10 + p1).toNat = dt 79 16 from u2_eq]; omega, by first | exact True.intro | with_reducible assumption | rfl | omega | trivial, by first | exact True.intro | with_reducible assumption | rfl | omega | trivial, by exact (InvC_get (by assumption) 79 15 rfl rfl).2, by first | exact True.intro | with_reducible assumption | rfl | omega | trivial, by first | exact True.intro | with_reducible assumption | rfl | omega | trivial, by first | exact True.intro | with_reducible assumption | rfl | omega | trivial, by first | exact True.intro | with_reducible assumption | rfl | omega | trivial, by first | exact True.intro | with_reducible assumption | rfl | omega | trivial, by first | exact True.intro | with_reducible assumption | rfl | omega | trivial⟩⟩)⟩
set_option maxHeartbeats 8000000 in
set_option maxRecDepth 20000 in
theorem sp_X6_anAct (L : Nat) (xs : Nat → Int32) (sio : Option Nat) (d : Nat) (dt : Nat → Nat → Int) (hI : InvC dt)   (h_p0 : (¬ dt 79 14 = 0 → dt 79 15 + 1 ≤ dt 79 13) ∧ dt 79 13 ≤ 500) : GO (am_XX L xs sio) (d + 9) 172 0 [some (.inr (.inr (some 79))), none] [] (SH, dt) (fun r w2 => ∃ dt2 : Nat → Nat → Int, w2 = (SH, dt2) ∧ InvC dt2 ∧ Fr [79, 82] dt dt2 ∧ ((r = some (.inl 0) ∧ (dt2 79 2 = dt 79 2) ∧ (dt2 79 9 = dt 79 9) ∧ (dt2 79 12 = dt 79 12)) ∨ (r = some (.inl 1) ∧ (dt 79 10 ≤ 23) ∧ (∀ j : Nat, (j : Int) < 5 * dt 79 10 → dt2 82 j = dt 82 j) ∧ (aOK (dt2 82 ((5 * (dt 79 10))).toNat) (dt2 82 ((5 * (dt 79 10)) + 1).toNat) (dt2 82 ((5 * (dt 79 10)) + 2).toNat) (dt2 82 ((5 * (dt 79 10)) + 3).toNat) (dt2 82 ((5 * (dt 79 10)) + 4).toNat)) ∧ (dt 79 15 + 1 ≤ dt2 79 15) ∧ ((¬ dt2 79 14 = 0 → dt2 79 15 + 1 ≤ dt2 79 13) ∧ dt2 79 13 ≤ 500) ∧ (dt2 79 15 ≤ 500) ∧ (dt2 79 2 = dt 79 2) ∧ (dt2 79 9 = dt 79 9) ∧ (dt2 79 10 = dt 79 10) ∧ (dt2 79 11 = dt 79 11) ∧ (dt2 79 12 = dt 79 12)))) := by
  have hF : Fr [79, 82] dt dt := Fr_refl
  have r1 : 0 ≤ dt 79 15 ∧ dt 79 15 ≤ 500 := InvC_get hI 79 15 rfl rfl
  have r2 : 0 ≤ dt 79 11 ∧ dt 79 11 ≤ 510 := InvC_get hI 79 11 rfl rfl
  have r3 : 0 ≤ dt 79 10 ∧ dt 79 10 ≤ 24 := InvC_get hI 79 10 rfl rfl
  have hL0 : 0 ≤ dt 79 10 := by omega
  have hA0 : 0 ≤ 5 * dt 79 10 := by omega
  have r4 : (-2147483648) ≤ dt 79 14 ∧ dt 79 14 ≤ 2147483647 := InvC_get hI 79 14 rfl rfl
  refine go_toq PM172 (k := 4) (pc' := 8) (L' := [some (.inr (.inr (some 79))), none]) (st' := [.inl 28, .inl 20, .inl (dt 79 14)]) (w' := (SH, dt)) rfl ?_
  refine go_callq PM172 PM146 (Q' := _) rfl rfl rfl rfl (sp_X6_isIn L xs sio (d + 8) dt hI  (dt 79 14) (by first | exact bnd r4 (by decide) (by decide) | exact ⟨by fail, by fail⟩) 20 ⟨by decide, by decide⟩ 28 ⟨by decide, by decide⟩ ) ?_
  rintro _ _ ⟨rfl, h5⟩
  refine ⟨rfl, ?_⟩
  rcases h5 with ⟨rfl, h5⟩ | ⟨rfl, h5⟩
  · skip
    refine go_ifq PM172 (k := 4) (p1 := 35) (p2 := 29) (L' := [some (.inr (.inr (some 79))), none]) (st' := []) (w' := (SH, dt)) rfl (c_ne (a := dt 79 10) (b := 24) (by first | exact bnd r3 (by decide) (by decide) | exact ⟨by fail, by fail⟩) ⟨by decide, by decide⟩) (fun c6 => ?_) (fun c6 => ?_)
    · skip
      have qc6 : dt 79 10 ≤ 23 := by omega
      replace c6 := hid c6
      refine go_toq PM172 (k := 5) (pc' := 43) (L' := [some (.inr (.inr (some 79))), some (.inl ((dt 79 14) - 20))]) (st' := []) (w' := (SH, dt)) rfl ?_
      have hc7 : (dt 79 14) - 20 = 0 ∨ (dt 79 14) - 20 = 1 ∨ (dt 79 14) - 20 = 2 ∨ (dt 79 14) - 20 = 3 ∨ (dt 79 14) - 20 = 4 ∨ (dt 79 14) - 20 = 5 ∨ (dt 79 14) - 20 = 6 ∨ (dt 79 14) - 20 = 7 ∨ (dt 79 14) - 20 = 8 := by omega
      rcases hc7 with hc7 | hc7 | hc7 | hc7 | hc7 | hc7 | hc7 | hc7 | hc7
      · rw [hc7]
        refine go_toq PM172 (k := 1) (pc' := 44) (L' := [some (.inr (.inr (some 79))), some (.inl 0)]) (st' := [.inr (.inr (some 79))]) (w' := (SH, dt)) rfl ?_
        refine go_callq PM172 PM159 (Q' := _) rfl rfl rfl rfl (sp_X6_next0 L xs sio (d + 2) dt hI   (by first | exact True.intro | with_reducible assumption | exact unhid (by with_reducible assumption) | rfl | omega | trivial)) ?_
        rintro _ _ ⟨dt9, rfl, hI10, hF11, h8⟩
        refine ⟨rfl, ?_⟩
        have hF12 : Fr [79, 82] dt dt9 := Fr_tr hF hF11 (by decide)
        have E8413 : dt9 84 = dt 84 := funext (hF11 84 (by decide))
        rcases h8 with ⟨rfl, h8⟩
        obtain ⟨h8_0, h8_1, h8_2, h8_3, h8_4, h8_5, h8_6, h8_7, h8_8⟩ := h8
        have w14 : dt9 79 2 = dt 79 2 := h8_3
        have w15 : dt9 79 9 = dt 79 9 := h8_4
        have w16 : dt9 79 10 = dt 79 10 := h8_5
        have w17 : dt9 79 11 = dt 79 11 := h8_6
        have w18 : dt9 79 12 = dt 79 12 := h8_7
        have w19 : dt9 79 20 = dt 79 20 := h8_8
        have hadv0 : dt 79 15 + 1 ≤ dt 79 13 := by omega
        clear h_p0
        have BL20 : ∀ j : Nat, (j : Int) < 5 * dt 79 10 → dt9 82 j = dt 82 j := fun j hj => (hF11 82 (by decide) j).trans ((fun _ _ => rfl) j hj)
        have y21 : dt9 82 ((5 * (dt 79 10))).toNat = dt 82 ((5 * (dt 79 10))).toNat := hF11 82 (by decide) _
        have y22 : dt9 82 ((5 * (dt 79 10)) + 1).toNat = dt 82 ((5 * (dt 79 10)) + 1).toNat := hF11 82 (by decide) _
        have y23 : dt9 82 ((5 * (dt 79 10)) + 2).toNat = dt 82 ((5 * (dt 79 10)) + 2).toNat := hF11 82 (by decide) _
        have y24 : dt9 82 ((5 * (dt 79 10)) + 3).toNat = dt 82 ((5 * (dt 79 10)) + 3).toNat := hF11 82 (by decide) _
        have y25 : dt9 82 ((5 * (dt 79 10)) + 4).toNat = dt 82 ((5 * (dt 79 10)) + 4).toNat := hF11 82 (by decide) _
        clear h8_3 h8_4 h8_5 h8_6 h8_7 h8_8
        have r26 : 0 ≤ dt9 79 10 ∧ dt9 79 10 ≤ 24 := InvC_get hI10 79 10 rfl rfl
        refine go_toq PM172 (k := 7) (pc' := 58) (L' := [some (.inr (.inr (some 79))), some (.inl 0)]) (st' := [.inl 0, .inl (5 * (dt9 79 10)), .inr (.inr (some 82))]) (w' := (SH, dt9)) rfl ?_
        have hI27 : InvC (u2 dt9 82 ((5 * (dt9 79 10)).toNat) 0) := InvC_u2 hI10 (lo := -2147483648) (hi := 2147483647) rfl rfl rfl (by decide) (by decide)
        have hF28 : Fr [79, 82] dt (u2 dt9 82 ((5 * (dt9 79 10)).toNat) 0) := Fr_u2 hF12 (by decide)
        have w29 : (u2 dt9 82 ((5 * (dt9 79 10)).toNat) 0) 79 2 = dt 79 2 := w14
        have w30 : (u2 dt9 82 ((5 * (dt9 79 10)).toNat) 0) 79 9 = dt 79 9 := w15
        have w31 : (u2 dt9 82 ((5 * (dt9 79 10)).toNat) 0) 79 10 = dt 79 10 := w16
        have w32 : (u2 dt9 82 ((5 * (dt9 79 10)).toNat) 0) 79 11 = dt 79 11 := w17
        have w33 : (u2 dt9 82 ((5 * (dt9 79 10)).toNat) 0) 79 12 = dt 79 12 := w18
        have w34 : (u2 dt9 82 ((5 * (dt9 79 10)).toNat) 0) 79 13 = dt9 79 13 := rfl
        have w35 : (u2 dt9 82 ((5 * (dt9 79 10)).toNat) 0) 79 14 = dt9 79 14 := rfl
        have w36 : (u2 dt9 82 ((5 * (dt9 79 10)).toNat) 0) 79 15 = dt9 79 15 := rfl
        have w37 : (u2 dt9 82 ((5 * (dt9 79 10)).toNat) 0) 79 16 = dt9 79 16 := rfl
        have w38 : (u2 dt9 82 ((5 * (dt9 79 10)).toNat) 0) 79 20 = dt 79 20 := w19
        have E8439 : (u2 dt9 82 ((5 * (dt9 79 10)).toNat) 0) 84 = dt 84 := (funext fun _ => rfl).trans E8413
        have ex41 : ((5 * (dt 79 10))).toNat = (5 * (dt9 79 10)).toNat := by rw [show dt9 79 10 = dt 79 10 from w31]
        have BL40 : ∀ j : Nat, (j : Int) < 5 * dt 79 10 → (u2 dt9 82 ((5 * (dt9 79 10)).toNat) 0) 82 j = dt 82 j := fun j hj => (u2_ne (fun z_ => xb0 hj (z_.2.trans ex41.symm))).trans (BL20 j hj)
        have y42 : (u2 dt9 82 ((5 * (dt9 79 10)).toNat) 0) 82 ((5 * (dt 79 10))).toNat = 0 := by rw [ex41]; exact u2_eq
        have y43 : (u2 dt9 82 ((5 * (dt9 79 10)).toNat) 0) 82 ((5 * (dt 79 10)) + 1).toNat = dt 82 ((5 * (dt 79 10)) + 1).toNat := (u2_ne (fun z_ => (fun y_ => xr0 hA0 (by decide) y_.symm) (z_.2.trans ex41.symm))).trans y22
        have y44 : (u2 dt9 82 ((5 * (dt9 79 10)).toNat) 0) 82 ((5 * (dt 79 10)) + 2).toNat = dt 82 ((5 * (dt 79 10)) + 2).toNat := (u2_ne (fun z_ => (fun y_ => xr0 hA0 (by decide) y_.symm) (z_.2.trans ex41.symm))).trans y23
        have y45 : (u2 dt9 82 ((5 * (dt9 79 10)).toNat) 0) 82 ((5 * (dt 79 10)) + 3).toNat = dt 82 ((5 * (dt 79 10)) + 3).toNat := (u2_ne (fun z_ => (fun y_ => xr0 hA0 (by decide) y_.symm) (z_.2.trans ex41.symm))).trans y24
        have y46 : (u2 dt9 82 ((5 * (dt9 79 10)).toNat) 0) 82 ((5 * (dt 79 10)) + 4).toNat = dt 82 ((5 * (dt 79 10)) + 4).toNat := (u2_ne (fun z_ => (fun y_ => xr0 hA0 (by decide) y_.symm) (z_.2.trans ex41.symm))).trans y25
        clear y21 y22 y23 y24 y25
        refine go_smpq PM172 (L' := [some (.inr (.inr (some 79))), some (.inl 0)]) (st' := []) (w' := (SH, (u2 dt9 82 ((5 * (dt9 79 10)).toNat) 0))) rfl rfl (s_iast (n := 120) rfl ⟨by omega, by omega⟩ ⟨by decide, by decide⟩) ?_
        refine go_toq PM172 (k := 6) (pc' := 72) (L' := [some (.inr (.inr (some 79))), some (.inl 0)]) (st' := [.inl 3, .inl 1, .inr (.inr (some 79))]) (w' := (SH, (u2 dt9 82 ((5 * (dt9 79 10)).toNat) 0))) rfl ?_
        refine go_callq PM172 PM171 (Q' := _) rfl rfl rfl rfl (sp_X6_argument L xs sio (d + 0) (u2 dt9 82 ((5 * (dt9 79 10)).toNat) 0) hI27  1 ⟨by decide, by decide⟩ 3 ⟨by decide, by decide⟩ (by first | exact True.intro | with_reducible assumption | exact unhid (by with_reducible assumption) | rfl | omega | trivial) (by first | exact True.intro | with_reducible assumption | exact unhid (by with_reducible assumption) | rfl | omega | trivial)) ?_
        rintro _ _ ⟨dt48, rfl, hI49, hF50, h47⟩
        refine ⟨rfl, ?_⟩
        have hF51 : Fr [79, 82] dt dt48 := Fr_tr hF28 hF50 (by decide)
        have E8452 : dt48 84 = dt 84 := (funext (hF50 84 (by decide))).trans E8439
        rcases h47 with ⟨rfl, h47⟩ | ⟨rfl, h47⟩
        · skip
          obtain ⟨h47_0, h47_1, h47_2, h47_3⟩ := h47
          have w53 : dt48 79 2 = dt 79 2 := h47_0.trans w29
          have w54 : dt48 79 9 = dt 79 9 := h47_1.trans w30
          have w55 : dt48 79 10 = dt 79 10 := h47_2.trans w31
          have w56 : dt48 79 12 = dt 79 12 := h47_3.trans w33
          clear h47_0 w29 h47_1 w30 h47_2 w31 h47_3 w33
          refine go_retq PM172 (k := 2) (r := some (.inl 0)) (w1 := (SH, dt48)) rfl ?_
          exact ⟨dt48, rfl, hI49, hF51, (Or.inl ⟨rfl, ⟨by first | exact True.intro | with_reducible assumption | exact unhid (by with_reducible assumption) | rfl | fail | trivial, by first | exact True.intro | with_reducible assumption | exact unhid (by with_reducible assumption) | rfl | fail | trivial, by first | exact True.intro | with_reducible assumption | exact unhid (by with_reducible assumption) | rfl | fail | trivial⟩⟩)⟩
        · skip
          obtain ⟨h47_0, h47_1, h47_2, h47_3, h47_4, h47_5, h47_6, h47_7, h47_8, h47_9, h47_10⟩ := h47
          have w57 : dt48 79 2 = dt 79 2 := h47_5.trans w29
          have w58 : dt48 79 9 = dt 79 9 := h47_6.trans w30
          have w59 : dt48 79 10 = dt 79 10 := h47_7.trans w31
          have w60 : dt48 79 11 = dt 79 11 := h47_8.trans w32
          have w61 : dt48 79 12 = dt 79 12 := h47_9.trans w33
          have w62 : dt48 79 20 = dt 79 20 := h47_10.trans w38
          clear h8_1
          have ee63 : (u2 dt9 82 ((5 * (dt9 79 10)).toNat) 0) 79 10 = dt 79 10 := by omega
          rw [ee63] at h47_0 h47_1
          have BL64 : ∀ j : Nat, (j : Int) < 5 * dt 79 10 → dt48 82 j = dt 82 j := fun j hj => (h47_0 j (blq hj (by decide))).trans (BL40 j hj)
          have y65 : dt48 82 ((5 * (dt 79 10))).toNat = 0 := (h47_0 _ (xq0 hL0 (by decide))).trans y42
          have y66 : dt48 82 ((5 * (dt 79 10)) + 2).toNat = dt 82 ((5 * (dt 79 10)) + 2).toNat := (h47_0 _ (xq hL0 (by decide) (by decide))).trans y44
          have y67 : dt48 82 ((5 * (dt 79 10)) + 3).toNat = dt 82 ((5 * (dt 79 10)) + 3).toNat := (h47_0 _ (xq hL0 (by decide) (by decide))).trans y45
          have y68 : dt48 82 ((5 * (dt 79 10)) + 4).toNat = dt 82 ((5 * (dt 79 10)) + 4).toNat := (h47_0 _ (xq hL0 (by decide) (by decide))).trans y46
          have y69 := h47_1 ((5 * (dt 79 10)) + 1) rfl
          clear y42 y44 y45 y46 y43
          clear h47_5 w29 h47_6 w30 h47_7 w31 h47_8 w32 h47_9 w33 h47_10 w38
          refine go_toq PM172 (k := 30) (pc' := 208) (L' := [some (.inr (.inr (some 79))), some (.inl 0)]) (st' := [.inl 159, .inr (.inr (some 79))]) (w' := (SH, dt48)) rfl ?_
          refine go_callq PM172 PM161 (Q' := _) rfl rfl rfl rfl (sp_X6_need0 L xs sio (d + 1) dt48 hI49  159 ⟨by decide, by decide⟩ (by first | exact True.intro | with_reducible assumption | exact unhid (by with_reducible assumption) | rfl | fail | trivial)) ?_
          rintro _ _ ⟨dt71, rfl, hI72, hF73, h70⟩
          refine ⟨rfl, ?_⟩
          have hF74 : Fr [79, 82] dt dt71 := Fr_tr hF51 hF73 (by decide)
          have E8475 : dt71 84 = dt 84 := (funext (hF73 84 (by decide))).trans E8452
          rcases h70 with ⟨rfl, h70⟩ | ⟨rfl, h70⟩
          · skip
            obtain ⟨h70_0, h70_1, h70_2, h70_3⟩ := h70
            have w76 : dt71 79 2 = dt 79 2 := h70_0.trans w57
            have w77 : dt71 79 9 = dt 79 9 := h70_1.trans w58
            have w78 : dt71 79 10 = dt 79 10 := h70_2.trans w59
            have w79 : dt71 79 12 = dt 79 12 := h70_3.trans w61
            have BL80 : ∀ j : Nat, (j : Int) < 5 * dt 79 10 → dt71 82 j = dt 82 j := fun j hj => (hF73 82 (by decide) j).trans (BL64 j hj)
            have y81 : dt71 82 ((5 * (dt 79 10))).toNat = 0 := (hF73 82 (by decide) _).trans y65
            have y82 : dt71 82 ((5 * (dt 79 10)) + 1).toNat = dt48 82 ((5 * (dt 79 10)) + 1).toNat := hF73 82 (by decide) _
            have y83 : dt71 82 ((5 * (dt 79 10)) + 2).toNat = dt 82 ((5 * (dt 79 10)) + 2).toNat := (hF73 82 (by decide) _).trans y66
            have y84 : dt71 82 ((5 * (dt 79 10)) + 3).toNat = dt 82 ((5 * (dt 79 10)) + 3).toNat := (hF73 82 (by decide) _).trans y67
            have y85 : dt71 82 ((5 * (dt 79 10)) + 4).toNat = dt 82 ((5 * (dt 79 10)) + 4).toNat := (hF73 82 (by decide) _).trans y68
            clear y65 y66 y67 y68
            clear h70_0 w57 h70_1 w58 h70_2 h70_3 w61
            refine go_retq PM172 (k := 0) (r := some (.inl 0)) (w1 := (SH, dt71)) rfl ?_
            exact ⟨dt71, rfl, hI72, hF74, (Or.inl ⟨rfl, ⟨by first | exact True.intro | with_reducible assumption | exact unhid (by with_reducible assumption) | rfl | fail | trivial, by first | exact True.intro | with_reducible assumption | exact unhid (by with_reducible assumption) | rfl | fail | trivial, by first | exact True.intro | with_reducible assumption | exact unhid (by with_reducible assumption) | rfl | fail | trivial⟩⟩)⟩
          · skip
            obtain ⟨h70_0, h70_1, h70_2, h70_3, h70_4, h70_5, h70_6, h70_7, h70_8⟩ := h70
            have w86 : dt71 79 2 = dt 79 2 := h70_3.trans w57
            have w87 : dt71 79 9 = dt 79 9 := h70_4.trans w58
            have w88 : dt71 79 10 = dt 79 10 := h70_5.trans w59
            have w89 : dt71 79 11 = dt 79 11 := h70_6.trans w60
            have w90 : dt71 79 12 = dt 79 12 := h70_7.trans w61
            have w91 : dt71 79 20 = dt 79 20 := h70_8.trans w62
            clear h47_3
            have BL92 : ∀ j : Nat, (j : Int) < 5 * dt 79 10 → dt71 82 j = dt 82 j := fun j hj => (hF73 82 (by decide) j).trans (BL64 j hj)
            have y93 : dt71 82 ((5 * (dt 79 10))).toNat = 0 := (hF73 82 (by decide) _).trans y65
            have y94 : dt71 82 ((5 * (dt 79 10)) + 1).toNat = dt48 82 ((5 * (dt 79 10)) + 1).toNat := hF73 82 (by decide) _
            have y95 : dt71 82 ((5 * (dt 79 10)) + 2).toNat = dt 82 ((5 * (dt 79 10)) + 2).toNat := (hF73 82 (by decide) _).trans y66
            have y96 : dt71 82 ((5 * (dt 79 10)) + 3).toNat = dt 82 ((5 * (dt 79 10)) + 3).toNat := (hF73 82 (by decide) _).trans y67
            have y97 : dt71 82 ((5 * (dt 79 10)) + 4).toNat = dt 82 ((5 * (dt 79 10)) + 4).toNat := (hF73 82 (by decide) _).trans y68
            clear y65 y66 y67 y68
            clear h70_3 w57 h70_4 w58 h70_5 h70_6 h70_7 w61 h70_8 w62
            refine go_retq PM172 (k := 0) (r := some (.inl 1)) (w1 := (SH, dt71)) rfl ?_
            exact ⟨dt71, rfl, hI72, hF74, (Or.inr ⟨rfl, ⟨by first | exact True.intro | with_reducible assumption | exact unhid (by with_reducible assumption) | rfl | fail | trivial, by exact BL92, by unfold aOK; omega, by first | exact True.intro | with_reducible assumption | exact unhid (by with_reducible assumption) | rfl | omega | trivial, by first | exact True.intro | with_reducible assumption | exact unhid (by with_reducible assumption) | rfl | fail | trivial, by exact (InvC_get (by assumption) 79 15 rfl rfl).2, by first | exact True.intro | with_reducible assumption | exact unhid (by with_reducible assumption) | rfl | fail | trivial, by first | exact True.intro | with_reducible assumption | exact unhid (by with_reducible assumption) | rfl | fail | trivial, by first | exact True.intro | with_reducible assumption | exact unhid (by with_reducible assumption) | rfl | fail | trivial, by first | exact True.intro | with_reducible assumption | exact unhid (by with_reducible assumption) | rfl | fail | trivial, by first | exact True.intro | with_reducible assumption | exact unhid (by with_reducible assumption) | rfl | fail | trivial⟩⟩)⟩
      · rw [hc7]
        refine go_toq PM172 (k := 1) (pc' := 44) (L' := [some (.inr (.inr (some 79))), some (.inl 1)]) (st' := [.inr (.inr (some 79))]) (w' := (SH, dt)) rfl ?_
        refine go_callq PM172 PM159 (Q' := _) rfl rfl rfl rfl (sp_X6_next0 L xs sio (d + 2) dt hI   (by first | exact True.intro | with_reducible assumption | exact unhid (by with_reducible assumption) | rfl | omega | trivial)) ?_
        rintro _ _ ⟨dt99, rfl, hI100, hF101, h98⟩
        refine ⟨rfl, ?_⟩
        have hF102 : Fr [79, 82] dt dt99 := Fr_tr hF hF101 (by decide)
        have E84103 : dt99 84 = dt 84 := funext (hF101 84 (by decide))
        rcases h98 with ⟨rfl, h98⟩
        obtain ⟨h98_0, h98_1, h98_2, h98_3, h98_4, h98_5, h98_6, h98_7, h98_8⟩ := h98
        have w104 : dt99 79 2 = dt 79 2 := h98_3
        have w105 : dt99 79 9 = dt 79 9 := h98_4
        have w106 : dt99 79 10 = dt 79 10 := h98_5
        have w107 : dt99 79 11 = dt 79 11 := h98_6
        have w108 : dt99 79 12 = dt 79 12 := h98_7
        have w109 : dt99 79 20 = dt 79 20 := h98_8
        have hadv0 : dt 79 15 + 1 ≤ dt 79 13 := by omega
        clear h_p0
        have BL110 : ∀ j : Nat, (j : Int) < 5 * dt 79 10 → dt99 82 j = dt 82 j := fun j hj => (hF101 82 (by decide) j).trans ((fun _ _ => rfl) j hj)
        have y111 : dt99 82 ((5 * (dt 79 10))).toNat = dt 82 ((5 * (dt 79 10))).toNat := hF101 82 (by decide) _
        have y112 : dt99 82 ((5 * (dt 79 10)) + 1).toNat = dt 82 ((5 * (dt 79 10)) + 1).toNat := hF101 82 (by decide) _
        have y113 : dt99 82 ((5 * (dt 79 10)) + 2).toNat = dt 82 ((5 * (dt 79 10)) + 2).toNat := hF101 82 (by decide) _
        have y114 : dt99 82 ((5 * (dt 79 10)) + 3).toNat = dt 82 ((5 * (dt 79 10)) + 3).toNat := hF101 82 (by decide) _
        have y115 : dt99 82 ((5 * (dt 79 10)) + 4).toNat = dt 82 ((5 * (dt 79 10)) + 4).toNat := hF101 82 (by decide) _
        clear h98_3 h98_4 h98_5 h98_6 h98_7 h98_8
        have r116 : 0 ≤ dt99 79 10 ∧ dt99 79 10 ≤ 24 := InvC_get hI100 79 10 rfl rfl
        refine go_toq PM172 (k := 7) (pc' := 58) (L' := [some (.inr (.inr (some 79))), some (.inl 1)]) (st' := [.inl 1, .inl (5 * (dt99 79 10)), .inr (.inr (some 82))]) (w' := (SH, dt99)) rfl ?_
        have hI117 : InvC (u2 dt99 82 ((5 * (dt99 79 10)).toNat) 1) := InvC_u2 hI100 (lo := -2147483648) (hi := 2147483647) rfl rfl rfl (by decide) (by decide)
        have hF118 : Fr [79, 82] dt (u2 dt99 82 ((5 * (dt99 79 10)).toNat) 1) := Fr_u2 hF102 (by decide)
        have w119 : (u2 dt99 82 ((5 * (dt99 79 10)).toNat) 1) 79 2 = dt 79 2 := w104
        have w120 : (u2 dt99 82 ((5 * (dt99 79 10)).toNat) 1) 79 9 = dt 79 9 := w105
        have w121 : (u2 dt99 82 ((5 * (dt99 79 10)).toNat) 1) 79 10 = dt 79 10 := w106
        have w122 : (u2 dt99 82 ((5 * (dt99 79 10)).toNat) 1) 79 11 = dt 79 11 := w107
        have w123 : (u2 dt99 82 ((5 * (dt99 79 10)).toNat) 1) 79 12 = dt 79 12 := w108
        have w124 : (u2 dt99 82 ((5 * (dt99 79 10)).toNat) 1) 79 13 = dt99 79 13 := rfl
        have w125 : (u2 dt99 82 ((5 * (dt99 79 10)).toNat) 1) 79 14 = dt99 79 14 := rfl
        have w126 : (u2 dt99 82 ((5 * (dt99 79 10)).toNat) 1) 79 15 = dt99 79 15 := rfl
        have w127 : (u2 dt99 82 ((5 * (dt99 79 10)).toNat) 1) 79 16 = dt99 79 16 := rfl
        have w128 : (u2 dt99 82 ((5 * (dt99 79 10)).toNat) 1) 79 20 = dt 79 20 := w109
        have E84129 : (u2 dt99 82 ((5 * (dt99 79 10)).toNat) 1) 84 = dt 84 := (funext fun _ => rfl).trans E84103
        have ex131 : ((5 * (dt 79 10))).toNat = (5 * (dt99 79 10)).toNat := by rw [show dt99 79 10 = dt 79 10 from w121]
        have BL130 : ∀ j : Nat, (j : Int) < 5 * dt 79 10 → (u2 dt99 82 ((5 * (dt99 79 10)).toNat) 1) 82 j = dt 82 j := fun j hj => (u2_ne (fun z_ => xb0 hj (z_.2.trans ex131.symm))).trans (BL110 j hj)
        have y132 : (u2 dt99 82 ((5 * (dt99 79 10)).toNat) 1) 82 ((5 * (dt 79 10))).toNat = 1 := by rw [ex131]; exact u2_eq
        have y133 : (u2 dt99 82 ((5 * (dt99 79 10)).toNat) 1) 82 ((5 * (dt 79 10)) + 1).toNat = dt 82 ((5 * (dt 79 10)) + 1).toNat := (u2_ne (fun z_ => (fun y_ => xr0 hA0 (by decide) y_.symm) (z_.2.trans ex131.symm))).trans y112
        have y134 : (u2 dt99 82 ((5 * (dt99 79 10)).toNat) 1) 82 ((5 * (dt 79 10)) + 2).toNat = dt 82 ((5 * (dt 79 10)) + 2).toNat := (u2_ne (fun z_ => (fun y_ => xr0 hA0 (by decide) y_.symm) (z_.2.trans ex131.symm))).trans y113
        have y135 : (u2 dt99 82 ((5 * (dt99 79 10)).toNat) 1) 82 ((5 * (dt 79 10)) + 3).toNat = dt 82 ((5 * (dt 79 10)) + 3).toNat := (u2_ne (fun z_ => (fun y_ => xr0 hA0 (by decide) y_.symm) (z_.2.trans ex131.symm))).trans y114
        have y136 : (u2 dt99 82 ((5 * (dt99 79 10)).toNat) 1) 82 ((5 * (dt 79 10)) + 4).toNat = dt 82 ((5 * (dt 79 10)) + 4).toNat := (u2_ne (fun z_ => (fun y_ => xr0 hA0 (by decide) y_.symm) (z_.2.trans ex131.symm))).trans y115
        clear y111 y112 y113 y114 y115
        refine go_smpq PM172 (L' := [some (.inr (.inr (some 79))), some (.inl 1)]) (st' := []) (w' := (SH, (u2 dt99 82 ((5 * (dt99 79 10)).toNat) 1))) rfl rfl (s_iast (n := 120) rfl ⟨by omega, by omega⟩ ⟨by decide, by decide⟩) ?_
        refine go_toq PM172 (k := 6) (pc' := 72) (L' := [some (.inr (.inr (some 79))), some (.inl 1)]) (st' := [.inl 3, .inl 1, .inr (.inr (some 79))]) (w' := (SH, (u2 dt99 82 ((5 * (dt99 79 10)).toNat) 1))) rfl ?_
        refine go_callq PM172 PM171 (Q' := _) rfl rfl rfl rfl (sp_X6_argument L xs sio (d + 0) (u2 dt99 82 ((5 * (dt99 79 10)).toNat) 1) hI117  1 ⟨by decide, by decide⟩ 3 ⟨by decide, by decide⟩ (by first | exact True.intro | with_reducible assumption | exact unhid (by with_reducible assumption) | rfl | omega | trivial) (by first | exact True.intro | with_reducible assumption | exact unhid (by with_reducible assumption) | rfl | omega | trivial)) ?_
        rintro _ _ ⟨dt138, rfl, hI139, hF140, h137⟩
        refine ⟨rfl, ?_⟩
        have hF141 : Fr [79, 82] dt dt138 := Fr_tr hF118 hF140 (by decide)
        have E84142 : dt138 84 = dt 84 := (funext (hF140 84 (by decide))).trans E84129
        rcases h137 with ⟨rfl, h137⟩ | ⟨rfl, h137⟩
        · skip
          obtain ⟨h137_0, h137_1, h137_2, h137_3⟩ := h137
          have w143 : dt138 79 2 = dt 79 2 := h137_0.trans w119
          have w144 : dt138 79 9 = dt 79 9 := h137_1.trans w120
          have w145 : dt138 79 10 = dt 79 10 := h137_2.trans w121
          have w146 : dt138 79 12 = dt 79 12 := h137_3.trans w123
          clear h137_0 w119 h137_1 w120 h137_2 w121 h137_3 w123
          refine go_retq PM172 (k := 2) (r := some (.inl 0)) (w1 := (SH, dt138)) rfl ?_
          exact ⟨dt138, rfl, hI139, hF141, (Or.inl ⟨rfl, ⟨by first | exact True.intro | with_reducible assumption | exact unhid (by with_reducible assumption) | rfl | fail | trivial, by first | exact True.intro | with_reducible assumption | exact unhid (by with_reducible assumption) | rfl | fail | trivial, by first | exact True.intro | with_reducible assumption | exact unhid (by with_reducible assumption) | rfl | fail | trivial⟩⟩)⟩
        · skip
          obtain ⟨h137_0, h137_1, h137_2, h137_3, h137_4, h137_5, h137_6, h137_7, h137_8, h137_9, h137_10⟩ := h137
          have w147 : dt138 79 2 = dt 79 2 := h137_5.trans w119
          have w148 : dt138 79 9 = dt 79 9 := h137_6.trans w120
          have w149 : dt138 79 10 = dt 79 10 := h137_7.trans w121
          have w150 : dt138 79 11 = dt 79 11 := h137_8.trans w122
          have w151 : dt138 79 12 = dt 79 12 := h137_9.trans w123
          have w152 : dt138 79 20 = dt 79 20 := h137_10.trans w128
          clear h98_1
          have ee153 : (u2 dt99 82 ((5 * (dt99 79 10)).toNat) 1) 79 10 = dt 79 10 := by omega
          rw [ee153] at h137_0 h137_1
          have BL154 : ∀ j : Nat, (j : Int) < 5 * dt 79 10 → dt138 82 j = dt 82 j := fun j hj => (h137_0 j (blq hj (by decide))).trans (BL130 j hj)
          have y155 : dt138 82 ((5 * (dt 79 10))).toNat = 1 := (h137_0 _ (xq0 hL0 (by decide))).trans y132
          have y156 : dt138 82 ((5 * (dt 79 10)) + 2).toNat = dt 82 ((5 * (dt 79 10)) + 2).toNat := (h137_0 _ (xq hL0 (by decide) (by decide))).trans y134
          have y157 : dt138 82 ((5 * (dt 79 10)) + 3).toNat = dt 82 ((5 * (dt 79 10)) + 3).toNat := (h137_0 _ (xq hL0 (by decide) (by decide))).trans y135
          have y158 : dt138 82 ((5 * (dt 79 10)) + 4).toNat = dt 82 ((5 * (dt 79 10)) + 4).toNat := (h137_0 _ (xq hL0 (by decide) (by decide))).trans y136
          have y159 := h137_1 ((5 * (dt 79 10)) + 1) rfl
          clear y132 y134 y135 y136 y133
          clear h137_5 w119 h137_6 w120 h137_7 w121 h137_8 w122 h137_9 w123 h137_10 w128
          refine go_toq PM172 (k := 30) (pc' := 208) (L' := [some (.inr (.inr (some 79))), some (.inl 1)]) (st' := [.inl 159, .inr (.inr (some 79))]) (w' := (SH, dt138)) rfl ?_
          refine go_callq PM172 PM161 (Q' := _) rfl rfl rfl rfl (sp_X6_need0 L xs sio (d + 1) dt138 hI139  159 ⟨by decide, by decide⟩ (by first | exact True.intro | with_reducible assumption | exact unhid (by with_reducible assumption) | rfl | fail | trivial)) ?_
          rintro _ _ ⟨dt161, rfl, hI162, hF163, h160⟩
          refine ⟨rfl, ?_⟩
          have hF164 : Fr [79, 82] dt dt161 := Fr_tr hF141 hF163 (by decide)
          have E84165 : dt161 84 = dt 84 := (funext (hF163 84 (by decide))).trans E84142
          rcases h160 with ⟨rfl, h160⟩ | ⟨rfl, h160⟩
          · skip
            obtain ⟨h160_0, h160_1, h160_2, h160_3⟩ := h160
            have w166 : dt161 79 2 = dt 79 2 := h160_0.trans w147
            have w167 : dt161 79 9 = dt 79 9 := h160_1.trans w148
            have w168 : dt161 79 10 = dt 79 10 := h160_2.trans w149
            have w169 : dt161 79 12 = dt 79 12 := h160_3.trans w151
            have BL170 : ∀ j : Nat, (j : Int) < 5 * dt 79 10 → dt161 82 j = dt 82 j := fun j hj => (hF163 82 (by decide) j).trans (BL154 j hj)
            have y171 : dt161 82 ((5 * (dt 79 10))).toNat = 1 := (hF163 82 (by decide) _).trans y155
            have y172 : dt161 82 ((5 * (dt 79 10)) + 1).toNat = dt138 82 ((5 * (dt 79 10)) + 1).toNat := hF163 82 (by decide) _
            have y173 : dt161 82 ((5 * (dt 79 10)) + 2).toNat = dt 82 ((5 * (dt 79 10)) + 2).toNat := (hF163 82 (by decide) _).trans y156
            have y174 : dt161 82 ((5 * (dt 79 10)) + 3).toNat = dt 82 ((5 * (dt 79 10)) + 3).toNat := (hF163 82 (by decide) _).trans y157
            have y175 : dt161 82 ((5 * (dt 79 10)) + 4).toNat = dt 82 ((5 * (dt 79 10)) + 4).toNat := (hF163 82 (by decide) _).trans y158
            clear y155 y156 y157 y158
            clear h160_0 w147 h160_1 w148 h160_2 h160_3 w151
            refine go_retq PM172 (k := 0) (r := some (.inl 0)) (w1 := (SH, dt161)) rfl ?_
            exact ⟨dt161, rfl, hI162, hF164, (Or.inl ⟨rfl, ⟨by first | exact True.intro | with_reducible assumption | exact unhid (by with_reducible assumption) | rfl | fail | trivial, by first | exact True.intro | with_reducible assumption | exact unhid (by with_reducible assumption) | rfl | fail | trivial, by first | exact True.intro | with_reducible assumption | exact unhid (by with_reducible assumption) | rfl | fail | trivial⟩⟩)⟩
          · skip
            obtain ⟨h160_0, h160_1, h160_2, h160_3, h160_4, h160_5, h160_6, h160_7, h160_8⟩ := h160
            have w176 : dt161 79 2 = dt 79 2 := h160_3.trans w147
            have w177 : dt161 79 9 = dt 79 9 := h160_4.trans w148
            have w178 : dt161 79 10 = dt 79 10 := h160_5.trans w149
            have w179 : dt161 79 11 = dt 79 11 := h160_6.trans w150
            have w180 : dt161 79 12 = dt 79 12 := h160_7.trans w151
            have w181 : dt161 79 20 = dt 79 20 := h160_8.trans w152
            clear h137_3
            have BL182 : ∀ j : Nat, (j : Int) < 5 * dt 79 10 → dt161 82 j = dt 82 j := fun j hj => (hF163 82 (by decide) j).trans (BL154 j hj)
            have y183 : dt161 82 ((5 * (dt 79 10))).toNat = 1 := (hF163 82 (by decide) _).trans y155
            have y184 : dt161 82 ((5 * (dt 79 10)) + 1).toNat = dt138 82 ((5 * (dt 79 10)) + 1).toNat := hF163 82 (by decide) _
            have y185 : dt161 82 ((5 * (dt 79 10)) + 2).toNat = dt 82 ((5 * (dt 79 10)) + 2).toNat := (hF163 82 (by decide) _).trans y156
            have y186 : dt161 82 ((5 * (dt 79 10)) + 3).toNat = dt 82 ((5 * (dt 79 10)) + 3).toNat := (hF163 82 (by decide) _).trans y157
            have y187 : dt161 82 ((5 * (dt 79 10)) + 4).toNat = dt 82 ((5 * (dt 79 10)) + 4).toNat := (hF163 82 (by decide) _).trans y158
            clear y155 y156 y157 y158
            clear h160_3 w147 h160_4 w148 h160_5 h160_6 h160_7 w151 h160_8 w152
            refine go_retq PM172 (k := 0) (r := some (.inl 1)) (w1 := (SH, dt161)) rfl ?_
            exact ⟨dt161, rfl, hI162, hF164, (Or.inr ⟨rfl, ⟨by first | exact True.intro | with_reducible assumption | exact unhid (by with_reducible assumption) | rfl | fail | trivial, by exact BL182, by unfold aOK; omega, by first | exact True.intro | with_reducible assumption | exact unhid (by with_reducible assumption) | rfl | omega | trivial, by first | exact True.intro | with_reducible assumption | exact unhid (by with_reducible assumption) | rfl | fail | trivial, by exact (InvC_get (by assumption) 79 15 rfl rfl).2, by first | exact True.intro | with_reducible assumption | exact unhid (by with_reducible assumption) | rfl | fail | trivial, by first | exact True.intro | with_reducible assumption | exact unhid (by with_reducible assumption) | rfl | fail | trivial, by first | exact True.intro | with_reducible assumption | exact unhid (by with_reducible assumption) | rfl | fail | trivial, by first | exact True.intro | with_reducible assumption | exact unhid (by with_reducible assumption) | rfl | fail | trivial, by first | exact True.intro | with_reducible assumption | exact unhid (by with_reducible assumption) | rfl | fail | trivial⟩⟩)⟩
      · rw [hc7]
        refine go_toq PM172 (k := 1) (pc' := 44) (L' := [some (.inr (.inr (some 79))), some (.inl 2)]) (st' := [.inr (.inr (some 79))]) (w' := (SH, dt)) rfl ?_
        refine go_callq PM172 PM159 (Q' := _) rfl rfl rfl rfl (sp_X6_next0 L xs sio (d + 2) dt hI   (by first | exact True.intro | with_reducible assumption | exact unhid (by with_reducible assumption) | rfl | omega | trivial)) ?_
        rintro _ _ ⟨dt189, rfl, hI190, hF191, h188⟩
        refine ⟨rfl, ?_⟩
        have hF192 : Fr [79, 82] dt dt189 := Fr_tr hF hF191 (by decide)
        have E84193 : dt189 84 = dt 84 := funext (hF191 84 (by decide))
        rcases h188 with ⟨rfl, h188⟩
        obtain ⟨h188_0, h188_1, h188_2, h188_3, h188_4, h188_5, h188_6, h188_7, h188_8⟩ := h188
        have w194 : dt189 79 2 = dt 79 2 := h188_3
        have w195 : dt189 79 9 = dt 79 9 := h188_4
        have w196 : dt189 79 10 = dt 79 10 := h188_5
        have w197 : dt189 79 11 = dt 79 11 := h188_6
        have w198 : dt189 79 12 = dt 79 12 := h188_7
        have w199 : dt189 79 20 = dt 79 20 := h188_8
        have hadv0 : dt 79 15 + 1 ≤ dt 79 13 := by omega
        clear h_p0
        have BL200 : ∀ j : Nat, (j : Int) < 5 * dt 79 10 → dt189 82 j = dt 82 j := fun j hj => (hF191 82 (by decide) j).trans ((fun _ _ => rfl) j hj)
        have y201 : dt189 82 ((5 * (dt 79 10))).toNat = dt 82 ((5 * (dt 79 10))).toNat := hF191 82 (by decide) _
        have y202 : dt189 82 ((5 * (dt 79 10)) + 1).toNat = dt 82 ((5 * (dt 79 10)) + 1).toNat := hF191 82 (by decide) _
        have y203 : dt189 82 ((5 * (dt 79 10)) + 2).toNat = dt 82 ((5 * (dt 79 10)) + 2).toNat := hF191 82 (by decide) _
        have y204 : dt189 82 ((5 * (dt 79 10)) + 3).toNat = dt 82 ((5 * (dt 79 10)) + 3).toNat := hF191 82 (by decide) _
        have y205 : dt189 82 ((5 * (dt 79 10)) + 4).toNat = dt 82 ((5 * (dt 79 10)) + 4).toNat := hF191 82 (by decide) _
        clear h188_3 h188_4 h188_5 h188_6 h188_7 h188_8
        have r206 : 0 ≤ dt189 79 10 ∧ dt189 79 10 ≤ 24 := InvC_get hI190 79 10 rfl rfl
        refine go_toq PM172 (k := 7) (pc' := 58) (L' := [some (.inr (.inr (some 79))), some (.inl 2)]) (st' := [.inl 2, .inl (5 * (dt189 79 10)), .inr (.inr (some 82))]) (w' := (SH, dt189)) rfl ?_
        have hI207 : InvC (u2 dt189 82 ((5 * (dt189 79 10)).toNat) 2) := InvC_u2 hI190 (lo := -2147483648) (hi := 2147483647) rfl rfl rfl (by decide) (by decide)
        have hF208 : Fr [79, 82] dt (u2 dt189 82 ((5 * (dt189 79 10)).toNat) 2) := Fr_u2 hF192 (by decide)
        have w209 : (u2 dt189 82 ((5 * (dt189 79 10)).toNat) 2) 79 2 = dt 79 2 := w194
        have w210 : (u2 dt189 82 ((5 * (dt189 79 10)).toNat) 2) 79 9 = dt 79 9 := w195
        have w211 : (u2 dt189 82 ((5 * (dt189 79 10)).toNat) 2) 79 10 = dt 79 10 := w196
        have w212 : (u2 dt189 82 ((5 * (dt189 79 10)).toNat) 2) 79 11 = dt 79 11 := w197
        have w213 : (u2 dt189 82 ((5 * (dt189 79 10)).toNat) 2) 79 12 = dt 79 12 := w198
        have w214 : (u2 dt189 82 ((5 * (dt189 79 10)).toNat) 2) 79 13 = dt189 79 13 := rfl
        have w215 : (u2 dt189 82 ((5 * (dt189 79 10)).toNat) 2) 79 14 = dt189 79 14 := rfl
        have w216 : (u2 dt189 82 ((5 * (dt189 79 10)).toNat) 2) 79 15 = dt189 79 15 := rfl
        have w217 : (u2 dt189 82 ((5 * (dt189 79 10)).toNat) 2) 79 16 = dt189 79 16 := rfl
        have w218 : (u2 dt189 82 ((5 * (dt189 79 10)).toNat) 2) 79 20 = dt 79 20 := w199
        have E84219 : (u2 dt189 82 ((5 * (dt189 79 10)).toNat) 2) 84 = dt 84 := (funext fun _ => rfl).trans E84193
        have ex221 : ((5 * (dt 79 10))).toNat = (5 * (dt189 79 10)).toNat := by rw [show dt189 79 10 = dt 79 10 from w211]
        have BL220 : ∀ j : Nat, (j : Int) < 5 * dt 79 10 → (u2 dt189 82 ((5 * (dt189 79 10)).toNat) 2) 82 j = dt 82 j := fun j hj => (u2_ne (fun z_ => xb0 hj (z_.2.trans ex221.symm))).trans (BL200 j hj)
        have y222 : (u2 dt189 82 ((5 * (dt189 79 10)).toNat) 2) 82 ((5 * (dt 79 10))).toNat = 2 := by rw [ex221]; exact u2_eq
        have y223 : (u2 dt189 82 ((5 * (dt189 79 10)).toNat) 2) 82 ((5 * (dt 79 10)) + 1).toNat = dt 82 ((5 * (dt 79 10)) + 1).toNat := (u2_ne (fun z_ => (fun y_ => xr0 hA0 (by decide) y_.symm) (z_.2.trans ex221.symm))).trans y202
        have y224 : (u2 dt189 82 ((5 * (dt189 79 10)).toNat) 2) 82 ((5 * (dt 79 10)) + 2).toNat = dt 82 ((5 * (dt 79 10)) + 2).toNat := (u2_ne (fun z_ => (fun y_ => xr0 hA0 (by decide) y_.symm) (z_.2.trans ex221.symm))).trans y203
        have y225 : (u2 dt189 82 ((5 * (dt189 79 10)).toNat) 2) 82 ((5 * (dt 79 10)) + 3).toNat = dt 82 ((5 * (dt 79 10)) + 3).toNat := (u2_ne (fun z_ => (fun y_ => xr0 hA0 (by decide) y_.symm) (z_.2.trans ex221.symm))).trans y204
        have y226 : (u2 dt189 82 ((5 * (dt189 79 10)).toNat) 2) 82 ((5 * (dt 79 10)) + 4).toNat = dt 82 ((5 * (dt 79 10)) + 4).toNat := (u2_ne (fun z_ => (fun y_ => xr0 hA0 (by decide) y_.symm) (z_.2.trans ex221.symm))).trans y205
        clear y201 y202 y203 y204 y205
        refine go_smpq PM172 (L' := [some (.inr (.inr (some 79))), some (.inl 2)]) (st' := []) (w' := (SH, (u2 dt189 82 ((5 * (dt189 79 10)).toNat) 2))) rfl rfl (s_iast (n := 120) rfl ⟨by omega, by omega⟩ ⟨by decide, by decide⟩) ?_
        refine go_toq PM172 (k := 6) (pc' := 72) (L' := [some (.inr (.inr (some 79))), some (.inl 2)]) (st' := [.inl 3, .inl 1, .inr (.inr (some 79))]) (w' := (SH, (u2 dt189 82 ((5 * (dt189 79 10)).toNat) 2))) rfl ?_
        refine go_callq PM172 PM171 (Q' := _) rfl rfl rfl rfl (sp_X6_argument L xs sio (d + 0) (u2 dt189 82 ((5 * (dt189 79 10)).toNat) 2) hI207  1 ⟨by decide, by decide⟩ 3 ⟨by decide, by decide⟩ (by first | exact True.intro | with_reducible assumption | exact unhid (by with_reducible assumption) | rfl | omega | trivial) (by first | exact True.intro | with_reducible assumption | exact unhid (by with_reducible assumption) | rfl | omega | trivial)) ?_
        rintro _ _ ⟨dt228, rfl, hI229, hF230, h227⟩
        refine ⟨rfl, ?_⟩
        have hF231 : Fr [79, 82] dt dt228 := Fr_tr hF208 hF230 (by decide)
        have E84232 : dt228 84 = dt 84 := (funext (hF230 84 (by decide))).trans E84219
        rcases h227 with ⟨rfl, h227⟩ | ⟨rfl, h227⟩
        · skip
          obtain ⟨h227_0, h227_1, h227_2, h227_3⟩ := h227
          have w233 : dt228 79 2 = dt 79 2 := h227_0.trans w209
          have w234 : dt228 79 9 = dt 79 9 := h227_1.trans w210
          have w235 : dt228 79 10 = dt 79 10 := h227_2.trans w211
          have w236 : dt228 79 12 = dt 79 12 := h227_3.trans w213
          clear h227_0 w209 h227_1 w210 h227_2 w211 h227_3 w213
          refine go_retq PM172 (k := 2) (r := some (.inl 0)) (w1 := (SH, dt228)) rfl ?_
          exact ⟨dt228, rfl, hI229, hF231, (Or.inl ⟨rfl, ⟨by first | exact True.intro | with_reducible assumption | exact unhid (by with_reducible assumption) | rfl | fail | trivial, by first | exact True.intro | with_reducible assumption | exact unhid (by with_reducible assumption) | rfl | fail | trivial, by first | exact True.intro | with_reducible assumption | exact unhid (by with_reducible assumption) | rfl | fail | trivial⟩⟩)⟩
        · skip
          obtain ⟨h227_0, h227_1, h227_2, h227_3, h227_4, h227_5, h227_6, h227_7, h227_8, h227_9, h227_10⟩ := h227
          have w237 : dt228 79 2 = dt 79 2 := h227_5.trans w209
          have w238 : dt228 79 9 = dt 79 9 := h227_6.trans w210
          have w239 : dt228 79 10 = dt 79 10 := h227_7.trans w211
          have w240 : dt228 79 11 = dt 79 11 := h227_8.trans w212
          have w241 : dt228 79 12 = dt 79 12 := h227_9.trans w213
          have w242 : dt228 79 20 = dt 79 20 := h227_10.trans w218
          clear h188_1
          have ee243 : (u2 dt189 82 ((5 * (dt189 79 10)).toNat) 2) 79 10 = dt 79 10 := by omega
          rw [ee243] at h227_0 h227_1
          have BL244 : ∀ j : Nat, (j : Int) < 5 * dt 79 10 → dt228 82 j = dt 82 j := fun j hj => (h227_0 j (blq hj (by decide))).trans (BL220 j hj)
          have y245 : dt228 82 ((5 * (dt 79 10))).toNat = 2 := (h227_0 _ (xq0 hL0 (by decide))).trans y222
          have y246 : dt228 82 ((5 * (dt 79 10)) + 2).toNat = dt 82 ((5 * (dt 79 10)) + 2).toNat := (h227_0 _ (xq hL0 (by decide) (by decide))).trans y224
          have y247 : dt228 82 ((5 * (dt 79 10)) + 3).toNat = dt 82 ((5 * (dt 79 10)) + 3).toNat := (h227_0 _ (xq hL0 (by decide) (by decide))).trans y225
          have y248 : dt228 82 ((5 * (dt 79 10)) + 4).toNat = dt 82 ((5 * (dt 79 10)) + 4).toNat := (h227_0 _ (xq hL0 (by decide) (by decide))).trans y226
          have y249 := h227_1 ((5 * (dt 79 10)) + 1) rfl
          clear y222 y224 y225 y226 y223
          clear h227_5 w209 h227_6 w210 h227_7 w211 h227_8 w212 h227_9 w213 h227_10 w218
          refine go_toq PM172 (k := 10) (pc' := 148) (L' := [some (.inr (.inr (some 79))), some (.inl 2)]) (st' := [.inl 2, .inl 2, .inr (.inr (some 79))]) (w' := (SH, dt228)) rfl ?_
          refine go_callq PM172 PM171 (Q' := _) rfl rfl rfl rfl (sp_X6_argument L xs sio (d + 0) dt228 hI229  2 ⟨by decide, by decide⟩ 2 ⟨by decide, by decide⟩ (by first | exact True.intro | with_reducible assumption | exact unhid (by with_reducible assumption) | rfl | fail | trivial) (by first | exact True.intro | with_reducible assumption | exact unhid (by with_reducible assumption) | rfl | omega | trivial)) ?_
          rintro _ _ ⟨dt251, rfl, hI252, hF253, h250⟩
          refine ⟨rfl, ?_⟩
          have hF254 : Fr [79, 82] dt dt251 := Fr_tr hF231 hF253 (by decide)
          have E84255 : dt251 84 = dt 84 := (funext (hF253 84 (by decide))).trans E84232
          rcases h250 with ⟨rfl, h250⟩ | ⟨rfl, h250⟩
          · skip
            obtain ⟨h250_0, h250_1, h250_2, h250_3⟩ := h250
            have w256 : dt251 79 2 = dt 79 2 := h250_0.trans w237
            have w257 : dt251 79 9 = dt 79 9 := h250_1.trans w238
            have w258 : dt251 79 10 = dt 79 10 := h250_2.trans w239
            have w259 : dt251 79 12 = dt 79 12 := h250_3.trans w241
            clear h250_0 w237 h250_1 w238 h250_2 h250_3 w241
            refine go_retq PM172 (k := 2) (r := some (.inl 0)) (w1 := (SH, dt251)) rfl ?_
            exact ⟨dt251, rfl, hI252, hF254, (Or.inl ⟨rfl, ⟨by first | exact True.intro | with_reducible assumption | exact unhid (by with_reducible assumption) | rfl | fail | trivial, by first | exact True.intro | with_reducible assumption | exact unhid (by with_reducible assumption) | rfl | fail | trivial, by first | exact True.intro | with_reducible assumption | exact unhid (by with_reducible assumption) | rfl | fail | trivial⟩⟩)⟩
          · skip
            obtain ⟨h250_0, h250_1, h250_2, h250_3, h250_4, h250_5, h250_6, h250_7, h250_8, h250_9, h250_10⟩ := h250
            have w260 : dt251 79 2 = dt 79 2 := h250_5.trans w237
            have w261 : dt251 79 9 = dt 79 9 := h250_6.trans w238
            have w262 : dt251 79 10 = dt 79 10 := h250_7.trans w239
            have w263 : dt251 79 11 = dt 79 11 := h250_8.trans w240
            have w264 : dt251 79 12 = dt 79 12 := h250_9.trans w241
            have w265 : dt251 79 20 = dt 79 20 := h250_10.trans w242
            clear h227_3
            have ee266 : dt228 79 10 = dt 79 10 := by omega
            rw [ee266] at h250_0 h250_1
            have BL267 : ∀ j : Nat, (j : Int) < 5 * dt 79 10 → dt251 82 j = dt 82 j := fun j hj => (h250_0 j (blq hj (by decide))).trans (BL244 j hj)
            have y268 : dt251 82 ((5 * (dt 79 10))).toNat = 2 := (h250_0 _ (xq0 hL0 (by decide))).trans y245
            have y269 : dt251 82 ((5 * (dt 79 10)) + 1).toNat = dt228 82 ((5 * (dt 79 10)) + 1).toNat := h250_0 _ (xq hL0 (by decide) (by decide))
            have y270 : dt251 82 ((5 * (dt 79 10)) + 3).toNat = dt 82 ((5 * (dt 79 10)) + 3).toNat := (h250_0 _ (xq hL0 (by decide) (by decide))).trans y247
            have y271 : dt251 82 ((5 * (dt 79 10)) + 4).toNat = dt 82 ((5 * (dt 79 10)) + 4).toNat := (h250_0 _ (xq hL0 (by decide) (by decide))).trans y248
            have y272 := h250_1 ((5 * (dt 79 10)) + 2) rfl
            clear y245 y247 y248 y246
            clear h250_5 w237 h250_6 w238 h250_7 h250_8 h250_9 w241 h250_10 w242
            refine go_toq PM172 (k := 7) (pc' := 179) (L' := [some (.inr (.inr (some 79))), some (.inl 2)]) (st' := [.inl 3, .inl 3, .inr (.inr (some 79))]) (w' := (SH, dt251)) rfl ?_
            refine go_callq PM172 PM171 (Q' := _) rfl rfl rfl rfl (sp_X6_argument L xs sio (d + 0) dt251 hI252  3 ⟨by decide, by decide⟩ 3 ⟨by decide, by decide⟩ (by first | exact True.intro | with_reducible assumption | exact unhid (by with_reducible assumption) | rfl | fail | trivial) (by first | exact True.intro | with_reducible assumption | exact unhid (by with_reducible assumption) | rfl | omega | trivial)) ?_
            rintro _ _ ⟨dt274, rfl, hI275, hF276, h273⟩
            refine ⟨rfl, ?_⟩
            have hF277 : Fr [79, 82] dt dt274 := Fr_tr hF254 hF276 (by decide)
            have E84278 : dt274 84 = dt 84 := (funext (hF276 84 (by decide))).trans E84255
            rcases h273 with ⟨rfl, h273⟩ | ⟨rfl, h273⟩
            · skip
              obtain ⟨h273_0, h273_1, h273_2, h273_3⟩ := h273
              have w279 : dt274 79 2 = dt 79 2 := h273_0.trans w260
              have w280 : dt274 79 9 = dt 79 9 := h273_1.trans w261
              have w281 : dt274 79 10 = dt 79 10 := h273_2.trans w262
              have w282 : dt274 79 12 = dt 79 12 := h273_3.trans w264
              clear h273_0 w260 h273_1 w261 h273_2 h273_3 w264
              refine go_retq PM172 (k := 2) (r := some (.inl 0)) (w1 := (SH, dt274)) rfl ?_
              exact ⟨dt274, rfl, hI275, hF277, (Or.inl ⟨rfl, ⟨by first | exact True.intro | with_reducible assumption | exact unhid (by with_reducible assumption) | rfl | fail | trivial, by first | exact True.intro | with_reducible assumption | exact unhid (by with_reducible assumption) | rfl | fail | trivial, by first | exact True.intro | with_reducible assumption | exact unhid (by with_reducible assumption) | rfl | fail | trivial⟩⟩)⟩
            · skip
              obtain ⟨h273_0, h273_1, h273_2, h273_3, h273_4, h273_5, h273_6, h273_7, h273_8, h273_9, h273_10⟩ := h273
              have w283 : dt274 79 2 = dt 79 2 := h273_5.trans w260
              have w284 : dt274 79 9 = dt 79 9 := h273_6.trans w261
              have w285 : dt274 79 10 = dt 79 10 := h273_7.trans w262
              have w286 : dt274 79 11 = dt 79 11 := h273_8.trans w263
              have w287 : dt274 79 12 = dt 79 12 := h273_9.trans w264
              have w288 : dt274 79 20 = dt 79 20 := h273_10.trans w265
              clear h250_3
              have ee289 : dt251 79 10 = dt 79 10 := by omega
              rw [ee289] at h273_0 h273_1
              have BL290 : ∀ j : Nat, (j : Int) < 5 * dt 79 10 → dt274 82 j = dt 82 j := fun j hj => (h273_0 j (blq hj (by decide))).trans (BL267 j hj)
              have y291 : dt274 82 ((5 * (dt 79 10))).toNat = 2 := (h273_0 _ (xq0 hL0 (by decide))).trans y268
              have y292 : dt274 82 ((5 * (dt 79 10)) + 1).toNat = dt228 82 ((5 * (dt 79 10)) + 1).toNat := (h273_0 _ (xq hL0 (by decide) (by decide))).trans y269
              have y293 : dt274 82 ((5 * (dt 79 10)) + 2).toNat = dt251 82 ((5 * (dt 79 10)) + 2).toNat := h273_0 _ (xq hL0 (by decide) (by decide))
              have y294 : dt274 82 ((5 * (dt 79 10)) + 4).toNat = dt 82 ((5 * (dt 79 10)) + 4).toNat := (h273_0 _ (xq hL0 (by decide) (by decide))).trans y271
              have y295 := h273_1 ((5 * (dt 79 10)) + 3) rfl
              clear y268 y269 y271 y270
              clear h273_5 w260 h273_6 w261 h273_7 h273_8 h273_9 w264 h273_10 w265
              refine go_toq PM172 (k := 6) (pc' := 208) (L' := [some (.inr (.inr (some 79))), some (.inl 2)]) (st' := [.inl 159, .inr (.inr (some 79))]) (w' := (SH, dt274)) rfl ?_
              refine go_callq PM172 PM161 (Q' := _) rfl rfl rfl rfl (sp_X6_need0 L xs sio (d + 1) dt274 hI275  159 ⟨by decide, by decide⟩ (by first | exact True.intro | with_reducible assumption | exact unhid (by with_reducible assumption) | rfl | fail | trivial)) ?_
              rintro _ _ ⟨dt297, rfl, hI298, hF299, h296⟩
              refine ⟨rfl, ?_⟩
              have hF300 : Fr [79, 82] dt dt297 := Fr_tr hF277 hF299 (by decide)
              have E84301 : dt297 84 = dt 84 := (funext (hF299 84 (by decide))).trans E84278
              rcases h296 with ⟨rfl, h296⟩ | ⟨rfl, h296⟩
              · skip
                obtain ⟨h296_0, h296_1, h296_2, h296_3⟩ := h296
                have w302 : dt297 79 2 = dt 79 2 := h296_0.trans w283
                have w303 : dt297 79 9 = dt 79 9 := h296_1.trans w284
                have w304 : dt297 79 10 = dt 79 10 := h296_2.trans w285
                have w305 : dt297 79 12 = dt 79 12 := h296_3.trans w287
                have BL306 : ∀ j : Nat, (j : Int) < 5 * dt 79 10 → dt297 82 j = dt 82 j := fun j hj => (hF299 82 (by decide) j).trans (BL290 j hj)
                have y307 : dt297 82 ((5 * (dt 79 10))).toNat = 2 := (hF299 82 (by decide) _).trans y291
                have y308 : dt297 82 ((5 * (dt 79 10)) + 1).toNat = dt228 82 ((5 * (dt 79 10)) + 1).toNat := (hF299 82 (by decide) _).trans y292
                have y309 : dt297 82 ((5 * (dt 79 10)) + 2).toNat = dt251 82 ((5 * (dt 79 10)) + 2).toNat := (hF299 82 (by decide) _).trans y293
                have y310 : dt297 82 ((5 * (dt 79 10)) + 3).toNat = dt274 82 ((5 * (dt 79 10)) + 3).toNat := hF299 82 (by decide) _
                have y311 : dt297 82 ((5 * (dt 79 10)) + 4).toNat = dt 82 ((5 * (dt 79 10)) + 4).toNat := (hF299 82 (by decide) _).trans y294
                clear y291 y292 y293 y294
                clear h296_0 w283 h296_1 w284 h296_2 h296_3 w287
                refine go_retq PM172 (k := 0) (r := some (.inl 0)) (w1 := (SH, dt297)) rfl ?_
                exact ⟨dt297, rfl, hI298, hF300, (Or.inl ⟨rfl, ⟨by first | exact True.intro | with_reducible assumption | exact unhid (by with_reducible assumption) | rfl | fail | trivial, by first | exact True.intro | with_reducible assumption | exact unhid (by with_reducible assumption) | rfl | fail | trivial, by first | exact True.intro | with_reducible assumption | exact unhid (by with_reducible assumption) | rfl | fail | trivial⟩⟩)⟩
              · skip
                obtain ⟨h296_0, h296_1, h296_2, h296_3, h296_4, h296_5, h296_6, h296_7, h296_8⟩ := h296
                have w312 : dt297 79 2 = dt 79 2 := h296_3.trans w283
                have w313 : dt297 79 9 = dt 79 9 := h296_4.trans w284
                have w314 : dt297 79 10 = dt 79 10 := h296_5.trans w285
                have w315 : dt297 79 11 = dt 79 11 := h296_6.trans w286
                have w316 : dt297 79 12 = dt 79 12 := h296_7.trans w287
                have w317 : dt297 79 20 = dt 79 20 := h296_8.trans w288
                clear h273_3
                have BL318 : ∀ j : Nat, (j : Int) < 5 * dt 79 10 → dt297 82 j = dt 82 j := fun j hj => (hF299 82 (by decide) j).trans (BL290 j hj)
                have y319 : dt297 82 ((5 * (dt 79 10))).toNat = 2 := (hF299 82 (by decide) _).trans y291
                have y320 : dt297 82 ((5 * (dt 79 10)) + 1).toNat = dt228 82 ((5 * (dt 79 10)) + 1).toNat := (hF299 82 (by decide) _).trans y292
                have y321 : dt297 82 ((5 * (dt 79 10)) + 2).toNat = dt251 82 ((5 * (dt 79 10)) + 2).toNat := (hF299 82 (by decide) _).trans y293
                have y322 : dt297 82 ((5 * (dt 79 10)) + 3).toNat = dt274 82 ((5 * (dt 79 10)) + 3).toNat := hF299 82 (by decide) _
                have y323 : dt297 82 ((5 * (dt 79 10)) + 4).toNat = dt 82 ((5 * (dt 79 10)) + 4).toNat := (hF299 82 (by decide) _).trans y294
                clear y291 y292 y293 y294
                clear h296_3 w283 h296_4 w284 h296_5 h296_6 h296_7 w287 h296_8 w288
                refine go_retq PM172 (k := 0) (r := some (.inl 1)) (w1 := (SH, dt297)) rfl ?_
                exact ⟨dt297, rfl, hI298, hF300, (Or.inr ⟨rfl, ⟨by first | exact True.intro | with_reducible assumption | exact unhid (by with_reducible assumption) | rfl | fail | trivial, by exact BL318, by unfold aOK; omega, by first | exact True.intro | with_reducible assumption | exact unhid (by with_reducible assumption) | rfl | omega | trivial, by first | exact True.intro | with_reducible assumption | exact unhid (by with_reducible assumption) | rfl | fail | trivial, by exact (InvC_get (by assumption) 79 15 rfl rfl).2, by first | exact True.intro | with_reducible assumption | exact unhid (by with_reducible assumption) | rfl | fail | trivial, by first | exact True.intro | with_reducible assumption | exact unhid (by with_reducible assumption) | rfl | fail | trivial, by first | exact True.intro | with_reducible assumption | exact unhid (by with_reducible assumption) | rfl | fail | trivial, by first | exact True.intro | with_reducible assumption | exact unhid (by with_reducible assumption) | rfl | fail | trivial, by first | exact True.intro | with_reducible assumption | exact unhid (by with_reducible assumption) | rfl | fail | trivial⟩⟩)⟩
      · rw [hc7]
        refine go_toq PM172 (k := 1) (pc' := 44) (L' := [some (.inr (.inr (some 79))), some (.inl 3)]) (st' := [.inr (.inr (some 79))]) (w' := (SH, dt)) rfl ?_
        refine go_callq PM172 PM159 (Q' := _) rfl rfl rfl rfl (sp_X6_next0 L xs sio (d + 2) dt hI   (by first | exact True.intro | with_reducible assumption | exact unhid (by with_reducible assumption) | rfl | omega | trivial)) ?_
        rintro _ _ ⟨dt325, rfl, hI326, hF327, h324⟩
        refine ⟨rfl, ?_⟩
        have hF328 : Fr [79, 82] dt dt325 := Fr_tr hF hF327 (by decide)
        have E84329 : dt325 84 = dt 84 := funext (hF327 84 (by decide))
        rcases h324 with ⟨rfl, h324⟩
        obtain ⟨h324_0, h324_1, h324_2, h324_3, h324_4, h324_5, h324_6, h324_7, h324_8⟩ := h324
        have w330 : dt325 79 2 = dt 79 2 := h324_3
        have w331 : dt325 79 9 = dt 79 9 := h324_4
        have w332 : dt325 79 10 = dt 79 10 := h324_5
        have w333 : dt325 79 11 = dt 79 11 := h324_6
        have w334 : dt325 79 12 = dt 79 12 := h324_7
        have w335 : dt325 79 20 = dt 79 20 := h324_8
        have hadv0 : dt 79 15 + 1 ≤ dt 79 13 := by omega
        clear h_p0
        have BL336 : ∀ j : Nat, (j : Int) < 5 * dt 79 10 → dt325 82 j = dt 82 j := fun j hj => (hF327 82 (by decide) j).trans ((fun _ _ => rfl) j hj)
        have y337 : dt325 82 ((5 * (dt 79 10))).toNat = dt 82 ((5 * (dt 79 10))).toNat := hF327 82 (by decide) _
        have y338 : dt325 82 ((5 * (dt 79 10)) + 1).toNat = dt 82 ((5 * (dt 79 10)) + 1).toNat := hF327 82 (by decide) _
        have y339 : dt325 82 ((5 * (dt 79 10)) + 2).toNat = dt 82 ((5 * (dt 79 10)) + 2).toNat := hF327 82 (by decide) _
        have y340 : dt325 82 ((5 * (dt 79 10)) + 3).toNat = dt 82 ((5 * (dt 79 10)) + 3).toNat := hF327 82 (by decide) _
        have y341 : dt325 82 ((5 * (dt 79 10)) + 4).toNat = dt 82 ((5 * (dt 79 10)) + 4).toNat := hF327 82 (by decide) _
        clear h324_3 h324_4 h324_5 h324_6 h324_7 h324_8
        have r342 : 0 ≤ dt325 79 10 ∧ dt325 79 10 ≤ 24 := InvC_get hI326 79 10 rfl rfl
        refine go_toq PM172 (k := 7) (pc' := 58) (L' := [some (.inr (.inr (some 79))), some (.inl 3)]) (st' := [.inl 3, .inl (5 * (dt325 79 10)), .inr (.inr (some 82))]) (w' := (SH, dt325)) rfl ?_
        have hI343 : InvC (u2 dt325 82 ((5 * (dt325 79 10)).toNat) 3) := InvC_u2 hI326 (lo := -2147483648) (hi := 2147483647) rfl rfl rfl (by decide) (by decide)
        have hF344 : Fr [79, 82] dt (u2 dt325 82 ((5 * (dt325 79 10)).toNat) 3) := Fr_u2 hF328 (by decide)
        have w345 : (u2 dt325 82 ((5 * (dt325 79 10)).toNat) 3) 79 2 = dt 79 2 := w330
        have w346 : (u2 dt325 82 ((5 * (dt325 79 10)).toNat) 3) 79 9 = dt 79 9 := w331
        have w347 : (u2 dt325 82 ((5 * (dt325 79 10)).toNat) 3) 79 10 = dt 79 10 := w332
        have w348 : (u2 dt325 82 ((5 * (dt325 79 10)).toNat) 3) 79 11 = dt 79 11 := w333
        have w349 : (u2 dt325 82 ((5 * (dt325 79 10)).toNat) 3) 79 12 = dt 79 12 := w334
        have w350 : (u2 dt325 82 ((5 * (dt325 79 10)).toNat) 3) 79 13 = dt325 79 13 := rfl
        have w351 : (u2 dt325 82 ((5 * (dt325 79 10)).toNat) 3) 79 14 = dt325 79 14 := rfl
        have w352 : (u2 dt325 82 ((5 * (dt325 79 10)).toNat) 3) 79 15 = dt325 79 15 := rfl
        have w353 : (u2 dt325 82 ((5 * (dt325 79 10)).toNat) 3) 79 16 = dt325 79 16 := rfl
        have w354 : (u2 dt325 82 ((5 * (dt325 79 10)).toNat) 3) 79 20 = dt 79 20 := w335
        have E84355 : (u2 dt325 82 ((5 * (dt325 79 10)).toNat) 3) 84 = dt 84 := (funext fun _ => rfl).trans E84329
        have ex357 : ((5 * (dt 79 10))).toNat = (5 * (dt325 79 10)).toNat := by rw [show dt325 79 10 = dt 79 10 from w347]
        have BL356 : ∀ j : Nat, (j : Int) < 5 * dt 79 10 → (u2 dt325 82 ((5 * (dt325 79 10)).toNat) 3) 82 j = dt 82 j := fun j hj => (u2_ne (fun z_ => xb0 hj (z_.2.trans ex357.symm))).trans (BL336 j hj)
        have y358 : (u2 dt325 82 ((5 * (dt325 79 10)).toNat) 3) 82 ((5 * (dt 79 10))).toNat = 3 := by rw [ex357]; exact u2_eq
        have y359 : (u2 dt325 82 ((5 * (dt325 79 10)).toNat) 3) 82 ((5 * (dt 79 10)) + 1).toNat = dt 82 ((5 * (dt 79 10)) + 1).toNat := (u2_ne (fun z_ => (fun y_ => xr0 hA0 (by decide) y_.symm) (z_.2.trans ex357.symm))).trans y338
        have y360 : (u2 dt325 82 ((5 * (dt325 79 10)).toNat) 3) 82 ((5 * (dt 79 10)) + 2).toNat = dt 82 ((5 * (dt 79 10)) + 2).toNat := (u2_ne (fun z_ => (fun y_ => xr0 hA0 (by decide) y_.symm) (z_.2.trans ex357.symm))).trans y339
        have y361 : (u2 dt325 82 ((5 * (dt325 79 10)).toNat) 3) 82 ((5 * (dt 79 10)) + 3).toNat = dt 82 ((5 * (dt 79 10)) + 3).toNat := (u2_ne (fun z_ => (fun y_ => xr0 hA0 (by decide) y_.symm) (z_.2.trans ex357.symm))).trans y340
        have y362 : (u2 dt325 82 ((5 * (dt325 79 10)).toNat) 3) 82 ((5 * (dt 79 10)) + 4).toNat = dt 82 ((5 * (dt 79 10)) + 4).toNat := (u2_ne (fun z_ => (fun y_ => xr0 hA0 (by decide) y_.symm) (z_.2.trans ex357.symm))).trans y341
        clear y337 y338 y339 y340 y341
        refine go_smpq PM172 (L' := [some (.inr (.inr (some 79))), some (.inl 3)]) (st' := []) (w' := (SH, (u2 dt325 82 ((5 * (dt325 79 10)).toNat) 3))) rfl rfl (s_iast (n := 120) rfl ⟨by omega, by omega⟩ ⟨by decide, by decide⟩) ?_
        refine go_toq PM172 (k := 6) (pc' := 72) (L' := [some (.inr (.inr (some 79))), some (.inl 3)]) (st' := [.inl 3, .inl 1, .inr (.inr (some 79))]) (w' := (SH, (u2 dt325 82 ((5 * (dt325 79 10)).toNat) 3))) rfl ?_
        refine go_callq PM172 PM171 (Q' := _) rfl rfl rfl rfl (sp_X6_argument L xs sio (d + 0) (u2 dt325 82 ((5 * (dt325 79 10)).toNat) 3) hI343  1 ⟨by decide, by decide⟩ 3 ⟨by decide, by decide⟩ (by first | exact True.intro | with_reducible assumption | exact unhid (by with_reducible assumption) | rfl | omega | trivial) (by first | exact True.intro | with_reducible assumption | exact unhid (by with_reducible assumption) | rfl | omega | trivial)) ?_
        rintro _ _ ⟨dt364, rfl, hI365, hF366, h363⟩
        refine ⟨rfl, ?_⟩
        have hF367 : Fr [79, 82] dt dt364 := Fr_tr hF344 hF366 (by decide)
        have E84368 : dt364 84 = dt 84 := (funext (hF366 84 (by decide))).trans E84355
        rcases h363 with ⟨rfl, h363⟩ | ⟨rfl, h363⟩
        · skip
          obtain ⟨h363_0, h363_1, h363_2, h363_3⟩ := h363
          have w369 : dt364 79 2 = dt 79 2 := h363_0.trans w345
          have w370 : dt364 79 9 = dt 79 9 := h363_1.trans w346
          have w371 : dt364 79 10 = dt 79 10 := h363_2.trans w347
          have w372 : dt364 79 12 = dt 79 12 := h363_3.trans w349
          clear h363_0 w345 h363_1 w346 h363_2 w347 h363_3 w349
          refine go_retq PM172 (k := 2) (r := some (.inl 0)) (w1 := (SH, dt364)) rfl ?_
          exact ⟨dt364, rfl, hI365, hF367, (Or.inl ⟨rfl, ⟨by first | exact True.intro | with_reducible assumption | exact unhid (by with_reducible assumption) | rfl | fail | trivial, by first | exact True.intro | with_reducible assumption | exact unhid (by with_reducible assumption) | rfl | fail | trivial, by first | exact True.intro | with_reducible assumption | exact unhid (by with_reducible assumption) | rfl | fail | trivial⟩⟩)⟩
        · skip
          obtain ⟨h363_0, h363_1, h363_2, h363_3, h363_4, h363_5, h363_6, h363_7, h363_8, h363_9, h363_10⟩ := h363
          have w373 : dt364 79 2 = dt 79 2 := h363_5.trans w345
          have w374 : dt364 79 9 = dt 79 9 := h363_6.trans w346
          have w375 : dt364 79 10 = dt 79 10 := h363_7.trans w347
          have w376 : dt364 79 11 = dt 79 11 := h363_8.trans w348
          have w377 : dt364 79 12 = dt 79 12 := h363_9.trans w349
          have w378 : dt364 79 20 = dt 79 20 := h363_10.trans w354
          clear h324_1
          have ee379 : (u2 dt325 82 ((5 * (dt325 79 10)).toNat) 3) 79 10 = dt 79 10 := by omega
          rw [ee379] at h363_0 h363_1
          have BL380 : ∀ j : Nat, (j : Int) < 5 * dt 79 10 → dt364 82 j = dt 82 j := fun j hj => (h363_0 j (blq hj (by decide))).trans (BL356 j hj)
          have y381 : dt364 82 ((5 * (dt 79 10))).toNat = 3 := (h363_0 _ (xq0 hL0 (by decide))).trans y358
          have y382 : dt364 82 ((5 * (dt 79 10)) + 2).toNat = dt 82 ((5 * (dt 79 10)) + 2).toNat := (h363_0 _ (xq hL0 (by decide) (by decide))).trans y360
          have y383 : dt364 82 ((5 * (dt 79 10)) + 3).toNat = dt 82 ((5 * (dt 79 10)) + 3).toNat := (h363_0 _ (xq hL0 (by decide) (by decide))).trans y361
          have y384 : dt364 82 ((5 * (dt 79 10)) + 4).toNat = dt 82 ((5 * (dt 79 10)) + 4).toNat := (h363_0 _ (xq hL0 (by decide) (by decide))).trans y362
          have y385 := h363_1 ((5 * (dt 79 10)) + 1) rfl
          clear y358 y360 y361 y362 y359
          clear h363_5 w345 h363_6 w346 h363_7 w347 h363_8 w348 h363_9 w349 h363_10 w354
          refine go_toq PM172 (k := 13) (pc' := 148) (L' := [some (.inr (.inr (some 79))), some (.inl 3)]) (st' := [.inl 2, .inl 2, .inr (.inr (some 79))]) (w' := (SH, dt364)) rfl ?_
          refine go_callq PM172 PM171 (Q' := _) rfl rfl rfl rfl (sp_X6_argument L xs sio (d + 0) dt364 hI365  2 ⟨by decide, by decide⟩ 2 ⟨by decide, by decide⟩ (by first | exact True.intro | with_reducible assumption | exact unhid (by with_reducible assumption) | rfl | fail | trivial) (by first | exact True.intro | with_reducible assumption | exact unhid (by with_reducible assumption) | rfl | omega | trivial)) ?_
          rintro _ _ ⟨dt387, rfl, hI388, hF389, h386⟩
          refine ⟨rfl, ?_⟩
          have hF390 : Fr [79, 82] dt dt387 := Fr_tr hF367 hF389 (by decide)
          have E84391 : dt387 84 = dt 84 := (funext (hF389 84 (by decide))).trans E84368
          rcases h386 with ⟨rfl, h386⟩ | ⟨rfl, h386⟩
          · skip
            obtain ⟨h386_0, h386_1, h386_2, h386_3⟩ := h386
            have w392 : dt387 79 2 = dt 79 2 := h386_0.trans w373
            have w393 : dt387 79 9 = dt 79 9 := h386_1.trans w374
            have w394 : dt387 79 10 = dt 79 10 := h386_2.trans w375
            have w395 : dt387 79 12 = dt 79 12 := h386_3.trans w377
            clear h386_0 w373 h386_1 w374 h386_2 h386_3 w377
            refine go_retq PM172 (k := 2) (r := some (.inl 0)) (w1 := (SH, dt387)) rfl ?_
            exact ⟨dt387, rfl, hI388, hF390, (Or.inl ⟨rfl, ⟨by first | exact True.intro | with_reducible assumption | exact unhid (by with_reducible assumption) | rfl | fail | trivial, by first | exact True.intro | with_reducible assumption | exact unhid (by with_reducible assumption) | rfl | fail | trivial, by first | exact True.intro | with_reducible assumption | exact unhid (by with_reducible assumption) | rfl | fail | trivial⟩⟩)⟩
          · skip
            obtain ⟨h386_0, h386_1, h386_2, h386_3, h386_4, h386_5, h386_6, h386_7, h386_8, h386_9, h386_10⟩ := h386
            have w396 : dt387 79 2 = dt 79 2 := h386_5.trans w373
            have w397 : dt387 79 9 = dt 79 9 := h386_6.trans w374
            have w398 : dt387 79 10 = dt 79 10 := h386_7.trans w375
            have w399 : dt387 79 11 = dt 79 11 := h386_8.trans w376
            have w400 : dt387 79 12 = dt 79 12 := h386_9.trans w377
            have w401 : dt387 79 20 = dt 79 20 := h386_10.trans w378
            clear h363_3
            have ee402 : dt364 79 10 = dt 79 10 := by omega
            rw [ee402] at h386_0 h386_1
            have BL403 : ∀ j : Nat, (j : Int) < 5 * dt 79 10 → dt387 82 j = dt 82 j := fun j hj => (h386_0 j (blq hj (by decide))).trans (BL380 j hj)
            have y404 : dt387 82 ((5 * (dt 79 10))).toNat = 3 := (h386_0 _ (xq0 hL0 (by decide))).trans y381
            have y405 : dt387 82 ((5 * (dt 79 10)) + 1).toNat = dt364 82 ((5 * (dt 79 10)) + 1).toNat := h386_0 _ (xq hL0 (by decide) (by decide))
            have y406 : dt387 82 ((5 * (dt 79 10)) + 3).toNat = dt 82 ((5 * (dt 79 10)) + 3).toNat := (h386_0 _ (xq hL0 (by decide) (by decide))).trans y383
            have y407 : dt387 82 ((5 * (dt 79 10)) + 4).toNat = dt 82 ((5 * (dt 79 10)) + 4).toNat := (h386_0 _ (xq hL0 (by decide) (by decide))).trans y384
            have y408 := h386_1 ((5 * (dt 79 10)) + 2) rfl
            clear y381 y383 y384 y382
            clear h386_5 w373 h386_6 w374 h386_7 h386_8 h386_9 w377 h386_10 w378
            refine go_toq PM172 (k := 10) (pc' := 179) (L' := [some (.inr (.inr (some 79))), some (.inl 3)]) (st' := [.inl 3, .inl 3, .inr (.inr (some 79))]) (w' := (SH, dt387)) rfl ?_
            refine go_callq PM172 PM171 (Q' := _) rfl rfl rfl rfl (sp_X6_argument L xs sio (d + 0) dt387 hI388  3 ⟨by decide, by decide⟩ 3 ⟨by decide, by decide⟩ (by first | exact True.intro | with_reducible assumption | exact unhid (by with_reducible assumption) | rfl | fail | trivial) (by first | exact True.intro | with_reducible assumption | exact unhid (by with_reducible assumption) | rfl | omega | trivial)) ?_
            rintro _ _ ⟨dt410, rfl, hI411, hF412, h409⟩
            refine ⟨rfl, ?_⟩
            have hF413 : Fr [79, 82] dt dt410 := Fr_tr hF390 hF412 (by decide)
            have E84414 : dt410 84 = dt 84 := (funext (hF412 84 (by decide))).trans E84391
            rcases h409 with ⟨rfl, h409⟩ | ⟨rfl, h409⟩
            · skip
              obtain ⟨h409_0, h409_1, h409_2, h409_3⟩ := h409
              have w415 : dt410 79 2 = dt 79 2 := h409_0.trans w396
              have w416 : dt410 79 9 = dt 79 9 := h409_1.trans w397
              have w417 : dt410 79 10 = dt 79 10 := h409_2.trans w398
              have w418 : dt410 79 12 = dt 79 12 := h409_3.trans w400
              clear h409_0 w396 h409_1 w397 h409_2 h409_3 w400
              refine go_retq PM172 (k := 2) (r := some (.inl 0)) (w1 := (SH, dt410)) rfl ?_
              exact ⟨dt410, rfl, hI411, hF413, (Or.inl ⟨rfl, ⟨by first | exact True.intro | with_reducible assumption | exact unhid (by with_reducible assumption) | rfl | fail | trivial, by first | exact True.intro | with_reducible assumption | exact unhid (by with_reducible assumption) | rfl | fail | trivial, by first | exact True.intro | with_reducible assumption | exact unhid (by with_reducible assumption) | rfl | fail | trivial⟩⟩)⟩
            · skip
              obtain ⟨h409_0, h409_1, h409_2, h409_3, h409_4, h409_5, h409_6, h409_7, h409_8, h409_9, h409_10⟩ := h409
              have w419 : dt410 79 2 = dt 79 2 := h409_5.trans w396
              have w420 : dt410 79 9 = dt 79 9 := h409_6.trans w397
              have w421 : dt410 79 10 = dt 79 10 := h409_7.trans w398
              have w422 : dt410 79 11 = dt 79 11 := h409_8.trans w399
              have w423 : dt410 79 12 = dt 79 12 := h409_9.trans w400
              have w424 : dt410 79 20 = dt 79 20 := h409_10.trans w401
              clear h386_3
              have ee425 : dt387 79 10 = dt 79 10 := by omega
              rw [ee425] at h409_0 h409_1
              have BL426 : ∀ j : Nat, (j : Int) < 5 * dt 79 10 → dt410 82 j = dt 82 j := fun j hj => (h409_0 j (blq hj (by decide))).trans (BL403 j hj)
              have y427 : dt410 82 ((5 * (dt 79 10))).toNat = 3 := (h409_0 _ (xq0 hL0 (by decide))).trans y404
              have y428 : dt410 82 ((5 * (dt 79 10)) + 1).toNat = dt364 82 ((5 * (dt 79 10)) + 1).toNat := (h409_0 _ (xq hL0 (by decide) (by decide))).trans y405
              have y429 : dt410 82 ((5 * (dt 79 10)) + 2).toNat = dt387 82 ((5 * (dt 79 10)) + 2).toNat := h409_0 _ (xq hL0 (by decide) (by decide))
              have y430 : dt410 82 ((5 * (dt 79 10)) + 4).toNat = dt 82 ((5 * (dt 79 10)) + 4).toNat := (h409_0 _ (xq hL0 (by decide) (by decide))).trans y407
              have y431 := h409_1 ((5 * (dt 79 10)) + 3) rfl
              clear y404 y405 y407 y406
              clear h409_5 w396 h409_6 w397 h409_7 h409_8 h409_9 w400 h409_10 w401
              refine go_toq PM172 (k := 6) (pc' := 208) (L' := [some (.inr (.inr (some 79))), some (.inl 3)]) (st' := [.inl 159, .inr (.inr (some 79))]) (w' := (SH, dt410)) rfl ?_
              refine go_callq PM172 PM161 (Q' := _) rfl rfl rfl rfl (sp_X6_need0 L xs sio (d + 1) dt410 hI411  159 ⟨by decide, by decide⟩ (by first | exact True.intro | with_reducible assumption | exact unhid (by with_reducible assumption) | rfl | fail | trivial)) ?_
              rintro _ _ ⟨dt433, rfl, hI434, hF435, h432⟩
              refine ⟨rfl, ?_⟩
              have hF436 : Fr [79, 82] dt dt433 := Fr_tr hF413 hF435 (by decide)
              have E84437 : dt433 84 = dt 84 := (funext (hF435 84 (by decide))).trans E84414
              rcases h432 with ⟨rfl, h432⟩ | ⟨rfl, h432⟩
              · skip
                obtain ⟨h432_0, h432_1, h432_2, h432_3⟩ := h432
                have w438 : dt433 79 2 = dt 79 2 := h432_0.trans w419
                have w439 : dt433 79 9 = dt 79 9 := h432_1.trans w420
                have w440 : dt433 79 10 = dt 79 10 := h432_2.trans w421
                have w441 : dt433 79 12 = dt 79 12 := h432_3.trans w423
                have BL442 : ∀ j : Nat, (j : Int) < 5 * dt 79 10 → dt433 82 j = dt 82 j := fun j hj => (hF435 82 (by decide) j).trans (BL426 j hj)
                have y443 : dt433 82 ((5 * (dt 79 10))).toNat = 3 := (hF435 82 (by decide) _).trans y427
                have y444 : dt433 82 ((5 * (dt 79 10)) + 1).toNat = dt364 82 ((5 * (dt 79 10)) + 1).toNat := (hF435 82 (by decide) _).trans y428
                have y445 : dt433 82 ((5 * (dt 79 10)) + 2).toNat = dt387 82 ((5 * (dt 79 10)) + 2).toNat := (hF435 82 (by decide) _).trans y429
                have y446 : dt433 82 ((5 * (dt 79 10)) + 3).toNat = dt410 82 ((5 * (dt 79 10)) + 3).toNat := hF435 82 (by decide) _
                have y447 : dt433 82 ((5 * (dt 79 10)) + 4).toNat = dt 82 ((5 * (dt 79 10)) + 4).toNat := (hF435 82 (by decide) _).trans y430
                clear y427 y428 y429 y430
                clear h432_0 w419 h432_1 w420 h432_2 h432_3 w423
                refine go_retq PM172 (k := 0) (r := some (.inl 0)) (w1 := (SH, dt433)) rfl ?_
                exact ⟨dt433, rfl, hI434, hF436, (Or.inl ⟨rfl, ⟨by first | exact True.intro | with_reducible assumption | exact unhid (by with_reducible assumption) | rfl | fail | trivial, by first | exact True.intro | with_reducible assumption | exact unhid (by with_reducible assumption) | rfl | fail | trivial, by first | exact True.intro | with_reducible assumption | exact unhid (by with_reducible assumption) | rfl | fail | trivial⟩⟩)⟩
              · skip
                obtain ⟨h432_0, h432_1, h432_2, h432_3, h432_4, h432_5, h432_6, h432_7, h432_8⟩ := h432
                have w448 : dt433 79 2 = dt 79 2 := h432_3.trans w419
                have w449 : dt433 79 9 = dt 79 9 := h432_4.trans w420
                have w450 : dt433 79 10 = dt 79 10 := h432_5.trans w421
                have w451 : dt433 79 11 = dt 79 11 := h432_6.trans w422
                have w452 : dt433 79 12 = dt 79 12 := h432_7.trans w423
                have w453 : dt433 79 20 = dt 79 20 := h432_8.trans w424
                clear h409_3
                have BL454 : ∀ j : Nat, (j : Int) < 5 * dt 79 10 → dt433 82 j = dt 82 j := fun j hj => (hF435 82 (by decide) j).trans (BL426 j hj)
                have y455 : dt433 82 ((5 * (dt 79 10))).toNat = 3 := (hF435 82 (by decide) _).trans y427
                have y456 : dt433 82 ((5 * (dt 79 10)) + 1).toNat = dt364 82 ((5 * (dt 79 10)) + 1).toNat := (hF435 82 (by decide) _).trans y428
                have y457 : dt433 82 ((5 * (dt 79 10)) + 2).toNat = dt387 82 ((5 * (dt 79 10)) + 2).toNat := (hF435 82 (by decide) _).trans y429
                have y458 : dt433 82 ((5 * (dt 79 10)) + 3).toNat = dt410 82 ((5 * (dt 79 10)) + 3).toNat := hF435 82 (by decide) _
                have y459 : dt433 82 ((5 * (dt 79 10)) + 4).toNat = dt 82 ((5 * (dt 79 10)) + 4).toNat := (hF435 82 (by decide) _).trans y430
                clear y427 y428 y429 y430
                clear h432_3 w419 h432_4 w420 h432_5 h432_6 h432_7 w423 h432_8 w424
                refine go_retq PM172 (k := 0) (r := some (.inl 1)) (w1 := (SH, dt433)) rfl ?_
                exact ⟨dt433, rfl, hI434, hF436, (Or.inr ⟨rfl, ⟨by first | exact True.intro | with_reducible assumption | exact unhid (by with_reducible assumption) | rfl | fail | trivial, by exact BL454, by unfold aOK; omega, by first | exact True.intro | with_reducible assumption | exact unhid (by with_reducible assumption) | rfl | omega | trivial, by first | exact True.intro | with_reducible assumption | exact unhid (by with_reducible assumption) | rfl | fail | trivial, by exact (InvC_get (by assumption) 79 15 rfl rfl).2, by first | exact True.intro | with_reducible assumption | exact unhid (by with_reducible assumption) | rfl | fail | trivial, by first | exact True.intro | with_reducible assumption | exact unhid (by with_reducible assumption) | rfl | fail | trivial, by first | exact True.intro | with_reducible assumption | exact unhid (by with_reducible assumption) | rfl | fail | trivial, by first | exact True.intro | with_reducible assumption | exact unhid (by with_reducible assumption) | rfl | fail | trivial, by first | exact True.intro | with_reducible assumption | exact unhid (by with_reducible assumption) | rfl | fail | trivial⟩⟩)⟩
      · rw [hc7]
        refine go_toq PM172 (k := 1) (pc' := 44) (L' := [some (.inr (.inr (some 79))), some (.inl 4)]) (st' := [.inr (.inr (some 79))]) (w' := (SH, dt)) rfl ?_
        refine go_callq PM172 PM159 (Q' := _) rfl rfl rfl rfl (sp_X6_next0 L xs sio (d + 2) dt hI   (by first | exact True.intro | with_reducible assumption | exact unhid (by with_reducible assumption) | rfl | omega | trivial)) ?_
        rintro _ _ ⟨dt461, rfl, hI462, hF463, h460⟩
        refine ⟨rfl, ?_⟩
        have hF464 : Fr [79, 82] dt dt461 := Fr_tr hF hF463 (by decide)
        have E84465 : dt461 84 = dt 84 := funext (hF463 84 (by decide))
        rcases h460 with ⟨rfl, h460⟩
        obtain ⟨h460_0, h460_1, h460_2, h460_3, h460_4, h460_5, h460_6, h460_7, h460_8⟩ := h460
        have w466 : dt461 79 2 = dt 79 2 := h460_3
        have w467 : dt461 79 9 = dt 79 9 := h460_4
        have w468 : dt461 79 10 = dt 79 10 := h460_5
        have w469 : dt461 79 11 = dt 79 11 := h460_6
        have w470 : dt461 79 12 = dt 79 12 := h460_7
        have w471 : dt461 79 20 = dt 79 20 := h460_8
        have hadv0 : dt 79 15 + 1 ≤ dt 79 13 := by omega
        clear h_p0
        have BL472 : ∀ j : Nat, (j : Int) < 5 * dt 79 10 → dt461 82 j = dt 82 j := fun j hj => (hF463 82 (by decide) j).trans ((fun _ _ => rfl) j hj)
        have y473 : dt461 82 ((5 * (dt 79 10))).toNat = dt 82 ((5 * (dt 79 10))).toNat := hF463 82 (by decide) _
        have y474 : dt461 82 ((5 * (dt 79 10)) + 1).toNat = dt 82 ((5 * (dt 79 10)) + 1).toNat := hF463 82 (by decide) _
        have y475 : dt461 82 ((5 * (dt 79 10)) + 2).toNat = dt 82 ((5 * (dt 79 10)) + 2).toNat := hF463 82 (by decide) _
        have y476 : dt461 82 ((5 * (dt 79 10)) + 3).toNat = dt 82 ((5 * (dt 79 10)) + 3).toNat := hF463 82 (by decide) _
        have y477 : dt461 82 ((5 * (dt 79 10)) + 4).toNat = dt 82 ((5 * (dt 79 10)) + 4).toNat := hF463 82 (by decide) _
        clear h460_3 h460_4 h460_5 h460_6 h460_7 h460_8
        have r478 : 0 ≤ dt461 79 10 ∧ dt461 79 10 ≤ 24 := InvC_get hI462 79 10 rfl rfl
        refine go_toq PM172 (k := 7) (pc' := 58) (L' := [some (.inr (.inr (some 79))), some (.inl 4)]) (st' := [.inl 4, .inl (5 * (dt461 79 10)), .inr (.inr (some 82))]) (w' := (SH, dt461)) rfl ?_
        have hI479 : InvC (u2 dt461 82 ((5 * (dt461 79 10)).toNat) 4) := InvC_u2 hI462 (lo := -2147483648) (hi := 2147483647) rfl rfl rfl (by decide) (by decide)
        have hF480 : Fr [79, 82] dt (u2 dt461 82 ((5 * (dt461 79 10)).toNat) 4) := Fr_u2 hF464 (by decide)
        have w481 : (u2 dt461 82 ((5 * (dt461 79 10)).toNat) 4) 79 2 = dt 79 2 := w466
        have w482 : (u2 dt461 82 ((5 * (dt461 79 10)).toNat) 4) 79 9 = dt 79 9 := w467
        have w483 : (u2 dt461 82 ((5 * (dt461 79 10)).toNat) 4) 79 10 = dt 79 10 := w468
        have w484 : (u2 dt461 82 ((5 * (dt461 79 10)).toNat) 4) 79 11 = dt 79 11 := w469
        have w485 : (u2 dt461 82 ((5 * (dt461 79 10)).toNat) 4) 79 12 = dt 79 12 := w470
        have w486 : (u2 dt461 82 ((5 * (dt461 79 10)).toNat) 4) 79 13 = dt461 79 13 := rfl
        have w487 : (u2 dt461 82 ((5 * (dt461 79 10)).toNat) 4) 79 14 = dt461 79 14 := rfl
        have w488 : (u2 dt461 82 ((5 * (dt461 79 10)).toNat) 4) 79 15 = dt461 79 15 := rfl
        have w489 : (u2 dt461 82 ((5 * (dt461 79 10)).toNat) 4) 79 16 = dt461 79 16 := rfl
        have w490 : (u2 dt461 82 ((5 * (dt461 79 10)).toNat) 4) 79 20 = dt 79 20 := w471
        have E84491 : (u2 dt461 82 ((5 * (dt461 79 10)).toNat) 4) 84 = dt 84 := (funext fun _ => rfl).trans E84465
        have ex493 : ((5 * (dt 79 10))).toNat = (5 * (dt461 79 10)).toNat := by rw [show dt461 79 10 = dt 79 10 from w483]
        have BL492 : ∀ j : Nat, (j : Int) < 5 * dt 79 10 → (u2 dt461 82 ((5 * (dt461 79 10)).toNat) 4) 82 j = dt 82 j := fun j hj => (u2_ne (fun z_ => xb0 hj (z_.2.trans ex493.symm))).trans (BL472 j hj)
        have y494 : (u2 dt461 82 ((5 * (dt461 79 10)).toNat) 4) 82 ((5 * (dt 79 10))).toNat = 4 := by rw [ex493]; exact u2_eq
        have y495 : (u2 dt461 82 ((5 * (dt461 79 10)).toNat) 4) 82 ((5 * (dt 79 10)) + 1).toNat = dt 82 ((5 * (dt 79 10)) + 1).toNat := (u2_ne (fun z_ => (fun y_ => xr0 hA0 (by decide) y_.symm) (z_.2.trans ex493.symm))).trans y474
        have y496 : (u2 dt461 82 ((5 * (dt461 79 10)).toNat) 4) 82 ((5 * (dt 79 10)) + 2).toNat = dt 82 ((5 * (dt 79 10)) + 2).toNat := (u2_ne (fun z_ => (fun y_ => xr0 hA0 (by decide) y_.symm) (z_.2.trans ex493.symm))).trans y475
        have y497 : (u2 dt461 82 ((5 * (dt461 79 10)).toNat) 4) 82 ((5 * (dt 79 10)) + 3).toNat = dt 82 ((5 * (dt 79 10)) + 3).toNat := (u2_ne (fun z_ => (fun y_ => xr0 hA0 (by decide) y_.symm) (z_.2.trans ex493.symm))).trans y476
        have y498 : (u2 dt461 82 ((5 * (dt461 79 10)).toNat) 4) 82 ((5 * (dt 79 10)) + 4).toNat = dt 82 ((5 * (dt 79 10)) + 4).toNat := (u2_ne (fun z_ => (fun y_ => xr0 hA0 (by decide) y_.symm) (z_.2.trans ex493.symm))).trans y477
        clear y473 y474 y475 y476 y477
        refine go_smpq PM172 (L' := [some (.inr (.inr (some 79))), some (.inl 4)]) (st' := []) (w' := (SH, (u2 dt461 82 ((5 * (dt461 79 10)).toNat) 4))) rfl rfl (s_iast (n := 120) rfl ⟨by omega, by omega⟩ ⟨by decide, by decide⟩) ?_
        refine go_toq PM172 (k := 6) (pc' := 72) (L' := [some (.inr (.inr (some 79))), some (.inl 4)]) (st' := [.inl 3, .inl 1, .inr (.inr (some 79))]) (w' := (SH, (u2 dt461 82 ((5 * (dt461 79 10)).toNat) 4))) rfl ?_
        refine go_callq PM172 PM171 (Q' := _) rfl rfl rfl rfl (sp_X6_argument L xs sio (d + 0) (u2 dt461 82 ((5 * (dt461 79 10)).toNat) 4) hI479  1 ⟨by decide, by decide⟩ 3 ⟨by decide, by decide⟩ (by first | exact True.intro | with_reducible assumption | exact unhid (by with_reducible assumption) | rfl | omega | trivial) (by first | exact True.intro | with_reducible assumption | exact unhid (by with_reducible assumption) | rfl | omega | trivial)) ?_
        rintro _ _ ⟨dt500, rfl, hI501, hF502, h499⟩
        refine ⟨rfl, ?_⟩
        have hF503 : Fr [79, 82] dt dt500 := Fr_tr hF480 hF502 (by decide)
        have E84504 : dt500 84 = dt 84 := (funext (hF502 84 (by decide))).trans E84491
        rcases h499 with ⟨rfl, h499⟩ | ⟨rfl, h499⟩
        · skip
          obtain ⟨h499_0, h499_1, h499_2, h499_3⟩ := h499
          have w505 : dt500 79 2 = dt 79 2 := h499_0.trans w481
          have w506 : dt500 79 9 = dt 79 9 := h499_1.trans w482
          have w507 : dt500 79 10 = dt 79 10 := h499_2.trans w483
          have w508 : dt500 79 12 = dt 79 12 := h499_3.trans w485
          clear h499_0 w481 h499_1 w482 h499_2 w483 h499_3 w485
          refine go_retq PM172 (k := 2) (r := some (.inl 0)) (w1 := (SH, dt500)) rfl ?_
          exact ⟨dt500, rfl, hI501, hF503, (Or.inl ⟨rfl, ⟨by first | exact True.intro | with_reducible assumption | exact unhid (by with_reducible assumption) | rfl | fail | trivial, by first | exact True.intro | with_reducible assumption | exact unhid (by with_reducible assumption) | rfl | fail | trivial, by first | exact True.intro | with_reducible assumption | exact unhid (by with_reducible assumption) | rfl | fail | trivial⟩⟩)⟩
        · skip
          obtain ⟨h499_0, h499_1, h499_2, h499_3, h499_4, h499_5, h499_6, h499_7, h499_8, h499_9, h499_10⟩ := h499
          have w509 : dt500 79 2 = dt 79 2 := h499_5.trans w481
          have w510 : dt500 79 9 = dt 79 9 := h499_6.trans w482
          have w511 : dt500 79 10 = dt 79 10 := h499_7.trans w483
          have w512 : dt500 79 11 = dt 79 11 := h499_8.trans w484
          have w513 : dt500 79 12 = dt 79 12 := h499_9.trans w485
          have w514 : dt500 79 20 = dt 79 20 := h499_10.trans w490
          clear h460_1
          have ee515 : (u2 dt461 82 ((5 * (dt461 79 10)).toNat) 4) 79 10 = dt 79 10 := by omega
          rw [ee515] at h499_0 h499_1
          have BL516 : ∀ j : Nat, (j : Int) < 5 * dt 79 10 → dt500 82 j = dt 82 j := fun j hj => (h499_0 j (blq hj (by decide))).trans (BL492 j hj)
          have y517 : dt500 82 ((5 * (dt 79 10))).toNat = 4 := (h499_0 _ (xq0 hL0 (by decide))).trans y494
          have y518 : dt500 82 ((5 * (dt 79 10)) + 2).toNat = dt 82 ((5 * (dt 79 10)) + 2).toNat := (h499_0 _ (xq hL0 (by decide) (by decide))).trans y496
          have y519 : dt500 82 ((5 * (dt 79 10)) + 3).toNat = dt 82 ((5 * (dt 79 10)) + 3).toNat := (h499_0 _ (xq hL0 (by decide) (by decide))).trans y497
          have y520 : dt500 82 ((5 * (dt 79 10)) + 4).toNat = dt 82 ((5 * (dt 79 10)) + 4).toNat := (h499_0 _ (xq hL0 (by decide) (by decide))).trans y498
          have y521 := h499_1 ((5 * (dt 79 10)) + 1) rfl
          clear y494 y496 y497 y498 y495
          clear h499_5 w481 h499_6 w482 h499_7 w483 h499_8 w484 h499_9 w485 h499_10 w490
          have r522 : (-2147483648) ≤ dt500 79 14 ∧ dt500 79 14 ≤ 2147483647 := InvC_get hI501 79 14 rfl rfl
          refine go_ifq PM172 (k := 7) (p1 := 119) (p2 := 93) (L' := [some (.inr (.inr (some 79))), some (.inl 4)]) (st' := []) (w' := (SH, dt500)) rfl (c_ne (a := dt500 79 14) (b := 2) (by first | exact bnd r522 (by decide) (by decide) | exact ⟨by fail, by fail⟩) ⟨by decide, by decide⟩) (fun c523 => ?_) (fun c523 => ?_)
          · skip
            replace c523 := hid c523
            refine go_toq PM172 (k := 3) (pc' := 122) (L' := [some (.inr (.inr (some 79))), some (.inl 4)]) (st' := [.inl 3, .inl 4, .inr (.inr (some 79))]) (w' := (SH, dt500)) rfl ?_
            refine go_callq PM172 PM171 (Q' := _) rfl rfl rfl rfl (sp_X6_argument L xs sio (d + 0) dt500 hI501  4 ⟨by decide, by decide⟩ 3 ⟨by decide, by decide⟩ (by first | exact True.intro | with_reducible assumption | exact unhid (by with_reducible assumption) | rfl | fail | trivial) (by first | exact True.intro | with_reducible assumption | exact unhid (by with_reducible assumption) | rfl | omega | trivial)) ?_
            rintro _ _ ⟨dt525, rfl, hI526, hF527, h524⟩
            refine ⟨rfl, ?_⟩
            have hF528 : Fr [79, 82] dt dt525 := Fr_tr hF503 hF527 (by decide)
            have E84529 : dt525 84 = dt 84 := (funext (hF527 84 (by decide))).trans E84504
            rcases h524 with ⟨rfl, h524⟩ | ⟨rfl, h524⟩
            · skip
              obtain ⟨h524_0, h524_1, h524_2, h524_3⟩ := h524
              have w530 : dt525 79 2 = dt 79 2 := h524_0.trans w509
              have w531 : dt525 79 9 = dt 79 9 := h524_1.trans w510
              have w532 : dt525 79 10 = dt 79 10 := h524_2.trans w511
              have w533 : dt525 79 12 = dt 79 12 := h524_3.trans w513
              clear h524_0 w509 h524_1 w510 h524_2 h524_3 w513
              refine go_retq PM172 (k := 2) (r := some (.inl 0)) (w1 := (SH, dt525)) rfl ?_
              exact ⟨dt525, rfl, hI526, hF528, (Or.inl ⟨rfl, ⟨by first | exact True.intro | with_reducible assumption | exact unhid (by with_reducible assumption) | rfl | fail | trivial, by first | exact True.intro | with_reducible assumption | exact unhid (by with_reducible assumption) | rfl | fail | trivial, by first | exact True.intro | with_reducible assumption | exact unhid (by with_reducible assumption) | rfl | fail | trivial⟩⟩)⟩
            · skip
              obtain ⟨h524_0, h524_1, h524_2, h524_3, h524_4, h524_5, h524_6, h524_7, h524_8, h524_9, h524_10⟩ := h524
              have w534 : dt525 79 2 = dt 79 2 := h524_5.trans w509
              have w535 : dt525 79 9 = dt 79 9 := h524_6.trans w510
              have w536 : dt525 79 10 = dt 79 10 := h524_7.trans w511
              have w537 : dt525 79 11 = dt 79 11 := h524_8.trans w512
              have w538 : dt525 79 12 = dt 79 12 := h524_9.trans w513
              have w539 : dt525 79 20 = dt 79 20 := h524_10.trans w514
              clear h499_3
              have ee540 : dt500 79 10 = dt 79 10 := by omega
              rw [ee540] at h524_0 h524_1
              have BL541 : ∀ j : Nat, (j : Int) < 5 * dt 79 10 → dt525 82 j = dt 82 j := fun j hj => (h524_0 j (blq hj (by decide))).trans (BL516 j hj)
              have y542 : dt525 82 ((5 * (dt 79 10))).toNat = 4 := (h524_0 _ (xq0 hL0 (by decide))).trans y517
              have y543 : dt525 82 ((5 * (dt 79 10)) + 1).toNat = dt500 82 ((5 * (dt 79 10)) + 1).toNat := h524_0 _ (xq hL0 (by decide) (by decide))
              have y544 : dt525 82 ((5 * (dt 79 10)) + 2).toNat = dt 82 ((5 * (dt 79 10)) + 2).toNat := (h524_0 _ (xq hL0 (by decide) (by decide))).trans y518
              have y545 : dt525 82 ((5 * (dt 79 10)) + 3).toNat = dt 82 ((5 * (dt 79 10)) + 3).toNat := (h524_0 _ (xq hL0 (by decide) (by decide))).trans y519
              have y546 := h524_1 ((5 * (dt 79 10)) + 4) rfl
              clear y517 y518 y519 y520
              clear h524_5 w509 h524_6 w510 h524_7 h524_8 h524_9 w513 h524_10 w514
              refine go_toq PM172 (k := 13) (pc' := 148) (L' := [some (.inr (.inr (some 79))), some (.inl 4)]) (st' := [.inl 2, .inl 2, .inr (.inr (some 79))]) (w' := (SH, dt525)) rfl ?_
              refine go_callq PM172 PM171 (Q' := _) rfl rfl rfl rfl (sp_X6_argument L xs sio (d + 0) dt525 hI526  2 ⟨by decide, by decide⟩ 2 ⟨by decide, by decide⟩ (by first | exact True.intro | with_reducible assumption | exact unhid (by with_reducible assumption) | rfl | fail | trivial) (by first | exact True.intro | with_reducible assumption | exact unhid (by with_reducible assumption) | rfl | omega | trivial)) ?_
              rintro _ _ ⟨dt548, rfl, hI549, hF550, h547⟩
              refine ⟨rfl, ?_⟩
              have hF551 : Fr [79, 82] dt dt548 := Fr_tr hF528 hF550 (by decide)
              have E84552 : dt548 84 = dt 84 := (funext (hF550 84 (by decide))).trans E84529
              rcases h547 with ⟨rfl, h547⟩ | ⟨rfl, h547⟩
              · skip
                obtain ⟨h547_0, h547_1, h547_2, h547_3⟩ := h547
                have w553 : dt548 79 2 = dt 79 2 := h547_0.trans w534
                have w554 : dt548 79 9 = dt 79 9 := h547_1.trans w535
                have w555 : dt548 79 10 = dt 79 10 := h547_2.trans w536
                have w556 : dt548 79 12 = dt 79 12 := h547_3.trans w538
                clear h547_0 w534 h547_1 w535 h547_2 h547_3 w538
                refine go_retq PM172 (k := 2) (r := some (.inl 0)) (w1 := (SH, dt548)) rfl ?_
                exact ⟨dt548, rfl, hI549, hF551, (Or.inl ⟨rfl, ⟨by first | exact True.intro | with_reducible assumption | exact unhid (by with_reducible assumption) | rfl | fail | trivial, by first | exact True.intro | with_reducible assumption | exact unhid (by with_reducible assumption) | rfl | fail | trivial, by first | exact True.intro | with_reducible assumption | exact unhid (by with_reducible assumption) | rfl | fail | trivial⟩⟩)⟩
              · skip
                obtain ⟨h547_0, h547_1, h547_2, h547_3, h547_4, h547_5, h547_6, h547_7, h547_8, h547_9, h547_10⟩ := h547
                have w557 : dt548 79 2 = dt 79 2 := h547_5.trans w534
                have w558 : dt548 79 9 = dt 79 9 := h547_6.trans w535
                have w559 : dt548 79 10 = dt 79 10 := h547_7.trans w536
                have w560 : dt548 79 11 = dt 79 11 := h547_8.trans w537
                have w561 : dt548 79 12 = dt 79 12 := h547_9.trans w538
                have w562 : dt548 79 20 = dt 79 20 := h547_10.trans w539
                clear h524_3
                have ee563 : dt525 79 10 = dt 79 10 := by omega
                rw [ee563] at h547_0 h547_1
                have BL564 : ∀ j : Nat, (j : Int) < 5 * dt 79 10 → dt548 82 j = dt 82 j := fun j hj => (h547_0 j (blq hj (by decide))).trans (BL541 j hj)
                have y565 : dt548 82 ((5 * (dt 79 10))).toNat = 4 := (h547_0 _ (xq0 hL0 (by decide))).trans y542
                have y566 : dt548 82 ((5 * (dt 79 10)) + 1).toNat = dt500 82 ((5 * (dt 79 10)) + 1).toNat := (h547_0 _ (xq hL0 (by decide) (by decide))).trans y543
                have y567 : dt548 82 ((5 * (dt 79 10)) + 3).toNat = dt 82 ((5 * (dt 79 10)) + 3).toNat := (h547_0 _ (xq hL0 (by decide) (by decide))).trans y545
                have y568 : dt548 82 ((5 * (dt 79 10)) + 4).toNat = dt525 82 ((5 * (dt 79 10)) + 4).toNat := h547_0 _ (xq hL0 (by decide) (by decide))
                have y569 := h547_1 ((5 * (dt 79 10)) + 2) rfl
                clear y542 y543 y545 y544
                clear h547_5 w534 h547_6 w535 h547_7 h547_8 h547_9 w538 h547_10 w539
                refine go_toq PM172 (k := 13) (pc' := 179) (L' := [some (.inr (.inr (some 79))), some (.inl 4)]) (st' := [.inl 3, .inl 3, .inr (.inr (some 79))]) (w' := (SH, dt548)) rfl ?_
                refine go_callq PM172 PM171 (Q' := _) rfl rfl rfl rfl (sp_X6_argument L xs sio (d + 0) dt548 hI549  3 ⟨by decide, by decide⟩ 3 ⟨by decide, by decide⟩ (by first | exact True.intro | with_reducible assumption | exact unhid (by with_reducible assumption) | rfl | fail | trivial) (by first | exact True.intro | with_reducible assumption | exact unhid (by with_reducible assumption) | rfl | omega | trivial)) ?_
                rintro _ _ ⟨dt571, rfl, hI572, hF573, h570⟩
                refine ⟨rfl, ?_⟩
                have hF574 : Fr [79, 82] dt dt571 := Fr_tr hF551 hF573 (by decide)
                have E84575 : dt571 84 = dt 84 := (funext (hF573 84 (by decide))).trans E84552
                rcases h570 with ⟨rfl, h570⟩ | ⟨rfl, h570⟩
                · skip
                  obtain ⟨h570_0, h570_1, h570_2, h570_3⟩ := h570
                  have w576 : dt571 79 2 = dt 79 2 := h570_0.trans w557
                  have w577 : dt571 79 9 = dt 79 9 := h570_1.trans w558
                  have w578 : dt571 79 10 = dt 79 10 := h570_2.trans w559
                  have w579 : dt571 79 12 = dt 79 12 := h570_3.trans w561
                  clear h570_0 w557 h570_1 w558 h570_2 h570_3 w561
                  refine go_retq PM172 (k := 2) (r := some (.inl 0)) (w1 := (SH, dt571)) rfl ?_
                  exact ⟨dt571, rfl, hI572, hF574, (Or.inl ⟨rfl, ⟨by first | exact True.intro | with_reducible assumption | exact unhid (by with_reducible assumption) | rfl | fail | trivial, by first | exact True.intro | with_reducible assumption | exact unhid (by with_reducible assumption) | rfl | fail | trivial, by first | exact True.intro | with_reducible assumption | exact unhid (by with_reducible assumption) | rfl | fail | trivial⟩⟩)⟩
                · skip
                  obtain ⟨h570_0, h570_1, h570_2, h570_3, h570_4, h570_5, h570_6, h570_7, h570_8, h570_9, h570_10⟩ := h570
                  have w580 : dt571 79 2 = dt 79 2 := h570_5.trans w557
                  have w581 : dt571 79 9 = dt 79 9 := h570_6.trans w558
                  have w582 : dt571 79 10 = dt 79 10 := h570_7.trans w559
                  have w583 : dt571 79 11 = dt 79 11 := h570_8.trans w560
                  have w584 : dt571 79 12 = dt 79 12 := h570_9.trans w561
                  have w585 : dt571 79 20 = dt 79 20 := h570_10.trans w562
                  clear h547_3
                  have ee586 : dt548 79 10 = dt 79 10 := by omega
                  rw [ee586] at h570_0 h570_1
                  have BL587 : ∀ j : Nat, (j : Int) < 5 * dt 79 10 → dt571 82 j = dt 82 j := fun j hj => (h570_0 j (blq hj (by decide))).trans (BL564 j hj)
                  have y588 : dt571 82 ((5 * (dt 79 10))).toNat = 4 := (h570_0 _ (xq0 hL0 (by decide))).trans y565
                  have y589 : dt571 82 ((5 * (dt 79 10)) + 1).toNat = dt500 82 ((5 * (dt 79 10)) + 1).toNat := (h570_0 _ (xq hL0 (by decide) (by decide))).trans y566
                  have y590 : dt571 82 ((5 * (dt 79 10)) + 2).toNat = dt548 82 ((5 * (dt 79 10)) + 2).toNat := h570_0 _ (xq hL0 (by decide) (by decide))
                  have y591 : dt571 82 ((5 * (dt 79 10)) + 4).toNat = dt525 82 ((5 * (dt 79 10)) + 4).toNat := (h570_0 _ (xq hL0 (by decide) (by decide))).trans y568
                  have y592 := h570_1 ((5 * (dt 79 10)) + 3) rfl
                  clear y565 y566 y568 y567
                  clear h570_5 w557 h570_6 w558 h570_7 h570_8 h570_9 w561 h570_10 w562
                  refine go_toq PM172 (k := 6) (pc' := 208) (L' := [some (.inr (.inr (some 79))), some (.inl 4)]) (st' := [.inl 159, .inr (.inr (some 79))]) (w' := (SH, dt571)) rfl ?_
                  refine go_callq PM172 PM161 (Q' := _) rfl rfl rfl rfl (sp_X6_need0 L xs sio (d + 1) dt571 hI572  159 ⟨by decide, by decide⟩ (by first | exact True.intro | with_reducible assumption | exact unhid (by with_reducible assumption) | rfl | fail | trivial)) ?_
                  rintro _ _ ⟨dt594, rfl, hI595, hF596, h593⟩
                  refine ⟨rfl, ?_⟩
                  have hF597 : Fr [79, 82] dt dt594 := Fr_tr hF574 hF596 (by decide)
                  have E84598 : dt594 84 = dt 84 := (funext (hF596 84 (by decide))).trans E84575
                  rcases h593 with ⟨rfl, h593⟩ | ⟨rfl, h593⟩
                  · skip
                    obtain ⟨h593_0, h593_1, h593_2, h593_3⟩ := h593
                    have w599 : dt594 79 2 = dt 79 2 := h593_0.trans w580
                    have w600 : dt594 79 9 = dt 79 9 := h593_1.trans w581
                    have w601 : dt594 79 10 = dt 79 10 := h593_2.trans w582
                    have w602 : dt594 79 12 = dt 79 12 := h593_3.trans w584
                    have BL603 : ∀ j : Nat, (j : Int) < 5 * dt 79 10 → dt594 82 j = dt 82 j := fun j hj => (hF596 82 (by decide) j).trans (BL587 j hj)
                    have y604 : dt594 82 ((5 * (dt 79 10))).toNat = 4 := (hF596 82 (by decide) _).trans y588
                    have y605 : dt594 82 ((5 * (dt 79 10)) + 1).toNat = dt500 82 ((5 * (dt 79 10)) + 1).toNat := (hF596 82 (by decide) _).trans y589
                    have y606 : dt594 82 ((5 * (dt 79 10)) + 2).toNat = dt548 82 ((5 * (dt 79 10)) + 2).toNat := (hF596 82 (by decide) _).trans y590
                    have y607 : dt594 82 ((5 * (dt 79 10)) + 3).toNat = dt571 82 ((5 * (dt 79 10)) + 3).toNat := hF596 82 (by decide) _
                    have y608 : dt594 82 ((5 * (dt 79 10)) + 4).toNat = dt525 82 ((5 * (dt 79 10)) + 4).toNat := (hF596 82 (by decide) _).trans y591
                    clear y588 y589 y590 y591
                    clear h593_0 w580 h593_1 w581 h593_2 h593_3 w584
                    refine go_retq PM172 (k := 0) (r := some (.inl 0)) (w1 := (SH, dt594)) rfl ?_
                    exact ⟨dt594, rfl, hI595, hF597, (Or.inl ⟨rfl, ⟨by first | exact True.intro | with_reducible assumption | exact unhid (by with_reducible assumption) | rfl | fail | trivial, by first | exact True.intro | with_reducible assumption | exact unhid (by with_reducible assumption) | rfl | fail | trivial, by first | exact True.intro | with_reducible assumption | exact unhid (by with_reducible assumption) | rfl | fail | trivial⟩⟩)⟩
                  · skip
                    obtain ⟨h593_0, h593_1, h593_2, h593_3, h593_4, h593_5, h593_6, h593_7, h593_8⟩ := h593
                    have w609 : dt594 79 2 = dt 79 2 := h593_3.trans w580
                    have w610 : dt594 79 9 = dt 79 9 := h593_4.trans w581
                    have w611 : dt594 79 10 = dt 79 10 := h593_5.trans w582
                    have w612 : dt594 79 11 = dt 79 11 := h593_6.trans w583
                    have w613 : dt594 79 12 = dt 79 12 := h593_7.trans w584
                    have w614 : dt594 79 20 = dt 79 20 := h593_8.trans w585
                    clear h570_3
                    have BL615 : ∀ j : Nat, (j : Int) < 5 * dt 79 10 → dt594 82 j = dt 82 j := fun j hj => (hF596 82 (by decide) j).trans (BL587 j hj)
                    have y616 : dt594 82 ((5 * (dt 79 10))).toNat = 4 := (hF596 82 (by decide) _).trans y588
                    have y617 : dt594 82 ((5 * (dt 79 10)) + 1).toNat = dt500 82 ((5 * (dt 79 10)) + 1).toNat := (hF596 82 (by decide) _).trans y589
                    have y618 : dt594 82 ((5 * (dt 79 10)) + 2).toNat = dt548 82 ((5 * (dt 79 10)) + 2).toNat := (hF596 82 (by decide) _).trans y590
                    have y619 : dt594 82 ((5 * (dt 79 10)) + 3).toNat = dt571 82 ((5 * (dt 79 10)) + 3).toNat := hF596 82 (by decide) _
                    have y620 : dt594 82 ((5 * (dt 79 10)) + 4).toNat = dt525 82 ((5 * (dt 79 10)) + 4).toNat := (hF596 82 (by decide) _).trans y591
                    clear y588 y589 y590 y591
                    clear h593_3 w580 h593_4 w581 h593_5 h593_6 h593_7 w584 h593_8 w585
                    refine go_retq PM172 (k := 0) (r := some (.inl 1)) (w1 := (SH, dt594)) rfl ?_
                    exact ⟨dt594, rfl, hI595, hF597, (Or.inr ⟨rfl, ⟨by first | exact True.intro | with_reducible assumption | exact unhid (by with_reducible assumption) | rfl | fail | trivial, by exact BL615, by unfold aOK; omega, by first | exact True.intro | with_reducible assumption | exact unhid (by with_reducible assumption) | rfl | omega | trivial, by first | exact True.intro | with_reducible assumption | exact unhid (by with_reducible assumption) | rfl | fail | trivial, by exact (InvC_get (by assumption) 79 15 rfl rfl).2, by first | exact True.intro | with_reducible assumption | exact unhid (by with_reducible assumption) | rfl | fail | trivial, by first | exact True.intro | with_reducible assumption | exact unhid (by with_reducible assumption) | rfl | fail | trivial, by first | exact True.intro | with_reducible assumption | exact unhid (by with_reducible assumption) | rfl | fail | trivial, by first | exact True.intro | with_reducible assumption | exact unhid (by with_reducible assumption) | rfl | fail | trivial, by first | exact True.intro | with_reducible assumption | exact unhid (by with_reducible assumption) | rfl | fail | trivial⟩⟩)⟩
          · skip
            have r621 : 0 ≤ dt500 79 16 ∧ dt500 79 16 ≤ 9999 := InvC_get hI501 79 16 rfl rfl
            have r622 : 0 ≤ dt500 79 10 ∧ dt500 79 10 ≤ 24 := InvC_get hI501 79 10 rfl rfl
            refine go_toq PM172 (k := 10) (pc' := 109) (L' := [some (.inr (.inr (some 79))), some (.inl 4)]) (st' := [.inl ((5 * (dt500 79 10)) + 1), .inr (.inr (some 82)), .inl (dt500 79 16)]) (w' := (SH, dt500)) rfl ?_
            have r623 : (-2147483648) ≤ dt500 82 (((5 * (dt500 79 10)) + 1).toNat) ∧ dt500 82 (((5 * (dt500 79 10)) + 1).toNat) ≤ 2147483647 := InvC_get hI501 82 (((5 * (dt500 79 10)) + 1).toNat) rfl rfl
            refine go_smpq PM172 (L' := [some (.inr (.inr (some 79))), some (.inl 4)]) (st' := [.inl (dt500 82 (((5 * (dt500 79 10)) + 1).toNat)), .inl (dt500 79 16)]) (w' := (SH, dt500)) rfl rfl (s_iald (n := 120) (f := dt500 82) rfl ⟨by omega, by omega⟩) ?_
            refine go_ifq PM172 (k := 0) (p1 := 119) (p2 := 113) (L' := [some (.inr (.inr (some 79))), some (.inl 4)]) (st' := []) (w' := (SH, dt500)) rfl (c_ne (a := dt500 79 16) (b := dt500 82 (((5 * (dt500 79 10)) + 1).toNat)) (by first | exact bnd r621 (by decide) (by decide) | exact ⟨by fail, by fail⟩) (by first | exact bnd r623 (by decide) (by decide) | exact ⟨by fail, by fail⟩)) (fun c624 => ?_) (fun c624 => ?_)
            · skip
              replace c624 := hid c624
              refine go_toq PM172 (k := 3) (pc' := 122) (L' := [some (.inr (.inr (some 79))), some (.inl 4)]) (st' := [.inl 3, .inl 4, .inr (.inr (some 79))]) (w' := (SH, dt500)) rfl ?_
              refine go_callq PM172 PM171 (Q' := _) rfl rfl rfl rfl (sp_X6_argument L xs sio (d + 0) dt500 hI501  4 ⟨by decide, by decide⟩ 3 ⟨by decide, by decide⟩ (by first | exact True.intro | with_reducible assumption | exact unhid (by with_reducible assumption) | rfl | fail | trivial) (by first | exact True.intro | with_reducible assumption | exact unhid (by with_reducible assumption) | rfl | omega | trivial)) ?_
              rintro _ _ ⟨dt626, rfl, hI627, hF628, h625⟩
              refine ⟨rfl, ?_⟩
              have hF629 : Fr [79, 82] dt dt626 := Fr_tr hF503 hF628 (by decide)
              have E84630 : dt626 84 = dt 84 := (funext (hF628 84 (by decide))).trans E84504
              rcases h625 with ⟨rfl, h625⟩ | ⟨rfl, h625⟩
              · skip
                obtain ⟨h625_0, h625_1, h625_2, h625_3⟩ := h625
                have w631 : dt626 79 2 = dt 79 2 := h625_0.trans w509
                have w632 : dt626 79 9 = dt 79 9 := h625_1.trans w510
                have w633 : dt626 79 10 = dt 79 10 := h625_2.trans w511
                have w634 : dt626 79 12 = dt 79 12 := h625_3.trans w513
                clear h625_0 w509 h625_1 w510 h625_2 h625_3 w513
                refine go_retq PM172 (k := 2) (r := some (.inl 0)) (w1 := (SH, dt626)) rfl ?_
                exact ⟨dt626, rfl, hI627, hF629, (Or.inl ⟨rfl, ⟨by first | exact True.intro | with_reducible assumption | exact unhid (by with_reducible assumption) | rfl | fail | trivial, by first | exact True.intro | with_reducible assumption | exact unhid (by with_reducible assumption) | rfl | fail | trivial, by first | exact True.intro | with_reducible assumption | exact unhid (by with_reducible assumption) | rfl | fail | trivial⟩⟩)⟩
              · skip
                obtain ⟨h625_0, h625_1, h625_2, h625_3, h625_4, h625_5, h625_6, h625_7, h625_8, h625_9, h625_10⟩ := h625
                have w635 : dt626 79 2 = dt 79 2 := h625_5.trans w509
                have w636 : dt626 79 9 = dt 79 9 := h625_6.trans w510
                have w637 : dt626 79 10 = dt 79 10 := h625_7.trans w511
                have w638 : dt626 79 11 = dt 79 11 := h625_8.trans w512
                have w639 : dt626 79 12 = dt 79 12 := h625_9.trans w513
                have w640 : dt626 79 20 = dt 79 20 := h625_10.trans w514
                clear h499_3
                have ee641 : dt500 79 10 = dt 79 10 := by omega
                rw [ee641] at h625_0 h625_1
                have BL642 : ∀ j : Nat, (j : Int) < 5 * dt 79 10 → dt626 82 j = dt 82 j := fun j hj => (h625_0 j (blq hj (by decide))).trans (BL516 j hj)
                have y643 : dt626 82 ((5 * (dt 79 10))).toNat = 4 := (h625_0 _ (xq0 hL0 (by decide))).trans y517
                have y644 : dt626 82 ((5 * (dt 79 10)) + 1).toNat = dt500 82 ((5 * (dt 79 10)) + 1).toNat := h625_0 _ (xq hL0 (by decide) (by decide))
                have y645 : dt626 82 ((5 * (dt 79 10)) + 2).toNat = dt 82 ((5 * (dt 79 10)) + 2).toNat := (h625_0 _ (xq hL0 (by decide) (by decide))).trans y518
                have y646 : dt626 82 ((5 * (dt 79 10)) + 3).toNat = dt 82 ((5 * (dt 79 10)) + 3).toNat := (h625_0 _ (xq hL0 (by decide) (by decide))).trans y519
                have y647 := h625_1 ((5 * (dt 79 10)) + 4) rfl
                clear y517 y518 y519 y520
                clear h625_5 w509 h625_6 w510 h625_7 h625_8 h625_9 w513 h625_10 w514
                refine go_toq PM172 (k := 13) (pc' := 148) (L' := [some (.inr (.inr (some 79))), some (.inl 4)]) (st' := [.inl 2, .inl 2, .inr (.inr (some 79))]) (w' := (SH, dt626)) rfl ?_
                refine go_callq PM172 PM171 (Q' := _) rfl rfl rfl rfl (sp_X6_argument L xs sio (d + 0) dt626 hI627  2 ⟨by decide, by decide⟩ 2 ⟨by decide, by decide⟩ (by first | exact True.intro | with_reducible assumption | exact unhid (by with_reducible assumption) | rfl | fail | trivial) (by first | exact True.intro | with_reducible assumption | exact unhid (by with_reducible assumption) | rfl | omega | trivial)) ?_
                rintro _ _ ⟨dt649, rfl, hI650, hF651, h648⟩
                refine ⟨rfl, ?_⟩
                have hF652 : Fr [79, 82] dt dt649 := Fr_tr hF629 hF651 (by decide)
                have E84653 : dt649 84 = dt 84 := (funext (hF651 84 (by decide))).trans E84630
                rcases h648 with ⟨rfl, h648⟩ | ⟨rfl, h648⟩
                · skip
                  obtain ⟨h648_0, h648_1, h648_2, h648_3⟩ := h648
                  have w654 : dt649 79 2 = dt 79 2 := h648_0.trans w635
                  have w655 : dt649 79 9 = dt 79 9 := h648_1.trans w636
                  have w656 : dt649 79 10 = dt 79 10 := h648_2.trans w637
                  have w657 : dt649 79 12 = dt 79 12 := h648_3.trans w639
                  clear h648_0 w635 h648_1 w636 h648_2 h648_3 w639
                  refine go_retq PM172 (k := 2) (r := some (.inl 0)) (w1 := (SH, dt649)) rfl ?_
                  exact ⟨dt649, rfl, hI650, hF652, (Or.inl ⟨rfl, ⟨by first | exact True.intro | with_reducible assumption | exact unhid (by with_reducible assumption) | rfl | fail | trivial, by first | exact True.intro | with_reducible assumption | exact unhid (by with_reducible assumption) | rfl | fail | trivial, by first | exact True.intro | with_reducible assumption | exact unhid (by with_reducible assumption) | rfl | fail | trivial⟩⟩)⟩
                · skip
                  obtain ⟨h648_0, h648_1, h648_2, h648_3, h648_4, h648_5, h648_6, h648_7, h648_8, h648_9, h648_10⟩ := h648
                  have w658 : dt649 79 2 = dt 79 2 := h648_5.trans w635
                  have w659 : dt649 79 9 = dt 79 9 := h648_6.trans w636
                  have w660 : dt649 79 10 = dt 79 10 := h648_7.trans w637
                  have w661 : dt649 79 11 = dt 79 11 := h648_8.trans w638
                  have w662 : dt649 79 12 = dt 79 12 := h648_9.trans w639
                  have w663 : dt649 79 20 = dt 79 20 := h648_10.trans w640
                  clear h625_3
                  have ee664 : dt626 79 10 = dt 79 10 := by omega
                  rw [ee664] at h648_0 h648_1
                  have BL665 : ∀ j : Nat, (j : Int) < 5 * dt 79 10 → dt649 82 j = dt 82 j := fun j hj => (h648_0 j (blq hj (by decide))).trans (BL642 j hj)
                  have y666 : dt649 82 ((5 * (dt 79 10))).toNat = 4 := (h648_0 _ (xq0 hL0 (by decide))).trans y643
                  have y667 : dt649 82 ((5 * (dt 79 10)) + 1).toNat = dt500 82 ((5 * (dt 79 10)) + 1).toNat := (h648_0 _ (xq hL0 (by decide) (by decide))).trans y644
                  have y668 : dt649 82 ((5 * (dt 79 10)) + 3).toNat = dt 82 ((5 * (dt 79 10)) + 3).toNat := (h648_0 _ (xq hL0 (by decide) (by decide))).trans y646
                  have y669 : dt649 82 ((5 * (dt 79 10)) + 4).toNat = dt626 82 ((5 * (dt 79 10)) + 4).toNat := h648_0 _ (xq hL0 (by decide) (by decide))
                  have y670 := h648_1 ((5 * (dt 79 10)) + 2) rfl
                  clear y643 y644 y646 y645
                  clear h648_5 w635 h648_6 w636 h648_7 h648_8 h648_9 w639 h648_10 w640
                  refine go_toq PM172 (k := 13) (pc' := 179) (L' := [some (.inr (.inr (some 79))), some (.inl 4)]) (st' := [.inl 3, .inl 3, .inr (.inr (some 79))]) (w' := (SH, dt649)) rfl ?_
                  refine go_callq PM172 PM171 (Q' := _) rfl rfl rfl rfl (sp_X6_argument L xs sio (d + 0) dt649 hI650  3 ⟨by decide, by decide⟩ 3 ⟨by decide, by decide⟩ (by first | exact True.intro | with_reducible assumption | exact unhid (by with_reducible assumption) | rfl | fail | trivial) (by first | exact True.intro | with_reducible assumption | exact unhid (by with_reducible assumption) | rfl | omega | trivial)) ?_
                  rintro _ _ ⟨dt672, rfl, hI673, hF674, h671⟩
                  refine ⟨rfl, ?_⟩
                  have hF675 : Fr [79, 82] dt dt672 := Fr_tr hF652 hF674 (by decide)
                  have E84676 : dt672 84 = dt 84 := (funext (hF674 84 (by decide))).trans E84653
                  rcases h671 with ⟨rfl, h671⟩ | ⟨rfl, h671⟩
                  · skip
                    obtain ⟨h671_0, h671_1, h671_2, h671_3⟩ := h671
                    have w677 : dt672 79 2 = dt 79 2 := h671_0.trans w658
                    have w678 : dt672 79 9 = dt 79 9 := h671_1.trans w659
                    have w679 : dt672 79 10 = dt 79 10 := h671_2.trans w660
                    have w680 : dt672 79 12 = dt 79 12 := h671_3.trans w662
                    clear h671_0 w658 h671_1 w659 h671_2 h671_3 w662
                    refine go_retq PM172 (k := 2) (r := some (.inl 0)) (w1 := (SH, dt672)) rfl ?_
                    exact ⟨dt672, rfl, hI673, hF675, (Or.inl ⟨rfl, ⟨by first | exact True.intro | with_reducible assumption | exact unhid (by with_reducible assumption) | rfl | fail | trivial, by first | exact True.intro | with_reducible assumption | exact unhid (by with_reducible assumption) | rfl | fail | trivial, by first | exact True.intro | with_reducible assumption | exact unhid (by with_reducible assumption) | rfl | fail | trivial⟩⟩)⟩
                  · skip
                    obtain ⟨h671_0, h671_1, h671_2, h671_3, h671_4, h671_5, h671_6, h671_7, h671_8, h671_9, h671_10⟩ := h671
                    have w681 : dt672 79 2 = dt 79 2 := h671_5.trans w658
                    have w682 : dt672 79 9 = dt 79 9 := h671_6.trans w659
                    have w683 : dt672 79 10 = dt 79 10 := h671_7.trans w660
                    have w684 : dt672 79 11 = dt 79 11 := h671_8.trans w661
                    have w685 : dt672 79 12 = dt 79 12 := h671_9.trans w662
                    have w686 : dt672 79 20 = dt 79 20 := h671_10.trans w663
                    clear h648_3
                    have ee687 : dt649 79 10 = dt 79 10 := by omega
                    rw [ee687] at h671_0 h671_1
                    have BL688 : ∀ j : Nat, (j : Int) < 5 * dt 79 10 → dt672 82 j = dt 82 j := fun j hj => (h671_0 j (blq hj (by decide))).trans (BL665 j hj)
                    have y689 : dt672 82 ((5 * (dt 79 10))).toNat = 4 := (h671_0 _ (xq0 hL0 (by decide))).trans y666
                    have y690 : dt672 82 ((5 * (dt 79 10)) + 1).toNat = dt500 82 ((5 * (dt 79 10)) + 1).toNat := (h671_0 _ (xq hL0 (by decide) (by decide))).trans y667
                    have y691 : dt672 82 ((5 * (dt 79 10)) + 2).toNat = dt649 82 ((5 * (dt 79 10)) + 2).toNat := h671_0 _ (xq hL0 (by decide) (by decide))
                    have y692 : dt672 82 ((5 * (dt 79 10)) + 4).toNat = dt626 82 ((5 * (dt 79 10)) + 4).toNat := (h671_0 _ (xq hL0 (by decide) (by decide))).trans y669
                    have y693 := h671_1 ((5 * (dt 79 10)) + 3) rfl
                    clear y666 y667 y669 y668
                    clear h671_5 w658 h671_6 w659 h671_7 h671_8 h671_9 w662 h671_10 w663
                    refine go_toq PM172 (k := 6) (pc' := 208) (L' := [some (.inr (.inr (some 79))), some (.inl 4)]) (st' := [.inl 159, .inr (.inr (some 79))]) (w' := (SH, dt672)) rfl ?_
                    refine go_callq PM172 PM161 (Q' := _) rfl rfl rfl rfl (sp_X6_need0 L xs sio (d + 1) dt672 hI673  159 ⟨by decide, by decide⟩ (by first | exact True.intro | with_reducible assumption | exact unhid (by with_reducible assumption) | rfl | fail | trivial)) ?_
                    rintro _ _ ⟨dt695, rfl, hI696, hF697, h694⟩
                    refine ⟨rfl, ?_⟩
                    have hF698 : Fr [79, 82] dt dt695 := Fr_tr hF675 hF697 (by decide)
                    have E84699 : dt695 84 = dt 84 := (funext (hF697 84 (by decide))).trans E84676
                    rcases h694 with ⟨rfl, h694⟩ | ⟨rfl, h694⟩
                    · skip
                      obtain ⟨h694_0, h694_1, h694_2, h694_3⟩ := h694
                      have w700 : dt695 79 2 = dt 79 2 := h694_0.trans w681
                      have w701 : dt695 79 9 = dt 79 9 := h694_1.trans w682
                      have w702 : dt695 79 10 = dt 79 10 := h694_2.trans w683
                      have w703 : dt695 79 12 = dt 79 12 := h694_3.trans w685
                      have BL704 : ∀ j : Nat, (j : Int) < 5 * dt 79 10 → dt695 82 j = dt 82 j := fun j hj => (hF697 82 (by decide) j).trans (BL688 j hj)
                      have y705 : dt695 82 ((5 * (dt 79 10))).toNat = 4 := (hF697 82 (by decide) _).trans y689
                      have y706 : dt695 82 ((5 * (dt 79 10)) + 1).toNat = dt500 82 ((5 * (dt 79 10)) + 1).toNat := (hF697 82 (by decide) _).trans y690
                      have y707 : dt695 82 ((5 * (dt 79 10)) + 2).toNat = dt649 82 ((5 * (dt 79 10)) + 2).toNat := (hF697 82 (by decide) _).trans y691
                      have y708 : dt695 82 ((5 * (dt 79 10)) + 3).toNat = dt672 82 ((5 * (dt 79 10)) + 3).toNat := hF697 82 (by decide) _
                      have y709 : dt695 82 ((5 * (dt 79 10)) + 4).toNat = dt626 82 ((5 * (dt 79 10)) + 4).toNat := (hF697 82 (by decide) _).trans y692
                      clear y689 y690 y691 y692
                      clear h694_0 w681 h694_1 w682 h694_2 h694_3 w685
                      refine go_retq PM172 (k := 0) (r := some (.inl 0)) (w1 := (SH, dt695)) rfl ?_
                      exact ⟨dt695, rfl, hI696, hF698, (Or.inl ⟨rfl, ⟨by first | exact True.intro | with_reducible assumption | exact unhid (by with_reducible assumption) | rfl | fail | trivial, by first | exact True.intro | with_reducible assumption | exact unhid (by with_reducible assumption) | rfl | fail | trivial, by first | exact True.intro | with_reducible assumption | exact unhid (by with_reducible assumption) | rfl | fail | trivial⟩⟩)⟩
                    · skip
                      obtain ⟨h694_0, h694_1, h694_2, h694_3, h694_4, h694_5, h694_6, h694_7, h694_8⟩ := h694
                      have w710 : dt695 79 2 = dt 79 2 := h694_3.trans w681
                      have w711 : dt695 79 9 = dt 79 9 := h694_4.trans w682
                      have w712 : dt695 79 10 = dt 79 10 := h694_5.trans w683
                      have w713 : dt695 79 11 = dt 79 11 := h694_6.trans w684
                      have w714 : dt695 79 12 = dt 79 12 := h694_7.trans w685
                      have w715 : dt695 79 20 = dt 79 20 := h694_8.trans w686
                      clear h671_3
                      have BL716 : ∀ j : Nat, (j : Int) < 5 * dt 79 10 → dt695 82 j = dt 82 j := fun j hj => (hF697 82 (by decide) j).trans (BL688 j hj)
                      have y717 : dt695 82 ((5 * (dt 79 10))).toNat = 4 := (hF697 82 (by decide) _).trans y689
                      have y718 : dt695 82 ((5 * (dt 79 10)) + 1).toNat = dt500 82 ((5 * (dt 79 10)) + 1).toNat := (hF697 82 (by decide) _).trans y690
                      have y719 : dt695 82 ((5 * (dt 79 10)) + 2).toNat = dt649 82 ((5 * (dt 79 10)) + 2).toNat := (hF697 82 (by decide) _).trans y691
                      have y720 : dt695 82 ((5 * (dt 79 10)) + 3).toNat = dt672 82 ((5 * (dt 79 10)) + 3).toNat := hF697 82 (by decide) _
                      have y721 : dt695 82 ((5 * (dt 79 10)) + 4).toNat = dt626 82 ((5 * (dt 79 10)) + 4).toNat := (hF697 82 (by decide) _).trans y692
                      clear y689 y690 y691 y692
                      clear h694_3 w681 h694_4 w682 h694_5 h694_6 h694_7 w685 h694_8 w686
                      refine go_retq PM172 (k := 0) (r := some (.inl 1)) (w1 := (SH, dt695)) rfl ?_
                      exact ⟨dt695, rfl, hI696, hF698, (Or.inr ⟨rfl, ⟨by first | exact True.intro | with_reducible assumption | exact unhid (by with_reducible assumption) | rfl | fail | trivial, by exact BL716, by unfold aOK; omega, by first | exact True.intro | with_reducible assumption | exact unhid (by with_reducible assumption) | rfl | omega | trivial, by first | exact True.intro | with_reducible assumption | exact unhid (by with_reducible assumption) | rfl | fail | trivial, by exact (InvC_get (by assumption) 79 15 rfl rfl).2, by first | exact True.intro | with_reducible assumption | exact unhid (by with_reducible assumption) | rfl | fail | trivial, by first | exact True.intro | with_reducible assumption | exact unhid (by with_reducible assumption) | rfl | fail | trivial, by first | exact True.intro | with_reducible assumption | exact unhid (by with_reducible assumption) | rfl | fail | trivial, by first | exact True.intro | with_reducible assumption | exact unhid (by with_reducible assumption) | rfl | fail | trivial, by first | exact True.intro | with_reducible assumption | exact unhid (by with_reducible assumption) | rfl | fail | trivial⟩⟩)⟩
            · skip
              refine go_toq PM172 (k := 2) (pc' := 115) (L' := [some (.inr (.inr (some 79))), some (.inl 4)]) (st' := [.inl 2, .inr (.inr (some 79))]) (w' := (SH, dt500)) rfl ?_
              refine go_callq PM172 PM160 (Q' := _) rfl rfl rfl rfl (sp_X6_bad L xs sio (d + 8) dt500 hI501  2 ⟨by decide, by decide⟩ ) ?_
              rintro _ _ ⟨dt723, rfl, hI724, hF725, h722⟩
              refine ⟨rfl, ?_⟩
              have hF726 : Fr [79, 82] dt dt723 := Fr_tr hF503 hF725 (by decide)
              have E84727 : dt723 84 = dt 84 := (funext (hF725 84 (by decide))).trans E84504
              rcases h722 with ⟨rfl, h722⟩
              obtain ⟨h722_0, h722_1, h722_2, h722_3, h722_4, h722_5⟩ := h722
              have w728 : dt723 79 2 = dt 79 2 := h722_0.trans w509
              have w729 : dt723 79 9 = dt 79 9 := h722_1.trans w510
              have w730 : dt723 79 10 = dt 79 10 := h722_2.trans w511
              have w731 : dt723 79 11 = dt 79 11 := h722_3.trans w512
              have w732 : dt723 79 12 = dt 79 12 := h722_4.trans w513
              have w733 : dt723 79 20 = dt 79 20 := h722_5.trans w514
              have BL734 : ∀ j : Nat, (j : Int) < 5 * dt 79 10 → dt723 82 j = dt 82 j := fun j hj => (hF725 82 (by decide) j).trans (BL516 j hj)
              have y735 : dt723 82 ((5 * (dt 79 10))).toNat = 4 := (hF725 82 (by decide) _).trans y517
              have y736 : dt723 82 ((5 * (dt 79 10)) + 1).toNat = dt500 82 ((5 * (dt 79 10)) + 1).toNat := hF725 82 (by decide) _
              have y737 : dt723 82 ((5 * (dt 79 10)) + 2).toNat = dt 82 ((5 * (dt 79 10)) + 2).toNat := (hF725 82 (by decide) _).trans y518
              have y738 : dt723 82 ((5 * (dt 79 10)) + 3).toNat = dt 82 ((5 * (dt 79 10)) + 3).toNat := (hF725 82 (by decide) _).trans y519
              have y739 : dt723 82 ((5 * (dt 79 10)) + 4).toNat = dt 82 ((5 * (dt 79 10)) + 4).toNat := (hF725 82 (by decide) _).trans y520
              clear y517 y518 y519 y520
              clear h722_0 w509 h722_1 w510 h722_2 h722_3 h722_4 w513 h722_5 w514
              refine go_retq PM172 (k := 0) (r := some (.inl 0)) (w1 := (SH, dt723)) rfl ?_
              exact ⟨dt723, rfl, hI724, hF726, (Or.inl ⟨rfl, ⟨by first | exact True.intro | with_reducible assumption | exact unhid (by with_reducible assumption) | rfl | fail | trivial, by first | exact True.intro | with_reducible assumption | exact unhid (by with_reducible assumption) | rfl | fail | trivial, by first | exact True.intro | with_reducible assumption | exact unhid (by with_reducible assumption) | rfl | fail | trivial⟩⟩)⟩
      · rw [hc7]
        refine go_toq PM172 (k := 1) (pc' := 44) (L' := [some (.inr (.inr (some 79))), some (.inl 5)]) (st' := [.inr (.inr (some 79))]) (w' := (SH, dt)) rfl ?_
        refine go_callq PM172 PM159 (Q' := _) rfl rfl rfl rfl (sp_X6_next0 L xs sio (d + 2) dt hI   (by first | exact True.intro | with_reducible assumption | exact unhid (by with_reducible assumption) | rfl | omega | trivial)) ?_
        rintro _ _ ⟨dt741, rfl, hI742, hF743, h740⟩
        refine ⟨rfl, ?_⟩
        have hF744 : Fr [79, 82] dt dt741 := Fr_tr hF hF743 (by decide)
        have E84745 : dt741 84 = dt 84 := funext (hF743 84 (by decide))
        rcases h740 with ⟨rfl, h740⟩
        obtain ⟨h740_0, h740_1, h740_2, h740_3, h740_4, h740_5, h740_6, h740_7, h740_8⟩ := h740
        have w746 : dt741 79 2 = dt 79 2 := h740_3
        have w747 : dt741 79 9 = dt 79 9 := h740_4
        have w748 : dt741 79 10 = dt 79 10 := h740_5
        have w749 : dt741 79 11 = dt 79 11 := h740_6
        have w750 : dt741 79 12 = dt 79 12 := h740_7
        have w751 : dt741 79 20 = dt 79 20 := h740_8
        have hadv0 : dt 79 15 + 1 ≤ dt 79 13 := by omega
        clear h_p0
        have BL752 : ∀ j : Nat, (j : Int) < 5 * dt 79 10 → dt741 82 j = dt 82 j := fun j hj => (hF743 82 (by decide) j).trans ((fun _ _ => rfl) j hj)
        have y753 : dt741 82 ((5 * (dt 79 10))).toNat = dt 82 ((5 * (dt 79 10))).toNat := hF743 82 (by decide) _
        have y754 : dt741 82 ((5 * (dt 79 10)) + 1).toNat = dt 82 ((5 * (dt 79 10)) + 1).toNat := hF743 82 (by decide) _
        have y755 : dt741 82 ((5 * (dt 79 10)) + 2).toNat = dt 82 ((5 * (dt 79 10)) + 2).toNat := hF743 82 (by decide) _
        have y756 : dt741 82 ((5 * (dt 79 10)) + 3).toNat = dt 82 ((5 * (dt 79 10)) + 3).toNat := hF743 82 (by decide) _
        have y757 : dt741 82 ((5 * (dt 79 10)) + 4).toNat = dt 82 ((5 * (dt 79 10)) + 4).toNat := hF743 82 (by decide) _
        clear h740_3 h740_4 h740_5 h740_6 h740_7 h740_8
        have r758 : 0 ≤ dt741 79 10 ∧ dt741 79 10 ≤ 24 := InvC_get hI742 79 10 rfl rfl
        refine go_toq PM172 (k := 7) (pc' := 58) (L' := [some (.inr (.inr (some 79))), some (.inl 5)]) (st' := [.inl 5, .inl (5 * (dt741 79 10)), .inr (.inr (some 82))]) (w' := (SH, dt741)) rfl ?_
        have hI759 : InvC (u2 dt741 82 ((5 * (dt741 79 10)).toNat) 5) := InvC_u2 hI742 (lo := -2147483648) (hi := 2147483647) rfl rfl rfl (by decide) (by decide)
        have hF760 : Fr [79, 82] dt (u2 dt741 82 ((5 * (dt741 79 10)).toNat) 5) := Fr_u2 hF744 (by decide)
        have w761 : (u2 dt741 82 ((5 * (dt741 79 10)).toNat) 5) 79 2 = dt 79 2 := w746
        have w762 : (u2 dt741 82 ((5 * (dt741 79 10)).toNat) 5) 79 9 = dt 79 9 := w747
        have w763 : (u2 dt741 82 ((5 * (dt741 79 10)).toNat) 5) 79 10 = dt 79 10 := w748
        have w764 : (u2 dt741 82 ((5 * (dt741 79 10)).toNat) 5) 79 11 = dt 79 11 := w749
        have w765 : (u2 dt741 82 ((5 * (dt741 79 10)).toNat) 5) 79 12 = dt 79 12 := w750
        have w766 : (u2 dt741 82 ((5 * (dt741 79 10)).toNat) 5) 79 13 = dt741 79 13 := rfl
        have w767 : (u2 dt741 82 ((5 * (dt741 79 10)).toNat) 5) 79 14 = dt741 79 14 := rfl
        have w768 : (u2 dt741 82 ((5 * (dt741 79 10)).toNat) 5) 79 15 = dt741 79 15 := rfl
        have w769 : (u2 dt741 82 ((5 * (dt741 79 10)).toNat) 5) 79 16 = dt741 79 16 := rfl
        have w770 : (u2 dt741 82 ((5 * (dt741 79 10)).toNat) 5) 79 20 = dt 79 20 := w751
        have E84771 : (u2 dt741 82 ((5 * (dt741 79 10)).toNat) 5) 84 = dt 84 := (funext fun _ => rfl).trans E84745
        have ex773 : ((5 * (dt 79 10))).toNat = (5 * (dt741 79 10)).toNat := by rw [show dt741 79 10 = dt 79 10 from w763]
        have BL772 : ∀ j : Nat, (j : Int) < 5 * dt 79 10 → (u2 dt741 82 ((5 * (dt741 79 10)).toNat) 5) 82 j = dt 82 j := fun j hj => (u2_ne (fun z_ => xb0 hj (z_.2.trans ex773.symm))).trans (BL752 j hj)
        have y774 : (u2 dt741 82 ((5 * (dt741 79 10)).toNat) 5) 82 ((5 * (dt 79 10))).toNat = 5 := by rw [ex773]; exact u2_eq
        have y775 : (u2 dt741 82 ((5 * (dt741 79 10)).toNat) 5) 82 ((5 * (dt 79 10)) + 1).toNat = dt 82 ((5 * (dt 79 10)) + 1).toNat := (u2_ne (fun z_ => (fun y_ => xr0 hA0 (by decide) y_.symm) (z_.2.trans ex773.symm))).trans y754
        have y776 : (u2 dt741 82 ((5 * (dt741 79 10)).toNat) 5) 82 ((5 * (dt 79 10)) + 2).toNat = dt 82 ((5 * (dt 79 10)) + 2).toNat := (u2_ne (fun z_ => (fun y_ => xr0 hA0 (by decide) y_.symm) (z_.2.trans ex773.symm))).trans y755
        have y777 : (u2 dt741 82 ((5 * (dt741 79 10)).toNat) 5) 82 ((5 * (dt 79 10)) + 3).toNat = dt 82 ((5 * (dt 79 10)) + 3).toNat := (u2_ne (fun z_ => (fun y_ => xr0 hA0 (by decide) y_.symm) (z_.2.trans ex773.symm))).trans y756
        have y778 : (u2 dt741 82 ((5 * (dt741 79 10)).toNat) 5) 82 ((5 * (dt 79 10)) + 4).toNat = dt 82 ((5 * (dt 79 10)) + 4).toNat := (u2_ne (fun z_ => (fun y_ => xr0 hA0 (by decide) y_.symm) (z_.2.trans ex773.symm))).trans y757
        clear y753 y754 y755 y756 y757
        refine go_smpq PM172 (L' := [some (.inr (.inr (some 79))), some (.inl 5)]) (st' := []) (w' := (SH, (u2 dt741 82 ((5 * (dt741 79 10)).toNat) 5))) rfl rfl (s_iast (n := 120) rfl ⟨by omega, by omega⟩ ⟨by decide, by decide⟩) ?_
        refine go_toq PM172 (k := 6) (pc' := 72) (L' := [some (.inr (.inr (some 79))), some (.inl 5)]) (st' := [.inl 3, .inl 1, .inr (.inr (some 79))]) (w' := (SH, (u2 dt741 82 ((5 * (dt741 79 10)).toNat) 5))) rfl ?_
        refine go_callq PM172 PM171 (Q' := _) rfl rfl rfl rfl (sp_X6_argument L xs sio (d + 0) (u2 dt741 82 ((5 * (dt741 79 10)).toNat) 5) hI759  1 ⟨by decide, by decide⟩ 3 ⟨by decide, by decide⟩ (by first | exact True.intro | with_reducible assumption | exact unhid (by with_reducible assumption) | rfl | omega | trivial) (by first | exact True.intro | with_reducible assumption | exact unhid (by with_reducible assumption) | rfl | omega | trivial)) ?_
        rintro _ _ ⟨dt780, rfl, hI781, hF782, h779⟩
        refine ⟨rfl, ?_⟩
        have hF783 : Fr [79, 82] dt dt780 := Fr_tr hF760 hF782 (by decide)
        have E84784 : dt780 84 = dt 84 := (funext (hF782 84 (by decide))).trans E84771
        rcases h779 with ⟨rfl, h779⟩ | ⟨rfl, h779⟩
        · skip
          obtain ⟨h779_0, h779_1, h779_2, h779_3⟩ := h779
          have w785 : dt780 79 2 = dt 79 2 := h779_0.trans w761
          have w786 : dt780 79 9 = dt 79 9 := h779_1.trans w762
          have w787 : dt780 79 10 = dt 79 10 := h779_2.trans w763
          have w788 : dt780 79 12 = dt 79 12 := h779_3.trans w765
          clear h779_0 w761 h779_1 w762 h779_2 w763 h779_3 w765
          refine go_retq PM172 (k := 2) (r := some (.inl 0)) (w1 := (SH, dt780)) rfl ?_
          exact ⟨dt780, rfl, hI781, hF783, (Or.inl ⟨rfl, ⟨by first | exact True.intro | with_reducible assumption | exact unhid (by with_reducible assumption) | rfl | fail | trivial, by first | exact True.intro | with_reducible assumption | exact unhid (by with_reducible assumption) | rfl | fail | trivial, by first | exact True.intro | with_reducible assumption | exact unhid (by with_reducible assumption) | rfl | fail | trivial⟩⟩)⟩
        · skip
          obtain ⟨h779_0, h779_1, h779_2, h779_3, h779_4, h779_5, h779_6, h779_7, h779_8, h779_9, h779_10⟩ := h779
          have w789 : dt780 79 2 = dt 79 2 := h779_5.trans w761
          have w790 : dt780 79 9 = dt 79 9 := h779_6.trans w762
          have w791 : dt780 79 10 = dt 79 10 := h779_7.trans w763
          have w792 : dt780 79 11 = dt 79 11 := h779_8.trans w764
          have w793 : dt780 79 12 = dt 79 12 := h779_9.trans w765
          have w794 : dt780 79 20 = dt 79 20 := h779_10.trans w770
          clear h740_1
          have ee795 : (u2 dt741 82 ((5 * (dt741 79 10)).toNat) 5) 79 10 = dt 79 10 := by omega
          rw [ee795] at h779_0 h779_1
          have BL796 : ∀ j : Nat, (j : Int) < 5 * dt 79 10 → dt780 82 j = dt 82 j := fun j hj => (h779_0 j (blq hj (by decide))).trans (BL772 j hj)
          have y797 : dt780 82 ((5 * (dt 79 10))).toNat = 5 := (h779_0 _ (xq0 hL0 (by decide))).trans y774
          have y798 : dt780 82 ((5 * (dt 79 10)) + 2).toNat = dt 82 ((5 * (dt 79 10)) + 2).toNat := (h779_0 _ (xq hL0 (by decide) (by decide))).trans y776
          have y799 : dt780 82 ((5 * (dt 79 10)) + 3).toNat = dt 82 ((5 * (dt 79 10)) + 3).toNat := (h779_0 _ (xq hL0 (by decide) (by decide))).trans y777
          have y800 : dt780 82 ((5 * (dt 79 10)) + 4).toNat = dt 82 ((5 * (dt 79 10)) + 4).toNat := (h779_0 _ (xq hL0 (by decide) (by decide))).trans y778
          have y801 := h779_1 ((5 * (dt 79 10)) + 1) rfl
          clear y774 y776 y777 y778 y775
          clear h779_5 w761 h779_6 w762 h779_7 w763 h779_8 w764 h779_9 w765 h779_10 w770
          refine go_toq PM172 (k := 28) (pc' := 179) (L' := [some (.inr (.inr (some 79))), some (.inl 5)]) (st' := [.inl 3, .inl 3, .inr (.inr (some 79))]) (w' := (SH, dt780)) rfl ?_
          refine go_callq PM172 PM171 (Q' := _) rfl rfl rfl rfl (sp_X6_argument L xs sio (d + 0) dt780 hI781  3 ⟨by decide, by decide⟩ 3 ⟨by decide, by decide⟩ (by first | exact True.intro | with_reducible assumption | exact unhid (by with_reducible assumption) | rfl | fail | trivial) (by first | exact True.intro | with_reducible assumption | exact unhid (by with_reducible assumption) | rfl | omega | trivial)) ?_
          rintro _ _ ⟨dt803, rfl, hI804, hF805, h802⟩
          refine ⟨rfl, ?_⟩
          have hF806 : Fr [79, 82] dt dt803 := Fr_tr hF783 hF805 (by decide)
          have E84807 : dt803 84 = dt 84 := (funext (hF805 84 (by decide))).trans E84784
          rcases h802 with ⟨rfl, h802⟩ | ⟨rfl, h802⟩
          · skip
            obtain ⟨h802_0, h802_1, h802_2, h802_3⟩ := h802
            have w808 : dt803 79 2 = dt 79 2 := h802_0.trans w789
            have w809 : dt803 79 9 = dt 79 9 := h802_1.trans w790
            have w810 : dt803 79 10 = dt 79 10 := h802_2.trans w791
            have w811 : dt803 79 12 = dt 79 12 := h802_3.trans w793
            clear h802_0 w789 h802_1 w790 h802_2 h802_3 w793
            refine go_retq PM172 (k := 2) (r := some (.inl 0)) (w1 := (SH, dt803)) rfl ?_
            exact ⟨dt803, rfl, hI804, hF806, (Or.inl ⟨rfl, ⟨by first | exact True.intro | with_reducible assumption | exact unhid (by with_reducible assumption) | rfl | fail | trivial, by first | exact True.intro | with_reducible assumption | exact unhid (by with_reducible assumption) | rfl | fail | trivial, by first | exact True.intro | with_reducible assumption | exact unhid (by with_reducible assumption) | rfl | fail | trivial⟩⟩)⟩
          · skip
            obtain ⟨h802_0, h802_1, h802_2, h802_3, h802_4, h802_5, h802_6, h802_7, h802_8, h802_9, h802_10⟩ := h802
            have w812 : dt803 79 2 = dt 79 2 := h802_5.trans w789
            have w813 : dt803 79 9 = dt 79 9 := h802_6.trans w790
            have w814 : dt803 79 10 = dt 79 10 := h802_7.trans w791
            have w815 : dt803 79 11 = dt 79 11 := h802_8.trans w792
            have w816 : dt803 79 12 = dt 79 12 := h802_9.trans w793
            have w817 : dt803 79 20 = dt 79 20 := h802_10.trans w794
            clear h779_3
            have ee818 : dt780 79 10 = dt 79 10 := by omega
            rw [ee818] at h802_0 h802_1
            have BL819 : ∀ j : Nat, (j : Int) < 5 * dt 79 10 → dt803 82 j = dt 82 j := fun j hj => (h802_0 j (blq hj (by decide))).trans (BL796 j hj)
            have y820 : dt803 82 ((5 * (dt 79 10))).toNat = 5 := (h802_0 _ (xq0 hL0 (by decide))).trans y797
            have y821 : dt803 82 ((5 * (dt 79 10)) + 1).toNat = dt780 82 ((5 * (dt 79 10)) + 1).toNat := h802_0 _ (xq hL0 (by decide) (by decide))
            have y822 : dt803 82 ((5 * (dt 79 10)) + 2).toNat = dt 82 ((5 * (dt 79 10)) + 2).toNat := (h802_0 _ (xq hL0 (by decide) (by decide))).trans y798
            have y823 : dt803 82 ((5 * (dt 79 10)) + 4).toNat = dt 82 ((5 * (dt 79 10)) + 4).toNat := (h802_0 _ (xq hL0 (by decide) (by decide))).trans y800
            have y824 := h802_1 ((5 * (dt 79 10)) + 3) rfl
            clear y797 y798 y800 y799
            clear h802_5 w789 h802_6 w790 h802_7 h802_8 h802_9 w793 h802_10 w794
            refine go_toq PM172 (k := 6) (pc' := 208) (L' := [some (.inr (.inr (some 79))), some (.inl 5)]) (st' := [.inl 159, .inr (.inr (some 79))]) (w' := (SH, dt803)) rfl ?_
            refine go_callq PM172 PM161 (Q' := _) rfl rfl rfl rfl (sp_X6_need0 L xs sio (d + 1) dt803 hI804  159 ⟨by decide, by decide⟩ (by first | exact True.intro | with_reducible assumption | exact unhid (by with_reducible assumption) | rfl | fail | trivial)) ?_
            rintro _ _ ⟨dt826, rfl, hI827, hF828, h825⟩
            refine ⟨rfl, ?_⟩
            have hF829 : Fr [79, 82] dt dt826 := Fr_tr hF806 hF828 (by decide)
            have E84830 : dt826 84 = dt 84 := (funext (hF828 84 (by decide))).trans E84807
            rcases h825 with ⟨rfl, h825⟩ | ⟨rfl, h825⟩
            · skip
              obtain ⟨h825_0, h825_1, h825_2, h825_3⟩ := h825
              have w831 : dt826 79 2 = dt 79 2 := h825_0.trans w812
              have w832 : dt826 79 9 = dt 79 9 := h825_1.trans w813
              have w833 : dt826 79 10 = dt 79 10 := h825_2.trans w814
              have w834 : dt826 79 12 = dt 79 12 := h825_3.trans w816
              have BL835 : ∀ j : Nat, (j : Int) < 5 * dt 79 10 → dt826 82 j = dt 82 j := fun j hj => (hF828 82 (by decide) j).trans (BL819 j hj)
              have y836 : dt826 82 ((5 * (dt 79 10))).toNat = 5 := (hF828 82 (by decide) _).trans y820
              have y837 : dt826 82 ((5 * (dt 79 10)) + 1).toNat = dt780 82 ((5 * (dt 79 10)) + 1).toNat := (hF828 82 (by decide) _).trans y821
              have y838 : dt826 82 ((5 * (dt 79 10)) + 2).toNat = dt 82 ((5 * (dt 79 10)) + 2).toNat := (hF828 82 (by decide) _).trans y822
              have y839 : dt826 82 ((5 * (dt 79 10)) + 3).toNat = dt803 82 ((5 * (dt 79 10)) + 3).toNat := hF828 82 (by decide) _
              have y840 : dt826 82 ((5 * (dt 79 10)) + 4).toNat = dt 82 ((5 * (dt 79 10)) + 4).toNat := (hF828 82 (by decide) _).trans y823
              clear y820 y821 y822 y823
              clear h825_0 w812 h825_1 w813 h825_2 h825_3 w816
              refine go_retq PM172 (k := 0) (r := some (.inl 0)) (w1 := (SH, dt826)) rfl ?_
              exact ⟨dt826, rfl, hI827, hF829, (Or.inl ⟨rfl, ⟨by first | exact True.intro | with_reducible assumption | exact unhid (by with_reducible assumption) | rfl | fail | trivial, by first | exact True.intro | with_reducible assumption | exact unhid (by with_reducible assumption) | rfl | fail | trivial, by first | exact True.intro | with_reducible assumption | exact unhid (by with_reducible assumption) | rfl | fail | trivial⟩⟩)⟩
            · skip
              obtain ⟨h825_0, h825_1, h825_2, h825_3, h825_4, h825_5, h825_6, h825_7, h825_8⟩ := h825
              have w841 : dt826 79 2 = dt 79 2 := h825_3.trans w812
              have w842 : dt826 79 9 = dt 79 9 := h825_4.trans w813
              have w843 : dt826 79 10 = dt 79 10 := h825_5.trans w814
              have w844 : dt826 79 11 = dt 79 11 := h825_6.trans w815
              have w845 : dt826 79 12 = dt 79 12 := h825_7.trans w816
              have w846 : dt826 79 20 = dt 79 20 := h825_8.trans w817
              clear h802_3
              have BL847 : ∀ j : Nat, (j : Int) < 5 * dt 79 10 → dt826 82 j = dt 82 j := fun j hj => (hF828 82 (by decide) j).trans (BL819 j hj)
              have y848 : dt826 82 ((5 * (dt 79 10))).toNat = 5 := (hF828 82 (by decide) _).trans y820
              have y849 : dt826 82 ((5 * (dt 79 10)) + 1).toNat = dt780 82 ((5 * (dt 79 10)) + 1).toNat := (hF828 82 (by decide) _).trans y821
              have y850 : dt826 82 ((5 * (dt 79 10)) + 2).toNat = dt 82 ((5 * (dt 79 10)) + 2).toNat := (hF828 82 (by decide) _).trans y822
              have y851 : dt826 82 ((5 * (dt 79 10)) + 3).toNat = dt803 82 ((5 * (dt 79 10)) + 3).toNat := hF828 82 (by decide) _
              have y852 : dt826 82 ((5 * (dt 79 10)) + 4).toNat = dt 82 ((5 * (dt 79 10)) + 4).toNat := (hF828 82 (by decide) _).trans y823
              clear y820 y821 y822 y823
              clear h825_3 w812 h825_4 w813 h825_5 h825_6 h825_7 w816 h825_8 w817
              refine go_retq PM172 (k := 0) (r := some (.inl 1)) (w1 := (SH, dt826)) rfl ?_
              exact ⟨dt826, rfl, hI827, hF829, (Or.inr ⟨rfl, ⟨by first | exact True.intro | with_reducible assumption | exact unhid (by with_reducible assumption) | rfl | fail | trivial, by exact BL847, by unfold aOK; omega, by first | exact True.intro | with_reducible assumption | exact unhid (by with_reducible assumption) | rfl | omega | trivial, by first | exact True.intro | with_reducible assumption | exact unhid (by with_reducible assumption) | rfl | fail | trivial, by exact (InvC_get (by assumption) 79 15 rfl rfl).2, by first | exact True.intro | with_reducible assumption | exact unhid (by with_reducible assumption) | rfl | fail | trivial, by first | exact True.intro | with_reducible assumption | exact unhid (by with_reducible assumption) | rfl | fail | trivial, by first | exact True.intro | with_reducible assumption | exact unhid (by with_reducible assumption) | rfl | fail | trivial, by first | exact True.intro | with_reducible assumption | exact unhid (by with_reducible assumption) | rfl | fail | trivial, by first | exact True.intro | with_reducible assumption | exact unhid (by with_reducible assumption) | rfl | fail | trivial⟩⟩)⟩
      · rw [hc7]
        refine go_toq PM172 (k := 1) (pc' := 44) (L' := [some (.inr (.inr (some 79))), some (.inl 6)]) (st' := [.inr (.inr (some 79))]) (w' := (SH, dt)) rfl ?_
        refine go_callq PM172 PM159 (Q' := _) rfl rfl rfl rfl (sp_X6_next0 L xs sio (d + 2) dt hI   (by first | exact True.intro | with_reducible assumption | exact unhid (by with_reducible assumption) | rfl | omega | trivial)) ?_
        rintro _ _ ⟨dt854, rfl, hI855, hF856, h853⟩
        refine ⟨rfl, ?_⟩
        have hF857 : Fr [79, 82] dt dt854 := Fr_tr hF hF856 (by decide)
        have E84858 : dt854 84 = dt 84 := funext (hF856 84 (by decide))
        rcases h853 with ⟨rfl, h853⟩
        obtain ⟨h853_0, h853_1, h853_2, h853_3, h853_4, h853_5, h853_6, h853_7, h853_8⟩ := h853
        have w859 : dt854 79 2 = dt 79 2 := h853_3
        have w860 : dt854 79 9 = dt 79 9 := h853_4
        have w861 : dt854 79 10 = dt 79 10 := h853_5
        have w862 : dt854 79 11 = dt 79 11 := h853_6
        have w863 : dt854 79 12 = dt 79 12 := h853_7
        have w864 : dt854 79 20 = dt 79 20 := h853_8
        have hadv0 : dt 79 15 + 1 ≤ dt 79 13 := by omega
        clear h_p0
        have BL865 : ∀ j : Nat, (j : Int) < 5 * dt 79 10 → dt854 82 j = dt 82 j := fun j hj => (hF856 82 (by decide) j).trans ((fun _ _ => rfl) j hj)
        have y866 : dt854 82 ((5 * (dt 79 10))).toNat = dt 82 ((5 * (dt 79 10))).toNat := hF856 82 (by decide) _
        have y867 : dt854 82 ((5 * (dt 79 10)) + 1).toNat = dt 82 ((5 * (dt 79 10)) + 1).toNat := hF856 82 (by decide) _
        have y868 : dt854 82 ((5 * (dt 79 10)) + 2).toNat = dt 82 ((5 * (dt 79 10)) + 2).toNat := hF856 82 (by decide) _
        have y869 : dt854 82 ((5 * (dt 79 10)) + 3).toNat = dt 82 ((5 * (dt 79 10)) + 3).toNat := hF856 82 (by decide) _
        have y870 : dt854 82 ((5 * (dt 79 10)) + 4).toNat = dt 82 ((5 * (dt 79 10)) + 4).toNat := hF856 82 (by decide) _
        clear h853_3 h853_4 h853_5 h853_6 h853_7 h853_8
        have r871 : 0 ≤ dt854 79 10 ∧ dt854 79 10 ≤ 24 := InvC_get hI855 79 10 rfl rfl
        refine go_toq PM172 (k := 7) (pc' := 58) (L' := [some (.inr (.inr (some 79))), some (.inl 6)]) (st' := [.inl 6, .inl (5 * (dt854 79 10)), .inr (.inr (some 82))]) (w' := (SH, dt854)) rfl ?_
        have hI872 : InvC (u2 dt854 82 ((5 * (dt854 79 10)).toNat) 6) := InvC_u2 hI855 (lo := -2147483648) (hi := 2147483647) rfl rfl rfl (by decide) (by decide)
        have hF873 : Fr [79, 82] dt (u2 dt854 82 ((5 * (dt854 79 10)).toNat) 6) := Fr_u2 hF857 (by decide)
        have w874 : (u2 dt854 82 ((5 * (dt854 79 10)).toNat) 6) 79 2 = dt 79 2 := w859
        have w875 : (u2 dt854 82 ((5 * (dt854 79 10)).toNat) 6) 79 9 = dt 79 9 := w860
        have w876 : (u2 dt854 82 ((5 * (dt854 79 10)).toNat) 6) 79 10 = dt 79 10 := w861
        have w877 : (u2 dt854 82 ((5 * (dt854 79 10)).toNat) 6) 79 11 = dt 79 11 := w862
        have w878 : (u2 dt854 82 ((5 * (dt854 79 10)).toNat) 6) 79 12 = dt 79 12 := w863
        have w879 : (u2 dt854 82 ((5 * (dt854 79 10)).toNat) 6) 79 13 = dt854 79 13 := rfl
        have w880 : (u2 dt854 82 ((5 * (dt854 79 10)).toNat) 6) 79 14 = dt854 79 14 := rfl
        have w881 : (u2 dt854 82 ((5 * (dt854 79 10)).toNat) 6) 79 15 = dt854 79 15 := rfl
        have w882 : (u2 dt854 82 ((5 * (dt854 79 10)).toNat) 6) 79 16 = dt854 79 16 := rfl
        have w883 : (u2 dt854 82 ((5 * (dt854 79 10)).toNat) 6) 79 20 = dt 79 20 := w864
        have E84884 : (u2 dt854 82 ((5 * (dt854 79 10)).toNat) 6) 84 = dt 84 := (funext fun _ => rfl).trans E84858
        have ex886 : ((5 * (dt 79 10))).toNat = (5 * (dt854 79 10)).toNat := by rw [show dt854 79 10 = dt 79 10 from w876]
        have BL885 : ∀ j : Nat, (j : Int) < 5 * dt 79 10 → (u2 dt854 82 ((5 * (dt854 79 10)).toNat) 6) 82 j = dt 82 j := fun j hj => (u2_ne (fun z_ => xb0 hj (z_.2.trans ex886.symm))).trans (BL865 j hj)
        have y887 : (u2 dt854 82 ((5 * (dt854 79 10)).toNat) 6) 82 ((5 * (dt 79 10))).toNat = 6 := by rw [ex886]; exact u2_eq
        have y888 : (u2 dt854 82 ((5 * (dt854 79 10)).toNat) 6) 82 ((5 * (dt 79 10)) + 1).toNat = dt 82 ((5 * (dt 79 10)) + 1).toNat := (u2_ne (fun z_ => (fun y_ => xr0 hA0 (by decide) y_.symm) (z_.2.trans ex886.symm))).trans y867
        have y889 : (u2 dt854 82 ((5 * (dt854 79 10)).toNat) 6) 82 ((5 * (dt 79 10)) + 2).toNat = dt 82 ((5 * (dt 79 10)) + 2).toNat := (u2_ne (fun z_ => (fun y_ => xr0 hA0 (by decide) y_.symm) (z_.2.trans ex886.symm))).trans y868
        have y890 : (u2 dt854 82 ((5 * (dt854 79 10)).toNat) 6) 82 ((5 * (dt 79 10)) + 3).toNat = dt 82 ((5 * (dt 79 10)) + 3).toNat := (u2_ne (fun z_ => (fun y_ => xr0 hA0 (by decide) y_.symm) (z_.2.trans ex886.symm))).trans y869
        have y891 : (u2 dt854 82 ((5 * (dt854 79 10)).toNat) 6) 82 ((5 * (dt 79 10)) + 4).toNat = dt 82 ((5 * (dt 79 10)) + 4).toNat := (u2_ne (fun z_ => (fun y_ => xr0 hA0 (by decide) y_.symm) (z_.2.trans ex886.symm))).trans y870
        clear y866 y867 y868 y869 y870
        refine go_smpq PM172 (L' := [some (.inr (.inr (some 79))), some (.inl 6)]) (st' := []) (w' := (SH, (u2 dt854 82 ((5 * (dt854 79 10)).toNat) 6))) rfl rfl (s_iast (n := 120) rfl ⟨by omega, by omega⟩ ⟨by decide, by decide⟩) ?_
        refine go_toq PM172 (k := 6) (pc' := 72) (L' := [some (.inr (.inr (some 79))), some (.inl 6)]) (st' := [.inl 3, .inl 1, .inr (.inr (some 79))]) (w' := (SH, (u2 dt854 82 ((5 * (dt854 79 10)).toNat) 6))) rfl ?_
        refine go_callq PM172 PM171 (Q' := _) rfl rfl rfl rfl (sp_X6_argument L xs sio (d + 0) (u2 dt854 82 ((5 * (dt854 79 10)).toNat) 6) hI872  1 ⟨by decide, by decide⟩ 3 ⟨by decide, by decide⟩ (by first | exact True.intro | with_reducible assumption | exact unhid (by with_reducible assumption) | rfl | omega | trivial) (by first | exact True.intro | with_reducible assumption | exact unhid (by with_reducible assumption) | rfl | omega | trivial)) ?_
        rintro _ _ ⟨dt893, rfl, hI894, hF895, h892⟩
        refine ⟨rfl, ?_⟩
        have hF896 : Fr [79, 82] dt dt893 := Fr_tr hF873 hF895 (by decide)
        have E84897 : dt893 84 = dt 84 := (funext (hF895 84 (by decide))).trans E84884
        rcases h892 with ⟨rfl, h892⟩ | ⟨rfl, h892⟩
        · skip
          obtain ⟨h892_0, h892_1, h892_2, h892_3⟩ := h892
          have w898 : dt893 79 2 = dt 79 2 := h892_0.trans w874
          have w899 : dt893 79 9 = dt 79 9 := h892_1.trans w875
          have w900 : dt893 79 10 = dt 79 10 := h892_2.trans w876
          have w901 : dt893 79 12 = dt 79 12 := h892_3.trans w878
          clear h892_0 w874 h892_1 w875 h892_2 w876 h892_3 w878
          refine go_retq PM172 (k := 2) (r := some (.inl 0)) (w1 := (SH, dt893)) rfl ?_
          exact ⟨dt893, rfl, hI894, hF896, (Or.inl ⟨rfl, ⟨by first | exact True.intro | with_reducible assumption | exact unhid (by with_reducible assumption) | rfl | fail | trivial, by first | exact True.intro | with_reducible assumption | exact unhid (by with_reducible assumption) | rfl | fail | trivial, by first | exact True.intro | with_reducible assumption | exact unhid (by with_reducible assumption) | rfl | fail | trivial⟩⟩)⟩
        · skip
          obtain ⟨h892_0, h892_1, h892_2, h892_3, h892_4, h892_5, h892_6, h892_7, h892_8, h892_9, h892_10⟩ := h892
          have w902 : dt893 79 2 = dt 79 2 := h892_5.trans w874
          have w903 : dt893 79 9 = dt 79 9 := h892_6.trans w875
          have w904 : dt893 79 10 = dt 79 10 := h892_7.trans w876
          have w905 : dt893 79 11 = dt 79 11 := h892_8.trans w877
          have w906 : dt893 79 12 = dt 79 12 := h892_9.trans w878
          have w907 : dt893 79 20 = dt 79 20 := h892_10.trans w883
          clear h853_1
          have ee908 : (u2 dt854 82 ((5 * (dt854 79 10)).toNat) 6) 79 10 = dt 79 10 := by omega
          rw [ee908] at h892_0 h892_1
          have BL909 : ∀ j : Nat, (j : Int) < 5 * dt 79 10 → dt893 82 j = dt 82 j := fun j hj => (h892_0 j (blq hj (by decide))).trans (BL885 j hj)
          have y910 : dt893 82 ((5 * (dt 79 10))).toNat = 6 := (h892_0 _ (xq0 hL0 (by decide))).trans y887
          have y911 : dt893 82 ((5 * (dt 79 10)) + 2).toNat = dt 82 ((5 * (dt 79 10)) + 2).toNat := (h892_0 _ (xq hL0 (by decide) (by decide))).trans y889
          have y912 : dt893 82 ((5 * (dt 79 10)) + 3).toNat = dt 82 ((5 * (dt 79 10)) + 3).toNat := (h892_0 _ (xq hL0 (by decide) (by decide))).trans y890
          have y913 : dt893 82 ((5 * (dt 79 10)) + 4).toNat = dt 82 ((5 * (dt 79 10)) + 4).toNat := (h892_0 _ (xq hL0 (by decide) (by decide))).trans y891
          have y914 := h892_1 ((5 * (dt 79 10)) + 1) rfl
          clear y887 y889 y890 y891 y888
          clear h892_5 w874 h892_6 w875 h892_7 w876 h892_8 w877 h892_9 w878 h892_10 w883
          refine go_toq PM172 (k := 31) (pc' := 196) (L' := [some (.inr (.inr (some 79))), some (.inl 6)]) (st' := [.inl 1, .inl 3, .inr (.inr (some 79))]) (w' := (SH, dt893)) rfl ?_
          refine go_callq PM172 PM171 (Q' := _) rfl rfl rfl rfl (sp_X6_argument L xs sio (d + 0) dt893 hI894  3 ⟨by decide, by decide⟩ 1 ⟨by decide, by decide⟩ (by first | exact True.intro | with_reducible assumption | exact unhid (by with_reducible assumption) | rfl | fail | trivial) (by first | exact True.intro | with_reducible assumption | exact unhid (by with_reducible assumption) | rfl | omega | trivial)) ?_
          rintro _ _ ⟨dt916, rfl, hI917, hF918, h915⟩
          refine ⟨rfl, ?_⟩
          have hF919 : Fr [79, 82] dt dt916 := Fr_tr hF896 hF918 (by decide)
          have E84920 : dt916 84 = dt 84 := (funext (hF918 84 (by decide))).trans E84897
          rcases h915 with ⟨rfl, h915⟩ | ⟨rfl, h915⟩
          · skip
            obtain ⟨h915_0, h915_1, h915_2, h915_3⟩ := h915
            have w921 : dt916 79 2 = dt 79 2 := h915_0.trans w902
            have w922 : dt916 79 9 = dt 79 9 := h915_1.trans w903
            have w923 : dt916 79 10 = dt 79 10 := h915_2.trans w904
            have w924 : dt916 79 12 = dt 79 12 := h915_3.trans w906
            clear h915_0 w902 h915_1 w903 h915_2 h915_3 w906
            refine go_retq PM172 (k := 2) (r := some (.inl 0)) (w1 := (SH, dt916)) rfl ?_
            exact ⟨dt916, rfl, hI917, hF919, (Or.inl ⟨rfl, ⟨by first | exact True.intro | with_reducible assumption | exact unhid (by with_reducible assumption) | rfl | fail | trivial, by first | exact True.intro | with_reducible assumption | exact unhid (by with_reducible assumption) | rfl | fail | trivial, by first | exact True.intro | with_reducible assumption | exact unhid (by with_reducible assumption) | rfl | fail | trivial⟩⟩)⟩
          · skip
            obtain ⟨h915_0, h915_1, h915_2, h915_3, h915_4, h915_5, h915_6, h915_7, h915_8, h915_9, h915_10⟩ := h915
            have w925 : dt916 79 2 = dt 79 2 := h915_5.trans w902
            have w926 : dt916 79 9 = dt 79 9 := h915_6.trans w903
            have w927 : dt916 79 10 = dt 79 10 := h915_7.trans w904
            have w928 : dt916 79 11 = dt 79 11 := h915_8.trans w905
            have w929 : dt916 79 12 = dt 79 12 := h915_9.trans w906
            have w930 : dt916 79 20 = dt 79 20 := h915_10.trans w907
            clear h892_3
            have ee931 : dt893 79 10 = dt 79 10 := by omega
            rw [ee931] at h915_0 h915_1
            have BL932 : ∀ j : Nat, (j : Int) < 5 * dt 79 10 → dt916 82 j = dt 82 j := fun j hj => (h915_0 j (blq hj (by decide))).trans (BL909 j hj)
            have y933 : dt916 82 ((5 * (dt 79 10))).toNat = 6 := (h915_0 _ (xq0 hL0 (by decide))).trans y910
            have y934 : dt916 82 ((5 * (dt 79 10)) + 1).toNat = dt893 82 ((5 * (dt 79 10)) + 1).toNat := h915_0 _ (xq hL0 (by decide) (by decide))
            have y935 : dt916 82 ((5 * (dt 79 10)) + 2).toNat = dt 82 ((5 * (dt 79 10)) + 2).toNat := (h915_0 _ (xq hL0 (by decide) (by decide))).trans y911
            have y936 : dt916 82 ((5 * (dt 79 10)) + 4).toNat = dt 82 ((5 * (dt 79 10)) + 4).toNat := (h915_0 _ (xq hL0 (by decide) (by decide))).trans y913
            have y937 := h915_1 ((5 * (dt 79 10)) + 3) rfl
            clear y910 y911 y913 y912
            clear h915_5 w902 h915_6 w903 h915_7 h915_8 h915_9 w906 h915_10 w907
            refine go_toq PM172 (k := 3) (pc' := 208) (L' := [some (.inr (.inr (some 79))), some (.inl 6)]) (st' := [.inl 159, .inr (.inr (some 79))]) (w' := (SH, dt916)) rfl ?_
            refine go_callq PM172 PM161 (Q' := _) rfl rfl rfl rfl (sp_X6_need0 L xs sio (d + 1) dt916 hI917  159 ⟨by decide, by decide⟩ (by first | exact True.intro | with_reducible assumption | exact unhid (by with_reducible assumption) | rfl | fail | trivial)) ?_
            rintro _ _ ⟨dt939, rfl, hI940, hF941, h938⟩
            refine ⟨rfl, ?_⟩
            have hF942 : Fr [79, 82] dt dt939 := Fr_tr hF919 hF941 (by decide)
            have E84943 : dt939 84 = dt 84 := (funext (hF941 84 (by decide))).trans E84920
            rcases h938 with ⟨rfl, h938⟩ | ⟨rfl, h938⟩
            · skip
              obtain ⟨h938_0, h938_1, h938_2, h938_3⟩ := h938
              have w944 : dt939 79 2 = dt 79 2 := h938_0.trans w925
              have w945 : dt939 79 9 = dt 79 9 := h938_1.trans w926
              have w946 : dt939 79 10 = dt 79 10 := h938_2.trans w927
              have w947 : dt939 79 12 = dt 79 12 := h938_3.trans w929
              have BL948 : ∀ j : Nat, (j : Int) < 5 * dt 79 10 → dt939 82 j = dt 82 j := fun j hj => (hF941 82 (by decide) j).trans (BL932 j hj)
              have y949 : dt939 82 ((5 * (dt 79 10))).toNat = 6 := (hF941 82 (by decide) _).trans y933
              have y950 : dt939 82 ((5 * (dt 79 10)) + 1).toNat = dt893 82 ((5 * (dt 79 10)) + 1).toNat := (hF941 82 (by decide) _).trans y934
              have y951 : dt939 82 ((5 * (dt 79 10)) + 2).toNat = dt 82 ((5 * (dt 79 10)) + 2).toNat := (hF941 82 (by decide) _).trans y935
              have y952 : dt939 82 ((5 * (dt 79 10)) + 3).toNat = dt916 82 ((5 * (dt 79 10)) + 3).toNat := hF941 82 (by decide) _
              have y953 : dt939 82 ((5 * (dt 79 10)) + 4).toNat = dt 82 ((5 * (dt 79 10)) + 4).toNat := (hF941 82 (by decide) _).trans y936
              clear y933 y934 y935 y936
              clear h938_0 w925 h938_1 w926 h938_2 h938_3 w929
              refine go_retq PM172 (k := 0) (r := some (.inl 0)) (w1 := (SH, dt939)) rfl ?_
              exact ⟨dt939, rfl, hI940, hF942, (Or.inl ⟨rfl, ⟨by first | exact True.intro | with_reducible assumption | exact unhid (by with_reducible assumption) | rfl | fail | trivial, by first | exact True.intro | with_reducible assumption | exact unhid (by with_reducible assumption) | rfl | fail | trivial, by first | exact True.intro | with_reducible assumption | exact unhid (by with_reducible assumption) | rfl | fail | trivial⟩⟩)⟩
            · skip
              obtain ⟨h938_0, h938_1, h938_2, h938_3, h938_4, h938_5, h938_6, h938_7, h938_8⟩ := h938
              have w954 : dt939 79 2 = dt 79 2 := h938_3.trans w925
              have w955 : dt939 79 9 = dt 79 9 := h938_4.trans w926
              have w956 : dt939 79 10 = dt 79 10 := h938_5.trans w927
              have w957 : dt939 79 11 = dt 79 11 := h938_6.trans w928
              have w958 : dt939 79 12 = dt 79 12 := h938_7.trans w929
              have w959 : dt939 79 20 = dt 79 20 := h938_8.trans w930
              clear h915_3
              have BL960 : ∀ j : Nat, (j : Int) < 5 * dt 79 10 → dt939 82 j = dt 82 j := fun j hj => (hF941 82 (by decide) j).trans (BL932 j hj)
              have y961 : dt939 82 ((5 * (dt 79 10))).toNat = 6 := (hF941 82 (by decide) _).trans y933
              have y962 : dt939 82 ((5 * (dt 79 10)) + 1).toNat = dt893 82 ((5 * (dt 79 10)) + 1).toNat := (hF941 82 (by decide) _).trans y934
              have y963 : dt939 82 ((5 * (dt 79 10)) + 2).toNat = dt 82 ((5 * (dt 79 10)) + 2).toNat := (hF941 82 (by decide) _).trans y935
              have y964 : dt939 82 ((5 * (dt 79 10)) + 3).toNat = dt916 82 ((5 * (dt 79 10)) + 3).toNat := hF941 82 (by decide) _
              have y965 : dt939 82 ((5 * (dt 79 10)) + 4).toNat = dt 82 ((5 * (dt 79 10)) + 4).toNat := (hF941 82 (by decide) _).trans y936
              clear y933 y934 y935 y936
              clear h938_3 w925 h938_4 w926 h938_5 h938_6 h938_7 w929 h938_8 w930
              refine go_retq PM172 (k := 0) (r := some (.inl 1)) (w1 := (SH, dt939)) rfl ?_
              exact ⟨dt939, rfl, hI940, hF942, (Or.inr ⟨rfl, ⟨by first | exact True.intro | with_reducible assumption | exact unhid (by with_reducible assumption) | rfl | fail | trivial, by exact BL960, by unfold aOK; omega, by first | exact True.intro | with_reducible assumption | exact unhid (by with_reducible assumption) | rfl | omega | trivial, by first | exact True.intro | with_reducible assumption | exact unhid (by with_reducible assumption) | rfl | fail | trivial, by exact (InvC_get (by assumption) 79 15 rfl rfl).2, by first | exact True.intro | with_reducible assumption | exact unhid (by with_reducible assumption) | rfl | fail | trivial, by first | exact True.intro | with_reducible assumption | exact unhid (by with_reducible assumption) | rfl | fail | trivial, by first | exact True.intro | with_reducible assumption | exact unhid (by with_reducible assumption) | rfl | fail | trivial, by first | exact True.intro | with_reducible assumption | exact unhid (by with_reducible assumption) | rfl | fail | trivial, by first | exact True.intro | with_reducible assumption | exact unhid (by with_reducible assumption) | rfl | fail | trivial⟩⟩)⟩
      · rw [hc7]
        refine go_toq PM172 (k := 1) (pc' := 44) (L' := [some (.inr (.inr (some 79))), some (.inl 7)]) (st' := [.inr (.inr (some 79))]) (w' := (SH, dt)) rfl ?_
        refine go_callq PM172 PM159 (Q' := _) rfl rfl rfl rfl (sp_X6_next0 L xs sio (d + 2) dt hI   (by first | exact True.intro | with_reducible assumption | exact unhid (by with_reducible assumption) | rfl | omega | trivial)) ?_
        rintro _ _ ⟨dt967, rfl, hI968, hF969, h966⟩
        refine ⟨rfl, ?_⟩
        have hF970 : Fr [79, 82] dt dt967 := Fr_tr hF hF969 (by decide)
        have E84971 : dt967 84 = dt 84 := funext (hF969 84 (by decide))
        rcases h966 with ⟨rfl, h966⟩
        obtain ⟨h966_0, h966_1, h966_2, h966_3, h966_4, h966_5, h966_6, h966_7, h966_8⟩ := h966
        have w972 : dt967 79 2 = dt 79 2 := h966_3
        have w973 : dt967 79 9 = dt 79 9 := h966_4
        have w974 : dt967 79 10 = dt 79 10 := h966_5
        have w975 : dt967 79 11 = dt 79 11 := h966_6
        have w976 : dt967 79 12 = dt 79 12 := h966_7
        have w977 : dt967 79 20 = dt 79 20 := h966_8
        have hadv0 : dt 79 15 + 1 ≤ dt 79 13 := by omega
        clear h_p0
        have BL978 : ∀ j : Nat, (j : Int) < 5 * dt 79 10 → dt967 82 j = dt 82 j := fun j hj => (hF969 82 (by decide) j).trans ((fun _ _ => rfl) j hj)
        have y979 : dt967 82 ((5 * (dt 79 10))).toNat = dt 82 ((5 * (dt 79 10))).toNat := hF969 82 (by decide) _
        have y980 : dt967 82 ((5 * (dt 79 10)) + 1).toNat = dt 82 ((5 * (dt 79 10)) + 1).toNat := hF969 82 (by decide) _
        have y981 : dt967 82 ((5 * (dt 79 10)) + 2).toNat = dt 82 ((5 * (dt 79 10)) + 2).toNat := hF969 82 (by decide) _
        have y982 : dt967 82 ((5 * (dt 79 10)) + 3).toNat = dt 82 ((5 * (dt 79 10)) + 3).toNat := hF969 82 (by decide) _
        have y983 : dt967 82 ((5 * (dt 79 10)) + 4).toNat = dt 82 ((5 * (dt 79 10)) + 4).toNat := hF969 82 (by decide) _
        clear h966_3 h966_4 h966_5 h966_6 h966_7 h966_8
        have r984 : 0 ≤ dt967 79 10 ∧ dt967 79 10 ≤ 24 := InvC_get hI968 79 10 rfl rfl
        refine go_toq PM172 (k := 7) (pc' := 58) (L' := [some (.inr (.inr (some 79))), some (.inl 7)]) (st' := [.inl 7, .inl (5 * (dt967 79 10)), .inr (.inr (some 82))]) (w' := (SH, dt967)) rfl ?_
        have hI985 : InvC (u2 dt967 82 ((5 * (dt967 79 10)).toNat) 7) := InvC_u2 hI968 (lo := -2147483648) (hi := 2147483647) rfl rfl rfl (by decide) (by decide)
        have hF986 : Fr [79, 82] dt (u2 dt967 82 ((5 * (dt967 79 10)).toNat) 7) := Fr_u2 hF970 (by decide)
        have w987 : (u2 dt967 82 ((5 * (dt967 79 10)).toNat) 7) 79 2 = dt 79 2 := w972
        have w988 : (u2 dt967 82 ((5 * (dt967 79 10)).toNat) 7) 79 9 = dt 79 9 := w973
        have w989 : (u2 dt967 82 ((5 * (dt967 79 10)).toNat) 7) 79 10 = dt 79 10 := w974
        have w990 : (u2 dt967 82 ((5 * (dt967 79 10)).toNat) 7) 79 11 = dt 79 11 := w975
        have w991 : (u2 dt967 82 ((5 * (dt967 79 10)).toNat) 7) 79 12 = dt 79 12 := w976
        have w992 : (u2 dt967 82 ((5 * (dt967 79 10)).toNat) 7) 79 13 = dt967 79 13 := rfl
        have w993 : (u2 dt967 82 ((5 * (dt967 79 10)).toNat) 7) 79 14 = dt967 79 14 := rfl
        have w994 : (u2 dt967 82 ((5 * (dt967 79 10)).toNat) 7) 79 15 = dt967 79 15 := rfl
        have w995 : (u2 dt967 82 ((5 * (dt967 79 10)).toNat) 7) 79 16 = dt967 79 16 := rfl
        have w996 : (u2 dt967 82 ((5 * (dt967 79 10)).toNat) 7) 79 20 = dt 79 20 := w977
        have E84997 : (u2 dt967 82 ((5 * (dt967 79 10)).toNat) 7) 84 = dt 84 := (funext fun _ => rfl).trans E84971
        have ex999 : ((5 * (dt 79 10))).toNat = (5 * (dt967 79 10)).toNat := by rw [show dt967 79 10 = dt 79 10 from w989]
        have BL998 : ∀ j : Nat, (j : Int) < 5 * dt 79 10 → (u2 dt967 82 ((5 * (dt967 79 10)).toNat) 7) 82 j = dt 82 j := fun j hj => (u2_ne (fun z_ => xb0 hj (z_.2.trans ex999.symm))).trans (BL978 j hj)
        have y1000 : (u2 dt967 82 ((5 * (dt967 79 10)).toNat) 7) 82 ((5 * (dt 79 10))).toNat = 7 := by rw [ex999]; exact u2_eq
        have y1001 : (u2 dt967 82 ((5 * (dt967 79 10)).toNat) 7) 82 ((5 * (dt 79 10)) + 1).toNat = dt 82 ((5 * (dt 79 10)) + 1).toNat := (u2_ne (fun z_ => (fun y_ => xr0 hA0 (by decide) y_.symm) (z_.2.trans ex999.symm))).trans y980
        have y1002 : (u2 dt967 82 ((5 * (dt967 79 10)).toNat) 7) 82 ((5 * (dt 79 10)) + 2).toNat = dt 82 ((5 * (dt 79 10)) + 2).toNat := (u2_ne (fun z_ => (fun y_ => xr0 hA0 (by decide) y_.symm) (z_.2.trans ex999.symm))).trans y981
        have y1003 : (u2 dt967 82 ((5 * (dt967 79 10)).toNat) 7) 82 ((5 * (dt 79 10)) + 3).toNat = dt 82 ((5 * (dt 79 10)) + 3).toNat := (u2_ne (fun z_ => (fun y_ => xr0 hA0 (by decide) y_.symm) (z_.2.trans ex999.symm))).trans y982
        have y1004 : (u2 dt967 82 ((5 * (dt967 79 10)).toNat) 7) 82 ((5 * (dt 79 10)) + 4).toNat = dt 82 ((5 * (dt 79 10)) + 4).toNat := (u2_ne (fun z_ => (fun y_ => xr0 hA0 (by decide) y_.symm) (z_.2.trans ex999.symm))).trans y983
        clear y979 y980 y981 y982 y983
        refine go_smpq PM172 (L' := [some (.inr (.inr (some 79))), some (.inl 7)]) (st' := []) (w' := (SH, (u2 dt967 82 ((5 * (dt967 79 10)).toNat) 7))) rfl rfl (s_iast (n := 120) rfl ⟨by omega, by omega⟩ ⟨by decide, by decide⟩) ?_
        refine go_toq PM172 (k := 6) (pc' := 72) (L' := [some (.inr (.inr (some 79))), some (.inl 7)]) (st' := [.inl 3, .inl 1, .inr (.inr (some 79))]) (w' := (SH, (u2 dt967 82 ((5 * (dt967 79 10)).toNat) 7))) rfl ?_
        refine go_callq PM172 PM171 (Q' := _) rfl rfl rfl rfl (sp_X6_argument L xs sio (d + 0) (u2 dt967 82 ((5 * (dt967 79 10)).toNat) 7) hI985  1 ⟨by decide, by decide⟩ 3 ⟨by decide, by decide⟩ (by first | exact True.intro | with_reducible assumption | exact unhid (by with_reducible assumption) | rfl | omega | trivial) (by first | exact True.intro | with_reducible assumption | exact unhid (by with_reducible assumption) | rfl | omega | trivial)) ?_
        rintro _ _ ⟨dt1006, rfl, hI1007, hF1008, h1005⟩
        refine ⟨rfl, ?_⟩
        have hF1009 : Fr [79, 82] dt dt1006 := Fr_tr hF986 hF1008 (by decide)
        have E841010 : dt1006 84 = dt 84 := (funext (hF1008 84 (by decide))).trans E84997
        rcases h1005 with ⟨rfl, h1005⟩ | ⟨rfl, h1005⟩
        · skip
          obtain ⟨h1005_0, h1005_1, h1005_2, h1005_3⟩ := h1005
          have w1011 : dt1006 79 2 = dt 79 2 := h1005_0.trans w987
          have w1012 : dt1006 79 9 = dt 79 9 := h1005_1.trans w988
          have w1013 : dt1006 79 10 = dt 79 10 := h1005_2.trans w989
          have w1014 : dt1006 79 12 = dt 79 12 := h1005_3.trans w991
          clear h1005_0 w987 h1005_1 w988 h1005_2 w989 h1005_3 w991
          refine go_retq PM172 (k := 2) (r := some (.inl 0)) (w1 := (SH, dt1006)) rfl ?_
          exact ⟨dt1006, rfl, hI1007, hF1009, (Or.inl ⟨rfl, ⟨by first | exact True.intro | with_reducible assumption | exact unhid (by with_reducible assumption) | rfl | fail | trivial, by first | exact True.intro | with_reducible assumption | exact unhid (by with_reducible assumption) | rfl | fail | trivial, by first | exact True.intro | with_reducible assumption | exact unhid (by with_reducible assumption) | rfl | fail | trivial⟩⟩)⟩
        · skip
          obtain ⟨h1005_0, h1005_1, h1005_2, h1005_3, h1005_4, h1005_5, h1005_6, h1005_7, h1005_8, h1005_9, h1005_10⟩ := h1005
          have w1015 : dt1006 79 2 = dt 79 2 := h1005_5.trans w987
          have w1016 : dt1006 79 9 = dt 79 9 := h1005_6.trans w988
          have w1017 : dt1006 79 10 = dt 79 10 := h1005_7.trans w989
          have w1018 : dt1006 79 11 = dt 79 11 := h1005_8.trans w990
          have w1019 : dt1006 79 12 = dt 79 12 := h1005_9.trans w991
          have w1020 : dt1006 79 20 = dt 79 20 := h1005_10.trans w996
          clear h966_1
          have ee1021 : (u2 dt967 82 ((5 * (dt967 79 10)).toNat) 7) 79 10 = dt 79 10 := by omega
          rw [ee1021] at h1005_0 h1005_1
          have BL1022 : ∀ j : Nat, (j : Int) < 5 * dt 79 10 → dt1006 82 j = dt 82 j := fun j hj => (h1005_0 j (blq hj (by decide))).trans (BL998 j hj)
          have y1023 : dt1006 82 ((5 * (dt 79 10))).toNat = 7 := (h1005_0 _ (xq0 hL0 (by decide))).trans y1000
          have y1024 : dt1006 82 ((5 * (dt 79 10)) + 2).toNat = dt 82 ((5 * (dt 79 10)) + 2).toNat := (h1005_0 _ (xq hL0 (by decide) (by decide))).trans y1002
          have y1025 : dt1006 82 ((5 * (dt 79 10)) + 3).toNat = dt 82 ((5 * (dt 79 10)) + 3).toNat := (h1005_0 _ (xq hL0 (by decide) (by decide))).trans y1003
          have y1026 : dt1006 82 ((5 * (dt 79 10)) + 4).toNat = dt 82 ((5 * (dt 79 10)) + 4).toNat := (h1005_0 _ (xq hL0 (by decide) (by decide))).trans y1004
          have y1027 := h1005_1 ((5 * (dt 79 10)) + 1) rfl
          clear y1000 y1002 y1003 y1004 y1001
          clear h1005_5 w987 h1005_6 w988 h1005_7 w989 h1005_8 w990 h1005_9 w991 h1005_10 w996
          refine go_toq PM172 (k := 30) (pc' := 208) (L' := [some (.inr (.inr (some 79))), some (.inl 7)]) (st' := [.inl 159, .inr (.inr (some 79))]) (w' := (SH, dt1006)) rfl ?_
          refine go_callq PM172 PM161 (Q' := _) rfl rfl rfl rfl (sp_X6_need0 L xs sio (d + 1) dt1006 hI1007  159 ⟨by decide, by decide⟩ (by first | exact True.intro | with_reducible assumption | exact unhid (by with_reducible assumption) | rfl | fail | trivial)) ?_
          rintro _ _ ⟨dt1029, rfl, hI1030, hF1031, h1028⟩
          refine ⟨rfl, ?_⟩
          have hF1032 : Fr [79, 82] dt dt1029 := Fr_tr hF1009 hF1031 (by decide)
          have E841033 : dt1029 84 = dt 84 := (funext (hF1031 84 (by decide))).trans E841010
          rcases h1028 with ⟨rfl, h1028⟩ | ⟨rfl, h1028⟩
          · skip
            obtain ⟨h1028_0, h1028_1, h1028_2, h1028_3⟩ := h1028
            have w1034 : dt1029 79 2 = dt 79 2 := h1028_0.trans w1015
            have w1035 : dt1029 79 9 = dt 79 9 := h1028_1.trans w1016
            have w1036 : dt1029 79 10 = dt 79 10 := h1028_2.trans w1017
            have w1037 : dt1029 79 12 = dt 79 12 := h1028_3.trans w1019
            have BL1038 : ∀ j : Nat, (j : Int) < 5 * dt 79 10 → dt1029 82 j = dt 82 j := fun j hj => (hF1031 82 (by decide) j).trans (BL1022 j hj)
            have y1039 : dt1029 82 ((5 * (dt 79 10))).toNat = 7 := (hF1031 82 (by decide) _).trans y1023
            have y1040 : dt1029 82 ((5 * (dt 79 10)) + 1).toNat = dt1006 82 ((5 * (dt 79 10)) + 1).toNat := hF1031 82 (by decide) _
            have y1041 : dt1029 82 ((5 * (dt 79 10)) + 2).toNat = dt 82 ((5 * (dt 79 10)) + 2).toNat := (hF1031 82 (by decide) _).trans y1024
            have y1042 : dt1029 82 ((5 * (dt 79 10)) + 3).toNat = dt 82 ((5 * (dt 79 10)) + 3).toNat := (hF1031 82 (by decide) _).trans y1025
            have y1043 : dt1029 82 ((5 * (dt 79 10)) + 4).toNat = dt 82 ((5 * (dt 79 10)) + 4).toNat := (hF1031 82 (by decide) _).trans y1026
            clear y1023 y1024 y1025 y1026
            clear h1028_0 w1015 h1028_1 w1016 h1028_2 h1028_3 w1019
            refine go_retq PM172 (k := 0) (r := some (.inl 0)) (w1 := (SH, dt1029)) rfl ?_
            exact ⟨dt1029, rfl, hI1030, hF1032, (Or.inl ⟨rfl, ⟨by first | exact True.intro | with_reducible assumption | exact unhid (by with_reducible assumption) | rfl | fail | trivial, by first | exact True.intro | with_reducible assumption | exact unhid (by with_reducible assumption) | rfl | fail | trivial, by first | exact True.intro | with_reducible assumption | exact unhid (by with_reducible assumption) | rfl | fail | trivial⟩⟩)⟩
          · skip
            obtain ⟨h1028_0, h1028_1, h1028_2, h1028_3, h1028_4, h1028_5, h1028_6, h1028_7, h1028_8⟩ := h1028
            have w1044 : dt1029 79 2 = dt 79 2 := h1028_3.trans w1015
            have w1045 : dt1029 79 9 = dt 79 9 := h1028_4.trans w1016
            have w1046 : dt1029 79 10 = dt 79 10 := h1028_5.trans w1017
            have w1047 : dt1029 79 11 = dt 79 11 := h1028_6.trans w1018
            have w1048 : dt1029 79 12 = dt 79 12 := h1028_7.trans w1019
            have w1049 : dt1029 79 20 = dt 79 20 := h1028_8.trans w1020
            clear h1005_3
            have BL1050 : ∀ j : Nat, (j : Int) < 5 * dt 79 10 → dt1029 82 j = dt 82 j := fun j hj => (hF1031 82 (by decide) j).trans (BL1022 j hj)
            have y1051 : dt1029 82 ((5 * (dt 79 10))).toNat = 7 := (hF1031 82 (by decide) _).trans y1023
            have y1052 : dt1029 82 ((5 * (dt 79 10)) + 1).toNat = dt1006 82 ((5 * (dt 79 10)) + 1).toNat := hF1031 82 (by decide) _
            have y1053 : dt1029 82 ((5 * (dt 79 10)) + 2).toNat = dt 82 ((5 * (dt 79 10)) + 2).toNat := (hF1031 82 (by decide) _).trans y1024
            have y1054 : dt1029 82 ((5 * (dt 79 10)) + 3).toNat = dt 82 ((5 * (dt 79 10)) + 3).toNat := (hF1031 82 (by decide) _).trans y1025
            have y1055 : dt1029 82 ((5 * (dt 79 10)) + 4).toNat = dt 82 ((5 * (dt 79 10)) + 4).toNat := (hF1031 82 (by decide) _).trans y1026
            clear y1023 y1024 y1025 y1026
            clear h1028_3 w1015 h1028_4 w1016 h1028_5 h1028_6 h1028_7 w1019 h1028_8 w1020
            refine go_retq PM172 (k := 0) (r := some (.inl 1)) (w1 := (SH, dt1029)) rfl ?_
            exact ⟨dt1029, rfl, hI1030, hF1032, (Or.inr ⟨rfl, ⟨by first | exact True.intro | with_reducible assumption | exact unhid (by with_reducible assumption) | rfl | fail | trivial, by exact BL1050, by unfold aOK; omega, by first | exact True.intro | with_reducible assumption | exact unhid (by with_reducible assumption) | rfl | omega | trivial, by first | exact True.intro | with_reducible assumption | exact unhid (by with_reducible assumption) | rfl | fail | trivial, by exact (InvC_get (by assumption) 79 15 rfl rfl).2, by first | exact True.intro | with_reducible assumption | exact unhid (by with_reducible assumption) | rfl | fail | trivial, by first | exact True.intro | with_reducible assumption | exact unhid (by with_reducible assumption) | rfl | fail | trivial, by first | exact True.intro | with_reducible assumption | exact unhid (by with_reducible assumption) | rfl | fail | trivial, by first | exact True.intro | with_reducible assumption | exact unhid (by with_reducible assumption) | rfl | fail | trivial, by first | exact True.intro | with_reducible assumption | exact unhid (by with_reducible assumption) | rfl | fail | trivial⟩⟩)⟩
      · rw [hc7]
        refine go_toq PM172 (k := 1) (pc' := 44) (L' := [some (.inr (.inr (some 79))), some (.inl 8)]) (st' := [.inr (.inr (some 79))]) (w' := (SH, dt)) rfl ?_
        refine go_callq PM172 PM159 (Q' := _) rfl rfl rfl rfl (sp_X6_next0 L xs sio (d + 2) dt hI   (by first | exact True.intro | with_reducible assumption | exact unhid (by with_reducible assumption) | rfl | omega | trivial)) ?_
        rintro _ _ ⟨dt1057, rfl, hI1058, hF1059, h1056⟩
        refine ⟨rfl, ?_⟩
        have hF1060 : Fr [79, 82] dt dt1057 := Fr_tr hF hF1059 (by decide)
        have E841061 : dt1057 84 = dt 84 := funext (hF1059 84 (by decide))
        rcases h1056 with ⟨rfl, h1056⟩
        obtain ⟨h1056_0, h1056_1, h1056_2, h1056_3, h1056_4, h1056_5, h1056_6, h1056_7, h1056_8⟩ := h1056
        have w1062 : dt1057 79 2 = dt 79 2 := h1056_3
        have w1063 : dt1057 79 9 = dt 79 9 := h1056_4
        have w1064 : dt1057 79 10 = dt 79 10 := h1056_5
        have w1065 : dt1057 79 11 = dt 79 11 := h1056_6
        have w1066 : dt1057 79 12 = dt 79 12 := h1056_7
        have w1067 : dt1057 79 20 = dt 79 20 := h1056_8
        have hadv0 : dt 79 15 + 1 ≤ dt 79 13 := by omega
        clear h_p0
        have BL1068 : ∀ j : Nat, (j : Int) < 5 * dt 79 10 → dt1057 82 j = dt 82 j := fun j hj => (hF1059 82 (by decide) j).trans ((fun _ _ => rfl) j hj)
        have y1069 : dt1057 82 ((5 * (dt 79 10))).toNat = dt 82 ((5 * (dt 79 10))).toNat := hF1059 82 (by decide) _
        have y1070 : dt1057 82 ((5 * (dt 79 10)) + 1).toNat = dt 82 ((5 * (dt 79 10)) + 1).toNat := hF1059 82 (by decide) _
        have y1071 : dt1057 82 ((5 * (dt 79 10)) + 2).toNat = dt 82 ((5 * (dt 79 10)) + 2).toNat := hF1059 82 (by decide) _
        have y1072 : dt1057 82 ((5 * (dt 79 10)) + 3).toNat = dt 82 ((5 * (dt 79 10)) + 3).toNat := hF1059 82 (by decide) _
        have y1073 : dt1057 82 ((5 * (dt 79 10)) + 4).toNat = dt 82 ((5 * (dt 79 10)) + 4).toNat := hF1059 82 (by decide) _
        clear h1056_3 h1056_4 h1056_5 h1056_6 h1056_7 h1056_8
        have r1074 : 0 ≤ dt1057 79 10 ∧ dt1057 79 10 ≤ 24 := InvC_get hI1058 79 10 rfl rfl
        refine go_toq PM172 (k := 7) (pc' := 58) (L' := [some (.inr (.inr (some 79))), some (.inl 8)]) (st' := [.inl 8, .inl (5 * (dt1057 79 10)), .inr (.inr (some 82))]) (w' := (SH, dt1057)) rfl ?_
        have hI1075 : InvC (u2 dt1057 82 ((5 * (dt1057 79 10)).toNat) 8) := InvC_u2 hI1058 (lo := -2147483648) (hi := 2147483647) rfl rfl rfl (by decide) (by decide)
        have hF1076 : Fr [79, 82] dt (u2 dt1057 82 ((5 * (dt1057 79 10)).toNat) 8) := Fr_u2 hF1060 (by decide)
        have w1077 : (u2 dt1057 82 ((5 * (dt1057 79 10)).toNat) 8) 79 2 = dt 79 2 := w1062
        have w1078 : (u2 dt1057 82 ((5 * (dt1057 79 10)).toNat) 8) 79 9 = dt 79 9 := w1063
        have w1079 : (u2 dt1057 82 ((5 * (dt1057 79 10)).toNat) 8) 79 10 = dt 79 10 := w1064
        have w1080 : (u2 dt1057 82 ((5 * (dt1057 79 10)).toNat) 8) 79 11 = dt 79 11 := w1065
        have w1081 : (u2 dt1057 82 ((5 * (dt1057 79 10)).toNat) 8) 79 12 = dt 79 12 := w1066
        have w1082 : (u2 dt1057 82 ((5 * (dt1057 79 10)).toNat) 8) 79 13 = dt1057 79 13 := rfl
        have w1083 : (u2 dt1057 82 ((5 * (dt1057 79 10)).toNat) 8) 79 14 = dt1057 79 14 := rfl
        have w1084 : (u2 dt1057 82 ((5 * (dt1057 79 10)).toNat) 8) 79 15 = dt1057 79 15 := rfl
        have w1085 : (u2 dt1057 82 ((5 * (dt1057 79 10)).toNat) 8) 79 16 = dt1057 79 16 := rfl
        have w1086 : (u2 dt1057 82 ((5 * (dt1057 79 10)).toNat) 8) 79 20 = dt 79 20 := w1067
        have E841087 : (u2 dt1057 82 ((5 * (dt1057 79 10)).toNat) 8) 84 = dt 84 := (funext fun _ => rfl).trans E841061
        have ex1089 : ((5 * (dt 79 10))).toNat = (5 * (dt1057 79 10)).toNat := by rw [show dt1057 79 10 = dt 79 10 from w1079]
        have BL1088 : ∀ j : Nat, (j : Int) < 5 * dt 79 10 → (u2 dt1057 82 ((5 * (dt1057 79 10)).toNat) 8) 82 j = dt 82 j := fun j hj => (u2_ne (fun z_ => xb0 hj (z_.2.trans ex1089.symm))).trans (BL1068 j hj)
        have y1090 : (u2 dt1057 82 ((5 * (dt1057 79 10)).toNat) 8) 82 ((5 * (dt 79 10))).toNat = 8 := by rw [ex1089]; exact u2_eq
        have y1091 : (u2 dt1057 82 ((5 * (dt1057 79 10)).toNat) 8) 82 ((5 * (dt 79 10)) + 1).toNat = dt 82 ((5 * (dt 79 10)) + 1).toNat := (u2_ne (fun z_ => (fun y_ => xr0 hA0 (by decide) y_.symm) (z_.2.trans ex1089.symm))).trans y1070
        have y1092 : (u2 dt1057 82 ((5 * (dt1057 79 10)).toNat) 8) 82 ((5 * (dt 79 10)) + 2).toNat = dt 82 ((5 * (dt 79 10)) + 2).toNat := (u2_ne (fun z_ => (fun y_ => xr0 hA0 (by decide) y_.symm) (z_.2.trans ex1089.symm))).trans y1071
        have y1093 : (u2 dt1057 82 ((5 * (dt1057 79 10)).toNat) 8) 82 ((5 * (dt 79 10)) + 3).toNat = dt 82 ((5 * (dt 79 10)) + 3).toNat := (u2_ne (fun z_ => (fun y_ => xr0 hA0 (by decide) y_.symm) (z_.2.trans ex1089.symm))).trans y1072
        have y1094 : (u2 dt1057 82 ((5 * (dt1057 79 10)).toNat) 8) 82 ((5 * (dt 79 10)) + 4).toNat = dt 82 ((5 * (dt 79 10)) + 4).toNat := (u2_ne (fun z_ => (fun y_ => xr0 hA0 (by decide) y_.symm) (z_.2.trans ex1089.symm))).trans y1073
        clear y1069 y1070 y1071 y1072 y1073
        refine go_smpq PM172 (L' := [some (.inr (.inr (some 79))), some (.inl 8)]) (st' := []) (w' := (SH, (u2 dt1057 82 ((5 * (dt1057 79 10)).toNat) 8))) rfl rfl (s_iast (n := 120) rfl ⟨by omega, by omega⟩ ⟨by decide, by decide⟩) ?_
        refine go_toq PM172 (k := 7) (pc' := 72) (L' := [some (.inr (.inr (some 79))), some (.inl 8)]) (st' := [.inl 1, .inl 1, .inr (.inr (some 79))]) (w' := (SH, (u2 dt1057 82 ((5 * (dt1057 79 10)).toNat) 8))) rfl ?_
        refine go_callq PM172 PM171 (Q' := _) rfl rfl rfl rfl (sp_X6_argument L xs sio (d + 0) (u2 dt1057 82 ((5 * (dt1057 79 10)).toNat) 8) hI1075  1 ⟨by decide, by decide⟩ 1 ⟨by decide, by decide⟩ (by first | exact True.intro | with_reducible assumption | exact unhid (by with_reducible assumption) | rfl | omega | trivial) (by first | exact True.intro | with_reducible assumption | exact unhid (by with_reducible assumption) | rfl | omega | trivial)) ?_
        rintro _ _ ⟨dt1096, rfl, hI1097, hF1098, h1095⟩
        refine ⟨rfl, ?_⟩
        have hF1099 : Fr [79, 82] dt dt1096 := Fr_tr hF1076 hF1098 (by decide)
        have E841100 : dt1096 84 = dt 84 := (funext (hF1098 84 (by decide))).trans E841087
        rcases h1095 with ⟨rfl, h1095⟩ | ⟨rfl, h1095⟩
        · skip
          obtain ⟨h1095_0, h1095_1, h1095_2, h1095_3⟩ := h1095
          have w1101 : dt1096 79 2 = dt 79 2 := h1095_0.trans w1077
          have w1102 : dt1096 79 9 = dt 79 9 := h1095_1.trans w1078
          have w1103 : dt1096 79 10 = dt 79 10 := h1095_2.trans w1079
          have w1104 : dt1096 79 12 = dt 79 12 := h1095_3.trans w1081
          clear h1095_0 w1077 h1095_1 w1078 h1095_2 w1079 h1095_3 w1081
          refine go_retq PM172 (k := 2) (r := some (.inl 0)) (w1 := (SH, dt1096)) rfl ?_
          exact ⟨dt1096, rfl, hI1097, hF1099, (Or.inl ⟨rfl, ⟨by first | exact True.intro | with_reducible assumption | exact unhid (by with_reducible assumption) | rfl | fail | trivial, by first | exact True.intro | with_reducible assumption | exact unhid (by with_reducible assumption) | rfl | fail | trivial, by first | exact True.intro | with_reducible assumption | exact unhid (by with_reducible assumption) | rfl | fail | trivial⟩⟩)⟩
        · skip
          obtain ⟨h1095_0, h1095_1, h1095_2, h1095_3, h1095_4, h1095_5, h1095_6, h1095_7, h1095_8, h1095_9, h1095_10⟩ := h1095
          have w1105 : dt1096 79 2 = dt 79 2 := h1095_5.trans w1077
          have w1106 : dt1096 79 9 = dt 79 9 := h1095_6.trans w1078
          have w1107 : dt1096 79 10 = dt 79 10 := h1095_7.trans w1079
          have w1108 : dt1096 79 11 = dt 79 11 := h1095_8.trans w1080
          have w1109 : dt1096 79 12 = dt 79 12 := h1095_9.trans w1081
          have w1110 : dt1096 79 20 = dt 79 20 := h1095_10.trans w1086
          clear h1056_1
          have ee1111 : (u2 dt1057 82 ((5 * (dt1057 79 10)).toNat) 8) 79 10 = dt 79 10 := by omega
          rw [ee1111] at h1095_0 h1095_1
          have BL1112 : ∀ j : Nat, (j : Int) < 5 * dt 79 10 → dt1096 82 j = dt 82 j := fun j hj => (h1095_0 j (blq hj (by decide))).trans (BL1088 j hj)
          have y1113 : dt1096 82 ((5 * (dt 79 10))).toNat = 8 := (h1095_0 _ (xq0 hL0 (by decide))).trans y1090
          have y1114 : dt1096 82 ((5 * (dt 79 10)) + 2).toNat = dt 82 ((5 * (dt 79 10)) + 2).toNat := (h1095_0 _ (xq hL0 (by decide) (by decide))).trans y1092
          have y1115 : dt1096 82 ((5 * (dt 79 10)) + 3).toNat = dt 82 ((5 * (dt 79 10)) + 3).toNat := (h1095_0 _ (xq hL0 (by decide) (by decide))).trans y1093
          have y1116 : dt1096 82 ((5 * (dt 79 10)) + 4).toNat = dt 82 ((5 * (dt 79 10)) + 4).toNat := (h1095_0 _ (xq hL0 (by decide) (by decide))).trans y1094
          have y1117 := h1095_1 ((5 * (dt 79 10)) + 1) rfl
          clear y1090 y1092 y1093 y1094 y1091
          clear h1095_5 w1077 h1095_6 w1078 h1095_7 w1079 h1095_8 w1080 h1095_9 w1081 h1095_10 w1086
          refine go_toq PM172 (k := 30) (pc' := 208) (L' := [some (.inr (.inr (some 79))), some (.inl 8)]) (st' := [.inl 159, .inr (.inr (some 79))]) (w' := (SH, dt1096)) rfl ?_
          refine go_callq PM172 PM161 (Q' := _) rfl rfl rfl rfl (sp_X6_need0 L xs sio (d + 1) dt1096 hI1097  159 ⟨by decide, by decide⟩ (by first | exact True.intro | with_reducible assumption | exact unhid (by with_reducible assumption) | rfl | fail | trivial)) ?_
          rintro _ _ ⟨dt1119, rfl, hI1120, hF1121, h1118⟩
          refine ⟨rfl, ?_⟩
          have hF1122 : Fr [79, 82] dt dt1119 := Fr_tr hF1099 hF1121 (by decide)
          have E841123 : dt1119 84 = dt 84 := (funext (hF1121 84 (by decide))).trans E841100
          rcases h1118 with ⟨rfl, h1118⟩ | ⟨rfl, h1118⟩
          · skip
            obtain ⟨h1118_0, h1118_1, h1118_2, h1118_3⟩ := h1118
            have w1124 : dt1119 79 2 = dt 79 2 := h1118_0.trans w1105
            have w1125 : dt1119 79 9 = dt 79 9 := h1118_1.trans w1106
            have w1126 : dt1119 79 10 = dt 79 10 := h1118_2.trans w1107
            have w1127 : dt1119 79 12 = dt 79 12 := h1118_3.trans w1109
            have BL1128 : ∀ j : Nat, (j : Int) < 5 * dt 79 10 → dt1119 82 j = dt 82 j := fun j hj => (hF1121 82 (by decide) j).trans (BL1112 j hj)
            have y1129 : dt1119 82 ((5 * (dt 79 10))).toNat = 8 := (hF1121 82 (by decide) _).trans y1113
            have y1130 : dt1119 82 ((5 * (dt 79 10)) + 1).toNat = dt1096 82 ((5 * (dt 79 10)) + 1).toNat := hF1121 82 (by decide) _
            have y1131 : dt1119 82 ((5 * (dt 79 10)) + 2).toNat = dt 82 ((5 * (dt 79 10)) + 2).toNat := (hF1121 82 (by decide) _).trans y1114
            have y1132 : dt1119 82 ((5 * (dt 79 10)) + 3).toNat = dt 82 ((5 * (dt 79 10)) + 3).toNat := (hF1121 82 (by decide) _).trans y1115
            have y1133 : dt1119 82 ((5 * (dt 79 10)) + 4).toNat = dt 82 ((5 * (dt 79 10)) + 4).toNat := (hF1121 82 (by decide) _).trans y1116
            clear y1113 y1114 y1115 y1116
            clear h1118_0 w1105 h1118_1 w1106 h1118_2 h1118_3 w1109
            refine go_retq PM172 (k := 0) (r := some (.inl 0)) (w1 := (SH, dt1119)) rfl ?_
            exact ⟨dt1119, rfl, hI1120, hF1122, (Or.inl ⟨rfl, ⟨by first | exact True.intro | with_reducible assumption | exact unhid (by with_reducible assumption) | rfl | fail | trivial, by first | exact True.intro | with_reducible assumption | exact unhid (by with_reducible assumption) | rfl | fail | trivial, by first | exact True.intro | with_reducible assumption | exact unhid (by with_reducible assumption) | rfl | fail | trivial⟩⟩)⟩
          · skip
            obtain ⟨h1118_0, h1118_1, h1118_2, h1118_3, h1118_4, h1118_5, h1118_6, h1118_7, h1118_8⟩ := h1118
            have w1134 : dt1119 79 2 = dt 79 2 := h1118_3.trans w1105
            have w1135 : dt1119 79 9 = dt 79 9 := h1118_4.trans w1106
            have w1136 : dt1119 79 10 = dt 79 10 := h1118_5.trans w1107
            have w1137 : dt1119 79 11 = dt 79 11 := h1118_6.trans w1108
            have w1138 : dt1119 79 12 = dt 79 12 := h1118_7.trans w1109
            have w1139 : dt1119 79 20 = dt 79 20 := h1118_8.trans w1110
            clear h1095_3
            have BL1140 : ∀ j : Nat, (j : Int) < 5 * dt 79 10 → dt1119 82 j = dt 82 j := fun j hj => (hF1121 82 (by decide) j).trans (BL1112 j hj)
            have y1141 : dt1119 82 ((5 * (dt 79 10))).toNat = 8 := (hF1121 82 (by decide) _).trans y1113
            have y1142 : dt1119 82 ((5 * (dt 79 10)) + 1).toNat = dt1096 82 ((5 * (dt 79 10)) + 1).toNat := hF1121 82 (by decide) _
            have y1143 : dt1119 82 ((5 * (dt 79 10)) + 2).toNat = dt 82 ((5 * (dt 79 10)) + 2).toNat := (hF1121 82 (by decide) _).trans y1114
            have y1144 : dt1119 82 ((5 * (dt 79 10)) + 3).toNat = dt 82 ((5 * (dt 79 10)) + 3).toNat := (hF1121 82 (by decide) _).trans y1115
            have y1145 : dt1119 82 ((5 * (dt 79 10)) + 4).toNat = dt 82 ((5 * (dt 79 10)) + 4).toNat := (hF1121 82 (by decide) _).trans y1116
            clear y1113 y1114 y1115 y1116
            clear h1118_3 w1105 h1118_4 w1106 h1118_5 h1118_6 h1118_7 w1109 h1118_8 w1110
            refine go_retq PM172 (k := 0) (r := some (.inl 1)) (w1 := (SH, dt1119)) rfl ?_
            exact ⟨dt1119, rfl, hI1120, hF1122, (Or.inr ⟨rfl, ⟨by first | exact True.intro | with_reducible assumption | exact unhid (by with_reducible assumption) | rfl | fail | trivial, by exact BL1140, by unfold aOK; omega, by first | exact True.intro | with_reducible assumption | exact unhid (by with_reducible assumption) | rfl | omega | trivial, by first | exact True.intro | with_reducible assumption | exact unhid (by with_reducible assumption) | rfl | fail | trivial, by exact (InvC_get (by assumption) 79 15 rfl rfl).2, by first | exact True.intro | with_reducible assumption | exact unhid (by with_reducible assumption) | rfl | fail | trivial, by first | exact True.intro | with_reducible assumption | exact unhid (by with_reducible assumption) | rfl | fail | trivial, by first | exact True.intro | with_reducible assumption | exact unhid (by with_reducible assumption) | rfl | fail | trivial, by first | exact True.intro | with_reducible assumption | exact unhid (by with_reducible assumption) | rfl | fail | trivial, by first | exact True.intro | with_reducible assumption | exact unhid (by with_reducible assumption) | rfl | fail | trivial⟩⟩)⟩
    · skip
      refine go_toq PM172 (k := 2) (pc' := 31) (L' := [some (.inr (.inr (some 79))), none]) (st' := [.inl 3, .inr (.inr (some 79))]) (w' := (SH, dt)) rfl ?_
      refine go_callq PM172 PM160 (Q' := _) rfl rfl rfl rfl (sp_X6_bad L xs sio (d + 8) dt hI  3 ⟨by decide, by decide⟩ ) ?_
      rintro _ _ ⟨dt1147, rfl, hI1148, hF1149, h1146⟩
      refine ⟨rfl, ?_⟩
      have hF1150 : Fr [79, 82] dt dt1147 := Fr_tr hF hF1149 (by decide)
      have E841151 : dt1147 84 = dt 84 := funext (hF1149 84 (by decide))
      rcases h1146 with ⟨rfl, h1146⟩
      obtain ⟨h1146_0, h1146_1, h1146_2, h1146_3, h1146_4, h1146_5⟩ := h1146
      have w1152 : dt1147 79 2 = dt 79 2 := h1146_0
      have w1153 : dt1147 79 9 = dt 79 9 := h1146_1
      have w1154 : dt1147 79 10 = dt 79 10 := h1146_2
      have w1155 : dt1147 79 11 = dt 79 11 := h1146_3
      have w1156 : dt1147 79 12 = dt 79 12 := h1146_4
      have w1157 : dt1147 79 20 = dt 79 20 := h1146_5
      have BL1158 : ∀ j : Nat, (j : Int) < 5 * dt 79 10 → dt1147 82 j = dt 82 j := fun j hj => (hF1149 82 (by decide) j).trans ((fun _ _ => rfl) j hj)
      have y1159 : dt1147 82 ((5 * (dt 79 10))).toNat = dt 82 ((5 * (dt 79 10))).toNat := hF1149 82 (by decide) _
      have y1160 : dt1147 82 ((5 * (dt 79 10)) + 1).toNat = dt 82 ((5 * (dt 79 10)) + 1).toNat := hF1149 82 (by decide) _
      have y1161 : dt1147 82 ((5 * (dt 79 10)) + 2).toNat = dt 82 ((5 * (dt 79 10)) + 2).toNat := hF1149 82 (by decide) _
      have y1162 : dt1147 82 ((5 * (dt 79 10)) + 3).toNat = dt 82 ((5 * (dt 79 10)) + 3).toNat := hF1149 82 (by decide) _
      have y1163 : dt1147 82 ((5 * (dt 79 10)) + 4).toNat = dt 82 ((5 * (dt 79 10)) + 4).toNat := hF1149 82 (by decide) _
      clear h1146_0 h1146_1 h1146_2 h1146_3 h1146_4 h1146_5
      refine go_retq PM172 (k := 0) (r := some (.inl 0)) (w1 := (SH, dt1147)) rfl ?_
      exact ⟨dt1147, rfl, hI1148, hF1150, (Or.inl ⟨rfl, ⟨by first | exact True.intro | with_reducible assumption | rfl | fail | trivial, by first | exact True.intro | with_reducible assumption | rfl | fail | trivial, by first | exact True.intro | with_reducible assumption | rfl | fail | trivial⟩⟩)⟩
  · skip
    refine go_toq PM172 (k := 3) (pc' := 16) (L' := [some (.inr (.inr (some 79))), none]) (st' := [.inl 1, .inr (.inr (some 79))]) (w' := (SH, dt)) rfl ?_
    refine go_callq PM172 PM160 (Q' := _) rfl rfl rfl rfl (sp_X6_bad L xs sio (d + 8) dt hI  1 ⟨by decide, by decide⟩ ) ?_
    rintro _ _ ⟨dt1165, rfl, hI1166, hF1167, h1164⟩
    refine ⟨rfl, ?_⟩
    have hF1168 : Fr [79, 82] dt dt1165 := Fr_tr hF hF1167 (by decide)
    have E841169 : dt1165 84 = dt 84 := funext (hF1167 84 (by decide))
    rcases h1164 with ⟨rfl, h1164⟩
    obtain ⟨h1164_0, h1164_1, h1164_2, h1164_3, h1164_4, h1164_5⟩ := h1164
    have w1170 : dt1165 79 2 = dt 79 2 := h1164_0
    have w1171 : dt1165 79 9 = dt 79 9 := h1164_1
    have w1172 : dt1165 79 10 = dt 79 10 := h1164_2
    have w1173 : dt1165 79 11 = dt 79 11 := h1164_3
    have w1174 : dt1165 79 12 = dt 79 12 := h1164_4
    have w1175 : dt1165 79 20 = dt 79 20 := h1164_5
    have BL1176 : ∀ j : Nat, (j : Int) < 5 * dt 79 10 → dt1165 82 j = dt 82 j := fun j hj => (hF1167 82 (by decide) j).trans ((fun _ _ => rfl) j hj)
    have y1177 : dt1165 82 ((5 * (dt 79 10))).toNat = dt 82 ((5 * (dt 79 10))).toNat := hF1167 82 (by decide) _
    have y1178 : dt1165 82 ((5 * (dt 79 10)) + 1).toNat = dt 82 ((5 * (dt 79 10)) + 1).toNat := hF1167 82 (by decide) _
    have y1179 : dt1165 82 ((5 * (dt 79 10)) + 2).toNat = dt 82 ((5 * (dt 79 10)) + 2).toNat := hF1167 82 (by decide) _
    have y1180 : dt1165 82 ((5 * (dt 79 10)) + 3).toNat = dt 82 ((5 * (dt 79 10)) + 3).toNat := hF1167 82 (by decide) _
    have y1181 : dt1165 82 ((5 * (dt 79 10)) + 4).toNat = dt 82 ((5 * (dt 79 10)) + 4).toNat := hF1167 82 (by decide) _
    clear h1164_0 h1164_1 h1164_2 h1164_3 h1164_4 h1164_5
    refine go_retq PM172 (k := 0) (r := some (.inl 0)) (w1 := (SH, dt1165)) rfl ?_
    exact ⟨dt1165, rfl, hI1166, hF1168, (Or.inl ⟨rfl, ⟨by first | exact True.intro | with_reducible assumption | rfl | fail | trivial, by first | exact True.intro | with_reducible assumption | rfl | fail | trivial, by first | exact True.intro | with_reducible assumption | rfl | fail | trivial⟩⟩)⟩
