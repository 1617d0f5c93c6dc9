set_option maxHeartbeats 8000000 in
set_option maxRecDepth 20000 in
theorem sp_X6_aLine (L : Nat) (xs : Nat → Int32) (sio : Option Nat) (d : Nat) (dt : Nat → Nat → Int) (hI : InvC dt)   (h_p0 : (¬ dt 79 14 = 0 → dt 79 15 + 1 ≤ dt 79 13) ∧ dt 79 13 ≤ 500) (h_p1 : dt 79 11 ≤ dt 79 15) (h_p2 : dt 79 10 ≤ 16) : GO (am_XX L xs sio) (d + 37) 173 0 [some (.inr (.inr (some 79))), none] [] (SH, dt) (fun r w2 => ∃ dt2 : Nat → Nat → Int, w2 = (SH, dt2) ∧ InvC dt2 ∧ Fr [79, 83, 84] dt dt2 ∧ ((r = some (.inl 0) ∧ (dt2 79 2 = dt 79 2) ∧ (dt2 79 9 = dt 79 9) ∧ (dt2 79 12 = dt 79 12)) ∨ (r = some (.inl 1) ∧ (dt 79 10 ≤ 15) ∧ (∀ j : Nat, (j : Int) < 4 * dt 79 10 → dt2 83 j = dt 83 j) ∧ (LR (dt2 83 ((4 * (dt 79 10)) + 1).toNat) (dt2 83 ((4 * (dt 79 10)) + 2).toNat) (dt2 83 ((4 * (dt 79 10)) + 3).toNat) (dt2 79 11) (dt2 84)) ∧ (AGR (dt2 84) (dt 84) (dt 79 11)) ∧ (dt 79 11 ≤ dt2 79 11) ∧ (dt 79 15 + dt2 79 11 ≤ dt2 79 15 + dt 79 11) ∧ (dt 79 15 + 1 ≤ dt2 79 15) ∧ ((¬ dt2 79 14 = 0 → dt2 79 15 + 1 ≤ dt2 79 13) ∧ dt2 79 13 ≤ 500) ∧ (dt2 79 15 ≤ 500) ∧ (dt2 79 2 = dt 79 2) ∧ (dt2 79 9 = dt 79 9) ∧ (dt2 79 10 = dt 79 10) ∧ (dt2 79 12 = dt 79 12)))) := by
  have hF : Fr [79, 83, 84] dt dt := Fr_refl
  have r1 : 0 ≤ dt 79 15 ∧ dt 79 15 ≤ 500 := InvC_get hI 79 15 rfl rfl
  have r2 : 0 ≤ dt 79 11 ∧ dt 79 11 ≤ 510 := InvC_get hI 79 11 rfl rfl
  have r3 : 0 ≤ dt 79 10 ∧ dt 79 10 ≤ 24 := InvC_get hI 79 10 rfl rfl
  have hA0 : 0 ≤ 4 * dt 79 10 := by omega
  have r4 : (-2147483648) ≤ dt 79 14 ∧ dt 79 14 ≤ 2147483647 := InvC_get hI 79 14 rfl rfl
  refine go_ifq PM173 (k := 3) (p1 := 24) (p2 := 9) (L' := [some (.inr (.inr (some 79))), none]) (st' := []) (w' := (SH, dt)) rfl (c_eq (a := dt 79 14) (b := 7) (by first | exact bnd r4 (by decide) (by decide) | exact ⟨by fail, by fail⟩) ⟨by decide, by decide⟩) (fun c5 => ?_) (fun c5 => ?_)
  · skip
    refine go_ifq PM173 (k := 3) (p1 := 39) (p2 := 33) (L' := [some (.inr (.inr (some 79))), none]) (st' := []) (w' := (SH, dt)) rfl (c_ne (a := dt 79 10) (b := 16) (by first | exact bnd r3 (by decide) (by decide) | exact ⟨by fail, by fail⟩) ⟨by decide, by decide⟩) (fun c6 => ?_) (fun c6 => ?_)
    · skip
      replace c6 := hid c6
      refine go_ifq PM173 (k := 3) (p1 := 52) (p2 := 48) (L' := [some (.inr (.inr (some 79))), none]) (st' := []) (w' := (SH, dt)) rfl (c_ne (a := dt 79 14) (b := 7) (by first | exact bnd r4 (by decide) (by decide) | exact ⟨by fail, by fail⟩) ⟨by decide, by decide⟩) (fun c7 => ?_) (fun c7 => ?_)
      · skip
        replace c7 := hid c7
        refine go_toq PM173 (k := 4) (pc' := 56) (L' := [some (.inr (.inr (some 79))), some (.inl 0)]) (st' := [.inl 0, .inr (.inr (some 79))]) (w' := (SH, dt)) rfl ?_
        have hI8 : InvC (u2 dt 79 20 0) := InvC_u2 hI (lo := 0) (hi := 8) rfl rfl rfl (by decide) (by decide)
        have hF9 : Fr [79, 83, 84] dt (u2 dt 79 20 0) := Fr_u2 hF (by decide)
        have w10 : (u2 dt 79 20 0) 79 2 = dt 79 2 := rfl
        have w11 : (u2 dt 79 20 0) 79 9 = dt 79 9 := rfl
        have w12 : (u2 dt 79 20 0) 79 10 = dt 79 10 := rfl
        have w13 : (u2 dt 79 20 0) 79 11 = dt 79 11 := rfl
        have w14 : (u2 dt 79 20 0) 79 12 = dt 79 12 := rfl
        have w15 : (u2 dt 79 20 0) 79 13 = dt 79 13 := rfl
        have w16 : (u2 dt 79 20 0) 79 14 = dt 79 14 := rfl
        have w17 : (u2 dt 79 20 0) 79 15 = dt 79 15 := rfl
        have w18 : (u2 dt 79 20 0) 79 16 = dt 79 16 := rfl
        have w19 : (u2 dt 79 20 0) 79 20 = 0 := rfl
        have E8420 : (u2 dt 79 20 0) 84 = dt 84 := funext fun _ => rfl
        have BL21 : ∀ j : Nat, (j : Int) < 4 * dt 79 10 → (u2 dt 79 20 0) 83 j = dt 83 j := (fun _ _ => rfl)
        have y22 : (u2 dt 79 20 0) 83 ((4 * (dt 79 10))).toNat = dt 83 ((4 * (dt 79 10))).toNat := rfl
        have y23 : (u2 dt 79 20 0) 83 ((4 * (dt 79 10)) + 1).toNat = dt 83 ((4 * (dt 79 10)) + 1).toNat := rfl
        have y24 : (u2 dt 79 20 0) 83 ((4 * (dt 79 10)) + 2).toNat = dt 83 ((4 * (dt 79 10)) + 2).toNat := rfl
        have y25 : (u2 dt 79 20 0) 83 ((4 * (dt 79 10)) + 3).toNat = dt 83 ((4 * (dt 79 10)) + 3).toNat := rfl
        refine go_smpq PM173 (L' := [some (.inr (.inr (some 79))), some (.inl 0)]) (st' := []) (w' := (SH, (u2 dt 79 20 0))) rfl rfl (s_pf rfl rfl rfl rfl ⟨by decide, by decide⟩) ?_
        refine go_toq PM173 (k := 1) (pc' := 60) (L' := [some (.inr (.inr (some 79))), some (.inl 0)]) (st' := [.inr (.inr (some 79))]) (w' := (SH, (u2 dt 79 20 0))) rfl ?_
        refine go_callq PM173 PM159 (Q' := _) rfl rfl rfl rfl (sp_X6_next0 L xs sio (d + 30) (u2 dt 79 20 0) hI8   (by first | exact True.intro | with_reducible assumption | exact unhid (by with_reducible assumption) | rfl | omega | trivial)) ?_
        rintro _ _ ⟨dt27, rfl, hI28, hF29, h26⟩
        refine ⟨rfl, ?_⟩
        have hF30 : Fr [79, 83, 84] dt dt27 := Fr_tr hF9 hF29 (by decide)
        have E8431 : dt27 84 = dt 84 := (funext (hF29 84 (by decide))).trans E8420
        rcases h26 with ⟨rfl, h26⟩
        obtain ⟨h26_0, h26_1, h26_2, h26_3, h26_4, h26_5, h26_6, h26_7, h26_8⟩ := h26
        have w32 : dt27 79 2 = dt 79 2 := h26_3.trans w10
        have w33 : dt27 79 9 = dt 79 9 := h26_4.trans w11
        have w34 : dt27 79 10 = dt 79 10 := h26_5.trans w12
        have w35 : dt27 79 11 = dt 79 11 := h26_6.trans w13
        have w36 : dt27 79 12 = dt 79 12 := h26_7.trans w14
        have w37 : dt27 79 20 = 0 := h26_8.trans w19
        have hadv0 : dt 79 15 + 1 ≤ dt 79 13 := by omega
        clear h_p0
        have BL38 : ∀ j : Nat, (j : Int) < 4 * dt 79 10 → dt27 83 j = dt 83 j := fun j hj => (hF29 83 (by decide) j).trans (BL21 j hj)
        have y39 : dt27 83 ((4 * (dt 79 10))).toNat = dt 83 ((4 * (dt 79 10))).toNat := (hF29 83 (by decide) _).trans y22
        have y40 : dt27 83 ((4 * (dt 79 10)) + 1).toNat = dt 83 ((4 * (dt 79 10)) + 1).toNat := (hF29 83 (by decide) _).trans y23
        have y41 : dt27 83 ((4 * (dt 79 10)) + 2).toNat = dt 83 ((4 * (dt 79 10)) + 2).toNat := (hF29 83 (by decide) _).trans y24
        have y42 : dt27 83 ((4 * (dt 79 10)) + 3).toNat = dt 83 ((4 * (dt 79 10)) + 3).toNat := (hF29 83 (by decide) _).trans y25
        clear y22 y23 y24 y25
        clear h26_3 w10 h26_4 w11 h26_5 w12 h26_6 w13 h26_7 w14 h26_8 w19
        have r43 : 0 ≤ dt27 79 10 ∧ dt27 79 10 ≤ 24 := InvC_get hI28 79 10 rfl rfl
        refine go_toq PM173 (k := 9) (pc' := 86) (L' := [some (.inr (.inr (some 79))), some (.inl 0)]) (st' := [.inl 8, .inl (4 * (dt27 79 10)), .inr (.inr (some 83))]) (w' := (SH, dt27)) rfl ?_
        have hI44 : InvC (u2 dt27 83 ((4 * (dt27 79 10)).toNat) 8) := InvC_u2 hI28 (lo := -2147483648) (hi := 2147483647) rfl rfl rfl (by decide) (by decide)
        have hF45 : Fr [79, 83, 84] dt (u2 dt27 83 ((4 * (dt27 79 10)).toNat) 8) := Fr_u2 hF30 (by decide)
        have w46 : (u2 dt27 83 ((4 * (dt27 79 10)).toNat) 8) 79 2 = dt 79 2 := w32
        have w47 : (u2 dt27 83 ((4 * (dt27 79 10)).toNat) 8) 79 9 = dt 79 9 := w33
        have w48 : (u2 dt27 83 ((4 * (dt27 79 10)).toNat) 8) 79 10 = dt 79 10 := w34
        have w49 : (u2 dt27 83 ((4 * (dt27 79 10)).toNat) 8) 79 11 = dt 79 11 := w35
        have w50 : (u2 dt27 83 ((4 * (dt27 79 10)).toNat) 8) 79 12 = dt 79 12 := w36
        have w51 : (u2 dt27 83 ((4 * (dt27 79 10)).toNat) 8) 79 13 = dt27 79 13 := rfl
        have w52 : (u2 dt27 83 ((4 * (dt27 79 10)).toNat) 8) 79 14 = dt27 79 14 := rfl
        have w53 : (u2 dt27 83 ((4 * (dt27 79 10)).toNat) 8) 79 15 = dt27 79 15 := rfl
        have w54 : (u2 dt27 83 ((4 * (dt27 79 10)).toNat) 8) 79 16 = dt27 79 16 := rfl
        have w55 : (u2 dt27 83 ((4 * (dt27 79 10)).toNat) 8) 79 20 = 0 := w37
        have E8456 : (u2 dt27 83 ((4 * (dt27 79 10)).toNat) 8) 84 = dt 84 := (funext fun _ => rfl).trans E8431
        have ex58 : ((4 * (dt 79 10))).toNat = (4 * (dt27 79 10)).toNat := by rw [show dt27 79 10 = dt 79 10 from w48]
        have BL57 : ∀ j : Nat, (j : Int) < 4 * dt 79 10 → (u2 dt27 83 ((4 * (dt27 79 10)).toNat) 8) 83 j = dt 83 j := fun j hj => (u2_ne (fun z_ => xb0 hj (z_.2.trans ex58.symm))).trans (BL38 j hj)
        have y59 : (u2 dt27 83 ((4 * (dt27 79 10)).toNat) 8) 83 ((4 * (dt 79 10))).toNat = 8 := by rw [ex58]; exact u2_eq
        have y60 : (u2 dt27 83 ((4 * (dt27 79 10)).toNat) 8) 83 ((4 * (dt 79 10)) + 1).toNat = dt 83 ((4 * (dt 79 10)) + 1).toNat := (u2_ne (fun z_ => (fun y_ => xr0 hA0 (by decide) y_.symm) (z_.2.trans ex58.symm))).trans y40
        have y61 : (u2 dt27 83 ((4 * (dt27 79 10)).toNat) 8) 83 ((4 * (dt 79 10)) + 2).toNat = dt 83 ((4 * (dt 79 10)) + 2).toNat := (u2_ne (fun z_ => (fun y_ => xr0 hA0 (by decide) y_.symm) (z_.2.trans ex58.symm))).trans y41
        have y62 : (u2 dt27 83 ((4 * (dt27 79 10)).toNat) 8) 83 ((4 * (dt 79 10)) + 3).toNat = dt 83 ((4 * (dt 79 10)) + 3).toNat := (u2_ne (fun z_ => (fun y_ => xr0 hA0 (by decide) y_.symm) (z_.2.trans ex58.symm))).trans y42
        clear y39 y40 y41 y42
        refine go_smpq PM173 (L' := [some (.inr (.inr (some 79))), some (.inl 0)]) (st' := []) (w' := (SH, (u2 dt27 83 ((4 * (dt27 79 10)).toNat) 8))) rfl rfl (s_iast (n := 64) rfl ⟨by omega, by (have z_ := unhid c7; omega)⟩ ⟨by decide, by decide⟩) ?_
        have r63 : 0 ≤ dt27 79 11 ∧ dt27 79 11 ≤ 510 := InvC_get hI28 79 11 rfl rfl
        refine go_toq PM173 (k := 12) (pc' := 119) (L' := [some (.inr (.inr (some 79))), some (.inl 0)]) (st' := [.inl (dt27 79 11), .inl ((4 * (dt27 79 10)) + 1), .inr (.inr (some 83))]) (w' := (SH, (u2 dt27 83 ((4 * (dt27 79 10)).toNat) 8))) rfl ?_
        have hI64 : InvC (u2 (u2 dt27 83 ((4 * (dt27 79 10)).toNat) 8) 83 (((4 * (dt27 79 10)) + 1).toNat) (dt27 79 11)) := InvC_u2 hI44 (lo := -2147483648) (hi := 2147483647) rfl rfl rfl (by first | exact bnd1 r63 (by decide) | fail) (by first | exact bnd2 r63 (by decide) | fail)
        have hF65 : Fr [79, 83, 84] dt (u2 (u2 dt27 83 ((4 * (dt27 79 10)).toNat) 8) 83 (((4 * (dt27 79 10)) + 1).toNat) (dt27 79 11)) := Fr_u2 hF45 (by decide)
        have w66 : (u2 (u2 dt27 83 ((4 * (dt27 79 10)).toNat) 8) 83 (((4 * (dt27 79 10)) + 1).toNat) (dt27 79 11)) 79 2 = dt 79 2 := w46
        have w67 : (u2 (u2 dt27 83 ((4 * (dt27 79 10)).toNat) 8) 83 (((4 * (dt27 79 10)) + 1).toNat) (dt27 79 11)) 79 9 = dt 79 9 := w47
        have w68 : (u2 (u2 dt27 83 ((4 * (dt27 79 10)).toNat) 8) 83 (((4 * (dt27 79 10)) + 1).toNat) (dt27 79 11)) 79 10 = dt 79 10 := w48
        have w69 : (u2 (u2 dt27 83 ((4 * (dt27 79 10)).toNat) 8) 83 (((4 * (dt27 79 10)) + 1).toNat) (dt27 79 11)) 79 11 = dt 79 11 := w49
        have w70 : (u2 (u2 dt27 83 ((4 * (dt27 79 10)).toNat) 8) 83 (((4 * (dt27 79 10)) + 1).toNat) (dt27 79 11)) 79 12 = dt 79 12 := w50
        have w71 : (u2 (u2 dt27 83 ((4 * (dt27 79 10)).toNat) 8) 83 (((4 * (dt27 79 10)) + 1).toNat) (dt27 79 11)) 79 13 = dt27 79 13 := w51
        have w72 : (u2 (u2 dt27 83 ((4 * (dt27 79 10)).toNat) 8) 83 (((4 * (dt27 79 10)) + 1).toNat) (dt27 79 11)) 79 14 = dt27 79 14 := w52
        have w73 : (u2 (u2 dt27 83 ((4 * (dt27 79 10)).toNat) 8) 83 (((4 * (dt27 79 10)) + 1).toNat) (dt27 79 11)) 79 15 = dt27 79 15 := w53
        have w74 : (u2 (u2 dt27 83 ((4 * (dt27 79 10)).toNat) 8) 83 (((4 * (dt27 79 10)) + 1).toNat) (dt27 79 11)) 79 16 = dt27 79 16 := w54
        have w75 : (u2 (u2 dt27 83 ((4 * (dt27 79 10)).toNat) 8) 83 (((4 * (dt27 79 10)) + 1).toNat) (dt27 79 11)) 79 20 = 0 := w55
        clear w46 w47 w48 w49 w50 w51 w52 w53 w54 w55
        have E8476 : (u2 (u2 dt27 83 ((4 * (dt27 79 10)).toNat) 8) 83 (((4 * (dt27 79 10)) + 1).toNat) (dt27 79 11)) 84 = dt 84 := (funext fun _ => rfl).trans E8456
        have ex78 : ((4 * (dt 79 10)) + 1).toNat = ((4 * (dt27 79 10)) + 1).toNat := by rw [show dt27 79 10 = dt 79 10 from w68]
        have BL77 : ∀ j : Nat, (j : Int) < 4 * dt 79 10 → (u2 (u2 dt27 83 ((4 * (dt27 79 10)).toNat) 8) 83 (((4 * (dt27 79 10)) + 1).toNat) (dt27 79 11)) 83 j = dt 83 j := fun j hj => (u2_ne (fun z_ => xb hj (show (0 : Int) ≤ 1 by decide) (z_.2.trans ex78.symm))).trans (BL57 j hj)
        have y79 : (u2 (u2 dt27 83 ((4 * (dt27 79 10)).toNat) 8) 83 (((4 * (dt27 79 10)) + 1).toNat) (dt27 79 11)) 83 ((4 * (dt 79 10))).toNat = 8 := (u2_ne (fun z_ => (xr0 hA0 (by decide)) (z_.2.trans ex78.symm))).trans y59
        have y80 : (u2 (u2 dt27 83 ((4 * (dt27 79 10)).toNat) 8) 83 (((4 * (dt27 79 10)) + 1).toNat) (dt27 79 11)) 83 ((4 * (dt 79 10)) + 1).toNat = dt27 79 11 := by rw [ex78]; exact u2_eq
        have y81 : (u2 (u2 dt27 83 ((4 * (dt27 79 10)).toNat) 8) 83 (((4 * (dt27 79 10)) + 1).toNat) (dt27 79 11)) 83 ((4 * (dt 79 10)) + 2).toNat = dt 83 ((4 * (dt 79 10)) + 2).toNat := (u2_ne (fun z_ => (xr hA0 (by decide) (by decide) (by decide)) (z_.2.trans ex78.symm))).trans y61
        have y82 : (u2 (u2 dt27 83 ((4 * (dt27 79 10)).toNat) 8) 83 (((4 * (dt27 79 10)) + 1).toNat) (dt27 79 11)) 83 ((4 * (dt 79 10)) + 3).toNat = dt 83 ((4 * (dt 79 10)) + 3).toNat := (u2_ne (fun z_ => (xr hA0 (by decide) (by decide) (by decide)) (z_.2.trans ex78.symm))).trans y62
        clear y59 y60 y61 y62
        refine go_smpq PM173 (L' := [some (.inr (.inr (some 79))), some (.inl 0)]) (st' := []) (w' := (SH, (u2 (u2 dt27 83 ((4 * (dt27 79 10)).toNat) 8) 83 (((4 * (dt27 79 10)) + 1).toNat) (dt27 79 11)))) rfl rfl (s_iast (n := 64) rfl ⟨by omega, by (have z_ := unhid c7; omega)⟩ (by first | exact bnd r63 (by decide) (by decide) | exact ⟨by fail, by fail⟩)) ?_
        refine go_toq PM173 (k := 1) (pc' := 121) (L' := [some (.inr (.inr (some 79))), some (.inl 0)]) (st' := [.inr (.inr (some 79))]) (w' := (SH, (u2 (u2 dt27 83 ((4 * (dt27 79 10)).toNat) 8) 83 (((4 * (dt27 79 10)) + 1).toNat) (dt27 79 11)))) rfl ?_
        refine go_callq PM173 PM165 (Q' := _) rfl rfl rfl rfl (sp_X6_sumUp L xs sio (d + 27) (u2 (u2 dt27 83 ((4 * (dt27 79 10)).toNat) 8) 83 (((4 * (dt27 79 10)) + 1).toNat) (dt27 79 11)) hI64   (by first | exact True.intro | with_reducible assumption | exact unhid (by with_reducible assumption) | rfl | omega | trivial) (by first | exact True.intro | with_reducible assumption | exact unhid (by with_reducible assumption) | rfl | omega | trivial)) ?_
        rintro _ _ ⟨dt84, rfl, hI85, hF86, h83⟩
        refine ⟨rfl, ?_⟩
        have hF87 : Fr [79, 83, 84] dt dt84 := Fr_tr hF65 hF86 (by decide)
        rcases h83 with ⟨rfl, h83⟩ | ⟨rfl, h83⟩
        · skip
          obtain ⟨h83_0, h83_1, h83_2, h83_3⟩ := h83
          have w88 : dt84 79 2 = dt 79 2 := h83_0.trans w66
          have w89 : dt84 79 9 = dt 79 9 := h83_1.trans w67
          have w90 : dt84 79 10 = dt 79 10 := h83_2.trans w68
          have w91 : dt84 79 12 = dt 79 12 := h83_3.trans w70
          have BL92 : ∀ j : Nat, (j : Int) < 4 * dt 79 10 → dt84 83 j = dt 83 j := fun j hj => (hF86 83 (by decide) j).trans (BL77 j hj)
          have y93 : dt84 83 ((4 * (dt 79 10))).toNat = 8 := (hF86 83 (by decide) _).trans y79
          have y94 : dt84 83 ((4 * (dt 79 10)) + 1).toNat = dt27 79 11 := (hF86 83 (by decide) _).trans y80
          have y95 : dt84 83 ((4 * (dt 79 10)) + 2).toNat = dt 83 ((4 * (dt 79 10)) + 2).toNat := (hF86 83 (by decide) _).trans y81
          have y96 : dt84 83 ((4 * (dt 79 10)) + 3).toNat = dt 83 ((4 * (dt 79 10)) + 3).toNat := (hF86 83 (by decide) _).trans y82
          clear y79 y80 y81 y82
          clear h83_0 w66 h83_1 w67 h83_2 w68 h83_3 w70
          refine go_retq PM173 (k := 2) (r := some (.inl 0)) (w1 := (SH, dt84)) rfl ?_
          exact ⟨dt84, rfl, hI85, hF87, (Or.inl ⟨rfl, ⟨by first | exact True.intro | with_reducible assumption | exact unhid (by with_reducible assumption) | rfl | fail | trivial, by first | exact True.intro | with_reducible assumption | exact unhid (by with_reducible assumption) | rfl | fail | trivial, by first | exact True.intro | with_reducible assumption | exact unhid (by with_reducible assumption) | rfl | fail | trivial⟩⟩)⟩
        · skip
          obtain ⟨h83_0, h83_1, h83_2, h83_3, h83_4, h83_5, h83_6, h83_7, h83_8, h83_9, h83_10⟩ := h83
          have w97 : dt84 79 2 = dt 79 2 := h83_6.trans w66
          have w98 : dt84 79 9 = dt 79 9 := h83_7.trans w67
          have w99 : dt84 79 10 = dt 79 10 := h83_8.trans w68
          have w100 : dt84 79 12 = dt 79 12 := h83_9.trans w70
          have w101 : dt84 79 20 = 0 := h83_10.trans w75
          clear h26_1
          have BL102 : ∀ j : Nat, (j : Int) < 4 * dt 79 10 → dt84 83 j = dt 83 j := fun j hj => (hF86 83 (by decide) j).trans (BL77 j hj)
          have y103 : dt84 83 ((4 * (dt 79 10))).toNat = 8 := (hF86 83 (by decide) _).trans y79
          have y104 : dt84 83 ((4 * (dt 79 10)) + 1).toNat = dt27 79 11 := (hF86 83 (by decide) _).trans y80
          have y105 : dt84 83 ((4 * (dt 79 10)) + 2).toNat = dt 83 ((4 * (dt 79 10)) + 2).toNat := (hF86 83 (by decide) _).trans y81
          have y106 : dt84 83 ((4 * (dt 79 10)) + 3).toNat = dt 83 ((4 * (dt 79 10)) + 3).toNat := (hF86 83 (by decide) _).trans y82
          clear y79 y80 y81 y82
          clear h83_6 w66 h83_7 w67 h83_8 w68 h83_9 w70 h83_10 w75
          have r107 : 0 ≤ dt84 79 10 ∧ dt84 79 10 ≤ 24 := InvC_get hI85 79 10 rfl rfl
          have r108 : 0 ≤ dt84 79 11 ∧ dt84 79 11 ≤ 510 := InvC_get hI85 79 11 rfl rfl
          refine go_toq PM173 (k := 11) (pc' := 145) (L' := [some (.inr (.inr (some 79))), some (.inl 0)]) (st' := [.inl (dt84 79 11), .inl ((4 * (dt84 79 10)) + 2), .inr (.inr (some 83))]) (w' := (SH, dt84)) rfl ?_
          have hI109 : InvC (u2 dt84 83 (((4 * (dt84 79 10)) + 2).toNat) (dt84 79 11)) := InvC_u2 hI85 (lo := -2147483648) (hi := 2147483647) rfl rfl rfl (by first | exact bnd1 r108 (by decide) | fail) (by first | exact bnd2 r108 (by decide) | fail)
          have hF110 : Fr [79, 83, 84] dt (u2 dt84 83 (((4 * (dt84 79 10)) + 2).toNat) (dt84 79 11)) := Fr_u2 hF87 (by decide)
          have w111 : (u2 dt84 83 (((4 * (dt84 79 10)) + 2).toNat) (dt84 79 11)) 79 2 = dt 79 2 := w97
          have w112 : (u2 dt84 83 (((4 * (dt84 79 10)) + 2).toNat) (dt84 79 11)) 79 9 = dt 79 9 := w98
          have w113 : (u2 dt84 83 (((4 * (dt84 79 10)) + 2).toNat) (dt84 79 11)) 79 10 = dt 79 10 := w99
          have w114 : (u2 dt84 83 (((4 * (dt84 79 10)) + 2).toNat) (dt84 79 11)) 79 11 = dt84 79 11 := rfl
          have w115 : (u2 dt84 83 (((4 * (dt84 79 10)) + 2).toNat) (dt84 79 11)) 79 12 = dt 79 12 := w100
          have w116 : (u2 dt84 83 (((4 * (dt84 79 10)) + 2).toNat) (dt84 79 11)) 79 13 = dt84 79 13 := rfl
          have w117 : (u2 dt84 83 (((4 * (dt84 79 10)) + 2).toNat) (dt84 79 11)) 79 14 = dt84 79 14 := rfl
          have w118 : (u2 dt84 83 (((4 * (dt84 79 10)) + 2).toNat) (dt84 79 11)) 79 15 = dt84 79 15 := rfl
          have w119 : (u2 dt84 83 (((4 * (dt84 79 10)) + 2).toNat) (dt84 79 11)) 79 16 = dt84 79 16 := rfl
          have w120 : (u2 dt84 83 (((4 * (dt84 79 10)) + 2).toNat) (dt84 79 11)) 79 20 = 0 := w101
          have E84121 : (u2 dt84 83 (((4 * (dt84 79 10)) + 2).toNat) (dt84 79 11)) 84 = dt84 84 := funext fun _ => rfl
          have ex123 : ((4 * (dt 79 10)) + 2).toNat = ((4 * (dt84 79 10)) + 2).toNat := by rw [show dt84 79 10 = dt 79 10 from w113]
          have BL122 : ∀ j : Nat, (j : Int) < 4 * dt 79 10 → (u2 dt84 83 (((4 * (dt84 79 10)) + 2).toNat) (dt84 79 11)) 83 j = dt 83 j := fun j hj => (u2_ne (fun z_ => xb hj (show (0 : Int) ≤ 2 by decide) (z_.2.trans ex123.symm))).trans (BL102 j hj)
          have y124 : (u2 dt84 83 (((4 * (dt84 79 10)) + 2).toNat) (dt84 79 11)) 83 ((4 * (dt 79 10))).toNat = 8 := (u2_ne (fun z_ => (xr0 hA0 (by decide)) (z_.2.trans ex123.symm))).trans y103
          have y125 : (u2 dt84 83 (((4 * (dt84 79 10)) + 2).toNat) (dt84 79 11)) 83 ((4 * (dt 79 10)) + 1).toNat = dt27 79 11 := (u2_ne (fun z_ => (xr hA0 (by decide) (by decide) (by decide)) (z_.2.trans ex123.symm))).trans y104
          have y126 : (u2 dt84 83 (((4 * (dt84 79 10)) + 2).toNat) (dt84 79 11)) 83 ((4 * (dt 79 10)) + 2).toNat = dt84 79 11 := by rw [ex123]; exact u2_eq
          have y127 : (u2 dt84 83 (((4 * (dt84 79 10)) + 2).toNat) (dt84 79 11)) 83 ((4 * (dt 79 10)) + 3).toNat = dt 83 ((4 * (dt 79 10)) + 3).toNat := (u2_ne (fun z_ => (xr hA0 (by decide) (by decide) (by decide)) (z_.2.trans ex123.symm))).trans y106
          clear y103 y104 y105 y106
          refine go_smpq PM173 (L' := [some (.inr (.inr (some 79))), some (.inl 0)]) (st' := []) (w' := (SH, (u2 dt84 83 (((4 * (dt84 79 10)) + 2).toNat) (dt84 79 11)))) rfl rfl (s_iast (n := 64) rfl ⟨by omega, by (have z_ := unhid c7; omega)⟩ (by first | exact bnd r108 (by decide) (by decide) | exact ⟨by fail, by fail⟩)) ?_
          have r128 : (-2147483648) ≤ dt84 79 14 ∧ dt84 79 14 ≤ 2147483647 := InvC_get hI85 79 14 rfl rfl
          refine go_ifq PM173 (k := 3) (p1 := 167) (p2 := 154) (L' := [some (.inr (.inr (some 79))), some (.inl 0)]) (st' := []) (w' := (SH, (u2 dt84 83 (((4 * (dt84 79 10)) + 2).toNat) (dt84 79 11)))) rfl (c_ne (a := dt84 79 14) (b := 3) (by first | exact bnd r128 (by decide) (by decide) | exact ⟨by fail, by fail⟩) ⟨by decide, by decide⟩) (fun c129 => ?_) (fun c129 => ?_)
          · skip
            replace c129 := hid c129
            refine go_toq PM173 (k := 10) (pc' := 183) (L' := [some (.inr (.inr (some 79))), some (.inl 0)]) (st' := [.inl (dt84 79 11), .inl ((4 * (dt84 79 10)) + 3), .inr (.inr (some 83))]) (w' := (SH, (u2 dt84 83 (((4 * (dt84 79 10)) + 2).toNat) (dt84 79 11)))) rfl ?_
            have hI130 : InvC (u2 (u2 dt84 83 (((4 * (dt84 79 10)) + 2).toNat) (dt84 79 11)) 83 (((4 * (dt84 79 10)) + 3).toNat) (dt84 79 11)) := InvC_u2 hI109 (lo := -2147483648) (hi := 2147483647) rfl rfl rfl (by first | exact bnd1 r108 (by decide) | fail) (by first | exact bnd2 r108 (by decide) | fail)
            have hF131 : Fr [79, 83, 84] dt (u2 (u2 dt84 83 (((4 * (dt84 79 10)) + 2).toNat) (dt84 79 11)) 83 (((4 * (dt84 79 10)) + 3).toNat) (dt84 79 11)) := Fr_u2 hF110 (by decide)
            have w132 : (u2 (u2 dt84 83 (((4 * (dt84 79 10)) + 2).toNat) (dt84 79 11)) 83 (((4 * (dt84 79 10)) + 3).toNat) (dt84 79 11)) 79 2 = dt 79 2 := w111
            have w133 : (u2 (u2 dt84 83 (((4 * (dt84 79 10)) + 2).toNat) (dt84 79 11)) 83 (((4 * (dt84 79 10)) + 3).toNat) (dt84 79 11)) 79 9 = dt 79 9 := w112
            have w134 : (u2 (u2 dt84 83 (((4 * (dt84 79 10)) + 2).toNat) (dt84 79 11)) 83 (((4 * (dt84 79 10)) + 3).toNat) (dt84 79 11)) 79 10 = dt 79 10 := w113
            have w135 : (u2 (u2 dt84 83 (((4 * (dt84 79 10)) + 2).toNat) (dt84 79 11)) 83 (((4 * (dt84 79 10)) + 3).toNat) (dt84 79 11)) 79 11 = dt84 79 11 := w114
            have w136 : (u2 (u2 dt84 83 (((4 * (dt84 79 10)) + 2).toNat) (dt84 79 11)) 83 (((4 * (dt84 79 10)) + 3).toNat) (dt84 79 11)) 79 12 = dt 79 12 := w115
            have w137 : (u2 (u2 dt84 83 (((4 * (dt84 79 10)) + 2).toNat) (dt84 79 11)) 83 (((4 * (dt84 79 10)) + 3).toNat) (dt84 79 11)) 79 13 = dt84 79 13 := w116
            have w138 : (u2 (u2 dt84 83 (((4 * (dt84 79 10)) + 2).toNat) (dt84 79 11)) 83 (((4 * (dt84 79 10)) + 3).toNat) (dt84 79 11)) 79 14 = dt84 79 14 := w117
            have w139 : (u2 (u2 dt84 83 (((4 * (dt84 79 10)) + 2).toNat) (dt84 79 11)) 83 (((4 * (dt84 79 10)) + 3).toNat) (dt84 79 11)) 79 15 = dt84 79 15 := w118
            have w140 : (u2 (u2 dt84 83 (((4 * (dt84 79 10)) + 2).toNat) (dt84 79 11)) 83 (((4 * (dt84 79 10)) + 3).toNat) (dt84 79 11)) 79 16 = dt84 79 16 := w119
            have w141 : (u2 (u2 dt84 83 (((4 * (dt84 79 10)) + 2).toNat) (dt84 79 11)) 83 (((4 * (dt84 79 10)) + 3).toNat) (dt84 79 11)) 79 20 = 0 := w120
            clear w111 w112 w113 w114 w115 w116 w117 w118 w119 w120
            have E84142 : (u2 (u2 dt84 83 (((4 * (dt84 79 10)) + 2).toNat) (dt84 79 11)) 83 (((4 * (dt84 79 10)) + 3).toNat) (dt84 79 11)) 84 = dt84 84 := (funext fun _ => rfl).trans E84121
            have ex144 : ((4 * (dt 79 10)) + 3).toNat = ((4 * (dt84 79 10)) + 3).toNat := by rw [show dt84 79 10 = dt 79 10 from w134]
            have BL143 : ∀ j : Nat, (j : Int) < 4 * dt 79 10 → (u2 (u2 dt84 83 (((4 * (dt84 79 10)) + 2).toNat) (dt84 79 11)) 83 (((4 * (dt84 79 10)) + 3).toNat) (dt84 79 11)) 83 j = dt 83 j := fun j hj => (u2_ne (fun z_ => xb hj (show (0 : Int) ≤ 3 by decide) (z_.2.trans ex144.symm))).trans (BL122 j hj)
            have y145 : (u2 (u2 dt84 83 (((4 * (dt84 79 10)) + 2).toNat) (dt84 79 11)) 83 (((4 * (dt84 79 10)) + 3).toNat) (dt84 79 11)) 83 ((4 * (dt 79 10))).toNat = 8 := (u2_ne (fun z_ => (xr0 hA0 (by decide)) (z_.2.trans ex144.symm))).trans y124
            have y146 : (u2 (u2 dt84 83 (((4 * (dt84 79 10)) + 2).toNat) (dt84 79 11)) 83 (((4 * (dt84 79 10)) + 3).toNat) (dt84 79 11)) 83 ((4 * (dt 79 10)) + 1).toNat = dt27 79 11 := (u2_ne (fun z_ => (xr hA0 (by decide) (by decide) (by decide)) (z_.2.trans ex144.symm))).trans y125
            have y147 : (u2 (u2 dt84 83 (((4 * (dt84 79 10)) + 2).toNat) (dt84 79 11)) 83 (((4 * (dt84 79 10)) + 3).toNat) (dt84 79 11)) 83 ((4 * (dt 79 10)) + 2).toNat = dt84 79 11 := (u2_ne (fun z_ => (xr hA0 (by decide) (by decide) (by decide)) (z_.2.trans ex144.symm))).trans y126
            have y148 : (u2 (u2 dt84 83 (((4 * (dt84 79 10)) + 2).toNat) (dt84 79 11)) 83 (((4 * (dt84 79 10)) + 3).toNat) (dt84 79 11)) 83 ((4 * (dt 79 10)) + 3).toNat = dt84 79 11 := by rw [ex144]; exact u2_eq
            clear y124 y125 y126 y127
            refine go_smpq PM173 (L' := [some (.inr (.inr (some 79))), some (.inl 0)]) (st' := []) (w' := (SH, (u2 (u2 dt84 83 (((4 * (dt84 79 10)) + 2).toNat) (dt84 79 11)) 83 (((4 * (dt84 79 10)) + 3).toNat) (dt84 79 11)))) rfl rfl (s_iast (n := 64) rfl ⟨by omega, by (have z_ := unhid c7; omega)⟩ (by first | exact bnd r108 (by decide) (by decide) | exact ⟨by fail, by fail⟩)) ?_
            refine go_toq PM173 (k := 2) (pc' := 188) (L' := [some (.inr (.inr (some 79))), some (.inl 0)]) (st' := [.inl 159, .inr (.inr (some 79))]) (w' := (SH, (u2 (u2 dt84 83 (((4 * (dt84 79 10)) + 2).toNat) (dt84 79 11)) 83 (((4 * (dt84 79 10)) + 3).toNat) (dt84 79 11)))) rfl ?_
            refine go_callq PM173 PM161 (Q' := _) rfl rfl rfl rfl (sp_X6_need0 L xs sio (d + 29) (u2 (u2 dt84 83 (((4 * (dt84 79 10)) + 2).toNat) (dt84 79 11)) 83 (((4 * (dt84 79 10)) + 3).toNat) (dt84 79 11)) hI130  159 ⟨by decide, by decide⟩ (by first | exact True.intro | with_reducible assumption | exact unhid (by with_reducible assumption) | rfl | omega | trivial)) ?_
            rintro _ _ ⟨dt150, rfl, hI151, hF152, h149⟩
            refine ⟨rfl, ?_⟩
            have hF153 : Fr [79, 83, 84] dt dt150 := Fr_tr hF131 hF152 (by decide)
            have E84154 : dt150 84 = dt84 84 := (funext (hF152 84 (by decide))).trans E84142
            rcases h149 with ⟨rfl, h149⟩ | ⟨rfl, h149⟩
            · skip
              obtain ⟨h149_0, h149_1, h149_2, h149_3⟩ := h149
              have w155 : dt150 79 2 = dt 79 2 := h149_0.trans w132
              have w156 : dt150 79 9 = dt 79 9 := h149_1.trans w133
              have w157 : dt150 79 10 = dt 79 10 := h149_2.trans w134
              have w158 : dt150 79 12 = dt 79 12 := h149_3.trans w136
              have BL159 : ∀ j : Nat, (j : Int) < 4 * dt 79 10 → dt150 83 j = dt 83 j := fun j hj => (hF152 83 (by decide) j).trans (BL143 j hj)
              have y160 : dt150 83 ((4 * (dt 79 10))).toNat = 8 := (hF152 83 (by decide) _).trans y145
              have y161 : dt150 83 ((4 * (dt 79 10)) + 1).toNat = dt27 79 11 := (hF152 83 (by decide) _).trans y146
              have y162 : dt150 83 ((4 * (dt 79 10)) + 2).toNat = dt84 79 11 := (hF152 83 (by decide) _).trans y147
              have y163 : dt150 83 ((4 * (dt 79 10)) + 3).toNat = dt84 79 11 := (hF152 83 (by decide) _).trans y148
              clear y145 y146 y147 y148
              clear h149_0 w132 h149_1 w133 h149_2 w134 h149_3 w136
              refine go_retq PM173 (k := 0) (r := some (.inl 0)) (w1 := (SH, dt150)) rfl ?_
              exact ⟨dt150, rfl, hI151, hF153, (Or.inl ⟨rfl, ⟨by first | exact True.intro | with_reducible assumption | exact unhid (by with_reducible assumption) | rfl | fail | trivial, by first | exact True.intro | with_reducible assumption | exact unhid (by with_reducible assumption) | rfl | fail | trivial, by first | exact True.intro | with_reducible assumption | exact unhid (by with_reducible assumption) | rfl | fail | trivial⟩⟩)⟩
            · skip
              obtain ⟨h149_0, h149_1, h149_2, h149_3, h149_4, h149_5, h149_6, h149_7, h149_8⟩ := h149
              have w164 : dt150 79 2 = dt 79 2 := h149_3.trans w132
              have w165 : dt150 79 9 = dt 79 9 := h149_4.trans w133
              have w166 : dt150 79 10 = dt 79 10 := h149_5.trans w134
              have w167 : dt150 79 11 = dt84 79 11 := h149_6.trans w135
              have w168 : dt150 79 12 = dt 79 12 := h149_7.trans w136
              have w169 : dt150 79 20 = 0 := h149_8.trans w141
              clear h83_2
              have BL170 : ∀ j : Nat, (j : Int) < 4 * dt 79 10 → dt150 83 j = dt 83 j := fun j hj => (hF152 83 (by decide) j).trans (BL143 j hj)
              have y171 : dt150 83 ((4 * (dt 79 10))).toNat = 8 := (hF152 83 (by decide) _).trans y145
              have y172 : dt150 83 ((4 * (dt 79 10)) + 1).toNat = dt27 79 11 := (hF152 83 (by decide) _).trans y146
              have y173 : dt150 83 ((4 * (dt 79 10)) + 2).toNat = dt84 79 11 := (hF152 83 (by decide) _).trans y147
              have y174 : dt150 83 ((4 * (dt 79 10)) + 3).toNat = dt84 79 11 := (hF152 83 (by decide) _).trans y148
              clear y145 y146 y147 y148
              clear h149_3 w132 h149_4 w133 h149_5 w134 h149_6 w135 h149_7 w136 h149_8 w141
              refine go_retq PM173 (k := 0) (r := some (.inl 1)) (w1 := (SH, dt150)) rfl ?_
              exact ⟨dt150, rfl, hI151, hF153, (Or.inr ⟨rfl, ⟨by first | exact True.intro | with_reducible assumption | exact unhid (by with_reducible assumption) | rfl | (have z_ := unhid c7; omega) | trivial, by exact BL170, by exact ⟨by omega, PS_fin h83_4 (by first | exact AGR_e (by assumption) | exact AGR_e rfl | exact AGR_4 (by assumption) hI (by first | assumption | rfl) (by fail)) (by omega) (by omega), fun _ => by first | omega | exact PS_fin hI (by first | exact AGR_e (by assumption) | exact AGR_e rfl) (by fail) (by fail)⟩, by first | exact AGR_4 (by assumption) h83_5 (by first | assumption | rfl) (by omega) | exact AGR_5 (by assumption) hI (by first | assumption | rfl) h83_5 (by first | assumption | rfl) (by fail) (by fail), by first | exact True.intro | with_reducible assumption | exact unhid (by with_reducible assumption) | rfl | omega | trivial, by first | exact True.intro | with_reducible assumption | exact unhid (by with_reducible assumption) | rfl | omega | trivial, by first | exact True.intro | with_reducible assumption | exact unhid (by with_reducible assumption) | rfl | omega | trivial, by first | exact True.intro | with_reducible assumption | exact unhid (by with_reducible assumption) | rfl | fail | trivial, by exact (InvC_get (by assumption) 79 15 rfl rfl).2, by first | exact True.intro | with_reducible assumption | exact unhid (by with_reducible assumption) | rfl | fail | trivial, by first | exact True.intro | with_reducible assumption | exact unhid (by with_reducible assumption) | rfl | fail | trivial, by first | exact True.intro | with_reducible assumption | exact unhid (by with_reducible assumption) | rfl | fail | trivial, by first | exact True.intro | with_reducible assumption | exact unhid (by with_reducible assumption) | rfl | fail | trivial⟩⟩)⟩
          · skip
            refine go_toq PM173 (k := 1) (pc' := 155) (L' := [some (.inr (.inr (some 79))), some (.inl 0)]) (st' := [.inr (.inr (some 79))]) (w' := (SH, (u2 dt84 83 (((4 * (dt84 79 10)) + 2).toNat) (dt84 79 11)))) rfl ?_
            refine go_callq PM173 PM159 (Q' := _) rfl rfl rfl rfl (sp_X6_next0 L xs sio (d + 30) (u2 dt84 83 (((4 * (dt84 79 10)) + 2).toNat) (dt84 79 11)) hI109   (by first | exact True.intro | with_reducible assumption | exact unhid (by with_reducible assumption) | rfl | omega | trivial)) ?_
            rintro _ _ ⟨dt176, rfl, hI177, hF178, h175⟩
            refine ⟨rfl, ?_⟩
            have hF179 : Fr [79, 83, 84] dt dt176 := Fr_tr hF110 hF178 (by decide)
            have E84180 : dt176 84 = dt84 84 := (funext (hF178 84 (by decide))).trans E84121
            rcases h175 with ⟨rfl, h175⟩
            obtain ⟨h175_0, h175_1, h175_2, h175_3, h175_4, h175_5, h175_6, h175_7, h175_8⟩ := h175
            have w181 : dt176 79 2 = dt 79 2 := h175_3.trans w111
            have w182 : dt176 79 9 = dt 79 9 := h175_4.trans w112
            have w183 : dt176 79 10 = dt 79 10 := h175_5.trans w113
            have w184 : dt176 79 11 = dt84 79 11 := h175_6.trans w114
            have w185 : dt176 79 12 = dt 79 12 := h175_7.trans w115
            have w186 : dt176 79 20 = 0 := h175_8.trans w120
            have adv187 : (u2 dt84 83 (((4 * (dt84 79 10)) + 2).toNat) (dt84 79 11)) 79 15 + 1 ≤ (u2 dt84 83 (((4 * (dt84 79 10)) + 2).toNat) (dt84 79 11)) 79 13 := by omega
            clear h83_2
            have BL188 : ∀ j : Nat, (j : Int) < 4 * dt 79 10 → dt176 83 j = dt 83 j := fun j hj => (hF178 83 (by decide) j).trans (BL122 j hj)
            have y189 : dt176 83 ((4 * (dt 79 10))).toNat = 8 := (hF178 83 (by decide) _).trans y124
            have y190 : dt176 83 ((4 * (dt 79 10)) + 1).toNat = dt27 79 11 := (hF178 83 (by decide) _).trans y125
            have y191 : dt176 83 ((4 * (dt 79 10)) + 2).toNat = dt84 79 11 := (hF178 83 (by decide) _).trans y126
            have y192 : dt176 83 ((4 * (dt 79 10)) + 3).toNat = dt 83 ((4 * (dt 79 10)) + 3).toNat := (hF178 83 (by decide) _).trans y127
            clear y124 y125 y126 y127
            clear h175_3 w111 h175_4 w112 h175_5 w113 h175_6 w114 h175_7 w115 h175_8 w120
            refine go_toq PM173 (k := 1) (pc' := 159) (L' := [some (.inr (.inr (some 79))), some (.inl 0)]) (st' := [.inr (.inr (some 79))]) (w' := (SH, dt176)) rfl ?_
            refine go_callq PM173 PM168 (Q' := _) rfl rfl rfl rfl (sp_X6_any_0 L xs sio (d + 0) dt176 hI177   (by first | exact True.intro | with_reducible assumption | exact unhid (by with_reducible assumption) | rfl | fail | trivial) (by first | exact True.intro | with_reducible assumption | exact unhid (by with_reducible assumption) | rfl | omega | trivial) (by first | exact True.intro | with_reducible assumption | exact unhid (by with_reducible assumption) | rfl | fail | trivial)) ?_
            rintro _ _ ⟨dt194, rfl, hI195, hF196, h193⟩
            refine ⟨rfl, ?_⟩
            have hF197 : Fr [79, 83, 84] dt dt194 := Fr_tr hF179 hF196 (by decide)
            rcases h193 with ⟨rfl, h193⟩ | ⟨rfl, h193⟩
            · skip
              obtain ⟨h193_0, h193_1, h193_2, h193_3⟩ := h193
              have w198 : dt194 79 2 = dt 79 2 := h193_0.trans w181
              have w199 : dt194 79 9 = dt 79 9 := h193_1.trans w182
              have w200 : dt194 79 10 = dt 79 10 := h193_2.trans w183
              have w201 : dt194 79 12 = dt 79 12 := h193_3.trans w185
              have BL202 : ∀ j : Nat, (j : Int) < 4 * dt 79 10 → dt194 83 j = dt 83 j := fun j hj => (hF196 83 (by decide) j).trans (BL188 j hj)
              have y203 : dt194 83 ((4 * (dt 79 10))).toNat = 8 := (hF196 83 (by decide) _).trans y189
              have y204 : dt194 83 ((4 * (dt 79 10)) + 1).toNat = dt27 79 11 := (hF196 83 (by decide) _).trans y190
              have y205 : dt194 83 ((4 * (dt 79 10)) + 2).toNat = dt84 79 11 := (hF196 83 (by decide) _).trans y191
              have y206 : dt194 83 ((4 * (dt 79 10)) + 3).toNat = dt 83 ((4 * (dt 79 10)) + 3).toNat := (hF196 83 (by decide) _).trans y192
              clear y189 y190 y191 y192
              clear h193_0 w181 h193_1 w182 h193_2 h193_3 w185
              refine go_retq PM173 (k := 2) (r := some (.inl 0)) (w1 := (SH, dt194)) rfl ?_
              exact ⟨dt194, rfl, hI195, hF197, (Or.inl ⟨rfl, ⟨by first | exact True.intro | with_reducible assumption | exact unhid (by with_reducible assumption) | rfl | fail | trivial, by first | exact True.intro | with_reducible assumption | exact unhid (by with_reducible assumption) | rfl | fail | trivial, by first | exact True.intro | with_reducible assumption | exact unhid (by with_reducible assumption) | rfl | fail | trivial⟩⟩)⟩
            · skip
              obtain ⟨h193_0, h193_1, h193_2, h193_3, h193_4, h193_5, h193_6, h193_7, h193_8, h193_9, h193_10⟩ := h193
              have w207 : dt194 79 2 = dt 79 2 := h193_6.trans w181
              have w208 : dt194 79 9 = dt 79 9 := h193_7.trans w182
              have w209 : dt194 79 10 = dt 79 10 := h193_8.trans w183
              have w210 : dt194 79 12 = dt 79 12 := h193_9.trans w185
              have w211 : dt194 79 20 = 0 := h193_10.trans w186
              clear h175_1
              have BL212 : ∀ j : Nat, (j : Int) < 4 * dt 79 10 → dt194 83 j = dt 83 j := fun j hj => (hF196 83 (by decide) j).trans (BL188 j hj)
              have y213 : dt194 83 ((4 * (dt 79 10))).toNat = 8 := (hF196 83 (by decide) _).trans y189
              have y214 : dt194 83 ((4 * (dt 79 10)) + 1).toNat = dt27 79 11 := (hF196 83 (by decide) _).trans y190
              have y215 : dt194 83 ((4 * (dt 79 10)) + 2).toNat = dt84 79 11 := (hF196 83 (by decide) _).trans y191
              have y216 : dt194 83 ((4 * (dt 79 10)) + 3).toNat = dt 83 ((4 * (dt 79 10)) + 3).toNat := (hF196 83 (by decide) _).trans y192
              clear y189 y190 y191 y192
              clear h193_6 w181 h193_7 w182 h193_8 h193_9 w185 h193_10 w186
              have r217 : 0 ≤ dt194 79 10 ∧ dt194 79 10 ≤ 24 := InvC_get hI195 79 10 rfl rfl
              have r218 : 0 ≤ dt194 79 11 ∧ dt194 79 11 ≤ 510 := InvC_get hI195 79 11 rfl rfl
              refine go_toq PM173 (k := 11) (pc' := 183) (L' := [some (.inr (.inr (some 79))), some (.inl 0)]) (st' := [.inl (dt194 79 11), .inl ((4 * (dt194 79 10)) + 3), .inr (.inr (some 83))]) (w' := (SH, dt194)) rfl ?_
              have hI219 : InvC (u2 dt194 83 (((4 * (dt194 79 10)) + 3).toNat) (dt194 79 11)) := InvC_u2 hI195 (lo := -2147483648) (hi := 2147483647) rfl rfl rfl (by first | exact bnd1 r218 (by decide) | fail) (by first | exact bnd2 r218 (by decide) | fail)
              have hF220 : Fr [79, 83, 84] dt (u2 dt194 83 (((4 * (dt194 79 10)) + 3).toNat) (dt194 79 11)) := Fr_u2 hF197 (by decide)
              have w221 : (u2 dt194 83 (((4 * (dt194 79 10)) + 3).toNat) (dt194 79 11)) 79 2 = dt 79 2 := w207
              have w222 : (u2 dt194 83 (((4 * (dt194 79 10)) + 3).toNat) (dt194 79 11)) 79 9 = dt 79 9 := w208
              have w223 : (u2 dt194 83 (((4 * (dt194 79 10)) + 3).toNat) (dt194 79 11)) 79 10 = dt 79 10 := w209
              have w224 : (u2 dt194 83 (((4 * (dt194 79 10)) + 3).toNat) (dt194 79 11)) 79 11 = dt194 79 11 := rfl
              have w225 : (u2 dt194 83 (((4 * (dt194 79 10)) + 3).toNat) (dt194 79 11)) 79 12 = dt 79 12 := w210
              have w226 : (u2 dt194 83 (((4 * (dt194 79 10)) + 3).toNat) (dt194 79 11)) 79 13 = dt194 79 13 := rfl
              have w227 : (u2 dt194 83 (((4 * (dt194 79 10)) + 3).toNat) (dt194 79 11)) 79 14 = dt194 79 14 := rfl
              have w228 : (u2 dt194 83 (((4 * (dt194 79 10)) + 3).toNat) (dt194 79 11)) 79 15 = dt194 79 15 := rfl
              have w229 : (u2 dt194 83 (((4 * (dt194 79 10)) + 3).toNat) (dt194 79 11)) 79 16 = dt194 79 16 := rfl
              have w230 : (u2 dt194 83 (((4 * (dt194 79 10)) + 3).toNat) (dt194 79 11)) 79 20 = 0 := w211
              have E84231 : (u2 dt194 83 (((4 * (dt194 79 10)) + 3).toNat) (dt194 79 11)) 84 = dt194 84 := funext fun _ => rfl
              have ex233 : ((4 * (dt 79 10)) + 3).toNat = ((4 * (dt194 79 10)) + 3).toNat := by rw [show dt194 79 10 = dt 79 10 from w223]
              have BL232 : ∀ j : Nat, (j : Int) < 4 * dt 79 10 → (u2 dt194 83 (((4 * (dt194 79 10)) + 3).toNat) (dt194 79 11)) 83 j = dt 83 j := fun j hj => (u2_ne (fun z_ => xb hj (show (0 : Int) ≤ 3 by decide) (z_.2.trans ex233.symm))).trans (BL212 j hj)
              have y234 : (u2 dt194 83 (((4 * (dt194 79 10)) + 3).toNat) (dt194 79 11)) 83 ((4 * (dt 79 10))).toNat = 8 := (u2_ne (fun z_ => (xr0 hA0 (by decide)) (z_.2.trans ex233.symm))).trans y213
              have y235 : (u2 dt194 83 (((4 * (dt194 79 10)) + 3).toNat) (dt194 79 11)) 83 ((4 * (dt 79 10)) + 1).toNat = dt27 79 11 := (u2_ne (fun z_ => (xr hA0 (by decide) (by decide) (by decide)) (z_.2.trans ex233.symm))).trans y214
              have y236 : (u2 dt194 83 (((4 * (dt194 79 10)) + 3).toNat) (dt194 79 11)) 83 ((4 * (dt 79 10)) + 2).toNat = dt84 79 11 := (u2_ne (fun z_ => (xr hA0 (by decide) (by decide) (by decide)) (z_.2.trans ex233.symm))).trans y215
              have y237 : (u2 dt194 83 (((4 * (dt194 79 10)) + 3).toNat) (dt194 79 11)) 83 ((4 * (dt 79 10)) + 3).toNat = dt194 79 11 := by rw [ex233]; exact u2_eq
              clear y213 y214 y215 y216
              refine go_smpq PM173 (L' := [some (.inr (.inr (some 79))), some (.inl 0)]) (st' := []) (w' := (SH, (u2 dt194 83 (((4 * (dt194 79 10)) + 3).toNat) (dt194 79 11)))) rfl rfl (s_iast (n := 64) rfl ⟨by omega, by (have z_ := unhid c7; omega)⟩ (by first | exact bnd r218 (by decide) (by decide) | exact ⟨by fail, by fail⟩)) ?_
              refine go_toq PM173 (k := 2) (pc' := 188) (L' := [some (.inr (.inr (some 79))), some (.inl 0)]) (st' := [.inl 159, .inr (.inr (some 79))]) (w' := (SH, (u2 dt194 83 (((4 * (dt194 79 10)) + 3).toNat) (dt194 79 11)))) rfl ?_
              refine go_callq PM173 PM161 (Q' := _) rfl rfl rfl rfl (sp_X6_need0 L xs sio (d + 29) (u2 dt194 83 (((4 * (dt194 79 10)) + 3).toNat) (dt194 79 11)) hI219  159 ⟨by decide, by decide⟩ (by first | exact True.intro | with_reducible assumption | exact unhid (by with_reducible assumption) | rfl | omega | trivial)) ?_
              rintro _ _ ⟨dt239, rfl, hI240, hF241, h238⟩
              refine ⟨rfl, ?_⟩
              have hF242 : Fr [79, 83, 84] dt dt239 := Fr_tr hF220 hF241 (by decide)
              have E84243 : dt239 84 = dt194 84 := (funext (hF241 84 (by decide))).trans E84231
              rcases h238 with ⟨rfl, h238⟩ | ⟨rfl, h238⟩
              · skip
                obtain ⟨h238_0, h238_1, h238_2, h238_3⟩ := h238
                have w244 : dt239 79 2 = dt 79 2 := h238_0.trans w221
                have w245 : dt239 79 9 = dt 79 9 := h238_1.trans w222
                have w246 : dt239 79 10 = dt 79 10 := h238_2.trans w223
                have w247 : dt239 79 12 = dt 79 12 := h238_3.trans w225
                have BL248 : ∀ j : Nat, (j : Int) < 4 * dt 79 10 → dt239 83 j = dt 83 j := fun j hj => (hF241 83 (by decide) j).trans (BL232 j hj)
                have y249 : dt239 83 ((4 * (dt 79 10))).toNat = 8 := (hF241 83 (by decide) _).trans y234
                have y250 : dt239 83 ((4 * (dt 79 10)) + 1).toNat = dt27 79 11 := (hF241 83 (by decide) _).trans y235
                have y251 : dt239 83 ((4 * (dt 79 10)) + 2).toNat = dt84 79 11 := (hF241 83 (by decide) _).trans y236
                have y252 : dt239 83 ((4 * (dt 79 10)) + 3).toNat = dt194 79 11 := (hF241 83 (by decide) _).trans y237
                clear y234 y235 y236 y237
                clear h238_0 w221 h238_1 w222 h238_2 w223 h238_3 w225
                refine go_retq PM173 (k := 0) (r := some (.inl 0)) (w1 := (SH, dt239)) rfl ?_
                exact ⟨dt239, rfl, hI240, hF242, (Or.inl ⟨rfl, ⟨by first | exact True.intro | with_reducible assumption | exact unhid (by with_reducible assumption) | rfl | fail | trivial, by first | exact True.intro | with_reducible assumption | exact unhid (by with_reducible assumption) | rfl | fail | trivial, by first | exact True.intro | with_reducible assumption | exact unhid (by with_reducible assumption) | rfl | fail | trivial⟩⟩)⟩
              · skip
                obtain ⟨h238_0, h238_1, h238_2, h238_3, h238_4, h238_5, h238_6, h238_7, h238_8⟩ := h238
                have w253 : dt239 79 2 = dt 79 2 := h238_3.trans w221
                have w254 : dt239 79 9 = dt 79 9 := h238_4.trans w222
                have w255 : dt239 79 10 = dt 79 10 := h238_5.trans w223
                have w256 : dt239 79 11 = dt194 79 11 := h238_6.trans w224
                have w257 : dt239 79 12 = dt 79 12 := h238_7.trans w225
                have w258 : dt239 79 20 = 0 := h238_8.trans w230
                clear h193_2
                have BL259 : ∀ j : Nat, (j : Int) < 4 * dt 79 10 → dt239 83 j = dt 83 j := fun j hj => (hF241 83 (by decide) j).trans (BL232 j hj)
                have y260 : dt239 83 ((4 * (dt 79 10))).toNat = 8 := (hF241 83 (by decide) _).trans y234
                have y261 : dt239 83 ((4 * (dt 79 10)) + 1).toNat = dt27 79 11 := (hF241 83 (by decide) _).trans y235
                have y262 : dt239 83 ((4 * (dt 79 10)) + 2).toNat = dt84 79 11 := (hF241 83 (by decide) _).trans y236
                have y263 : dt239 83 ((4 * (dt 79 10)) + 3).toNat = dt194 79 11 := (hF241 83 (by decide) _).trans y237
                clear y234 y235 y236 y237
                clear h238_3 w221 h238_4 w222 h238_5 w223 h238_6 w224 h238_7 w225 h238_8 w230
                refine go_retq PM173 (k := 0) (r := some (.inl 1)) (w1 := (SH, dt239)) rfl ?_
                exact ⟨dt239, rfl, hI240, hF242, (Or.inr ⟨rfl, ⟨by first | exact True.intro | with_reducible assumption | exact unhid (by with_reducible assumption) | rfl | (have z_ := unhid c7; omega) | trivial, by exact BL259, by exact ⟨by omega, PS_fin h83_4 (by first | exact AGR_e (by assumption) | exact AGR_e rfl | exact AGR_4 (by assumption) h193_5 (by first | assumption | rfl) (by omega)) (by omega) (by omega), fun _ => by first | (have z_ := unhid c7; omega) | exact PS_fin h193_4 (by first | exact AGR_e (by assumption) | exact AGR_e rfl) (by fail) (by fail)⟩, by first | exact AGR_4 (by assumption) h83_5 (by first | assumption | rfl) (by fail) | exact AGR_5 (by assumption) h193_5 (by first | assumption | rfl) h83_5 (by first | assumption | rfl) (by omega) (by omega), by first | exact True.intro | with_reducible assumption | exact unhid (by with_reducible assumption) | rfl | omega | trivial, by first | exact True.intro | with_reducible assumption | exact unhid (by with_reducible assumption) | rfl | omega | trivial, by first | exact True.intro | with_reducible assumption | exact unhid (by with_reducible assumption) | rfl | omega | trivial, by first | exact True.intro | with_reducible assumption | exact unhid (by with_reducible assumption) | rfl | fail | trivial, by exact (InvC_get (by assumption) 79 15 rfl rfl).2, by first | exact True.intro | with_reducible assumption | exact unhid (by with_reducible assumption) | rfl | fail | trivial, by first | exact True.intro | with_reducible assumption | exact unhid (by with_reducible assumption) | rfl | fail | trivial, by first | exact True.intro | with_reducible assumption | exact unhid (by with_reducible assumption) | rfl | fail | trivial, by first | exact True.intro | with_reducible assumption | exact unhid (by with_reducible assumption) | rfl | fail | trivial⟩⟩)⟩
      · skip
        refine go_toq PM173 (k := 5) (pc' := 56) (L' := [some (.inr (.inr (some 79))), some (.inl 1)]) (st' := [.inl 0, .inr (.inr (some 79))]) (w' := (SH, dt)) rfl ?_
        have hI264 : InvC (u2 dt 79 20 0) := InvC_u2 hI (lo := 0) (hi := 8) rfl rfl rfl (by decide) (by decide)
        have hF265 : Fr [79, 83, 84] dt (u2 dt 79 20 0) := Fr_u2 hF (by decide)
        have w266 : (u2 dt 79 20 0) 79 2 = dt 79 2 := rfl
        have w267 : (u2 dt 79 20 0) 79 9 = dt 79 9 := rfl
        have w268 : (u2 dt 79 20 0) 79 10 = dt 79 10 := rfl
        have w269 : (u2 dt 79 20 0) 79 11 = dt 79 11 := rfl
        have w270 : (u2 dt 79 20 0) 79 12 = dt 79 12 := rfl
        have w271 : (u2 dt 79 20 0) 79 13 = dt 79 13 := rfl
        have w272 : (u2 dt 79 20 0) 79 14 = dt 79 14 := rfl
        have w273 : (u2 dt 79 20 0) 79 15 = dt 79 15 := rfl
        have w274 : (u2 dt 79 20 0) 79 16 = dt 79 16 := rfl
        have w275 : (u2 dt 79 20 0) 79 20 = 0 := rfl
        have E84276 : (u2 dt 79 20 0) 84 = dt 84 := funext fun _ => rfl
        have BL277 : ∀ j : Nat, (j : Int) < 4 * dt 79 10 → (u2 dt 79 20 0) 83 j = dt 83 j := (fun _ _ => rfl)
        have y278 : (u2 dt 79 20 0) 83 ((4 * (dt 79 10))).toNat = dt 83 ((4 * (dt 79 10))).toNat := rfl
        have y279 : (u2 dt 79 20 0) 83 ((4 * (dt 79 10)) + 1).toNat = dt 83 ((4 * (dt 79 10)) + 1).toNat := rfl
        have y280 : (u2 dt 79 20 0) 83 ((4 * (dt 79 10)) + 2).toNat = dt 83 ((4 * (dt 79 10)) + 2).toNat := rfl
        have y281 : (u2 dt 79 20 0) 83 ((4 * (dt 79 10)) + 3).toNat = dt 83 ((4 * (dt 79 10)) + 3).toNat := rfl
        refine go_smpq PM173 (L' := [some (.inr (.inr (some 79))), some (.inl 1)]) (st' := []) (w' := (SH, (u2 dt 79 20 0))) rfl rfl (s_pf rfl rfl rfl rfl ⟨by decide, by decide⟩) ?_
        refine go_toq PM173 (k := 1) (pc' := 60) (L' := [some (.inr (.inr (some 79))), some (.inl 1)]) (st' := [.inr (.inr (some 79))]) (w' := (SH, (u2 dt 79 20 0))) rfl ?_
        refine go_callq PM173 PM159 (Q' := _) rfl rfl rfl rfl (sp_X6_next0 L xs sio (d + 30) (u2 dt 79 20 0) hI264   (by first | exact True.intro | with_reducible assumption | exact unhid (by with_reducible assumption) | rfl | omega | trivial)) ?_
        rintro _ _ ⟨dt283, rfl, hI284, hF285, h282⟩
        refine ⟨rfl, ?_⟩
        have hF286 : Fr [79, 83, 84] dt dt283 := Fr_tr hF265 hF285 (by decide)
        have E84287 : dt283 84 = dt 84 := (funext (hF285 84 (by decide))).trans E84276
        rcases h282 with ⟨rfl, h282⟩
        obtain ⟨h282_0, h282_1, h282_2, h282_3, h282_4, h282_5, h282_6, h282_7, h282_8⟩ := h282
        have w288 : dt283 79 2 = dt 79 2 := h282_3.trans w266
        have w289 : dt283 79 9 = dt 79 9 := h282_4.trans w267
        have w290 : dt283 79 10 = dt 79 10 := h282_5.trans w268
        have w291 : dt283 79 11 = dt 79 11 := h282_6.trans w269
        have w292 : dt283 79 12 = dt 79 12 := h282_7.trans w270
        have w293 : dt283 79 20 = 0 := h282_8.trans w275
        have hadv0 : dt 79 15 + 1 ≤ dt 79 13 := by omega
        clear h_p0
        have BL294 : ∀ j : Nat, (j : Int) < 4 * dt 79 10 → dt283 83 j = dt 83 j := fun j hj => (hF285 83 (by decide) j).trans (BL277 j hj)
        have y295 : dt283 83 ((4 * (dt 79 10))).toNat = dt 83 ((4 * (dt 79 10))).toNat := (hF285 83 (by decide) _).trans y278
        have y296 : dt283 83 ((4 * (dt 79 10)) + 1).toNat = dt 83 ((4 * (dt 79 10)) + 1).toNat := (hF285 83 (by decide) _).trans y279
        have y297 : dt283 83 ((4 * (dt 79 10)) + 2).toNat = dt 83 ((4 * (dt 79 10)) + 2).toNat := (hF285 83 (by decide) _).trans y280
        have y298 : dt283 83 ((4 * (dt 79 10)) + 3).toNat = dt 83 ((4 * (dt 79 10)) + 3).toNat := (hF285 83 (by decide) _).trans y281
        clear y278 y279 y280 y281
        clear h282_3 w266 h282_4 w267 h282_5 w268 h282_6 w269 h282_7 w270 h282_8 w275
        have r299 : 0 ≤ dt283 79 10 ∧ dt283 79 10 ≤ 24 := InvC_get hI284 79 10 rfl rfl
        have r300 : 0 ≤ dt283 79 16 ∧ dt283 79 16 ≤ 9999 := InvC_get hI284 79 16 rfl rfl
        refine go_toq PM173 (k := 11) (pc' := 86) (L' := [some (.inr (.inr (some 79))), some (.inl 1)]) (st' := [.inl (dt283 79 16), .inl (4 * (dt283 79 10)), .inr (.inr (some 83))]) (w' := (SH, dt283)) rfl ?_
        have hI301 : InvC (u2 dt283 83 ((4 * (dt283 79 10)).toNat) (dt283 79 16)) := InvC_u2 hI284 (lo := -2147483648) (hi := 2147483647) rfl rfl rfl (by first | exact bnd1 r300 (by decide) | fail) (by first | exact bnd2 r300 (by decide) | fail)
        have hF302 : Fr [79, 83, 84] dt (u2 dt283 83 ((4 * (dt283 79 10)).toNat) (dt283 79 16)) := Fr_u2 hF286 (by decide)
        have w303 : (u2 dt283 83 ((4 * (dt283 79 10)).toNat) (dt283 79 16)) 79 2 = dt 79 2 := w288
        have w304 : (u2 dt283 83 ((4 * (dt283 79 10)).toNat) (dt283 79 16)) 79 9 = dt 79 9 := w289
        have w305 : (u2 dt283 83 ((4 * (dt283 79 10)).toNat) (dt283 79 16)) 79 10 = dt 79 10 := w290
        have w306 : (u2 dt283 83 ((4 * (dt283 79 10)).toNat) (dt283 79 16)) 79 11 = dt 79 11 := w291
        have w307 : (u2 dt283 83 ((4 * (dt283 79 10)).toNat) (dt283 79 16)) 79 12 = dt 79 12 := w292
        have w308 : (u2 dt283 83 ((4 * (dt283 79 10)).toNat) (dt283 79 16)) 79 13 = dt283 79 13 := rfl
        have w309 : (u2 dt283 83 ((4 * (dt283 79 10)).toNat) (dt283 79 16)) 79 14 = dt283 79 14 := rfl
        have w310 : (u2 dt283 83 ((4 * (dt283 79 10)).toNat) (dt283 79 16)) 79 15 = dt283 79 15 := rfl
        have w311 : (u2 dt283 83 ((4 * (dt283 79 10)).toNat) (dt283 79 16)) 79 16 = dt283 79 16 := rfl
        have w312 : (u2 dt283 83 ((4 * (dt283 79 10)).toNat) (dt283 79 16)) 79 20 = 0 := w293
        have E84313 : (u2 dt283 83 ((4 * (dt283 79 10)).toNat) (dt283 79 16)) 84 = dt 84 := (funext fun _ => rfl).trans E84287
        have ex315 : ((4 * (dt 79 10))).toNat = (4 * (dt283 79 10)).toNat := by rw [show dt283 79 10 = dt 79 10 from w305]
        have BL314 : ∀ j : Nat, (j : Int) < 4 * dt 79 10 → (u2 dt283 83 ((4 * (dt283 79 10)).toNat) (dt283 79 16)) 83 j = dt 83 j := fun j hj => (u2_ne (fun z_ => xb0 hj (z_.2.trans ex315.symm))).trans (BL294 j hj)
        have y316 : (u2 dt283 83 ((4 * (dt283 79 10)).toNat) (dt283 79 16)) 83 ((4 * (dt 79 10))).toNat = dt283 79 16 := by rw [ex315]; exact u2_eq
        have y317 : (u2 dt283 83 ((4 * (dt283 79 10)).toNat) (dt283 79 16)) 83 ((4 * (dt 79 10)) + 1).toNat = dt 83 ((4 * (dt 79 10)) + 1).toNat := (u2_ne (fun z_ => (fun y_ => xr0 hA0 (by decide) y_.symm) (z_.2.trans ex315.symm))).trans y296
        have y318 : (u2 dt283 83 ((4 * (dt283 79 10)).toNat) (dt283 79 16)) 83 ((4 * (dt 79 10)) + 2).toNat = dt 83 ((4 * (dt 79 10)) + 2).toNat := (u2_ne (fun z_ => (fun y_ => xr0 hA0 (by decide) y_.symm) (z_.2.trans ex315.symm))).trans y297
        have y319 : (u2 dt283 83 ((4 * (dt283 79 10)).toNat) (dt283 79 16)) 83 ((4 * (dt 79 10)) + 3).toNat = dt 83 ((4 * (dt 79 10)) + 3).toNat := (u2_ne (fun z_ => (fun y_ => xr0 hA0 (by decide) y_.symm) (z_.2.trans ex315.symm))).trans y298
        clear y295 y296 y297 y298
        refine go_smpq PM173 (L' := [some (.inr (.inr (some 79))), some (.inl 1)]) (st' := []) (w' := (SH, (u2 dt283 83 ((4 * (dt283 79 10)).toNat) (dt283 79 16)))) rfl rfl (s_iast (n := 64) rfl ⟨by omega, by (have z_ := unhid c6; omega)⟩ (by first | exact bnd r300 (by decide) (by decide) | exact ⟨by fail, by fail⟩)) ?_
        refine go_toq PM173 (k := 5) (pc' := 95) (L' := [some (.inr (.inr (some 79))), some (.inl 1)]) (st' := [.inl 7, .inl 0, .inr (.inr (some 79))]) (w' := (SH, (u2 dt283 83 ((4 * (dt283 79 10)).toNat) (dt283 79 16)))) rfl ?_
        refine go_callq PM173 PM162 (Q' := _) rfl rfl rfl rfl (sp_X6_number L xs sio (d + 29) (u2 dt283 83 ((4 * (dt283 79 10)).toNat) (dt283 79 16)) hI301  0 ⟨by decide, by decide⟩ 7 ⟨by decide, by decide⟩ (by first | exact True.intro | with_reducible assumption | exact unhid (by with_reducible assumption) | rfl | omega | trivial)) ?_
        rintro _ _ ⟨dt321, rfl, hI322, hF323, h320⟩
        refine ⟨rfl, ?_⟩
        have hF324 : Fr [79, 83, 84] dt dt321 := Fr_tr hF302 hF323 (by decide)
        have E84325 : dt321 84 = dt 84 := (funext (hF323 84 (by decide))).trans E84313
        rcases h320 with ⟨rfl, h320⟩ | ⟨rfl, h320⟩
        · skip
          obtain ⟨h320_0, h320_1, h320_2, h320_3⟩ := h320
          have w326 : dt321 79 2 = dt 79 2 := h320_0.trans w303
          have w327 : dt321 79 9 = dt 79 9 := h320_1.trans w304
          have w328 : dt321 79 10 = dt 79 10 := h320_2.trans w305
          have w329 : dt321 79 12 = dt 79 12 := h320_3.trans w307
          have BL330 : ∀ j : Nat, (j : Int) < 4 * dt 79 10 → dt321 83 j = dt 83 j := fun j hj => (hF323 83 (by decide) j).trans (BL314 j hj)
          have y331 : dt321 83 ((4 * (dt 79 10))).toNat = dt283 79 16 := (hF323 83 (by decide) _).trans y316
          have y332 : dt321 83 ((4 * (dt 79 10)) + 1).toNat = dt 83 ((4 * (dt 79 10)) + 1).toNat := (hF323 83 (by decide) _).trans y317
          have y333 : dt321 83 ((4 * (dt 79 10)) + 2).toNat = dt 83 ((4 * (dt 79 10)) + 2).toNat := (hF323 83 (by decide) _).trans y318
          have y334 : dt321 83 ((4 * (dt 79 10)) + 3).toNat = dt 83 ((4 * (dt 79 10)) + 3).toNat := (hF323 83 (by decide) _).trans y319
          clear y316 y317 y318 y319
          clear h320_0 w303 h320_1 w304 h320_2 w305 h320_3 w307
          refine go_retq PM173 (k := 2) (r := some (.inl 0)) (w1 := (SH, dt321)) rfl ?_
          exact ⟨dt321, rfl, hI322, hF324, (Or.inl ⟨rfl, ⟨by first | exact True.intro | with_reducible assumption | exact unhid (by with_reducible assumption) | rfl | fail | trivial, by first | exact True.intro | with_reducible assumption | exact unhid (by with_reducible assumption) | rfl | fail | trivial, by first | exact True.intro | with_reducible assumption | exact unhid (by with_reducible assumption) | rfl | fail | trivial⟩⟩)⟩
        · skip
          obtain ⟨h320_0, h320_1, h320_2, h320_3, h320_4, h320_5, h320_6, h320_7, h320_8, h320_9, h320_10⟩ := h320
          have w335 : dt321 79 2 = dt 79 2 := h320_5.trans w303
          have w336 : dt321 79 9 = dt 79 9 := h320_6.trans w304
          have w337 : dt321 79 10 = dt 79 10 := h320_7.trans w305
          have w338 : dt321 79 11 = dt 79 11 := h320_8.trans w306
          have w339 : dt321 79 12 = dt 79 12 := h320_9.trans w307
          have w340 : dt321 79 20 = 0 := h320_10.trans w312
          clear h282_1
          have BL341 : ∀ j : Nat, (j : Int) < 4 * dt 79 10 → dt321 83 j = dt 83 j := fun j hj => (hF323 83 (by decide) j).trans (BL314 j hj)
          have y342 : dt321 83 ((4 * (dt 79 10))).toNat = dt283 79 16 := (hF323 83 (by decide) _).trans y316
          have y343 : dt321 83 ((4 * (dt 79 10)) + 1).toNat = dt 83 ((4 * (dt 79 10)) + 1).toNat := (hF323 83 (by decide) _).trans y317
          have y344 : dt321 83 ((4 * (dt 79 10)) + 2).toNat = dt 83 ((4 * (dt 79 10)) + 2).toNat := (hF323 83 (by decide) _).trans y318
          have y345 : dt321 83 ((4 * (dt 79 10)) + 3).toNat = dt 83 ((4 * (dt 79 10)) + 3).toNat := (hF323 83 (by decide) _).trans y319
          clear y316 y317 y318 y319
          clear h320_5 w303 h320_6 w304 h320_7 w305 h320_8 w306 h320_9 w307 h320_10 w312
          have r346 : 0 ≤ dt321 79 10 ∧ dt321 79 10 ≤ 24 := InvC_get hI322 79 10 rfl rfl
          have r347 : 0 ≤ dt321 79 11 ∧ dt321 79 11 ≤ 510 := InvC_get hI322 79 11 rfl rfl
          refine go_toq PM173 (k := 11) (pc' := 119) (L' := [some (.inr (.inr (some 79))), some (.inl 1)]) (st' := [.inl (dt321 79 11), .inl ((4 * (dt321 79 10)) + 1), .inr (.inr (some 83))]) (w' := (SH, dt321)) rfl ?_
          have hI348 : InvC (u2 dt321 83 (((4 * (dt321 79 10)) + 1).toNat) (dt321 79 11)) := InvC_u2 hI322 (lo := -2147483648) (hi := 2147483647) rfl rfl rfl (by first | exact bnd1 r347 (by decide) | fail) (by first | exact bnd2 r347 (by decide) | fail)
          have hF349 : Fr [79, 83, 84] dt (u2 dt321 83 (((4 * (dt321 79 10)) + 1).toNat) (dt321 79 11)) := Fr_u2 hF324 (by decide)
          have w350 : (u2 dt321 83 (((4 * (dt321 79 10)) + 1).toNat) (dt321 79 11)) 79 2 = dt 79 2 := w335
          have w351 : (u2 dt321 83 (((4 * (dt321 79 10)) + 1).toNat) (dt321 79 11)) 79 9 = dt 79 9 := w336
          have w352 : (u2 dt321 83 (((4 * (dt321 79 10)) + 1).toNat) (dt321 79 11)) 79 10 = dt 79 10 := w337
          have w353 : (u2 dt321 83 (((4 * (dt321 79 10)) + 1).toNat) (dt321 79 11)) 79 11 = dt 79 11 := w338
          have w354 : (u2 dt321 83 (((4 * (dt321 79 10)) + 1).toNat) (dt321 79 11)) 79 12 = dt 79 12 := w339
          have w355 : (u2 dt321 83 (((4 * (dt321 79 10)) + 1).toNat) (dt321 79 11)) 79 13 = dt321 79 13 := rfl
          have w356 : (u2 dt321 83 (((4 * (dt321 79 10)) + 1).toNat) (dt321 79 11)) 79 14 = dt321 79 14 := rfl
          have w357 : (u2 dt321 83 (((4 * (dt321 79 10)) + 1).toNat) (dt321 79 11)) 79 15 = dt321 79 15 := rfl
          have w358 : (u2 dt321 83 (((4 * (dt321 79 10)) + 1).toNat) (dt321 79 11)) 79 16 = dt321 79 16 := rfl
          have w359 : (u2 dt321 83 (((4 * (dt321 79 10)) + 1).toNat) (dt321 79 11)) 79 20 = 0 := w340
          have E84360 : (u2 dt321 83 (((4 * (dt321 79 10)) + 1).toNat) (dt321 79 11)) 84 = dt 84 := (funext fun _ => rfl).trans E84325
          have ex362 : ((4 * (dt 79 10)) + 1).toNat = ((4 * (dt321 79 10)) + 1).toNat := by rw [show dt321 79 10 = dt 79 10 from w352]
          have BL361 : ∀ j : Nat, (j : Int) < 4 * dt 79 10 → (u2 dt321 83 (((4 * (dt321 79 10)) + 1).toNat) (dt321 79 11)) 83 j = dt 83 j := fun j hj => (u2_ne (fun z_ => xb hj (show (0 : Int) ≤ 1 by decide) (z_.2.trans ex362.symm))).trans (BL341 j hj)
          have y363 : (u2 dt321 83 (((4 * (dt321 79 10)) + 1).toNat) (dt321 79 11)) 83 ((4 * (dt 79 10))).toNat = dt283 79 16 := (u2_ne (fun z_ => (xr0 hA0 (by decide)) (z_.2.trans ex362.symm))).trans y342
          have y364 : (u2 dt321 83 (((4 * (dt321 79 10)) + 1).toNat) (dt321 79 11)) 83 ((4 * (dt 79 10)) + 1).toNat = dt321 79 11 := by rw [ex362]; exact u2_eq
          have y365 : (u2 dt321 83 (((4 * (dt321 79 10)) + 1).toNat) (dt321 79 11)) 83 ((4 * (dt 79 10)) + 2).toNat = dt 83 ((4 * (dt 79 10)) + 2).toNat := (u2_ne (fun z_ => (xr hA0 (by decide) (by decide) (by decide)) (z_.2.trans ex362.symm))).trans y344
          have y366 : (u2 dt321 83 (((4 * (dt321 79 10)) + 1).toNat) (dt321 79 11)) 83 ((4 * (dt 79 10)) + 3).toNat = dt 83 ((4 * (dt 79 10)) + 3).toNat := (u2_ne (fun z_ => (xr hA0 (by decide) (by decide) (by decide)) (z_.2.trans ex362.symm))).trans y345
          clear y342 y343 y344 y345
          refine go_smpq PM173 (L' := [some (.inr (.inr (some 79))), some (.inl 1)]) (st' := []) (w' := (SH, (u2 dt321 83 (((4 * (dt321 79 10)) + 1).toNat) (dt321 79 11)))) rfl rfl (s_iast (n := 64) rfl ⟨by omega, by (have z_ := unhid c6; omega)⟩ (by first | exact bnd r347 (by decide) (by decide) | exact ⟨by fail, by fail⟩)) ?_
          refine go_toq PM173 (k := 1) (pc' := 121) (L' := [some (.inr (.inr (some 79))), some (.inl 1)]) (st' := [.inr (.inr (some 79))]) (w' := (SH, (u2 dt321 83 (((4 * (dt321 79 10)) + 1).toNat) (dt321 79 11)))) rfl ?_
          refine go_callq PM173 PM165 (Q' := _) rfl rfl rfl rfl (sp_X6_sumUp L xs sio (d + 27) (u2 dt321 83 (((4 * (dt321 79 10)) + 1).toNat) (dt321 79 11)) hI348   (by first | exact True.intro | with_reducible assumption | exact unhid (by with_reducible assumption) | rfl | omega | trivial) (by first | exact True.intro | with_reducible assumption | exact unhid (by with_reducible assumption) | rfl | omega | trivial)) ?_
          rintro _ _ ⟨dt368, rfl, hI369, hF370, h367⟩
          refine ⟨rfl, ?_⟩
          have hF371 : Fr [79, 83, 84] dt dt368 := Fr_tr hF349 hF370 (by decide)
          rcases h367 with ⟨rfl, h367⟩ | ⟨rfl, h367⟩
          · skip
            obtain ⟨h367_0, h367_1, h367_2, h367_3⟩ := h367
            have w372 : dt368 79 2 = dt 79 2 := h367_0.trans w350
            have w373 : dt368 79 9 = dt 79 9 := h367_1.trans w351
            have w374 : dt368 79 10 = dt 79 10 := h367_2.trans w352
            have w375 : dt368 79 12 = dt 79 12 := h367_3.trans w354
            have BL376 : ∀ j : Nat, (j : Int) < 4 * dt 79 10 → dt368 83 j = dt 83 j := fun j hj => (hF370 83 (by decide) j).trans (BL361 j hj)
            have y377 : dt368 83 ((4 * (dt 79 10))).toNat = dt283 79 16 := (hF370 83 (by decide) _).trans y363
            have y378 : dt368 83 ((4 * (dt 79 10)) + 1).toNat = dt321 79 11 := (hF370 83 (by decide) _).trans y364
            have y379 : dt368 83 ((4 * (dt 79 10)) + 2).toNat = dt 83 ((4 * (dt 79 10)) + 2).toNat := (hF370 83 (by decide) _).trans y365
            have y380 : dt368 83 ((4 * (dt 79 10)) + 3).toNat = dt 83 ((4 * (dt 79 10)) + 3).toNat := (hF370 83 (by decide) _).trans y366
            clear y363 y364 y365 y366
            clear h367_0 w350 h367_1 w351 h367_2 w352 h367_3 w354
            refine go_retq PM173 (k := 2) (r := some (.inl 0)) (w1 := (SH, dt368)) rfl ?_
            exact ⟨dt368, rfl, hI369, hF371, (Or.inl ⟨rfl, ⟨by first | exact True.intro | with_reducible assumption | exact unhid (by with_reducible assumption) | rfl | fail | trivial, by first | exact True.intro | with_reducible assumption | exact unhid (by with_reducible assumption) | rfl | fail | trivial, by first | exact True.intro | with_reducible assumption | exact unhid (by with_reducible assumption) | rfl | fail | trivial⟩⟩)⟩
          · skip
            obtain ⟨h367_0, h367_1, h367_2, h367_3, h367_4, h367_5, h367_6, h367_7, h367_8, h367_9, h367_10⟩ := h367
            have w381 : dt368 79 2 = dt 79 2 := h367_6.trans w350
            have w382 : dt368 79 9 = dt 79 9 := h367_7.trans w351
            have w383 : dt368 79 10 = dt 79 10 := h367_8.trans w352
            have w384 : dt368 79 12 = dt 79 12 := h367_9.trans w354
            have w385 : dt368 79 20 = 0 := h367_10.trans w359
            clear h320_3
            have BL386 : ∀ j : Nat, (j : Int) < 4 * dt 79 10 → dt368 83 j = dt 83 j := fun j hj => (hF370 83 (by decide) j).trans (BL361 j hj)
            have y387 : dt368 83 ((4 * (dt 79 10))).toNat = dt283 79 16 := (hF370 83 (by decide) _).trans y363
            have y388 : dt368 83 ((4 * (dt 79 10)) + 1).toNat = dt321 79 11 := (hF370 83 (by decide) _).trans y364
            have y389 : dt368 83 ((4 * (dt 79 10)) + 2).toNat = dt 83 ((4 * (dt 79 10)) + 2).toNat := (hF370 83 (by decide) _).trans y365
            have y390 : dt368 83 ((4 * (dt 79 10)) + 3).toNat = dt 83 ((4 * (dt 79 10)) + 3).toNat := (hF370 83 (by decide) _).trans y366
            clear y363 y364 y365 y366
            clear h367_6 w350 h367_7 w351 h367_8 w352 h367_9 w354 h367_10 w359
            have r391 : 0 ≤ dt368 79 10 ∧ dt368 79 10 ≤ 24 := InvC_get hI369 79 10 rfl rfl
            have r392 : 0 ≤ dt368 79 11 ∧ dt368 79 11 ≤ 510 := InvC_get hI369 79 11 rfl rfl
            refine go_toq PM173 (k := 11) (pc' := 145) (L' := [some (.inr (.inr (some 79))), some (.inl 1)]) (st' := [.inl (dt368 79 11), .inl ((4 * (dt368 79 10)) + 2), .inr (.inr (some 83))]) (w' := (SH, dt368)) rfl ?_
            have hI393 : InvC (u2 dt368 83 (((4 * (dt368 79 10)) + 2).toNat) (dt368 79 11)) := InvC_u2 hI369 (lo := -2147483648) (hi := 2147483647) rfl rfl rfl (by first | exact bnd1 r392 (by decide) | fail) (by first | exact bnd2 r392 (by decide) | fail)
            have hF394 : Fr [79, 83, 84] dt (u2 dt368 83 (((4 * (dt368 79 10)) + 2).toNat) (dt368 79 11)) := Fr_u2 hF371 (by decide)
            have w395 : (u2 dt368 83 (((4 * (dt368 79 10)) + 2).toNat) (dt368 79 11)) 79 2 = dt 79 2 := w381
            have w396 : (u2 dt368 83 (((4 * (dt368 79 10)) + 2).toNat) (dt368 79 11)) 79 9 = dt 79 9 := w382
            have w397 : (u2 dt368 83 (((4 * (dt368 79 10)) + 2).toNat) (dt368 79 11)) 79 10 = dt 79 10 := w383
            have w398 : (u2 dt368 83 (((4 * (dt368 79 10)) + 2).toNat) (dt368 79 11)) 79 11 = dt368 79 11 := rfl
            have w399 : (u2 dt368 83 (((4 * (dt368 79 10)) + 2).toNat) (dt368 79 11)) 79 12 = dt 79 12 := w384
            have w400 : (u2 dt368 83 (((4 * (dt368 79 10)) + 2).toNat) (dt368 79 11)) 79 13 = dt368 79 13 := rfl
            have w401 : (u2 dt368 83 (((4 * (dt368 79 10)) + 2).toNat) (dt368 79 11)) 79 14 = dt368 79 14 := rfl
            have w402 : (u2 dt368 83 (((4 * (dt368 79 10)) + 2).toNat) (dt368 79 11)) 79 15 = dt368 79 15 := rfl
            have w403 : (u2 dt368 83 (((4 * (dt368 79 10)) + 2).toNat) (dt368 79 11)) 79 16 = dt368 79 16 := rfl
            have w404 : (u2 dt368 83 (((4 * (dt368 79 10)) + 2).toNat) (dt368 79 11)) 79 20 = 0 := w385
            have E84405 : (u2 dt368 83 (((4 * (dt368 79 10)) + 2).toNat) (dt368 79 11)) 84 = dt368 84 := funext fun _ => rfl
            have ex407 : ((4 * (dt 79 10)) + 2).toNat = ((4 * (dt368 79 10)) + 2).toNat := by rw [show dt368 79 10 = dt 79 10 from w397]
            have BL406 : ∀ j : Nat, (j : Int) < 4 * dt 79 10 → (u2 dt368 83 (((4 * (dt368 79 10)) + 2).toNat) (dt368 79 11)) 83 j = dt 83 j := fun j hj => (u2_ne (fun z_ => xb hj (show (0 : Int) ≤ 2 by decide) (z_.2.trans ex407.symm))).trans (BL386 j hj)
            have y408 : (u2 dt368 83 (((4 * (dt368 79 10)) + 2).toNat) (dt368 79 11)) 83 ((4 * (dt 79 10))).toNat = dt283 79 16 := (u2_ne (fun z_ => (xr0 hA0 (by decide)) (z_.2.trans ex407.symm))).trans y387
            have y409 : (u2 dt368 83 (((4 * (dt368 79 10)) + 2).toNat) (dt368 79 11)) 83 ((4 * (dt 79 10)) + 1).toNat = dt321 79 11 := (u2_ne (fun z_ => (xr hA0 (by decide) (by decide) (by decide)) (z_.2.trans ex407.symm))).trans y388
            have y410 : (u2 dt368 83 (((4 * (dt368 79 10)) + 2).toNat) (dt368 79 11)) 83 ((4 * (dt 79 10)) + 2).toNat = dt368 79 11 := by rw [ex407]; exact u2_eq
            have y411 : (u2 dt368 83 (((4 * (dt368 79 10)) + 2).toNat) (dt368 79 11)) 83 ((4 * (dt 79 10)) + 3).toNat = dt 83 ((4 * (dt 79 10)) + 3).toNat := (u2_ne (fun z_ => (xr hA0 (by decide) (by decide) (by decide)) (z_.2.trans ex407.symm))).trans y390
            clear y387 y388 y389 y390
            refine go_smpq PM173 (L' := [some (.inr (.inr (some 79))), some (.inl 1)]) (st' := []) (w' := (SH, (u2 dt368 83 (((4 * (dt368 79 10)) + 2).toNat) (dt368 79 11)))) rfl rfl (s_iast (n := 64) rfl ⟨by omega, by (have z_ := unhid c6; omega)⟩ (by first | exact bnd r392 (by decide) (by decide) | exact ⟨by fail, by fail⟩)) ?_
            have r412 : (-2147483648) ≤ dt368 79 14 ∧ dt368 79 14 ≤ 2147483647 := InvC_get hI369 79 14 rfl rfl
            refine go_ifq PM173 (k := 3) (p1 := 167) (p2 := 154) (L' := [some (.inr (.inr (some 79))), some (.inl 1)]) (st' := []) (w' := (SH, (u2 dt368 83 (((4 * (dt368 79 10)) + 2).toNat) (dt368 79 11)))) rfl (c_ne (a := dt368 79 14) (b := 3) (by first | exact bnd r412 (by decide) (by decide) | exact ⟨by fail, by fail⟩) ⟨by decide, by decide⟩) (fun c413 => ?_) (fun c413 => ?_)
            · skip
              replace c413 := hid c413
              refine go_toq PM173 (k := 10) (pc' := 183) (L' := [some (.inr (.inr (some 79))), some (.inl 1)]) (st' := [.inl (dt368 79 11), .inl ((4 * (dt368 79 10)) + 3), .inr (.inr (some 83))]) (w' := (SH, (u2 dt368 83 (((4 * (dt368 79 10)) + 2).toNat) (dt368 79 11)))) rfl ?_
              have hI414 : InvC (u2 (u2 dt368 83 (((4 * (dt368 79 10)) + 2).toNat) (dt368 79 11)) 83 (((4 * (dt368 79 10)) + 3).toNat) (dt368 79 11)) := InvC_u2 hI393 (lo := -2147483648) (hi := 2147483647) rfl rfl rfl (by first | exact bnd1 r392 (by decide) | fail) (by first | exact bnd2 r392 (by decide) | fail)
              have hF415 : Fr [79, 83, 84] dt (u2 (u2 dt368 83 (((4 * (dt368 79 10)) + 2).toNat) (dt368 79 11)) 83 (((4 * (dt368 79 10)) + 3).toNat) (dt368 79 11)) := Fr_u2 hF394 (by decide)
              have w416 : (u2 (u2 dt368 83 (((4 * (dt368 79 10)) + 2).toNat) (dt368 79 11)) 83 (((4 * (dt368 79 10)) + 3).toNat) (dt368 79 11)) 79 2 = dt 79 2 := w395
              have w417 : (u2 (u2 dt368 83 (((4 * (dt368 79 10)) + 2).toNat) (dt368 79 11)) 83 (((4 * (dt368 79 10)) + 3).toNat) (dt368 79 11)) 79 9 = dt 79 9 := w396
              have w418 : (u2 (u2 dt368 83 (((4 * (dt368 79 10)) + 2).toNat) (dt368 79 11)) 83 (((4 * (dt368 79 10)) + 3).toNat) (dt368 79 11)) 79 10 = dt 79 10 := w397
              have w419 : (u2 (u2 dt368 83 (((4 * (dt368 79 10)) + 2).toNat) (dt368 79 11)) 83 (((4 * (dt368 79 10)) + 3).toNat) (dt368 79 11)) 79 11 = dt368 79 11 := w398
              have w420 : (u2 (u2 dt368 83 (((4 * (dt368 79 10)) + 2).toNat) (dt368 79 11)) 83 (((4 * (dt368 79 10)) + 3).toNat) (dt368 79 11)) 79 12 = dt 79 12 := w399
              have w421 : (u2 (u2 dt368 83 (((4 * (dt368 79 10)) + 2).toNat) (dt368 79 11)) 83 (((4 * (dt368 79 10)) + 3).toNat) (dt368 79 11)) 79 13 = dt368 79 13 := w400
              have w422 : (u2 (u2 dt368 83 (((4 * (dt368 79 10)) + 2).toNat) (dt368 79 11)) 83 (((4 * (dt368 79 10)) + 3).toNat) (dt368 79 11)) 79 14 = dt368 79 14 := w401
              have w423 : (u2 (u2 dt368 83 (((4 * (dt368 79 10)) + 2).toNat) (dt368 79 11)) 83 (((4 * (dt368 79 10)) + 3).toNat) (dt368 79 11)) 79 15 = dt368 79 15 := w402
              have w424 : (u2 (u2 dt368 83 (((4 * (dt368 79 10)) + 2).toNat) (dt368 79 11)) 83 (((4 * (dt368 79 10)) + 3).toNat) (dt368 79 11)) 79 16 = dt368 79 16 := w403
              have w425 : (u2 (u2 dt368 83 (((4 * (dt368 79 10)) + 2).toNat) (dt368 79 11)) 83 (((4 * (dt368 79 10)) + 3).toNat) (dt368 79 11)) 79 20 = 0 := w404
              clear w395 w396 w397 w398 w399 w400 w401 w402 w403 w404
              have E84426 : (u2 (u2 dt368 83 (((4 * (dt368 79 10)) + 2).toNat) (dt368 79 11)) 83 (((4 * (dt368 79 10)) + 3).toNat) (dt368 79 11)) 84 = dt368 84 := (funext fun _ => rfl).trans E84405
              have ex428 : ((4 * (dt 79 10)) + 3).toNat = ((4 * (dt368 79 10)) + 3).toNat := by rw [show dt368 79 10 = dt 79 10 from w418]
              have BL427 : ∀ j : Nat, (j : Int) < 4 * dt 79 10 → (u2 (u2 dt368 83 (((4 * (dt368 79 10)) + 2).toNat) (dt368 79 11)) 83 (((4 * (dt368 79 10)) + 3).toNat) (dt368 79 11)) 83 j = dt 83 j := fun j hj => (u2_ne (fun z_ => xb hj (show (0 : Int) ≤ 3 by decide) (z_.2.trans ex428.symm))).trans (BL406 j hj)
              have y429 : (u2 (u2 dt368 83 (((4 * (dt368 79 10)) + 2).toNat) (dt368 79 11)) 83 (((4 * (dt368 79 10)) + 3).toNat) (dt368 79 11)) 83 ((4 * (dt 79 10))).toNat = dt283 79 16 := (u2_ne (fun z_ => (xr0 hA0 (by decide)) (z_.2.trans ex428.symm))).trans y408
              have y430 : (u2 (u2 dt368 83 (((4 * (dt368 79 10)) + 2).toNat) (dt368 79 11)) 83 (((4 * (dt368 79 10)) + 3).toNat) (dt368 79 11)) 83 ((4 * (dt 79 10)) + 1).toNat = dt321 79 11 := (u2_ne (fun z_ => (xr hA0 (by decide) (by decide) (by decide)) (z_.2.trans ex428.symm))).trans y409
              have y431 : (u2 (u2 dt368 83 (((4 * (dt368 79 10)) + 2).toNat) (dt368 79 11)) 83 (((4 * (dt368 79 10)) + 3).toNat) (dt368 79 11)) 83 ((4 * (dt 79 10)) + 2).toNat = dt368 79 11 := (u2_ne (fun z_ => (xr hA0 (by decide) (by decide) (by decide)) (z_.2.trans ex428.symm))).trans y410
              have y432 : (u2 (u2 dt368 83 (((4 * (dt368 79 10)) + 2).toNat) (dt368 79 11)) 83 (((4 * (dt368 79 10)) + 3).toNat) (dt368 79 11)) 83 ((4 * (dt 79 10)) + 3).toNat = dt368 79 11 := by rw [ex428]; exact u2_eq
              clear y408 y409 y410 y411
              refine go_smpq PM173 (L' := [some (.inr (.inr (some 79))), some (.inl 1)]) (st' := []) (w' := (SH, (u2 (u2 dt368 83 (((4 * (dt368 79 10)) + 2).toNat) (dt368 79 11)) 83 (((4 * (dt368 79 10)) + 3).toNat) (dt368 79 11)))) rfl rfl (s_iast (n := 64) rfl ⟨by omega, by (have z_ := unhid c6; omega)⟩ (by first | exact bnd r392 (by decide) (by decide) | exact ⟨by fail, by fail⟩)) ?_
              refine go_toq PM173 (k := 2) (pc' := 188) (L' := [some (.inr (.inr (some 79))), some (.inl 1)]) (st' := [.inl 159, .inr (.inr (some 79))]) (w' := (SH, (u2 (u2 dt368 83 (((4 * (dt368 79 10)) + 2).toNat) (dt368 79 11)) 83 (((4 * (dt368 79 10)) + 3).toNat) (dt368 79 11)))) rfl ?_
              refine go_callq PM173 PM161 (Q' := _) rfl rfl rfl rfl (sp_X6_need0 L xs sio (d + 29) (u2 (u2 dt368 83 (((4 * (dt368 79 10)) + 2).toNat) (dt368 79 11)) 83 (((4 * (dt368 79 10)) + 3).toNat) (dt368 79 11)) hI414  159 ⟨by decide, by decide⟩ (by first | exact True.intro | with_reducible assumption | exact unhid (by with_reducible assumption) | rfl | omega | trivial)) ?_
              rintro _ _ ⟨dt434, rfl, hI435, hF436, h433⟩
              refine ⟨rfl, ?_⟩
              have hF437 : Fr [79, 83, 84] dt dt434 := Fr_tr hF415 hF436 (by decide)
              have E84438 : dt434 84 = dt368 84 := (funext (hF436 84 (by decide))).trans E84426
              rcases h433 with ⟨rfl, h433⟩ | ⟨rfl, h433⟩
              · skip
                obtain ⟨h433_0, h433_1, h433_2, h433_3⟩ := h433
                have w439 : dt434 79 2 = dt 79 2 := h433_0.trans w416
                have w440 : dt434 79 9 = dt 79 9 := h433_1.trans w417
                have w441 : dt434 79 10 = dt 79 10 := h433_2.trans w418
                have w442 : dt434 79 12 = dt 79 12 := h433_3.trans w420
                have BL443 : ∀ j : Nat, (j : Int) < 4 * dt 79 10 → dt434 83 j = dt 83 j := fun j hj => (hF436 83 (by decide) j).trans (BL427 j hj)
                have y444 : dt434 83 ((4 * (dt 79 10))).toNat = dt283 79 16 := (hF436 83 (by decide) _).trans y429
                have y445 : dt434 83 ((4 * (dt 79 10)) + 1).toNat = dt321 79 11 := (hF436 83 (by decide) _).trans y430
                have y446 : dt434 83 ((4 * (dt 79 10)) + 2).toNat = dt368 79 11 := (hF436 83 (by decide) _).trans y431
                have y447 : dt434 83 ((4 * (dt 79 10)) + 3).toNat = dt368 79 11 := (hF436 83 (by decide) _).trans y432
                clear y429 y430 y431 y432
                clear h433_0 w416 h433_1 w417 h433_2 w418 h433_3 w420
                refine go_retq PM173 (k := 0) (r := some (.inl 0)) (w1 := (SH, dt434)) rfl ?_
                exact ⟨dt434, rfl, hI435, hF437, (Or.inl ⟨rfl, ⟨by first | exact True.intro | with_reducible assumption | exact unhid (by with_reducible assumption) | rfl | fail | trivial, by first | exact True.intro | with_reducible assumption | exact unhid (by with_reducible assumption) | rfl | fail | trivial, by first | exact True.intro | with_reducible assumption | exact unhid (by with_reducible assumption) | rfl | fail | trivial⟩⟩)⟩
              · skip
                obtain ⟨h433_0, h433_1, h433_2, h433_3, h433_4, h433_5, h433_6, h433_7, h433_8⟩ := h433
                have w448 : dt434 79 2 = dt 79 2 := h433_3.trans w416
                have w449 : dt434 79 9 = dt 79 9 := h433_4.trans w417
                have w450 : dt434 79 10 = dt 79 10 := h433_5.trans w418
                have w451 : dt434 79 11 = dt368 79 11 := h433_6.trans w419
                have w452 : dt434 79 12 = dt 79 12 := h433_7.trans w420
                have w453 : dt434 79 20 = 0 := h433_8.trans w425
                clear h367_2
                have BL454 : ∀ j : Nat, (j : Int) < 4 * dt 79 10 → dt434 83 j = dt 83 j := fun j hj => (hF436 83 (by decide) j).trans (BL427 j hj)
                have y455 : dt434 83 ((4 * (dt 79 10))).toNat = dt283 79 16 := (hF436 83 (by decide) _).trans y429
                have y456 : dt434 83 ((4 * (dt 79 10)) + 1).toNat = dt321 79 11 := (hF436 83 (by decide) _).trans y430
                have y457 : dt434 83 ((4 * (dt 79 10)) + 2).toNat = dt368 79 11 := (hF436 83 (by decide) _).trans y431
                have y458 : dt434 83 ((4 * (dt 79 10)) + 3).toNat = dt368 79 11 := (hF436 83 (by decide) _).trans y432
                clear y429 y430 y431 y432
                clear h433_3 w416 h433_4 w417 h433_5 w418 h433_6 w419 h433_7 w420 h433_8 w425
                refine go_retq PM173 (k := 0) (r := some (.inl 1)) (w1 := (SH, dt434)) rfl ?_
                exact ⟨dt434, rfl, hI435, hF437, (Or.inr ⟨rfl, ⟨by first | exact True.intro | with_reducible assumption | exact unhid (by with_reducible assumption) | rfl | (have z_ := unhid c6; omega) | trivial, by exact BL454, by exact ⟨by omega, PS_fin h367_4 (by first | exact AGR_e (by assumption) | exact AGR_e rfl | exact AGR_4 (by assumption) hI (by first | assumption | rfl) (by fail)) (by omega) (by omega), fun _ => by first | omega | exact PS_fin hI (by first | exact AGR_e (by assumption) | exact AGR_e rfl) (by fail) (by fail)⟩, by first | exact AGR_4 (by assumption) h367_5 (by first | assumption | rfl) (by omega) | exact AGR_5 (by assumption) hI (by first | assumption | rfl) h367_5 (by first | assumption | rfl) (by fail) (by fail), by first | exact True.intro | with_reducible assumption | exact unhid (by with_reducible assumption) | rfl | omega | trivial, by first | exact True.intro | with_reducible assumption | exact unhid (by with_reducible assumption) | rfl | omega | trivial, by first | exact True.intro | with_reducible assumption | exact unhid (by with_reducible assumption) | rfl | omega | trivial, by first | exact True.intro | with_reducible assumption | exact unhid (by with_reducible assumption) | rfl | fail | trivial, by exact (InvC_get (by assumption) 79 15 rfl rfl).2, by first | exact True.intro | with_reducible assumption | exact unhid (by with_reducible assumption) | rfl | fail | trivial, by first | exact True.intro | with_reducible assumption | exact unhid (by with_reducible assumption) | rfl | fail | trivial, by first | exact True.intro | with_reducible assumption | exact unhid (by with_reducible assumption) | rfl | fail | trivial, by first | exact True.intro | with_reducible assumption | exact unhid (by with_reducible assumption) | rfl | fail | trivial⟩⟩)⟩
            · skip
              refine go_toq PM173 (k := 1) (pc' := 155) (L' := [some (.inr (.inr (some 79))), some (.inl 1)]) (st' := [.inr (.inr (some 79))]) (w' := (SH, (u2 dt368 83 (((4 * (dt368 79 10)) + 2).toNat) (dt368 79 11)))) rfl ?_
              refine go_callq PM173 PM159 (Q' := _) rfl rfl rfl rfl (sp_X6_next0 L xs sio (d + 30) (u2 dt368 83 (((4 * (dt368 79 10)) + 2).toNat) (dt368 79 11)) hI393   (by first | exact True.intro | with_reducible assumption | exact unhid (by with_reducible assumption) | rfl | omega | trivial)) ?_
              rintro _ _ ⟨dt460, rfl, hI461, hF462, h459⟩
              refine ⟨rfl, ?_⟩
              have hF463 : Fr [79, 83, 84] dt dt460 := Fr_tr hF394 hF462 (by decide)
              have E84464 : dt460 84 = dt368 84 := (funext (hF462 84 (by decide))).trans E84405
              rcases h459 with ⟨rfl, h459⟩
              obtain ⟨h459_0, h459_1, h459_2, h459_3, h459_4, h459_5, h459_6, h459_7, h459_8⟩ := h459
              have w465 : dt460 79 2 = dt 79 2 := h459_3.trans w395
              have w466 : dt460 79 9 = dt 79 9 := h459_4.trans w396
              have w467 : dt460 79 10 = dt 79 10 := h459_5.trans w397
              have w468 : dt460 79 11 = dt368 79 11 := h459_6.trans w398
              have w469 : dt460 79 12 = dt 79 12 := h459_7.trans w399
              have w470 : dt460 79 20 = 0 := h459_8.trans w404
              have adv471 : (u2 dt368 83 (((4 * (dt368 79 10)) + 2).toNat) (dt368 79 11)) 79 15 + 1 ≤ (u2 dt368 83 (((4 * (dt368 79 10)) + 2).toNat) (dt368 79 11)) 79 13 := by omega
              clear h367_2
              have BL472 : ∀ j : Nat, (j : Int) < 4 * dt 79 10 → dt460 83 j = dt 83 j := fun j hj => (hF462 83 (by decide) j).trans (BL406 j hj)
              have y473 : dt460 83 ((4 * (dt 79 10))).toNat = dt283 79 16 := (hF462 83 (by decide) _).trans y408
              have y474 : dt460 83 ((4 * (dt 79 10)) + 1).toNat = dt321 79 11 := (hF462 83 (by decide) _).trans y409
              have y475 : dt460 83 ((4 * (dt 79 10)) + 2).toNat = dt368 79 11 := (hF462 83 (by decide) _).trans y410
              have y476 : dt460 83 ((4 * (dt 79 10)) + 3).toNat = dt 83 ((4 * (dt 79 10)) + 3).toNat := (hF462 83 (by decide) _).trans y411
              clear y408 y409 y410 y411
              clear h459_3 w395 h459_4 w396 h459_5 w397 h459_6 w398 h459_7 w399 h459_8 w404
              refine go_toq PM173 (k := 1) (pc' := 159) (L' := [some (.inr (.inr (some 79))), some (.inl 1)]) (st' := [.inr (.inr (some 79))]) (w' := (SH, dt460)) rfl ?_
              refine go_callq PM173 PM168 (Q' := _) rfl rfl rfl rfl (sp_X6_any_0 L xs sio (d + 0) dt460 hI461   (by first | exact True.intro | with_reducible assumption | exact unhid (by with_reducible assumption) | rfl | fail | trivial) (by first | exact True.intro | with_reducible assumption | exact unhid (by with_reducible assumption) | rfl | omega | trivial) (by first | exact True.intro | with_reducible assumption | exact unhid (by with_reducible assumption) | rfl | fail | trivial)) ?_
              rintro _ _ ⟨dt478, rfl, hI479, hF480, h477⟩
              refine ⟨rfl, ?_⟩
              have hF481 : Fr [79, 83, 84] dt dt478 := Fr_tr hF463 hF480 (by decide)
              rcases h477 with ⟨rfl, h477⟩ | ⟨rfl, h477⟩
              · skip
                obtain ⟨h477_0, h477_1, h477_2, h477_3⟩ := h477
                have w482 : dt478 79 2 = dt 79 2 := h477_0.trans w465
                have w483 : dt478 79 9 = dt 79 9 := h477_1.trans w466
                have w484 : dt478 79 10 = dt 79 10 := h477_2.trans w467
                have w485 : dt478 79 12 = dt 79 12 := h477_3.trans w469
                have BL486 : ∀ j : Nat, (j : Int) < 4 * dt 79 10 → dt478 83 j = dt 83 j := fun j hj => (hF480 83 (by decide) j).trans (BL472 j hj)
                have y487 : dt478 83 ((4 * (dt 79 10))).toNat = dt283 79 16 := (hF480 83 (by decide) _).trans y473
                have y488 : dt478 83 ((4 * (dt 79 10)) + 1).toNat = dt321 79 11 := (hF480 83 (by decide) _).trans y474
                have y489 : dt478 83 ((4 * (dt 79 10)) + 2).toNat = dt368 79 11 := (hF480 83 (by decide) _).trans y475
                have y490 : dt478 83 ((4 * (dt 79 10)) + 3).toNat = dt 83 ((4 * (dt 79 10)) + 3).toNat := (hF480 83 (by decide) _).trans y476
                clear y473 y474 y475 y476
                clear h477_0 w465 h477_1 w466 h477_2 h477_3 w469
                refine go_retq PM173 (k := 2) (r := some (.inl 0)) (w1 := (SH, dt478)) rfl ?_
                exact ⟨dt478, rfl, hI479, hF481, (Or.inl ⟨rfl, ⟨by first | exact True.intro | with_reducible assumption | exact unhid (by with_reducible assumption) | rfl | fail | trivial, by first | exact True.intro | with_reducible assumption | exact unhid (by with_reducible assumption) | rfl | fail | trivial, by first | exact True.intro | with_reducible assumption | exact unhid (by with_reducible assumption) | rfl | fail | trivial⟩⟩)⟩
              · skip
                obtain ⟨h477_0, h477_1, h477_2, h477_3, h477_4, h477_5, h477_6, h477_7, h477_8, h477_9, h477_10⟩ := h477
                have w491 : dt478 79 2 = dt 79 2 := h477_6.trans w465
                have w492 : dt478 79 9 = dt 79 9 := h477_7.trans w466
                have w493 : dt478 79 10 = dt 79 10 := h477_8.trans w467
                have w494 : dt478 79 12 = dt 79 12 := h477_9.trans w469
                have w495 : dt478 79 20 = 0 := h477_10.trans w470
                clear h459_1
                have BL496 : ∀ j : Nat, (j : Int) < 4 * dt 79 10 → dt478 83 j = dt 83 j := fun j hj => (hF480 83 (by decide) j).trans (BL472 j hj)
                have y497 : dt478 83 ((4 * (dt 79 10))).toNat = dt283 79 16 := (hF480 83 (by decide) _).trans y473
                have y498 : dt478 83 ((4 * (dt 79 10)) + 1).toNat = dt321 79 11 := (hF480 83 (by decide) _).trans y474
                have y499 : dt478 83 ((4 * (dt 79 10)) + 2).toNat = dt368 79 11 := (hF480 83 (by decide) _).trans y475
                have y500 : dt478 83 ((4 * (dt 79 10)) + 3).toNat = dt 83 ((4 * (dt 79 10)) + 3).toNat := (hF480 83 (by decide) _).trans y476
                clear y473 y474 y475 y476
                clear h477_6 w465 h477_7 w466 h477_8 h477_9 w469 h477_10 w470
                have r501 : 0 ≤ dt478 79 10 ∧ dt478 79 10 ≤ 24 := InvC_get hI479 79 10 rfl rfl
                have r502 : 0 ≤ dt478 79 11 ∧ dt478 79 11 ≤ 510 := InvC_get hI479 79 11 rfl rfl
                refine go_toq PM173 (k := 11) (pc' := 183) (L' := [some (.inr (.inr (some 79))), some (.inl 1)]) (st' := [.inl (dt478 79 11), .inl ((4 * (dt478 79 10)) + 3), .inr (.inr (some 83))]) (w' := (SH, dt478)) rfl ?_
                have hI503 : InvC (u2 dt478 83 (((4 * (dt478 79 10)) + 3).toNat) (dt478 79 11)) := InvC_u2 hI479 (lo := -2147483648) (hi := 2147483647) rfl rfl rfl (by first | exact bnd1 r502 (by decide) | fail) (by first | exact bnd2 r502 (by decide) | fail)
                have hF504 : Fr [79, 83, 84] dt (u2 dt478 83 (((4 * (dt478 79 10)) + 3).toNat) (dt478 79 11)) := Fr_u2 hF481 (by decide)
                have w505 : (u2 dt478 83 (((4 * (dt478 79 10)) + 3).toNat) (dt478 79 11)) 79 2 = dt 79 2 := w491
                have w506 : (u2 dt478 83 (((4 * (dt478 79 10)) + 3).toNat) (dt478 79 11)) 79 9 = dt 79 9 := w492
                have w507 : (u2 dt478 83 (((4 * (dt478 79 10)) + 3).toNat) (dt478 79 11)) 79 10 = dt 79 10 := w493
                have w508 : (u2 dt478 83 (((4 * (dt478 79 10)) + 3).toNat) (dt478 79 11)) 79 11 = dt478 79 11 := rfl
                have w509 : (u2 dt478 83 (((4 * (dt478 79 10)) + 3).toNat) (dt478 79 11)) 79 12 = dt 79 12 := w494
                have w510 : (u2 dt478 83 (((4 * (dt478 79 10)) + 3).toNat) (dt478 79 11)) 79 13 = dt478 79 13 := rfl
                have w511 : (u2 dt478 83 (((4 * (dt478 79 10)) + 3).toNat) (dt478 79 11)) 79 14 = dt478 79 14 := rfl
                have w512 : (u2 dt478 83 (((4 * (dt478 79 10)) + 3).toNat) (dt478 79 11)) 79 15 = dt478 79 15 := rfl
                have w513 : (u2 dt478 83 (((4 * (dt478 79 10)) + 3).toNat) (dt478 79 11)) 79 16 = dt478 79 16 := rfl
                have w514 : (u2 dt478 83 (((4 * (dt478 79 10)) + 3).toNat) (dt478 79 11)) 79 20 = 0 := w495
                have E84515 : (u2 dt478 83 (((4 * (dt478 79 10)) + 3).toNat) (dt478 79 11)) 84 = dt478 84 := funext fun _ => rfl
                have ex517 : ((4 * (dt 79 10)) + 3).toNat = ((4 * (dt478 79 10)) + 3).toNat := by rw [show dt478 79 10 = dt 79 10 from w507]
                have BL516 : ∀ j : Nat, (j : Int) < 4 * dt 79 10 → (u2 dt478 83 (((4 * (dt478 79 10)) + 3).toNat) (dt478 79 11)) 83 j = dt 83 j := fun j hj => (u2_ne (fun z_ => xb hj (show (0 : Int) ≤ 3 by decide) (z_.2.trans ex517.symm))).trans (BL496 j hj)
                have y518 : (u2 dt478 83 (((4 * (dt478 79 10)) + 3).toNat) (dt478 79 11)) 83 ((4 * (dt 79 10))).toNat = dt283 79 16 := (u2_ne (fun z_ => (xr0 hA0 (by decide)) (z_.2.trans ex517.symm))).trans y497
                have y519 : (u2 dt478 83 (((4 * (dt478 79 10)) + 3).toNat) (dt478 79 11)) 83 ((4 * (dt 79 10)) + 1).toNat = dt321 79 11 := (u2_ne (fun z_ => (xr hA0 (by decide) (by decide) (by decide)) (z_.2.trans ex517.symm))).trans y498
                have y520 : (u2 dt478 83 (((4 * (dt478 79 10)) + 3).toNat) (dt478 79 11)) 83 ((4 * (dt 79 10)) + 2).toNat = dt368 79 11 := (u2_ne (fun z_ => (xr hA0 (by decide) (by decide) (by decide)) (z_.2.trans ex517.symm))).trans y499
                have y521 : (u2 dt478 83 (((4 * (dt478 79 10)) + 3).toNat) (dt478 79 11)) 83 ((4 * (dt 79 10)) + 3).toNat = dt478 79 11 := by rw [ex517]; exact u2_eq
                clear y497 y498 y499 y500
                refine go_smpq PM173 (L' := [some (.inr (.inr (some 79))), some (.inl 1)]) (st' := []) (w' := (SH, (u2 dt478 83 (((4 * (dt478 79 10)) + 3).toNat) (dt478 79 11)))) rfl rfl (s_iast (n := 64) rfl ⟨by omega, by (have z_ := unhid c6; omega)⟩ (by first | exact bnd r502 (by decide) (by decide) | exact ⟨by fail, by fail⟩)) ?_
                refine go_toq PM173 (k := 2) (pc' := 188) (L' := [some (.inr (.inr (some 79))), some (.inl 1)]) (st' := [.inl 159, .inr (.inr (some 79))]) (w' := (SH, (u2 dt478 83 (((4 * (dt478 79 10)) + 3).toNat) (dt478 79 11)))) rfl ?_
                refine go_callq PM173 PM161 (Q' := _) rfl rfl rfl rfl (sp_X6_need0 L xs sio (d + 29) (u2 dt478 83 (((4 * (dt478 79 10)) + 3).toNat) (dt478 79 11)) hI503  159 ⟨by decide, by decide⟩ (by first | exact True.intro | with_reducible assumption | exact unhid (by with_reducible assumption) | rfl | omega | trivial)) ?_
                rintro _ _ ⟨dt523, rfl, hI524, hF525, h522⟩
                refine ⟨rfl, ?_⟩
                have hF526 : Fr [79, 83, 84] dt dt523 := Fr_tr hF504 hF525 (by decide)
                have E84527 : dt523 84 = dt478 84 := (funext (hF525 84 (by decide))).trans E84515
                rcases h522 with ⟨rfl, h522⟩ | ⟨rfl, h522⟩
                · skip
                  obtain ⟨h522_0, h522_1, h522_2, h522_3⟩ := h522
                  have w528 : dt523 79 2 = dt 79 2 := h522_0.trans w505
                  have w529 : dt523 79 9 = dt 79 9 := h522_1.trans w506
                  have w530 : dt523 79 10 = dt 79 10 := h522_2.trans w507
                  have w531 : dt523 79 12 = dt 79 12 := h522_3.trans w509
                  have BL532 : ∀ j : Nat, (j : Int) < 4 * dt 79 10 → dt523 83 j = dt 83 j := fun j hj => (hF525 83 (by decide) j).trans (BL516 j hj)
                  have y533 : dt523 83 ((4 * (dt 79 10))).toNat = dt283 79 16 := (hF525 83 (by decide) _).trans y518
                  have y534 : dt523 83 ((4 * (dt 79 10)) + 1).toNat = dt321 79 11 := (hF525 83 (by decide) _).trans y519
                  have y535 : dt523 83 ((4 * (dt 79 10)) + 2).toNat = dt368 79 11 := (hF525 83 (by decide) _).trans y520
                  have y536 : dt523 83 ((4 * (dt 79 10)) + 3).toNat = dt478 79 11 := (hF525 83 (by decide) _).trans y521
                  clear y518 y519 y520 y521
                  clear h522_0 w505 h522_1 w506 h522_2 w507 h522_3 w509
                  refine go_retq PM173 (k := 0) (r := some (.inl 0)) (w1 := (SH, dt523)) rfl ?_
                  exact ⟨dt523, rfl, hI524, hF526, (Or.inl ⟨rfl, ⟨by first | exact True.intro | with_reducible assumption | exact unhid (by with_reducible assumption) | rfl | fail | trivial, by first | exact True.intro | with_reducible assumption | exact unhid (by with_reducible assumption) | rfl | fail | trivial, by first | exact True.intro | with_reducible assumption | exact unhid (by with_reducible assumption) | rfl | fail | trivial⟩⟩)⟩
                · skip
                  obtain ⟨h522_0, h522_1, h522_2, h522_3, h522_4, h522_5, h522_6, h522_7, h522_8⟩ := h522
                  have w537 : dt523 79 2 = dt 79 2 := h522_3.trans w505
                  have w538 : dt523 79 9 = dt 79 9 := h522_4.trans w506
                  have w539 : dt523 79 10 = dt 79 10 := h522_5.trans w507
                  have w540 : dt523 79 11 = dt478 79 11 := h522_6.trans w508
                  have w541 : dt523 79 12 = dt 79 12 := h522_7.trans w509
                  have w542 : dt523 79 20 = 0 := h522_8.trans w514
                  clear h477_2
                  have BL543 : ∀ j : Nat, (j : Int) < 4 * dt 79 10 → dt523 83 j = dt 83 j := fun j hj => (hF525 83 (by decide) j).trans (BL516 j hj)
                  have y544 : dt523 83 ((4 * (dt 79 10))).toNat = dt283 79 16 := (hF525 83 (by decide) _).trans y518
                  have y545 : dt523 83 ((4 * (dt 79 10)) + 1).toNat = dt321 79 11 := (hF525 83 (by decide) _).trans y519
                  have y546 : dt523 83 ((4 * (dt 79 10)) + 2).toNat = dt368 79 11 := (hF525 83 (by decide) _).trans y520
                  have y547 : dt523 83 ((4 * (dt 79 10)) + 3).toNat = dt478 79 11 := (hF525 83 (by decide) _).trans y521
                  clear y518 y519 y520 y521
                  clear h522_3 w505 h522_4 w506 h522_5 w507 h522_6 w508 h522_7 w509 h522_8 w514
                  refine go_retq PM173 (k := 0) (r := some (.inl 1)) (w1 := (SH, dt523)) rfl ?_
                  exact ⟨dt523, rfl, hI524, hF526, (Or.inr ⟨rfl, ⟨by first | exact True.intro | with_reducible assumption | exact unhid (by with_reducible assumption) | rfl | (have z_ := unhid c6; omega) | trivial, by exact BL543, by exact ⟨by omega, PS_fin h367_4 (by first | exact AGR_e (by assumption) | exact AGR_e rfl | exact AGR_4 (by assumption) h477_5 (by first | assumption | rfl) (by omega)) (by omega) (by omega), fun _ => by first | fail | exact PS_fin h477_4 (by first | exact AGR_e (by assumption) | exact AGR_e rfl) (by omega) (by omega)⟩, by first | exact AGR_4 (by assumption) h367_5 (by first | assumption | rfl) (by fail) | exact AGR_5 (by assumption) h477_5 (by first | assumption | rfl) h367_5 (by first | assumption | rfl) (by omega) (by omega), by first | exact True.intro | with_reducible assumption | exact unhid (by with_reducible assumption) | rfl | omega | trivial, by first | exact True.intro | with_reducible assumption | exact unhid (by with_reducible assumption) | rfl | omega | trivial, by first | exact True.intro | with_reducible assumption | exact unhid (by with_reducible assumption) | rfl | omega | trivial, by first | exact True.intro | with_reducible assumption | exact unhid (by with_reducible assumption) | rfl | fail | trivial, by exact (InvC_get (by assumption) 79 15 rfl rfl).2, by first | exact True.intro | with_reducible assumption | exact unhid (by with_reducible assumption) | rfl | fail | trivial, by first | exact True.intro | with_reducible assumption | exact unhid (by with_reducible assumption) | rfl | fail | trivial, by first | exact True.intro | with_reducible assumption | exact unhid (by with_reducible assumption) | rfl | fail | trivial, by first | exact True.intro | with_reducible assumption | exact unhid (by with_reducible assumption) | rfl | fail | trivial⟩⟩)⟩
    · skip
      refine go_toq PM173 (k := 2) (pc' := 35) (L' := [some (.inr (.inr (some 79))), none]) (st' := [.inl 3, .inr (.inr (some 79))]) (w' := (SH, dt)) rfl ?_
      refine go_callq PM173 PM160 (Q' := _) rfl rfl rfl rfl (sp_X6_bad L xs sio (d + 36) dt hI  3 ⟨by decide, by decide⟩ ) ?_
      rintro _ _ ⟨dt549, rfl, hI550, hF551, h548⟩
      refine ⟨rfl, ?_⟩
      have hF552 : Fr [79, 83, 84] dt dt549 := Fr_tr hF hF551 (by decide)
      have E84553 : dt549 84 = dt 84 := funext (hF551 84 (by decide))
      rcases h548 with ⟨rfl, h548⟩
      obtain ⟨h548_0, h548_1, h548_2, h548_3, h548_4, h548_5⟩ := h548
      have w554 : dt549 79 2 = dt 79 2 := h548_0
      have w555 : dt549 79 9 = dt 79 9 := h548_1
      have w556 : dt549 79 10 = dt 79 10 := h548_2
      have w557 : dt549 79 11 = dt 79 11 := h548_3
      have w558 : dt549 79 12 = dt 79 12 := h548_4
      have w559 : dt549 79 20 = dt 79 20 := h548_5
      have BL560 : ∀ j : Nat, (j : Int) < 4 * dt 79 10 → dt549 83 j = dt 83 j := fun j hj => (hF551 83 (by decide) j).trans ((fun _ _ => rfl) j hj)
      have y561 : dt549 83 ((4 * (dt 79 10))).toNat = dt 83 ((4 * (dt 79 10))).toNat := hF551 83 (by decide) _
      have y562 : dt549 83 ((4 * (dt 79 10)) + 1).toNat = dt 83 ((4 * (dt 79 10)) + 1).toNat := hF551 83 (by decide) _
      have y563 : dt549 83 ((4 * (dt 79 10)) + 2).toNat = dt 83 ((4 * (dt 79 10)) + 2).toNat := hF551 83 (by decide) _
      have y564 : dt549 83 ((4 * (dt 79 10)) + 3).toNat = dt 83 ((4 * (dt 79 10)) + 3).toNat := hF551 83 (by decide) _
      clear h548_0 h548_1 h548_2 h548_3 h548_4 h548_5
      refine go_retq PM173 (k := 0) (r := some (.inl 0)) (w1 := (SH, dt549)) rfl ?_
      exact ⟨dt549, rfl, hI550, hF552, (Or.inl ⟨rfl, ⟨by first | exact True.intro | with_reducible assumption | rfl | fail | trivial, by first | exact True.intro | with_reducible assumption | rfl | fail | trivial, by first | exact True.intro | with_reducible assumption | rfl | fail | trivial⟩⟩)⟩
  · skip
    replace c5 := hid c5
    refine go_ifq PM173 (k := 3) (p1 := 24) (p2 := 18) (L' := [some (.inr (.inr (some 79))), none]) (st' := []) (w' := (SH, dt)) rfl (c_eq (a := dt 79 14) (b := 8) (by first | exact bnd r4 (by decide) (by decide) | exact ⟨by fail, by fail⟩) ⟨by decide, by decide⟩) (fun c565 => ?_) (fun c565 => ?_)
    · skip
      refine go_ifq PM173 (k := 3) (p1 := 39) (p2 := 33) (L' := [some (.inr (.inr (some 79))), none]) (st' := []) (w' := (SH, dt)) rfl (c_ne (a := dt 79 10) (b := 16) (by first | exact bnd r3 (by decide) (by decide) | exact ⟨by fail, by fail⟩) ⟨by decide, by decide⟩) (fun c566 => ?_) (fun c566 => ?_)
      · skip
        replace c566 := hid c566
        refine go_ifq PM173 (k := 3) (p1 := 52) (p2 := 48) (L' := [some (.inr (.inr (some 79))), none]) (st' := []) (w' := (SH, dt)) rfl (c_ne (a := dt 79 14) (b := 7) (by first | exact bnd r4 (by decide) (by decide) | exact ⟨by fail, by fail⟩) ⟨by decide, by decide⟩) (fun c567 => ?_) (fun c567 => ?_)
        · skip
          replace c567 := hid c567
          refine go_toq PM173 (k := 4) (pc' := 56) (L' := [some (.inr (.inr (some 79))), some (.inl 0)]) (st' := [.inl 0, .inr (.inr (some 79))]) (w' := (SH, dt)) rfl ?_
          have hI568 : InvC (u2 dt 79 20 0) := InvC_u2 hI (lo := 0) (hi := 8) rfl rfl rfl (by decide) (by decide)
          have hF569 : Fr [79, 83, 84] dt (u2 dt 79 20 0) := Fr_u2 hF (by decide)
          have w570 : (u2 dt 79 20 0) 79 2 = dt 79 2 := rfl
          have w571 : (u2 dt 79 20 0) 79 9 = dt 79 9 := rfl
          have w572 : (u2 dt 79 20 0) 79 10 = dt 79 10 := rfl
          have w573 : (u2 dt 79 20 0) 79 11 = dt 79 11 := rfl
          have w574 : (u2 dt 79 20 0) 79 12 = dt 79 12 := rfl
          have w575 : (u2 dt 79 20 0) 79 13 = dt 79 13 := rfl
          have w576 : (u2 dt 79 20 0) 79 14 = dt 79 14 := rfl
          have w577 : (u2 dt 79 20 0) 79 15 = dt 79 15 := rfl
          have w578 : (u2 dt 79 20 0) 79 16 = dt 79 16 := rfl
          have w579 : (u2 dt 79 20 0) 79 20 = 0 := rfl
          have E84580 : (u2 dt 79 20 0) 84 = dt 84 := funext fun _ => rfl
          have BL581 : ∀ j : Nat, (j : Int) < 4 * dt 79 10 → (u2 dt 79 20 0) 83 j = dt 83 j := (fun _ _ => rfl)
          have y582 : (u2 dt 79 20 0) 83 ((4 * (dt 79 10))).toNat = dt 83 ((4 * (dt 79 10))).toNat := rfl
          have y583 : (u2 dt 79 20 0) 83 ((4 * (dt 79 10)) + 1).toNat = dt 83 ((4 * (dt 79 10)) + 1).toNat := rfl
          have y584 : (u2 dt 79 20 0) 83 ((4 * (dt 79 10)) + 2).toNat = dt 83 ((4 * (dt 79 10)) + 2).toNat := rfl
          have y585 : (u2 dt 79 20 0) 83 ((4 * (dt 79 10)) + 3).toNat = dt 83 ((4 * (dt 79 10)) + 3).toNat := rfl
          refine go_smpq PM173 (L' := [some (.inr (.inr (some 79))), some (.inl 0)]) (st' := []) (w' := (SH, (u2 dt 79 20 0))) rfl rfl (s_pf rfl rfl rfl rfl ⟨by decide, by decide⟩) ?_
          refine go_toq PM173 (k := 1) (pc' := 60) (L' := [some (.inr (.inr (some 79))), some (.inl 0)]) (st' := [.inr (.inr (some 79))]) (w' := (SH, (u2 dt 79 20 0))) rfl ?_
          refine go_callq PM173 PM159 (Q' := _) rfl rfl rfl rfl (sp_X6_next0 L xs sio (d + 30) (u2 dt 79 20 0) hI568   (by first | exact True.intro | with_reducible assumption | exact unhid (by with_reducible assumption) | rfl | omega | trivial)) ?_
          rintro _ _ ⟨dt587, rfl, hI588, hF589, h586⟩
          refine ⟨rfl, ?_⟩
          have hF590 : Fr [79, 83, 84] dt dt587 := Fr_tr hF569 hF589 (by decide)
          have E84591 : dt587 84 = dt 84 := (funext (hF589 84 (by decide))).trans E84580
          rcases h586 with ⟨rfl, h586⟩
          obtain ⟨h586_0, h586_1, h586_2, h586_3, h586_4, h586_5, h586_6, h586_7, h586_8⟩ := h586
          have w592 : dt587 79 2 = dt 79 2 := h586_3.trans w570
          have w593 : dt587 79 9 = dt 79 9 := h586_4.trans w571
          have w594 : dt587 79 10 = dt 79 10 := h586_5.trans w572
          have w595 : dt587 79 11 = dt 79 11 := h586_6.trans w573
          have w596 : dt587 79 12 = dt 79 12 := h586_7.trans w574
          have w597 : dt587 79 20 = 0 := h586_8.trans w579
          have hadv0 : dt 79 15 + 1 ≤ dt 79 13 := by omega
          clear h_p0
          have BL598 : ∀ j : Nat, (j : Int) < 4 * dt 79 10 → dt587 83 j = dt 83 j := fun j hj => (hF589 83 (by decide) j).trans (BL581 j hj)
          have y599 : dt587 83 ((4 * (dt 79 10))).toNat = dt 83 ((4 * (dt 79 10))).toNat := (hF589 83 (by decide) _).trans y582
          have y600 : dt587 83 ((4 * (dt 79 10)) + 1).toNat = dt 83 ((4 * (dt 79 10)) + 1).toNat := (hF589 83 (by decide) _).trans y583
          have y601 : dt587 83 ((4 * (dt 79 10)) + 2).toNat = dt 83 ((4 * (dt 79 10)) + 2).toNat := (hF589 83 (by decide) _).trans y584
          have y602 : dt587 83 ((4 * (dt 79 10)) + 3).toNat = dt 83 ((4 * (dt 79 10)) + 3).toNat := (hF589 83 (by decide) _).trans y585
          clear y582 y583 y584 y585
          clear h586_3 w570 h586_4 w571 h586_5 w572 h586_6 w573 h586_7 w574 h586_8 w579
          have r603 : 0 ≤ dt587 79 10 ∧ dt587 79 10 ≤ 24 := InvC_get hI588 79 10 rfl rfl
          refine go_toq PM173 (k := 9) (pc' := 86) (L' := [some (.inr (.inr (some 79))), some (.inl 0)]) (st' := [.inl 8, .inl (4 * (dt587 79 10)), .inr (.inr (some 83))]) (w' := (SH, dt587)) rfl ?_
          have hI604 : InvC (u2 dt587 83 ((4 * (dt587 79 10)).toNat) 8) := InvC_u2 hI588 (lo := -2147483648) (hi := 2147483647) rfl rfl rfl (by decide) (by decide)
          have hF605 : Fr [79, 83, 84] dt (u2 dt587 83 ((4 * (dt587 79 10)).toNat) 8) := Fr_u2 hF590 (by decide)
          have w606 : (u2 dt587 83 ((4 * (dt587 79 10)).toNat) 8) 79 2 = dt 79 2 := w592
          have w607 : (u2 dt587 83 ((4 * (dt587 79 10)).toNat) 8) 79 9 = dt 79 9 := w593
          have w608 : (u2 dt587 83 ((4 * (dt587 79 10)).toNat) 8) 79 10 = dt 79 10 := w594
          have w609 : (u2 dt587 83 ((4 * (dt587 79 10)).toNat) 8) 79 11 = dt 79 11 := w595
          have w610 : (u2 dt587 83 ((4 * (dt587 79 10)).toNat) 8) 79 12 = dt 79 12 := w596
          have w611 : (u2 dt587 83 ((4 * (dt587 79 10)).toNat) 8) 79 13 = dt587 79 13 := rfl
          have w612 : (u2 dt587 83 ((4 * (dt587 79 10)).toNat) 8) 79 14 = dt587 79 14 := rfl
          have w613 : (u2 dt587 83 ((4 * (dt587 79 10)).toNat) 8) 79 15 = dt587 79 15 := rfl
          have w614 : (u2 dt587 83 ((4 * (dt587 79 10)).toNat) 8) 79 16 = dt587 79 16 := rfl
          have w615 : (u2 dt587 83 ((4 * (dt587 79 10)).toNat) 8) 79 20 = 0 := w597
          have E84616 : (u2 dt587 83 ((4 * (dt587 79 10)).toNat) 8) 84 = dt 84 := (funext fun _ => rfl).trans E84591
          have ex618 : ((4 * (dt 79 10))).toNat = (4 * (dt587 79 10)).toNat := by rw [show dt587 79 10 = dt 79 10 from w608]
          have BL617 : ∀ j : Nat, (j : Int) < 4 * dt 79 10 → (u2 dt587 83 ((4 * (dt587 79 10)).toNat) 8) 83 j = dt 83 j := fun j hj => (u2_ne (fun z_ => xb0 hj (z_.2.trans ex618.symm))).trans (BL598 j hj)
          have y619 : (u2 dt587 83 ((4 * (dt587 79 10)).toNat) 8) 83 ((4 * (dt 79 10))).toNat = 8 := by rw [ex618]; exact u2_eq
          have y620 : (u2 dt587 83 ((4 * (dt587 79 10)).toNat) 8) 83 ((4 * (dt 79 10)) + 1).toNat = dt 83 ((4 * (dt 79 10)) + 1).toNat := (u2_ne (fun z_ => (fun y_ => xr0 hA0 (by decide) y_.symm) (z_.2.trans ex618.symm))).trans y600
          have y621 : (u2 dt587 83 ((4 * (dt587 79 10)).toNat) 8) 83 ((4 * (dt 79 10)) + 2).toNat = dt 83 ((4 * (dt 79 10)) + 2).toNat := (u2_ne (fun z_ => (fun y_ => xr0 hA0 (by decide) y_.symm) (z_.2.trans ex618.symm))).trans y601
          have y622 : (u2 dt587 83 ((4 * (dt587 79 10)).toNat) 8) 83 ((4 * (dt 79 10)) + 3).toNat = dt 83 ((4 * (dt 79 10)) + 3).toNat := (u2_ne (fun z_ => (fun y_ => xr0 hA0 (by decide) y_.symm) (z_.2.trans ex618.symm))).trans y602
          clear y599 y600 y601 y602
          refine go_smpq PM173 (L' := [some (.inr (.inr (some 79))), some (.inl 0)]) (st' := []) (w' := (SH, (u2 dt587 83 ((4 * (dt587 79 10)).toNat) 8))) rfl rfl (s_iast (n := 64) rfl ⟨by omega, by (have z_ := unhid c566; omega)⟩ ⟨by decide, by decide⟩) ?_
          have r623 : 0 ≤ dt587 79 11 ∧ dt587 79 11 ≤ 510 := InvC_get hI588 79 11 rfl rfl
          refine go_toq PM173 (k := 12) (pc' := 119) (L' := [some (.inr (.inr (some 79))), some (.inl 0)]) (st' := [.inl (dt587 79 11), .inl ((4 * (dt587 79 10)) + 1), .inr (.inr (some 83))]) (w' := (SH, (u2 dt587 83 ((4 * (dt587 79 10)).toNat) 8))) rfl ?_
          have hI624 : InvC (u2 (u2 dt587 83 ((4 * (dt587 79 10)).toNat) 8) 83 (((4 * (dt587 79 10)) + 1).toNat) (dt587 79 11)) := InvC_u2 hI604 (lo := -2147483648) (hi := 2147483647) rfl rfl rfl (by first | exact bnd1 r623 (by decide) | fail) (by first | exact bnd2 r623 (by decide) | fail)
          have hF625 : Fr [79, 83, 84] dt (u2 (u2 dt587 83 ((4 * (dt587 79 10)).toNat) 8) 83 (((4 * (dt587 79 10)) + 1).toNat) (dt587 79 11)) := Fr_u2 hF605 (by decide)
          have w626 : (u2 (u2 dt587 83 ((4 * (dt587 79 10)).toNat) 8) 83 (((4 * (dt587 79 10)) + 1).toNat) (dt587 79 11)) 79 2 = dt 79 2 := w606
          have w627 : (u2 (u2 dt587 83 ((4 * (dt587 79 10)).toNat) 8) 83 (((4 * (dt587 79 10)) + 1).toNat) (dt587 79 11)) 79 9 = dt 79 9 := w607
          have w628 : (u2 (u2 dt587 83 ((4 * (dt587 79 10)).toNat) 8) 83 (((4 * (dt587 79 10)) + 1).toNat) (dt587 79 11)) 79 10 = dt 79 10 := w608
          have w629 : (u2 (u2 dt587 83 ((4 * (dt587 79 10)).toNat) 8) 83 (((4 * (dt587 79 10)) + 1).toNat) (dt587 79 11)) 79 11 = dt 79 11 := w609
          have w630 : (u2 (u2 dt587 83 ((4 * (dt587 79 10)).toNat) 8) 83 (((4 * (dt587 79 10)) + 1).toNat) (dt587 79 11)) 79 12 = dt 79 12 := w610
          have w631 : (u2 (u2 dt587 83 ((4 * (dt587 79 10)).toNat) 8) 83 (((4 * (dt587 79 10)) + 1).toNat) (dt587 79 11)) 79 13 = dt587 79 13 := w611
          have w632 : (u2 (u2 dt587 83 ((4 * (dt587 79 10)).toNat) 8) 83 (((4 * (dt587 79 10)) + 1).toNat) (dt587 79 11)) 79 14 = dt587 79 14 := w612
          have w633 : (u2 (u2 dt587 83 ((4 * (dt587 79 10)).toNat) 8) 83 (((4 * (dt587 79 10)) + 1).toNat) (dt587 79 11)) 79 15 = dt587 79 15 := w613
          have w634 : (u2 (u2 dt587 83 ((4 * (dt587 79 10)).toNat) 8) 83 (((4 * (dt587 79 10)) + 1).toNat) (dt587 79 11)) 79 16 = dt587 79 16 := w614
          have w635 : (u2 (u2 dt587 83 ((4 * (dt587 79 10)).toNat) 8) 83 (((4 * (dt587 79 10)) + 1).toNat) (dt587 79 11)) 79 20 = 0 := w615
          clear w606 w607 w608 w609 w610 w611 w612 w613 w614 w615
          have E84636 : (u2 (u2 dt587 83 ((4 * (dt587 79 10)).toNat) 8) 83 (((4 * (dt587 79 10)) + 1).toNat) (dt587 79 11)) 84 = dt 84 := (funext fun _ => rfl).trans E84616
          have ex638 : ((4 * (dt 79 10)) + 1).toNat = ((4 * (dt587 79 10)) + 1).toNat := by rw [show dt587 79 10 = dt 79 10 from w628]
          have BL637 : ∀ j : Nat, (j : Int) < 4 * dt 79 10 → (u2 (u2 dt587 83 ((4 * (dt587 79 10)).toNat) 8) 83 (((4 * (dt587 79 10)) + 1).toNat) (dt587 79 11)) 83 j = dt 83 j := fun j hj => (u2_ne (fun z_ => xb hj (show (0 : Int) ≤ 1 by decide) (z_.2.trans ex638.symm))).trans (BL617 j hj)
          have y639 : (u2 (u2 dt587 83 ((4 * (dt587 79 10)).toNat) 8) 83 (((4 * (dt587 79 10)) + 1).toNat) (dt587 79 11)) 83 ((4 * (dt 79 10))).toNat = 8 := (u2_ne (fun z_ => (xr0 hA0 (by decide)) (z_.2.trans ex638.symm))).trans y619
          have y640 : (u2 (u2 dt587 83 ((4 * (dt587 79 10)).toNat) 8) 83 (((4 * (dt587 79 10)) + 1).toNat) (dt587 79 11)) 83 ((4 * (dt 79 10)) + 1).toNat = dt587 79 11 := by rw [ex638]; exact u2_eq
          have y641 : (u2 (u2 dt587 83 ((4 * (dt587 79 10)).toNat) 8) 83 (((4 * (dt587 79 10)) + 1).toNat) (dt587 79 11)) 83 ((4 * (dt 79 10)) + 2).toNat = dt 83 ((4 * (dt 79 10)) + 2).toNat := (u2_ne (fun z_ => (xr hA0 (by decide) (by decide) (by decide)) (z_.2.trans ex638.symm))).trans y621
          have y642 : (u2 (u2 dt587 83 ((4 * (dt587 79 10)).toNat) 8) 83 (((4 * (dt587 79 10)) + 1).toNat) (dt587 79 11)) 83 ((4 * (dt 79 10)) + 3).toNat = dt 83 ((4 * (dt 79 10)) + 3).toNat := (u2_ne (fun z_ => (xr hA0 (by decide) (by decide) (by decide)) (z_.2.trans ex638.symm))).trans y622
          clear y619 y620 y621 y622
          refine go_smpq PM173 (L' := [some (.inr (.inr (some 79))), some (.inl 0)]) (st' := []) (w' := (SH, (u2 (u2 dt587 83 ((4 * (dt587 79 10)).toNat) 8) 83 (((4 * (dt587 79 10)) + 1).toNat) (dt587 79 11)))) rfl rfl (s_iast (n := 64) rfl ⟨by omega, by (have z_ := unhid c566; omega)⟩ (by first | exact bnd r623 (by decide) (by decide) | exact ⟨by fail, by fail⟩)) ?_
          refine go_toq PM173 (k := 1) (pc' := 121) (L' := [some (.inr (.inr (some 79))), some (.inl 0)]) (st' := [.inr (.inr (some 79))]) (w' := (SH, (u2 (u2 dt587 83 ((4 * (dt587 79 10)).toNat) 8) 83 (((4 * (dt587 79 10)) + 1).toNat) (dt587 79 11)))) rfl ?_
          refine go_callq PM173 PM165 (Q' := _) rfl rfl rfl rfl (sp_X6_sumUp L xs sio (d + 27) (u2 (u2 dt587 83 ((4 * (dt587 79 10)).toNat) 8) 83 (((4 * (dt587 79 10)) + 1).toNat) (dt587 79 11)) hI624   (by first | exact True.intro | with_reducible assumption | exact unhid (by with_reducible assumption) | rfl | omega | trivial) (by first | exact True.intro | with_reducible assumption | exact unhid (by with_reducible assumption) | rfl | omega | trivial)) ?_
          rintro _ _ ⟨dt644, rfl, hI645, hF646, h643⟩
          refine ⟨rfl, ?_⟩
          have hF647 : Fr [79, 83, 84] dt dt644 := Fr_tr hF625 hF646 (by decide)
          rcases h643 with ⟨rfl, h643⟩ | ⟨rfl, h643⟩
          · skip
            obtain ⟨h643_0, h643_1, h643_2, h643_3⟩ := h643
            have w648 : dt644 79 2 = dt 79 2 := h643_0.trans w626
            have w649 : dt644 79 9 = dt 79 9 := h643_1.trans w627
            have w650 : dt644 79 10 = dt 79 10 := h643_2.trans w628
            have w651 : dt644 79 12 = dt 79 12 := h643_3.trans w630
            have BL652 : ∀ j : Nat, (j : Int) < 4 * dt 79 10 → dt644 83 j = dt 83 j := fun j hj => (hF646 83 (by decide) j).trans (BL637 j hj)
            have y653 : dt644 83 ((4 * (dt 79 10))).toNat = 8 := (hF646 83 (by decide) _).trans y639
            have y654 : dt644 83 ((4 * (dt 79 10)) + 1).toNat = dt587 79 11 := (hF646 83 (by decide) _).trans y640
            have y655 : dt644 83 ((4 * (dt 79 10)) + 2).toNat = dt 83 ((4 * (dt 79 10)) + 2).toNat := (hF646 83 (by decide) _).trans y641
            have y656 : dt644 83 ((4 * (dt 79 10)) + 3).toNat = dt 83 ((4 * (dt 79 10)) + 3).toNat := (hF646 83 (by decide) _).trans y642
            clear y639 y640 y641 y642
            clear h643_0 w626 h643_1 w627 h643_2 w628 h643_3 w630
            refine go_retq PM173 (k := 2) (r := some (.inl 0)) (w1 := (SH, dt644)) rfl ?_
            exact ⟨dt644, rfl, hI645, hF647, (Or.inl ⟨rfl, ⟨by first | exact True.intro | with_reducible assumption | exact unhid (by with_reducible assumption) | rfl | fail | trivial, by first | exact True.intro | with_reducible assumption | exact unhid (by with_reducible assumption) | rfl | fail | trivial, by first | exact True.intro | with_reducible assumption | exact unhid (by with_reducible assumption) | rfl | fail | trivial⟩⟩)⟩
          · skip
            obtain ⟨h643_0, h643_1, h643_2, h643_3, h643_4, h643_5, h643_6, h643_7, h643_8, h643_9, h643_10⟩ := h643
            have w657 : dt644 79 2 = dt 79 2 := h643_6.trans w626
            have w658 : dt644 79 9 = dt 79 9 := h643_7.trans w627
            have w659 : dt644 79 10 = dt 79 10 := h643_8.trans w628
            have w660 : dt644 79 12 = dt 79 12 := h643_9.trans w630
            have w661 : dt644 79 20 = 0 := h643_10.trans w635
            clear h586_1
            have BL662 : ∀ j : Nat, (j : Int) < 4 * dt 79 10 → dt644 83 j = dt 83 j := fun j hj => (hF646 83 (by decide) j).trans (BL637 j hj)
            have y663 : dt644 83 ((4 * (dt 79 10))).toNat = 8 := (hF646 83 (by decide) _).trans y639
            have y664 : dt644 83 ((4 * (dt 79 10)) + 1).toNat = dt587 79 11 := (hF646 83 (by decide) _).trans y640
            have y665 : dt644 83 ((4 * (dt 79 10)) + 2).toNat = dt 83 ((4 * (dt 79 10)) + 2).toNat := (hF646 83 (by decide) _).trans y641
            have y666 : dt644 83 ((4 * (dt 79 10)) + 3).toNat = dt 83 ((4 * (dt 79 10)) + 3).toNat := (hF646 83 (by decide) _).trans y642
            clear y639 y640 y641 y642
            clear h643_6 w626 h643_7 w627 h643_8 w628 h643_9 w630 h643_10 w635
            have r667 : 0 ≤ dt644 79 10 ∧ dt644 79 10 ≤ 24 := InvC_get hI645 79 10 rfl rfl
            have r668 : 0 ≤ dt644 79 11 ∧ dt644 79 11 ≤ 510 := InvC_get hI645 79 11 rfl rfl
            refine go_toq PM173 (k := 11) (pc' := 145) (L' := [some (.inr (.inr (some 79))), some (.inl 0)]) (st' := [.inl (dt644 79 11), .inl ((4 * (dt644 79 10)) + 2), .inr (.inr (some 83))]) (w' := (SH, dt644)) rfl ?_
            have hI669 : InvC (u2 dt644 83 (((4 * (dt644 79 10)) + 2).toNat) (dt644 79 11)) := InvC_u2 hI645 (lo := -2147483648) (hi := 2147483647) rfl rfl rfl (by first | exact bnd1 r668 (by decide) | fail) (by first | exact bnd2 r668 (by decide) | fail)
            have hF670 : Fr [79, 83, 84] dt (u2 dt644 83 (((4 * (dt644 79 10)) + 2).toNat) (dt644 79 11)) := Fr_u2 hF647 (by decide)
            have w671 : (u2 dt644 83 (((4 * (dt644 79 10)) + 2).toNat) (dt644 79 11)) 79 2 = dt 79 2 := w657
            have w672 : (u2 dt644 83 (((4 * (dt644 79 10)) + 2).toNat) (dt644 79 11)) 79 9 = dt 79 9 := w658
            have w673 : (u2 dt644 83 (((4 * (dt644 79 10)) + 2).toNat) (dt644 79 11)) 79 10 = dt 79 10 := w659
            have w674 : (u2 dt644 83 (((4 * (dt644 79 10)) + 2).toNat) (dt644 79 11)) 79 11 = dt644 79 11 := rfl
            have w675 : (u2 dt644 83 (((4 * (dt644 79 10)) + 2).toNat) (dt644 79 11)) 79 12 = dt 79 12 := w660
            have w676 : (u2 dt644 83 (((4 * (dt644 79 10)) + 2).toNat) (dt644 79 11)) 79 13 = dt644 79 13 := rfl
            have w677 : (u2 dt644 83 (((4 * (dt644 79 10)) + 2).toNat) (dt644 79 11)) 79 14 = dt644 79 14 := rfl
            have w678 : (u2 dt644 83 (((4 * (dt644 79 10)) + 2).toNat) (dt644 79 11)) 79 15 = dt644 79 15 := rfl
            have w679 : (u2 dt644 83 (((4 * (dt644 79 10)) + 2).toNat) (dt644 79 11)) 79 16 = dt644 79 16 := rfl
            have w680 : (u2 dt644 83 (((4 * (dt644 79 10)) + 2).toNat) (dt644 79 11)) 79 20 = 0 := w661
            have E84681 : (u2 dt644 83 (((4 * (dt644 79 10)) + 2).toNat) (dt644 79 11)) 84 = dt644 84 := funext fun _ => rfl
            have ex683 : ((4 * (dt 79 10)) + 2).toNat = ((4 * (dt644 79 10)) + 2).toNat := by rw [show dt644 79 10 = dt 79 10 from w673]
            have BL682 : ∀ j : Nat, (j : Int) < 4 * dt 79 10 → (u2 dt644 83 (((4 * (dt644 79 10)) + 2).toNat) (dt644 79 11)) 83 j = dt 83 j := fun j hj => (u2_ne (fun z_ => xb hj (show (0 : Int) ≤ 2 by decide) (z_.2.trans ex683.symm))).trans (BL662 j hj)
            have y684 : (u2 dt644 83 (((4 * (dt644 79 10)) + 2).toNat) (dt644 79 11)) 83 ((4 * (dt 79 10))).toNat = 8 := (u2_ne (fun z_ => (xr0 hA0 (by decide)) (z_.2.trans ex683.symm))).trans y663
            have y685 : (u2 dt644 83 (((4 * (dt644 79 10)) + 2).toNat) (dt644 79 11)) 83 ((4 * (dt 79 10)) + 1).toNat = dt587 79 11 := (u2_ne (fun z_ => (xr hA0 (by decide) (by decide) (by decide)) (z_.2.trans ex683.symm))).trans y664
            have y686 : (u2 dt644 83 (((4 * (dt644 79 10)) + 2).toNat) (dt644 79 11)) 83 ((4 * (dt 79 10)) + 2).toNat = dt644 79 11 := by rw [ex683]; exact u2_eq
            have y687 : (u2 dt644 83 (((4 * (dt644 79 10)) + 2).toNat) (dt644 79 11)) 83 ((4 * (dt 79 10)) + 3).toNat = dt 83 ((4 * (dt 79 10)) + 3).toNat := (u2_ne (fun z_ => (xr hA0 (by decide) (by decide) (by decide)) (z_.2.trans ex683.symm))).trans y666
            clear y663 y664 y665 y666
            refine go_smpq PM173 (L' := [some (.inr (.inr (some 79))), some (.inl 0)]) (st' := []) (w' := (SH, (u2 dt644 83 (((4 * (dt644 79 10)) + 2).toNat) (dt644 79 11)))) rfl rfl (s_iast (n := 64) rfl ⟨by omega, by (have z_ := unhid c566; omega)⟩ (by first | exact bnd r668 (by decide) (by decide) | exact ⟨by fail, by fail⟩)) ?_
            have r688 : (-2147483648) ≤ dt644 79 14 ∧ dt644 79 14 ≤ 2147483647 := InvC_get hI645 79 14 rfl rfl
            refine go_ifq PM173 (k := 3) (p1 := 167) (p2 := 154) (L' := [some (.inr (.inr (some 79))), some (.inl 0)]) (st' := []) (w' := (SH, (u2 dt644 83 (((4 * (dt644 79 10)) + 2).toNat) (dt644 79 11)))) rfl (c_ne (a := dt644 79 14) (b := 3) (by first | exact bnd r688 (by decide) (by decide) | exact ⟨by fail, by fail⟩) ⟨by decide, by decide⟩) (fun c689 => ?_) (fun c689 => ?_)
            · skip
              replace c689 := hid c689
              refine go_toq PM173 (k := 10) (pc' := 183) (L' := [some (.inr (.inr (some 79))), some (.inl 0)]) (st' := [.inl (dt644 79 11), .inl ((4 * (dt644 79 10)) + 3), .inr (.inr (some 83))]) (w' := (SH, (u2 dt644 83 (((4 * (dt644 79 10)) + 2).toNat) (dt644 79 11)))) rfl ?_
              have hI690 : InvC (u2 (u2 dt644 83 (((4 * (dt644 79 10)) + 2).toNat) (dt644 79 11)) 83 (((4 * (dt644 79 10)) + 3).toNat) (dt644 79 11)) := InvC_u2 hI669 (lo := -2147483648) (hi := 2147483647) rfl rfl rfl (by first | exact bnd1 r668 (by decide) | fail) (by first | exact bnd2 r668 (by decide) | fail)
              have hF691 : Fr [79, 83, 84] dt (u2 (u2 dt644 83 (((4 * (dt644 79 10)) + 2).toNat) (dt644 79 11)) 83 (((4 * (dt644 79 10)) + 3).toNat) (dt644 79 11)) := Fr_u2 hF670 (by decide)
              have w692 : (u2 (u2 dt644 83 (((4 * (dt644 79 10)) + 2).toNat) (dt644 79 11)) 83 (((4 * (dt644 79 10)) + 3).toNat) (dt644 79 11)) 79 2 = dt 79 2 := w671
              have w693 : (u2 (u2 dt644 83 (((4 * (dt644 79 10)) + 2).toNat) (dt644 79 11)) 83 (((4 * (dt644 79 10)) + 3).toNat) (dt644 79 11)) 79 9 = dt 79 9 := w672
              have w694 : (u2 (u2 dt644 83 (((4 * (dt644 79 10)) + 2).toNat) (dt644 79 11)) 83 (((4 * (dt644 79 10)) + 3).toNat) (dt644 79 11)) 79 10 = dt 79 10 := w673
              have w695 : (u2 (u2 dt644 83 (((4 * (dt644 79 10)) + 2).toNat) (dt644 79 11)) 83 (((4 * (dt644 79 10)) + 3).toNat) (dt644 79 11)) 79 11 = dt644 79 11 := w674
              have w696 : (u2 (u2 dt644 83 (((4 * (dt644 79 10)) + 2).toNat) (dt644 79 11)) 83 (((4 * (dt644 79 10)) + 3).toNat) (dt644 79 11)) 79 12 = dt 79 12 := w675
              have w697 : (u2 (u2 dt644 83 (((4 * (dt644 79 10)) + 2).toNat) (dt644 79 11)) 83 (((4 * (dt644 79 10)) + 3).toNat) (dt644 79 11)) 79 13 = dt644 79 13 := w676
              have w698 : (u2 (u2 dt644 83 (((4 * (dt644 79 10)) + 2).toNat) (dt644 79 11)) 83 (((4 * (dt644 79 10)) + 3).toNat) (dt644 79 11)) 79 14 = dt644 79 14 := w677
              have w699 : (u2 (u2 dt644 83 (((4 * (dt644 79 10)) + 2).toNat) (dt644 79 11)) 83 (((4 * (dt644 79 10)) + 3).toNat) (dt644 79 11)) 79 15 = dt644 79 15 := w678
              have w700 : (u2 (u2 dt644 83 (((4 * (dt644 79 10)) + 2).toNat) (dt644 79 11)) 83 (((4 * (dt644 79 10)) + 3).toNat) (dt644 79 11)) 79 16 = dt644 79 16 := w679
              have w701 : (u2 (u2 dt644 83 (((4 * (dt644 79 10)) + 2).toNat) (dt644 79 11)) 83 (((4 * (dt644 79 10)) + 3).toNat) (dt644 79 11)) 79 20 = 0 := w680
              clear w671 w672 w673 w674 w675 w676 w677 w678 w679 w680
              have E84702 : (u2 (u2 dt644 83 (((4 * (dt644 79 10)) + 2).toNat) (dt644 79 11)) 83 (((4 * (dt644 79 10)) + 3).toNat) (dt644 79 11)) 84 = dt644 84 := (funext fun _ => rfl).trans E84681
              have ex704 : ((4 * (dt 79 10)) + 3).toNat = ((4 * (dt644 79 10)) + 3).toNat := by rw [show dt644 79 10 = dt 79 10 from w694]
              have BL703 : ∀ j : Nat, (j : Int) < 4 * dt 79 10 → (u2 (u2 dt644 83 (((4 * (dt644 79 10)) + 2).toNat) (dt644 79 11)) 83 (((4 * (dt644 79 10)) + 3).toNat) (dt644 79 11)) 83 j = dt 83 j := fun j hj => (u2_ne (fun z_ => xb hj (show (0 : Int) ≤ 3 by decide) (z_.2.trans ex704.symm))).trans (BL682 j hj)
              have y705 : (u2 (u2 dt644 83 (((4 * (dt644 79 10)) + 2).toNat) (dt644 79 11)) 83 (((4 * (dt644 79 10)) + 3).toNat) (dt644 79 11)) 83 ((4 * (dt 79 10))).toNat = 8 := (u2_ne (fun z_ => (xr0 hA0 (by decide)) (z_.2.trans ex704.symm))).trans y684
              have y706 : (u2 (u2 dt644 83 (((4 * (dt644 79 10)) + 2).toNat) (dt644 79 11)) 83 (((4 * (dt644 79 10)) + 3).toNat) (dt644 79 11)) 83 ((4 * (dt 79 10)) + 1).toNat = dt587 79 11 := (u2_ne (fun z_ => (xr hA0 (by decide) (by decide) (by decide)) (z_.2.trans ex704.symm))).trans y685
              have y707 : (u2 (u2 dt644 83 (((4 * (dt644 79 10)) + 2).toNat) (dt644 79 11)) 83 (((4 * (dt644 79 10)) + 3).toNat) (dt644 79 11)) 83 ((4 * (dt 79 10)) + 2).toNat = dt644 79 11 := (u2_ne (fun z_ => (xr hA0 (by decide) (by decide) (by decide)) (z_.2.trans ex704.symm))).trans y686
              have y708 : (u2 (u2 dt644 83 (((4 * (dt644 79 10)) + 2).toNat) (dt644 79 11)) 83 (((4 * (dt644 79 10)) + 3).toNat) (dt644 79 11)) 83 ((4 * (dt 79 10)) + 3).toNat = dt644 79 11 := by rw [ex704]; exact u2_eq
              clear y684 y685 y686 y687
              refine go_smpq PM173 (L' := [some (.inr (.inr (some 79))), some (.inl 0)]) (st' := []) (w' := (SH, (u2 (u2 dt644 83 (((4 * (dt644 79 10)) + 2).toNat) (dt644 79 11)) 83 (((4 * (dt644 79 10)) + 3).toNat) (dt644 79 11)))) rfl rfl (s_iast (n := 64) rfl ⟨by omega, by (have z_ := unhid c566; omega)⟩ (by first | exact bnd r668 (by decide) (by decide) | exact ⟨by fail, by fail⟩)) ?_
              refine go_toq PM173 (k := 2) (pc' := 188) (L' := [some (.inr (.inr (some 79))), some (.inl 0)]) (st' := [.inl 159, .inr (.inr (some 79))]) (w' := (SH, (u2 (u2 dt644 83 (((4 * (dt644 79 10)) + 2).toNat) (dt644 79 11)) 83 (((4 * (dt644 79 10)) + 3).toNat) (dt644 79 11)))) rfl ?_
              refine go_callq PM173 PM161 (Q' := _) rfl rfl rfl rfl (sp_X6_need0 L xs sio (d + 29) (u2 (u2 dt644 83 (((4 * (dt644 79 10)) + 2).toNat) (dt644 79 11)) 83 (((4 * (dt644 79 10)) + 3).toNat) (dt644 79 11)) hI690  159 ⟨by decide, by decide⟩ (by first | exact True.intro | with_reducible assumption | exact unhid (by with_reducible assumption) | rfl | omega | trivial)) ?_
              rintro _ _ ⟨dt710, rfl, hI711, hF712, h709⟩
              refine ⟨rfl, ?_⟩
              have hF713 : Fr [79, 83, 84] dt dt710 := Fr_tr hF691 hF712 (by decide)
              have E84714 : dt710 84 = dt644 84 := (funext (hF712 84 (by decide))).trans E84702
              rcases h709 with ⟨rfl, h709⟩ | ⟨rfl, h709⟩
              · skip
                obtain ⟨h709_0, h709_1, h709_2, h709_3⟩ := h709
                have w715 : dt710 79 2 = dt 79 2 := h709_0.trans w692
                have w716 : dt710 79 9 = dt 79 9 := h709_1.trans w693
                have w717 : dt710 79 10 = dt 79 10 := h709_2.trans w694
                have w718 : dt710 79 12 = dt 79 12 := h709_3.trans w696
                have BL719 : ∀ j : Nat, (j : Int) < 4 * dt 79 10 → dt710 83 j = dt 83 j := fun j hj => (hF712 83 (by decide) j).trans (BL703 j hj)
                have y720 : dt710 83 ((4 * (dt 79 10))).toNat = 8 := (hF712 83 (by decide) _).trans y705
                have y721 : dt710 83 ((4 * (dt 79 10)) + 1).toNat = dt587 79 11 := (hF712 83 (by decide) _).trans y706
                have y722 : dt710 83 ((4 * (dt 79 10)) + 2).toNat = dt644 79 11 := (hF712 83 (by decide) _).trans y707
                have y723 : dt710 83 ((4 * (dt 79 10)) + 3).toNat = dt644 79 11 := (hF712 83 (by decide) _).trans y708
                clear y705 y706 y707 y708
                clear h709_0 w692 h709_1 w693 h709_2 w694 h709_3 w696
                refine go_retq PM173 (k := 0) (r := some (.inl 0)) (w1 := (SH, dt710)) rfl ?_
                exact ⟨dt710, rfl, hI711, hF713, (Or.inl ⟨rfl, ⟨by first | exact True.intro | with_reducible assumption | exact unhid (by with_reducible assumption) | rfl | fail | trivial, by first | exact True.intro | with_reducible assumption | exact unhid (by with_reducible assumption) | rfl | fail | trivial, by first | exact True.intro | with_reducible assumption | exact unhid (by with_reducible assumption) | rfl | fail | trivial⟩⟩)⟩
              · skip
                obtain ⟨h709_0, h709_1, h709_2, h709_3, h709_4, h709_5, h709_6, h709_7, h709_8⟩ := h709
                have w724 : dt710 79 2 = dt 79 2 := h709_3.trans w692
                have w725 : dt710 79 9 = dt 79 9 := h709_4.trans w693
                have w726 : dt710 79 10 = dt 79 10 := h709_5.trans w694
                have w727 : dt710 79 11 = dt644 79 11 := h709_6.trans w695
                have w728 : dt710 79 12 = dt 79 12 := h709_7.trans w696
                have w729 : dt710 79 20 = 0 := h709_8.trans w701
                clear h643_2
                have BL730 : ∀ j : Nat, (j : Int) < 4 * dt 79 10 → dt710 83 j = dt 83 j := fun j hj => (hF712 83 (by decide) j).trans (BL703 j hj)
                have y731 : dt710 83 ((4 * (dt 79 10))).toNat = 8 := (hF712 83 (by decide) _).trans y705
                have y732 : dt710 83 ((4 * (dt 79 10)) + 1).toNat = dt587 79 11 := (hF712 83 (by decide) _).trans y706
                have y733 : dt710 83 ((4 * (dt 79 10)) + 2).toNat = dt644 79 11 := (hF712 83 (by decide) _).trans y707
                have y734 : dt710 83 ((4 * (dt 79 10)) + 3).toNat = dt644 79 11 := (hF712 83 (by decide) _).trans y708
                clear y705 y706 y707 y708
                clear h709_3 w692 h709_4 w693 h709_5 w694 h709_6 w695 h709_7 w696 h709_8 w701
                refine go_retq PM173 (k := 0) (r := some (.inl 1)) (w1 := (SH, dt710)) rfl ?_
                exact ⟨dt710, rfl, hI711, hF713, (Or.inr ⟨rfl, ⟨by first | exact True.intro | with_reducible assumption | exact unhid (by with_reducible assumption) | rfl | (have z_ := unhid c566; omega) | trivial, by exact BL730, by exact ⟨by omega, PS_fin h643_4 (by first | exact AGR_e (by assumption) | exact AGR_e rfl | exact AGR_4 (by assumption) hI (by first | assumption | rfl) (by fail)) (by omega) (by omega), fun _ => by first | omega | exact PS_fin hI (by first | exact AGR_e (by assumption) | exact AGR_e rfl) (by fail) (by fail)⟩, by first | exact AGR_4 (by assumption) h643_5 (by first | assumption | rfl) (by omega) | exact AGR_5 (by assumption) hI (by first | assumption | rfl) h643_5 (by first | assumption | rfl) (by fail) (by fail), by first | exact True.intro | with_reducible assumption | exact unhid (by with_reducible assumption) | rfl | omega | trivial, by first | exact True.intro | with_reducible assumption | exact unhid (by with_reducible assumption) | rfl | omega | trivial, by first | exact True.intro | with_reducible assumption | exact unhid (by with_reducible assumption) | rfl | omega | trivial, by first | exact True.intro | with_reducible assumption | exact unhid (by with_reducible assumption) | rfl | fail | trivial, by exact (InvC_get (by assumption) 79 15 rfl rfl).2, by first | exact True.intro | with_reducible assumption | exact unhid (by with_reducible assumption) | rfl | fail | trivial, by first | exact True.intro | with_reducible assumption | exact unhid (by with_reducible assumption) | rfl | fail | trivial, by first | exact True.intro | with_reducible assumption | exact unhid (by with_reducible assumption) | rfl | fail | trivial, by first | exact True.intro | with_reducible assumption | exact unhid (by with_reducible assumption) | rfl | fail | trivial⟩⟩)⟩
            · skip
              refine go_toq PM173 (k := 1) (pc' := 155) (L' := [some (.inr (.inr (some 79))), some (.inl 0)]) (st' := [.inr (.inr (some 79))]) (w' := (SH, (u2 dt644 83 (((4 * (dt644 79 10)) + 2).toNat) (dt644 79 11)))) rfl ?_
              refine go_callq PM173 PM159 (Q' := _) rfl rfl rfl rfl (sp_X6_next0 L xs sio (d + 30) (u2 dt644 83 (((4 * (dt644 79 10)) + 2).toNat) (dt644 79 11)) hI669   (by first | exact True.intro | with_reducible assumption | exact unhid (by with_reducible assumption) | rfl | omega | trivial)) ?_
              rintro _ _ ⟨dt736, rfl, hI737, hF738, h735⟩
              refine ⟨rfl, ?_⟩
              have hF739 : Fr [79, 83, 84] dt dt736 := Fr_tr hF670 hF738 (by decide)
              have E84740 : dt736 84 = dt644 84 := (funext (hF738 84 (by decide))).trans E84681
              rcases h735 with ⟨rfl, h735⟩
              obtain ⟨h735_0, h735_1, h735_2, h735_3, h735_4, h735_5, h735_6, h735_7, h735_8⟩ := h735
              have w741 : dt736 79 2 = dt 79 2 := h735_3.trans w671
              have w742 : dt736 79 9 = dt 79 9 := h735_4.trans w672
              have w743 : dt736 79 10 = dt 79 10 := h735_5.trans w673
              have w744 : dt736 79 11 = dt644 79 11 := h735_6.trans w674
              have w745 : dt736 79 12 = dt 79 12 := h735_7.trans w675
              have w746 : dt736 79 20 = 0 := h735_8.trans w680
              have adv747 : (u2 dt644 83 (((4 * (dt644 79 10)) + 2).toNat) (dt644 79 11)) 79 15 + 1 ≤ (u2 dt644 83 (((4 * (dt644 79 10)) + 2).toNat) (dt644 79 11)) 79 13 := by omega
              clear h643_2
              have BL748 : ∀ j : Nat, (j : Int) < 4 * dt 79 10 → dt736 83 j = dt 83 j := fun j hj => (hF738 83 (by decide) j).trans (BL682 j hj)
              have y749 : dt736 83 ((4 * (dt 79 10))).toNat = 8 := (hF738 83 (by decide) _).trans y684
              have y750 : dt736 83 ((4 * (dt 79 10)) + 1).toNat = dt587 79 11 := (hF738 83 (by decide) _).trans y685
              have y751 : dt736 83 ((4 * (dt 79 10)) + 2).toNat = dt644 79 11 := (hF738 83 (by decide) _).trans y686
              have y752 : dt736 83 ((4 * (dt 79 10)) + 3).toNat = dt 83 ((4 * (dt 79 10)) + 3).toNat := (hF738 83 (by decide) _).trans y687
              clear y684 y685 y686 y687
              clear h735_3 w671 h735_4 w672 h735_5 w673 h735_6 w674 h735_7 w675 h735_8 w680
              refine go_toq PM173 (k := 1) (pc' := 159) (L' := [some (.inr (.inr (some 79))), some (.inl 0)]) (st' := [.inr (.inr (some 79))]) (w' := (SH, dt736)) rfl ?_
              refine go_callq PM173 PM168 (Q' := _) rfl rfl rfl rfl (sp_X6_any_0 L xs sio (d + 0) dt736 hI737   (by first | exact True.intro | with_reducible assumption | exact unhid (by with_reducible assumption) | rfl | fail | trivial) (by first | exact True.intro | with_reducible assumption | exact unhid (by with_reducible assumption) | rfl | omega | trivial) (by first | exact True.intro | with_reducible assumption | exact unhid (by with_reducible assumption) | rfl | fail | trivial)) ?_
              rintro _ _ ⟨dt754, rfl, hI755, hF756, h753⟩
              refine ⟨rfl, ?_⟩
              have hF757 : Fr [79, 83, 84] dt dt754 := Fr_tr hF739 hF756 (by decide)
              rcases h753 with ⟨rfl, h753⟩ | ⟨rfl, h753⟩
              · skip
                obtain ⟨h753_0, h753_1, h753_2, h753_3⟩ := h753
                have w758 : dt754 79 2 = dt 79 2 := h753_0.trans w741
                have w759 : dt754 79 9 = dt 79 9 := h753_1.trans w742
                have w760 : dt754 79 10 = dt 79 10 := h753_2.trans w743
                have w761 : dt754 79 12 = dt 79 12 := h753_3.trans w745
                have BL762 : ∀ j : Nat, (j : Int) < 4 * dt 79 10 → dt754 83 j = dt 83 j := fun j hj => (hF756 83 (by decide) j).trans (BL748 j hj)
                have y763 : dt754 83 ((4 * (dt 79 10))).toNat = 8 := (hF756 83 (by decide) _).trans y749
                have y764 : dt754 83 ((4 * (dt 79 10)) + 1).toNat = dt587 79 11 := (hF756 83 (by decide) _).trans y750
                have y765 : dt754 83 ((4 * (dt 79 10)) + 2).toNat = dt644 79 11 := (hF756 83 (by decide) _).trans y751
                have y766 : dt754 83 ((4 * (dt 79 10)) + 3).toNat = dt 83 ((4 * (dt 79 10)) + 3).toNat := (hF756 83 (by decide) _).trans y752
                clear y749 y750 y751 y752
                clear h753_0 w741 h753_1 w742 h753_2 h753_3 w745
                refine go_retq PM173 (k := 2) (r := some (.inl 0)) (w1 := (SH, dt754)) rfl ?_
                exact ⟨dt754, rfl, hI755, hF757, (Or.inl ⟨rfl, ⟨by first | exact True.intro | with_reducible assumption | exact unhid (by with_reducible assumption) | rfl | fail | trivial, by first | exact True.intro | with_reducible assumption | exact unhid (by with_reducible assumption) | rfl | fail | trivial, by first | exact True.intro | with_reducible assumption | exact unhid (by with_reducible assumption) | rfl | fail | trivial⟩⟩)⟩
              · skip
                obtain ⟨h753_0, h753_1, h753_2, h753_3, h753_4, h753_5, h753_6, h753_7, h753_8, h753_9, h753_10⟩ := h753
                have w767 : dt754 79 2 = dt 79 2 := h753_6.trans w741
                have w768 : dt754 79 9 = dt 79 9 := h753_7.trans w742
                have w769 : dt754 79 10 = dt 79 10 := h753_8.trans w743
                have w770 : dt754 79 12 = dt 79 12 := h753_9.trans w745
                have w771 : dt754 79 20 = 0 := h753_10.trans w746
                clear h735_1
                have BL772 : ∀ j : Nat, (j : Int) < 4 * dt 79 10 → dt754 83 j = dt 83 j := fun j hj => (hF756 83 (by decide) j).trans (BL748 j hj)
                have y773 : dt754 83 ((4 * (dt 79 10))).toNat = 8 := (hF756 83 (by decide) _).trans y749
                have y774 : dt754 83 ((4 * (dt 79 10)) + 1).toNat = dt587 79 11 := (hF756 83 (by decide) _).trans y750
                have y775 : dt754 83 ((4 * (dt 79 10)) + 2).toNat = dt644 79 11 := (hF756 83 (by decide) _).trans y751
                have y776 : dt754 83 ((4 * (dt 79 10)) + 3).toNat = dt 83 ((4 * (dt 79 10)) + 3).toNat := (hF756 83 (by decide) _).trans y752
                clear y749 y750 y751 y752
                clear h753_6 w741 h753_7 w742 h753_8 h753_9 w745 h753_10 w746
                have r777 : 0 ≤ dt754 79 10 ∧ dt754 79 10 ≤ 24 := InvC_get hI755 79 10 rfl rfl
                have r778 : 0 ≤ dt754 79 11 ∧ dt754 79 11 ≤ 510 := InvC_get hI755 79 11 rfl rfl
                refine go_toq PM173 (k := 11) (pc' := 183) (L' := [some (.inr (.inr (some 79))), some (.inl 0)]) (st' := [.inl (dt754 79 11), .inl ((4 * (dt754 79 10)) + 3), .inr (.inr (some 83))]) (w' := (SH, dt754)) rfl ?_
                have hI779 : InvC (u2 dt754 83 (((4 * (dt754 79 10)) + 3).toNat) (dt754 79 11)) := InvC_u2 hI755 (lo := -2147483648) (hi := 2147483647) rfl rfl rfl (by first | exact bnd1 r778 (by decide) | fail) (by first | exact bnd2 r778 (by decide) | fail)
                have hF780 : Fr [79, 83, 84] dt (u2 dt754 83 (((4 * (dt754 79 10)) + 3).toNat) (dt754 79 11)) := Fr_u2 hF757 (by decide)
                have w781 : (u2 dt754 83 (((4 * (dt754 79 10)) + 3).toNat) (dt754 79 11)) 79 2 = dt 79 2 := w767
                have w782 : (u2 dt754 83 (((4 * (dt754 79 10)) + 3).toNat) (dt754 79 11)) 79 9 = dt 79 9 := w768
                have w783 : (u2 dt754 83 (((4 * (dt754 79 10)) + 3).toNat) (dt754 79 11)) 79 10 = dt 79 10 := w769
                have w784 : (u2 dt754 83 (((4 * (dt754 79 10)) + 3).toNat) (dt754 79 11)) 79 11 = dt754 79 11 := rfl
                have w785 : (u2 dt754 83 (((4 * (dt754 79 10)) + 3).toNat) (dt754 79 11)) 79 12 = dt 79 12 := w770
                have w786 : (u2 dt754 83 (((4 * (dt754 79 10)) + 3).toNat) (dt754 79 11)) 79 13 = dt754 79 13 := rfl
                have w787 : (u2 dt754 83 (((4 * (dt754 79 10)) + 3).toNat) (dt754 79 11)) 79 14 = dt754 79 14 := rfl
                have w788 : (u2 dt754 83 (((4 * (dt754 79 10)) + 3).toNat) (dt754 79 11)) 79 15 = dt754 79 15 := rfl
                have w789 : (u2 dt754 83 (((4 * (dt754 79 10)) + 3).toNat) (dt754 79 11)) 79 16 = dt754 79 16 := rfl
                have w790 : (u2 dt754 83 (((4 * (dt754 79 10)) + 3).toNat) (dt754 79 11)) 79 20 = 0 := w771
                have E84791 : (u2 dt754 83 (((4 * (dt754 79 10)) + 3).toNat) (dt754 79 11)) 84 = dt754 84 := funext fun _ => rfl
                have ex793 : ((4 * (dt 79 10)) + 3).toNat = ((4 * (dt754 79 10)) + 3).toNat := by rw [show dt754 79 10 = dt 79 10 from w783]
                have BL792 : ∀ j : Nat, (j : Int) < 4 * dt 79 10 → (u2 dt754 83 (((4 * (dt754 79 10)) + 3).toNat) (dt754 79 11)) 83 j = dt 83 j := fun j hj => (u2_ne (fun z_ => xb hj (show (0 : Int) ≤ 3 by decide) (z_.2.trans ex793.symm))).trans (BL772 j hj)
                have y794 : (u2 dt754 83 (((4 * (dt754 79 10)) + 3).toNat) (dt754 79 11)) 83 ((4 * (dt 79 10))).toNat = 8 := (u2_ne (fun z_ => (xr0 hA0 (by decide)) (z_.2.trans ex793.symm))).trans y773
                have y795 : (u2 dt754 83 (((4 * (dt754 79 10)) + 3).toNat) (dt754 79 11)) 83 ((4 * (dt 79 10)) + 1).toNat = dt587 79 11 := (u2_ne (fun z_ => (xr hA0 (by decide) (by decide) (by decide)) (z_.2.trans ex793.symm))).trans y774
                have y796 : (u2 dt754 83 (((4 * (dt754 79 10)) + 3).toNat) (dt754 79 11)) 83 ((4 * (dt 79 10)) + 2).toNat = dt644 79 11 := (u2_ne (fun z_ => (xr hA0 (by decide) (by decide) (by decide)) (z_.2.trans ex793.symm))).trans y775
                have y797 : (u2 dt754 83 (((4 * (dt754 79 10)) + 3).toNat) (dt754 79 11)) 83 ((4 * (dt 79 10)) + 3).toNat = dt754 79 11 := by rw [ex793]; exact u2_eq
                clear y773 y774 y775 y776
                refine go_smpq PM173 (L' := [some (.inr (.inr (some 79))), some (.inl 0)]) (st' := []) (w' := (SH, (u2 dt754 83 (((4 * (dt754 79 10)) + 3).toNat) (dt754 79 11)))) rfl rfl (s_iast (n := 64) rfl ⟨by omega, by (have z_ := unhid c566; omega)⟩ (by first | exact bnd r778 (by decide) (by decide) | exact ⟨by fail, by fail⟩)) ?_
                refine go_toq PM173 (k := 2) (pc' := 188) (L' := [some (.inr (.inr (some 79))), some (.inl 0)]) (st' := [.inl 159, .inr (.inr (some 79))]) (w' := (SH, (u2 dt754 83 (((4 * (dt754 79 10)) + 3).toNat) (dt754 79 11)))) rfl ?_
                refine go_callq PM173 PM161 (Q' := _) rfl rfl rfl rfl (sp_X6_need0 L xs sio (d + 29) (u2 dt754 83 (((4 * (dt754 79 10)) + 3).toNat) (dt754 79 11)) hI779  159 ⟨by decide, by decide⟩ (by first | exact True.intro | with_reducible assumption | exact unhid (by with_reducible assumption) | rfl | omega | trivial)) ?_
                rintro _ _ ⟨dt799, rfl, hI800, hF801, h798⟩
                refine ⟨rfl, ?_⟩
                have hF802 : Fr [79, 83, 84] dt dt799 := Fr_tr hF780 hF801 (by decide)
                have E84803 : dt799 84 = dt754 84 := (funext (hF801 84 (by decide))).trans E84791
                rcases h798 with ⟨rfl, h798⟩ | ⟨rfl, h798⟩
                · skip
                  obtain ⟨h798_0, h798_1, h798_2, h798_3⟩ := h798
                  have w804 : dt799 79 2 = dt 79 2 := h798_0.trans w781
                  have w805 : dt799 79 9 = dt 79 9 := h798_1.trans w782
                  have w806 : dt799 79 10 = dt 79 10 := h798_2.trans w783
                  have w807 : dt799 79 12 = dt 79 12 := h798_3.trans w785
                  have BL808 : ∀ j : Nat, (j : Int) < 4 * dt 79 10 → dt799 83 j = dt 83 j := fun j hj => (hF801 83 (by decide) j).trans (BL792 j hj)
                  have y809 : dt799 83 ((4 * (dt 79 10))).toNat = 8 := (hF801 83 (by decide) _).trans y794
                  have y810 : dt799 83 ((4 * (dt 79 10)) + 1).toNat = dt587 79 11 := (hF801 83 (by decide) _).trans y795
                  have y811 : dt799 83 ((4 * (dt 79 10)) + 2).toNat = dt644 79 11 := (hF801 83 (by decide) _).trans y796
                  have y812 : dt799 83 ((4 * (dt 79 10)) + 3).toNat = dt754 79 11 := (hF801 83 (by decide) _).trans y797
                  clear y794 y795 y796 y797
                  clear h798_0 w781 h798_1 w782 h798_2 w783 h798_3 w785
                  refine go_retq PM173 (k := 0) (r := some (.inl 0)) (w1 := (SH, dt799)) rfl ?_
                  exact ⟨dt799, rfl, hI800, hF802, (Or.inl ⟨rfl, ⟨by first | exact True.intro | with_reducible assumption | exact unhid (by with_reducible assumption) | rfl | fail | trivial, by first | exact True.intro | with_reducible assumption | exact unhid (by with_reducible assumption) | rfl | fail | trivial, by first | exact True.intro | with_reducible assumption | exact unhid (by with_reducible assumption) | rfl | fail | trivial⟩⟩)⟩
                · skip
                  obtain ⟨h798_0, h798_1, h798_2, h798_3, h798_4, h798_5, h798_6, h798_7, h798_8⟩ := h798
                  have w813 : dt799 79 2 = dt 79 2 := h798_3.trans w781
                  have w814 : dt799 79 9 = dt 79 9 := h798_4.trans w782
                  have w815 : dt799 79 10 = dt 79 10 := h798_5.trans w783
                  have w816 : dt799 79 11 = dt754 79 11 := h798_6.trans w784
                  have w817 : dt799 79 12 = dt 79 12 := h798_7.trans w785
                  have w818 : dt799 79 20 = 0 := h798_8.trans w790
                  clear h753_2
                  have BL819 : ∀ j : Nat, (j : Int) < 4 * dt 79 10 → dt799 83 j = dt 83 j := fun j hj => (hF801 83 (by decide) j).trans (BL792 j hj)
                  have y820 : dt799 83 ((4 * (dt 79 10))).toNat = 8 := (hF801 83 (by decide) _).trans y794
                  have y821 : dt799 83 ((4 * (dt 79 10)) + 1).toNat = dt587 79 11 := (hF801 83 (by decide) _).trans y795
                  have y822 : dt799 83 ((4 * (dt 79 10)) + 2).toNat = dt644 79 11 := (hF801 83 (by decide) _).trans y796
                  have y823 : dt799 83 ((4 * (dt 79 10)) + 3).toNat = dt754 79 11 := (hF801 83 (by decide) _).trans y797
                  clear y794 y795 y796 y797
                  clear h798_3 w781 h798_4 w782 h798_5 w783 h798_6 w784 h798_7 w785 h798_8 w790
                  refine go_retq PM173 (k := 0) (r := some (.inl 1)) (w1 := (SH, dt799)) rfl ?_
                  exact ⟨dt799, rfl, hI800, hF802, (Or.inr ⟨rfl, ⟨by first | exact True.intro | with_reducible assumption | exact unhid (by with_reducible assumption) | rfl | (have z_ := unhid c566; omega) | trivial, by exact BL819, by exact ⟨by omega, PS_fin h643_4 (by first | exact AGR_e (by assumption) | exact AGR_e rfl | exact AGR_4 (by assumption) h753_5 (by first | assumption | rfl) (by omega)) (by omega) (by omega), fun _ => by first | fail | exact PS_fin h753_4 (by first | exact AGR_e (by assumption) | exact AGR_e rfl) (by omega) (by omega)⟩, by first | exact AGR_4 (by assumption) h643_5 (by first | assumption | rfl) (by fail) | exact AGR_5 (by assumption) h753_5 (by first | assumption | rfl) h643_5 (by first | assumption | rfl) (by omega) (by omega), by first | exact True.intro | with_reducible assumption | exact unhid (by with_reducible assumption) | rfl | omega | trivial, by first | exact True.intro | with_reducible assumption | exact unhid (by with_reducible assumption) | rfl | omega | trivial, by first | exact True.intro | with_reducible assumption | exact unhid (by with_reducible assumption) | rfl | omega | trivial, by first | exact True.intro | with_reducible assumption | exact unhid (by with_reducible assumption) | rfl | fail | trivial, by exact (InvC_get (by assumption) 79 15 rfl rfl).2, by first | exact True.intro | with_reducible assumption | exact unhid (by with_reducible assumption) | rfl | fail | trivial, by first | exact True.intro | with_reducible assumption | exact unhid (by with_reducible assumption) | rfl | fail | trivial, by first | exact True.intro | with_reducible assumption | exact unhid (by with_reducible assumption) | rfl | fail | trivial, by first | exact True.intro | with_reducible assumption | exact unhid (by with_reducible assumption) | rfl | fail | trivial⟩⟩)⟩
        · exfalso; omega
      · skip
        refine go_toq PM173 (k := 2) (pc' := 35) (L' := [some (.inr (.inr (some 79))), none]) (st' := [.inl 3, .inr (.inr (some 79))]) (w' := (SH, dt)) rfl ?_
        refine go_callq PM173 PM160 (Q' := _) rfl rfl rfl rfl (sp_X6_bad L xs sio (d + 36) dt hI  3 ⟨by decide, by decide⟩ ) ?_
        rintro _ _ ⟨dt825, rfl, hI826, hF827, h824⟩
        refine ⟨rfl, ?_⟩
        have hF828 : Fr [79, 83, 84] dt dt825 := Fr_tr hF hF827 (by decide)
        have E84829 : dt825 84 = dt 84 := funext (hF827 84 (by decide))
        rcases h824 with ⟨rfl, h824⟩
        obtain ⟨h824_0, h824_1, h824_2, h824_3, h824_4, h824_5⟩ := h824
        have w830 : dt825 79 2 = dt 79 2 := h824_0
        have w831 : dt825 79 9 = dt 79 9 := h824_1
        have w832 : dt825 79 10 = dt 79 10 := h824_2
        have w833 : dt825 79 11 = dt 79 11 := h824_3
        have w834 : dt825 79 12 = dt 79 12 := h824_4
        have w835 : dt825 79 20 = dt 79 20 := h824_5
        have BL836 : ∀ j : Nat, (j : Int) < 4 * dt 79 10 → dt825 83 j = dt 83 j := fun j hj => (hF827 83 (by decide) j).trans ((fun _ _ => rfl) j hj)
        have y837 : dt825 83 ((4 * (dt 79 10))).toNat = dt 83 ((4 * (dt 79 10))).toNat := hF827 83 (by decide) _
        have y838 : dt825 83 ((4 * (dt 79 10)) + 1).toNat = dt 83 ((4 * (dt 79 10)) + 1).toNat := hF827 83 (by decide) _
        have y839 : dt825 83 ((4 * (dt 79 10)) + 2).toNat = dt 83 ((4 * (dt 79 10)) + 2).toNat := hF827 83 (by decide) _
        have y840 : dt825 83 ((4 * (dt 79 10)) + 3).toNat = dt 83 ((4 * (dt 79 10)) + 3).toNat := hF827 83 (by decide) _
        clear h824_0 h824_1 h824_2 h824_3 h824_4 h824_5
        refine go_retq PM173 (k := 0) (r := some (.inl 0)) (w1 := (SH, dt825)) rfl ?_
        exact ⟨dt825, rfl, hI826, hF828, (Or.inl ⟨rfl, ⟨by first | exact True.intro | with_reducible assumption | exact unhid (by with_reducible assumption) | rfl | fail | trivial, by first | exact True.intro | with_reducible assumption | exact unhid (by with_reducible assumption) | rfl | fail | trivial, by first | exact True.intro | with_reducible assumption | exact unhid (by with_reducible assumption) | rfl | fail | trivial⟩⟩)⟩
    · skip
      replace c565 := hid c565
      refine go_toq PM173 (k := 2) (pc' := 20) (L' := [some (.inr (.inr (some 79))), none]) (st' := [.inl 1, .inr (.inr (some 79))]) (w' := (SH, dt)) rfl ?_
      refine go_callq PM173 PM160 (Q' := _) rfl rfl rfl rfl (sp_X6_bad L xs sio (d + 36) dt hI  1 ⟨by decide, by decide⟩ ) ?_
      rintro _ _ ⟨dt842, rfl, hI843, hF844, h841⟩
      refine ⟨rfl, ?_⟩
      have hF845 : Fr [79, 83, 84] dt dt842 := Fr_tr hF hF844 (by decide)
      have E84846 : dt842 84 = dt 84 := funext (hF844 84 (by decide))
      rcases h841 with ⟨rfl, h841⟩
      obtain ⟨h841_0, h841_1, h841_2, h841_3, h841_4, h841_5⟩ := h841
      have w847 : dt842 79 2 = dt 79 2 := h841_0
      have w848 : dt842 79 9 = dt 79 9 := h841_1
      have w849 : dt842 79 10 = dt 79 10 := h841_2
      have w850 : dt842 79 11 = dt 79 11 := h841_3
      have w851 : dt842 79 12 = dt 79 12 := h841_4
      have w852 : dt842 79 20 = dt 79 20 := h841_5
      have BL853 : ∀ j : Nat, (j : Int) < 4 * dt 79 10 → dt842 83 j = dt 83 j := fun j hj => (hF844 83 (by decide) j).trans ((fun _ _ => rfl) j hj)
      have y854 : dt842 83 ((4 * (dt 79 10))).toNat = dt 83 ((4 * (dt 79 10))).toNat := hF844 83 (by decide) _
      have y855 : dt842 83 ((4 * (dt 79 10)) + 1).toNat = dt 83 ((4 * (dt 79 10)) + 1).toNat := hF844 83 (by decide) _
      have y856 : dt842 83 ((4 * (dt 79 10)) + 2).toNat = dt 83 ((4 * (dt 79 10)) + 2).toNat := hF844 83 (by decide) _
      have y857 : dt842 83 ((4 * (dt 79 10)) + 3).toNat = dt 83 ((4 * (dt 79 10)) + 3).toNat := hF844 83 (by decide) _
      clear h841_0 h841_1 h841_2 h841_3 h841_4 h841_5
      refine go_retq PM173 (k := 0) (r := some (.inl 0)) (w1 := (SH, dt842)) rfl ?_
      exact ⟨dt842, rfl, hI843, hF845, (Or.inl ⟨rfl, ⟨by first | exact True.intro | with_reducible assumption | exact unhid (by with_reducible assumption) | rfl | fail | trivial, by first | exact True.intro | with_reducible assumption | exact unhid (by with_reducible assumption) | rfl | fail | trivial, by first | exact True.intro | with_reducible assumption | exact unhid (by with_reducible assumption) | rfl | fail | trivial⟩⟩)⟩
