set_option maxHeartbeats 8000000 in
set_option maxRecDepth 20000 in
theorem sp_X6_aLine (L : Nat) (xs : Nat → Int32) (sio : Option Nat) (d : Nat) (dt : Nat → Nat → Int) (hI : InvC dt)   (h_p0 : (¬ dt 79 14 = 0 → dt 79 15 + 1 ≤ dt 79 13) ∧ dt 79 13 ≤ 500) (h_p1 : dt 79 11 ≤ dt 79 15) (h_p2 : dt 79 10 ≤ 16) : GO (am_XX L xs sio) (d + 37) 173 0 [some (.inr (.inr (some 79))), none] [] (SH, dt) (fun r w2 => ∃ dt2 : Nat → Nat → Int, w2 = (SH, dt2) ∧ InvC dt2 ∧ Fr [79, 83, 84] dt dt2 ∧ ((r = some (.inl 0) ∧ (dt2 79 2 = dt 79 2) ∧ (dt2 79 9 = dt 79 9) ∧ (dt2 79 12 = dt 79 12)) ∨ (r = some (.inl 1) ∧ (dt 79 10 ≤ 15) ∧ (∀ j : Nat, (j : Int) < 4 * dt 79 10 → dt2 83 j = dt 83 j) ∧ (LR (dt2 83 ((4 * (dt 79 10)) + 1).toNat) (dt2 83 ((4 * (dt 79 10)) + 2).toNat) (dt2 83 ((4 * (dt 79 10)) + 3).toNat) (dt2 79 11) (dt2 84)) ∧ (AGR (dt2 84) (dt 84) (dt 79 11)) ∧ (dt 79 11 ≤ dt2 79 11) ∧ (dt 79 15 + dt2 79 11 ≤ dt2 79 15 + dt 79 11) ∧ (dt 79 15 + 1 ≤ dt2 79 15) ∧ ((¬ dt2 79 14 = 0 → dt2 79 15 + 1 ≤ dt2 79 13) ∧ dt2 79 13 ≤ 500) ∧ (dt2 79 15 ≤ 500) ∧ (dt2 79 2 = dt 79 2) ∧ (dt2 79 9 = dt 79 9) ∧ (dt2 79 10 = dt 79 10) ∧ (dt2 79 12 = dt 79 12)))) := by
  have hF : Fr [79, 83, 84] dt dt := Fr_refl
  have r1 : 0 ≤ dt 79 15 ∧ dt 79 15 ≤ 500 := InvC_get hI 79 15 rfl rfl
  have r2 : 0 ≤ dt 79 11 ∧ dt 79 11 ≤ 510 := InvC_get hI 79 11 rfl rfl
  have r3 : 0 ≤ dt 79 10 ∧ dt 79 10 ≤ 24 := InvC_get hI 79 10 rfl rfl
  have r4 : (-2147483648) ≤ dt 79 14 ∧ dt 79 14 ≤ 2147483647 := InvC_get hI 79 14 rfl rfl
  refine go_ifq PM173 (k := 3) (p1 := 24) (p2 := 9) (L' := [some (.inr (.inr (some 79))), none]) (st' := []) (w' := (SH, dt)) rfl (c_eq (a := dt 79 14) (b := 7) (by first | exact bnd r4 (by decide) (by decide) | exact ⟨by omega, by omega⟩) ⟨by decide, by decide⟩) (fun c5 => ?_) (fun c5 => ?_)
  · skip
    refine go_ifq PM173 (k := 3) (p1 := 39) (p2 := 33) (L' := [some (.inr (.inr (some 79))), none]) (st' := []) (w' := (SH, dt)) rfl (c_ne (a := dt 79 10) (b := 16) (by first | exact bnd r3 (by decide) (by decide) | exact ⟨by omega, by omega⟩) ⟨by decide, by decide⟩) (fun c6 => ?_) (fun c6 => ?_)
    · skip
      refine go_ifq PM173 (k := 3) (p1 := 52) (p2 := 48) (L' := [some (.inr (.inr (some 79))), none]) (st' := []) (w' := (SH, dt)) rfl (c_ne (a := dt 79 14) (b := 7) (by first | exact bnd r4 (by decide) (by decide) | exact ⟨by omega, by omega⟩) ⟨by decide, by decide⟩) (fun c7 => ?_) (fun c7 => ?_)
      · skip
        refine go_toq PM173 (k := 4) (pc' := 56) (L' := [some (.inr (.inr (some 79))), some (.inl 0)]) (st' := [.inl 0, .inr (.inr (some 79))]) (w' := (SH, dt)) rfl ?_
        have hI8 : InvC (u2 dt 79 20 0) := InvC_u2 hI (lo := 0) (hi := 8) rfl rfl rfl (by decide) (by decide)
        have hF9 : Fr [79, 83, 84] dt (u2 dt 79 20 0) := Fr_u2 hF (by decide)
        have w10 : (u2 dt 79 20 0) 79 2 = dt 79 2 := rfl
        have w11 : (u2 dt 79 20 0) 79 9 = dt 79 9 := rfl
        have w12 : (u2 dt 79 20 0) 79 10 = dt 79 10 := rfl
        have w13 : (u2 dt 79 20 0) 79 11 = dt 79 11 := rfl
        have w14 : (u2 dt 79 20 0) 79 12 = dt 79 12 := rfl
        have w15 : (u2 dt 79 20 0) 79 13 = dt 79 13 := rfl
        have w16 : (u2 dt 79 20 0) 79 14 = dt 79 14 := rfl
        have w17 : (u2 dt 79 20 0) 79 15 = dt 79 15 := rfl
        have w18 : (u2 dt 79 20 0) 79 16 = dt 79 16 := rfl
        have w19 : (u2 dt 79 20 0) 79 20 = 0 := rfl
        have E8420 : (u2 dt 79 20 0) 84 = dt 84 := funext fun _ => rfl
        have BL21 : ∀ j : Nat, (j : Int) < 4 * dt 79 10 → (u2 dt 79 20 0) 83 j = dt 83 j := fun j hj => (u2_ne (by omega)).trans ((fun _ _ => rfl) j hj)
        have y22 : (u2 dt 79 20 0) 83 ((4 * (dt 79 10))).toNat = dt 83 ((4 * (dt 79 10))).toNat := rfl
        have y23 : (u2 dt 79 20 0) 83 ((4 * (dt 79 10)) + 1).toNat = dt 83 ((4 * (dt 79 10)) + 1).toNat := rfl
        have y24 : (u2 dt 79 20 0) 83 ((4 * (dt 79 10)) + 2).toNat = dt 83 ((4 * (dt 79 10)) + 2).toNat := rfl
        have y25 : (u2 dt 79 20 0) 83 ((4 * (dt 79 10)) + 3).toNat = dt 83 ((4 * (dt 79 10)) + 3).toNat := rfl
        refine go_smpq PM173 (L' := [some (.inr (.inr (some 79))), some (.inl 0)]) (st' := []) (w' := (SH, (u2 dt 79 20 0))) rfl rfl (s_pf rfl rfl rfl rfl ⟨by decide, by decide⟩) ?_
        refine go_toq PM173 (k := 1) (pc' := 60) (L' := [some (.inr (.inr (some 79))), some (.inl 0)]) (st' := [.inr (.inr (some 79))]) (w' := (SH, (u2 dt 79 20 0))) rfl ?_
        refine go_callq PM173 PM159 (Q' := _) rfl rfl rfl rfl (sp_X6_next0 L xs sio (d + 30) (u2 dt 79 20 0) hI8   (by first | exact True.intro | rfl | omega | trivial)) ?_
        rintro _ _ ⟨dt27, rfl, hI28, hF29, h26⟩
        refine ⟨rfl, ?_⟩
        have hF30 : Fr [79, 83, 84] dt dt27 := Fr_tr hF9 hF29 (by decide)
        have E8431 : dt27 84 = dt 84 := (funext (hF29 84 (by decide))).trans E8420
        rcases h26 with ⟨rfl, h26⟩
        obtain ⟨h26_0, h26_1, h26_2, h26_3, h26_4, h26_5, h26_6, h26_7, h26_8⟩ := h26
        have hadv0 : dt 79 15 + 1 ≤ dt 79 13 := by omega
        clear h_p0
        have BL32 : ∀ j : Nat, (j : Int) < 4 * dt 79 10 → dt27 83 j = dt 83 j := fun j hj => (hF29 83 (by decide) j).trans (BL21 j hj)
        have y33 : dt27 83 ((4 * (dt 79 10))).toNat = (u2 dt 79 20 0) 83 ((4 * (dt 79 10))).toNat := hF29 83 (by decide) _
        have y34 : dt27 83 ((4 * (dt 79 10)) + 1).toNat = (u2 dt 79 20 0) 83 ((4 * (dt 79 10)) + 1).toNat := hF29 83 (by decide) _
        have y35 : dt27 83 ((4 * (dt 79 10)) + 2).toNat = (u2 dt 79 20 0) 83 ((4 * (dt 79 10)) + 2).toNat := hF29 83 (by decide) _
        have y36 : dt27 83 ((4 * (dt 79 10)) + 3).toNat = (u2 dt 79 20 0) 83 ((4 * (dt 79 10)) + 3).toNat := hF29 83 (by decide) _
        have r37 : 0 ≤ dt27 79 10 ∧ dt27 79 10 ≤ 24 := InvC_get hI28 79 10 rfl rfl
        refine go_toq PM173 (k := 9) (pc' := 86) (L' := [some (.inr (.inr (some 79))), some (.inl 0)]) (st' := [.inl 8, .inl (4 * (dt27 79 10)), .inr (.inr (some 83))]) (w' := (SH, dt27)) rfl ?_
        have hI38 : InvC (u2 dt27 83 ((4 * (dt27 79 10)).toNat) 8) := InvC_u2 hI28 (lo := -2147483648) (hi := 2147483647) rfl rfl rfl (by decide) (by decide)
        have hF39 : Fr [79, 83, 84] dt (u2 dt27 83 ((4 * (dt27 79 10)).toNat) 8) := Fr_u2 hF30 (by decide)
        have w40 : (u2 dt27 83 ((4 * (dt27 79 10)).toNat) 8) 79 2 = dt27 79 2 := rfl
        have w41 : (u2 dt27 83 ((4 * (dt27 79 10)).toNat) 8) 79 9 = dt27 79 9 := rfl
        have w42 : (u2 dt27 83 ((4 * (dt27 79 10)).toNat) 8) 79 10 = dt27 79 10 := rfl
        have w43 : (u2 dt27 83 ((4 * (dt27 79 10)).toNat) 8) 79 11 = dt27 79 11 := rfl
        have w44 : (u2 dt27 83 ((4 * (dt27 79 10)).toNat) 8) 79 12 = dt27 79 12 := rfl
        have w45 : (u2 dt27 83 ((4 * (dt27 79 10)).toNat) 8) 79 13 = dt27 79 13 := rfl
        have w46 : (u2 dt27 83 ((4 * (dt27 79 10)).toNat) 8) 79 14 = dt27 79 14 := rfl
        have w47 : (u2 dt27 83 ((4 * (dt27 79 10)).toNat) 8) 79 15 = dt27 79 15 := rfl
        have w48 : (u2 dt27 83 ((4 * (dt27 79 10)).toNat) 8) 79 16 = dt27 79 16 := rfl
        have w49 : (u2 dt27 83 ((4 * (dt27 79 10)).toNat) 8) 79 20 = dt27 79 20 := rfl
        have E8450 : (u2 dt27 83 ((4 * (dt27 79 10)).toNat) 8) 84 = dt 84 := (funext fun _ => rfl).trans E8431
        have ex52 : ((4 * (dt 79 10))).toNat = (4 * (dt27 79 10)).toNat := by omega
        have BL51 : ∀ j : Nat, (j : Int) < 4 * dt 79 10 → (u2 dt27 83 ((4 * (dt27 79 10)).toNat) 8) 83 j = dt 83 j := fun j hj => (u2_ne (by omega)).trans (BL32 j hj)
        have y53 : (u2 dt27 83 ((4 * (dt27 79 10)).toNat) 8) 83 ((4 * (dt 79 10))).toNat = 8 := by rw [ex52]; exact u2_eq
        have y54 : (u2 dt27 83 ((4 * (dt27 79 10)).toNat) 8) 83 ((4 * (dt 79 10)) + 1).toNat = dt27 83 ((4 * (dt 79 10)) + 1).toNat := u2_ne (by omega)
        have y55 : (u2 dt27 83 ((4 * (dt27 79 10)).toNat) 8) 83 ((4 * (dt 79 10)) + 2).toNat = dt27 83 ((4 * (dt 79 10)) + 2).toNat := u2_ne (by omega)
        have y56 : (u2 dt27 83 ((4 * (dt27 79 10)).toNat) 8) 83 ((4 * (dt 79 10)) + 3).toNat = dt27 83 ((4 * (dt 79 10)) + 3).toNat := u2_ne (by omega)
        refine go_smpq PM173 (L' := [some (.inr (.inr (some 79))), some (.inl 0)]) (st' := []) (w' := (SH, (u2 dt27 83 ((4 * (dt27 79 10)).toNat) 8))) rfl rfl (s_iast (n := 64) rfl ⟨by omega, by omega⟩ ⟨by decide, by decide⟩) ?_
        have r57 : 0 ≤ dt27 79 11 ∧ dt27 79 11 ≤ 510 := InvC_get hI28 79 11 rfl rfl
        refine go_toq PM173 (k := 12) (pc' := 119) (L' := [some (.inr (.inr (some 79))), some (.inl 0)]) (st' := [.inl (dt27 79 11), .inl ((4 * (dt27 79 10)) + 1), .inr (.inr (some 83))]) (w' := (SH, (u2 dt27 83 ((4 * (dt27 79 10)).toNat) 8))) rfl ?_
        have hI58 : InvC (u2 (u2 dt27 83 ((4 * (dt27 79 10)).toNat) 8) 83 (((4 * (dt27 79 10)) + 1).toNat) (dt27 79 11)) := InvC_u2 hI38 (lo := -2147483648) (hi := 2147483647) rfl rfl rfl (by first | exact bnd1 r57 (by decide) | omega) (by first | exact bnd2 r57 (by decide) | omega)
        have hF59 : Fr [79, 83, 84] dt (u2 (u2 dt27 83 ((4 * (dt27 79 10)).toNat) 8) 83 (((4 * (dt27 79 10)) + 1).toNat) (dt27 79 11)) := Fr_u2 hF39 (by decide)
        have w60 : (u2 (u2 dt27 83 ((4 * (dt27 79 10)).toNat) 8) 83 (((4 * (dt27 79 10)) + 1).toNat) (dt27 79 11)) 79 2 = (u2 dt27 83 ((4 * (dt27 79 10)).toNat) 8) 79 2 := rfl
        have w61 : (u2 (u2 dt27 83 ((4 * (dt27 79 10)).toNat) 8) 83 (((4 * (dt27 79 10)) + 1).toNat) (dt27 79 11)) 79 9 = (u2 dt27 83 ((4 * (dt27 79 10)).toNat) 8) 79 9 := rfl
        have w62 : (u2 (u2 dt27 83 ((4 * (dt27 79 10)).toNat) 8) 83 (((4 * (dt27 79 10)) + 1).toNat) (dt27 79 11)) 79 10 = (u2 dt27 83 ((4 * (dt27 79 10)).toNat) 8) 79 10 := rfl
        have w63 : (u2 (u2 dt27 83 ((4 * (dt27 79 10)).toNat) 8) 83 (((4 * (dt27 79 10)) + 1).toNat) (dt27 79 11)) 79 11 = (u2 dt27 83 ((4 * (dt27 79 10)).toNat) 8) 79 11 := rfl
        have w64 : (u2 (u2 dt27 83 ((4 * (dt27 79 10)).toNat) 8) 83 (((4 * (dt27 79 10)) + 1).toNat) (dt27 79 11)) 79 12 = (u2 dt27 83 ((4 * (dt27 79 10)).toNat) 8) 79 12 := rfl
        have w65 : (u2 (u2 dt27 83 ((4 * (dt27 79 10)).toNat) 8) 83 (((4 * (dt27 79 10)) + 1).toNat) (dt27 79 11)) 79 13 = (u2 dt27 83 ((4 * (dt27 79 10)).toNat) 8) 79 13 := rfl
        have w66 : (u2 (u2 dt27 83 ((4 * (dt27 79 10)).toNat) 8) 83 (((4 * (dt27 79 10)) + 1).toNat) (dt27 79 11)) 79 14 = (u2 dt27 83 ((4 * (dt27 79 10)).toNat) 8) 79 14 := rfl
        have w67 : (u2 (u2 dt27 83 ((4 * (dt27 79 10)).toNat) 8) 83 (((4 * (dt27 79 10)) + 1).toNat) (dt27 79 11)) 79 15 = (u2 dt27 83 ((4 * (dt27 79 10)).toNat) 8) 79 15 := rfl
        have w68 : (u2 (u2 dt27 83 ((4 * (dt27 79 10)).toNat) 8) 83 (((4 * (dt27 79 10)) + 1).toNat) (dt27 79 11)) 79 16 = (u2 dt27 83 ((4 * (dt27 79 10)).toNat) 8) 79 16 := rfl
        have w69 : (u2 (u2 dt27 83 ((4 * (dt27 79 10)).toNat) 8) 83 (((4 * (dt27 79 10)) + 1).toNat) (dt27 79 11)) 79 20 = (u2 dt27 83 ((4 * (dt27 79 10)).toNat) 8) 79 20 := rfl
        have E8470 : (u2 (u2 dt27 83 ((4 * (dt27 79 10)).toNat) 8) 83 (((4 * (dt27 79 10)) + 1).toNat) (dt27 79 11)) 84 = dt 84 := (funext fun _ => rfl).trans E8450
        have ex72 : ((4 * (dt 79 10)) + 1).toNat = ((4 * (dt27 79 10)) + 1).toNat := by omega
        have BL71 : ∀ j : Nat, (j : Int) < 4 * dt 79 10 → (u2 (u2 dt27 83 ((4 * (dt27 79 10)).toNat) 8) 83 (((4 * (dt27 79 10)) + 1).toNat) (dt27 79 11)) 83 j = dt 83 j := fun j hj => (u2_ne (by omega)).trans (BL51 j hj)
        have y73 : (u2 (u2 dt27 83 ((4 * (dt27 79 10)).toNat) 8) 83 (((4 * (dt27 79 10)) + 1).toNat) (dt27 79 11)) 83 ((4 * (dt 79 10))).toNat = (u2 dt27 83 ((4 * (dt27 79 10)).toNat) 8) 83 ((4 * (dt 79 10))).toNat := u2_ne (by omega)
        have y74 : (u2 (u2 dt27 83 ((4 * (dt27 79 10)).toNat) 8) 83 (((4 * (dt27 79 10)) + 1).toNat) (dt27 79 11)) 83 ((4 * (dt 79 10)) + 1).toNat = dt27 79 11 := by rw [ex72]; exact u2_eq
        have y75 : (u2 (u2 dt27 83 ((4 * (dt27 79 10)).toNat) 8) 83 (((4 * (dt27 79 10)) + 1).toNat) (dt27 79 11)) 83 ((4 * (dt 79 10)) + 2).toNat = (u2 dt27 83 ((4 * (dt27 79 10)).toNat) 8) 83 ((4 * (dt 79 10)) + 2).toNat := u2_ne (by omega)
        have y76 : (u2 (u2 dt27 83 ((4 * (dt27 79 10)).toNat) 8) 83 (((4 * (dt27 79 10)) + 1).toNat) (dt27 79 11)) 83 ((4 * (dt 79 10)) + 3).toNat = (u2 dt27 83 ((4 * (dt27 79 10)).toNat) 8) 83 ((4 * (dt 79 10)) + 3).toNat := u2_ne (by omega)
        refine go_smpq PM173 (L' := [some (.inr (.inr (some 79))), some (.inl 0)]) (st' := []) (w' := (SH, (u2 (u2 dt27 83 ((4 * (dt27 79 10)).toNat) 8) 83 (((4 * (dt27 79 10)) + 1).toNat) (dt27 79 11)))) rfl rfl (s_iast (n := 64) rfl ⟨by omega, by omega⟩ (by first | exact bnd r57 (by decide) (by decide) | exact ⟨by omega, by omega⟩)) ?_
        refine go_toq PM173 (k := 1) (pc' := 121) (L' := [some (.inr (.inr (some 79))), some (.inl 0)]) (st' := [.inr (.inr (some 79))]) (w' := (SH, (u2 (u2 dt27 83 ((4 * (dt27 79 10)).toNat) 8) 83 (((4 * (dt27 79 10)) + 1).toNat) (dt27 79 11)))) rfl ?_
        refine go_callq PM173 PM165 (Q' := _) rfl rfl rfl rfl (sp_X6_sumUp L xs sio (d + 27) (u2 (u2 dt27 83 ((4 * (dt27 79 10)).toNat) 8) 83 (((4 * (dt27 79 10)) + 1).toNat) (dt27 79 11)) hI58   (by first | exact True.intro | rfl | omega | trivial) (by first | exact True.intro | rfl | omega | trivial)) ?_
        rintro _ _ ⟨dt78, rfl, hI79, hF80, h77⟩
        refine ⟨rfl, ?_⟩
        have hF81 : Fr [79, 83, 84] dt dt78 := Fr_tr hF59 hF80 (by decide)
        rcases h77 with ⟨rfl, h77⟩ | ⟨rfl, h77⟩
        · skip
          obtain ⟨h77_0, h77_1, h77_2, h77_3⟩ := h77
          have BL82 : ∀ j : Nat, (j : Int) < 4 * dt 79 10 → dt78 83 j = dt 83 j := fun j hj => (hF80 83 (by decide) j).trans (BL71 j hj)
          have y83 : dt78 83 ((4 * (dt 79 10))).toNat = (u2 (u2 dt27 83 ((4 * (dt27 79 10)).toNat) 8) 83 (((4 * (dt27 79 10)) + 1).toNat) (dt27 79 11)) 83 ((4 * (dt 79 10))).toNat := hF80 83 (by decide) _
          have y84 : dt78 83 ((4 * (dt 79 10)) + 1).toNat = (u2 (u2 dt27 83 ((4 * (dt27 79 10)).toNat) 8) 83 (((4 * (dt27 79 10)) + 1).toNat) (dt27 79 11)) 83 ((4 * (dt 79 10)) + 1).toNat := hF80 83 (by decide) _
          have y85 : dt78 83 ((4 * (dt 79 10)) + 2).toNat = (u2 (u2 dt27 83 ((4 * (dt27 79 10)).toNat) 8) 83 (((4 * (dt27 79 10)) + 1).toNat) (dt27 79 11)) 83 ((4 * (dt 79 10)) + 2).toNat := hF80 83 (by decide) _
          have y86 : dt78 83 ((4 * (dt 79 10)) + 3).toNat = (u2 (u2 dt27 83 ((4 * (dt27 79 10)).toNat) 8) 83 (((4 * (dt27 79 10)) + 1).toNat) (dt27 79 11)) 83 ((4 * (dt 79 10)) + 3).toNat := hF80 83 (by decide) _
          refine go_retq PM173 (k := 2) (r := some (.inl 0)) (w1 := (SH, dt78)) rfl ?_
          exact ⟨dt78, rfl, hI79, hF81, (Or.inl ⟨rfl, ⟨by first | exact True.intro | rfl | omega | trivial, by first | exact True.intro | rfl | omega | trivial, by first | exact True.intro | rfl | omega | trivial⟩⟩)⟩
        · skip
          obtain ⟨h77_0, h77_1, h77_2, h77_3, h77_4, h77_5, h77_6, h77_7, h77_8, h77_9, h77_10⟩ := h77
          clear h26_1
          have BL87 : ∀ j : Nat, (j : Int) < 4 * dt 79 10 → dt78 83 j = dt 83 j := fun j hj => (hF80 83 (by decide) j).trans (BL71 j hj)
          have y88 : dt78 83 ((4 * (dt 79 10))).toNat = (u2 (u2 dt27 83 ((4 * (dt27 79 10)).toNat) 8) 83 (((4 * (dt27 79 10)) + 1).toNat) (dt27 79 11)) 83 ((4 * (dt 79 10))).toNat := hF80 83 (by decide) _
          have y89 : dt78 83 ((4 * (dt 79 10)) + 1).toNat = (u2 (u2 dt27 83 ((4 * (dt27 79 10)).toNat) 8) 83 (((4 * (dt27 79 10)) + 1).toNat) (dt27 79 11)) 83 ((4 * (dt 79 10)) + 1).toNat := hF80 83 (by decide) _
          have y90 : dt78 83 ((4 * (dt 79 10)) + 2).toNat = (u2 (u2 dt27 83 ((4 * (dt27 79 10)).toNat) 8) 83 (((4 * (dt27 79 10)) + 1).toNat) (dt27 79 11)) 83 ((4 * (dt 79 10)) + 2).toNat := hF80 83 (by decide) _
          have y91 : dt78 83 ((4 * (dt 79 10)) + 3).toNat = (u2 (u2 dt27 83 ((4 * (dt27 79 10)).toNat) 8) 83 (((4 * (dt27 79 10)) + 1).toNat) (dt27 79 11)) 83 ((4 * (dt 79 10)) + 3).toNat := hF80 83 (by decide) _
          have r92 : 0 ≤ dt78 79 10 ∧ dt78 79 10 ≤ 24 := InvC_get hI79 79 10 rfl rfl
          have r93 : 0 ≤ dt78 79 11 ∧ dt78 79 11 ≤ 510 := InvC_get hI79 79 11 rfl rfl
          refine go_toq PM173 (k := 11) (pc' := 145) (L' := [some (.inr (.inr (some 79))), some (.inl 0)]) (st' := [.inl (dt78 79 11), .inl ((4 * (dt78 79 10)) + 2), .inr (.inr (some 83))]) (w' := (SH, dt78)) rfl ?_
          have hI94 : InvC (u2 dt78 83 (((4 * (dt78 79 10)) + 2).toNat) (dt78 79 11)) := InvC_u2 hI79 (lo := -2147483648) (hi := 2147483647) rfl rfl rfl (by first | exact bnd1 r93 (by decide) | omega) (by first | exact bnd2 r93 (by decide) | omega)
          have hF95 : Fr [79, 83, 84] dt (u2 dt78 83 (((4 * (dt78 79 10)) + 2).toNat) (dt78 79 11)) := Fr_u2 hF81 (by decide)
          have w96 : (u2 dt78 83 (((4 * (dt78 79 10)) + 2).toNat) (dt78 79 11)) 79 2 = dt78 79 2 := rfl
          have w97 : (u2 dt78 83 (((4 * (dt78 79 10)) + 2).toNat) (dt78 79 11)) 79 9 = dt78 79 9 := rfl
          have w98 : (u2 dt78 83 (((4 * (dt78 79 10)) + 2).toNat) (dt78 79 11)) 79 10 = dt78 79 10 := rfl
          have w99 : (u2 dt78 83 (((4 * (dt78 79 10)) + 2).toNat) (dt78 79 11)) 79 11 = dt78 79 11 := rfl
          have w100 : (u2 dt78 83 (((4 * (dt78 79 10)) + 2).toNat) (dt78 79 11)) 79 12 = dt78 79 12 := rfl
          have w101 : (u2 dt78 83 (((4 * (dt78 79 10)) + 2).toNat) (dt78 79 11)) 79 13 = dt78 79 13 := rfl
          have w102 : (u2 dt78 83 (((4 * (dt78 79 10)) + 2).toNat) (dt78 79 11)) 79 14 = dt78 79 14 := rfl
          have w103 : (u2 dt78 83 (((4 * (dt78 79 10)) + 2).toNat) (dt78 79 11)) 79 15 = dt78 79 15 := rfl
          have w104 : (u2 dt78 83 (((4 * (dt78 79 10)) + 2).toNat) (dt78 79 11)) 79 16 = dt78 79 16 := rfl
          have w105 : (u2 dt78 83 (((4 * (dt78 79 10)) + 2).toNat) (dt78 79 11)) 79 20 = dt78 79 20 := rfl
          have E84106 : (u2 dt78 83 (((4 * (dt78 79 10)) + 2).toNat) (dt78 79 11)) 84 = dt78 84 := funext fun _ => rfl
          have ex108 : ((4 * (dt 79 10)) + 2).toNat = ((4 * (dt78 79 10)) + 2).toNat := by omega
          have BL107 : ∀ j : Nat, (j : Int) < 4 * dt 79 10 → (u2 dt78 83 (((4 * (dt78 79 10)) + 2).toNat) (dt78 79 11)) 83 j = dt 83 j := fun j hj => (u2_ne (by omega)).trans (BL87 j hj)
          have y109 : (u2 dt78 83 (((4 * (dt78 79 10)) + 2).toNat) (dt78 79 11)) 83 ((4 * (dt 79 10))).toNat = dt78 83 ((4 * (dt 79 10))).toNat := u2_ne (by omega)
          have y110 : (u2 dt78 83 (((4 * (dt78 79 10)) + 2).toNat) (dt78 79 11)) 83 ((4 * (dt 79 10)) + 1).toNat = dt78 83 ((4 * (dt 79 10)) + 1).toNat := u2_ne (by omega)
          have y111 : (u2 dt78 83 (((4 * (dt78 79 10)) + 2).toNat) (dt78 79 11)) 83 ((4 * (dt 79 10)) + 2).toNat = dt78 79 11 := by rw [ex108]; exact u2_eq
          have y112 : (u2 dt78 83 (((4 * (dt78 79 10)) + 2).toNat) (dt78 79 11)) 83 ((4 * (dt 79 10)) + 3).toNat = dt78 83 ((4 * (dt 79 10)) + 3).toNat := u2_ne (by omega)
          refine go_smpq PM173 (L' := [some (.inr (.inr (some 79))), some (.inl 0)]) (st' := []) (w' := (SH, (u2 dt78 83 (((4 * (dt78 79 10)) + 2).toNat) (dt78 79 11)))) rfl rfl (s_iast (n := 64) rfl ⟨by omega, by omega⟩ (by first | exact bnd r93 (by decide) (by decide) | exact ⟨by omega, by omega⟩)) ?_
          have r113 : (-2147483648) ≤ dt78 79 14 ∧ dt78 79 14 ≤ 2147483647 := InvC_get hI79 79 14 rfl rfl
          refine go_ifq PM173 (k := 3) (p1 := 167) (p2 := 154) (L' := [some (.inr (.inr (some 79))), some (.inl 0)]) (st' := []) (w' := (SH, (u2 dt78 83 (((4 * (dt78 79 10)) + 2).toNat) (dt78 79 11)))) rfl (c_ne (a := dt78 79 14) (b := 3) (by first | exact bnd r113 (by decide) (by decide) | exact ⟨by omega, by omega⟩) ⟨by decide, by decide⟩) (fun c114 => ?_) (fun c114 => ?_)
          · skip
            refine go_toq PM173 (k := 10) (pc' := 183) (L' := [some (.inr (.inr (some 79))), some (.inl 0)]) (st' := [.inl (dt78 79 11), .inl ((4 * (dt78 79 10)) + 3), .inr (.inr (some 83))]) (w' := (SH, (u2 dt78 83 (((4 * (dt78 79 10)) + 2).toNat) (dt78 79 11)))) rfl ?_
            have hI115 : InvC (u2 (u2 dt78 83 (((4 * (dt78 79 10)) + 2).toNat) (dt78 79 11)) 83 (((4 * (dt78 79 10)) + 3).toNat) (dt78 79 11)) := InvC_u2 hI94 (lo := -2147483648) (hi := 2147483647) rfl rfl rfl (by first | exact bnd1 r93 (by decide) | omega) (by first | exact bnd2 r93 (by decide) | omega)
            have hF116 : Fr [79, 83, 84] dt (u2 (u2 dt78 83 (((4 * (dt78 79 10)) + 2).toNat) (dt78 79 11)) 83 (((4 * (dt78 79 10)) + 3).toNat) (dt78 79 11)) := Fr_u2 hF95 (by decide)
            have w117 : (u2 (u2 dt78 83 (((4 * (dt78 79 10)) + 2).toNat) (dt78 79 11)) 83 (((4 * (dt78 79 10)) + 3).toNat) (dt78 79 11)) 79 2 = (u2 dt78 83 (((4 * (dt78 79 10)) + 2).toNat) (dt78 79 11)) 79 2 := rfl
            have w118 : (u2 (u2 dt78 83 (((4 * (dt78 79 10)) + 2).toNat) (dt78 79 11)) 83 (((4 * (dt78 79 10)) + 3).toNat) (dt78 79 11)) 79 9 = (u2 dt78 83 (((4 * (dt78 79 10)) + 2).toNat) (dt78 79 11)) 79 9 := rfl
            have w119 : (u2 (u2 dt78 83 (((4 * (dt78 79 10)) + 2).toNat) (dt78 79 11)) 83 (((4 * (dt78 79 10)) + 3).toNat) (dt78 79 11)) 79 10 = (u2 dt78 83 (((4 * (dt78 79 10)) + 2).toNat) (dt78 79 11)) 79 10 := rfl
            have w120 : (u2 (u2 dt78 83 (((4 * (dt78 79 10)) + 2).toNat) (dt78 79 11)) 83 (((4 * (dt78 79 10)) + 3).toNat) (dt78 79 11)) 79 11 = (u2 dt78 83 (((4 * (dt78 79 10)) + 2).toNat) (dt78 79 11)) 79 11 := rfl
            have w121 : (u2 (u2 dt78 83 (((4 * (dt78 79 10)) + 2).toNat) (dt78 79 11)) 83 (((4 * (dt78 79 10)) + 3).toNat) (dt78 79 11)) 79 12 = (u2 dt78 83 (((4 * (dt78 79 10)) + 2).toNat) (dt78 79 11)) 79 12 := rfl
            have w122 : (u2 (u2 dt78 83 (((4 * (dt78 79 10)) + 2).toNat) (dt78 79 11)) 83 (((4 * (dt78 79 10)) + 3).toNat) (dt78 79 11)) 79 13 = (u2 dt78 83 (((4 * (dt78 79 10)) + 2).toNat) (dt78 79 11)) 79 13 := rfl
            have w123 : (u2 (u2 dt78 83 (((4 * (dt78 79 10)) + 2).toNat) (dt78 79 11)) 83 (((4 * (dt78 79 10)) + 3).toNat) (dt78 79 11)) 79 14 = (u2 dt78 83 (((4 * (dt78 79 10)) + 2).toNat) (dt78 79 11)) 79 14 := rfl
            have w124 : (u2 (u2 dt78 83 (((4 * (dt78 79 10)) + 2).toNat) (dt78 79 11)) 83 (((4 * (dt78 79 10)) + 3).toNat) (dt78 79 11)) 79 15 = (u2 dt78 83 (((4 * (dt78 79 10)) + 2).toNat) (dt78 79 11)) 79 15 := rfl
            have w125 : (u2 (u2 dt78 83 (((4 * (dt78 79 10)) + 2).toNat) (dt78 79 11)) 83 (((4 * (dt78 79 10)) + 3).toNat) (dt78 79 11)) 79 16 = (u2 dt78 83 (((4 * (dt78 79 10)) + 2).toNat) (dt78 79 11)) 79 16 := rfl
            have w126 : (u2 (u2 dt78 83 (((4 * (dt78 79 10)) + 2).toNat) (dt78 79 11)) 83 (((4 * (dt78 79 10)) + 3).toNat) (dt78 79 11)) 79 20 = (u2 dt78 83 (((4 * (dt78 79 10)) + 2).toNat) (dt78 79 11)) 79 20 := rfl
            have E84127 : (u2 (u2 dt78 83 (((4 * (dt78 79 10)) + 2).toNat) (dt78 79 11)) 83 (((4 * (dt78 79 10)) + 3).toNat) (dt78 79 11)) 84 = dt78 84 := (funext fun _ => rfl).trans E84106
            have ex129 : ((4 * (dt 79 10)) + 3).toNat = ((4 * (dt78 79 10)) + 3).toNat := by omega
            have BL128 : ∀ j : Nat, (j : Int) < 4 * dt 79 10 → (u2 (u2 dt78 83 (((4 * (dt78 79 10)) + 2).toNat) (dt78 79 11)) 83 (((4 * (dt78 79 10)) + 3).toNat) (dt78 79 11)) 83 j = dt 83 j := fun j hj => (u2_ne (by omega)).trans (BL107 j hj)
            have y130 : (u2 (u2 dt78 83 (((4 * (dt78 79 10)) + 2).toNat) (dt78 79 11)) 83 (((4 * (dt78 79 10)) + 3).toNat) (dt78 79 11)) 83 ((4 * (dt 79 10))).toNat = (u2 dt78 83 (((4 * (dt78 79 10)) + 2).toNat) (dt78 79 11)) 83 ((4 * (dt 79 10))).toNat := u2_ne (by omega)
            have y131 : (u2 (u2 dt78 83 (((4 * (dt78 79 10)) + 2).toNat) (dt78 79 11)) 83 (((4 * (dt78 79 10)) + 3).toNat) (dt78 79 11)) 83 ((4 * (dt 79 10)) + 1).toNat = (u2 dt78 83 (((4 * (dt78 79 10)) + 2).toNat) (dt78 79 11)) 83 ((4 * (dt 79 10)) + 1).toNat := u2_ne (by omega)
            have y132 : (u2 (u2 dt78 83 (((4 * (dt78 79 10)) + 2).toNat) (dt78 79 11)) 83 (((4 * (dt78 79 10)) + 3).toNat) (dt78 79 11)) 83 ((4 * (dt 79 10)) + 2).toNat = (u2 dt78 83 (((4 * (dt78 79 10)) + 2).toNat) (dt78 79 11)) 83 ((4 * (dt 79 10)) + 2).toNat := u2_ne (by omega)
            have y133 : (u2 (u2 dt78 83 (((4 * (dt78 79 10)) + 2).toNat) (dt78 79 11)) 83 (((4 * (dt78 79 10)) + 3).toNat) (dt78 79 11)) 83 ((4 * (dt 79 10)) + 3).toNat = dt78 79 11 := by rw [ex129]; exact u2_eq
            refine go_smpq PM173 (L' := [some (.inr (.inr (some 79))), some (.inl 0)]) (st' := []) (w' := (SH, (u2 (u2 dt78 83 (((4 * (dt78 79 10)) + 2).toNat) (dt78 79 11)) 83 (((4 * (dt78 79 10)) + 3).toNat) (dt78 79 11)))) rfl rfl (s_iast (n := 64) rfl ⟨by omega, by omega⟩ (by first | exact bnd r93 (by decide) (by decide) | exact ⟨by omega, by omega⟩)) ?_
            refine go_toq PM173 (k := 2) (pc' := 188) (L' := [some (.inr (.inr (some 79))), some (.inl 0)]) (st' := [.inl 159, .inr (.inr (some 79))]) (w' := (SH, (u2 (u2 dt78 83 (((4 * (dt78 79 10)) + 2).toNat) (dt78 79 11)) 83 (((4 * (dt78 79 10)) + 3).toNat) (dt78 79 11)))) rfl ?_
            refine go_callq PM173 PM161 (Q' := _) rfl rfl rfl rfl (sp_X6_need0 L xs sio (d + 29) (u2 (u2 dt78 83 (((4 * (dt78 79 10)) + 2).toNat) (dt78 79 11)) 83 (((4 * (dt78 79 10)) + 3).toNat) (dt78 79 11)) hI115  159 ⟨by decide, by decide⟩ (by first | exact True.intro | rfl | omega | trivial)) ?_
            rintro _ _ ⟨dt135, rfl, hI136, hF137, h134⟩
            refine ⟨rfl, ?_⟩
            have hF138 : Fr [79, 83, 84] dt dt135 := Fr_tr hF116 hF137 (by decide)
            have E84139 : dt135 84 = dt78 84 := (funext (hF137 84 (by decide))).trans E84127
            rcases h134 with ⟨rfl, h134⟩ | ⟨rfl, h134⟩
            · skip
              obtain ⟨h134_0, h134_1, h134_2, h134_3⟩ := h134
              have BL140 : ∀ j : Nat, (j : Int) < 4 * dt 79 10 → dt135 83 j = dt 83 j := fun j hj => (hF137 83 (by decide) j).trans (BL128 j hj)
              have y141 : dt135 83 ((4 * (dt 79 10))).toNat = (u2 (u2 dt78 83 (((4 * (dt78 79 10)) + 2).toNat) (dt78 79 11)) 83 (((4 * (dt78 79 10)) + 3).toNat) (dt78 79 11)) 83 ((4 * (dt 79 10))).toNat := hF137 83 (by decide) _
              have y142 : dt135 83 ((4 * (dt 79 10)) + 1).toNat = (u2 (u2 dt78 83 (((4 * (dt78 79 10)) + 2).toNat) (dt78 79 11)) 83 (((4 * (dt78 79 10)) + 3).toNat) (dt78 79 11)) 83 ((4 * (dt 79 10)) + 1).toNat := hF137 83 (by decide) _
              have y143 : dt135 83 ((4 * (dt 79 10)) + 2).toNat = (u2 (u2 dt78 83 (((4 * (dt78 79 10)) + 2).toNat) (dt78 79 11)) 83 (((4 * (dt78 79 10)) + 3).toNat) (dt78 79 11)) 83 ((4 * (dt 79 10)) + 2).toNat := hF137 83 (by decide) _
              have y144 : dt135 83 ((4 * (dt 79 10)) + 3).toNat = (u2 (u2 dt78 83 (((4 * (dt78 79 10)) + 2).toNat) (dt78 79 11)) 83 (((4 * (dt78 79 10)) + 3).toNat) (dt78 79 11)) 83 ((4 * (dt 79 10)) + 3).toNat := hF137 83 (by decide) _
              refine go_retq PM173 (k := 0) (r := some (.inl 0)) (w1 := (SH, dt135)) rfl ?_
              exact ⟨dt135, rfl, hI136, hF138, (Or.inl ⟨rfl, ⟨by first | exact True.intro | rfl | omega | trivial, by first | exact True.intro | rfl | omega | trivial, by first | exact True.intro | rfl | omega | trivial⟩⟩)⟩
            · skip
              obtain ⟨h134_0, h134_1, h134_2, h134_3, h134_4, h134_5, h134_6, h134_7, h134_8⟩ := h134
              clear h77_2
              have BL145 : ∀ j : Nat, (j : Int) < 4 * dt 79 10 → dt135 83 j = dt 83 j := fun j hj => (hF137 83 (by decide) j).trans (BL128 j hj)
              have y146 : dt135 83 ((4 * (dt 79 10))).toNat = (u2 (u2 dt78 83 (((4 * (dt78 79 10)) + 2).toNat) (dt78 79 11)) 83 (((4 * (dt78 79 10)) + 3).toNat) (dt78 79 11)) 83 ((4 * (dt 79 10))).toNat := hF137 83 (by decide) _
              have y147 : dt135 83 ((4 * (dt 79 10)) + 1).toNat = (u2 (u2 dt78 83 (((4 * (dt78 79 10)) + 2).toNat) (dt78 79 11)) 83 (((4 * (dt78 79 10)) + 3).toNat) (dt78 79 11)) 83 ((4 * (dt 79 10)) + 1).toNat := hF137 83 (by decide) _
              have y148 : dt135 83 ((4 * (dt 79 10)) + 2).toNat = (u2 (u2 dt78 83 (((4 * (dt78 79 10)) + 2).toNat) (dt78 79 11)) 83 (((4 * (dt78 79 10)) + 3).toNat) (dt78 79 11)) 83 ((4 * (dt 79 10)) + 2).toNat := hF137 83 (by decide) _
              have y149 : dt135 83 ((4 * (dt 79 10)) + 3).toNat = (u2 (u2 dt78 83 (((4 * (dt78 79 10)) + 2).toNat) (dt78 79 11)) 83 (((4 * (dt78 79 10)) + 3).toNat) (dt78 79 11)) 83 ((4 * (dt 79 10)) + 3).toNat := hF137 83 (by decide) _
              refine go_retq PM173 (k := 0) (r := some (.inl 1)) (w1 := (SH, dt135)) rfl ?_
              exact ⟨dt135, rfl, hI136, hF138, (Or.inr ⟨rfl, ⟨by first | exact True.intro | rfl | omega | trivial, by exact BL145, by exact ⟨by omega, PS_fin h77_4 (by first | exact AGR_e (by assumption) | exact AGR_e rfl | exact AGR_4 (by assumption) hI (by first | assumption | rfl) (by omega)) (by omega) (by omega), fun _ => by first | omega | exact PS_fin hI (by first | exact AGR_e (by assumption) | exact AGR_e rfl) (by omega) (by omega)⟩, by first | exact AGR_4 (by assumption) h77_5 (by first | assumption | rfl) (by omega) | exact AGR_5 (by assumption) hI (by first | assumption | rfl) h77_5 (by first | assumption | rfl) (by omega) (by omega), by first | exact True.intro | rfl | omega | trivial, by first | exact True.intro | rfl | omega | trivial, by first | exact True.intro | rfl | omega | trivial, by first | exact True.intro | rfl | omega | trivial, by exact (InvC_get (by assumption) 79 15 rfl rfl).2, by first | exact True.intro | rfl | omega | trivial, by first | exact True.intro | rfl | omega | trivial, by first | exact True.intro | rfl | omega | trivial, by first | exact True.intro | rfl | omega | trivial⟩⟩)⟩
          · skip
            refine go_toq PM173 (k := 1) (pc' := 155) (L' := [some (.inr (.inr (some 79))), some (.inl 0)]) (st' := [.inr (.inr (some 79))]) (w' := (SH, (u2 dt78 83 (((4 * (dt78 79 10)) + 2).toNat) (dt78 79 11)))) rfl ?_
            refine go_callq PM173 PM159 (Q' := _) rfl rfl rfl rfl (sp_X6_next0 L xs sio (d + 30) (u2 dt78 83 (((4 * (dt78 79 10)) + 2).toNat) (dt78 79 11)) hI94   (by first | exact True.intro | rfl | omega | trivial)) ?_
            rintro _ _ ⟨dt151, rfl, hI152, hF153, h150⟩
            refine ⟨rfl, ?_⟩
            have hF154 : Fr [79, 83, 84] dt dt151 := Fr_tr hF95 hF153 (by decide)
            have E84155 : dt151 84 = dt78 84 := (funext (hF153 84 (by decide))).trans E84106
            rcases h150 with ⟨rfl, h150⟩
            obtain ⟨h150_0, h150_1, h150_2, h150_3, h150_4, h150_5, h150_6, h150_7, h150_8⟩ := h150
            have adv156 : (u2 dt78 83 (((4 * (dt78 79 10)) + 2).toNat) (dt78 79 11)) 79 15 + 1 ≤ (u2 dt78 83 (((4 * (dt78 79 10)) + 2).toNat) (dt78 79 11)) 79 13 := by omega
            clear h77_2
            have BL157 : ∀ j : Nat, (j : Int) < 4 * dt 79 10 → dt151 83 j = dt 83 j := fun j hj => (hF153 83 (by decide) j).trans (BL107 j hj)
            have y158 : dt151 83 ((4 * (dt 79 10))).toNat = (u2 dt78 83 (((4 * (dt78 79 10)) + 2).toNat) (dt78 79 11)) 83 ((4 * (dt 79 10))).toNat := hF153 83 (by decide) _
            have y159 : dt151 83 ((4 * (dt 79 10)) + 1).toNat = (u2 dt78 83 (((4 * (dt78 79 10)) + 2).toNat) (dt78 79 11)) 83 ((4 * (dt 79 10)) + 1).toNat := hF153 83 (by decide) _
            have y160 : dt151 83 ((4 * (dt 79 10)) + 2).toNat = (u2 dt78 83 (((4 * (dt78 79 10)) + 2).toNat) (dt78 79 11)) 83 ((4 * (dt 79 10)) + 2).toNat := hF153 83 (by decide) _
            have y161 : dt151 83 ((4 * (dt 79 10)) + 3).toNat = (u2 dt78 83 (((4 * (dt78 79 10)) + 2).toNat) (dt78 79 11)) 83 ((4 * (dt 79 10)) + 3).toNat := hF153 83 (by decide) _
            refine go_toq PM173 (k := 1) (pc' := 159) (L' := [some (.inr (.inr (some 79))), some (.inl 0)]) (st' := [.inr (.inr (some 79))]) (w' := (SH, dt151)) rfl ?_
            refine go_callq PM173 PM168 (Q' := _) rfl rfl rfl rfl (sp_X6_any_0 L xs sio (d + 0) dt151 hI152   (by first | exact True.intro | rfl | omega | trivial) (by first | exact True.intro | rfl | omega | trivial) (by first | exact True.intro | rfl | omega | trivial)) ?_
            rintro _ _ ⟨dt163, rfl, hI164, hF165, h162⟩
            refine ⟨rfl, ?_⟩
            have hF166 : Fr [79, 83, 84] dt dt163 := Fr_tr hF154 hF165 (by decide)
            rcases h162 with ⟨rfl, h162⟩ | ⟨rfl, h162⟩
            · skip
              obtain ⟨h162_0, h162_1, h162_2, h162_3⟩ := h162
              have BL167 : ∀ j : Nat, (j : Int) < 4 * dt 79 10 → dt163 83 j = dt 83 j := fun j hj => (hF165 83 (by decide) j).trans (BL157 j hj)
              have y168 : dt163 83 ((4 * (dt 79 10))).toNat = dt151 83 ((4 * (dt 79 10))).toNat := hF165 83 (by decide) _
              have y169 : dt163 83 ((4 * (dt 79 10)) + 1).toNat = dt151 83 ((4 * (dt 79 10)) + 1).toNat := hF165 83 (by decide) _
              have y170 : dt163 83 ((4 * (dt 79 10)) + 2).toNat = dt151 83 ((4 * (dt 79 10)) + 2).toNat := hF165 83 (by decide) _
              have y171 : dt163 83 ((4 * (dt 79 10)) + 3).toNat = dt151 83 ((4 * (dt 79 10)) + 3).toNat := hF165 83 (by decide) _
              refine go_retq PM173 (k := 2) (r := some (.inl 0)) (w1 := (SH, dt163)) rfl ?_
              exact ⟨dt163, rfl, hI164, hF166, (Or.inl ⟨rfl, ⟨by first | exact True.intro | rfl | omega | trivial, by first | exact True.intro | rfl | omega | trivial, by first | exact True.intro | rfl | omega | trivial⟩⟩)⟩
            · skip
              obtain ⟨h162_0, h162_1, h162_2, h162_3, h162_4, h162_5, h162_6, h162_7, h162_8, h162_9, h162_10⟩ := h162
              clear h150_1
              have BL172 : ∀ j : Nat, (j : Int) < 4 * dt 79 10 → dt163 83 j = dt 83 j := fun j hj => (hF165 83 (by decide) j).trans (BL157 j hj)
              have y173 : dt163 83 ((4 * (dt 79 10))).toNat = dt151 83 ((4 * (dt 79 10))).toNat := hF165 83 (by decide) _
              have y174 : dt163 83 ((4 * (dt 79 10)) + 1).toNat = dt151 83 ((4 * (dt 79 10)) + 1).toNat := hF165 83 (by decide) _
              have y175 : dt163 83 ((4 * (dt 79 10)) + 2).toNat = dt151 83 ((4 * (dt 79 10)) + 2).toNat := hF165 83 (by decide) _
              have y176 : dt163 83 ((4 * (dt 79 10)) + 3).toNat = dt151 83 ((4 * (dt 79 10)) + 3).toNat := hF165 83 (by decide) _
              have r177 : 0 ≤ dt163 79 10 ∧ dt163 79 10 ≤ 24 := InvC_get hI164 79 10 rfl rfl
              have r178 : 0 ≤ dt163 79 11 ∧ dt163 79 11 ≤ 510 := InvC_get hI164 79 11 rfl rfl
              refine go_toq PM173 (k := 11) (pc' := 183) (L' := [some (.inr (.inr (some 79))), some (.inl 0)]) (st' := [.inl (dt163 79 11), .inl ((4 * (dt163 79 10)) + 3), .inr (.inr (some 83))]) (w' := (SH, dt163)) rfl ?_
              have hI179 : InvC (u2 dt163 83 (((4 * (dt163 79 10)) + 3).toNat) (dt163 79 11)) := InvC_u2 hI164 (lo := -2147483648) (hi := 2147483647) rfl rfl rfl (by first | exact bnd1 r178 (by decide) | omega) (by first | exact bnd2 r178 (by decide) | omega)
              have hF180 : Fr [79, 83, 84] dt (u2 dt163 83 (((4 * (dt163 79 10)) + 3).toNat) (dt163 79 11)) := Fr_u2 hF166 (by decide)
              have w181 : (u2 dt163 83 (((4 * (dt163 79 10)) + 3).toNat) (dt163 79 11)) 79 2 = dt163 79 2 := rfl
              have w182 : (u2 dt163 83 (((4 * (dt163 79 10)) + 3).toNat) (dt163 79 11)) 79 9 = dt163 79 9 := rfl
              have w183 : (u2 dt163 83 (((4 * (dt163 79 10)) + 3).toNat) (dt163 79 11)) 79 10 = dt163 79 10 := rfl
              have w184 : (u2 dt163 83 (((4 * (dt163 79 10)) + 3).toNat) (dt163 79 11)) 79 11 = dt163 79 11 := rfl
              have w185 : (u2 dt163 83 (((4 * (dt163 79 10)) + 3).toNat) (dt163 79 11)) 79 12 = dt163 79 12 := rfl
              have w186 : (u2 dt163 83 (((4 * (dt163 79 10)) + 3).toNat) (dt163 79 11)) 79 13 = dt163 79 13 := rfl
              have w187 : (u2 dt163 83 (((4 * (dt163 79 10)) + 3).toNat) (dt163 79 11)) 79 14 = dt163 79 14 := rfl
              have w188 : (u2 dt163 83 (((4 * (dt163 79 10)) + 3).toNat) (dt163 79 11)) 79 15 = dt163 79 15 := rfl
              have w189 : (u2 dt163 83 (((4 * (dt163 79 10)) + 3).toNat) (dt163 79 11)) 79 16 = dt163 79 16 := rfl
              have w190 : (u2 dt163 83 (((4 * (dt163 79 10)) + 3).toNat) (dt163 79 11)) 79 20 = dt163 79 20 := rfl
              have E84191 : (u2 dt163 83 (((4 * (dt163 79 10)) + 3).toNat) (dt163 79 11)) 84 = dt163 84 := funext fun _ => rfl
              have ex193 : ((4 * (dt 79 10)) + 3).toNat = ((4 * (dt163 79 10)) + 3).toNat := by omega
              have BL192 : ∀ j : Nat, (j : Int) < 4 * dt 79 10 → (u2 dt163 83 (((4 * (dt163 79 10)) + 3).toNat) (dt163 79 11)) 83 j = dt 83 j := fun j hj => (u2_ne (by omega)).trans (BL172 j hj)
              have y194 : (u2 dt163 83 (((4 * (dt163 79 10)) + 3).toNat) (dt163 79 11)) 83 ((4 * (dt 79 10))).toNat = dt163 83 ((4 * (dt 79 10))).toNat := u2_ne (by omega)
              have y195 : (u2 dt163 83 (((4 * (dt163 79 10)) + 3).toNat) (dt163 79 11)) 83 ((4 * (dt 79 10)) + 1).toNat = dt163 83 ((4 * (dt 79 10)) + 1).toNat := u2_ne (by omega)
              have y196 : (u2 dt163 83 (((4 * (dt163 79 10)) + 3).toNat) (dt163 79 11)) 83 ((4 * (dt 79 10)) + 2).toNat = dt163 83 ((4 * (dt 79 10)) + 2).toNat := u2_ne (by omega)
              have y197 : (u2 dt163 83 (((4 * (dt163 79 10)) + 3).toNat) (dt163 79 11)) 83 ((4 * (dt 79 10)) + 3).toNat = dt163 79 11 := by rw [ex193]; exact u2_eq
              refine go_smpq PM173 (L' := [some (.inr (.inr (some 79))), some (.inl 0)]) (st' := []) (w' := (SH, (u2 dt163 83 (((4 * (dt163 79 10)) + 3).toNat) (dt163 79 11)))) rfl rfl (s_iast (n := 64) rfl ⟨by omega, by omega⟩ (by first | exact bnd r178 (by decide) (by decide) | exact ⟨by omega, by omega⟩)) ?_
              refine go_toq PM173 (k := 2) (pc' := 188) (L' := [some (.inr (.inr (some 79))), some (.inl 0)]) (st' := [.inl 159, .inr (.inr (some 79))]) (w' := (SH, (u2 dt163 83 (((4 * (dt163 79 10)) + 3).toNat) (dt163 79 11)))) rfl ?_
              refine go_callq PM173 PM161 (Q' := _) rfl rfl rfl rfl (sp_X6_need0 L xs sio (d + 29) (u2 dt163 83 (((4 * (dt163 79 10)) + 3).toNat) (dt163 79 11)) hI179  159 ⟨by decide, by decide⟩ (by first | exact True.intro | rfl | omega | trivial)) ?_
              rintro _ _ ⟨dt199, rfl, hI200, hF201, h198⟩
              refine ⟨rfl, ?_⟩
              have hF202 : Fr [79, 83, 84] dt dt199 := Fr_tr hF180 hF201 (by decide)
              have E84203 : dt199 84 = dt163 84 := (funext (hF201 84 (by decide))).trans E84191
              rcases h198 with ⟨rfl, h198⟩ | ⟨rfl, h198⟩
              · skip
                obtain ⟨h198_0, h198_1, h198_2, h198_3⟩ := h198
                have BL204 : ∀ j : Nat, (j : Int) < 4 * dt 79 10 → dt199 83 j = dt 83 j := fun j hj => (hF201 83 (by decide) j).trans (BL192 j hj)
                have y205 : dt199 83 ((4 * (dt 79 10))).toNat = (u2 dt163 83 (((4 * (dt163 79 10)) + 3).toNat) (dt163 79 11)) 83 ((4 * (dt 79 10))).toNat := hF201 83 (by decide) _
                have y206 : dt199 83 ((4 * (dt 79 10)) + 1).toNat = (u2 dt163 83 (((4 * (dt163 79 10)) + 3).toNat) (dt163 79 11)) 83 ((4 * (dt 79 10)) + 1).toNat := hF201 83 (by decide) _
                have y207 : dt199 83 ((4 * (dt 79 10)) + 2).toNat = (u2 dt163 83 (((4 * (dt163 79 10)) + 3).toNat) (dt163 79 11)) 83 ((4 * (dt 79 10)) + 2).toNat := hF201 83 (by decide) _
                have y208 : dt199 83 ((4 * (dt 79 10)) + 3).toNat = (u2 dt163 83 (((4 * (dt163 79 10)) + 3).toNat) (dt163 79 11)) 83 ((4 * (dt 79 10)) + 3).toNat := hF201 83 (by decide) _
                refine go_retq PM173 (k := 0) (r := some (.inl 0)) (w1 := (SH, dt199)) rfl ?_
                exact ⟨dt199, rfl, hI200, hF202, (Or.inl ⟨rfl, ⟨by first | exact True.intro | rfl | omega | trivial, by first | exact True.intro | rfl | omega | trivial, by first | exact True.intro | rfl | omega | trivial⟩⟩)⟩
              · skip
                obtain ⟨h198_0, h198_1, h198_2, h198_3, h198_4, h198_5, h198_6, h198_7, h198_8⟩ := h198
                clear h162_2
                have BL209 : ∀ j : Nat, (j : Int) < 4 * dt 79 10 → dt199 83 j = dt 83 j := fun j hj => (hF201 83 (by decide) j).trans (BL192 j hj)
                have y210 : dt199 83 ((4 * (dt 79 10))).toNat = (u2 dt163 83 (((4 * (dt163 79 10)) + 3).toNat) (dt163 79 11)) 83 ((4 * (dt 79 10))).toNat := hF201 83 (by decide) _
                have y211 : dt199 83 ((4 * (dt 79 10)) + 1).toNat = (u2 dt163 83 (((4 * (dt163 79 10)) + 3).toNat) (dt163 79 11)) 83 ((4 * (dt 79 10)) + 1).toNat := hF201 83 (by decide) _
                have y212 : dt199 83 ((4 * (dt 79 10)) + 2).toNat = (u2 dt163 83 (((4 * (dt163 79 10)) + 3).toNat) (dt163 79 11)) 83 ((4 * (dt 79 10)) + 2).toNat := hF201 83 (by decide) _
                have y213 : dt199 83 ((4 * (dt 79 10)) + 3).toNat = (u2 dt163 83 (((4 * (dt163 79 10)) + 3).toNat) (dt163 79 11)) 83 ((4 * (dt 79 10)) + 3).toNat := hF201 83 (by decide) _
                refine go_retq PM173 (k := 0) (r := some (.inl 1)) (w1 := (SH, dt199)) rfl ?_
                exact ⟨dt199, rfl, hI200, hF202, (Or.inr ⟨rfl, ⟨by first | exact True.intro | rfl | omega | trivial, by exact BL209, by exact ⟨by omega, PS_fin h77_4 (by first | exact AGR_e (by assumption) | exact AGR_e rfl | exact AGR_4 (by assumption) h162_5 (by first | assumption | rfl) (by omega)) (by omega) (by omega), fun _ => by first | omega | exact PS_fin h162_4 (by first | exact AGR_e (by assumption) | exact AGR_e rfl) (by omega) (by omega)⟩, by first | exact AGR_4 (by assumption) h77_5 (by first | assumption | rfl) (by omega) | exact AGR_5 (by assumption) h162_5 (by first | assumption | rfl) h77_5 (by first | assumption | rfl) (by omega) (by omega), by first | exact True.intro | rfl | omega | trivial, by first | exact True.intro | rfl | omega | trivial, by first | exact True.intro | rfl | omega | trivial, by first | exact True.intro | rfl | omega | trivial, by exact (InvC_get (by assumption) 79 15 rfl rfl).2, by first | exact True.intro | rfl | omega | trivial, by first | exact True.intro | rfl | omega | trivial, by first | exact True.intro | rfl | omega | trivial, by first | exact True.intro | rfl | omega | trivial⟩⟩)⟩
      · skip
        refine go_toq PM173 (k := 5) (pc' := 56) (L' := [some (.inr (.inr (some 79))), some (.inl 1)]) (st' := [.inl 0, .inr (.inr (some 79))]) (w' := (SH, dt)) rfl ?_
        have hI214 : InvC (u2 dt 79 20 0) := InvC_u2 hI (lo := 0) (hi := 8) rfl rfl rfl (by decide) (by decide)
        have hF215 : Fr [79, 83, 84] dt (u2 dt 79 20 0) := Fr_u2 hF (by decide)
        have w216 : (u2 dt 79 20 0) 79 2 = dt 79 2 := rfl
        have w217 : (u2 dt 79 20 0) 79 9 = dt 79 9 := rfl
        have w218 : (u2 dt 79 20 0) 79 10 = dt 79 10 := rfl
        have w219 : (u2 dt 79 20 0) 79 11 = dt 79 11 := rfl
        have w220 : (u2 dt 79 20 0) 79 12 = dt 79 12 := rfl
        have w221 : (u2 dt 79 20 0) 79 13 = dt 79 13 := rfl
        have w222 : (u2 dt 79 20 0) 79 14 = dt 79 14 := rfl
        have w223 : (u2 dt 79 20 0) 79 15 = dt 79 15 := rfl
        have w224 : (u2 dt 79 20 0) 79 16 = dt 79 16 := rfl
        have w225 : (u2 dt 79 20 0) 79 20 = 0 := rfl
        have E84226 : (u2 dt 79 20 0) 84 = dt 84 := funext fun _ => rfl
        have BL227 : ∀ j : Nat, (j : Int) < 4 * dt 79 10 → (u2 dt 79 20 0) 83 j = dt 83 j := fun j hj => (u2_ne (by omega)).trans ((fun _ _ => rfl) j hj)
        have y228 : (u2 dt 79 20 0) 83 ((4 * (dt 79 10))).toNat = dt 83 ((4 * (dt 79 10))).toNat := rfl
        have y229 : (u2 dt 79 20 0) 83 ((4 * (dt 79 10)) + 1).toNat = dt 83 ((4 * (dt 79 10)) + 1).toNat := rfl
        have y230 : (u2 dt 79 20 0) 83 ((4 * (dt 79 10)) + 2).toNat = dt 83 ((4 * (dt 79 10)) + 2).toNat := rfl
        have y231 : (u2 dt 79 20 0) 83 ((4 * (dt 79 10)) + 3).toNat = dt 83 ((4 * (dt 79 10)) + 3).toNat := rfl
        refine go_smpq PM173 (L' := [some (.inr (.inr (some 79))), some (.inl 1)]) (st' := []) (w' := (SH, (u2 dt 79 20 0))) rfl rfl (s_pf rfl rfl rfl rfl ⟨by decide, by decide⟩) ?_
        refine go_toq PM173 (k := 1) (pc' := 60) (L' := [some (.inr (.inr (some 79))), some (.inl 1)]) (st' := [.inr (.inr (some 79))]) (w' := (SH, (u2 dt 79 20 0))) rfl ?_
        refine go_callq PM173 PM159 (Q' := _) rfl rfl rfl rfl (sp_X6_next0 L xs sio (d + 30) (u2 dt 79 20 0) hI214   (by first | exact True.intro | rfl | omega | trivial)) ?_
        rintro _ _ ⟨dt233, rfl, hI234, hF235, h232⟩
        refine ⟨rfl, ?_⟩
        have hF236 : Fr [79, 83, 84] dt dt233 := Fr_tr hF215 hF235 (by decide)
        have E84237 : dt233 84 = dt 84 := (funext (hF235 84 (by decide))).trans E84226
        rcases h232 with ⟨rfl, h232⟩
        obtain ⟨h232_0, h232_1, h232_2, h232_3, h232_4, h232_5, h232_6, h232_7, h232_8⟩ := h232
        have hadv0 : dt 79 15 + 1 ≤ dt 79 13 := by omega
        clear h_p0
        have BL238 : ∀ j : Nat, (j : Int) < 4 * dt 79 10 → dt233 83 j = dt 83 j := fun j hj => (hF235 83 (by decide) j).trans (BL227 j hj)
        have y239 : dt233 83 ((4 * (dt 79 10))).toNat = (u2 dt 79 20 0) 83 ((4 * (dt 79 10))).toNat := hF235 83 (by decide) _
        have y240 : dt233 83 ((4 * (dt 79 10)) + 1).toNat = (u2 dt 79 20 0) 83 ((4 * (dt 79 10)) + 1).toNat := hF235 83 (by decide) _
        have y241 : dt233 83 ((4 * (dt 79 10)) + 2).toNat = (u2 dt 79 20 0) 83 ((4 * (dt 79 10)) + 2).toNat := hF235 83 (by decide) _
        have y242 : dt233 83 ((4 * (dt 79 10)) + 3).toNat = (u2 dt 79 20 0) 83 ((4 * (dt 79 10)) + 3).toNat := hF235 83 (by decide) _
        have r243 : 0 ≤ dt233 79 10 ∧ dt233 79 10 ≤ 24 := InvC_get hI234 79 10 rfl rfl
        have r244 : 0 ≤ dt233 79 16 ∧ dt233 79 16 ≤ 9999 := InvC_get hI234 79 16 rfl rfl
        refine go_toq PM173 (k := 11) (pc' := 86) (L' := [some (.inr (.inr (some 79))), some (.inl 1)]) (st' := [.inl (dt233 79 16), .inl (4 * (dt233 79 10)), .inr (.inr (some 83))]) (w' := (SH, dt233)) rfl ?_
        have hI245 : InvC (u2 dt233 83 ((4 * (dt233 79 10)).toNat) (dt233 79 16)) := InvC_u2 hI234 (lo := -2147483648) (hi := 2147483647) rfl rfl rfl (by first | exact bnd1 r244 (by decide) | omega) (by first | exact bnd2 r244 (by decide) | omega)
        have hF246 : Fr [79, 83, 84] dt (u2 dt233 83 ((4 * (dt233 79 10)).toNat) (dt233 79 16)) := Fr_u2 hF236 (by decide)
        have w247 : (u2 dt233 83 ((4 * (dt233 79 10)).toNat) (dt233 79 16)) 79 2 = dt233 79 2 := rfl
        have w248 : (u2 dt233 83 ((4 * (dt233 79 10)).toNat) (dt233 79 16)) 79 9 = dt233 79 9 := rfl
        have w249 : (u2 dt233 83 ((4 * (dt233 79 10)).toNat) (dt233 79 16)) 79 10 = dt233 79 10 := rfl
        have w250 : (u2 dt233 83 ((4 * (dt233 79 10)).toNat) (dt233 79 16)) 79 11 = dt233 79 11 := rfl
        have w251 : (u2 dt233 83 ((4 * (dt233 79 10)).toNat) (dt233 79 16)) 79 12 = dt233 79 12 := rfl
        have w252 : (u2 dt233 83 ((4 * (dt233 79 10)).toNat) (dt233 79 16)) 79 13 = dt233 79 13 := rfl
        have w253 : (u2 dt233 83 ((4 * (dt233 79 10)).toNat) (dt233 79 16)) 79 14 = dt233 79 14 := rfl
        have w254 : (u2 dt233 83 ((4 * (dt233 79 10)).toNat) (dt233 79 16)) 79 15 = dt233 79 15 := rfl
        have w255 : (u2 dt233 83 ((4 * (dt233 79 10)).toNat) (dt233 79 16)) 79 16 = dt233 79 16 := rfl
        have w256 : (u2 dt233 83 ((4 * (dt233 79 10)).toNat) (dt233 79 16)) 79 20 = dt233 79 20 := rfl
        have E84257 : (u2 dt233 83 ((4 * (dt233 79 10)).toNat) (dt233 79 16)) 84 = dt 84 := (funext fun _ => rfl).trans E84237
        have ex259 : ((4 * (dt 79 10))).toNat = (4 * (dt233 79 10)).toNat := by omega
        have BL258 : ∀ j : Nat, (j : Int) < 4 * dt 79 10 → (u2 dt233 83 ((4 * (dt233 79 10)).toNat) (dt233 79 16)) 83 j = dt 83 j := fun j hj => (u2_ne (by omega)).trans (BL238 j hj)
        have y260 : (u2 dt233 83 ((4 * (dt233 79 10)).toNat) (dt233 79 16)) 83 ((4 * (dt 79 10))).toNat = dt233 79 16 := by rw [ex259]; exact u2_eq
        have y261 : (u2 dt233 83 ((4 * (dt233 79 10)).toNat) (dt233 79 16)) 83 ((4 * (dt 79 10)) + 1).toNat = dt233 83 ((4 * (dt 79 10)) + 1).toNat := u2_ne (by omega)
        have y262 : (u2 dt233 83 ((4 * (dt233 79 10)).toNat) (dt233 79 16)) 83 ((4 * (dt 79 10)) + 2).toNat = dt233 83 ((4 * (dt 79 10)) + 2).toNat := u2_ne (by omega)
        have y263 : (u2 dt233 83 ((4 * (dt233 79 10)).toNat) (dt233 79 16)) 83 ((4 * (dt 79 10)) + 3).toNat = dt233 83 ((4 * (dt 79 10)) + 3).toNat := u2_ne (by omega)
        refine go_smpq PM173 (L' := [some (.inr (.inr (some 79))), some (.inl 1)]) (st' := []) (w' := (SH, (u2 dt233 83 ((4 * (dt233 79 10)).toNat) (dt233 79 16)))) rfl rfl (s_iast (n := 64) rfl ⟨by omega, by omega⟩ (by first | exact bnd r244 (by decide) (by decide) | exact ⟨by omega, by omega⟩)) ?_
        refine go_toq PM173 (k := 5) (pc' := 95) (L' := [some (.inr (.inr (some 79))), some (.inl 1)]) (st' := [.inl 7, .inl 0, .inr (.inr (some 79))]) (w' := (SH, (u2 dt233 83 ((4 * (dt233 79 10)).toNat) (dt233 79 16)))) rfl ?_
        refine go_callq PM173 PM162 (Q' := _) rfl rfl rfl rfl (sp_X6_number L xs sio (d + 29) (u2 dt233 83 ((4 * (dt233 79 10)).toNat) (dt233 79 16)) hI245  0 ⟨by decide, by decide⟩ 7 ⟨by decide, by decide⟩ (by first | exact True.intro | rfl | omega | trivial)) ?_
        rintro _ _ ⟨dt265, rfl, hI266, hF267, h264⟩
        refine ⟨rfl, ?_⟩
        have hF268 : Fr [79, 83, 84] dt dt265 := Fr_tr hF246 hF267 (by decide)
        have E84269 : dt265 84 = dt 84 := (funext (hF267 84 (by decide))).trans E84257
        rcases h264 with ⟨rfl, h264⟩ | ⟨rfl, h264⟩
        · skip
          obtain ⟨h264_0, h264_1, h264_2, h264_3⟩ := h264
          have BL270 : ∀ j : Nat, (j : Int) < 4 * dt 79 10 → dt265 83 j = dt 83 j := fun j hj => (hF267 83 (by decide) j).trans (BL258 j hj)
          have y271 : dt265 83 ((4 * (dt 79 10))).toNat = (u2 dt233 83 ((4 * (dt233 79 10)).toNat) (dt233 79 16)) 83 ((4 * (dt 79 10))).toNat := hF267 83 (by decide) _
          have y272 : dt265 83 ((4 * (dt 79 10)) + 1).toNat = (u2 dt233 83 ((4 * (dt233 79 10)).toNat) (dt233 79 16)) 83 ((4 * (dt 79 10)) + 1).toNat := hF267 83 (by decide) _
          have y273 : dt265 83 ((4 * (dt 79 10)) + 2).toNat = (u2 dt233 83 ((4 * (dt233 79 10)).toNat) (dt233 79 16)) 83 ((4 * (dt 79 10)) + 2).toNat := hF267 83 (by decide) _
          have y274 : dt265 83 ((4 * (dt 79 10)) + 3).toNat = (u2 dt233 83 ((4 * (dt233 79 10)).toNat) (dt233 79 16)) 83 ((4 * (dt 79 10)) + 3).toNat := hF267 83 (by decide) _
          refine go_retq PM173 (k := 2) (r := some (.inl 0)) (w1 := (SH, dt265)) rfl ?_
          exact ⟨dt265, rfl, hI266, hF268, (Or.inl ⟨rfl, ⟨by first | exact True.intro | rfl | omega | trivial, by first | exact True.intro | rfl | omega | trivial, by first | exact True.intro | rfl | omega | trivial⟩⟩)⟩
        · skip
          obtain ⟨h264_0, h264_1, h264_2, h264_3, h264_4, h264_5, h264_6, h264_7, h264_8, h264_9, h264_10⟩ := h264
          clear h232_1
          have BL275 : ∀ j : Nat, (j : Int) < 4 * dt 79 10 → dt265 83 j = dt 83 j := fun j hj => (hF267 83 (by decide) j).trans (BL258 j hj)
          have y276 : dt265 83 ((4 * (dt 79 10))).toNat = (u2 dt233 83 ((4 * (dt233 79 10)).toNat) (dt233 79 16)) 83 ((4 * (dt 79 10))).toNat := hF267 83 (by decide) _
          have y277 : dt265 83 ((4 * (dt 79 10)) + 1).toNat = (u2 dt233 83 ((4 * (dt233 79 10)).toNat) (dt233 79 16)) 83 ((4 * (dt 79 10)) + 1).toNat := hF267 83 (by decide) _
          have y278 : dt265 83 ((4 * (dt 79 10)) + 2).toNat = (u2 dt233 83 ((4 * (dt233 79 10)).toNat) (dt233 79 16)) 83 ((4 * (dt 79 10)) + 2).toNat := hF267 83 (by decide) _
          have y279 : dt265 83 ((4 * (dt 79 10)) + 3).toNat = (u2 dt233 83 ((4 * (dt233 79 10)).toNat) (dt233 79 16)) 83 ((4 * (dt 79 10)) + 3).toNat := hF267 83 (by decide) _
          have r280 : 0 ≤ dt265 79 10 ∧ dt265 79 10 ≤ 24 := InvC_get hI266 79 10 rfl rfl
          have r281 : 0 ≤ dt265 79 11 ∧ dt265 79 11 ≤ 510 := InvC_get hI266 79 11 rfl rfl
          refine go_toq PM173 (k := 11) (pc' := 119) (L' := [some (.inr (.inr (some 79))), some (.inl 1)]) (st' := [.inl (dt265 79 11), .inl ((4 * (dt265 79 10)) + 1), .inr (.inr (some 83))]) (w' := (SH, dt265)) rfl ?_
          have hI282 : InvC (u2 dt265 83 (((4 * (dt265 79 10)) + 1).toNat) (dt265 79 11)) := InvC_u2 hI266 (lo := -2147483648) (hi := 2147483647) rfl rfl rfl (by first | exact bnd1 r281 (by decide) | omega) (by first | exact bnd2 r281 (by decide) | omega)
          have hF283 : Fr [79, 83, 84] dt (u2 dt265 83 (((4 * (dt265 79 10)) + 1).toNat) (dt265 79 11)) := Fr_u2 hF268 (by decide)
          have w284 : (u2 dt265 83 (((4 * (dt265 79 10)) + 1).toNat) (dt265 79 11)) 79 2 = dt265 79 2 := rfl
          have w285 : (u2 dt265 83 (((4 * (dt265 79 10)) + 1).toNat) (dt265 79 11)) 79 9 = dt265 79 9 := rfl
          have w286 : (u2 dt265 83 (((4 * (dt265 79 10)) + 1).toNat) (dt265 79 11)) 79 10 = dt265 79 10 := rfl
          have w287 : (u2 dt265 83 (((4 * (dt265 79 10)) + 1).toNat) (dt265 79 11)) 79 11 = dt265 79 11 := rfl
          have w288 : (u2 dt265 83 (((4 * (dt265 79 10)) + 1).toNat) (dt265 79 11)) 79 12 = dt265 79 12 := rfl
          have w289 : (u2 dt265 83 (((4 * (dt265 79 10)) + 1).toNat) (dt265 79 11)) 79 13 = dt265 79 13 := rfl
          have w290 : (u2 dt265 83 (((4 * (dt265 79 10)) + 1).toNat) (dt265 79 11)) 79 14 = dt265 79 14 := rfl
          have w291 : (u2 dt265 83 (((4 * (dt265 79 10)) + 1).toNat) (dt265 79 11)) 79 15 = dt265 79 15 := rfl
          have w292 : (u2 dt265 83 (((4 * (dt265 79 10)) + 1).toNat) (dt265 79 11)) 79 16 = dt265 79 16 := rfl
          have w293 : (u2 dt265 83 (((4 * (dt265 79 10)) + 1).toNat) (dt265 79 11)) 79 20 = dt265 79 20 := rfl
          have E84294 : (u2 dt265 83 (((4 * (dt265 79 10)) + 1).toNat) (dt265 79 11)) 84 = dt 84 := (funext fun _ => rfl).trans E84269
          have ex296 : ((4 * (dt 79 10)) + 1).toNat = ((4 * (dt265 79 10)) + 1).toNat := by omega
          have BL295 : ∀ j : Nat, (j : Int) < 4 * dt 79 10 → (u2 dt265 83 (((4 * (dt265 79 10)) + 1).toNat) (dt265 79 11)) 83 j = dt 83 j := fun j hj => (u2_ne (by omega)).trans (BL275 j hj)
          have y297 : (u2 dt265 83 (((4 * (dt265 79 10)) + 1).toNat) (dt265 79 11)) 83 ((4 * (dt 79 10))).toNat = dt265 83 ((4 * (dt 79 10))).toNat := u2_ne (by omega)
          have y298 : (u2 dt265 83 (((4 * (dt265 79 10)) + 1).toNat) (dt265 79 11)) 83 ((4 * (dt 79 10)) + 1).toNat = dt265 79 11 := by rw [ex296]; exact u2_eq
          have y299 : (u2 dt265 83 (((4 * (dt265 79 10)) + 1).toNat) (dt265 79 11)) 83 ((4 * (dt 79 10)) + 2).toNat = dt265 83 ((4 * (dt 79 10)) + 2).toNat := u2_ne (by omega)
          have y300 : (u2 dt265 83 (((4 * (dt265 79 10)) + 1).toNat) (dt265 79 11)) 83 ((4 * (dt 79 10)) + 3).toNat = dt265 83 ((4 * (dt 79 10)) + 3).toNat := u2_ne (by omega)
          refine go_smpq PM173 (L' := [some (.inr (.inr (some 79))), some (.inl 1)]) (st' := []) (w' := (SH, (u2 dt265 83 (((4 * (dt265 79 10)) + 1).toNat) (dt265 79 11)))) rfl rfl (s_iast (n := 64) rfl ⟨by omega, by omega⟩ (by first | exact bnd r281 (by decide) (by decide) | exact ⟨by omega, by omega⟩)) ?_
          refine go_toq PM173 (k := 1) (pc' := 121) (L' := [some (.inr (.inr (some 79))), some (.inl 1)]) (st' := [.inr (.inr (some 79))]) (w' := (SH, (u2 dt265 83 (((4 * (dt265 79 10)) + 1).toNat) (dt265 79 11)))) rfl ?_
          refine go_callq PM173 PM165 (Q' := _) rfl rfl rfl rfl (sp_X6_sumUp L xs sio (d + 27) (u2 dt265 83 (((4 * (dt265 79 10)) + 1).toNat) (dt265 79 11)) hI282   (by first | exact True.intro | rfl | omega | trivial) (by first | exact True.intro | rfl | omega | trivial)) ?_
          rintro _ _ ⟨dt302, rfl, hI303, hF304, h301⟩
          refine ⟨rfl, ?_⟩
          have hF305 : Fr [79, 83, 84] dt dt302 := Fr_tr hF283 hF304 (by decide)
          rcases h301 with ⟨rfl, h301⟩ | ⟨rfl, h301⟩
          · skip
            obtain ⟨h301_0, h301_1, h301_2, h301_3⟩ := h301
            have BL306 : ∀ j : Nat, (j : Int) < 4 * dt 79 10 → dt302 83 j = dt 83 j := fun j hj => (hF304 83 (by decide) j).trans (BL295 j hj)
            have y307 : dt302 83 ((4 * (dt 79 10))).toNat = (u2 dt265 83 (((4 * (dt265 79 10)) + 1).toNat) (dt265 79 11)) 83 ((4 * (dt 79 10))).toNat := hF304 83 (by decide) _
            have y308 : dt302 83 ((4 * (dt 79 10)) + 1).toNat = (u2 dt265 83 (((4 * (dt265 79 10)) + 1).toNat) (dt265 79 11)) 83 ((4 * (dt 79 10)) + 1).toNat := hF304 83 (by decide) _
            have y309 : dt302 83 ((4 * (dt 79 10)) + 2).toNat = (u2 dt265 83 (((4 * (dt265 79 10)) + 1).toNat) (dt265 79 11)) 83 ((4 * (dt 79 10)) + 2).toNat := hF304 83 (by decide) _
            have y310 : dt302 83 ((4 * (dt 79 10)) + 3).toNat = (u2 dt265 83 (((4 * (dt265 79 10)) + 1).toNat) (dt265 79 11)) 83 ((4 * (dt 79 10)) + 3).toNat := hF304 83 (by decide) _
            refine go_retq PM173 (k := 2) (r := some (.inl 0)) (w1 := (SH, dt302)) rfl ?_
            exact ⟨dt302, rfl, hI303, hF305, (Or.inl ⟨rfl, ⟨by first | exact True.intro | rfl | omega | trivial, by first | exact True.intro | rfl | omega | trivial, by first | exact True.intro | rfl | omega | trivial⟩⟩)⟩
          · skip
            obtain ⟨h301_0, h301_1, h301_2, h301_3, h301_4, h301_5, h301_6, h301_7, h301_8, h301_9, h301_10⟩ := h301
            clear h264_3
            have BL311 : ∀ j : Nat, (j : Int) < 4 * dt 79 10 → dt302 83 j = dt 83 j := fun j hj => (hF304 83 (by decide) j).trans (BL295 j hj)
            have y312 : dt302 83 ((4 * (dt 79 10))).toNat = (u2 dt265 83 (((4 * (dt265 79 10)) + 1).toNat) (dt265 79 11)) 83 ((4 * (dt 79 10))).toNat := hF304 83 (by decide) _
            have y313 : dt302 83 ((4 * (dt 79 10)) + 1).toNat = (u2 dt265 83 (((4 * (dt265 79 10)) + 1).toNat) (dt265 79 11)) 83 ((4 * (dt 79 10)) + 1).toNat := hF304 83 (by decide) _
            have y314 : dt302 83 ((4 * (dt 79 10)) + 2).toNat = (u2 dt265 83 (((4 * (dt265 79 10)) + 1).toNat) (dt265 79 11)) 83 ((4 * (dt 79 10)) + 2).toNat := hF304 83 (by decide) _
            have y315 : dt302 83 ((4 * (dt 79 10)) + 3).toNat = (u2 dt265 83 (((4 * (dt265 79 10)) + 1).toNat) (dt265 79 11)) 83 ((4 * (dt 79 10)) + 3).toNat := hF304 83 (by decide) _
            have r316 : 0 ≤ dt302 79 10 ∧ dt302 79 10 ≤ 24 := InvC_get hI303 79 10 rfl rfl
            have r317 : 0 ≤ dt302 79 11 ∧ dt302 79 11 ≤ 510 := InvC_get hI303 79 11 rfl rfl
            refine go_toq PM173 (k := 11) (pc' := 145) (L' := [some (.inr (.inr (some 79))), some (.inl 1)]) (st' := [.inl (dt302 79 11), .inl ((4 * (dt302 79 10)) + 2), .inr (.inr (some 83))]) (w' := (SH, dt302)) rfl ?_
            have hI318 : InvC (u2 dt302 83 (((4 * (dt302 79 10)) + 2).toNat) (dt302 79 11)) := InvC_u2 hI303 (lo := -2147483648) (hi := 2147483647) rfl rfl rfl (by first | exact bnd1 r317 (by decide) | omega) (by first | exact bnd2 r317 (by decide) | omega)
            have hF319 : Fr [79, 83, 84] dt (u2 dt302 83 (((4 * (dt302 79 10)) + 2).toNat) (dt302 79 11)) := Fr_u2 hF305 (by decide)
            have w320 : (u2 dt302 83 (((4 * (dt302 79 10)) + 2).toNat) (dt302 79 11)) 79 2 = dt302 79 2 := rfl
            have w321 : (u2 dt302 83 (((4 * (dt302 79 10)) + 2).toNat) (dt302 79 11)) 79 9 = dt302 79 9 := rfl
            have w322 : (u2 dt302 83 (((4 * (dt302 79 10)) + 2).toNat) (dt302 79 11)) 79 10 = dt302 79 10 := rfl
            have w323 : (u2 dt302 83 (((4 * (dt302 79 10)) + 2).toNat) (dt302 79 11)) 79 11 = dt302 79 11 := rfl
            have w324 : (u2 dt302 83 (((4 * (dt302 79 10)) + 2).toNat) (dt302 79 11)) 79 12 = dt302 79 12 := rfl
            have w325 : (u2 dt302 83 (((4 * (dt302 79 10)) + 2).toNat) (dt302 79 11)) 79 13 = dt302 79 13 := rfl
            have w326 : (u2 dt302 83 (((4 * (dt302 79 10)) + 2).toNat) (dt302 79 11)) 79 14 = dt302 79 14 := rfl
            have w327 : (u2 dt302 83 (((4 * (dt302 79 10)) + 2).toNat) (dt302 79 11)) 79 15 = dt302 79 15 := rfl
            have w328 : (u2 dt302 83 (((4 * (dt302 79 10)) + 2).toNat) (dt302 79 11)) 79 16 = dt302 79 16 := rfl
            have w329 : (u2 dt302 83 (((4 * (dt302 79 10)) + 2).toNat) (dt302 79 11)) 79 20 = dt302 79 20 := rfl
            have E84330 : (u2 dt302 83 (((4 * (dt302 79 10)) + 2).toNat) (dt302 79 11)) 84 = dt302 84 := funext fun _ => rfl
            have ex332 : ((4 * (dt 79 10)) + 2).toNat = ((4 * (dt302 79 10)) + 2).toNat := by omega
            have BL331 : ∀ j : Nat, (j : Int) < 4 * dt 79 10 → (u2 dt302 83 (((4 * (dt302 79 10)) + 2).toNat) (dt302 79 11)) 83 j = dt 83 j := fun j hj => (u2_ne (by omega)).trans (BL311 j hj)
            have y333 : (u2 dt302 83 (((4 * (dt302 79 10)) + 2).toNat) (dt302 79 11)) 83 ((4 * (dt 79 10))).toNat = dt302 83 ((4 * (dt 79 10))).toNat := u2_ne (by omega)
            have y334 : (u2 dt302 83 (((4 * (dt302 79 10)) + 2).toNat) (dt302 79 11)) 83 ((4 * (dt 79 10)) + 1).toNat = dt302 83 ((4 * (dt 79 10)) + 1).toNat := u2_ne (by omega)
            have y335 : (u2 dt302 83 (((4 * (dt302 79 10)) + 2).toNat) (dt302 79 11)) 83 ((4 * (dt 79 10)) + 2).toNat = dt302 79 11 := by rw [ex332]; exact u2_eq
            have y336 : (u2 dt302 83 (((4 * (dt302 79 10)) + 2).toNat) (dt302 79 11)) 83 ((4 * (dt 79 10)) + 3).toNat = dt302 83 ((4 * (dt 79 10)) + 3).toNat := u2_ne (by omega)
            refine go_smpq PM173 (L' := [some (.inr (.inr (some 79))), some (.inl 1)]) (st' := []) (w' := (SH, (u2 dt302 83 (((4 * (dt302 79 10)) + 2).toNat) (dt302 79 11)))) rfl rfl (s_iast (n := 64) rfl ⟨by omega, by omega⟩ (by first | exact bnd r317 (by decide) (by decide) | exact ⟨by omega, by omega⟩)) ?_
            have r337 : (-2147483648) ≤ dt302 79 14 ∧ dt302 79 14 ≤ 2147483647 := InvC_get hI303 79 14 rfl rfl
            refine go_ifq PM173 (k := 3) (p1 := 167) (p2 := 154) (L' := [some (.inr (.inr (some 79))), some (.inl 1)]) (st' := []) (w' := (SH, (u2 dt302 83 (((4 * (dt302 79 10)) + 2).toNat) (dt302 79 11)))) rfl (c_ne (a := dt302 79 14) (b := 3) (by first | exact bnd r337 (by decide) (by decide) | exact ⟨by omega, by omega⟩) ⟨by decide, by decide⟩) (fun c338 => ?_) (fun c338 => ?_)
            · skip
              refine go_toq PM173 (k := 10) (pc' := 183) (L' := [some (.inr (.inr (some 79))), some (.inl 1)]) (st' := [.inl (dt302 79 11), .inl ((4 * (dt302 79 10)) + 3), .inr (.inr (some 83))]) (w' := (SH, (u2 dt302 83 (((4 * (dt302 79 10)) + 2).toNat) (dt302 79 11)))) rfl ?_
              have hI339 : InvC (u2 (u2 dt302 83 (((4 * (dt302 79 10)) + 2).toNat) (dt302 79 11)) 83 (((4 * (dt302 79 10)) + 3).toNat) (dt302 79 11)) := InvC_u2 hI318 (lo := -2147483648) (hi := 2147483647) rfl rfl rfl (by first | exact bnd1 r317 (by decide) | omega) (by first | exact bnd2 r317 (by decide) | omega)
              have hF340 : Fr [79, 83, 84] dt (u2 (u2 dt302 83 (((4 * (dt302 79 10)) + 2).toNat) (dt302 79 11)) 83 (((4 * (dt302 79 10)) + 3).toNat) (dt302 79 11)) := Fr_u2 hF319 (by decide)
              have w341 : (u2 (u2 dt302 83 (((4 * (dt302 79 10)) + 2).toNat) (dt302 79 11)) 83 (((4 * (dt302 79 10)) + 3).toNat) (dt302 79 11)) 79 2 = (u2 dt302 83 (((4 * (dt302 79 10)) + 2).toNat) (dt302 79 11)) 79 2 := rfl
              have w342 : (u2 (u2 dt302 83 (((4 * (dt302 79 10)) + 2).toNat) (dt302 79 11)) 83 (((4 * (dt302 79 10)) + 3).toNat) (dt302 79 11)) 79 9 = (u2 dt302 83 (((4 * (dt302 79 10)) + 2).toNat) (dt302 79 11)) 79 9 := rfl
              have w343 : (u2 (u2 dt302 83 (((4 * (dt302 79 10)) + 2).toNat) (dt302 79 11)) 83 (((4 * (dt302 79 10)) + 3).toNat) (dt302 79 11)) 79 10 = (u2 dt302 83 (((4 * (dt302 79 10)) + 2).toNat) (dt302 79 11)) 79 10 := rfl
              have w344 : (u2 (u2 dt302 83 (((4 * (dt302 79 10)) + 2).toNat) (dt302 79 11)) 83 (((4 * (dt302 79 10)) + 3).toNat) (dt302 79 11)) 79 11 = (u2 dt302 83 (((4 * (dt302 79 10)) + 2).toNat) (dt302 79 11)) 79 11 := rfl
              have w345 : (u2 (u2 dt302 83 (((4 * (dt302 79 10)) + 2).toNat) (dt302 79 11)) 83 (((4 * (dt302 79 10)) + 3).toNat) (dt302 79 11)) 79 12 = (u2 dt302 83 (((4 * (dt302 79 10)) + 2).toNat) (dt302 79 11)) 79 12 := rfl
              have w346 : (u2 (u2 dt302 83 (((4 * (dt302 79 10)) + 2).toNat) (dt302 79 11)) 83 (((4 * (dt302 79 10)) + 3).toNat) (dt302 79 11)) 79 13 = (u2 dt302 83 (((4 * (dt302 79 10)) + 2).toNat) (dt302 79 11)) 79 13 := rfl
              have w347 : (u2 (u2 dt302 83 (((4 * (dt302 79 10)) + 2).toNat) (dt302 79 11)) 83 (((4 * (dt302 79 10)) + 3).toNat) (dt302 79 11)) 79 14 = (u2 dt302 83 (((4 * (dt302 79 10)) + 2).toNat) (dt302 79 11)) 79 14 := rfl
              have w348 : (u2 (u2 dt302 83 (((4 * (dt302 79 10)) + 2).toNat) (dt302 79 11)) 83 (((4 * (dt302 79 10)) + 3).toNat) (dt302 79 11)) 79 15 = (u2 dt302 83 (((4 * (dt302 79 10)) + 2).toNat) (dt302 79 11)) 79 15 := rfl
              have w349 : (u2 (u2 dt302 83 (((4 * (dt302 79 10)) + 2).toNat) (dt302 79 11)) 83 (((4 * (dt302 79 10)) + 3).toNat) (dt302 79 11)) 79 16 = (u2 dt302 83 (((4 * (dt302 79 10)) + 2).toNat) (dt302 79 11)) 79 16 := rfl
              have w350 : (u2 (u2 dt302 83 (((4 * (dt302 79 10)) + 2).toNat) (dt302 79 11)) 83 (((4 * (dt302 79 10)) + 3).toNat) (dt302 79 11)) 79 20 = (u2 dt302 83 (((4 * (dt302 79 10)) + 2).toNat) (dt302 79 11)) 79 20 := rfl
              have E84351 : (u2 (u2 dt302 83 (((4 * (dt302 79 10)) + 2).toNat) (dt302 79 11)) 83 (((4 * (dt302 79 10)) + 3).toNat) (dt302 79 11)) 84 = dt302 84 := (funext fun _ => rfl).trans E84330
              have ex353 : ((4 * (dt 79 10)) + 3).toNat = ((4 * (dt302 79 10)) + 3).toNat := by omega
              have BL352 : ∀ j : Nat, (j : Int) < 4 * dt 79 10 → (u2 (u2 dt302 83 (((4 * (dt302 79 10)) + 2).toNat) (dt302 79 11)) 83 (((4 * (dt302 79 10)) + 3).toNat) (dt302 79 11)) 83 j = dt 83 j := fun j hj => (u2_ne (by omega)).trans (BL331 j hj)
              have y354 : (u2 (u2 dt302 83 (((4 * (dt302 79 10)) + 2).toNat) (dt302 79 11)) 83 (((4 * (dt302 79 10)) + 3).toNat) (dt302 79 11)) 83 ((4 * (dt 79 10))).toNat = (u2 dt302 83 (((4 * (dt302 79 10)) + 2).toNat) (dt302 79 11)) 83 ((4 * (dt 79 10))).toNat := u2_ne (by omega)
              have y355 : (u2 (u2 dt302 83 (((4 * (dt302 79 10)) + 2).toNat) (dt302 79 11)) 83 (((4 * (dt302 79 10)) + 3).toNat) (dt302 79 11)) 83 ((4 * (dt 79 10)) + 1).toNat = (u2 dt302 83 (((4 * (dt302 79 10)) + 2).toNat) (dt302 79 11)) 83 ((4 * (dt 79 10)) + 1).toNat := u2_ne (by omega)
              have y356 : (u2 (u2 dt302 83 (((4 * (dt302 79 10)) + 2).toNat) (dt302 79 11)) 83 (((4 * (dt302 79 10)) + 3).toNat) (dt302 79 11)) 83 ((4 * (dt 79 10)) + 2).toNat = (u2 dt302 83 (((4 * (dt302 79 10)) + 2).toNat) (dt302 79 11)) 83 ((4 * (dt 79 10)) + 2).toNat := u2_ne (by omega)
              have y357 : (u2 (u2 dt302 83 (((4 * (dt302 79 10)) + 2).toNat) (dt302 79 11)) 83 (((4 * (dt302 79 10)) + 3).toNat) (dt302 79 11)) 83 ((4 * (dt 79 10)) + 3).toNat = dt302 79 11 := by rw [ex353]; exact u2_eq
              refine go_smpq PM173 (L' := [some (.inr (.inr (some 79))), some (.inl 1)]) (st' := []) (w' := (SH, (u2 (u2 dt302 83 (((4 * (dt302 79 10)) + 2).toNat) (dt302 79 11)) 83 (((4 * (dt302 79 10)) + 3).toNat) (dt302 79 11)))) rfl rfl (s_iast (n := 64) rfl ⟨by omega, by omega⟩ (by first | exact bnd r317 (by decide) (by decide) | exact ⟨by omega, by omega⟩)) ?_
              refine go_toq PM173 (k := 2) (pc' := 188) (L' := [some (.inr (.inr (some 79))), some (.inl 1)]) (st' := [.inl 159, .inr (.inr (some 79))]) (w' := (SH, (u2 (u2 dt302 83 (((4 * (dt302 79 10)) + 2).toNat) (dt302 79 11)) 83 (((4 * (dt302 79 10)) + 3).toNat) (dt302 79 11)))) rfl ?_
              refine go_callq PM173 PM161 (Q' := _) rfl rfl rfl rfl (sp_X6_need0 L xs sio (d + 29) (u2 (u2 dt302 83 (((4 * (dt302 79 10)) + 2).toNat) (dt302 79 11)) 83 (((4 * (dt302 79 10)) + 3).toNat) (dt302 79 11)) hI339  159 ⟨by decide, by decide⟩ (by first | exact True.intro | rfl | omega | trivial)) ?_
              rintro _ _ ⟨dt359, rfl, hI360, hF361, h358⟩
              refine ⟨rfl, ?_⟩
              have hF362 : Fr [79, 83, 84] dt dt359 := Fr_tr hF340 hF361 (by decide)
              have E84363 : dt359 84 = dt302 84 := (funext (hF361 84 (by decide))).trans E84351
              rcases h358 with ⟨rfl, h358⟩ | ⟨rfl, h358⟩
              · skip
                obtain ⟨h358_0, h358_1, h358_2, h358_3⟩ := h358
                have BL364 : ∀ j : Nat, (j : Int) < 4 * dt 79 10 → dt359 83 j = dt 83 j := fun j hj => (hF361 83 (by decide) j).trans (BL352 j hj)
                have y365 : dt359 83 ((4 * (dt 79 10))).toNat = (u2 (u2 dt302 83 (((4 * (dt302 79 10)) + 2).toNat) (dt302 79 11)) 83 (((4 * (dt302 79 10)) + 3).toNat) (dt302 79 11)) 83 ((4 * (dt 79 10))).toNat := hF361 83 (by decide) _
                have y366 : dt359 83 ((4 * (dt 79 10)) + 1).toNat = (u2 (u2 dt302 83 (((4 * (dt302 79 10)) + 2).toNat) (dt302 79 11)) 83 (((4 * (dt302 79 10)) + 3).toNat) (dt302 79 11)) 83 ((4 * (dt 79 10)) + 1).toNat := hF361 83 (by decide) _
                have y367 : dt359 83 ((4 * (dt 79 10)) + 2).toNat = (u2 (u2 dt302 83 (((4 * (dt302 79 10)) + 2).toNat) (dt302 79 11)) 83 (((4 * (dt302 79 10)) + 3).toNat) (dt302 79 11)) 83 ((4 * (dt 79 10)) + 2).toNat := hF361 83 (by decide) _
                have y368 : dt359 83 ((4 * (dt 79 10)) + 3).toNat = (u2 (u2 dt302 83 (((4 * (dt302 79 10)) + 2).toNat) (dt302 79 11)) 83 (((4 * (dt302 79 10)) + 3).toNat) (dt302 79 11)) 83 ((4 * (dt 79 10)) + 3).toNat := hF361 83 (by decide) _
                refine go_retq PM173 (k := 0) (r := some (.inl 0)) (w1 := (SH, dt359)) rfl ?_
                exact ⟨dt359, rfl, hI360, hF362, (Or.inl ⟨rfl, ⟨by first | exact True.intro | rfl | omega | trivial, by first | exact True.intro | rfl | omega | trivial, by first | exact True.intro | rfl | omega | trivial⟩⟩)⟩
              · skip
                obtain ⟨h358_0, h358_1, h358_2, h358_3, h358_4, h358_5, h358_6, h358_7, h358_8⟩ := h358
                clear h301_2
                have BL369 : ∀ j : Nat, (j : Int) < 4 * dt 79 10 → dt359 83 j = dt 83 j := fun j hj => (hF361 83 (by decide) j).trans (BL352 j hj)
                have y370 : dt359 83 ((4 * (dt 79 10))).toNat = (u2 (u2 dt302 83 (((4 * (dt302 79 10)) + 2).toNat) (dt302 79 11)) 83 (((4 * (dt302 79 10)) + 3).toNat) (dt302 79 11)) 83 ((4 * (dt 79 10))).toNat := hF361 83 (by decide) _
                have y371 : dt359 83 ((4 * (dt 79 10)) + 1).toNat = (u2 (u2 dt302 83 (((4 * (dt302 79 10)) + 2).toNat) (dt302 79 11)) 83 (((4 * (dt302 79 10)) + 3).toNat) (dt302 79 11)) 83 ((4 * (dt 79 10)) + 1).toNat := hF361 83 (by decide) _
                have y372 : dt359 83 ((4 * (dt 79 10)) + 2).toNat = (u2 (u2 dt302 83 (((4 * (dt302 79 10)) + 2).toNat) (dt302 79 11)) 83 (((4 * (dt302 79 10)) + 3).toNat) (dt302 79 11)) 83 ((4 * (dt 79 10)) + 2).toNat := hF361 83 (by decide) _
                have y373 : dt359 83 ((4 * (dt 79 10)) + 3).toNat = (u2 (u2 dt302 83 (((4 * (dt302 79 10)) + 2).toNat) (dt302 79 11)) 83 (((4 * (dt302 79 10)) + 3).toNat) (dt302 79 11)) 83 ((4 * (dt 79 10)) + 3).toNat := hF361 83 (by decide) _
                refine go_retq PM173 (k := 0) (r := some (.inl 1)) (w1 := (SH, dt359)) rfl ?_
                exact ⟨dt359, rfl, hI360, hF362, (Or.inr ⟨rfl, ⟨by first | exact True.intro | rfl | omega | trivial, by exact BL369, by exact ⟨by omega, PS_fin h301_4 (by first | exact AGR_e (by assumption) | exact AGR_e rfl | exact AGR_4 (by assumption) hI (by first | assumption | rfl) (by omega)) (by omega) (by omega), fun _ => by first | omega | exact PS_fin hI (by first | exact AGR_e (by assumption) | exact AGR_e rfl) (by omega) (by omega)⟩, by first | exact AGR_4 (by assumption) h301_5 (by first | assumption | rfl) (by omega) | exact AGR_5 (by assumption) hI (by first | assumption | rfl) h301_5 (by first | assumption | rfl) (by omega) (by omega), by first | exact True.intro | rfl | omega | trivial, by first | exact True.intro | rfl | omega | trivial, by first | exact True.intro | rfl | omega | trivial, by first | exact True.intro | rfl | omega | trivial, by exact (InvC_get (by assumption) 79 15 rfl rfl).2, by first | exact True.intro | rfl | omega | trivial, by first | exact True.intro | rfl | omega | trivial, by first | exact True.intro | rfl | omega | trivial, by first | exact True.intro | rfl | omega | trivial⟩⟩)⟩
            · skip
              refine go_toq PM173 (k := 1) (pc' := 155) (L' := [some (.inr (.inr (some 79))), some (.inl 1)]) (st' := [.inr (.inr (some 79))]) (w' := (SH, (u2 dt302 83 (((4 * (dt302 79 10)) + 2).toNat) (dt302 79 11)))) rfl ?_
              refine go_callq PM173 PM159 (Q' := _) rfl rfl rfl rfl (sp_X6_next0 L xs sio (d + 30) (u2 dt302 83 (((4 * (dt302 79 10)) + 2).toNat) (dt302 79 11)) hI318   (by first | exact True.intro | rfl | omega | trivial)) ?_
              rintro _ _ ⟨dt375, rfl, hI376, hF377, h374⟩
              refine ⟨rfl, ?_⟩
              have hF378 : Fr [79, 83, 84] dt dt375 := Fr_tr hF319 hF377 (by decide)
              have E84379 : dt375 84 = dt302 84 := (funext (hF377 84 (by decide))).trans E84330
              rcases h374 with ⟨rfl, h374⟩
              obtain ⟨h374_0, h374_1, h374_2, h374_3, h374_4, h374_5, h374_6, h374_7, h374_8⟩ := h374
              have adv380 : (u2 dt302 83 (((4 * (dt302 79 10)) + 2).toNat) (dt302 79 11)) 79 15 + 1 ≤ (u2 dt302 83 (((4 * (dt302 79 10)) + 2).toNat) (dt302 79 11)) 79 13 := by omega
              clear h301_2
              have BL381 : ∀ j : Nat, (j : Int) < 4 * dt 79 10 → dt375 83 j = dt 83 j := fun j hj => (hF377 83 (by decide) j).trans (BL331 j hj)
              have y382 : dt375 83 ((4 * (dt 79 10))).toNat = (u2 dt302 83 (((4 * (dt302 79 10)) + 2).toNat) (dt302 79 11)) 83 ((4 * (dt 79 10))).toNat := hF377 83 (by decide) _
              have y383 : dt375 83 ((4 * (dt 79 10)) + 1).toNat = (u2 dt302 83 (((4 * (dt302 79 10)) + 2).toNat) (dt302 79 11)) 83 ((4 * (dt 79 10)) + 1).toNat := hF377 83 (by decide) _
              have y384 : dt375 83 ((4 * (dt 79 10)) + 2).toNat = (u2 dt302 83 (((4 * (dt302 79 10)) + 2).toNat) (dt302 79 11)) 83 ((4 * (dt 79 10)) + 2).toNat := hF377 83 (by decide) _
              have y385 : dt375 83 ((4 * (dt 79 10)) + 3).toNat = (u2 dt302 83 (((4 * (dt302 79 10)) + 2).toNat) (dt302 79 11)) 83 ((4 * (dt 79 10)) + 3).toNat := hF377 83 (by decide) _
              refine go_toq PM173 (k := 1) (pc' := 159) (L' := [some (.inr (.inr (some 79))), some (.inl 1)]) (st' := [.inr (.inr (some 79))]) (w' := (SH, dt375)) rfl ?_
              refine go_callq PM173 PM168 (Q' := _) rfl rfl rfl rfl (sp_X6_any_0 L xs sio (d + 0) dt375 hI376   (by first | exact True.intro | rfl | omega | trivial) (by first | exact True.intro | rfl | omega | trivial) (by first | exact True.intro | rfl | omega | trivial)) ?_
              rintro _ _ ⟨dt387, rfl, hI388, hF389, h386⟩
              refine ⟨rfl, ?_⟩
              have hF390 : Fr [79, 83, 84] dt dt387 := Fr_tr hF378 hF389 (by decide)
              rcases h386 with ⟨rfl, h386⟩ | ⟨rfl, h386⟩
              · skip
                obtain ⟨h386_0, h386_1, h386_2, h386_3⟩ := h386
                have BL391 : ∀ j : Nat, (j : Int) < 4 * dt 79 10 → dt387 83 j = dt 83 j := fun j hj => (hF389 83 (by decide) j).trans (BL381 j hj)
                have y392 : dt387 83 ((4 * (dt 79 10))).toNat = dt375 83 ((4 * (dt 79 10))).toNat := hF389 83 (by decide) _
                have y393 : dt387 83 ((4 * (dt 79 10)) + 1).toNat = dt375 83 ((4 * (dt 79 10)) + 1).toNat := hF389 83 (by decide) _
                have y394 : dt387 83 ((4 * (dt 79 10)) + 2).toNat = dt375 83 ((4 * (dt 79 10)) + 2).toNat := hF389 83 (by decide) _
                have y395 : dt387 83 ((4 * (dt 79 10)) + 3).toNat = dt375 83 ((4 * (dt 79 10)) + 3).toNat := hF389 83 (by decide) _
                refine go_retq PM173 (k := 2) (r := some (.inl 0)) (w1 := (SH, dt387)) rfl ?_
                exact ⟨dt387, rfl, hI388, hF390, (Or.inl ⟨rfl, ⟨by first | exact True.intro | rfl | omega | trivial, by first | exact True.intro | rfl | omega | trivial, by first | exact True.intro | rfl | omega | trivial⟩⟩)⟩
              · skip
                obtain ⟨h386_0, h386_1, h386_2, h386_3, h386_4, h386_5, h386_6, h386_7, h386_8, h386_9, h386_10⟩ := h386
                clear h374_1
                have BL396 : ∀ j : Nat, (j : Int) < 4 * dt 79 10 → dt387 83 j = dt 83 j := fun j hj => (hF389 83 (by decide) j).trans (BL381 j hj)
                have y397 : dt387 83 ((4 * (dt 79 10))).toNat = dt375 83 ((4 * (dt 79 10))).toNat := hF389 83 (by decide) _
                have y398 : dt387 83 ((4 * (dt 79 10)) + 1).toNat = dt375 83 ((4 * (dt 79 10)) + 1).toNat := hF389 83 (by decide) _
                have y399 : dt387 83 ((4 * (dt 79 10)) + 2).toNat = dt375 83 ((4 * (dt 79 10)) + 2).toNat := hF389 83 (by decide) _
                have y400 : dt387 83 ((4 * (dt 79 10)) + 3).toNat = dt375 83 ((4 * (dt 79 10)) + 3).toNat := hF389 83 (by decide) _
                have r401 : 0 ≤ dt387 79 10 ∧ dt387 79 10 ≤ 24 := InvC_get hI388 79 10 rfl rfl
                have r402 : 0 ≤ dt387 79 11 ∧ dt387 79 11 ≤ 510 := InvC_get hI388 79 11 rfl rfl
                refine go_toq PM173 (k := 11) (pc' := 183) (L' := [some (.inr (.inr (some 79))), some (.inl 1)]) (st' := [.inl (dt387 79 11), .inl ((4 * (dt387 79 10)) + 3), .inr (.inr (some 83))]) (w' := (SH, dt387)) rfl ?_
                have hI403 : InvC (u2 dt387 83 (((4 * (dt387 79 10)) + 3).toNat) (dt387 79 11)) := InvC_u2 hI388 (lo := -2147483648) (hi := 2147483647) rfl rfl rfl (by first | exact bnd1 r402 (by decide) | omega) (by first | exact bnd2 r402 (by decide) | omega)
                have hF404 : Fr [79, 83, 84] dt (u2 dt387 83 (((4 * (dt387 79 10)) + 3).toNat) (dt387 79 11)) := Fr_u2 hF390 (by decide)
                have w405 : (u2 dt387 83 (((4 * (dt387 79 10)) + 3).toNat) (dt387 79 11)) 79 2 = dt387 79 2 := rfl
                have w406 : (u2 dt387 83 (((4 * (dt387 79 10)) + 3).toNat) (dt387 79 11)) 79 9 = dt387 79 9 := rfl
                have w407 : (u2 dt387 83 (((4 * (dt387 79 10)) + 3).toNat) (dt387 79 11)) 79 10 = dt387 79 10 := rfl
                have w408 : (u2 dt387 83 (((4 * (dt387 79 10)) + 3).toNat) (dt387 79 11)) 79 11 = dt387 79 11 := rfl
                have w409 : (u2 dt387 83 (((4 * (dt387 79 10)) + 3).toNat) (dt387 79 11)) 79 12 = dt387 79 12 := rfl
                have w410 : (u2 dt387 83 (((4 * (dt387 79 10)) + 3).toNat) (dt387 79 11)) 79 13 = dt387 79 13 := rfl
                have w411 : (u2 dt387 83 (((4 * (dt387 79 10)) + 3).toNat) (dt387 79 11)) 79 14 = dt387 79 14 := rfl
                have w412 : (u2 dt387 83 (((4 * (dt387 79 10)) + 3).toNat) (dt387 79 11)) 79 15 = dt387 79 15 := rfl
                have w413 : (u2 dt387 83 (((4 * (dt387 79 10)) + 3).toNat) (dt387 79 11)) 79 16 = dt387 79 16 := rfl
                have w414 : (u2 dt387 83 (((4 * (dt387 79 10)) + 3).toNat) (dt387 79 11)) 79 20 = dt387 79 20 := rfl
                have E84415 : (u2 dt387 83 (((4 * (dt387 79 10)) + 3).toNat) (dt387 79 11)) 84 = dt387 84 := funext fun _ => rfl
                have ex417 : ((4 * (dt 79 10)) + 3).toNat = ((4 * (dt387 79 10)) + 3).toNat := by omega
                have BL416 : ∀ j : Nat, (j : Int) < 4 * dt 79 10 → (u2 dt387 83 (((4 * (dt387 79 10)) + 3).toNat) (dt387 79 11)) 83 j = dt 83 j := fun j hj => (u2_ne (by omega)).trans (BL396 j hj)
                have y418 : (u2 dt387 83 (((4 * (dt387 79 10)) + 3).toNat) (dt387 79 11)) 83 ((4 * (dt 79 10))).toNat = dt387 83 ((4 * (dt 79 10))).toNat := u2_ne (by omega)
                have y419 : (u2 dt387 83 (((4 * (dt387 79 10)) + 3).toNat) (dt387 79 11)) 83 ((4 * (dt 79 10)) + 1).toNat = dt387 83 ((4 * (dt 79 10)) + 1).toNat := u2_ne (by omega)
                have y420 : (u2 dt387 83 (((4 * (dt387 79 10)) + 3).toNat) (dt387 79 11)) 83 ((4 * (dt 79 10)) + 2).toNat = dt387 83 ((4 * (dt 79 10)) + 2).toNat := u2_ne (by omega)
                have y421 : (u2 dt387 83 (((4 * (dt387 79 10)) + 3).toNat) (dt387 79 11)) 83 ((4 * (dt 79 10)) + 3).toNat = dt387 79 11 := by rw [ex417]; exact u2_eq
                refine go_smpq PM173 (L' := [some (.inr (.inr (some 79))), some (.inl 1)]) (st' := []) (w' := (SH, (u2 dt387 83 (((4 * (dt387 79 10)) + 3).toNat) (dt387 79 11)))) rfl rfl (s_iast (n := 64) rfl ⟨by omega, by omega⟩ (by first | exact bnd r402 (by decide) (by decide) | exact ⟨by omega, by omega⟩)) ?_
                refine go_toq PM173 (k := 2) (pc' := 188) (L' := [some (.inr (.inr (some 79))), some (.inl 1)]) (st' := [.inl 159, .inr (.inr (some 79))]) (w' := (SH, (u2 dt387 83 (((4 * (dt387 79 10)) + 3).toNat) (dt387 79 11)))) rfl ?_
                refine go_callq PM173 PM161 (Q' := _) rfl rfl rfl rfl (sp_X6_need0 L xs sio (d + 29) (u2 dt387 83 (((4 * (dt387 79 10)) + 3).toNat) (dt387 79 11)) hI403  159 ⟨by decide, by decide⟩ (by first | exact True.intro | rfl | omega | trivial)) ?_
                rintro _ _ ⟨dt423, rfl, hI424, hF425, h422⟩
                refine ⟨rfl, ?_⟩
                have hF426 : Fr [79, 83, 84] dt dt423 := Fr_tr hF404 hF425 (by decide)
                have E84427 : dt423 84 = dt387 84 := (funext (hF425 84 (by decide))).trans E84415
                rcases h422 with ⟨rfl, h422⟩ | ⟨rfl, h422⟩
                · skip
                  obtain ⟨h422_0, h422_1, h422_2, h422_3⟩ := h422
                  have BL428 : ∀ j : Nat, (j : Int) < 4 * dt 79 10 → dt423 83 j = dt 83 j := fun j hj => (hF425 83 (by decide) j).trans (BL416 j hj)
                  have y429 : dt423 83 ((4 * (dt 79 10))).toNat = (u2 dt387 83 (((4 * (dt387 79 10)) + 3).toNat) (dt387 79 11)) 83 ((4 * (dt 79 10))).toNat := hF425 83 (by decide) _
                  have y430 : dt423 83 ((4 * (dt 79 10)) + 1).toNat = (u2 dt387 83 (((4 * (dt387 79 10)) + 3).toNat) (dt387 79 11)) 83 ((4 * (dt 79 10)) + 1).toNat := hF425 83 (by decide) _
                  have y431 : dt423 83 ((4 * (dt 79 10)) + 2).toNat = (u2 dt387 83 (((4 * (dt387 79 10)) + 3).toNat) (dt387 79 11)) 83 ((4 * (dt 79 10)) + 2).toNat := hF425 83 (by decide) _
                  have y432 : dt423 83 ((4 * (dt 79 10)) + 3).toNat = (u2 dt387 83 (((4 * (dt387 79 10)) + 3).toNat) (dt387 79 11)) 83 ((4 * (dt 79 10)) + 3).toNat := hF425 83 (by decide) _
                  refine go_retq PM173 (k := 0) (r := some (.inl 0)) (w1 := (SH, dt423)) rfl ?_
                  exact ⟨dt423, rfl, hI424, hF426, (Or.inl ⟨rfl, ⟨by first | exact True.intro | rfl | omega | trivial, by first | exact True.intro | rfl | omega | trivial, by first | exact True.intro | rfl | omega | trivial⟩⟩)⟩
                · skip
                  obtain ⟨h422_0, h422_1, h422_2, h422_3, h422_4, h422_5, h422_6, h422_7, h422_8⟩ := h422
                  clear h386_2
                  have BL433 : ∀ j : Nat, (j : Int) < 4 * dt 79 10 → dt423 83 j = dt 83 j := fun j hj => (hF425 83 (by decide) j).trans (BL416 j hj)
                  have y434 : dt423 83 ((4 * (dt 79 10))).toNat = (u2 dt387 83 (((4 * (dt387 79 10)) + 3).toNat) (dt387 79 11)) 83 ((4 * (dt 79 10))).toNat := hF425 83 (by decide) _
                  have y435 : dt423 83 ((4 * (dt 79 10)) + 1).toNat = (u2 dt387 83 (((4 * (dt387 79 10)) + 3).toNat) (dt387 79 11)) 83 ((4 * (dt 79 10)) + 1).toNat := hF425 83 (by decide) _
                  have y436 : dt423 83 ((4 * (dt 79 10)) + 2).toNat = (u2 dt387 83 (((4 * (dt387 79 10)) + 3).toNat) (dt387 79 11)) 83 ((4 * (dt 79 10)) + 2).toNat := hF425 83 (by decide) _
                  have y437 : dt423 83 ((4 * (dt 79 10)) + 3).toNat = (u2 dt387 83 (((4 * (dt387 79 10)) + 3).toNat) (dt387 79 11)) 83 ((4 * (dt 79 10)) + 3).toNat := hF425 83 (by decide) _
                  refine go_retq PM173 (k := 0) (r := some (.inl 1)) (w1 := (SH, dt423)) rfl ?_
                  exact ⟨dt423, rfl, hI424, hF426, (Or.inr ⟨rfl, ⟨by first | exact True.intro | rfl | omega | trivial, by exact BL433, by exact ⟨by omega, PS_fin h301_4 (by first | exact AGR_e (by assumption) | exact AGR_e rfl | exact AGR_4 (by assumption) h386_5 (by first | assumption | rfl) (by omega)) (by omega) (by omega), fun _ => by first | omega | exact PS_fin h386_4 (by first | exact AGR_e (by assumption) | exact AGR_e rfl) (by omega) (by omega)⟩, by first | exact AGR_4 (by assumption) h301_5 (by first | assumption | rfl) (by omega) | exact AGR_5 (by assumption) h386_5 (by first | assumption | rfl) h301_5 (by first | assumption | rfl) (by omega) (by omega), by first | exact True.intro | rfl | omega | trivial, by first | exact True.intro | rfl | omega | trivial, by first | exact True.intro | rfl | omega | trivial, by first | exact True.intro | rfl | omega | trivial, by exact (InvC_get (by assumption) 79 15 rfl rfl).2, by first | exact True.intro | rfl | omega | trivial, by first | exact True.intro | rfl | omega | trivial, by first | exact True.intro | rfl | omega | trivial, by first | exact True.intro | rfl | omega | trivial⟩⟩)⟩
    · skip
      refine go_toq PM173 (k := 2) (pc' := 35) (L' := [some (.inr (.inr (some 79))), none]) (st' := [.inl 3, .inr (.inr (some 79))]) (w' := (SH, dt)) rfl ?_
      refine go_callq PM173 PM160 (Q' := _) rfl rfl rfl rfl (sp_X6_bad L xs sio (d + 36) dt hI  3 ⟨by decide, by decide⟩ ) ?_
      rintro _ _ ⟨dt439, rfl, hI440, hF441, h438⟩
      refine ⟨rfl, ?_⟩
      have hF442 : Fr [79, 83, 84] dt dt439 := Fr_tr hF hF441 (by decide)
      have E84443 : dt439 84 = dt 84 := funext (hF441 84 (by decide))
      rcases h438 with ⟨rfl, h438⟩
      obtain ⟨h438_0, h438_1, h438_2, h438_3, h438_4, h438_5⟩ := h438
      have BL444 : ∀ j : Nat, (j : Int) < 4 * dt 79 10 → dt439 83 j = dt 83 j := fun j hj => (hF441 83 (by decide) j).trans ((fun _ _ => rfl) j hj)
      have y445 : dt439 83 ((4 * (dt 79 10))).toNat = dt 83 ((4 * (dt 79 10))).toNat := hF441 83 (by decide) _
      have y446 : dt439 83 ((4 * (dt 79 10)) + 1).toNat = dt 83 ((4 * (dt 79 10)) + 1).toNat := hF441 83 (by decide) _
      have y447 : dt439 83 ((4 * (dt 79 10)) + 2).toNat = dt 83 ((4 * (dt 79 10)) + 2).toNat := hF441 83 (by decide) _
      have y448 : dt439 83 ((4 * (dt 79 10)) + 3).toNat = dt 83 ((4 * (dt 79 10)) + 3).toNat := hF441 83 (by decide) _
      refine go_retq PM173 (k := 0) (r := some (.inl 0)) (w1 := (SH, dt439)) rfl ?_
      exact ⟨dt439, rfl, hI440, hF442, (Or.inl ⟨rfl, ⟨by first | exact True.intro | rfl | omega | trivial, by first | exact True.intro | rfl | omega | trivial, by first | exact True.intro | rfl | omega | trivial⟩⟩)⟩
  · skip
    refine go_ifq PM173 (k := 3) (p1 := 24) (p2 := 18) (L' := [some (.inr (.inr (some 79))), none]) (st' := []) (w' := (SH, dt)) rfl (c_eq (a := dt 79 14) (b := 8) (by first | exact bnd r4 (by decide) (by decide) | exact ⟨by omega, by omega⟩) ⟨by decide, by decide⟩) (fun c449 => ?_) (fun c449 => ?_)
    · skip
      refine go_ifq PM173 (k := 3) (p1 := 39) (p2 := 33) (L' := [some (.inr (.inr (some 79))), none]) (st' := []) (w' := (SH, dt)) rfl (c_ne (a := dt 79 10) (b := 16) (by first | exact bnd r3 (by decide) (by decide) | exact ⟨by omega, by omega⟩) ⟨by decide, by decide⟩) (fun c450 => ?_) (fun c450 => ?_)
      · skip
        refine go_ifq PM173 (k := 3) (p1 := 52) (p2 := 48) (L' := [some (.inr (.inr (some 79))), none]) (st' := []) (w' := (SH, dt)) rfl (c_ne (a := dt 79 14) (b := 7) (by first | exact bnd r4 (by decide) (by decide) | exact ⟨by omega, by omega⟩) ⟨by decide, by decide⟩) (fun c451 => ?_) (fun c451 => ?_)
        · skip
          refine go_toq PM173 (k := 4) (pc' := 56) (L' := [some (.inr (.inr (some 79))), some (.inl 0)]) (st' := [.inl 0, .inr (.inr (some 79))]) (w' := (SH, dt)) rfl ?_
          have hI452 : InvC (u2 dt 79 20 0) := InvC_u2 hI (lo := 0) (hi := 8) rfl rfl rfl (by decide) (by decide)
          have hF453 : Fr [79, 83, 84] dt (u2 dt 79 20 0) := Fr_u2 hF (by decide)
          have w454 : (u2 dt 79 20 0) 79 2 = dt 79 2 := rfl
          have w455 : (u2 dt 79 20 0) 79 9 = dt 79 9 := rfl
          have w456 : (u2 dt 79 20 0) 79 10 = dt 79 10 := rfl
          have w457 : (u2 dt 79 20 0) 79 11 = dt 79 11 := rfl
          have w458 : (u2 dt 79 20 0) 79 12 = dt 79 12 := rfl
          have w459 : (u2 dt 79 20 0) 79 13 = dt 79 13 := rfl
          have w460 : (u2 dt 79 20 0) 79 14 = dt 79 14 := rfl
          have w461 : (u2 dt 79 20 0) 79 15 = dt 79 15 := rfl
          have w462 : (u2 dt 79 20 0) 79 16 = dt 79 16 := rfl
          have w463 : (u2 dt 79 20 0) 79 20 = 0 := rfl
          have E84464 : (u2 dt 79 20 0) 84 = dt 84 := funext fun _ => rfl
          have BL465 : ∀ j : Nat, (j : Int) < 4 * dt 79 10 → (u2 dt 79 20 0) 83 j = dt 83 j := fun j hj => (u2_ne (by omega)).trans ((fun _ _ => rfl) j hj)
          have y466 : (u2 dt 79 20 0) 83 ((4 * (dt 79 10))).toNat = dt 83 ((4 * (dt 79 10))).toNat := rfl
          have y467 : (u2 dt 79 20 0) 83 ((4 * (dt 79 10)) + 1).toNat = dt 83 ((4 * (dt 79 10)) + 1).toNat := rfl
          have y468 : (u2 dt 79 20 0) 83 ((4 * (dt 79 10)) + 2).toNat = dt 83 ((4 * (dt 79 10)) + 2).toNat := rfl
          have y469 : (u2 dt 79 20 0) 83 ((4 * (dt 79 10)) + 3).toNat = dt 83 ((4 * (dt 79 10)) + 3).toNat := rfl
          refine go_smpq PM173 (L' := [some (.inr (.inr (some 79))), some (.inl 0)]) (st' := []) (w' := (SH, (u2 dt 79 20 0))) rfl rfl (s_pf rfl rfl rfl rfl ⟨by decide, by decide⟩) ?_
          refine go_toq PM173 (k := 1) (pc' := 60) (L' := [some (.inr (.inr (some 79))), some (.inl 0)]) (st' := [.inr (.inr (some 79))]) (w' := (SH, (u2 dt 79 20 0))) rfl ?_
          refine go_callq PM173 PM159 (Q' := _) rfl rfl rfl rfl (sp_X6_next0 L xs sio (d + 30) (u2 dt 79 20 0) hI452   (by first | exact True.intro | rfl | omega | trivial)) ?_
          rintro _ _ ⟨dt471, rfl, hI472, hF473, h470⟩
          refine ⟨rfl, ?_⟩
          have hF474 : Fr [79, 83, 84] dt dt471 := Fr_tr hF453 hF473 (by decide)
          have E84475 : dt471 84 = dt 84 := (funext (hF473 84 (by decide))).trans E84464
          rcases h470 with ⟨rfl, h470⟩
          obtain ⟨h470_0, h470_1, h470_2, h470_3, h470_4, h470_5, h470_6, h470_7, h470_8⟩ := h470
          have hadv0 : dt 79 15 + 1 ≤ dt 79 13 := by omega
          clear h_p0
          have BL476 : ∀ j : Nat, (j : Int) < 4 * dt 79 10 → dt471 83 j = dt 83 j := fun j hj => (hF473 83 (by decide) j).trans (BL465 j hj)
          have y477 : dt471 83 ((4 * (dt 79 10))).toNat = (u2 dt 79 20 0) 83 ((4 * (dt 79 10))).toNat := hF473 83 (by decide) _
          have y478 : dt471 83 ((4 * (dt 79 10)) + 1).toNat = (u2 dt 79 20 0) 83 ((4 * (dt 79 10)) + 1).toNat := hF473 83 (by decide) _
          have y479 : dt471 83 ((4 * (dt 79 10)) + 2).toNat = (u2 dt 79 20 0) 83 ((4 * (dt 79 10)) + 2).toNat := hF473 83 (by decide) _
          have y480 : dt471 83 ((4 * (dt 79 10)) + 3).toNat = (u2 dt 79 20 0) 83 ((4 * (dt 79 10)) + 3).toNat := hF473 83 (by decide) _
          have r481 : 0 ≤ dt471 79 10 ∧ dt471 79 10 ≤ 24 := InvC_get hI472 79 10 rfl rfl
          refine go_toq PM173 (k := 9) (pc' := 86) (L' := [some (.inr (.inr (some 79))), some (.inl 0)]) (st' := [.inl 8, .inl (4 * (dt471 79 10)), .inr (.inr (some 83))]) (w' := (SH, dt471)) rfl ?_
          have hI482 : InvC (u2 dt471 83 ((4 * (dt471 79 10)).toNat) 8) := InvC_u2 hI472 (lo := -2147483648) (hi := 2147483647) rfl rfl rfl (by decide) (by decide)
          have hF483 : Fr [79, 83, 84] dt (u2 dt471 83 ((4 * (dt471 79 10)).toNat) 8) := Fr_u2 hF474 (by decide)
          have w484 : (u2 dt471 83 ((4 * (dt471 79 10)).toNat) 8) 79 2 = dt471 79 2 := rfl
          have w485 : (u2 dt471 83 ((4 * (dt471 79 10)).toNat) 8) 79 9 = dt471 79 9 := rfl
          have w486 : (u2 dt471 83 ((4 * (dt471 79 10)).toNat) 8) 79 10 = dt471 79 10 := rfl
          have w487 : (u2 dt471 83 ((4 * (dt471 79 10)).toNat) 8) 79 11 = dt471 79 11 := rfl
          have w488 : (u2 dt471 83 ((4 * (dt471 79 10)).toNat) 8) 79 12 = dt471 79 12 := rfl
          have w489 : (u2 dt471 83 ((4 * (dt471 79 10)).toNat) 8) 79 13 = dt471 79 13 := rfl
          have w490 : (u2 dt471 83 ((4 * (dt471 79 10)).toNat) 8) 79 14 = dt471 79 14 := rfl
          have w491 : (u2 dt471 83 ((4 * (dt471 79 10)).toNat) 8) 79 15 = dt471 79 15 := rfl
          have w492 : (u2 dt471 83 ((4 * (dt471 79 10)).toNat) 8) 79 16 = dt471 79 16 := rfl
          have w493 : (u2 dt471 83 ((4 * (dt471 79 10)).toNat) 8) 79 20 = dt471 79 20 := rfl
          have E84494 : (u2 dt471 83 ((4 * (dt471 79 10)).toNat) 8) 84 = dt 84 := (funext fun _ => rfl).trans E84475
          have ex496 : ((4 * (dt 79 10))).toNat = (4 * (dt471 79 10)).toNat := by omega
          have BL495 : ∀ j : Nat, (j : Int) < 4 * dt 79 10 → (u2 dt471 83 ((4 * (dt471 79 10)).toNat) 8) 83 j = dt 83 j := fun j hj => (u2_ne (by omega)).trans (BL476 j hj)
          have y497 : (u2 dt471 83 ((4 * (dt471 79 10)).toNat) 8) 83 ((4 * (dt 79 10))).toNat = 8 := by rw [ex496]; exact u2_eq
          have y498 : (u2 dt471 83 ((4 * (dt471 79 10)).toNat) 8) 83 ((4 * (dt 79 10)) + 1).toNat = dt471 83 ((4 * (dt 79 10)) + 1).toNat := u2_ne (by omega)
          have y499 : (u2 dt471 83 ((4 * (dt471 79 10)).toNat) 8) 83 ((4 * (dt 79 10)) + 2).toNat = dt471 83 ((4 * (dt 79 10)) + 2).toNat := u2_ne (by omega)
          have y500 : (u2 dt471 83 ((4 * (dt471 79 10)).toNat) 8) 83 ((4 * (dt 79 10)) + 3).toNat = dt471 83 ((4 * (dt 79 10)) + 3).toNat := u2_ne (by omega)
          refine go_smpq PM173 (L' := [some (.inr (.inr (some 79))), some (.inl 0)]) (st' := []) (w' := (SH, (u2 dt471 83 ((4 * (dt471 79 10)).toNat) 8))) rfl rfl (s_iast (n := 64) rfl ⟨by omega, by omega⟩ ⟨by decide, by decide⟩) ?_
          have r501 : 0 ≤ dt471 79 11 ∧ dt471 79 11 ≤ 510 := InvC_get hI472 79 11 rfl rfl
          refine go_toq PM173 (k := 12) (pc' := 119) (L' := [some (.inr (.inr (some 79))), some (.inl 0)]) (st' := [.inl (dt471 79 11), .inl ((4 * (dt471 79 10)) + 1), .inr (.inr (some 83))]) (w' := (SH, (u2 dt471 83 ((4 * (dt471 79 10)).toNat) 8))) rfl ?_
          have hI502 : InvC (u2 (u2 dt471 83 ((4 * (dt471 79 10)).toNat) 8) 83 (((4 * (dt471 79 10)) + 1).toNat) (dt471 79 11)) := InvC_u2 hI482 (lo := -2147483648) (hi := 2147483647) rfl rfl rfl (by first | exact bnd1 r501 (by decide) | omega) (by first | exact bnd2 r501 (by decide) | omega)
          have hF503 : Fr [79, 83, 84] dt (u2 (u2 dt471 83 ((4 * (dt471 79 10)).toNat) 8) 83 (((4 * (dt471 79 10)) + 1).toNat) (dt471 79 11)) := Fr_u2 hF483 (by decide)
          have w504 : (u2 (u2 dt471 83 ((4 * (dt471 79 10)).toNat) 8) 83 (((4 * (dt471 79 10)) + 1).toNat) (dt471 79 11)) 79 2 = (u2 dt471 83 ((4 * (dt471 79 10)).toNat) 8) 79 2 := rfl
          have w505 : (u2 (u2 dt471 83 ((4 * (dt471 79 10)).toNat) 8) 83 (((4 * (dt471 79 10)) + 1).toNat) (dt471 79 11)) 79 9 = (u2 dt471 83 ((4 * (dt471 79 10)).toNat) 8) 79 9 := rfl
          have w506 : (u2 (u2 dt471 83 ((4 * (dt471 79 10)).toNat) 8) 83 (((4 * (dt471 79 10)) + 1).toNat) (dt471 79 11)) 79 10 = (u2 dt471 83 ((4 * (dt471 79 10)).toNat) 8) 79 10 := rfl
          have w507 : (u2 (u2 dt471 83 ((4 * (dt471 79 10)).toNat) 8) 83 (((4 * (dt471 79 10)) + 1).toNat) (dt471 79 11)) 79 11 = (u2 dt471 83 ((4 * (dt471 79 10)).toNat) 8) 79 11 := rfl
          have w508 : (u2 (u2 dt471 83 ((4 * (dt471 79 10)).toNat) 8) 83 (((4 * (dt471 79 10)) + 1).toNat) (dt471 79 11)) 79 12 = (u2 dt471 83 ((4 * (dt471 79 10)).toNat) 8) 79 12 := rfl
          have w509 : (u2 (u2 dt471 83 ((4 * (dt471 79 10)).toNat) 8) 83 (((4 * (dt471 79 10)) + 1).toNat) (dt471 79 11)) 79 13 = (u2 dt471 83 ((4 * (dt471 79 10)).toNat) 8) 79 13 := rfl
          have w510 : (u2 (u2 dt471 83 ((4 * (dt471 79 10)).toNat) 8) 83 (((4 * (dt471 79 10)) + 1).toNat) (dt471 79 11)) 79 14 = (u2 dt471 83 ((4 * (dt471 79 10)).toNat) 8) 79 14 := rfl
          have w511 : (u2 (u2 dt471 83 ((4 * (dt471 79 10)).toNat) 8) 83 (((4 * (dt471 79 10)) + 1).toNat) (dt471 79 11)) 79 15 = (u2 dt471 83 ((4 * (dt471 79 10)).toNat) 8) 79 15 := rfl
          have w512 : (u2 (u2 dt471 83 ((4 * (dt471 79 10)).toNat) 8) 83 (((4 * (dt471 79 10)) + 1).toNat) (dt471 79 11)) 79 16 = (u2 dt471 83 ((4 * (dt471 79 10)).toNat) 8) 79 16 := rfl
          have w513 : (u2 (u2 dt471 83 ((4 * (dt471 79 10)).toNat) 8) 83 (((4 * (dt471 79 10)) + 1).toNat) (dt471 79 11)) 79 20 = (u2 dt471 83 ((4 * (dt471 79 10)).toNat) 8) 79 20 := rfl
          have E84514 : (u2 (u2 dt471 83 ((4 * (dt471 79 10)).toNat) 8) 83 (((4 * (dt471 79 10)) + 1).toNat) (dt471 79 11)) 84 = dt 84 := (funext fun _ => rfl).trans E84494
          have ex516 : ((4 * (dt 79 10)) + 1).toNat = ((4 * (dt471 79 10)) + 1).toNat := by omega
          have BL515 : ∀ j : Nat, (j : Int) < 4 * dt 79 10 → (u2 (u2 dt471 83 ((4 * (dt471 79 10)).toNat) 8) 83 (((4 * (dt471 79 10)) + 1).toNat) (dt471 79 11)) 83 j = dt 83 j := fun j hj => (u2_ne (by omega)).trans (BL495 j hj)
          have y517 : (u2 (u2 dt471 83 ((4 * (dt471 79 10)).toNat) 8) 83 (((4 * (dt471 79 10)) + 1).toNat) (dt471 79 11)) 83 ((4 * (dt 79 10))).toNat = (u2 dt471 83 ((4 * (dt471 79 10)).toNat) 8) 83 ((4 * (dt 79 10))).toNat := u2_ne (by omega)
          have y518 : (u2 (u2 dt471 83 ((4 * (dt471 79 10)).toNat) 8) 83 (((4 * (dt471 79 10)) + 1).toNat) (dt471 79 11)) 83 ((4 * (dt 79 10)) + 1).toNat = dt471 79 11 := by rw [ex516]; exact u2_eq
          have y519 : (u2 (u2 dt471 83 ((4 * (dt471 79 10)).toNat) 8) 83 (((4 * (dt471 79 10)) + 1).toNat) (dt471 79 11)) 83 ((4 * (dt 79 10)) + 2).toNat = (u2 dt471 83 ((4 * (dt471 79 10)).toNat) 8) 83 ((4 * (dt 79 10)) + 2).toNat := u2_ne (by omega)
          have y520 : (u2 (u2 dt471 83 ((4 * (dt471 79 10)).toNat) 8) 83 (((4 * (dt471 79 10)) + 1).toNat) (dt471 79 11)) 83 ((4 * (dt 79 10)) + 3).toNat = (u2 dt471 83 ((4 * (dt471 79 10)).toNat) 8) 83 ((4 * (dt 79 10)) + 3).toNat := u2_ne (by omega)
          refine go_smpq PM173 (L' := [some (.inr (.inr (some 79))), some (.inl 0)]) (st' := []) (w' := (SH, (u2 (u2 dt471 83 ((4 * (dt471 79 10)).toNat) 8) 83 (((4 * (dt471 79 10)) + 1).toNat) (dt471 79 11)))) rfl rfl (s_iast (n := 64) rfl ⟨by omega, by omega⟩ (by first | exact bnd r501 (by decide) (by decide) | exact ⟨by omega, by omega⟩)) ?_
          refine go_toq PM173 (k := 1) (pc' := 121) (L' := [some (.inr (.inr (some 79))), some (.inl 0)]) (st' := [.inr (.inr (some 79))]) (w' := (SH, (u2 (u2 dt471 83 ((4 * (dt471 79 10)).toNat) 8) 83 (((4 * (dt471 79 10)) + 1).toNat) (dt471 79 11)))) rfl ?_
          refine go_callq PM173 PM165 (Q' := _) rfl rfl rfl rfl (sp_X6_sumUp L xs sio (d + 27) (u2 (u2 dt471 83 ((4 * (dt471 79 10)).toNat) 8) 83 (((4 * (dt471 79 10)) + 1).toNat) (dt471 79 11)) hI502   (by first | exact True.intro | rfl | omega | trivial) (by first | exact True.intro | rfl | omega | trivial)) ?_
          rintro _ _ ⟨dt522, rfl, hI523, hF524, h521⟩
          refine ⟨rfl, ?_⟩
          have hF525 : Fr [79, 83, 84] dt dt522 := Fr_tr hF503 hF524 (by decide)
          rcases h521 with ⟨rfl, h521⟩ | ⟨rfl, h521⟩
          · skip
            obtain ⟨h521_0, h521_1, h521_2, h521_3⟩ := h521
            have BL526 : ∀ j : Nat, (j : Int) < 4 * dt 79 10 → dt522 83 j = dt 83 j := fun j hj => (hF524 83 (by decide) j).trans (BL515 j hj)
            have y527 : dt522 83 ((4 * (dt 79 10))).toNat = (u2 (u2 dt471 83 ((4 * (dt471 79 10)).toNat) 8) 83 (((4 * (dt471 79 10)) + 1).toNat) (dt471 79 11)) 83 ((4 * (dt 79 10))).toNat := hF524 83 (by decide) _
            have y528 : dt522 83 ((4 * (dt 79 10)) + 1).toNat = (u2 (u2 dt471 83 ((4 * (dt471 79 10)).toNat) 8) 83 (((4 * (dt471 79 10)) + 1).toNat) (dt471 79 11)) 83 ((4 * (dt 79 10)) + 1).toNat := hF524 83 (by decide) _
            have y529 : dt522 83 ((4 * (dt 79 10)) + 2).toNat = (u2 (u2 dt471 83 ((4 * (dt471 79 10)).toNat) 8) 83 (((4 * (dt471 79 10)) + 1).toNat) (dt471 79 11)) 83 ((4 * (dt 79 10)) + 2).toNat := hF524 83 (by decide) _
            have y530 : dt522 83 ((4 * (dt 79 10)) + 3).toNat = (u2 (u2 dt471 83 ((4 * (dt471 79 10)).toNat) 8) 83 (((4 * (dt471 79 10)) + 1).toNat) (dt471 79 11)) 83 ((4 * (dt 79 10)) + 3).toNat := hF524 83 (by decide) _
            refine go_retq PM173 (k := 2) (r := some (.inl 0)) (w1 := (SH, dt522)) rfl ?_
            exact ⟨dt522, rfl, hI523, hF525, (Or.inl ⟨rfl, ⟨by first | exact True.intro | rfl | omega | trivial, by first | exact True.intro | rfl | omega | trivial, by first | exact True.intro | rfl | omega | trivial⟩⟩)⟩
          · skip
            obtain ⟨h521_0, h521_1, h521_2, h521_3, h521_4, h521_5, h521_6, h521_7, h521_8, h521_9, h521_10⟩ := h521
            clear h470_1
            have BL531 : ∀ j : Nat, (j : Int) < 4 * dt 79 10 → dt522 83 j = dt 83 j := fun j hj => (hF524 83 (by decide) j).trans (BL515 j hj)
            have y532 : dt522 83 ((4 * (dt 79 10))).toNat = (u2 (u2 dt471 83 ((4 * (dt471 79 10)).toNat) 8) 83 (((4 * (dt471 79 10)) + 1).toNat) (dt471 79 11)) 83 ((4 * (dt 79 10))).toNat := hF524 83 (by decide) _
            have y533 : dt522 83 ((4 * (dt 79 10)) + 1).toNat = (u2 (u2 dt471 83 ((4 * (dt471 79 10)).toNat) 8) 83 (((4 * (dt471 79 10)) + 1).toNat) (dt471 79 11)) 83 ((4 * (dt 79 10)) + 1).toNat := hF524 83 (by decide) _
            have y534 : dt522 83 ((4 * (dt 79 10)) + 2).toNat = (u2 (u2 dt471 83 ((4 * (dt471 79 10)).toNat) 8) 83 (((4 * (dt471 79 10)) + 1).toNat) (dt471 79 11)) 83 ((4 * (dt 79 10)) + 2).toNat := hF524 83 (by decide) _
            have y535 : dt522 83 ((4 * (dt 79 10)) + 3).toNat = (u2 (u2 dt471 83 ((4 * (dt471 79 10)).toNat) 8) 83 (((4 * (dt471 79 10)) + 1).toNat) (dt471 79 11)) 83 ((4 * (dt 79 10)) + 3).toNat := hF524 83 (by decide) _
            have r536 : 0 ≤ dt522 79 10 ∧ dt522 79 10 ≤ 24 := InvC_get hI523 79 10 rfl rfl
            have r537 : 0 ≤ dt522 79 11 ∧ dt522 79 11 ≤ 510 := InvC_get hI523 79 11 rfl rfl
            refine go_toq PM173 (k := 11) (pc' := 145) (L' := [some (.inr (.inr (some 79))), some (.inl 0)]) (st' := [.inl (dt522 79 11), .inl ((4 * (dt522 79 10)) + 2), .inr (.inr (some 83))]) (w' := (SH, dt522)) rfl ?_
            have hI538 : InvC (u2 dt522 83 (((4 * (dt522 79 10)) + 2).toNat) (dt522 79 11)) := InvC_u2 hI523 (lo := -2147483648) (hi := 2147483647) rfl rfl rfl (by first | exact bnd1 r537 (by decide) | omega) (by first | exact bnd2 r537 (by decide) | omega)
            have hF539 : Fr [79, 83, 84] dt (u2 dt522 83 (((4 * (dt522 79 10)) + 2).toNat) (dt522 79 11)) := Fr_u2 hF525 (by decide)
            have w540 : (u2 dt522 83 (((4 * (dt522 79 10)) + 2).toNat) (dt522 79 11)) 79 2 = dt522 79 2 := rfl
            have w541 : (u2 dt522 83 (((4 * (dt522 79 10)) + 2).toNat) (dt522 79 11)) 79 9 = dt522 79 9 := rfl
            have w542 : (u2 dt522 83 (((4 * (dt522 79 10)) + 2).toNat) (dt522 79 11)) 79 10 = dt522 79 10 := rfl
            have w543 : (u2 dt522 83 (((4 * (dt522 79 10)) + 2).toNat) (dt522 79 11)) 79 11 = dt522 79 11 := rfl
            have w544 : (u2 dt522 83 (((4 * (dt522 79 10)) + 2).toNat) (dt522 79 11)) 79 12 = dt522 79 12 := rfl
            have w545 : (u2 dt522 83 (((4 * (dt522 79 10)) + 2).toNat) (dt522 79 11)) 79 13 = dt522 79 13 := rfl
            have w546 : (u2 dt522 83 (((4 * (dt522 79 10)) + 2).toNat) (dt522 79 11)) 79 14 = dt522 79 14 := rfl
            have w547 : (u2 dt522 83 (((4 * (dt522 79 10)) + 2).toNat) (dt522 79 11)) 79 15 = dt522 79 15 := rfl
            have w548 : (u2 dt522 83 (((4 * (dt522 79 10)) + 2).toNat) (dt522 79 11)) 79 16 = dt522 79 16 := rfl
            have w549 : (u2 dt522 83 (((4 * (dt522 79 10)) + 2).toNat) (dt522 79 11)) 79 20 = dt522 79 20 := rfl
            have E84550 : (u2 dt522 83 (((4 * (dt522 79 10)) + 2).toNat) (dt522 79 11)) 84 = dt522 84 := funext fun _ => rfl
            have ex552 : ((4 * (dt 79 10)) + 2).toNat = ((4 * (dt522 79 10)) + 2).toNat := by omega
            have BL551 : ∀ j : Nat, (j : Int) < 4 * dt 79 10 → (u2 dt522 83 (((4 * (dt522 79 10)) + 2).toNat) (dt522 79 11)) 83 j = dt 83 j := fun j hj => (u2_ne (by omega)).trans (BL531 j hj)
            have y553 : (u2 dt522 83 (((4 * (dt522 79 10)) + 2).toNat) (dt522 79 11)) 83 ((4 * (dt 79 10))).toNat = dt522 83 ((4 * (dt 79 10))).toNat := u2_ne (by omega)
            have y554 : (u2 dt522 83 (((4 * (dt522 79 10)) + 2).toNat) (dt522 79 11)) 83 ((4 * (dt 79 10)) + 1).toNat = dt522 83 ((4 * (dt 79 10)) + 1).toNat := u2_ne (by omega)
            have y555 : (u2 dt522 83 (((4 * (dt522 79 10)) + 2).toNat) (dt522 79 11)) 83 ((4 * (dt 79 10)) + 2).toNat = dt522 79 11 := by rw [ex552]; exact u2_eq
            have y556 : (u2 dt522 83 (((4 * (dt522 79 10)) + 2).toNat) (dt522 79 11)) 83 ((4 * (dt 79 10)) + 3).toNat = dt522 83 ((4 * (dt 79 10)) + 3).toNat := u2_ne (by omega)
            refine go_smpq PM173 (L' := [some (.inr (.inr (some 79))), some (.inl 0)]) (st' := []) (w' := (SH, (u2 dt522 83 (((4 * (dt522 79 10)) + 2).toNat) (dt522 79 11)))) rfl rfl (s_iast (n := 64) rfl ⟨by omega, by omega⟩ (by first | exact bnd r537 (by decide) (by decide) | exact ⟨by omega, by omega⟩)) ?_
            have r557 : (-2147483648) ≤ dt522 79 14 ∧ dt522 79 14 ≤ 2147483647 := InvC_get hI523 79 14 rfl rfl
            refine go_ifq PM173 (k := 3) (p1 := 167) (p2 := 154) (L' := [some (.inr (.inr (some 79))), some (.inl 0)]) (st' := []) (w' := (SH, (u2 dt522 83 (((4 * (dt522 79 10)) + 2).toNat) (dt522 79 11)))) rfl (c_ne (a := dt522 79 14) (b := 3) (by first | exact bnd r557 (by decide) (by decide) | exact ⟨by omega, by omega⟩) ⟨by decide, by decide⟩) (fun c558 => ?_) (fun c558 => ?_)
            · skip
              refine go_toq PM173 (k := 10) (pc' := 183) (L' := [some (.inr (.inr (some 79))), some (.inl 0)]) (st' := [.inl (dt522 79 11), .inl ((4 * (dt522 79 10)) + 3), .inr (.inr (some 83))]) (w' := (SH, (u2 dt522 83 (((4 * (dt522 79 10)) + 2).toNat) (dt522 79 11)))) rfl ?_
              have hI559 : InvC (u2 (u2 dt522 83 (((4 * (dt522 79 10)) + 2).toNat) (dt522 79 11)) 83 (((4 * (dt522 79 10)) + 3).toNat) (dt522 79 11)) := InvC_u2 hI538 (lo := -2147483648) (hi := 2147483647) rfl rfl rfl (by first | exact bnd1 r537 (by decide) | omega) (by first | exact bnd2 r537 (by decide) | omega)
              have hF560 : Fr [79, 83, 84] dt (u2 (u2 dt522 83 (((4 * (dt522 79 10)) + 2).toNat) (dt522 79 11)) 83 (((4 * (dt522 79 10)) + 3).toNat) (dt522 79 11)) := Fr_u2 hF539 (by decide)
              have w561 : (u2 (u2 dt522 83 (((4 * (dt522 79 10)) + 2).toNat) (dt522 79 11)) 83 (((4 * (dt522 79 10)) + 3).toNat) (dt522 79 11)) 79 2 = (u2 dt522 83 (((4 * (dt522 79 10)) + 2).toNat) (dt522 79 11)) 79 2 := rfl
              have w562 : (u2 (u2 dt522 83 (((4 * (dt522 79 10)) + 2).toNat) (dt522 79 11)) 83 (((4 * (dt522 79 10)) + 3).toNat) (dt522 79 11)) 79 9 = (u2 dt522 83 (((4 * (dt522 79 10)) + 2).toNat) (dt522 79 11)) 79 9 := rfl
              have w563 : (u2 (u2 dt522 83 (((4 * (dt522 79 10)) + 2).toNat) (dt522 79 11)) 83 (((4 * (dt522 79 10)) + 3).toNat) (dt522 79 11)) 79 10 = (u2 dt522 83 (((4 * (dt522 79 10)) + 2).toNat) (dt522 79 11)) 79 10 := rfl
              have w564 : (u2 (u2 dt522 83 (((4 * (dt522 79 10)) + 2).toNat) (dt522 79 11)) 83 (((4 * (dt522 79 10)) + 3).toNat) (dt522 79 11)) 79 11 = (u2 dt522 83 (((4 * (dt522 79 10)) + 2).toNat) (dt522 79 11)) 79 11 := rfl
              have w565 : (u2 (u2 dt522 83 (((4 * (dt522 79 10)) + 2).toNat) (dt522 79 11)) 83 (((4 * (dt522 79 10)) + 3).toNat) (dt522 79 11)) 79 12 = (u2 dt522 83 (((4 * (dt522 79 10)) + 2).toNat) (dt522 79 11)) 79 12 := rfl
              have w566 : (u2 (u2 dt522 83 (((4 * (dt522 79 10)) + 2).toNat) (dt522 79 11)) 83 (((4 * (dt522 79 10)) + 3).toNat) (dt522 79 11)) 79 13 = (u2 dt522 83 (((4 * (dt522 79 10)) + 2).toNat) (dt522 79 11)) 79 13 := rfl
              have w567 : (u2 (u2 dt522 83 (((4 * (dt522 79 10)) + 2).toNat) (dt522 79 11)) 83 (((4 * (dt522 79 10)) + 3).toNat) (dt522 79 11)) 79 14 = (u2 dt522 83 (((4 * (dt522 79 10)) + 2).toNat) (dt522 79 11)) 79 14 := rfl
              have w568 : (u2 (u2 dt522 83 (((4 * (dt522 79 10)) + 2).toNat) (dt522 79 11)) 83 (((4 * (dt522 79 10)) + 3).toNat) (dt522 79 11)) 79 15 = (u2 dt522 83 (((4 * (dt522 79 10)) + 2).toNat) (dt522 79 11)) 79 15 := rfl
              have w569 : (u2 (u2 dt522 83 (((4 * (dt522 79 10)) + 2).toNat) (dt522 79 11)) 83 (((4 * (dt522 79 10)) + 3).toNat) (dt522 79 11)) 79 16 = (u2 dt522 83 (((4 * (dt522 79 10)) + 2).toNat) (dt522 79 11)) 79 16 := rfl
              have w570 : (u2 (u2 dt522 83 (((4 * (dt522 79 10)) + 2).toNat) (dt522 79 11)) 83 (((4 * (dt522 79 10)) + 3).toNat) (dt522 79 11)) 79 20 = (u2 dt522 83 (((4 * (dt522 79 10)) + 2).toNat) (dt522 79 11)) 79 20 := rfl
              have E84571 : (u2 (u2 dt522 83 (((4 * (dt522 79 10)) + 2).toNat) (dt522 79 11)) 83 (((4 * (dt522 79 10)) + 3).toNat) (dt522 79 11)) 84 = dt522 84 := (funext fun _ => rfl).trans E84550
              have ex573 : ((4 * (dt 79 10)) + 3).toNat = ((4 * (dt522 79 10)) + 3).toNat := by omega
              have BL572 : ∀ j : Nat, (j : Int) < 4 * dt 79 10 → (u2 (u2 dt522 83 (((4 * (dt522 79 10)) + 2).toNat) (dt522 79 11)) 83 (((4 * (dt522 79 10)) + 3).toNat) (dt522 79 11)) 83 j = dt 83 j := fun j hj => (u2_ne (by omega)).trans (BL551 j hj)
              have y574 : (u2 (u2 dt522 83 (((4 * (dt522 79 10)) + 2).toNat) (dt522 79 11)) 83 (((4 * (dt522 79 10)) + 3).toNat) (dt522 79 11)) 83 ((4 * (dt 79 10))).toNat = (u2 dt522 83 (((4 * (dt522 79 10)) + 2).toNat) (dt522 79 11)) 83 ((4 * (dt 79 10))).toNat := u2_ne (by omega)
              have y575 : (u2 (u2 dt522 83 (((4 * (dt522 79 10)) + 2).toNat) (dt522 79 11)) 83 (((4 * (dt522 79 10)) + 3).toNat) (dt522 79 11)) 83 ((4 * (dt 79 10)) + 1).toNat = (u2 dt522 83 (((4 * (dt522 79 10)) + 2).toNat) (dt522 79 11)) 83 ((4 * (dt 79 10)) + 1).toNat := u2_ne (by omega)
              have y576 : (u2 (u2 dt522 83 (((4 * (dt522 79 10)) + 2).toNat) (dt522 79 11)) 83 (((4 * (dt522 79 10)) + 3).toNat) (dt522 79 11)) 83 ((4 * (dt 79 10)) + 2).toNat = (u2 dt522 83 (((4 * (dt522 79 10)) + 2).toNat) (dt522 79 11)) 83 ((4 * (dt 79 10)) + 2).toNat := u2_ne (by omega)
              have y577 : (u2 (u2 dt522 83 (((4 * (dt522 79 10)) + 2).toNat) (dt522 79 11)) 83 (((4 * (dt522 79 10)) + 3).toNat) (dt522 79 11)) 83 ((4 * (dt 79 10)) + 3).toNat = dt522 79 11 := by rw [ex573]; exact u2_eq
              refine go_smpq PM173 (L' := [some (.inr (.inr (some 79))), some (.inl 0)]) (st' := []) (w' := (SH, (u2 (u2 dt522 83 (((4 * (dt522 79 10)) + 2).toNat) (dt522 79 11)) 83 (((4 * (dt522 79 10)) + 3).toNat) (dt522 79 11)))) rfl rfl (s_iast (n := 64) rfl ⟨by omega, by omega⟩ (by first | exact bnd r537 (by decide) (by decide) | exact ⟨by omega, by omega⟩)) ?_
              refine go_toq PM173 (k := 2) (pc' := 188) (L' := [some (.inr (.inr (some 79))), some (.inl 0)]) (st' := [.inl 159, .inr (.inr (some 79))]) (w' := (SH, (u2 (u2 dt522 83 (((4 * (dt522 79 10)) + 2).toNat) (dt522 79 11)) 83 (((4 * (dt522 79 10)) + 3).toNat) (dt522 79 11)))) rfl ?_
              refine go_callq PM173 PM161 (Q' := _) rfl rfl rfl rfl (sp_X6_need0 L xs sio (d + 29) (u2 (u2 dt522 83 (((4 * (dt522 79 10)) + 2).toNat) (dt522 79 11)) 83 (((4 * (dt522 79 10)) + 3).toNat) (dt522 79 11)) hI559  159 ⟨by decide, by decide⟩ (by first | exact True.intro | rfl | omega | trivial)) ?_
              rintro _ _ ⟨dt579, rfl, hI580, hF581, h578⟩
              refine ⟨rfl, ?_⟩
              have hF582 : Fr [79, 83, 84] dt dt579 := Fr_tr hF560 hF581 (by decide)
              have E84583 : dt579 84 = dt522 84 := (funext (hF581 84 (by decide))).trans E84571
              rcases h578 with ⟨rfl, h578⟩ | ⟨rfl, h578⟩
              · skip
                obtain ⟨h578_0, h578_1, h578_2, h578_3⟩ := h578
                have BL584 : ∀ j : Nat, (j : Int) < 4 * dt 79 10 → dt579 83 j = dt 83 j := fun j hj => (hF581 83 (by decide) j).trans (BL572 j hj)
                have y585 : dt579 83 ((4 * (dt 79 10))).toNat = (u2 (u2 dt522 83 (((4 * (dt522 79 10)) + 2).toNat) (dt522 79 11)) 83 (((4 * (dt522 79 10)) + 3).toNat) (dt522 79 11)) 83 ((4 * (dt 79 10))).toNat := hF581 83 (by decide) _
                have y586 : dt579 83 ((4 * (dt 79 10)) + 1).toNat = (u2 (u2 dt522 83 (((4 * (dt522 79 10)) + 2).toNat) (dt522 79 11)) 83 (((4 * (dt522 79 10)) + 3).toNat) (dt522 79 11)) 83 ((4 * (dt 79 10)) + 1).toNat := hF581 83 (by decide) _
                have y587 : dt579 83 ((4 * (dt 79 10)) + 2).toNat = (u2 (u2 dt522 83 (((4 * (dt522 79 10)) + 2).toNat) (dt522 79 11)) 83 (((4 * (dt522 79 10)) + 3).toNat) (dt522 79 11)) 83 ((4 * (dt 79 10)) + 2).toNat := hF581 83 (by decide) _
                have y588 : dt579 83 ((4 * (dt 79 10)) + 3).toNat = (u2 (u2 dt522 83 (((4 * (dt522 79 10)) + 2).toNat) (dt522 79 11)) 83 (((4 * (dt522 79 10)) + 3).toNat) (dt522 79 11)) 83 ((4 * (dt 79 10)) + 3).toNat := hF581 83 (by decide) _
                refine go_retq PM173 (k := 0) (r := some (.inl 0)) (w1 := (SH, dt579)) rfl ?_
                exact ⟨dt579, rfl, hI580, hF582, (Or.inl ⟨rfl, ⟨by first | exact True.intro | rfl | omega | trivial, by first | exact True.intro | rfl | omega | trivial, by first | exact True.intro | rfl | omega | trivial⟩⟩)⟩
              · skip
                obtain ⟨h578_0, h578_1, h578_2, h578_3, h578_4, h578_5, h578_6, h578_7, h578_8⟩ := h578
                clear h521_2
                have BL589 : ∀ j : Nat, (j : Int) < 4 * dt 79 10 → dt579 83 j = dt 83 j := fun j hj => (hF581 83 (by decide) j).trans (BL572 j hj)
                have y590 : dt579 83 ((4 * (dt 79 10))).toNat = (u2 (u2 dt522 83 (((4 * (dt522 79 10)) + 2).toNat) (dt522 79 11)) 83 (((4 * (dt522 79 10)) + 3).toNat) (dt522 79 11)) 83 ((4 * (dt 79 10))).toNat := hF581 83 (by decide) _
                have y591 : dt579 83 ((4 * (dt 79 10)) + 1).toNat = (u2 (u2 dt522 83 (((4 * (dt522 79 10)) + 2).toNat) (dt522 79 11)) 83 (((4 * (dt522 79 10)) + 3).toNat) (dt522 79 11)) 83 ((4 * (dt 79 10)) + 1).toNat := hF581 83 (by decide) _
                have y592 : dt579 83 ((4 * (dt 79 10)) + 2).toNat = (u2 (u2 dt522 83 (((4 * (dt522 79 10)) + 2).toNat) (dt522 79 11)) 83 (((4 * (dt522 79 10)) + 3).toNat) (dt522 79 11)) 83 ((4 * (dt 79 10)) + 2).toNat := hF581 83 (by decide) _
                have y593 : dt579 83 ((4 * (dt 79 10)) + 3).toNat = (u2 (u2 dt522 83 (((4 * (dt522 79 10)) + 2).toNat) (dt522 79 11)) 83 (((4 * (dt522 79 10)) + 3).toNat) (dt522 79 11)) 83 ((4 * (dt 79 10)) + 3).toNat := hF581 83 (by decide) _
                refine go_retq PM173 (k := 0) (r := some (.inl 1)) (w1 := (SH, dt579)) rfl ?_
                exact ⟨dt579, rfl, hI580, hF582, (Or.inr ⟨rfl, ⟨by first | exact True.intro | rfl | omega | trivial, by exact BL589, by exact ⟨by omega, PS_fin h521_4 (by first | exact AGR_e (by assumption) | exact AGR_e rfl | exact AGR_4 (by assumption) hI (by first | assumption | rfl) (by omega)) (by omega) (by omega), fun _ => by first | omega | exact PS_fin hI (by first | exact AGR_e (by assumption) | exact AGR_e rfl) (by omega) (by omega)⟩, by first | exact AGR_4 (by assumption) h521_5 (by first | assumption | rfl) (by omega) | exact AGR_5 (by assumption) hI (by first | assumption | rfl) h521_5 (by first | assumption | rfl) (by omega) (by omega), by first | exact True.intro | rfl | omega | trivial, by first | exact True.intro | rfl | omega | trivial, by first | exact True.intro | rfl | omega | trivial, by first | exact True.intro | rfl | omega | trivial, by exact (InvC_get (by assumption) 79 15 rfl rfl).2, by first | exact True.intro | rfl | omega | trivial, by first | exact True.intro | rfl | omega | trivial, by first | exact True.intro | rfl | omega | trivial, by first | exact True.intro | rfl | omega | trivial⟩⟩)⟩
            · skip
              refine go_toq PM173 (k := 1) (pc' := 155) (L' := [some (.inr (.inr (some 79))), some (.inl 0)]) (st' := [.inr (.inr (some 79))]) (w' := (SH, (u2 dt522 83 (((4 * (dt522 79 10)) + 2).toNat) (dt522 79 11)))) rfl ?_
              refine go_callq PM173 PM159 (Q' := _) rfl rfl rfl rfl (sp_X6_next0 L xs sio (d + 30) (u2 dt522 83 (((4 * (dt522 79 10)) + 2).toNat) (dt522 79 11)) hI538   (by first | exact True.intro | rfl | omega | trivial)) ?_
              rintro _ _ ⟨dt595, rfl, hI596, hF597, h594⟩
              refine ⟨rfl, ?_⟩
              have hF598 : Fr [79, 83, 84] dt dt595 := Fr_tr hF539 hF597 (by decide)
              have E84599 : dt595 84 = dt522 84 := (funext (hF597 84 (by decide))).trans E84550
              rcases h594 with ⟨rfl, h594⟩
              obtain ⟨h594_0, h594_1, h594_2, h594_3, h594_4, h594_5, h594_6, h594_7, h594_8⟩ := h594
              have adv600 : (u2 dt522 83 (((4 * (dt522 79 10)) + 2).toNat) (dt522 79 11)) 79 15 + 1 ≤ (u2 dt522 83 (((4 * (dt522 79 10)) + 2).toNat) (dt522 79 11)) 79 13 := by omega
              clear h521_2
              have BL601 : ∀ j : Nat, (j : Int) < 4 * dt 79 10 → dt595 83 j = dt 83 j := fun j hj => (hF597 83 (by decide) j).trans (BL551 j hj)
              have y602 : dt595 83 ((4 * (dt 79 10))).toNat = (u2 dt522 83 (((4 * (dt522 79 10)) + 2).toNat) (dt522 79 11)) 83 ((4 * (dt 79 10))).toNat := hF597 83 (by decide) _
              have y603 : dt595 83 ((4 * (dt 79 10)) + 1).toNat = (u2 dt522 83 (((4 * (dt522 79 10)) + 2).toNat) (dt522 79 11)) 83 ((4 * (dt 79 10)) + 1).toNat := hF597 83 (by decide) _
              have y604 : dt595 83 ((4 * (dt 79 10)) + 2).toNat = (u2 dt522 83 (((4 * (dt522 79 10)) + 2).toNat) (dt522 79 11)) 83 ((4 * (dt 79 10)) + 2).toNat := hF597 83 (by decide) _
              have y605 : dt595 83 ((4 * (dt 79 10)) + 3).toNat = (u2 dt522 83 (((4 * (dt522 79 10)) + 2).toNat) (dt522 79 11)) 83 ((4 * (dt 79 10)) + 3).toNat := hF597 83 (by decide) _
              refine go_toq PM173 (k := 1) (pc' := 159) (L' := [some (.inr (.inr (some 79))), some (.inl 0)]) (st' := [.inr (.inr (some 79))]) (w' := (SH, dt595)) rfl ?_
              refine go_callq PM173 PM168 (Q' := _) rfl rfl rfl rfl (sp_X6_any_0 L xs sio (d + 0) dt595 hI596   (by first | exact True.intro | rfl | omega | trivial) (by first | exact True.intro | rfl | omega | trivial) (by first | exact True.intro | rfl | omega | trivial)) ?_
              rintro _ _ ⟨dt607, rfl, hI608, hF609, h606⟩
              refine ⟨rfl, ?_⟩
              have hF610 : Fr [79, 83, 84] dt dt607 := Fr_tr hF598 hF609 (by decide)
              rcases h606 with ⟨rfl, h606⟩ | ⟨rfl, h606⟩
              · skip
                obtain ⟨h606_0, h606_1, h606_2, h606_3⟩ := h606
                have BL611 : ∀ j : Nat, (j : Int) < 4 * dt 79 10 → dt607 83 j = dt 83 j := fun j hj => (hF609 83 (by decide) j).trans (BL601 j hj)
                have y612 : dt607 83 ((4 * (dt 79 10))).toNat = dt595 83 ((4 * (dt 79 10))).toNat := hF609 83 (by decide) _
                have y613 : dt607 83 ((4 * (dt 79 10)) + 1).toNat = dt595 83 ((4 * (dt 79 10)) + 1).toNat := hF609 83 (by decide) _
                have y614 : dt607 83 ((4 * (dt 79 10)) + 2).toNat = dt595 83 ((4 * (dt 79 10)) + 2).toNat := hF609 83 (by decide) _
                have y615 : dt607 83 ((4 * (dt 79 10)) + 3).toNat = dt595 83 ((4 * (dt 79 10)) + 3).toNat := hF609 83 (by decide) _
                refine go_retq PM173 (k := 2) (r := some (.inl 0)) (w1 := (SH, dt607)) rfl ?_
                exact ⟨dt607, rfl, hI608, hF610, (Or.inl ⟨rfl, ⟨by first | exact True.intro | rfl | omega | trivial, by first | exact True.intro | rfl | omega | trivial, by first | exact True.intro | rfl | omega | trivial⟩⟩)⟩
              · skip
                obtain ⟨h606_0, h606_1, h606_2, h606_3, h606_4, h606_5, h606_6, h606_7, h606_8, h606_9, h606_10⟩ := h606
                clear h594_1
                have BL616 : ∀ j : Nat, (j : Int) < 4 * dt 79 10 → dt607 83 j = dt 83 j := fun j hj => (hF609 83 (by decide) j).trans (BL601 j hj)
                have y617 : dt607 83 ((4 * (dt 79 10))).toNat = dt595 83 ((4 * (dt 79 10))).toNat := hF609 83 (by decide) _
                have y618 : dt607 83 ((4 * (dt 79 10)) + 1).toNat = dt595 83 ((4 * (dt 79 10)) + 1).toNat := hF609 83 (by decide) _
                have y619 : dt607 83 ((4 * (dt 79 10)) + 2).toNat = dt595 83 ((4 * (dt 79 10)) + 2).toNat := hF609 83 (by decide) _
                have y620 : dt607 83 ((4 * (dt 79 10)) + 3).toNat = dt595 83 ((4 * (dt 79 10)) + 3).toNat := hF609 83 (by decide) _
                have r621 : 0 ≤ dt607 79 10 ∧ dt607 79 10 ≤ 24 := InvC_get hI608 79 10 rfl rfl
                have r622 : 0 ≤ dt607 79 11 ∧ dt607 79 11 ≤ 510 := InvC_get hI608 79 11 rfl rfl
                refine go_toq PM173 (k := 11) (pc' := 183) (L' := [some (.inr (.inr (some 79))), some (.inl 0)]) (st' := [.inl (dt607 79 11), .inl ((4 * (dt607 79 10)) + 3), .inr (.inr (some 83))]) (w' := (SH, dt607)) rfl ?_
                have hI623 : InvC (u2 dt607 83 (((4 * (dt607 79 10)) + 3).toNat) (dt607 79 11)) := InvC_u2 hI608 (lo := -2147483648) (hi := 2147483647) rfl rfl rfl (by first | exact bnd1 r622 (by decide) | omega) (by first | exact bnd2 r622 (by decide) | omega)
                have hF624 : Fr [79, 83, 84] dt (u2 dt607 83 (((4 * (dt607 79 10)) + 3).toNat) (dt607 79 11)) := Fr_u2 hF610 (by decide)
                have w625 : (u2 dt607 83 (((4 * (dt607 79 10)) + 3).toNat) (dt607 79 11)) 79 2 = dt607 79 2 := rfl
                have w626 : (u2 dt607 83 (((4 * (dt607 79 10)) + 3).toNat) (dt607 79 11)) 79 9 = dt607 79 9 := rfl
                have w627 : (u2 dt607 83 (((4 * (dt607 79 10)) + 3).toNat) (dt607 79 11)) 79 10 = dt607 79 10 := rfl
                have w628 : (u2 dt607 83 (((4 * (dt607 79 10)) + 3).toNat) (dt607 79 11)) 79 11 = dt607 79 11 := rfl
                have w629 : (u2 dt607 83 (((4 * (dt607 79 10)) + 3).toNat) (dt607 79 11)) 79 12 = dt607 79 12 := rfl
                have w630 : (u2 dt607 83 (((4 * (dt607 79 10)) + 3).toNat) (dt607 79 11)) 79 13 = dt607 79 13 := rfl
                have w631 : (u2 dt607 83 (((4 * (dt607 79 10)) + 3).toNat) (dt607 79 11)) 79 14 = dt607 79 14 := rfl
                have w632 : (u2 dt607 83 (((4 * (dt607 79 10)) + 3).toNat) (dt607 79 11)) 79 15 = dt607 79 15 := rfl
                have w633 : (u2 dt607 83 (((4 * (dt607 79 10)) + 3).toNat) (dt607 79 11)) 79 16 = dt607 79 16 := rfl
                have w634 : (u2 dt607 83 (((4 * (dt607 79 10)) + 3).toNat) (dt607 79 11)) 79 20 = dt607 79 20 := rfl
                have E84635 : (u2 dt607 83 (((4 * (dt607 79 10)) + 3).toNat) (dt607 79 11)) 84 = dt607 84 := funext fun _ => rfl
                have ex637 : ((4 * (dt 79 10)) + 3).toNat = ((4 * (dt607 79 10)) + 3).toNat := by omega
                have BL636 : ∀ j : Nat, (j : Int) < 4 * dt 79 10 → (u2 dt607 83 (((4 * (dt607 79 10)) + 3).toNat) (dt607 79 11)) 83 j = dt 83 j := fun j hj => (u2_ne (by omega)).trans (BL616 j hj)
                have y638 : (u2 dt607 83 (((4 * (dt607 79 10)) + 3).toNat) (dt607 79 11)) 83 ((4 * (dt 79 10))).toNat = dt607 83 ((4 * (dt 79 10))).toNat := u2_ne (by omega)
                have y639 : (u2 dt607 83 (((4 * (dt607 79 10)) + 3).toNat) (dt607 79 11)) 83 ((4 * (dt 79 10)) + 1).toNat = dt607 83 ((4 * (dt 79 10)) + 1).toNat := u2_ne (by omega)
                have y640 : (u2 dt607 83 (((4 * (dt607 79 10)) + 3).toNat) (dt607 79 11)) 83 ((4 * (dt 79 10)) + 2).toNat = dt607 83 ((4 * (dt 79 10)) + 2).toNat := u2_ne (by omega)
                have y641 : (u2 dt607 83 (((4 * (dt607 79 10)) + 3).toNat) (dt607 79 11)) 83 ((4 * (dt 79 10)) + 3).toNat = dt607 79 11 := by rw [ex637]; exact u2_eq
                refine go_smpq PM173 (L' := [some (.inr (.inr (some 79))), some (.inl 0)]) (st' := []) (w' := (SH, (u2 dt607 83 (((4 * (dt607 79 10)) + 3).toNat) (dt607 79 11)))) rfl rfl (s_iast (n := 64) rfl ⟨by omega, by omega⟩ (by first | exact bnd r622 (by decide) (by decide) | exact ⟨by omega, by omega⟩)) ?_
                refine go_toq PM173 (k := 2) (pc' := 188) (L' := [some (.inr (.inr (some 79))), some (.inl 0)]) (st' := [.inl 159, .inr (.inr (some 79))]) (w' := (SH, (u2 dt607 83 (((4 * (dt607 79 10)) + 3).toNat) (dt607 79 11)))) rfl ?_
                refine go_callq PM173 PM161 (Q' := _) rfl rfl rfl rfl (sp_X6_need0 L xs sio (d + 29) (u2 dt607 83 (((4 * (dt607 79 10)) + 3).toNat) (dt607 79 11)) hI623  159 ⟨by decide, by decide⟩ (by first | exact True.intro | rfl | omega | trivial)) ?_
                rintro _ _ ⟨dt643, rfl, hI644, hF645, h642⟩
                refine ⟨rfl, ?_⟩
                have hF646 : Fr [79, 83, 84] dt dt643 := Fr_tr hF624 hF645 (by decide)
                have E84647 : dt643 84 = dt607 84 := (funext (hF645 84 (by decide))).trans E84635
                rcases h642 with ⟨rfl, h642⟩ | ⟨rfl, h642⟩
                · skip
                  obtain ⟨h642_0, h642_1, h642_2, h642_3⟩ := h642
                  have BL648 : ∀ j : Nat, (j : Int) < 4 * dt 79 10 → dt643 83 j = dt 83 j := fun j hj => (hF645 83 (by decide) j).trans (BL636 j hj)
                  have y649 : dt643 83 ((4 * (dt 79 10))).toNat = (u2 dt607 83 (((4 * (dt607 79 10)) + 3).toNat) (dt607 79 11)) 83 ((4 * (dt 79 10))).toNat := hF645 83 (by decide) _
                  have y650 : dt643 83 ((4 * (dt 79 10)) + 1).toNat = (u2 dt607 83 (((4 * (dt607 79 10)) + 3).toNat) (dt607 79 11)) 83 ((4 * (dt 79 10)) + 1).toNat := hF645 83 (by decide) _
                  have y651 : dt643 83 ((4 * (dt 79 10)) + 2).toNat = (u2 dt607 83 (((4 * (dt607 79 10)) + 3).toNat) (dt607 79 11)) 83 ((4 * (dt 79 10)) + 2).toNat := hF645 83 (by decide) _
                  have y652 : dt643 83 ((4 * (dt 79 10)) + 3).toNat = (u2 dt607 83 (((4 * (dt607 79 10)) + 3).toNat) (dt607 79 11)) 83 ((4 * (dt 79 10)) + 3).toNat := hF645 83 (by decide) _
                  refine go_retq PM173 (k := 0) (r := some (.inl 0)) (w1 := (SH, dt643)) rfl ?_
                  exact ⟨dt643, rfl, hI644, hF646, (Or.inl ⟨rfl, ⟨by first | exact True.intro | rfl | omega | trivial, by first | exact True.intro | rfl | omega | trivial, by first | exact True.intro | rfl | omega | trivial⟩⟩)⟩
                · skip
                  obtain ⟨h642_0, h642_1, h642_2, h642_3, h642_4, h642_5, h642_6, h642_7, h642_8⟩ := h642
                  clear h606_2
                  have BL653 : ∀ j : Nat, (j : Int) < 4 * dt 79 10 → dt643 83 j = dt 83 j := fun j hj => (hF645 83 (by decide) j).trans (BL636 j hj)
                  have y654 : dt643 83 ((4 * (dt 79 10))).toNat = (u2 dt607 83 (((4 * (dt607 79 10)) + 3).toNat) (dt607 79 11)) 83 ((4 * (dt 79 10))).toNat := hF645 83 (by decide) _
                  have y655 : dt643 83 ((4 * (dt 79 10)) + 1).toNat = (u2 dt607 83 (((4 * (dt607 79 10)) + 3).toNat) (dt607 79 11)) 83 ((4 * (dt 79 10)) + 1).toNat := hF645 83 (by decide) _
                  have y656 : dt643 83 ((4 * (dt 79 10)) + 2).toNat = (u2 dt607 83 (((4 * (dt607 79 10)) + 3).toNat) (dt607 79 11)) 83 ((4 * (dt 79 10)) + 2).toNat := hF645 83 (by decide) _
                  have y657 : dt643 83 ((4 * (dt 79 10)) + 3).toNat = (u2 dt607 83 (((4 * (dt607 79 10)) + 3).toNat) (dt607 79 11)) 83 ((4 * (dt 79 10)) + 3).toNat := hF645 83 (by decide) _
                  refine go_retq PM173 (k := 0) (r := some (.inl 1)) (w1 := (SH, dt643)) rfl ?_
                  exact ⟨dt643, rfl, hI644, hF646, (Or.inr ⟨rfl, ⟨by first | exact True.intro | rfl | omega | trivial, by exact BL653, by exact ⟨by omega, PS_fin h521_4 (by first | exact AGR_e (by assumption) | exact AGR_e rfl | exact AGR_4 (by assumption) h606_5 (by first | assumption | rfl) (by omega)) (by omega) (by omega), fun _ => by first | omega | exact PS_fin h606_4 (by first | exact AGR_e (by assumption) | exact AGR_e rfl) (by omega) (by omega)⟩, by first | exact AGR_4 (by assumption) h521_5 (by first | assumption | rfl) (by omega) | exact AGR_5 (by assumption) h606_5 (by first | assumption | rfl) h521_5 (by first | assumption | rfl) (by omega) (by omega), by first | exact True.intro | rfl | omega | trivial, by first | exact True.intro | rfl | omega | trivial, by first | exact True.intro | rfl | omega | trivial, by first | exact True.intro | rfl | omega | trivial, by exact (InvC_get (by assumption) 79 15 rfl rfl).2, by first | exact True.intro | rfl | omega | trivial, by first | exact True.intro | rfl | omega | trivial, by first | exact True.intro | rfl | omega | trivial, by first | exact True.intro | rfl | omega | trivial⟩⟩)⟩
        · exfalso; omega
      · skip
        refine go_toq PM173 (k := 2) (pc' := 35) (L' := [some (.inr (.inr (some 79))), none]) (st' := [.inl 3, .inr (.inr (some 79))]) (w' := (SH, dt)) rfl ?_
        refine go_callq PM173 PM160 (Q' := _) rfl rfl rfl rfl (sp_X6_bad L xs sio (d + 36) dt hI  3 ⟨by decide, by decide⟩ ) ?_
        rintro _ _ ⟨dt659, rfl, hI660, hF661, h658⟩
        refine ⟨rfl, ?_⟩
        have hF662 : Fr [79, 83, 84] dt dt659 := Fr_tr hF hF661 (by decide)
        have E84663 : dt659 84 = dt 84 := funext (hF661 84 (by decide))
        rcases h658 with ⟨rfl, h658⟩
        obtain ⟨h658_0, h658_1, h658_2, h658_3, h658_4, h658_5⟩ := h658
        have BL664 : ∀ j : Nat, (j : Int) < 4 * dt 79 10 → dt659 83 j = dt 83 j := fun j hj => (hF661 83 (by decide) j).trans ((fun _ _ => rfl) j hj)
        have y665 : dt659 83 ((4 * (dt 79 10))).toNat = dt 83 ((4 * (dt 79 10))).toNat := hF661 83 (by decide) _
        have y666 : dt659 83 ((4 * (dt 79 10)) + 1).toNat = dt 83 ((4 * (dt 79 10)) + 1).toNat := hF661 83 (by decide) _
        have y667 : dt659 83 ((4 * (dt 79 10)) + 2).toNat = dt 83 ((4 * (dt 79 10)) + 2).toNat := hF661 83 (by decide) _
        have y668 : dt659 83 ((4 * (dt 79 10)) + 3).toNat = dt 83 ((4 * (dt 79 10)) + 3).toNat := hF661 83 (by decide) _
        refine go_retq PM173 (k := 0) (r := some (.inl 0)) (w1 := (SH, dt659)) rfl ?_
        exact ⟨dt659, rfl, hI660, hF662, (Or.inl ⟨rfl, ⟨by first | exact True.intro | rfl | omega | trivial, by first | exact True.intro | rfl | omega | trivial, by first | exact True.intro | rfl | omega | trivial⟩⟩)⟩
    · skip
      refine go_toq PM173 (k := 2) (pc' := 20) (L' := [some (.inr (.inr (some 79))), none]) (st' := [.inl 1, .inr (.inr (some 79))]) (w' := (SH, dt)) rfl ?_
      refine go_callq PM173 PM160 (Q' := _) rfl rfl rfl rfl (sp_X6_bad L xs sio (d + 36) dt hI  1 ⟨by decide, by decide⟩ ) ?_
      rintro _ _ ⟨dt670, rfl, hI671, hF672, h669⟩
      refine ⟨rfl, ?_⟩
      have hF673 : Fr [79, 83, 84] dt dt670 := Fr_tr hF hF672 (by decide)
      have E84674 : dt670 84 = dt 84 := funext (hF672 84 (by decide))
      rcases h669 with ⟨rfl, h669⟩
      obtain ⟨h669_0, h669_1, h669_2, h669_3, h669_4, h669_5⟩ := h669
      have BL675 : ∀ j : Nat, (j : Int) < 4 * dt 79 10 → dt670 83 j = dt 83 j := fun j hj => (hF672 83 (by decide) j).trans ((fun _ _ => rfl) j hj)
      have y676 : dt670 83 ((4 * (dt 79 10))).toNat = dt 83 ((4 * (dt 79 10))).toNat := hF672 83 (by decide) _
      have y677 : dt670 83 ((4 * (dt 79 10)) + 1).toNat = dt 83 ((4 * (dt 79 10)) + 1).toNat := hF672 83 (by decide) _
      have y678 : dt670 83 ((4 * (dt 79 10)) + 2).toNat = dt 83 ((4 * (dt 79 10)) + 2).toNat := hF672 83 (by decide) _
      have y679 : dt670 83 ((4 * (dt 79 10)) + 3).toNat = dt 83 ((4 * (dt 79 10)) + 3).toNat := hF672 83 (by decide) _
      refine go_retq PM173 (k := 0) (r := some (.inl 0)) (w1 := (SH, dt670)) rfl ?_
      exact ⟨dt670, rfl, hI671, hF673, (Or.inl ⟨rfl, ⟨by first | exact True.intro | rfl | omega | trivial, by first | exact True.intro | rfl | omega | trivial, by first | exact True.intro | rfl | omega | trivial⟩⟩)⟩
