set_option maxHeartbeats 8000000 in
set_option maxRecDepth 20000 in
theorem sp_X6_text (L : Nat) (xs : Nat → Int32) (sio : Option Nat) (d : Nat) (dt : Nat → Nat → Int) (hI : InvC dt) (hM : MW (dt 80))  (p1 : Int) (h_p1 : (-2147483648) ≤ p1 ∧ p1 ≤ 2147483647) (p2 : Int) (h_p2 : (-2147483648) ≤ p2 ∧ p2 ≤ 2147483647)  : GO (am_XX L xs sio) (d + 38) 174 0 [some (.inr (.inr (some 79))), some (.inl p1), some (.inl p2), none] [] (SH, dt) (fun r w2 => ∃ dt2 : Nat → Nat → Int, w2 = (SH, dt2) ∧ InvC dt2 ∧ Fr [79, 80, 82, 83, 84] dt dt2 ∧ ((∃ v : Int, r = some (.inl v) ∧ ((-1) ≤ v ∧ v ≤ 24) ∧ (dt2 79 12 = 0) ∧ (dt2 79 2 = dt 79 2) ∧ (MW (dt2 80)) ∧ (dt2 80 0 = dt 80 0) ∧ (dt2 80 1 = dt 80 1) ∧ (dt2 80 2 = dt 80 2) ∧ (dt2 80 3 = dt 80 3) ∧ (dt2 80 4 = dt 80 4) ∧ (dt2 80 5 = dt 80 5)))) := by
  have hF : Fr [79, 80, 82, 83, 84] dt dt := Fr_refl
  have r1 : 0 ≤ dt 79 15 ∧ dt 79 15 ≤ 500 := InvC_get hI 79 15 rfl rfl
  have r2 : 0 ≤ dt 79 11 ∧ dt 79 11 ≤ 510 := InvC_get hI 79 11 rfl rfl
  have r3 : 0 ≤ dt 79 10 ∧ dt 79 10 ≤ 24 := InvC_get hI 79 10 rfl rfl
  refine go_to (k := 2) (pc' := 2) (L' := [some (.inr (.inr (some 79))), some (.inl p1), some (.inl p2), none]) (st' := [.inl 0, .inr (.inr (some 79))]) (w' := (SH, dt)) (fun _ => rfl) ?_
  have hI4 : InvC (u2 dt 79 17 0) := InvC_u2 hI (lo := -2147483648) (hi := 2147483647) rfl rfl rfl (by omega) (by omega)
  have hF5 : Fr [79, 80, 82, 83, 84] dt (u2 dt 79 17 0) := Fr_u2 hF (by decide)
  have w6 : (u2 dt 79 17 0) 79 2 = dt 79 2 := rfl
  have w7 : (u2 dt 79 17 0) 79 9 = dt 79 9 := rfl
  have w8 : (u2 dt 79 17 0) 79 10 = dt 79 10 := rfl
  have w9 : (u2 dt 79 17 0) 79 11 = dt 79 11 := rfl
  have w10 : (u2 dt 79 17 0) 79 12 = dt 79 12 := rfl
  have w11 : (u2 dt 79 17 0) 79 13 = dt 79 13 := rfl
  have w12 : (u2 dt 79 17 0) 79 14 = dt 79 14 := rfl
  have w13 : (u2 dt 79 17 0) 79 15 = dt 79 15 := rfl
  have w14 : (u2 dt 79 17 0) 79 16 = dt 79 16 := rfl
  have w15 : (u2 dt 79 17 0) 79 20 = dt 79 20 := rfl
  have w16 : (u2 dt 79 17 0) 80 0 = dt 80 0 := rfl
  have w17 : (u2 dt 79 17 0) 80 1 = dt 80 1 := rfl
  have w18 : (u2 dt 79 17 0) 80 2 = dt 80 2 := rfl
  have w19 : (u2 dt 79 17 0) 80 3 = dt 80 3 := rfl
  have w20 : (u2 dt 79 17 0) 80 4 = dt 80 4 := rfl
  have w21 : (u2 dt 79 17 0) 80 5 = dt 80 5 := rfl
  have E8422 : (u2 dt 79 17 0) 84 = dt 84 := funext fun _ => u2_ne (by omega)
  refine go_smp (L' := [some (.inr (.inr (some 79))), some (.inl p1), some (.inl p2), none]) (st' := []) (w' := (SH, (u2 dt 79 17 0))) rfl rfl (s_pf rfl rfl rfl rfl ⟨by omega, by omega⟩) ?_
  refine go_to (k := 3) (pc' := 8) (L' := [some (.inr (.inr (some 79))), some (.inl p1), some (.inl p2), none]) (st' := [.inl 1, .inl 0, .inl p1]) (w' := (SH, (u2 dt 79 17 0))) (fun _ => rfl) ?_
  refine go_call (Q' := _) rfl rfl rfl rfl rfl (sp_X6_isIn L xs sio (d + 37) (u2 dt 79 17 0) hI4  p1 ⟨by omega, by omega⟩ 0 ⟨by omega, by omega⟩ 1 ⟨by omega, by omega⟩ ) ?_
  rintro _ _ ⟨rfl, h23⟩
  refine ⟨rfl, ?_⟩
  rcases h23 with ⟨rfl, h23⟩ | ⟨rfl, h23⟩
  · skip
    refine go_if (k := 5) (p1 := 25) (p2 := 20) (L' := [some (.inr (.inr (some 79))), some (.inl p1), some (.inl p2), none]) (st' := [.inl 0, .inl p2]) (w' := (SH, (u2 dt 79 17 0))) (fun _ => rfl) (z_ne (a := p1) ⟨by omega, by omega⟩) (fun c24 => ?_) (fun c24 => ?_)
    · skip
      refine go_to (k := 1) (pc' := 26) (L' := [some (.inr (.inr (some 79))), some (.inl p1), some (.inl p2), none]) (st' := [.inl 3, .inl 0, .inl p2]) (w' := (SH, (u2 dt 79 17 0))) (fun _ => rfl) ?_
      refine go_call (Q' := _) rfl rfl rfl rfl rfl (sp_X6_isIn L xs sio (d + 37) (u2 dt 79 17 0) hI4  p2 ⟨by omega, by omega⟩ 0 ⟨by omega, by omega⟩ 3 ⟨by omega, by omega⟩ ) ?_
      rintro _ _ ⟨rfl, h25⟩
      refine ⟨rfl, ?_⟩
      rcases h25 with ⟨rfl, h25⟩ | ⟨rfl, h25⟩
      · skip
        refine go_to (k := 3) (pc' := 51) (L' := [some (.inr (.inr (some 79))), some (.inl p1), some (.inl p2), none]) (st' := [.inl p1, .inr (.inr (some 79))]) (w' := (SH, (u2 dt 79 17 0))) (fun _ => rfl) ?_
        have hI26 : InvC (u2 (u2 dt 79 17 0) 79 9 p1) := InvC_u2 hI4 (lo := 0) (hi := 1) rfl rfl rfl (by omega) (by omega)
        have hF27 : Fr [79, 80, 82, 83, 84] dt (u2 (u2 dt 79 17 0) 79 9 p1) := Fr_u2 hF5 (by decide)
        have w28 : (u2 (u2 dt 79 17 0) 79 9 p1) 79 2 = (u2 dt 79 17 0) 79 2 := rfl
        have w29 : (u2 (u2 dt 79 17 0) 79 9 p1) 79 9 = p1 := rfl
        have w30 : (u2 (u2 dt 79 17 0) 79 9 p1) 79 10 = (u2 dt 79 17 0) 79 10 := rfl
        have w31 : (u2 (u2 dt 79 17 0) 79 9 p1) 79 11 = (u2 dt 79 17 0) 79 11 := rfl
        have w32 : (u2 (u2 dt 79 17 0) 79 9 p1) 79 12 = (u2 dt 79 17 0) 79 12 := rfl
        have w33 : (u2 (u2 dt 79 17 0) 79 9 p1) 79 13 = (u2 dt 79 17 0) 79 13 := rfl
        have w34 : (u2 (u2 dt 79 17 0) 79 9 p1) 79 14 = (u2 dt 79 17 0) 79 14 := rfl
        have w35 : (u2 (u2 dt 79 17 0) 79 9 p1) 79 15 = (u2 dt 79 17 0) 79 15 := rfl
        have w36 : (u2 (u2 dt 79 17 0) 79 9 p1) 79 16 = (u2 dt 79 17 0) 79 16 := rfl
        have w37 : (u2 (u2 dt 79 17 0) 79 9 p1) 79 20 = (u2 dt 79 17 0) 79 20 := rfl
        have w38 : (u2 (u2 dt 79 17 0) 79 9 p1) 80 0 = (u2 dt 79 17 0) 80 0 := rfl
        have w39 : (u2 (u2 dt 79 17 0) 79 9 p1) 80 1 = (u2 dt 79 17 0) 80 1 := rfl
        have w40 : (u2 (u2 dt 79 17 0) 79 9 p1) 80 2 = (u2 dt 79 17 0) 80 2 := rfl
        have w41 : (u2 (u2 dt 79 17 0) 79 9 p1) 80 3 = (u2 dt 79 17 0) 80 3 := rfl
        have w42 : (u2 (u2 dt 79 17 0) 79 9 p1) 80 4 = (u2 dt 79 17 0) 80 4 := rfl
        have w43 : (u2 (u2 dt 79 17 0) 79 9 p1) 80 5 = (u2 dt 79 17 0) 80 5 := rfl
        have E8444 : (u2 (u2 dt 79 17 0) 79 9 p1) 84 = dt 84 := (funext fun _ => u2_ne (by omega)).trans E8422
        refine go_smp (L' := [some (.inr (.inr (some 79))), some (.inl p1), some (.inl p2), none]) (st' := []) (w' := (SH, (u2 (u2 dt 79 17 0) 79 9 p1))) rfl rfl (s_pf rfl rfl rfl rfl ⟨by omega, by omega⟩) ?_
        refine go_to (k := 2) (pc' := 56) (L' := [some (.inr (.inr (some 79))), some (.inl p1), some (.inl p2), none]) (st' := [.inl 0, .inr (.inr (some 79))]) (w' := (SH, (u2 (u2 dt 79 17 0) 79 9 p1))) (fun _ => rfl) ?_
        have hI45 : InvC (u2 (u2 (u2 dt 79 17 0) 79 9 p1) 79 13 0) := InvC_u2 hI26 (lo := 0) (hi := 501) rfl rfl rfl (by omega) (by omega)
        have hF46 : Fr [79, 80, 82, 83, 84] dt (u2 (u2 (u2 dt 79 17 0) 79 9 p1) 79 13 0) := Fr_u2 hF27 (by decide)
        have w47 : (u2 (u2 (u2 dt 79 17 0) 79 9 p1) 79 13 0) 79 2 = (u2 (u2 dt 79 17 0) 79 9 p1) 79 2 := rfl
        have w48 : (u2 (u2 (u2 dt 79 17 0) 79 9 p1) 79 13 0) 79 9 = (u2 (u2 dt 79 17 0) 79 9 p1) 79 9 := rfl
        have w49 : (u2 (u2 (u2 dt 79 17 0) 79 9 p1) 79 13 0) 79 10 = (u2 (u2 dt 79 17 0) 79 9 p1) 79 10 := rfl
        have w50 : (u2 (u2 (u2 dt 79 17 0) 79 9 p1) 79 13 0) 79 11 = (u2 (u2 dt 79 17 0) 79 9 p1) 79 11 := rfl
        have w51 : (u2 (u2 (u2 dt 79 17 0) 79 9 p1) 79 13 0) 79 12 = (u2 (u2 dt 79 17 0) 79 9 p1) 79 12 := rfl
        have w52 : (u2 (u2 (u2 dt 79 17 0) 79 9 p1) 79 13 0) 79 13 = 0 := rfl
        have w53 : (u2 (u2 (u2 dt 79 17 0) 79 9 p1) 79 13 0) 79 14 = (u2 (u2 dt 79 17 0) 79 9 p1) 79 14 := rfl
        have w54 : (u2 (u2 (u2 dt 79 17 0) 79 9 p1) 79 13 0) 79 15 = (u2 (u2 dt 79 17 0) 79 9 p1) 79 15 := rfl
        have w55 : (u2 (u2 (u2 dt 79 17 0) 79 9 p1) 79 13 0) 79 16 = (u2 (u2 dt 79 17 0) 79 9 p1) 79 16 := rfl
        have w56 : (u2 (u2 (u2 dt 79 17 0) 79 9 p1) 79 13 0) 79 20 = (u2 (u2 dt 79 17 0) 79 9 p1) 79 20 := rfl
        have w57 : (u2 (u2 (u2 dt 79 17 0) 79 9 p1) 79 13 0) 80 0 = (u2 (u2 dt 79 17 0) 79 9 p1) 80 0 := rfl
        have w58 : (u2 (u2 (u2 dt 79 17 0) 79 9 p1) 79 13 0) 80 1 = (u2 (u2 dt 79 17 0) 79 9 p1) 80 1 := rfl
        have w59 : (u2 (u2 (u2 dt 79 17 0) 79 9 p1) 79 13 0) 80 2 = (u2 (u2 dt 79 17 0) 79 9 p1) 80 2 := rfl
        have w60 : (u2 (u2 (u2 dt 79 17 0) 79 9 p1) 79 13 0) 80 3 = (u2 (u2 dt 79 17 0) 79 9 p1) 80 3 := rfl
        have w61 : (u2 (u2 (u2 dt 79 17 0) 79 9 p1) 79 13 0) 80 4 = (u2 (u2 dt 79 17 0) 79 9 p1) 80 4 := rfl
        have w62 : (u2 (u2 (u2 dt 79 17 0) 79 9 p1) 79 13 0) 80 5 = (u2 (u2 dt 79 17 0) 79 9 p1) 80 5 := rfl
        have E8463 : (u2 (u2 (u2 dt 79 17 0) 79 9 p1) 79 13 0) 84 = dt 84 := (funext fun _ => u2_ne (by omega)).trans E8444
        refine go_smp (L' := [some (.inr (.inr (some 79))), some (.inl p1), some (.inl p2), none]) (st' := []) (w' := (SH, (u2 (u2 (u2 dt 79 17 0) 79 9 p1) 79 13 0))) rfl rfl (s_pf rfl rfl rfl rfl ⟨by omega, by omega⟩) ?_
        refine go_to (k := 2) (pc' := 61) (L' := [some (.inr (.inr (some 79))), some (.inl p1), some (.inl p2), none]) (st' := [.inl 0, .inr (.inr (some 79))]) (w' := (SH, (u2 (u2 (u2 dt 79 17 0) 79 9 p1) 79 13 0))) (fun _ => rfl) ?_
        have hI64 : InvC (u2 (u2 (u2 (u2 dt 79 17 0) 79 9 p1) 79 13 0) 79 10 0) := InvC_u2 hI45 (lo := 0) (hi := 24) rfl rfl rfl (by omega) (by omega)
        have hF65 : Fr [79, 80, 82, 83, 84] dt (u2 (u2 (u2 (u2 dt 79 17 0) 79 9 p1) 79 13 0) 79 10 0) := Fr_u2 hF46 (by decide)
        have w66 : (u2 (u2 (u2 (u2 dt 79 17 0) 79 9 p1) 79 13 0) 79 10 0) 79 2 = (u2 (u2 (u2 dt 79 17 0) 79 9 p1) 79 13 0) 79 2 := rfl
        have w67 : (u2 (u2 (u2 (u2 dt 79 17 0) 79 9 p1) 79 13 0) 79 10 0) 79 9 = (u2 (u2 (u2 dt 79 17 0) 79 9 p1) 79 13 0) 79 9 := rfl
        have w68 : (u2 (u2 (u2 (u2 dt 79 17 0) 79 9 p1) 79 13 0) 79 10 0) 79 10 = 0 := rfl
        have w69 : (u2 (u2 (u2 (u2 dt 79 17 0) 79 9 p1) 79 13 0) 79 10 0) 79 11 = (u2 (u2 (u2 dt 79 17 0) 79 9 p1) 79 13 0) 79 11 := rfl
        have w70 : (u2 (u2 (u2 (u2 dt 79 17 0) 79 9 p1) 79 13 0) 79 10 0) 79 12 = (u2 (u2 (u2 dt 79 17 0) 79 9 p1) 79 13 0) 79 12 := rfl
        have w71 : (u2 (u2 (u2 (u2 dt 79 17 0) 79 9 p1) 79 13 0) 79 10 0) 79 13 = (u2 (u2 (u2 dt 79 17 0) 79 9 p1) 79 13 0) 79 13 := rfl
        have w72 : (u2 (u2 (u2 (u2 dt 79 17 0) 79 9 p1) 79 13 0) 79 10 0) 79 14 = (u2 (u2 (u2 dt 79 17 0) 79 9 p1) 79 13 0) 79 14 := rfl
        have w73 : (u2 (u2 (u2 (u2 dt 79 17 0) 79 9 p1) 79 13 0) 79 10 0) 79 15 = (u2 (u2 (u2 dt 79 17 0) 79 9 p1) 79 13 0) 79 15 := rfl
        have w74 : (u2 (u2 (u2 (u2 dt 79 17 0) 79 9 p1) 79 13 0) 79 10 0) 79 16 = (u2 (u2 (u2 dt 79 17 0) 79 9 p1) 79 13 0) 79 16 := rfl
        have w75 : (u2 (u2 (u2 (u2 dt 79 17 0) 79 9 p1) 79 13 0) 79 10 0) 79 20 = (u2 (u2 (u2 dt 79 17 0) 79 9 p1) 79 13 0) 79 20 := rfl
        have w76 : (u2 (u2 (u2 (u2 dt 79 17 0) 79 9 p1) 79 13 0) 79 10 0) 80 0 = (u2 (u2 (u2 dt 79 17 0) 79 9 p1) 79 13 0) 80 0 := rfl
        have w77 : (u2 (u2 (u2 (u2 dt 79 17 0) 79 9 p1) 79 13 0) 79 10 0) 80 1 = (u2 (u2 (u2 dt 79 17 0) 79 9 p1) 79 13 0) 80 1 := rfl
        have w78 : (u2 (u2 (u2 (u2 dt 79 17 0) 79 9 p1) 79 13 0) 79 10 0) 80 2 = (u2 (u2 (u2 dt 79 17 0) 79 9 p1) 79 13 0) 80 2 := rfl
        have w79 : (u2 (u2 (u2 (u2 dt 79 17 0) 79 9 p1) 79 13 0) 79 10 0) 80 3 = (u2 (u2 (u2 dt 79 17 0) 79 9 p1) 79 13 0) 80 3 := rfl
        have w80 : (u2 (u2 (u2 (u2 dt 79 17 0) 79 9 p1) 79 13 0) 79 10 0) 80 4 = (u2 (u2 (u2 dt 79 17 0) 79 9 p1) 79 13 0) 80 4 := rfl
        have w81 : (u2 (u2 (u2 (u2 dt 79 17 0) 79 9 p1) 79 13 0) 79 10 0) 80 5 = (u2 (u2 (u2 dt 79 17 0) 79 9 p1) 79 13 0) 80 5 := rfl
        have E8482 : (u2 (u2 (u2 (u2 dt 79 17 0) 79 9 p1) 79 13 0) 79 10 0) 84 = dt 84 := (funext fun _ => u2_ne (by omega)).trans E8463
        refine go_smp (L' := [some (.inr (.inr (some 79))), some (.inl p1), some (.inl p2), none]) (st' := []) (w' := (SH, (u2 (u2 (u2 (u2 dt 79 17 0) 79 9 p1) 79 13 0) 79 10 0))) rfl rfl (s_pf rfl rfl rfl rfl ⟨by omega, by omega⟩) ?_
        refine go_to (k := 2) (pc' := 66) (L' := [some (.inr (.inr (some 79))), some (.inl p1), some (.inl p2), none]) (st' := [.inl 0, .inr (.inr (some 79))]) (w' := (SH, (u2 (u2 (u2 (u2 dt 79 17 0) 79 9 p1) 79 13 0) 79 10 0))) (fun _ => rfl) ?_
        have hI83 : InvC (u2 (u2 (u2 (u2 (u2 dt 79 17 0) 79 9 p1) 79 13 0) 79 10 0) 79 11 0) := InvC_u2 hI64 (lo := 0) (hi := 510) rfl rfl rfl (by omega) (by omega)
        have hF84 : Fr [79, 80, 82, 83, 84] dt (u2 (u2 (u2 (u2 (u2 dt 79 17 0) 79 9 p1) 79 13 0) 79 10 0) 79 11 0) := Fr_u2 hF65 (by decide)
        have w85 : (u2 (u2 (u2 (u2 (u2 dt 79 17 0) 79 9 p1) 79 13 0) 79 10 0) 79 11 0) 79 2 = (u2 (u2 (u2 (u2 dt 79 17 0) 79 9 p1) 79 13 0) 79 10 0) 79 2 := rfl
        have w86 : (u2 (u2 (u2 (u2 (u2 dt 79 17 0) 79 9 p1) 79 13 0) 79 10 0) 79 11 0) 79 9 = (u2 (u2 (u2 (u2 dt 79 17 0) 79 9 p1) 79 13 0) 79 10 0) 79 9 := rfl
        have w87 : (u2 (u2 (u2 (u2 (u2 dt 79 17 0) 79 9 p1) 79 13 0) 79 10 0) 79 11 0) 79 10 = (u2 (u2 (u2 (u2 dt 79 17 0) 79 9 p1) 79 13 0) 79 10 0) 79 10 := rfl
        have w88 : (u2 (u2 (u2 (u2 (u2 dt 79 17 0) 79 9 p1) 79 13 0) 79 10 0) 79 11 0) 79 11 = 0 := rfl
        have w89 : (u2 (u2 (u2 (u2 (u2 dt 79 17 0) 79 9 p1) 79 13 0) 79 10 0) 79 11 0) 79 12 = (u2 (u2 (u2 (u2 dt 79 17 0) 79 9 p1) 79 13 0) 79 10 0) 79 12 := rfl
        have w90 : (u2 (u2 (u2 (u2 (u2 dt 79 17 0) 79 9 p1) 79 13 0) 79 10 0) 79 11 0) 79 13 = (u2 (u2 (u2 (u2 dt 79 17 0) 79 9 p1) 79 13 0) 79 10 0) 79 13 := rfl
        have w91 : (u2 (u2 (u2 (u2 (u2 dt 79 17 0) 79 9 p1) 79 13 0) 79 10 0) 79 11 0) 79 14 = (u2 (u2 (u2 (u2 dt 79 17 0) 79 9 p1) 79 13 0) 79 10 0) 79 14 := rfl
        have w92 : (u2 (u2 (u2 (u2 (u2 dt 79 17 0) 79 9 p1) 79 13 0) 79 10 0) 79 11 0) 79 15 = (u2 (u2 (u2 (u2 dt 79 17 0) 79 9 p1) 79 13 0) 79 10 0) 79 15 := rfl
        have w93 : (u2 (u2 (u2 (u2 (u2 dt 79 17 0) 79 9 p1) 79 13 0) 79 10 0) 79 11 0) 79 16 = (u2 (u2 (u2 (u2 dt 79 17 0) 79 9 p1) 79 13 0) 79 10 0) 79 16 := rfl
        have w94 : (u2 (u2 (u2 (u2 (u2 dt 79 17 0) 79 9 p1) 79 13 0) 79 10 0) 79 11 0) 79 20 = (u2 (u2 (u2 (u2 dt 79 17 0) 79 9 p1) 79 13 0) 79 10 0) 79 20 := rfl
        have w95 : (u2 (u2 (u2 (u2 (u2 dt 79 17 0) 79 9 p1) 79 13 0) 79 10 0) 79 11 0) 80 0 = (u2 (u2 (u2 (u2 dt 79 17 0) 79 9 p1) 79 13 0) 79 10 0) 80 0 := rfl
        have w96 : (u2 (u2 (u2 (u2 (u2 dt 79 17 0) 79 9 p1) 79 13 0) 79 10 0) 79 11 0) 80 1 = (u2 (u2 (u2 (u2 dt 79 17 0) 79 9 p1) 79 13 0) 79 10 0) 80 1 := rfl
        have w97 : (u2 (u2 (u2 (u2 (u2 dt 79 17 0) 79 9 p1) 79 13 0) 79 10 0) 79 11 0) 80 2 = (u2 (u2 (u2 (u2 dt 79 17 0) 79 9 p1) 79 13 0) 79 10 0) 80 2 := rfl
        have w98 : (u2 (u2 (u2 (u2 (u2 dt 79 17 0) 79 9 p1) 79 13 0) 79 10 0) 79 11 0) 80 3 = (u2 (u2 (u2 (u2 dt 79 17 0) 79 9 p1) 79 13 0) 79 10 0) 80 3 := rfl
        have w99 : (u2 (u2 (u2 (u2 (u2 dt 79 17 0) 79 9 p1) 79 13 0) 79 10 0) 79 11 0) 80 4 = (u2 (u2 (u2 (u2 dt 79 17 0) 79 9 p1) 79 13 0) 79 10 0) 80 4 := rfl
        have w100 : (u2 (u2 (u2 (u2 (u2 dt 79 17 0) 79 9 p1) 79 13 0) 79 10 0) 79 11 0) 80 5 = (u2 (u2 (u2 (u2 dt 79 17 0) 79 9 p1) 79 13 0) 79 10 0) 80 5 := rfl
        have E84101 : (u2 (u2 (u2 (u2 (u2 dt 79 17 0) 79 9 p1) 79 13 0) 79 10 0) 79 11 0) 84 = dt 84 := (funext fun _ => u2_ne (by omega)).trans E8482
        refine go_smp (L' := [some (.inr (.inr (some 79))), some (.inl p1), some (.inl p2), none]) (st' := []) (w' := (SH, (u2 (u2 (u2 (u2 (u2 dt 79 17 0) 79 9 p1) 79 13 0) 79 10 0) 79 11 0))) rfl rfl (s_pf rfl rfl rfl rfl ⟨by omega, by omega⟩) ?_
        refine go_to (k := 1) (pc' := 70) (L' := [some (.inr (.inr (some 79))), some (.inl p1), some (.inl p2), none]) (st' := [.inr (.inr (some 79))]) (w' := (SH, (u2 (u2 (u2 (u2 (u2 dt 79 17 0) 79 9 p1) 79 13 0) 79 10 0) 79 11 0))) (fun _ => rfl) ?_
        refine go_call (Q' := _) rfl rfl rfl rfl rfl (sp_X6_next0 L xs sio (d + 31) (u2 (u2 (u2 (u2 (u2 dt 79 17 0) 79 9 p1) 79 13 0) 79 10 0) 79 11 0) hI83   (by first | trivial | omega | exact hI4 (by omega) (by omega) | exact hI5 (by omega) (by omega))) ?_
        rintro _ _ ⟨dt103, rfl, hI104, hF105, h102⟩
        refine ⟨rfl, ?_⟩
        have hF106 : Fr [79, 80, 82, 83, 84] dt dt103 := Fr_tr hF84 hF105 (by decide)
        have hM107 : MW (dt103 80) := MW_fr (d0 := (u2 (u2 (u2 (u2 (u2 dt 79 17 0) 79 9 p1) 79 13 0) 79 10 0) 79 11 0)) hM hF105 (by decide)
        have w108 : dt103 80 0 = (u2 (u2 (u2 (u2 (u2 dt 79 17 0) 79 9 p1) 79 13 0) 79 10 0) 79 11 0) 80 0 := hF105 80 (by decide) 0
        have w109 : dt103 80 1 = (u2 (u2 (u2 (u2 (u2 dt 79 17 0) 79 9 p1) 79 13 0) 79 10 0) 79 11 0) 80 1 := hF105 80 (by decide) 1
        have w110 : dt103 80 2 = (u2 (u2 (u2 (u2 (u2 dt 79 17 0) 79 9 p1) 79 13 0) 79 10 0) 79 11 0) 80 2 := hF105 80 (by decide) 2
        have w111 : dt103 80 3 = (u2 (u2 (u2 (u2 (u2 dt 79 17 0) 79 9 p1) 79 13 0) 79 10 0) 79 11 0) 80 3 := hF105 80 (by decide) 3
        have w112 : dt103 80 4 = (u2 (u2 (u2 (u2 (u2 dt 79 17 0) 79 9 p1) 79 13 0) 79 10 0) 79 11 0) 80 4 := hF105 80 (by decide) 4
        have w113 : dt103 80 5 = (u2 (u2 (u2 (u2 (u2 dt 79 17 0) 79 9 p1) 79 13 0) 79 10 0) 79 11 0) 80 5 := hF105 80 (by decide) 5
        have E84114 : dt103 84 = dt 84 := (funext (hF105 84 (by decide))).trans E84101
        rcases h102 with ⟨rfl, h102⟩
        obtain ⟨h102_0, h102_1, h102_2, h102_3, h102_4, h102_5, h102_6, h102_7, h102_8⟩ := h102
        refine go_to (k := 2) (pc' := 75) (L' := [some (.inr (.inr (some 79))), some (.inl p1), some (.inl p2), some (.inl 1)]) (st' := []) (w' := (SH, dt103)) (fun _ => rfl) ?_
        have loop190 : ∀ (k_ : Nat) (l75_3 : Int) (dt172 : Nat → Nat → Int) (hI173 : InvC dt172) (hF174 : Fr [79, 80, 82, 83, 84] dt dt172) (hM_dt172 : MW (dt172 80)) (i175 : 0 ≤ l75_3 ∧ l75_3 ≤ 1) (i176 : l75_3 = 1 → (¬ dt172 79 14 = 0 → dt172 79 15 + 1 ≤ dt172 79 13) ∧ dt172 79 13 ≤ 500) (i177 : dt172 79 15 ≤ 500) (i178 : l75_3 = 1 → dt172 79 11 ≤ dt172 79 15) (i179 : l75_3 = 1 → p1 = 1 → dt172 79 10 ≤ 16) (i180 : l75_3 = 1 → p1 = 0 → ARW (dt172 82) (dt172 79 10)) (i181 : l75_3 = 1 → p1 = 1 → LRW (dt172 83) (dt172 84) (dt172 79 10) (dt172 79 11)) (i182 : dt172 79 2 = dt 79 2) (i183 : dt172 79 9 = p1) (i184 : dt172 80 0 = dt103 80 0) (i185 : dt172 80 1 = dt103 80 1) (i186 : dt172 80 2 = dt103 80 2) (i187 : dt172 80 3 = dt103 80 3) (i188 : dt172 80 4 = dt103 80 4) (i189 : dt172 80 5 = dt103 80 5), (l75_3 * (502 - dt172 79 15)).toNat < k_ → GO (am_XX L xs sio) (d + 38) 174 75 [some (.inr (.inr (some 79))), some (.inl p1), some (.inl p2), some (.inl l75_3)] [] (SH, dt172) (fun r w2 => ∃ dt2 : Nat → Nat → Int, w2 = (SH, dt2) ∧ InvC dt2 ∧ Fr [79, 80, 82, 83, 84] dt dt2 ∧ ((∃ v : Int, r = some (.inl v) ∧ ((-1) ≤ v ∧ v ≤ 24) ∧ (dt2 79 12 = 0) ∧ (dt2 79 2 = dt 79 2) ∧ (MW (dt2 80)) ∧ (dt2 80 0 = dt 80 0) ∧ (dt2 80 1 = dt 80 1) ∧ (dt2 80 2 = dt 80 2) ∧ (dt2 80 3 = dt 80 3) ∧ (dt2 80 4 = dt 80 4) ∧ (dt2 80 5 = dt 80 5)))) := by
          intro k_
          induction k_ with
          | zero => intro l75_3 dt172 hI173 hF174 hM_dt172 i175 i176 i177 i178 i179 i180 i181 i182 i183 i184 i185 i186 i187 i188 i189 hm; exact absurd hm (Nat.not_lt_zero _)
          | succ k_ ih_loop190 =>
            intro l75_3 dt172 hI173 hF174 hM_dt172 i175 i176 i177 i178 i179 i180 i181 i182 i183 i184 i185 i186 i187 i188 i189 hm
            have hI4 := i180
            have hI5 := i181
            have hm1 : l75_3 = 1 → (l75_3 * (502 - dt172 79 15)).toNat = (502 - dt172 79 15).toNat := fun e => by rw [e, Int.one_mul]
            refine go_if (k := 2) (p1 := 123) (p2 := 79) (L' := [some (.inr (.inr (some 79))), some (.inl p1), some (.inl p2), some (.inl l75_3)]) (st' := []) (w' := (SH, dt172)) (fun _ => rfl) (z_eq (a := l75_3) ⟨by omega, by omega⟩) (fun c191 => ?_) (fun c191 => ?_)
            · skip
              refine go_to (k := 2) (pc' := 125) (L' := [some (.inr (.inr (some 79))), some (.inl p1), some (.inl p2), some (.inl l75_3)]) (st' := [.inl 0, .inr (.inr (some 79))]) (w' := (SH, dt172)) (fun _ => rfl) ?_
              have hI192 : InvC (u2 dt172 79 12 0) := InvC_u2 hI173 (lo := 0) (hi := 500) rfl rfl rfl (by omega) (by omega)
              have hF193 : Fr [79, 80, 82, 83, 84] dt (u2 dt172 79 12 0) := Fr_u2 hF174 (by decide)
              have w194 : (u2 dt172 79 12 0) 79 2 = dt172 79 2 := rfl
              have w195 : (u2 dt172 79 12 0) 79 9 = dt172 79 9 := rfl
              have w196 : (u2 dt172 79 12 0) 79 10 = dt172 79 10 := rfl
              have w197 : (u2 dt172 79 12 0) 79 11 = dt172 79 11 := rfl
              have w198 : (u2 dt172 79 12 0) 79 12 = 0 := rfl
              have w199 : (u2 dt172 79 12 0) 79 13 = dt172 79 13 := rfl
              have w200 : (u2 dt172 79 12 0) 79 14 = dt172 79 14 := rfl
              have w201 : (u2 dt172 79 12 0) 79 15 = dt172 79 15 := rfl
              have w202 : (u2 dt172 79 12 0) 79 16 = dt172 79 16 := rfl
              have w203 : (u2 dt172 79 12 0) 79 20 = dt172 79 20 := rfl
              have w204 : (u2 dt172 79 12 0) 80 0 = dt172 80 0 := rfl
              have w205 : (u2 dt172 79 12 0) 80 1 = dt172 80 1 := rfl
              have w206 : (u2 dt172 79 12 0) 80 2 = dt172 80 2 := rfl
              have w207 : (u2 dt172 79 12 0) 80 3 = dt172 80 3 := rfl
              have w208 : (u2 dt172 79 12 0) 80 4 = dt172 80 4 := rfl
              have w209 : (u2 dt172 79 12 0) 80 5 = dt172 80 5 := rfl
              have E84210 : (u2 dt172 79 12 0) 84 = dt172 84 := funext fun _ => u2_ne (by omega)
              refine go_smp (L' := [some (.inr (.inr (some 79))), some (.inl p1), some (.inl p2), some (.inl l75_3)]) (st' := []) (w' := (SH, (u2 dt172 79 12 0))) rfl rfl (s_pf rfl rfl rfl rfl ⟨by omega, by omega⟩) ?_
              have r211 : (-2147483648) ≤ dt172 79 17 ∧ dt172 79 17 ≤ 2147483647 := InvC_get hI173 79 17 rfl rfl
              refine go_to (k := 3) (pc' := 133) (L' := [some (.inr (.inr (some 79))), some (.inl p1), some (.inl p2), some (.inl l75_3)]) (st' := [.inl (dt172 79 17), .inr (.inr (some 79))]) (w' := (SH, (u2 dt172 79 12 0))) (fun _ => rfl) ?_
              have hI212 : InvC (u2 (u2 dt172 79 12 0) 79 19 (dt172 79 17)) := InvC_u2 hI192 (lo := -2147483648) (hi := 2147483647) rfl rfl rfl (by omega) (by omega)
              have hF213 : Fr [79, 80, 82, 83, 84] dt (u2 (u2 dt172 79 12 0) 79 19 (dt172 79 17)) := Fr_u2 hF193 (by decide)
              have w214 : (u2 (u2 dt172 79 12 0) 79 19 (dt172 79 17)) 79 2 = (u2 dt172 79 12 0) 79 2 := rfl
              have w215 : (u2 (u2 dt172 79 12 0) 79 19 (dt172 79 17)) 79 9 = (u2 dt172 79 12 0) 79 9 := rfl
              have w216 : (u2 (u2 dt172 79 12 0) 79 19 (dt172 79 17)) 79 10 = (u2 dt172 79 12 0) 79 10 := rfl
              have w217 : (u2 (u2 dt172 79 12 0) 79 19 (dt172 79 17)) 79 11 = (u2 dt172 79 12 0) 79 11 := rfl
              have w218 : (u2 (u2 dt172 79 12 0) 79 19 (dt172 79 17)) 79 12 = (u2 dt172 79 12 0) 79 12 := rfl
              have w219 : (u2 (u2 dt172 79 12 0) 79 19 (dt172 79 17)) 79 13 = (u2 dt172 79 12 0) 79 13 := rfl
              have w220 : (u2 (u2 dt172 79 12 0) 79 19 (dt172 79 17)) 79 14 = (u2 dt172 79 12 0) 79 14 := rfl
              have w221 : (u2 (u2 dt172 79 12 0) 79 19 (dt172 79 17)) 79 15 = (u2 dt172 79 12 0) 79 15 := rfl
              have w222 : (u2 (u2 dt172 79 12 0) 79 19 (dt172 79 17)) 79 16 = (u2 dt172 79 12 0) 79 16 := rfl
              have w223 : (u2 (u2 dt172 79 12 0) 79 19 (dt172 79 17)) 79 20 = (u2 dt172 79 12 0) 79 20 := rfl
              have w224 : (u2 (u2 dt172 79 12 0) 79 19 (dt172 79 17)) 80 0 = (u2 dt172 79 12 0) 80 0 := rfl
              have w225 : (u2 (u2 dt172 79 12 0) 79 19 (dt172 79 17)) 80 1 = (u2 dt172 79 12 0) 80 1 := rfl
              have w226 : (u2 (u2 dt172 79 12 0) 79 19 (dt172 79 17)) 80 2 = (u2 dt172 79 12 0) 80 2 := rfl
              have w227 : (u2 (u2 dt172 79 12 0) 79 19 (dt172 79 17)) 80 3 = (u2 dt172 79 12 0) 80 3 := rfl
              have w228 : (u2 (u2 dt172 79 12 0) 79 19 (dt172 79 17)) 80 4 = (u2 dt172 79 12 0) 80 4 := rfl
              have w229 : (u2 (u2 dt172 79 12 0) 79 19 (dt172 79 17)) 80 5 = (u2 dt172 79 12 0) 80 5 := rfl
              have E84230 : (u2 (u2 dt172 79 12 0) 79 19 (dt172 79 17)) 84 = dt172 84 := (funext fun _ => u2_ne (by omega)).trans E84210
              refine go_smp (L' := [some (.inr (.inr (some 79))), some (.inl p1), some (.inl p2), some (.inl l75_3)]) (st' := []) (w' := (SH, (u2 (u2 dt172 79 12 0) 79 19 (dt172 79 17)))) rfl rfl (s_pf rfl rfl rfl rfl ⟨by omega, by omega⟩) ?_
              refine go_if (k := 3) (p1 := 145) (p2 := 141) (L' := [some (.inr (.inr (some 79))), some (.inl p1), some (.inl p2), some (.inl l75_3)]) (st' := [.inr (.inr (some 79))]) (w' := (SH, (u2 (u2 dt172 79 12 0) 79 19 (dt172 79 17)))) (fun _ => rfl) (z_eq (a := l75_3) ⟨by omega, by omega⟩) (fun c231 => ?_) (fun c231 => ?_)
              · skip
                have r232 : (-2147483648) ≤ dt172 79 18 ∧ dt172 79 18 ≤ 2147483647 := InvC_get hI173 79 18 rfl rfl
                refine go_to (k := 2) (pc' := 149) (L' := [some (.inr (.inr (some 79))), some (.inl p1), some (.inl p2), some (.inl l75_3)]) (st' := [.inl (dt172 79 18), .inr (.inr (some 79))]) (w' := (SH, (u2 (u2 dt172 79 12 0) 79 19 (dt172 79 17)))) (fun _ => rfl) ?_
                have hI233 : InvC (u2 (u2 (u2 dt172 79 12 0) 79 19 (dt172 79 17)) 79 21 (dt172 79 18)) := InvC_u2 hI212 (lo := -2147483648) (hi := 2147483647) rfl rfl rfl (by omega) (by omega)
                have hF234 : Fr [79, 80, 82, 83, 84] dt (u2 (u2 (u2 dt172 79 12 0) 79 19 (dt172 79 17)) 79 21 (dt172 79 18)) := Fr_u2 hF213 (by decide)
                have w235 : (u2 (u2 (u2 dt172 79 12 0) 79 19 (dt172 79 17)) 79 21 (dt172 79 18)) 79 2 = (u2 (u2 dt172 79 12 0) 79 19 (dt172 79 17)) 79 2 := rfl
                have w236 : (u2 (u2 (u2 dt172 79 12 0) 79 19 (dt172 79 17)) 79 21 (dt172 79 18)) 79 9 = (u2 (u2 dt172 79 12 0) 79 19 (dt172 79 17)) 79 9 := rfl
                have w237 : (u2 (u2 (u2 dt172 79 12 0) 79 19 (dt172 79 17)) 79 21 (dt172 79 18)) 79 10 = (u2 (u2 dt172 79 12 0) 79 19 (dt172 79 17)) 79 10 := rfl
                have w238 : (u2 (u2 (u2 dt172 79 12 0) 79 19 (dt172 79 17)) 79 21 (dt172 79 18)) 79 11 = (u2 (u2 dt172 79 12 0) 79 19 (dt172 79 17)) 79 11 := rfl
                have w239 : (u2 (u2 (u2 dt172 79 12 0) 79 19 (dt172 79 17)) 79 21 (dt172 79 18)) 79 12 = (u2 (u2 dt172 79 12 0) 79 19 (dt172 79 17)) 79 12 := rfl
                have w240 : (u2 (u2 (u2 dt172 79 12 0) 79 19 (dt172 79 17)) 79 21 (dt172 79 18)) 79 13 = (u2 (u2 dt172 79 12 0) 79 19 (dt172 79 17)) 79 13 := rfl
                have w241 : (u2 (u2 (u2 dt172 79 12 0) 79 19 (dt172 79 17)) 79 21 (dt172 79 18)) 79 14 = (u2 (u2 dt172 79 12 0) 79 19 (dt172 79 17)) 79 14 := rfl
                have w242 : (u2 (u2 (u2 dt172 79 12 0) 79 19 (dt172 79 17)) 79 21 (dt172 79 18)) 79 15 = (u2 (u2 dt172 79 12 0) 79 19 (dt172 79 17)) 79 15 := rfl
                have w243 : (u2 (u2 (u2 dt172 79 12 0) 79 19 (dt172 79 17)) 79 21 (dt172 79 18)) 79 16 = (u2 (u2 dt172 79 12 0) 79 19 (dt172 79 17)) 79 16 := rfl
                have w244 : (u2 (u2 (u2 dt172 79 12 0) 79 19 (dt172 79 17)) 79 21 (dt172 79 18)) 79 20 = (u2 (u2 dt172 79 12 0) 79 19 (dt172 79 17)) 79 20 := rfl
                have w245 : (u2 (u2 (u2 dt172 79 12 0) 79 19 (dt172 79 17)) 79 21 (dt172 79 18)) 80 0 = (u2 (u2 dt172 79 12 0) 79 19 (dt172 79 17)) 80 0 := rfl
                have w246 : (u2 (u2 (u2 dt172 79 12 0) 79 19 (dt172 79 17)) 79 21 (dt172 79 18)) 80 1 = (u2 (u2 dt172 79 12 0) 79 19 (dt172 79 17)) 80 1 := rfl
                have w247 : (u2 (u2 (u2 dt172 79 12 0) 79 19 (dt172 79 17)) 79 21 (dt172 79 18)) 80 2 = (u2 (u2 dt172 79 12 0) 79 19 (dt172 79 17)) 80 2 := rfl
                have w248 : (u2 (u2 (u2 dt172 79 12 0) 79 19 (dt172 79 17)) 79 21 (dt172 79 18)) 80 3 = (u2 (u2 dt172 79 12 0) 79 19 (dt172 79 17)) 80 3 := rfl
                have w249 : (u2 (u2 (u2 dt172 79 12 0) 79 19 (dt172 79 17)) 79 21 (dt172 79 18)) 80 4 = (u2 (u2 dt172 79 12 0) 79 19 (dt172 79 17)) 80 4 := rfl
                have w250 : (u2 (u2 (u2 dt172 79 12 0) 79 19 (dt172 79 17)) 79 21 (dt172 79 18)) 80 5 = (u2 (u2 dt172 79 12 0) 79 19 (dt172 79 17)) 80 5 := rfl
                have E84251 : (u2 (u2 (u2 dt172 79 12 0) 79 19 (dt172 79 17)) 79 21 (dt172 79 18)) 84 = dt172 84 := (funext fun _ => u2_ne (by omega)).trans E84230
                refine go_smp (L' := [some (.inr (.inr (some 79))), some (.inl p1), some (.inl p2), some (.inl l75_3)]) (st' := []) (w' := (SH, (u2 (u2 (u2 dt172 79 12 0) 79 19 (dt172 79 17)) 79 21 (dt172 79 18)))) rfl rfl (s_pf rfl rfl rfl rfl ⟨by omega, by omega⟩) ?_
                refine go_if (k := 2) (p1 := 158) (p2 := 156) (L' := [some (.inr (.inr (some 79))), some (.inl p1), some (.inl p2), some (.inl l75_3)]) (st' := []) (w' := (SH, (u2 (u2 (u2 dt172 79 12 0) 79 19 (dt172 79 17)) 79 21 (dt172 79 18)))) (fun _ => rfl) (z_ne (a := l75_3) ⟨by omega, by omega⟩) (fun c252 => ?_) (fun c252 => ?_)
                · skip
                  refine go_to (k := 2) (pc' := 160) (L' := [some (.inr (.inr (some 79))), some (.inl p1), some (.inl p2), some (.inl l75_3)]) (st' := [.inl p2, .inr (.inr (some 79))]) (w' := (SH, (u2 (u2 (u2 dt172 79 12 0) 79 19 (dt172 79 17)) 79 21 (dt172 79 18)))) (fun _ => rfl) ?_
                  refine go_call (Q' := _) rfl rfl rfl rfl rfl (sp_X6_keeps_k1 L xs sio (d + 37) (u2 (u2 (u2 dt172 79 12 0) 79 19 (dt172 79 17)) 79 21 (dt172 79 18)) hI233 hM_dt172  p2 ⟨by omega, by omega⟩ (by first | trivial | omega | exact hI4 (by omega) (by omega) | exact hI5 (by omega) (by omega)) (by first | trivial | omega | exact hI4 (by omega) (by omega) | exact hI5 (by omega) (by omega)) (by first | trivial | omega | exact hI4 (by omega) (by omega) | exact hI5 (by omega) (by omega)) (by first | trivial | omega | exact hI4 (by omega) (by omega) | exact hI5 (by omega) (by omega))) ?_
                  rintro _ _ ⟨dt254, rfl, hI255, hF256, h253⟩
                  refine ⟨rfl, ?_⟩
                  have hF257 : Fr [79, 80, 82, 83, 84] dt dt254 := Fr_tr hF234 hF256 (by decide)
                  have w258 : dt254 79 2 = (u2 (u2 (u2 dt172 79 12 0) 79 19 (dt172 79 17)) 79 21 (dt172 79 18)) 79 2 := hF256 79 (by decide) 2
                  have w259 : dt254 79 9 = (u2 (u2 (u2 dt172 79 12 0) 79 19 (dt172 79 17)) 79 21 (dt172 79 18)) 79 9 := hF256 79 (by decide) 9
                  have w260 : dt254 79 10 = (u2 (u2 (u2 dt172 79 12 0) 79 19 (dt172 79 17)) 79 21 (dt172 79 18)) 79 10 := hF256 79 (by decide) 10
                  have w261 : dt254 79 11 = (u2 (u2 (u2 dt172 79 12 0) 79 19 (dt172 79 17)) 79 21 (dt172 79 18)) 79 11 := hF256 79 (by decide) 11
                  have w262 : dt254 79 12 = (u2 (u2 (u2 dt172 79 12 0) 79 19 (dt172 79 17)) 79 21 (dt172 79 18)) 79 12 := hF256 79 (by decide) 12
                  have w263 : dt254 79 13 = (u2 (u2 (u2 dt172 79 12 0) 79 19 (dt172 79 17)) 79 21 (dt172 79 18)) 79 13 := hF256 79 (by decide) 13
                  have w264 : dt254 79 14 = (u2 (u2 (u2 dt172 79 12 0) 79 19 (dt172 79 17)) 79 21 (dt172 79 18)) 79 14 := hF256 79 (by decide) 14
                  have w265 : dt254 79 15 = (u2 (u2 (u2 dt172 79 12 0) 79 19 (dt172 79 17)) 79 21 (dt172 79 18)) 79 15 := hF256 79 (by decide) 15
                  have w266 : dt254 79 16 = (u2 (u2 (u2 dt172 79 12 0) 79 19 (dt172 79 17)) 79 21 (dt172 79 18)) 79 16 := hF256 79 (by decide) 16
                  have w267 : dt254 79 20 = (u2 (u2 (u2 dt172 79 12 0) 79 19 (dt172 79 17)) 79 21 (dt172 79 18)) 79 20 := hF256 79 (by decide) 20
                  have E84268 : dt254 84 = dt172 84 := (funext (hF256 84 (by decide))).trans E84251
                  rcases h253 with ⟨rfl, h253⟩
                  have hM269 : MW (dt254 80) := h253.1
                  obtain ⟨h253_0, h253_1, h253_2, h253_3, h253_4, h253_5, h253_6⟩ := h253
                  have r270 : 0 ≤ dt254 79 10 ∧ dt254 79 10 ≤ 24 := InvC_get hI255 79 10 rfl rfl
                  refine go_ret (k := 3) (r := some (.inl (dt254 79 10))) (w1 := (SH, dt254)) (fun _ => rfl) ?_
                  exact ⟨dt254, rfl, hI255, hF257, ⟨_, rfl, ⟨by omega, by omega⟩, ⟨by first | trivial | omega, by first | trivial | omega, by first | assumption | exact hM, by first | trivial | omega, by first | trivial | omega, by first | trivial | omega, by first | trivial | omega, by first | trivial | omega, by first | trivial | omega⟩⟩⟩
                · skip
                  refine go_ret (k := 2) (r := some (.inl (-1))) (w1 := (SH, (u2 (u2 (u2 dt172 79 12 0) 79 19 (dt172 79 17)) 79 21 (dt172 79 18)))) (fun _ => rfl) ?_
                  exact ⟨(u2 (u2 (u2 dt172 79 12 0) 79 19 (dt172 79 17)) 79 21 (dt172 79 18)), rfl, hI233, hF234, ⟨_, rfl, ⟨by omega, by omega⟩, ⟨by first | trivial | omega, by first | trivial | omega, by first | assumption | exact hM, by first | trivial | omega, by first | trivial | omega, by first | trivial | omega, by first | trivial | omega, by first | trivial | omega, by first | trivial | omega⟩⟩⟩
              · skip
                refine go_to (k := 2) (pc' := 149) (L' := [some (.inr (.inr (some 79))), some (.inl p1), some (.inl p2), some (.inl l75_3)]) (st' := [.inl (-1), .inr (.inr (some 79))]) (w' := (SH, (u2 (u2 dt172 79 12 0) 79 19 (dt172 79 17)))) (fun _ => rfl) ?_
                have hI271 : InvC (u2 (u2 (u2 dt172 79 12 0) 79 19 (dt172 79 17)) 79 21 (-1)) := InvC_u2 hI212 (lo := -2147483648) (hi := 2147483647) rfl rfl rfl (by omega) (by omega)
                have hF272 : Fr [79, 80, 82, 83, 84] dt (u2 (u2 (u2 dt172 79 12 0) 79 19 (dt172 79 17)) 79 21 (-1)) := Fr_u2 hF213 (by decide)
                have w273 : (u2 (u2 (u2 dt172 79 12 0) 79 19 (dt172 79 17)) 79 21 (-1)) 79 2 = (u2 (u2 dt172 79 12 0) 79 19 (dt172 79 17)) 79 2 := rfl
                have w274 : (u2 (u2 (u2 dt172 79 12 0) 79 19 (dt172 79 17)) 79 21 (-1)) 79 9 = (u2 (u2 dt172 79 12 0) 79 19 (dt172 79 17)) 79 9 := rfl
                have w275 : (u2 (u2 (u2 dt172 79 12 0) 79 19 (dt172 79 17)) 79 21 (-1)) 79 10 = (u2 (u2 dt172 79 12 0) 79 19 (dt172 79 17)) 79 10 := rfl
                have w276 : (u2 (u2 (u2 dt172 79 12 0) 79 19 (dt172 79 17)) 79 21 (-1)) 79 11 = (u2 (u2 dt172 79 12 0) 79 19 (dt172 79 17)) 79 11 := rfl
                have w277 : (u2 (u2 (u2 dt172 79 12 0) 79 19 (dt172 79 17)) 79 21 (-1)) 79 12 = (u2 (u2 dt172 79 12 0) 79 19 (dt172 79 17)) 79 12 := rfl
                have w278 : (u2 (u2 (u2 dt172 79 12 0) 79 19 (dt172 79 17)) 79 21 (-1)) 79 13 = (u2 (u2 dt172 79 12 0) 79 19 (dt172 79 17)) 79 13 := rfl
                have w279 : (u2 (u2 (u2 dt172 79 12 0) 79 19 (dt172 79 17)) 79 21 (-1)) 79 14 = (u2 (u2 dt172 79 12 0) 79 19 (dt172 79 17)) 79 14 := rfl
                have w280 : (u2 (u2 (u2 dt172 79 12 0) 79 19 (dt172 79 17)) 79 21 (-1)) 79 15 = (u2 (u2 dt172 79 12 0) 79 19 (dt172 79 17)) 79 15 := rfl
                have w281 : (u2 (u2 (u2 dt172 79 12 0) 79 19 (dt172 79 17)) 79 21 (-1)) 79 16 = (u2 (u2 dt172 79 12 0) 79 19 (dt172 79 17)) 79 16 := rfl
                have w282 : (u2 (u2 (u2 dt172 79 12 0) 79 19 (dt172 79 17)) 79 21 (-1)) 79 20 = (u2 (u2 dt172 79 12 0) 79 19 (dt172 79 17)) 79 20 := rfl
                have w283 : (u2 (u2 (u2 dt172 79 12 0) 79 19 (dt172 79 17)) 79 21 (-1)) 80 0 = (u2 (u2 dt172 79 12 0) 79 19 (dt172 79 17)) 80 0 := rfl
                have w284 : (u2 (u2 (u2 dt172 79 12 0) 79 19 (dt172 79 17)) 79 21 (-1)) 80 1 = (u2 (u2 dt172 79 12 0) 79 19 (dt172 79 17)) 80 1 := rfl
                have w285 : (u2 (u2 (u2 dt172 79 12 0) 79 19 (dt172 79 17)) 79 21 (-1)) 80 2 = (u2 (u2 dt172 79 12 0) 79 19 (dt172 79 17)) 80 2 := rfl
                have w286 : (u2 (u2 (u2 dt172 79 12 0) 79 19 (dt172 79 17)) 79 21 (-1)) 80 3 = (u2 (u2 dt172 79 12 0) 79 19 (dt172 79 17)) 80 3 := rfl
                have w287 : (u2 (u2 (u2 dt172 79 12 0) 79 19 (dt172 79 17)) 79 21 (-1)) 80 4 = (u2 (u2 dt172 79 12 0) 79 19 (dt172 79 17)) 80 4 := rfl
                have w288 : (u2 (u2 (u2 dt172 79 12 0) 79 19 (dt172 79 17)) 79 21 (-1)) 80 5 = (u2 (u2 dt172 79 12 0) 79 19 (dt172 79 17)) 80 5 := rfl
                have E84289 : (u2 (u2 (u2 dt172 79 12 0) 79 19 (dt172 79 17)) 79 21 (-1)) 84 = dt172 84 := (funext fun _ => u2_ne (by omega)).trans E84230
                refine go_smp (L' := [some (.inr (.inr (some 79))), some (.inl p1), some (.inl p2), some (.inl l75_3)]) (st' := []) (w' := (SH, (u2 (u2 (u2 dt172 79 12 0) 79 19 (dt172 79 17)) 79 21 (-1)))) rfl rfl (s_pf rfl rfl rfl rfl ⟨by omega, by omega⟩) ?_
                refine go_if (k := 2) (p1 := 158) (p2 := 156) (L' := [some (.inr (.inr (some 79))), some (.inl p1), some (.inl p2), some (.inl l75_3)]) (st' := []) (w' := (SH, (u2 (u2 (u2 dt172 79 12 0) 79 19 (dt172 79 17)) 79 21 (-1)))) (fun _ => rfl) (z_ne (a := l75_3) ⟨by omega, by omega⟩) (fun c290 => ?_) (fun c290 => ?_)
                · skip
                  refine go_to (k := 2) (pc' := 160) (L' := [some (.inr (.inr (some 79))), some (.inl p1), some (.inl p2), some (.inl l75_3)]) (st' := [.inl p2, .inr (.inr (some 79))]) (w' := (SH, (u2 (u2 (u2 dt172 79 12 0) 79 19 (dt172 79 17)) 79 21 (-1)))) (fun _ => rfl) ?_
                  refine go_call (Q' := _) rfl rfl rfl rfl rfl (sp_X6_keeps_k1 L xs sio (d + 37) (u2 (u2 (u2 dt172 79 12 0) 79 19 (dt172 79 17)) 79 21 (-1)) hI271 hM_dt172  p2 ⟨by omega, by omega⟩ (by first | trivial | omega | exact hI4 (by omega) (by omega) | exact hI5 (by omega) (by omega)) (by first | trivial | omega | exact hI4 (by omega) (by omega) | exact hI5 (by omega) (by omega)) (by first | trivial | omega | exact hI4 (by omega) (by omega) | exact hI5 (by omega) (by omega)) (by first | trivial | omega | exact hI4 (by omega) (by omega) | exact hI5 (by omega) (by omega))) ?_
                  rintro _ _ ⟨dt292, rfl, hI293, hF294, h291⟩
                  refine ⟨rfl, ?_⟩
                  have hF295 : Fr [79, 80, 82, 83, 84] dt dt292 := Fr_tr hF272 hF294 (by decide)
                  have w296 : dt292 79 2 = (u2 (u2 (u2 dt172 79 12 0) 79 19 (dt172 79 17)) 79 21 (-1)) 79 2 := hF294 79 (by decide) 2
                  have w297 : dt292 79 9 = (u2 (u2 (u2 dt172 79 12 0) 79 19 (dt172 79 17)) 79 21 (-1)) 79 9 := hF294 79 (by decide) 9
                  have w298 : dt292 79 10 = (u2 (u2 (u2 dt172 79 12 0) 79 19 (dt172 79 17)) 79 21 (-1)) 79 10 := hF294 79 (by decide) 10
                  have w299 : dt292 79 11 = (u2 (u2 (u2 dt172 79 12 0) 79 19 (dt172 79 17)) 79 21 (-1)) 79 11 := hF294 79 (by decide) 11
                  have w300 : dt292 79 12 = (u2 (u2 (u2 dt172 79 12 0) 79 19 (dt172 79 17)) 79 21 (-1)) 79 12 := hF294 79 (by decide) 12
                  have w301 : dt292 79 13 = (u2 (u2 (u2 dt172 79 12 0) 79 19 (dt172 79 17)) 79 21 (-1)) 79 13 := hF294 79 (by decide) 13
                  have w302 : dt292 79 14 = (u2 (u2 (u2 dt172 79 12 0) 79 19 (dt172 79 17)) 79 21 (-1)) 79 14 := hF294 79 (by decide) 14
                  have w303 : dt292 79 15 = (u2 (u2 (u2 dt172 79 12 0) 79 19 (dt172 79 17)) 79 21 (-1)) 79 15 := hF294 79 (by decide) 15
                  have w304 : dt292 79 16 = (u2 (u2 (u2 dt172 79 12 0) 79 19 (dt172 79 17)) 79 21 (-1)) 79 16 := hF294 79 (by decide) 16
                  have w305 : dt292 79 20 = (u2 (u2 (u2 dt172 79 12 0) 79 19 (dt172 79 17)) 79 21 (-1)) 79 20 := hF294 79 (by decide) 20
                  have E84306 : dt292 84 = dt172 84 := (funext (hF294 84 (by decide))).trans E84289
                  rcases h291 with ⟨rfl, h291⟩
                  have hM307 : MW (dt292 80) := h291.1
                  obtain ⟨h291_0, h291_1, h291_2, h291_3, h291_4, h291_5, h291_6⟩ := h291
                  have r308 : 0 ≤ dt292 79 10 ∧ dt292 79 10 ≤ 24 := InvC_get hI293 79 10 rfl rfl
                  refine go_ret (k := 3) (r := some (.inl (dt292 79 10))) (w1 := (SH, dt292)) (fun _ => rfl) ?_
                  exact ⟨dt292, rfl, hI293, hF295, ⟨_, rfl, ⟨by omega, by omega⟩, ⟨by first | trivial | omega, by first | trivial | omega, by first | assumption | exact hM, by first | trivial | omega, by first | trivial | omega, by first | trivial | omega, by first | trivial | omega, by first | trivial | omega, by first | trivial | omega⟩⟩⟩
                · exfalso; omega
            · skip
              have r309 : (-2147483648) ≤ dt172 79 14 ∧ dt172 79 14 ≤ 2147483647 := InvC_get hI173 79 14 rfl rfl
              refine go_if (k := 3) (p1 := 123) (p2 := 86) (L' := [some (.inr (.inr (some 79))), some (.inl p1), some (.inl p2), some (.inl l75_3)]) (st' := []) (w' := (SH, dt172)) (fun _ => rfl) (z_eq (a := dt172 79 14) ⟨by omega, by omega⟩) (fun c310 => ?_) (fun c310 => ?_)
              · skip
                refine go_to (k := 2) (pc' := 125) (L' := [some (.inr (.inr (some 79))), some (.inl p1), some (.inl p2), some (.inl l75_3)]) (st' := [.inl 0, .inr (.inr (some 79))]) (w' := (SH, dt172)) (fun _ => rfl) ?_
                have hI311 : InvC (u2 dt172 79 12 0) := InvC_u2 hI173 (lo := 0) (hi := 500) rfl rfl rfl (by omega) (by omega)
                have hF312 : Fr [79, 80, 82, 83, 84] dt (u2 dt172 79 12 0) := Fr_u2 hF174 (by decide)
                have w313 : (u2 dt172 79 12 0) 79 2 = dt172 79 2 := rfl
                have w314 : (u2 dt172 79 12 0) 79 9 = dt172 79 9 := rfl
                have w315 : (u2 dt172 79 12 0) 79 10 = dt172 79 10 := rfl
                have w316 : (u2 dt172 79 12 0) 79 11 = dt172 79 11 := rfl
                have w317 : (u2 dt172 79 12 0) 79 12 = 0 := rfl
                have w318 : (u2 dt172 79 12 0) 79 13 = dt172 79 13 := rfl
                have w319 : (u2 dt172 79 12 0) 79 14 = dt172 79 14 := rfl
                have w320 : (u2 dt172 79 12 0) 79 15 = dt172 79 15 := rfl
                have w321 : (u2 dt172 79 12 0) 79 16 = dt172 79 16 := rfl
                have w322 : (u2 dt172 79 12 0) 79 20 = dt172 79 20 := rfl
                have w323 : (u2 dt172 79 12 0) 80 0 = dt172 80 0 := rfl
                have w324 : (u2 dt172 79 12 0) 80 1 = dt172 80 1 := rfl
                have w325 : (u2 dt172 79 12 0) 80 2 = dt172 80 2 := rfl
                have w326 : (u2 dt172 79 12 0) 80 3 = dt172 80 3 := rfl
                have w327 : (u2 dt172 79 12 0) 80 4 = dt172 80 4 := rfl
                have w328 : (u2 dt172 79 12 0) 80 5 = dt172 80 5 := rfl
                have E84329 : (u2 dt172 79 12 0) 84 = dt172 84 := funext fun _ => u2_ne (by omega)
                refine go_smp (L' := [some (.inr (.inr (some 79))), some (.inl p1), some (.inl p2), some (.inl l75_3)]) (st' := []) (w' := (SH, (u2 dt172 79 12 0))) rfl rfl (s_pf rfl rfl rfl rfl ⟨by omega, by omega⟩) ?_
                have r330 : (-2147483648) ≤ dt172 79 17 ∧ dt172 79 17 ≤ 2147483647 := InvC_get hI173 79 17 rfl rfl
                refine go_to (k := 3) (pc' := 133) (L' := [some (.inr (.inr (some 79))), some (.inl p1), some (.inl p2), some (.inl l75_3)]) (st' := [.inl (dt172 79 17), .inr (.inr (some 79))]) (w' := (SH, (u2 dt172 79 12 0))) (fun _ => rfl) ?_
                have hI331 : InvC (u2 (u2 dt172 79 12 0) 79 19 (dt172 79 17)) := InvC_u2 hI311 (lo := -2147483648) (hi := 2147483647) rfl rfl rfl (by omega) (by omega)
                have hF332 : Fr [79, 80, 82, 83, 84] dt (u2 (u2 dt172 79 12 0) 79 19 (dt172 79 17)) := Fr_u2 hF312 (by decide)
                have w333 : (u2 (u2 dt172 79 12 0) 79 19 (dt172 79 17)) 79 2 = (u2 dt172 79 12 0) 79 2 := rfl
                have w334 : (u2 (u2 dt172 79 12 0) 79 19 (dt172 79 17)) 79 9 = (u2 dt172 79 12 0) 79 9 := rfl
                have w335 : (u2 (u2 dt172 79 12 0) 79 19 (dt172 79 17)) 79 10 = (u2 dt172 79 12 0) 79 10 := rfl
                have w336 : (u2 (u2 dt172 79 12 0) 79 19 (dt172 79 17)) 79 11 = (u2 dt172 79 12 0) 79 11 := rfl
                have w337 : (u2 (u2 dt172 79 12 0) 79 19 (dt172 79 17)) 79 12 = (u2 dt172 79 12 0) 79 12 := rfl
                have w338 : (u2 (u2 dt172 79 12 0) 79 19 (dt172 79 17)) 79 13 = (u2 dt172 79 12 0) 79 13 := rfl
                have w339 : (u2 (u2 dt172 79 12 0) 79 19 (dt172 79 17)) 79 14 = (u2 dt172 79 12 0) 79 14 := rfl
                have w340 : (u2 (u2 dt172 79 12 0) 79 19 (dt172 79 17)) 79 15 = (u2 dt172 79 12 0) 79 15 := rfl
                have w341 : (u2 (u2 dt172 79 12 0) 79 19 (dt172 79 17)) 79 16 = (u2 dt172 79 12 0) 79 16 := rfl
                have w342 : (u2 (u2 dt172 79 12 0) 79 19 (dt172 79 17)) 79 20 = (u2 dt172 79 12 0) 79 20 := rfl
                have w343 : (u2 (u2 dt172 79 12 0) 79 19 (dt172 79 17)) 80 0 = (u2 dt172 79 12 0) 80 0 := rfl
                have w344 : (u2 (u2 dt172 79 12 0) 79 19 (dt172 79 17)) 80 1 = (u2 dt172 79 12 0) 80 1 := rfl
                have w345 : (u2 (u2 dt172 79 12 0) 79 19 (dt172 79 17)) 80 2 = (u2 dt172 79 12 0) 80 2 := rfl
                have w346 : (u2 (u2 dt172 79 12 0) 79 19 (dt172 79 17)) 80 3 = (u2 dt172 79 12 0) 80 3 := rfl
                have w347 : (u2 (u2 dt172 79 12 0) 79 19 (dt172 79 17)) 80 4 = (u2 dt172 79 12 0) 80 4 := rfl
                have w348 : (u2 (u2 dt172 79 12 0) 79 19 (dt172 79 17)) 80 5 = (u2 dt172 79 12 0) 80 5 := rfl
                have E84349 : (u2 (u2 dt172 79 12 0) 79 19 (dt172 79 17)) 84 = dt172 84 := (funext fun _ => u2_ne (by omega)).trans E84329
                refine go_smp (L' := [some (.inr (.inr (some 79))), some (.inl p1), some (.inl p2), some (.inl l75_3)]) (st' := []) (w' := (SH, (u2 (u2 dt172 79 12 0) 79 19 (dt172 79 17)))) rfl rfl (s_pf rfl rfl rfl rfl ⟨by omega, by omega⟩) ?_
                refine go_if (k := 3) (p1 := 145) (p2 := 141) (L' := [some (.inr (.inr (some 79))), some (.inl p1), some (.inl p2), some (.inl l75_3)]) (st' := [.inr (.inr (some 79))]) (w' := (SH, (u2 (u2 dt172 79 12 0) 79 19 (dt172 79 17)))) (fun _ => rfl) (z_eq (a := l75_3) ⟨by omega, by omega⟩) (fun c350 => ?_) (fun c350 => ?_)
                · exfalso; omega
                · skip
                  refine go_to (k := 2) (pc' := 149) (L' := [some (.inr (.inr (some 79))), some (.inl p1), some (.inl p2), some (.inl l75_3)]) (st' := [.inl (-1), .inr (.inr (some 79))]) (w' := (SH, (u2 (u2 dt172 79 12 0) 79 19 (dt172 79 17)))) (fun _ => rfl) ?_
                  have hI351 : InvC (u2 (u2 (u2 dt172 79 12 0) 79 19 (dt172 79 17)) 79 21 (-1)) := InvC_u2 hI331 (lo := -2147483648) (hi := 2147483647) rfl rfl rfl (by omega) (by omega)
                  have hF352 : Fr [79, 80, 82, 83, 84] dt (u2 (u2 (u2 dt172 79 12 0) 79 19 (dt172 79 17)) 79 21 (-1)) := Fr_u2 hF332 (by decide)
                  have w353 : (u2 (u2 (u2 dt172 79 12 0) 79 19 (dt172 79 17)) 79 21 (-1)) 79 2 = (u2 (u2 dt172 79 12 0) 79 19 (dt172 79 17)) 79 2 := rfl
                  have w354 : (u2 (u2 (u2 dt172 79 12 0) 79 19 (dt172 79 17)) 79 21 (-1)) 79 9 = (u2 (u2 dt172 79 12 0) 79 19 (dt172 79 17)) 79 9 := rfl
                  have w355 : (u2 (u2 (u2 dt172 79 12 0) 79 19 (dt172 79 17)) 79 21 (-1)) 79 10 = (u2 (u2 dt172 79 12 0) 79 19 (dt172 79 17)) 79 10 := rfl
                  have w356 : (u2 (u2 (u2 dt172 79 12 0) 79 19 (dt172 79 17)) 79 21 (-1)) 79 11 = (u2 (u2 dt172 79 12 0) 79 19 (dt172 79 17)) 79 11 := rfl
                  have w357 : (u2 (u2 (u2 dt172 79 12 0) 79 19 (dt172 79 17)) 79 21 (-1)) 79 12 = (u2 (u2 dt172 79 12 0) 79 19 (dt172 79 17)) 79 12 := rfl
                  have w358 : (u2 (u2 (u2 dt172 79 12 0) 79 19 (dt172 79 17)) 79 21 (-1)) 79 13 = (u2 (u2 dt172 79 12 0) 79 19 (dt172 79 17)) 79 13 := rfl
                  have w359 : (u2 (u2 (u2 dt172 79 12 0) 79 19 (dt172 79 17)) 79 21 (-1)) 79 14 = (u2 (u2 dt172 79 12 0) 79 19 (dt172 79 17)) 79 14 := rfl
                  have w360 : (u2 (u2 (u2 dt172 79 12 0) 79 19 (dt172 79 17)) 79 21 (-1)) 79 15 = (u2 (u2 dt172 79 12 0) 79 19 (dt172 79 17)) 79 15 := rfl
                  have w361 : (u2 (u2 (u2 dt172 79 12 0) 79 19 (dt172 79 17)) 79 21 (-1)) 79 16 = (u2 (u2 dt172 79 12 0) 79 19 (dt172 79 17)) 79 16 := rfl
                  have w362 : (u2 (u2 (u2 dt172 79 12 0) 79 19 (dt172 79 17)) 79 21 (-1)) 79 20 = (u2 (u2 dt172 79 12 0) 79 19 (dt172 79 17)) 79 20 := rfl
                  have w363 : (u2 (u2 (u2 dt172 79 12 0) 79 19 (dt172 79 17)) 79 21 (-1)) 80 0 = (u2 (u2 dt172 79 12 0) 79 19 (dt172 79 17)) 80 0 := rfl
                  have w364 : (u2 (u2 (u2 dt172 79 12 0) 79 19 (dt172 79 17)) 79 21 (-1)) 80 1 = (u2 (u2 dt172 79 12 0) 79 19 (dt172 79 17)) 80 1 := rfl
                  have w365 : (u2 (u2 (u2 dt172 79 12 0) 79 19 (dt172 79 17)) 79 21 (-1)) 80 2 = (u2 (u2 dt172 79 12 0) 79 19 (dt172 79 17)) 80 2 := rfl
                  have w366 : (u2 (u2 (u2 dt172 79 12 0) 79 19 (dt172 79 17)) 79 21 (-1)) 80 3 = (u2 (u2 dt172 79 12 0) 79 19 (dt172 79 17)) 80 3 := rfl
                  have w367 : (u2 (u2 (u2 dt172 79 12 0) 79 19 (dt172 79 17)) 79 21 (-1)) 80 4 = (u2 (u2 dt172 79 12 0) 79 19 (dt172 79 17)) 80 4 := rfl
                  have w368 : (u2 (u2 (u2 dt172 79 12 0) 79 19 (dt172 79 17)) 79 21 (-1)) 80 5 = (u2 (u2 dt172 79 12 0) 79 19 (dt172 79 17)) 80 5 := rfl
                  have E84369 : (u2 (u2 (u2 dt172 79 12 0) 79 19 (dt172 79 17)) 79 21 (-1)) 84 = dt172 84 := (funext fun _ => u2_ne (by omega)).trans E84349
                  refine go_smp (L' := [some (.inr (.inr (some 79))), some (.inl p1), some (.inl p2), some (.inl l75_3)]) (st' := []) (w' := (SH, (u2 (u2 (u2 dt172 79 12 0) 79 19 (dt172 79 17)) 79 21 (-1)))) rfl rfl (s_pf rfl rfl rfl rfl ⟨by omega, by omega⟩) ?_
                  refine go_if (k := 2) (p1 := 158) (p2 := 156) (L' := [some (.inr (.inr (some 79))), some (.inl p1), some (.inl p2), some (.inl l75_3)]) (st' := []) (w' := (SH, (u2 (u2 (u2 dt172 79 12 0) 79 19 (dt172 79 17)) 79 21 (-1)))) (fun _ => rfl) (z_ne (a := l75_3) ⟨by omega, by omega⟩) (fun c370 => ?_) (fun c370 => ?_)
                  · skip
                    refine go_to (k := 2) (pc' := 160) (L' := [some (.inr (.inr (some 79))), some (.inl p1), some (.inl p2), some (.inl l75_3)]) (st' := [.inl p2, .inr (.inr (some 79))]) (w' := (SH, (u2 (u2 (u2 dt172 79 12 0) 79 19 (dt172 79 17)) 79 21 (-1)))) (fun _ => rfl) ?_
                    refine go_call (Q' := _) rfl rfl rfl rfl rfl (sp_X6_keeps_k1 L xs sio (d + 37) (u2 (u2 (u2 dt172 79 12 0) 79 19 (dt172 79 17)) 79 21 (-1)) hI351 hM_dt172  p2 ⟨by omega, by omega⟩ (by first | trivial | omega | exact hI4 (by omega) (by omega) | exact hI5 (by omega) (by omega)) (by first | trivial | omega | exact hI4 (by omega) (by omega) | exact hI5 (by omega) (by omega)) (by first | trivial | omega | exact hI4 (by omega) (by omega) | exact hI5 (by omega) (by omega)) (by first | trivial | omega | exact hI4 (by omega) (by omega) | exact hI5 (by omega) (by omega))) ?_
                    rintro _ _ ⟨dt372, rfl, hI373, hF374, h371⟩
                    refine ⟨rfl, ?_⟩
                    have hF375 : Fr [79, 80, 82, 83, 84] dt dt372 := Fr_tr hF352 hF374 (by decide)
                    have w376 : dt372 79 2 = (u2 (u2 (u2 dt172 79 12 0) 79 19 (dt172 79 17)) 79 21 (-1)) 79 2 := hF374 79 (by decide) 2
                    have w377 : dt372 79 9 = (u2 (u2 (u2 dt172 79 12 0) 79 19 (dt172 79 17)) 79 21 (-1)) 79 9 := hF374 79 (by decide) 9
                    have w378 : dt372 79 10 = (u2 (u2 (u2 dt172 79 12 0) 79 19 (dt172 79 17)) 79 21 (-1)) 79 10 := hF374 79 (by decide) 10
                    have w379 : dt372 79 11 = (u2 (u2 (u2 dt172 79 12 0) 79 19 (dt172 79 17)) 79 21 (-1)) 79 11 := hF374 79 (by decide) 11
                    have w380 : dt372 79 12 = (u2 (u2 (u2 dt172 79 12 0) 79 19 (dt172 79 17)) 79 21 (-1)) 79 12 := hF374 79 (by decide) 12
                    have w381 : dt372 79 13 = (u2 (u2 (u2 dt172 79 12 0) 79 19 (dt172 79 17)) 79 21 (-1)) 79 13 := hF374 79 (by decide) 13
                    have w382 : dt372 79 14 = (u2 (u2 (u2 dt172 79 12 0) 79 19 (dt172 79 17)) 79 21 (-1)) 79 14 := hF374 79 (by decide) 14
                    have w383 : dt372 79 15 = (u2 (u2 (u2 dt172 79 12 0) 79 19 (dt172 79 17)) 79 21 (-1)) 79 15 := hF374 79 (by decide) 15
                    have w384 : dt372 79 16 = (u2 (u2 (u2 dt172 79 12 0) 79 19 (dt172 79 17)) 79 21 (-1)) 79 16 := hF374 79 (by decide) 16
                    have w385 : dt372 79 20 = (u2 (u2 (u2 dt172 79 12 0) 79 19 (dt172 79 17)) 79 21 (-1)) 79 20 := hF374 79 (by decide) 20
                    have E84386 : dt372 84 = dt172 84 := (funext (hF374 84 (by decide))).trans E84369
                    rcases h371 with ⟨rfl, h371⟩
                    have hM387 : MW (dt372 80) := h371.1
                    obtain ⟨h371_0, h371_1, h371_2, h371_3, h371_4, h371_5, h371_6⟩ := h371
                    have r388 : 0 ≤ dt372 79 10 ∧ dt372 79 10 ≤ 24 := InvC_get hI373 79 10 rfl rfl
                    refine go_ret (k := 3) (r := some (.inl (dt372 79 10))) (w1 := (SH, dt372)) (fun _ => rfl) ?_
                    exact ⟨dt372, rfl, hI373, hF375, ⟨_, rfl, ⟨by omega, by omega⟩, ⟨by first | trivial | omega, by first | trivial | omega, by first | assumption | exact hM, by first | trivial | omega, by first | trivial | omega, by first | trivial | omega, by first | trivial | omega, by first | trivial | omega, by first | trivial | omega⟩⟩⟩
                  · exfalso; omega
              · skip
                refine go_if (k := 2) (p1 := 97) (p2 := 90) (L' := [some (.inr (.inr (some 79))), some (.inl p1), some (.inl p2), some (.inl l75_3)]) (st' := []) (w' := (SH, dt172)) (fun _ => rfl) (z_ne (a := p1) ⟨by omega, by omega⟩) (fun c389 => ?_) (fun c389 => ?_)
                · skip
                  refine go_to (k := 1) (pc' := 98) (L' := [some (.inr (.inr (some 79))), some (.inl p1), some (.inl p2), some (.inl l75_3)]) (st' := [.inr (.inr (some 79))]) (w' := (SH, dt172)) (fun _ => rfl) ?_
                  refine go_call (Q' := _) rfl rfl rfl rfl rfl (sp_X6_aLine L xs sio (d + 0) dt172 hI173   (by first | trivial | omega | exact hI4 (by omega) (by omega) | exact hI5 (by omega) (by omega)) (by first | trivial | omega | exact hI4 (by omega) (by omega) | exact hI5 (by omega) (by omega)) (by first | trivial | omega | exact hI4 (by omega) (by omega) | exact hI5 (by omega) (by omega))) ?_
                  rintro _ _ ⟨dt391, rfl, hI392, hF393, h390⟩
                  refine ⟨rfl, ?_⟩
                  have hF394 : Fr [79, 80, 82, 83, 84] dt dt391 := Fr_tr hF174 hF393 (by decide)
                  have hM395 : MW (dt391 80) := MW_fr hM_dt172 hF393 (by decide)
                  have w396 : dt391 80 0 = dt172 80 0 := hF393 80 (by decide) 0
                  have w397 : dt391 80 1 = dt172 80 1 := hF393 80 (by decide) 1
                  have w398 : dt391 80 2 = dt172 80 2 := hF393 80 (by decide) 2
                  have w399 : dt391 80 3 = dt172 80 3 := hF393 80 (by decide) 3
                  have w400 : dt391 80 4 = dt172 80 4 := hF393 80 (by decide) 4
                  have w401 : dt391 80 5 = dt172 80 5 := hF393 80 (by decide) 5
                  rcases h390 with ⟨rfl, h390⟩ | ⟨rfl, h390⟩
                  · skip
                    obtain ⟨h390_0, h390_1, h390_2⟩ := h390
                    have r402 : 0 ≤ dt391 79 10 ∧ dt391 79 10 ≤ 24 := InvC_get hI392 79 10 rfl rfl
                    refine go_to (k := 8) (pc' := 117) (L' := [some (.inr (.inr (some 79))), some (.inl p1), some (.inl p2), some (.inl 0)]) (st' := [.inl ((dt391 79 10) + 0), .inr (.inr (some 79))]) (w' := (SH, dt391)) (fun _ => rfl) ?_
                    have hI403 : InvC (u2 dt391 79 10 ((dt391 79 10) + 0)) := InvC_u2 hI392 (lo := 0) (hi := 24) rfl rfl rfl (by omega) (by omega)
                    have hF404 : Fr [79, 80, 82, 83, 84] dt (u2 dt391 79 10 ((dt391 79 10) + 0)) := Fr_u2 hF394 (by decide)
                    have w405 : (u2 dt391 79 10 ((dt391 79 10) + 0)) 79 2 = dt391 79 2 := rfl
                    have w406 : (u2 dt391 79 10 ((dt391 79 10) + 0)) 79 9 = dt391 79 9 := rfl
                    have w407 : (u2 dt391 79 10 ((dt391 79 10) + 0)) 79 10 = (dt391 79 10) + 0 := rfl
                    have w408 : (u2 dt391 79 10 ((dt391 79 10) + 0)) 79 11 = dt391 79 11 := rfl
                    have w409 : (u2 dt391 79 10 ((dt391 79 10) + 0)) 79 12 = dt391 79 12 := rfl
                    have w410 : (u2 dt391 79 10 ((dt391 79 10) + 0)) 79 13 = dt391 79 13 := rfl
                    have w411 : (u2 dt391 79 10 ((dt391 79 10) + 0)) 79 14 = dt391 79 14 := rfl
                    have w412 : (u2 dt391 79 10 ((dt391 79 10) + 0)) 79 15 = dt391 79 15 := rfl
                    have w413 : (u2 dt391 79 10 ((dt391 79 10) + 0)) 79 16 = dt391 79 16 := rfl
                    have w414 : (u2 dt391 79 10 ((dt391 79 10) + 0)) 79 20 = dt391 79 20 := rfl
                    have w415 : (u2 dt391 79 10 ((dt391 79 10) + 0)) 80 0 = dt391 80 0 := rfl
                    have w416 : (u2 dt391 79 10 ((dt391 79 10) + 0)) 80 1 = dt391 80 1 := rfl
                    have w417 : (u2 dt391 79 10 ((dt391 79 10) + 0)) 80 2 = dt391 80 2 := rfl
                    have w418 : (u2 dt391 79 10 ((dt391 79 10) + 0)) 80 3 = dt391 80 3 := rfl
                    have w419 : (u2 dt391 79 10 ((dt391 79 10) + 0)) 80 4 = dt391 80 4 := rfl
                    have w420 : (u2 dt391 79 10 ((dt391 79 10) + 0)) 80 5 = dt391 80 5 := rfl
                    have E84421 : (u2 dt391 79 10 ((dt391 79 10) + 0)) 84 = dt391 84 := funext fun _ => u2_ne (by omega)
                    refine go_smp (L' := [some (.inr (.inr (some 79))), some (.inl p1), some (.inl p2), some (.inl 0)]) (st' := []) (w' := (SH, (u2 dt391 79 10 ((dt391 79 10) + 0)))) rfl rfl (s_pf rfl rfl rfl rfl ⟨by omega, by omega⟩) ?_
                    refine go_to (k := 1) (pc' := 75) (L' := [some (.inr (.inr (some 79))), some (.inl p1), some (.inl p2), some (.inl 0)]) (st' := []) (w' := (SH, (u2 dt391 79 10 ((dt391 79 10) + 0)))) (fun _ => rfl) ?_
                    exact GO.le (ih_loop190 0 (u2 dt391 79 10 ((dt391 79 10) + 0)) hI403 hF404 hM395 (by omega) (by omega) (by omega) (by omega) (by omega) (by intro _ hz; first | omega | exact ARW_0 (by omega) | exact ARW_s (hI4 (by omega) hz) (by omega) (by assumption) (by assumption) (by omega)) (by intro _ hz; first | omega | exact LRW_0 (by omega) | exact LRW_s (hI5 (by omega) hz) (by omega) (by assumption) (by assumption) (by assumption) (by omega) (by omega)) (by omega) (by omega) (by omega) (by omega) (by omega) (by omega) (by omega) (by omega) (by omega)) ⟨.inl rfl, .inl rfl, .inl rfl, .inl rfl, trivial⟩
                  · skip
                    obtain ⟨h390_0, h390_1, h390_2, h390_3, h390_4, h390_5, h390_6, h390_7, h390_8, h390_9, h390_10, h390_11, h390_12⟩ := h390
                    have r422 : 0 ≤ dt391 79 10 ∧ dt391 79 10 ≤ 24 := InvC_get hI392 79 10 rfl rfl
                    refine go_to (k := 9) (pc' := 117) (L' := [some (.inr (.inr (some 79))), some (.inl p1), some (.inl p2), some (.inl 1)]) (st' := [.inl ((dt391 79 10) + 1), .inr (.inr (some 79))]) (w' := (SH, dt391)) (fun _ => rfl) ?_
                    have hI423 : InvC (u2 dt391 79 10 ((dt391 79 10) + 1)) := InvC_u2 hI392 (lo := 0) (hi := 24) rfl rfl rfl (by omega) (by omega)
                    have hF424 : Fr [79, 80, 82, 83, 84] dt (u2 dt391 79 10 ((dt391 79 10) + 1)) := Fr_u2 hF394 (by decide)
                    have w425 : (u2 dt391 79 10 ((dt391 79 10) + 1)) 79 2 = dt391 79 2 := rfl
                    have w426 : (u2 dt391 79 10 ((dt391 79 10) + 1)) 79 9 = dt391 79 9 := rfl
                    have w427 : (u2 dt391 79 10 ((dt391 79 10) + 1)) 79 10 = (dt391 79 10) + 1 := rfl
                    have w428 : (u2 dt391 79 10 ((dt391 79 10) + 1)) 79 11 = dt391 79 11 := rfl
                    have w429 : (u2 dt391 79 10 ((dt391 79 10) + 1)) 79 12 = dt391 79 12 := rfl
                    have w430 : (u2 dt391 79 10 ((dt391 79 10) + 1)) 79 13 = dt391 79 13 := rfl
                    have w431 : (u2 dt391 79 10 ((dt391 79 10) + 1)) 79 14 = dt391 79 14 := rfl
                    have w432 : (u2 dt391 79 10 ((dt391 79 10) + 1)) 79 15 = dt391 79 15 := rfl
                    have w433 : (u2 dt391 79 10 ((dt391 79 10) + 1)) 79 16 = dt391 79 16 := rfl
                    have w434 : (u2 dt391 79 10 ((dt391 79 10) + 1)) 79 20 = dt391 79 20 := rfl
                    have w435 : (u2 dt391 79 10 ((dt391 79 10) + 1)) 80 0 = dt391 80 0 := rfl
                    have w436 : (u2 dt391 79 10 ((dt391 79 10) + 1)) 80 1 = dt391 80 1 := rfl
                    have w437 : (u2 dt391 79 10 ((dt391 79 10) + 1)) 80 2 = dt391 80 2 := rfl
                    have w438 : (u2 dt391 79 10 ((dt391 79 10) + 1)) 80 3 = dt391 80 3 := rfl
                    have w439 : (u2 dt391 79 10 ((dt391 79 10) + 1)) 80 4 = dt391 80 4 := rfl
                    have w440 : (u2 dt391 79 10 ((dt391 79 10) + 1)) 80 5 = dt391 80 5 := rfl
                    have E84441 : (u2 dt391 79 10 ((dt391 79 10) + 1)) 84 = dt391 84 := funext fun _ => u2_ne (by omega)
                    refine go_smp (L' := [some (.inr (.inr (some 79))), some (.inl p1), some (.inl p2), some (.inl 1)]) (st' := []) (w' := (SH, (u2 dt391 79 10 ((dt391 79 10) + 1)))) rfl rfl (s_pf rfl rfl rfl rfl ⟨by omega, by omega⟩) ?_
                    refine go_to (k := 1) (pc' := 75) (L' := [some (.inr (.inr (some 79))), some (.inl p1), some (.inl p2), some (.inl 1)]) (st' := []) (w' := (SH, (u2 dt391 79 10 ((dt391 79 10) + 1)))) (fun _ => rfl) ?_
                    exact GO.le (ih_loop190 1 (u2 dt391 79 10 ((dt391 79 10) + 1)) hI423 hF424 hM395 (by omega) (by omega) (by omega) (by omega) (by omega) (by intro _ hz; first | omega | exact ARW_0 (by omega) | exact ARW_s (hI4 (by omega) hz) (by omega) (by assumption) (by assumption) (by omega)) (by intro _ hz; first | omega | exact LRW_0 (by omega) | exact LRW_s (hI5 (by omega) hz) (by omega) (by assumption) (by assumption) (by assumption) (by omega) (by omega)) (by omega) (by omega) (by omega) (by omega) (by omega) (by omega) (by omega) (by omega) (by omega)) ⟨.inl rfl, .inl rfl, .inl rfl, .inl rfl, trivial⟩
                · exfalso; omega
        exact GO.le (loop190 _ 1 dt103 hI104 hF106 hM107 (by omega) (by omega) (by omega) (by omega) (by omega) (by intro _ hz; first | omega | exact ARW_0 (by omega) | exact ARW_s (hI4 (by omega) hz) (by omega) (by assumption) (by assumption) (by omega)) (by intro _ hz; first | omega | exact LRW_0 (by omega) | exact LRW_s (hI5 (by omega) hz) (by omega) (by assumption) (by assumption) (by assumption) (by omega) (by omega)) (by omega) (by omega) (by omega) (by omega) (by omega) (by omega) (by omega) (by omega) (Nat.lt_succ_self _)) ⟨.inl rfl, .inl rfl, .inl rfl, .inl rfl, trivial⟩
      · skip
        refine go_to (k := 3) (pc' := 34) (L' := [some (.inr (.inr (some 79))), some (.inl p1), some (.inl p2), none]) (st' := [.inl 0, .inr (.inr (some 79))]) (w' := (SH, (u2 dt 79 17 0))) (fun _ => rfl) ?_
        have hI442 : InvC (u2 (u2 dt 79 17 0) 79 12 0) := InvC_u2 hI4 (lo := 0) (hi := 500) rfl rfl rfl (by omega) (by omega)
        have hF443 : Fr [79, 80, 82, 83, 84] dt (u2 (u2 dt 79 17 0) 79 12 0) := Fr_u2 hF5 (by decide)
        have w444 : (u2 (u2 dt 79 17 0) 79 12 0) 79 2 = (u2 dt 79 17 0) 79 2 := rfl
        have w445 : (u2 (u2 dt 79 17 0) 79 12 0) 79 9 = (u2 dt 79 17 0) 79 9 := rfl
        have w446 : (u2 (u2 dt 79 17 0) 79 12 0) 79 10 = (u2 dt 79 17 0) 79 10 := rfl
        have w447 : (u2 (u2 dt 79 17 0) 79 12 0) 79 11 = (u2 dt 79 17 0) 79 11 := rfl
        have w448 : (u2 (u2 dt 79 17 0) 79 12 0) 79 12 = 0 := rfl
        have w449 : (u2 (u2 dt 79 17 0) 79 12 0) 79 13 = (u2 dt 79 17 0) 79 13 := rfl
        have w450 : (u2 (u2 dt 79 17 0) 79 12 0) 79 14 = (u2 dt 79 17 0) 79 14 := rfl
        have w451 : (u2 (u2 dt 79 17 0) 79 12 0) 79 15 = (u2 dt 79 17 0) 79 15 := rfl
        have w452 : (u2 (u2 dt 79 17 0) 79 12 0) 79 16 = (u2 dt 79 17 0) 79 16 := rfl
        have w453 : (u2 (u2 dt 79 17 0) 79 12 0) 79 20 = (u2 dt 79 17 0) 79 20 := rfl
        have w454 : (u2 (u2 dt 79 17 0) 79 12 0) 80 0 = (u2 dt 79 17 0) 80 0 := rfl
        have w455 : (u2 (u2 dt 79 17 0) 79 12 0) 80 1 = (u2 dt 79 17 0) 80 1 := rfl
        have w456 : (u2 (u2 dt 79 17 0) 79 12 0) 80 2 = (u2 dt 79 17 0) 80 2 := rfl
        have w457 : (u2 (u2 dt 79 17 0) 79 12 0) 80 3 = (u2 dt 79 17 0) 80 3 := rfl
        have w458 : (u2 (u2 dt 79 17 0) 79 12 0) 80 4 = (u2 dt 79 17 0) 80 4 := rfl
        have w459 : (u2 (u2 dt 79 17 0) 79 12 0) 80 5 = (u2 dt 79 17 0) 80 5 := rfl
        have E84460 : (u2 (u2 dt 79 17 0) 79 12 0) 84 = dt 84 := (funext fun _ => u2_ne (by omega)).trans E8422
        refine go_smp (L' := [some (.inr (.inr (some 79))), some (.inl p1), some (.inl p2), none]) (st' := []) (w' := (SH, (u2 (u2 dt 79 17 0) 79 12 0))) rfl rfl (s_pf rfl rfl rfl rfl ⟨by omega, by omega⟩) ?_
        refine go_to (k := 2) (pc' := 39) (L' := [some (.inr (.inr (some 79))), some (.inl p1), some (.inl p2), none]) (st' := [.inl 0, .inr (.inr (some 79))]) (w' := (SH, (u2 (u2 dt 79 17 0) 79 12 0))) (fun _ => rfl) ?_
        have hI461 : InvC (u2 (u2 (u2 dt 79 17 0) 79 12 0) 79 19 0) := InvC_u2 hI442 (lo := -2147483648) (hi := 2147483647) rfl rfl rfl (by omega) (by omega)
        have hF462 : Fr [79, 80, 82, 83, 84] dt (u2 (u2 (u2 dt 79 17 0) 79 12 0) 79 19 0) := Fr_u2 hF443 (by decide)
        have w463 : (u2 (u2 (u2 dt 79 17 0) 79 12 0) 79 19 0) 79 2 = (u2 (u2 dt 79 17 0) 79 12 0) 79 2 := rfl
        have w464 : (u2 (u2 (u2 dt 79 17 0) 79 12 0) 79 19 0) 79 9 = (u2 (u2 dt 79 17 0) 79 12 0) 79 9 := rfl
        have w465 : (u2 (u2 (u2 dt 79 17 0) 79 12 0) 79 19 0) 79 10 = (u2 (u2 dt 79 17 0) 79 12 0) 79 10 := rfl
        have w466 : (u2 (u2 (u2 dt 79 17 0) 79 12 0) 79 19 0) 79 11 = (u2 (u2 dt 79 17 0) 79 12 0) 79 11 := rfl
        have w467 : (u2 (u2 (u2 dt 79 17 0) 79 12 0) 79 19 0) 79 12 = (u2 (u2 dt 79 17 0) 79 12 0) 79 12 := rfl
        have w468 : (u2 (u2 (u2 dt 79 17 0) 79 12 0) 79 19 0) 79 13 = (u2 (u2 dt 79 17 0) 79 12 0) 79 13 := rfl
        have w469 : (u2 (u2 (u2 dt 79 17 0) 79 12 0) 79 19 0) 79 14 = (u2 (u2 dt 79 17 0) 79 12 0) 79 14 := rfl
        have w470 : (u2 (u2 (u2 dt 79 17 0) 79 12 0) 79 19 0) 79 15 = (u2 (u2 dt 79 17 0) 79 12 0) 79 15 := rfl
        have w471 : (u2 (u2 (u2 dt 79 17 0) 79 12 0) 79 19 0) 79 16 = (u2 (u2 dt 79 17 0) 79 12 0) 79 16 := rfl
        have w472 : (u2 (u2 (u2 dt 79 17 0) 79 12 0) 79 19 0) 79 20 = (u2 (u2 dt 79 17 0) 79 12 0) 79 20 := rfl
        have w473 : (u2 (u2 (u2 dt 79 17 0) 79 12 0) 79 19 0) 80 0 = (u2 (u2 dt 79 17 0) 79 12 0) 80 0 := rfl
        have w474 : (u2 (u2 (u2 dt 79 17 0) 79 12 0) 79 19 0) 80 1 = (u2 (u2 dt 79 17 0) 79 12 0) 80 1 := rfl
        have w475 : (u2 (u2 (u2 dt 79 17 0) 79 12 0) 79 19 0) 80 2 = (u2 (u2 dt 79 17 0) 79 12 0) 80 2 := rfl
        have w476 : (u2 (u2 (u2 dt 79 17 0) 79 12 0) 79 19 0) 80 3 = (u2 (u2 dt 79 17 0) 79 12 0) 80 3 := rfl
        have w477 : (u2 (u2 (u2 dt 79 17 0) 79 12 0) 79 19 0) 80 4 = (u2 (u2 dt 79 17 0) 79 12 0) 80 4 := rfl
        have w478 : (u2 (u2 (u2 dt 79 17 0) 79 12 0) 79 19 0) 80 5 = (u2 (u2 dt 79 17 0) 79 12 0) 80 5 := rfl
        have E84479 : (u2 (u2 (u2 dt 79 17 0) 79 12 0) 79 19 0) 84 = dt 84 := (funext fun _ => u2_ne (by omega)).trans E84460
        refine go_smp (L' := [some (.inr (.inr (some 79))), some (.inl p1), some (.inl p2), none]) (st' := []) (w' := (SH, (u2 (u2 (u2 dt 79 17 0) 79 12 0) 79 19 0))) rfl rfl (s_pf rfl rfl rfl rfl ⟨by omega, by omega⟩) ?_
        refine go_to (k := 2) (pc' := 44) (L' := [some (.inr (.inr (some 79))), some (.inl p1), some (.inl p2), none]) (st' := [.inl (-1), .inr (.inr (some 79))]) (w' := (SH, (u2 (u2 (u2 dt 79 17 0) 79 12 0) 79 19 0))) (fun _ => rfl) ?_
        have hI480 : InvC (u2 (u2 (u2 (u2 dt 79 17 0) 79 12 0) 79 19 0) 79 21 (-1)) := InvC_u2 hI461 (lo := -2147483648) (hi := 2147483647) rfl rfl rfl (by omega) (by omega)
        have hF481 : Fr [79, 80, 82, 83, 84] dt (u2 (u2 (u2 (u2 dt 79 17 0) 79 12 0) 79 19 0) 79 21 (-1)) := Fr_u2 hF462 (by decide)
        have w482 : (u2 (u2 (u2 (u2 dt 79 17 0) 79 12 0) 79 19 0) 79 21 (-1)) 79 2 = (u2 (u2 (u2 dt 79 17 0) 79 12 0) 79 19 0) 79 2 := rfl
        have w483 : (u2 (u2 (u2 (u2 dt 79 17 0) 79 12 0) 79 19 0) 79 21 (-1)) 79 9 = (u2 (u2 (u2 dt 79 17 0) 79 12 0) 79 19 0) 79 9 := rfl
        have w484 : (u2 (u2 (u2 (u2 dt 79 17 0) 79 12 0) 79 19 0) 79 21 (-1)) 79 10 = (u2 (u2 (u2 dt 79 17 0) 79 12 0) 79 19 0) 79 10 := rfl
        have w485 : (u2 (u2 (u2 (u2 dt 79 17 0) 79 12 0) 79 19 0) 79 21 (-1)) 79 11 = (u2 (u2 (u2 dt 79 17 0) 79 12 0) 79 19 0) 79 11 := rfl
        have w486 : (u2 (u2 (u2 (u2 dt 79 17 0) 79 12 0) 79 19 0) 79 21 (-1)) 79 12 = (u2 (u2 (u2 dt 79 17 0) 79 12 0) 79 19 0) 79 12 := rfl
        have w487 : (u2 (u2 (u2 (u2 dt 79 17 0) 79 12 0) 79 19 0) 79 21 (-1)) 79 13 = (u2 (u2 (u2 dt 79 17 0) 79 12 0) 79 19 0) 79 13 := rfl
        have w488 : (u2 (u2 (u2 (u2 dt 79 17 0) 79 12 0) 79 19 0) 79 21 (-1)) 79 14 = (u2 (u2 (u2 dt 79 17 0) 79 12 0) 79 19 0) 79 14 := rfl
        have w489 : (u2 (u2 (u2 (u2 dt 79 17 0) 79 12 0) 79 19 0) 79 21 (-1)) 79 15 = (u2 (u2 (u2 dt 79 17 0) 79 12 0) 79 19 0) 79 15 := rfl
        have w490 : (u2 (u2 (u2 (u2 dt 79 17 0) 79 12 0) 79 19 0) 79 21 (-1)) 79 16 = (u2 (u2 (u2 dt 79 17 0) 79 12 0) 79 19 0) 79 16 := rfl
        have w491 : (u2 (u2 (u2 (u2 dt 79 17 0) 79 12 0) 79 19 0) 79 21 (-1)) 79 20 = (u2 (u2 (u2 dt 79 17 0) 79 12 0) 79 19 0) 79 20 := rfl
        have w492 : (u2 (u2 (u2 (u2 dt 79 17 0) 79 12 0) 79 19 0) 79 21 (-1)) 80 0 = (u2 (u2 (u2 dt 79 17 0) 79 12 0) 79 19 0) 80 0 := rfl
        have w493 : (u2 (u2 (u2 (u2 dt 79 17 0) 79 12 0) 79 19 0) 79 21 (-1)) 80 1 = (u2 (u2 (u2 dt 79 17 0) 79 12 0) 79 19 0) 80 1 := rfl
        have w494 : (u2 (u2 (u2 (u2 dt 79 17 0) 79 12 0) 79 19 0) 79 21 (-1)) 80 2 = (u2 (u2 (u2 dt 79 17 0) 79 12 0) 79 19 0) 80 2 := rfl
        have w495 : (u2 (u2 (u2 (u2 dt 79 17 0) 79 12 0) 79 19 0) 79 21 (-1)) 80 3 = (u2 (u2 (u2 dt 79 17 0) 79 12 0) 79 19 0) 80 3 := rfl
        have w496 : (u2 (u2 (u2 (u2 dt 79 17 0) 79 12 0) 79 19 0) 79 21 (-1)) 80 4 = (u2 (u2 (u2 dt 79 17 0) 79 12 0) 79 19 0) 80 4 := rfl
        have w497 : (u2 (u2 (u2 (u2 dt 79 17 0) 79 12 0) 79 19 0) 79 21 (-1)) 80 5 = (u2 (u2 (u2 dt 79 17 0) 79 12 0) 79 19 0) 80 5 := rfl
        have E84498 : (u2 (u2 (u2 (u2 dt 79 17 0) 79 12 0) 79 19 0) 79 21 (-1)) 84 = dt 84 := (funext fun _ => u2_ne (by omega)).trans E84479
        refine go_smp (L' := [some (.inr (.inr (some 79))), some (.inl p1), some (.inl p2), none]) (st' := []) (w' := (SH, (u2 (u2 (u2 (u2 dt 79 17 0) 79 12 0) 79 19 0) 79 21 (-1)))) rfl rfl (s_pf rfl rfl rfl rfl ⟨by omega, by omega⟩) ?_
        refine go_ret (k := 2) (r := some (.inl (-1))) (w1 := (SH, (u2 (u2 (u2 (u2 dt 79 17 0) 79 12 0) 79 19 0) 79 21 (-1)))) (fun _ => rfl) ?_
        exact ⟨(u2 (u2 (u2 (u2 dt 79 17 0) 79 12 0) 79 19 0) 79 21 (-1)), rfl, hI480, hF481, ⟨_, rfl, ⟨by omega, by omega⟩, ⟨by first | trivial | omega, by first | trivial | omega, by first | assumption | exact hM, by first | trivial | omega, by first | trivial | omega, by first | trivial | omega, by first | trivial | omega, by first | trivial | omega, by first | trivial | omega⟩⟩⟩
    · skip
      refine go_to (k := 2) (pc' := 26) (L' := [some (.inr (.inr (some 79))), some (.inl p1), some (.inl p2), none]) (st' := [.inl 7, .inl 0, .inl p2]) (w' := (SH, (u2 dt 79 17 0))) (fun _ => rfl) ?_
      refine go_call (Q' := _) rfl rfl rfl rfl rfl (sp_X6_isIn L xs sio (d + 37) (u2 dt 79 17 0) hI4  p2 ⟨by omega, by omega⟩ 0 ⟨by omega, by omega⟩ 7 ⟨by omega, by omega⟩ ) ?_
      rintro _ _ ⟨rfl, h499⟩
      refine ⟨rfl, ?_⟩
      rcases h499 with ⟨rfl, h499⟩ | ⟨rfl, h499⟩
      · skip
        refine go_to (k := 3) (pc' := 51) (L' := [some (.inr (.inr (some 79))), some (.inl p1), some (.inl p2), none]) (st' := [.inl p1, .inr (.inr (some 79))]) (w' := (SH, (u2 dt 79 17 0))) (fun _ => rfl) ?_
        have hI500 : InvC (u2 (u2 dt 79 17 0) 79 9 p1) := InvC_u2 hI4 (lo := 0) (hi := 1) rfl rfl rfl (by omega) (by omega)
        have hF501 : Fr [79, 80, 82, 83, 84] dt (u2 (u2 dt 79 17 0) 79 9 p1) := Fr_u2 hF5 (by decide)
        have w502 : (u2 (u2 dt 79 17 0) 79 9 p1) 79 2 = (u2 dt 79 17 0) 79 2 := rfl
        have w503 : (u2 (u2 dt 79 17 0) 79 9 p1) 79 9 = p1 := rfl
        have w504 : (u2 (u2 dt 79 17 0) 79 9 p1) 79 10 = (u2 dt 79 17 0) 79 10 := rfl
        have w505 : (u2 (u2 dt 79 17 0) 79 9 p1) 79 11 = (u2 dt 79 17 0) 79 11 := rfl
        have w506 : (u2 (u2 dt 79 17 0) 79 9 p1) 79 12 = (u2 dt 79 17 0) 79 12 := rfl
        have w507 : (u2 (u2 dt 79 17 0) 79 9 p1) 79 13 = (u2 dt 79 17 0) 79 13 := rfl
        have w508 : (u2 (u2 dt 79 17 0) 79 9 p1) 79 14 = (u2 dt 79 17 0) 79 14 := rfl
        have w509 : (u2 (u2 dt 79 17 0) 79 9 p1) 79 15 = (u2 dt 79 17 0) 79 15 := rfl
        have w510 : (u2 (u2 dt 79 17 0) 79 9 p1) 79 16 = (u2 dt 79 17 0) 79 16 := rfl
        have w511 : (u2 (u2 dt 79 17 0) 79 9 p1) 79 20 = (u2 dt 79 17 0) 79 20 := rfl
        have w512 : (u2 (u2 dt 79 17 0) 79 9 p1) 80 0 = (u2 dt 79 17 0) 80 0 := rfl
        have w513 : (u2 (u2 dt 79 17 0) 79 9 p1) 80 1 = (u2 dt 79 17 0) 80 1 := rfl
        have w514 : (u2 (u2 dt 79 17 0) 79 9 p1) 80 2 = (u2 dt 79 17 0) 80 2 := rfl
        have w515 : (u2 (u2 dt 79 17 0) 79 9 p1) 80 3 = (u2 dt 79 17 0) 80 3 := rfl
        have w516 : (u2 (u2 dt 79 17 0) 79 9 p1) 80 4 = (u2 dt 79 17 0) 80 4 := rfl
        have w517 : (u2 (u2 dt 79 17 0) 79 9 p1) 80 5 = (u2 dt 79 17 0) 80 5 := rfl
        have E84518 : (u2 (u2 dt 79 17 0) 79 9 p1) 84 = dt 84 := (funext fun _ => u2_ne (by omega)).trans E8422
        refine go_smp (L' := [some (.inr (.inr (some 79))), some (.inl p1), some (.inl p2), none]) (st' := []) (w' := (SH, (u2 (u2 dt 79 17 0) 79 9 p1))) rfl rfl (s_pf rfl rfl rfl rfl ⟨by omega, by omega⟩) ?_
        refine go_to (k := 2) (pc' := 56) (L' := [some (.inr (.inr (some 79))), some (.inl p1), some (.inl p2), none]) (st' := [.inl 0, .inr (.inr (some 79))]) (w' := (SH, (u2 (u2 dt 79 17 0) 79 9 p1))) (fun _ => rfl) ?_
        have hI519 : InvC (u2 (u2 (u2 dt 79 17 0) 79 9 p1) 79 13 0) := InvC_u2 hI500 (lo := 0) (hi := 501) rfl rfl rfl (by omega) (by omega)
        have hF520 : Fr [79, 80, 82, 83, 84] dt (u2 (u2 (u2 dt 79 17 0) 79 9 p1) 79 13 0) := Fr_u2 hF501 (by decide)
        have w521 : (u2 (u2 (u2 dt 79 17 0) 79 9 p1) 79 13 0) 79 2 = (u2 (u2 dt 79 17 0) 79 9 p1) 79 2 := rfl
        have w522 : (u2 (u2 (u2 dt 79 17 0) 79 9 p1) 79 13 0) 79 9 = (u2 (u2 dt 79 17 0) 79 9 p1) 79 9 := rfl
        have w523 : (u2 (u2 (u2 dt 79 17 0) 79 9 p1) 79 13 0) 79 10 = (u2 (u2 dt 79 17 0) 79 9 p1) 79 10 := rfl
        have w524 : (u2 (u2 (u2 dt 79 17 0) 79 9 p1) 79 13 0) 79 11 = (u2 (u2 dt 79 17 0) 79 9 p1) 79 11 := rfl
        have w525 : (u2 (u2 (u2 dt 79 17 0) 79 9 p1) 79 13 0) 79 12 = (u2 (u2 dt 79 17 0) 79 9 p1) 79 12 := rfl
        have w526 : (u2 (u2 (u2 dt 79 17 0) 79 9 p1) 79 13 0) 79 13 = 0 := rfl
        have w527 : (u2 (u2 (u2 dt 79 17 0) 79 9 p1) 79 13 0) 79 14 = (u2 (u2 dt 79 17 0) 79 9 p1) 79 14 := rfl
        have w528 : (u2 (u2 (u2 dt 79 17 0) 79 9 p1) 79 13 0) 79 15 = (u2 (u2 dt 79 17 0) 79 9 p1) 79 15 := rfl
        have w529 : (u2 (u2 (u2 dt 79 17 0) 79 9 p1) 79 13 0) 79 16 = (u2 (u2 dt 79 17 0) 79 9 p1) 79 16 := rfl
        have w530 : (u2 (u2 (u2 dt 79 17 0) 79 9 p1) 79 13 0) 79 20 = (u2 (u2 dt 79 17 0) 79 9 p1) 79 20 := rfl
        have w531 : (u2 (u2 (u2 dt 79 17 0) 79 9 p1) 79 13 0) 80 0 = (u2 (u2 dt 79 17 0) 79 9 p1) 80 0 := rfl
        have w532 : (u2 (u2 (u2 dt 79 17 0) 79 9 p1) 79 13 0) 80 1 = (u2 (u2 dt 79 17 0) 79 9 p1) 80 1 := rfl
        have w533 : (u2 (u2 (u2 dt 79 17 0) 79 9 p1) 79 13 0) 80 2 = (u2 (u2 dt 79 17 0) 79 9 p1) 80 2 := rfl
        have w534 : (u2 (u2 (u2 dt 79 17 0) 79 9 p1) 79 13 0) 80 3 = (u2 (u2 dt 79 17 0) 79 9 p1) 80 3 := rfl
        have w535 : (u2 (u2 (u2 dt 79 17 0) 79 9 p1) 79 13 0) 80 4 = (u2 (u2 dt 79 17 0) 79 9 p1) 80 4 := rfl
        have w536 : (u2 (u2 (u2 dt 79 17 0) 79 9 p1) 79 13 0) 80 5 = (u2 (u2 dt 79 17 0) 79 9 p1) 80 5 := rfl
        have E84537 : (u2 (u2 (u2 dt 79 17 0) 79 9 p1) 79 13 0) 84 = dt 84 := (funext fun _ => u2_ne (by omega)).trans E84518
        refine go_smp (L' := [some (.inr (.inr (some 79))), some (.inl p1), some (.inl p2), none]) (st' := []) (w' := (SH, (u2 (u2 (u2 dt 79 17 0) 79 9 p1) 79 13 0))) rfl rfl (s_pf rfl rfl rfl rfl ⟨by omega, by omega⟩) ?_
        refine go_to (k := 2) (pc' := 61) (L' := [some (.inr (.inr (some 79))), some (.inl p1), some (.inl p2), none]) (st' := [.inl 0, .inr (.inr (some 79))]) (w' := (SH, (u2 (u2 (u2 dt 79 17 0) 79 9 p1) 79 13 0))) (fun _ => rfl) ?_
        have hI538 : InvC (u2 (u2 (u2 (u2 dt 79 17 0) 79 9 p1) 79 13 0) 79 10 0) := InvC_u2 hI519 (lo := 0) (hi := 24) rfl rfl rfl (by omega) (by omega)
        have hF539 : Fr [79, 80, 82, 83, 84] dt (u2 (u2 (u2 (u2 dt 79 17 0) 79 9 p1) 79 13 0) 79 10 0) := Fr_u2 hF520 (by decide)
        have w540 : (u2 (u2 (u2 (u2 dt 79 17 0) 79 9 p1) 79 13 0) 79 10 0) 79 2 = (u2 (u2 (u2 dt 79 17 0) 79 9 p1) 79 13 0) 79 2 := rfl
        have w541 : (u2 (u2 (u2 (u2 dt 79 17 0) 79 9 p1) 79 13 0) 79 10 0) 79 9 = (u2 (u2 (u2 dt 79 17 0) 79 9 p1) 79 13 0) 79 9 := rfl
        have w542 : (u2 (u2 (u2 (u2 dt 79 17 0) 79 9 p1) 79 13 0) 79 10 0) 79 10 = 0 := rfl
        have w543 : (u2 (u2 (u2 (u2 dt 79 17 0) 79 9 p1) 79 13 0) 79 10 0) 79 11 = (u2 (u2 (u2 dt 79 17 0) 79 9 p1) 79 13 0) 79 11 := rfl
        have w544 : (u2 (u2 (u2 (u2 dt 79 17 0) 79 9 p1) 79 13 0) 79 10 0) 79 12 = (u2 (u2 (u2 dt 79 17 0) 79 9 p1) 79 13 0) 79 12 := rfl
        have w545 : (u2 (u2 (u2 (u2 dt 79 17 0) 79 9 p1) 79 13 0) 79 10 0) 79 13 = (u2 (u2 (u2 dt 79 17 0) 79 9 p1) 79 13 0) 79 13 := rfl
        have w546 : (u2 (u2 (u2 (u2 dt 79 17 0) 79 9 p1) 79 13 0) 79 10 0) 79 14 = (u2 (u2 (u2 dt 79 17 0) 79 9 p1) 79 13 0) 79 14 := rfl
        have w547 : (u2 (u2 (u2 (u2 dt 79 17 0) 79 9 p1) 79 13 0) 79 10 0) 79 15 = (u2 (u2 (u2 dt 79 17 0) 79 9 p1) 79 13 0) 79 15 := rfl
        have w548 : (u2 (u2 (u2 (u2 dt 79 17 0) 79 9 p1) 79 13 0) 79 10 0) 79 16 = (u2 (u2 (u2 dt 79 17 0) 79 9 p1) 79 13 0) 79 16 := rfl
        have w549 : (u2 (u2 (u2 (u2 dt 79 17 0) 79 9 p1) 79 13 0) 79 10 0) 79 20 = (u2 (u2 (u2 dt 79 17 0) 79 9 p1) 79 13 0) 79 20 := rfl
        have w550 : (u2 (u2 (u2 (u2 dt 79 17 0) 79 9 p1) 79 13 0) 79 10 0) 80 0 = (u2 (u2 (u2 dt 79 17 0) 79 9 p1) 79 13 0) 80 0 := rfl
        have w551 : (u2 (u2 (u2 (u2 dt 79 17 0) 79 9 p1) 79 13 0) 79 10 0) 80 1 = (u2 (u2 (u2 dt 79 17 0) 79 9 p1) 79 13 0) 80 1 := rfl
        have w552 : (u2 (u2 (u2 (u2 dt 79 17 0) 79 9 p1) 79 13 0) 79 10 0) 80 2 = (u2 (u2 (u2 dt 79 17 0) 79 9 p1) 79 13 0) 80 2 := rfl
        have w553 : (u2 (u2 (u2 (u2 dt 79 17 0) 79 9 p1) 79 13 0) 79 10 0) 80 3 = (u2 (u2 (u2 dt 79 17 0) 79 9 p1) 79 13 0) 80 3 := rfl
        have w554 : (u2 (u2 (u2 (u2 dt 79 17 0) 79 9 p1) 79 13 0) 79 10 0) 80 4 = (u2 (u2 (u2 dt 79 17 0) 79 9 p1) 79 13 0) 80 4 := rfl
        have w555 : (u2 (u2 (u2 (u2 dt 79 17 0) 79 9 p1) 79 13 0) 79 10 0) 80 5 = (u2 (u2 (u2 dt 79 17 0) 79 9 p1) 79 13 0) 80 5 := rfl
        have E84556 : (u2 (u2 (u2 (u2 dt 79 17 0) 79 9 p1) 79 13 0) 79 10 0) 84 = dt 84 := (funext fun _ => u2_ne (by omega)).trans E84537
        refine go_smp (L' := [some (.inr (.inr (some 79))), some (.inl p1), some (.inl p2), none]) (st' := []) (w' := (SH, (u2 (u2 (u2 (u2 dt 79 17 0) 79 9 p1) 79 13 0) 79 10 0))) rfl rfl (s_pf rfl rfl rfl rfl ⟨by omega, by omega⟩) ?_
        refine go_to (k := 2) (pc' := 66) (L' := [some (.inr (.inr (some 79))), some (.inl p1), some (.inl p2), none]) (st' := [.inl 0, .inr (.inr (some 79))]) (w' := (SH, (u2 (u2 (u2 (u2 dt 79 17 0) 79 9 p1) 79 13 0) 79 10 0))) (fun _ => rfl) ?_
        have hI557 : InvC (u2 (u2 (u2 (u2 (u2 dt 79 17 0) 79 9 p1) 79 13 0) 79 10 0) 79 11 0) := InvC_u2 hI538 (lo := 0) (hi := 510) rfl rfl rfl (by omega) (by omega)
        have hF558 : Fr [79, 80, 82, 83, 84] dt (u2 (u2 (u2 (u2 (u2 dt 79 17 0) 79 9 p1) 79 13 0) 79 10 0) 79 11 0) := Fr_u2 hF539 (by decide)
        have w559 : (u2 (u2 (u2 (u2 (u2 dt 79 17 0) 79 9 p1) 79 13 0) 79 10 0) 79 11 0) 79 2 = (u2 (u2 (u2 (u2 dt 79 17 0) 79 9 p1) 79 13 0) 79 10 0) 79 2 := rfl
        have w560 : (u2 (u2 (u2 (u2 (u2 dt 79 17 0) 79 9 p1) 79 13 0) 79 10 0) 79 11 0) 79 9 = (u2 (u2 (u2 (u2 dt 79 17 0) 79 9 p1) 79 13 0) 79 10 0) 79 9 := rfl
        have w561 : (u2 (u2 (u2 (u2 (u2 dt 79 17 0) 79 9 p1) 79 13 0) 79 10 0) 79 11 0) 79 10 = (u2 (u2 (u2 (u2 dt 79 17 0) 79 9 p1) 79 13 0) 79 10 0) 79 10 := rfl
        have w562 : (u2 (u2 (u2 (u2 (u2 dt 79 17 0) 79 9 p1) 79 13 0) 79 10 0) 79 11 0) 79 11 = 0 := rfl
        have w563 : (u2 (u2 (u2 (u2 (u2 dt 79 17 0) 79 9 p1) 79 13 0) 79 10 0) 79 11 0) 79 12 = (u2 (u2 (u2 (u2 dt 79 17 0) 79 9 p1) 79 13 0) 79 10 0) 79 12 := rfl
        have w564 : (u2 (u2 (u2 (u2 (u2 dt 79 17 0) 79 9 p1) 79 13 0) 79 10 0) 79 11 0) 79 13 = (u2 (u2 (u2 (u2 dt 79 17 0) 79 9 p1) 79 13 0) 79 10 0) 79 13 := rfl
        have w565 : (u2 (u2 (u2 (u2 (u2 dt 79 17 0) 79 9 p1) 79 13 0) 79 10 0) 79 11 0) 79 14 = (u2 (u2 (u2 (u2 dt 79 17 0) 79 9 p1) 79 13 0) 79 10 0) 79 14 := rfl
        have w566 : (u2 (u2 (u2 (u2 (u2 dt 79 17 0) 79 9 p1) 79 13 0) 79 10 0) 79 11 0) 79 15 = (u2 (u2 (u2 (u2 dt 79 17 0) 79 9 p1) 79 13 0) 79 10 0) 79 15 := rfl
        have w567 : (u2 (u2 (u2 (u2 (u2 dt 79 17 0) 79 9 p1) 79 13 0) 79 10 0) 79 11 0) 79 16 = (u2 (u2 (u2 (u2 dt 79 17 0) 79 9 p1) 79 13 0) 79 10 0) 79 16 := rfl
        have w568 : (u2 (u2 (u2 (u2 (u2 dt 79 17 0) 79 9 p1) 79 13 0) 79 10 0) 79 11 0) 79 20 = (u2 (u2 (u2 (u2 dt 79 17 0) 79 9 p1) 79 13 0) 79 10 0) 79 20 := rfl
        have w569 : (u2 (u2 (u2 (u2 (u2 dt 79 17 0) 79 9 p1) 79 13 0) 79 10 0) 79 11 0) 80 0 = (u2 (u2 (u2 (u2 dt 79 17 0) 79 9 p1) 79 13 0) 79 10 0) 80 0 := rfl
        have w570 : (u2 (u2 (u2 (u2 (u2 dt 79 17 0) 79 9 p1) 79 13 0) 79 10 0) 79 11 0) 80 1 = (u2 (u2 (u2 (u2 dt 79 17 0) 79 9 p1) 79 13 0) 79 10 0) 80 1 := rfl
        have w571 : (u2 (u2 (u2 (u2 (u2 dt 79 17 0) 79 9 p1) 79 13 0) 79 10 0) 79 11 0) 80 2 = (u2 (u2 (u2 (u2 dt 79 17 0) 79 9 p1) 79 13 0) 79 10 0) 80 2 := rfl
        have w572 : (u2 (u2 (u2 (u2 (u2 dt 79 17 0) 79 9 p1) 79 13 0) 79 10 0) 79 11 0) 80 3 = (u2 (u2 (u2 (u2 dt 79 17 0) 79 9 p1) 79 13 0) 79 10 0) 80 3 := rfl
        have w573 : (u2 (u2 (u2 (u2 (u2 dt 79 17 0) 79 9 p1) 79 13 0) 79 10 0) 79 11 0) 80 4 = (u2 (u2 (u2 (u2 dt 79 17 0) 79 9 p1) 79 13 0) 79 10 0) 80 4 := rfl
        have w574 : (u2 (u2 (u2 (u2 (u2 dt 79 17 0) 79 9 p1) 79 13 0) 79 10 0) 79 11 0) 80 5 = (u2 (u2 (u2 (u2 dt 79 17 0) 79 9 p1) 79 13 0) 79 10 0) 80 5 := rfl
        have E84575 : (u2 (u2 (u2 (u2 (u2 dt 79 17 0) 79 9 p1) 79 13 0) 79 10 0) 79 11 0) 84 = dt 84 := (funext fun _ => u2_ne (by omega)).trans E84556
        refine go_smp (L' := [some (.inr (.inr (some 79))), some (.inl p1), some (.inl p2), none]) (st' := []) (w' := (SH, (u2 (u2 (u2 (u2 (u2 dt 79 17 0) 79 9 p1) 79 13 0) 79 10 0) 79 11 0))) rfl rfl (s_pf rfl rfl rfl rfl ⟨by omega, by omega⟩) ?_
        refine go_to (k := 1) (pc' := 70) (L' := [some (.inr (.inr (some 79))), some (.inl p1), some (.inl p2), none]) (st' := [.inr (.inr (some 79))]) (w' := (SH, (u2 (u2 (u2 (u2 (u2 dt 79 17 0) 79 9 p1) 79 13 0) 79 10 0) 79 11 0))) (fun _ => rfl) ?_
        refine go_call (Q' := _) rfl rfl rfl rfl rfl (sp_X6_next0 L xs sio (d + 31) (u2 (u2 (u2 (u2 (u2 dt 79 17 0) 79 9 p1) 79 13 0) 79 10 0) 79 11 0) hI557   (by first | trivial | omega | exact hI4 (by omega) (by omega) | exact hI5 (by omega) (by omega))) ?_
        rintro _ _ ⟨dt577, rfl, hI578, hF579, h576⟩
        refine ⟨rfl, ?_⟩
        have hF580 : Fr [79, 80, 82, 83, 84] dt dt577 := Fr_tr hF558 hF579 (by decide)
        have hM581 : MW (dt577 80) := MW_fr (d0 := (u2 (u2 (u2 (u2 (u2 dt 79 17 0) 79 9 p1) 79 13 0) 79 10 0) 79 11 0)) hM hF579 (by decide)
        have w582 : dt577 80 0 = (u2 (u2 (u2 (u2 (u2 dt 79 17 0) 79 9 p1) 79 13 0) 79 10 0) 79 11 0) 80 0 := hF579 80 (by decide) 0
        have w583 : dt577 80 1 = (u2 (u2 (u2 (u2 (u2 dt 79 17 0) 79 9 p1) 79 13 0) 79 10 0) 79 11 0) 80 1 := hF579 80 (by decide) 1
        have w584 : dt577 80 2 = (u2 (u2 (u2 (u2 (u2 dt 79 17 0) 79 9 p1) 79 13 0) 79 10 0) 79 11 0) 80 2 := hF579 80 (by decide) 2
        have w585 : dt577 80 3 = (u2 (u2 (u2 (u2 (u2 dt 79 17 0) 79 9 p1) 79 13 0) 79 10 0) 79 11 0) 80 3 := hF579 80 (by decide) 3
        have w586 : dt577 80 4 = (u2 (u2 (u2 (u2 (u2 dt 79 17 0) 79 9 p1) 79 13 0) 79 10 0) 79 11 0) 80 4 := hF579 80 (by decide) 4
        have w587 : dt577 80 5 = (u2 (u2 (u2 (u2 (u2 dt 79 17 0) 79 9 p1) 79 13 0) 79 10 0) 79 11 0) 80 5 := hF579 80 (by decide) 5
        have E84588 : dt577 84 = dt 84 := (funext (hF579 84 (by decide))).trans E84575
        rcases h576 with ⟨rfl, h576⟩
        obtain ⟨h576_0, h576_1, h576_2, h576_3, h576_4, h576_5, h576_6, h576_7, h576_8⟩ := h576
        refine go_to (k := 2) (pc' := 75) (L' := [some (.inr (.inr (some 79))), some (.inl p1), some (.inl p2), some (.inl 1)]) (st' := []) (w' := (SH, dt577)) (fun _ => rfl) ?_
        have loop717 : ∀ (k_ : Nat) (l75_3 : Int) (dt699 : Nat → Nat → Int) (hI700 : InvC dt699) (hF701 : Fr [79, 80, 82, 83, 84] dt dt699) (hM_dt699 : MW (dt699 80)) (i702 : 0 ≤ l75_3 ∧ l75_3 ≤ 1) (i703 : l75_3 = 1 → (¬ dt699 79 14 = 0 → dt699 79 15 + 1 ≤ dt699 79 13) ∧ dt699 79 13 ≤ 500) (i704 : dt699 79 15 ≤ 500) (i705 : l75_3 = 1 → dt699 79 11 ≤ dt699 79 15) (i706 : l75_3 = 1 → p1 = 1 → dt699 79 10 ≤ 16) (i707 : l75_3 = 1 → p1 = 0 → ARW (dt699 82) (dt699 79 10)) (i708 : l75_3 = 1 → p1 = 1 → LRW (dt699 83) (dt699 84) (dt699 79 10) (dt699 79 11)) (i709 : dt699 79 2 = dt 79 2) (i710 : dt699 79 9 = p1) (i711 : dt699 80 0 = dt577 80 0) (i712 : dt699 80 1 = dt577 80 1) (i713 : dt699 80 2 = dt577 80 2) (i714 : dt699 80 3 = dt577 80 3) (i715 : dt699 80 4 = dt577 80 4) (i716 : dt699 80 5 = dt577 80 5), (l75_3 * (502 - dt699 79 15)).toNat < k_ → GO (am_XX L xs sio) (d + 38) 174 75 [some (.inr (.inr (some 79))), some (.inl p1), some (.inl p2), some (.inl l75_3)] [] (SH, dt699) (fun r w2 => ∃ dt2 : Nat → Nat → Int, w2 = (SH, dt2) ∧ InvC dt2 ∧ Fr [79, 80, 82, 83, 84] dt dt2 ∧ ((∃ v : Int, r = some (.inl v) ∧ ((-1) ≤ v ∧ v ≤ 24) ∧ (dt2 79 12 = 0) ∧ (dt2 79 2 = dt 79 2) ∧ (MW (dt2 80)) ∧ (dt2 80 0 = dt 80 0) ∧ (dt2 80 1 = dt 80 1) ∧ (dt2 80 2 = dt 80 2) ∧ (dt2 80 3 = dt 80 3) ∧ (dt2 80 4 = dt 80 4) ∧ (dt2 80 5 = dt 80 5)))) := by
          intro k_
          induction k_ with
          | zero => intro l75_3 dt699 hI700 hF701 hM_dt699 i702 i703 i704 i705 i706 i707 i708 i709 i710 i711 i712 i713 i714 i715 i716 hm; exact absurd hm (Nat.not_lt_zero _)
          | succ k_ ih_loop717 =>
            intro l75_3 dt699 hI700 hF701 hM_dt699 i702 i703 i704 i705 i706 i707 i708 i709 i710 i711 i712 i713 i714 i715 i716 hm
            have hI4 := i707
            have hI5 := i708
            have hm1 : l75_3 = 1 → (l75_3 * (502 - dt699 79 15)).toNat = (502 - dt699 79 15).toNat := fun e => by rw [e, Int.one_mul]
            refine go_if (k := 2) (p1 := 123) (p2 := 79) (L' := [some (.inr (.inr (some 79))), some (.inl p1), some (.inl p2), some (.inl l75_3)]) (st' := []) (w' := (SH, dt699)) (fun _ => rfl) (z_eq (a := l75_3) ⟨by omega, by omega⟩) (fun c718 => ?_) (fun c718 => ?_)
            · skip
              refine go_to (k := 2) (pc' := 125) (L' := [some (.inr (.inr (some 79))), some (.inl p1), some (.inl p2), some (.inl l75_3)]) (st' := [.inl 0, .inr (.inr (some 79))]) (w' := (SH, dt699)) (fun _ => rfl) ?_
              have hI719 : InvC (u2 dt699 79 12 0) := InvC_u2 hI700 (lo := 0) (hi := 500) rfl rfl rfl (by omega) (by omega)
              have hF720 : Fr [79, 80, 82, 83, 84] dt (u2 dt699 79 12 0) := Fr_u2 hF701 (by decide)
              have w721 : (u2 dt699 79 12 0) 79 2 = dt699 79 2 := rfl
              have w722 : (u2 dt699 79 12 0) 79 9 = dt699 79 9 := rfl
              have w723 : (u2 dt699 79 12 0) 79 10 = dt699 79 10 := rfl
              have w724 : (u2 dt699 79 12 0) 79 11 = dt699 79 11 := rfl
              have w725 : (u2 dt699 79 12 0) 79 12 = 0 := rfl
              have w726 : (u2 dt699 79 12 0) 79 13 = dt699 79 13 := rfl
              have w727 : (u2 dt699 79 12 0) 79 14 = dt699 79 14 := rfl
              have w728 : (u2 dt699 79 12 0) 79 15 = dt699 79 15 := rfl
              have w729 : (u2 dt699 79 12 0) 79 16 = dt699 79 16 := rfl
              have w730 : (u2 dt699 79 12 0) 79 20 = dt699 79 20 := rfl
              have w731 : (u2 dt699 79 12 0) 80 0 = dt699 80 0 := rfl
              have w732 : (u2 dt699 79 12 0) 80 1 = dt699 80 1 := rfl
              have w733 : (u2 dt699 79 12 0) 80 2 = dt699 80 2 := rfl
              have w734 : (u2 dt699 79 12 0) 80 3 = dt699 80 3 := rfl
              have w735 : (u2 dt699 79 12 0) 80 4 = dt699 80 4 := rfl
              have w736 : (u2 dt699 79 12 0) 80 5 = dt699 80 5 := rfl
              have E84737 : (u2 dt699 79 12 0) 84 = dt699 84 := funext fun _ => u2_ne (by omega)
              refine go_smp (L' := [some (.inr (.inr (some 79))), some (.inl p1), some (.inl p2), some (.inl l75_3)]) (st' := []) (w' := (SH, (u2 dt699 79 12 0))) rfl rfl (s_pf rfl rfl rfl rfl ⟨by omega, by omega⟩) ?_
              have r738 : (-2147483648) ≤ dt699 79 17 ∧ dt699 79 17 ≤ 2147483647 := InvC_get hI700 79 17 rfl rfl
              refine go_to (k := 3) (pc' := 133) (L' := [some (.inr (.inr (some 79))), some (.inl p1), some (.inl p2), some (.inl l75_3)]) (st' := [.inl (dt699 79 17), .inr (.inr (some 79))]) (w' := (SH, (u2 dt699 79 12 0))) (fun _ => rfl) ?_
              have hI739 : InvC (u2 (u2 dt699 79 12 0) 79 19 (dt699 79 17)) := InvC_u2 hI719 (lo := -2147483648) (hi := 2147483647) rfl rfl rfl (by omega) (by omega)
              have hF740 : Fr [79, 80, 82, 83, 84] dt (u2 (u2 dt699 79 12 0) 79 19 (dt699 79 17)) := Fr_u2 hF720 (by decide)
              have w741 : (u2 (u2 dt699 79 12 0) 79 19 (dt699 79 17)) 79 2 = (u2 dt699 79 12 0) 79 2 := rfl
              have w742 : (u2 (u2 dt699 79 12 0) 79 19 (dt699 79 17)) 79 9 = (u2 dt699 79 12 0) 79 9 := rfl
              have w743 : (u2 (u2 dt699 79 12 0) 79 19 (dt699 79 17)) 79 10 = (u2 dt699 79 12 0) 79 10 := rfl
              have w744 : (u2 (u2 dt699 79 12 0) 79 19 (dt699 79 17)) 79 11 = (u2 dt699 79 12 0) 79 11 := rfl
              have w745 : (u2 (u2 dt699 79 12 0) 79 19 (dt699 79 17)) 79 12 = (u2 dt699 79 12 0) 79 12 := rfl
              have w746 : (u2 (u2 dt699 79 12 0) 79 19 (dt699 79 17)) 79 13 = (u2 dt699 79 12 0) 79 13 := rfl
              have w747 : (u2 (u2 dt699 79 12 0) 79 19 (dt699 79 17)) 79 14 = (u2 dt699 79 12 0) 79 14 := rfl
              have w748 : (u2 (u2 dt699 79 12 0) 79 19 (dt699 79 17)) 79 15 = (u2 dt699 79 12 0) 79 15 := rfl
              have w749 : (u2 (u2 dt699 79 12 0) 79 19 (dt699 79 17)) 79 16 = (u2 dt699 79 12 0) 79 16 := rfl
              have w750 : (u2 (u2 dt699 79 12 0) 79 19 (dt699 79 17)) 79 20 = (u2 dt699 79 12 0) 79 20 := rfl
              have w751 : (u2 (u2 dt699 79 12 0) 79 19 (dt699 79 17)) 80 0 = (u2 dt699 79 12 0) 80 0 := rfl
              have w752 : (u2 (u2 dt699 79 12 0) 79 19 (dt699 79 17)) 80 1 = (u2 dt699 79 12 0) 80 1 := rfl
              have w753 : (u2 (u2 dt699 79 12 0) 79 19 (dt699 79 17)) 80 2 = (u2 dt699 79 12 0) 80 2 := rfl
              have w754 : (u2 (u2 dt699 79 12 0) 79 19 (dt699 79 17)) 80 3 = (u2 dt699 79 12 0) 80 3 := rfl
              have w755 : (u2 (u2 dt699 79 12 0) 79 19 (dt699 79 17)) 80 4 = (u2 dt699 79 12 0) 80 4 := rfl
              have w756 : (u2 (u2 dt699 79 12 0) 79 19 (dt699 79 17)) 80 5 = (u2 dt699 79 12 0) 80 5 := rfl
              have E84757 : (u2 (u2 dt699 79 12 0) 79 19 (dt699 79 17)) 84 = dt699 84 := (funext fun _ => u2_ne (by omega)).trans E84737
              refine go_smp (L' := [some (.inr (.inr (some 79))), some (.inl p1), some (.inl p2), some (.inl l75_3)]) (st' := []) (w' := (SH, (u2 (u2 dt699 79 12 0) 79 19 (dt699 79 17)))) rfl rfl (s_pf rfl rfl rfl rfl ⟨by omega, by omega⟩) ?_
              refine go_if (k := 3) (p1 := 145) (p2 := 141) (L' := [some (.inr (.inr (some 79))), some (.inl p1), some (.inl p2), some (.inl l75_3)]) (st' := [.inr (.inr (some 79))]) (w' := (SH, (u2 (u2 dt699 79 12 0) 79 19 (dt699 79 17)))) (fun _ => rfl) (z_eq (a := l75_3) ⟨by omega, by omega⟩) (fun c758 => ?_) (fun c758 => ?_)
              · skip
                have r759 : (-2147483648) ≤ dt699 79 18 ∧ dt699 79 18 ≤ 2147483647 := InvC_get hI700 79 18 rfl rfl
                refine go_to (k := 2) (pc' := 149) (L' := [some (.inr (.inr (some 79))), some (.inl p1), some (.inl p2), some (.inl l75_3)]) (st' := [.inl (dt699 79 18), .inr (.inr (some 79))]) (w' := (SH, (u2 (u2 dt699 79 12 0) 79 19 (dt699 79 17)))) (fun _ => rfl) ?_
                have hI760 : InvC (u2 (u2 (u2 dt699 79 12 0) 79 19 (dt699 79 17)) 79 21 (dt699 79 18)) := InvC_u2 hI739 (lo := -2147483648) (hi := 2147483647) rfl rfl rfl (by omega) (by omega)
                have hF761 : Fr [79, 80, 82, 83, 84] dt (u2 (u2 (u2 dt699 79 12 0) 79 19 (dt699 79 17)) 79 21 (dt699 79 18)) := Fr_u2 hF740 (by decide)
                have w762 : (u2 (u2 (u2 dt699 79 12 0) 79 19 (dt699 79 17)) 79 21 (dt699 79 18)) 79 2 = (u2 (u2 dt699 79 12 0) 79 19 (dt699 79 17)) 79 2 := rfl
                have w763 : (u2 (u2 (u2 dt699 79 12 0) 79 19 (dt699 79 17)) 79 21 (dt699 79 18)) 79 9 = (u2 (u2 dt699 79 12 0) 79 19 (dt699 79 17)) 79 9 := rfl
                have w764 : (u2 (u2 (u2 dt699 79 12 0) 79 19 (dt699 79 17)) 79 21 (dt699 79 18)) 79 10 = (u2 (u2 dt699 79 12 0) 79 19 (dt699 79 17)) 79 10 := rfl
                have w765 : (u2 (u2 (u2 dt699 79 12 0) 79 19 (dt699 79 17)) 79 21 (dt699 79 18)) 79 11 = (u2 (u2 dt699 79 12 0) 79 19 (dt699 79 17)) 79 11 := rfl
                have w766 : (u2 (u2 (u2 dt699 79 12 0) 79 19 (dt699 79 17)) 79 21 (dt699 79 18)) 79 12 = (u2 (u2 dt699 79 12 0) 79 19 (dt699 79 17)) 79 12 := rfl
                have w767 : (u2 (u2 (u2 dt699 79 12 0) 79 19 (dt699 79 17)) 79 21 (dt699 79 18)) 79 13 = (u2 (u2 dt699 79 12 0) 79 19 (dt699 79 17)) 79 13 := rfl
                have w768 : (u2 (u2 (u2 dt699 79 12 0) 79 19 (dt699 79 17)) 79 21 (dt699 79 18)) 79 14 = (u2 (u2 dt699 79 12 0) 79 19 (dt699 79 17)) 79 14 := rfl
                have w769 : (u2 (u2 (u2 dt699 79 12 0) 79 19 (dt699 79 17)) 79 21 (dt699 79 18)) 79 15 = (u2 (u2 dt699 79 12 0) 79 19 (dt699 79 17)) 79 15 := rfl
                have w770 : (u2 (u2 (u2 dt699 79 12 0) 79 19 (dt699 79 17)) 79 21 (dt699 79 18)) 79 16 = (u2 (u2 dt699 79 12 0) 79 19 (dt699 79 17)) 79 16 := rfl
                have w771 : (u2 (u2 (u2 dt699 79 12 0) 79 19 (dt699 79 17)) 79 21 (dt699 79 18)) 79 20 = (u2 (u2 dt699 79 12 0) 79 19 (dt699 79 17)) 79 20 := rfl
                have w772 : (u2 (u2 (u2 dt699 79 12 0) 79 19 (dt699 79 17)) 79 21 (dt699 79 18)) 80 0 = (u2 (u2 dt699 79 12 0) 79 19 (dt699 79 17)) 80 0 := rfl
                have w773 : (u2 (u2 (u2 dt699 79 12 0) 79 19 (dt699 79 17)) 79 21 (dt699 79 18)) 80 1 = (u2 (u2 dt699 79 12 0) 79 19 (dt699 79 17)) 80 1 := rfl
                have w774 : (u2 (u2 (u2 dt699 79 12 0) 79 19 (dt699 79 17)) 79 21 (dt699 79 18)) 80 2 = (u2 (u2 dt699 79 12 0) 79 19 (dt699 79 17)) 80 2 := rfl
                have w775 : (u2 (u2 (u2 dt699 79 12 0) 79 19 (dt699 79 17)) 79 21 (dt699 79 18)) 80 3 = (u2 (u2 dt699 79 12 0) 79 19 (dt699 79 17)) 80 3 := rfl
                have w776 : (u2 (u2 (u2 dt699 79 12 0) 79 19 (dt699 79 17)) 79 21 (dt699 79 18)) 80 4 = (u2 (u2 dt699 79 12 0) 79 19 (dt699 79 17)) 80 4 := rfl
                have w777 : (u2 (u2 (u2 dt699 79 12 0) 79 19 (dt699 79 17)) 79 21 (dt699 79 18)) 80 5 = (u2 (u2 dt699 79 12 0) 79 19 (dt699 79 17)) 80 5 := rfl
                have E84778 : (u2 (u2 (u2 dt699 79 12 0) 79 19 (dt699 79 17)) 79 21 (dt699 79 18)) 84 = dt699 84 := (funext fun _ => u2_ne (by omega)).trans E84757
                refine go_smp (L' := [some (.inr (.inr (some 79))), some (.inl p1), some (.inl p2), some (.inl l75_3)]) (st' := []) (w' := (SH, (u2 (u2 (u2 dt699 79 12 0) 79 19 (dt699 79 17)) 79 21 (dt699 79 18)))) rfl rfl (s_pf rfl rfl rfl rfl ⟨by omega, by omega⟩) ?_
                refine go_if (k := 2) (p1 := 158) (p2 := 156) (L' := [some (.inr (.inr (some 79))), some (.inl p1), some (.inl p2), some (.inl l75_3)]) (st' := []) (w' := (SH, (u2 (u2 (u2 dt699 79 12 0) 79 19 (dt699 79 17)) 79 21 (dt699 79 18)))) (fun _ => rfl) (z_ne (a := l75_3) ⟨by omega, by omega⟩) (fun c779 => ?_) (fun c779 => ?_)
                · skip
                  refine go_to (k := 2) (pc' := 160) (L' := [some (.inr (.inr (some 79))), some (.inl p1), some (.inl p2), some (.inl l75_3)]) (st' := [.inl p2, .inr (.inr (some 79))]) (w' := (SH, (u2 (u2 (u2 dt699 79 12 0) 79 19 (dt699 79 17)) 79 21 (dt699 79 18)))) (fun _ => rfl) ?_
                  refine go_call (Q' := _) rfl rfl rfl rfl rfl (sp_X6_keeps_k0 L xs sio (d + 37) (u2 (u2 (u2 dt699 79 12 0) 79 19 (dt699 79 17)) 79 21 (dt699 79 18)) hI760 hM_dt699  p2 ⟨by omega, by omega⟩ (by first | trivial | omega | exact hI4 (by omega) (by omega) | exact hI5 (by omega) (by omega)) (by first | trivial | omega | exact hI4 (by omega) (by omega) | exact hI5 (by omega) (by omega)) (by first | trivial | omega | exact hI4 (by omega) (by omega) | exact hI5 (by omega) (by omega))) ?_
                  rintro _ _ ⟨dt781, rfl, hI782, hF783, h780⟩
                  refine ⟨rfl, ?_⟩
                  have hF784 : Fr [79, 80, 82, 83, 84] dt dt781 := Fr_tr hF761 hF783 (by decide)
                  have w785 : dt781 79 2 = (u2 (u2 (u2 dt699 79 12 0) 79 19 (dt699 79 17)) 79 21 (dt699 79 18)) 79 2 := hF783 79 (by decide) 2
                  have w786 : dt781 79 9 = (u2 (u2 (u2 dt699 79 12 0) 79 19 (dt699 79 17)) 79 21 (dt699 79 18)) 79 9 := hF783 79 (by decide) 9
                  have w787 : dt781 79 10 = (u2 (u2 (u2 dt699 79 12 0) 79 19 (dt699 79 17)) 79 21 (dt699 79 18)) 79 10 := hF783 79 (by decide) 10
                  have w788 : dt781 79 11 = (u2 (u2 (u2 dt699 79 12 0) 79 19 (dt699 79 17)) 79 21 (dt699 79 18)) 79 11 := hF783 79 (by decide) 11
                  have w789 : dt781 79 12 = (u2 (u2 (u2 dt699 79 12 0) 79 19 (dt699 79 17)) 79 21 (dt699 79 18)) 79 12 := hF783 79 (by decide) 12
                  have w790 : dt781 79 13 = (u2 (u2 (u2 dt699 79 12 0) 79 19 (dt699 79 17)) 79 21 (dt699 79 18)) 79 13 := hF783 79 (by decide) 13
                  have w791 : dt781 79 14 = (u2 (u2 (u2 dt699 79 12 0) 79 19 (dt699 79 17)) 79 21 (dt699 79 18)) 79 14 := hF783 79 (by decide) 14
                  have w792 : dt781 79 15 = (u2 (u2 (u2 dt699 79 12 0) 79 19 (dt699 79 17)) 79 21 (dt699 79 18)) 79 15 := hF783 79 (by decide) 15
                  have w793 : dt781 79 16 = (u2 (u2 (u2 dt699 79 12 0) 79 19 (dt699 79 17)) 79 21 (dt699 79 18)) 79 16 := hF783 79 (by decide) 16
                  have w794 : dt781 79 20 = (u2 (u2 (u2 dt699 79 12 0) 79 19 (dt699 79 17)) 79 21 (dt699 79 18)) 79 20 := hF783 79 (by decide) 20
                  have E84795 : dt781 84 = dt699 84 := (funext (hF783 84 (by decide))).trans E84778
                  rcases h780 with ⟨rfl, h780⟩
                  have hM796 : MW (dt781 80) := h780.1
                  obtain ⟨h780_0, h780_1, h780_2, h780_3, h780_4, h780_5, h780_6⟩ := h780
                  have r797 : 0 ≤ dt781 79 10 ∧ dt781 79 10 ≤ 24 := InvC_get hI782 79 10 rfl rfl
                  refine go_ret (k := 3) (r := some (.inl (dt781 79 10))) (w1 := (SH, dt781)) (fun _ => rfl) ?_
                  exact ⟨dt781, rfl, hI782, hF784, ⟨_, rfl, ⟨by omega, by omega⟩, ⟨by first | trivial | omega, by first | trivial | omega, by first | assumption | exact hM, by first | trivial | omega, by first | trivial | omega, by first | trivial | omega, by first | trivial | omega, by first | trivial | omega, by first | trivial | omega⟩⟩⟩
                · skip
                  refine go_ret (k := 2) (r := some (.inl (-1))) (w1 := (SH, (u2 (u2 (u2 dt699 79 12 0) 79 19 (dt699 79 17)) 79 21 (dt699 79 18)))) (fun _ => rfl) ?_
                  exact ⟨(u2 (u2 (u2 dt699 79 12 0) 79 19 (dt699 79 17)) 79 21 (dt699 79 18)), rfl, hI760, hF761, ⟨_, rfl, ⟨by omega, by omega⟩, ⟨by first | trivial | omega, by first | trivial | omega, by first | assumption | exact hM, by first | trivial | omega, by first | trivial | omega, by first | trivial | omega, by first | trivial | omega, by first | trivial | omega, by first | trivial | omega⟩⟩⟩
              · skip
                refine go_to (k := 2) (pc' := 149) (L' := [some (.inr (.inr (some 79))), some (.inl p1), some (.inl p2), some (.inl l75_3)]) (st' := [.inl (-1), .inr (.inr (some 79))]) (w' := (SH, (u2 (u2 dt699 79 12 0) 79 19 (dt699 79 17)))) (fun _ => rfl) ?_
                have hI798 : InvC (u2 (u2 (u2 dt699 79 12 0) 79 19 (dt699 79 17)) 79 21 (-1)) := InvC_u2 hI739 (lo := -2147483648) (hi := 2147483647) rfl rfl rfl (by omega) (by omega)
                have hF799 : Fr [79, 80, 82, 83, 84] dt (u2 (u2 (u2 dt699 79 12 0) 79 19 (dt699 79 17)) 79 21 (-1)) := Fr_u2 hF740 (by decide)
                have w800 : (u2 (u2 (u2 dt699 79 12 0) 79 19 (dt699 79 17)) 79 21 (-1)) 79 2 = (u2 (u2 dt699 79 12 0) 79 19 (dt699 79 17)) 79 2 := rfl
                have w801 : (u2 (u2 (u2 dt699 79 12 0) 79 19 (dt699 79 17)) 79 21 (-1)) 79 9 = (u2 (u2 dt699 79 12 0) 79 19 (dt699 79 17)) 79 9 := rfl
                have w802 : (u2 (u2 (u2 dt699 79 12 0) 79 19 (dt699 79 17)) 79 21 (-1)) 79 10 = (u2 (u2 dt699 79 12 0) 79 19 (dt699 79 17)) 79 10 := rfl
                have w803 : (u2 (u2 (u2 dt699 79 12 0) 79 19 (dt699 79 17)) 79 21 (-1)) 79 11 = (u2 (u2 dt699 79 12 0) 79 19 (dt699 79 17)) 79 11 := rfl
                have w804 : (u2 (u2 (u2 dt699 79 12 0) 79 19 (dt699 79 17)) 79 21 (-1)) 79 12 = (u2 (u2 dt699 79 12 0) 79 19 (dt699 79 17)) 79 12 := rfl
                have w805 : (u2 (u2 (u2 dt699 79 12 0) 79 19 (dt699 79 17)) 79 21 (-1)) 79 13 = (u2 (u2 dt699 79 12 0) 79 19 (dt699 79 17)) 79 13 := rfl
                have w806 : (u2 (u2 (u2 dt699 79 12 0) 79 19 (dt699 79 17)) 79 21 (-1)) 79 14 = (u2 (u2 dt699 79 12 0) 79 19 (dt699 79 17)) 79 14 := rfl
                have w807 : (u2 (u2 (u2 dt699 79 12 0) 79 19 (dt699 79 17)) 79 21 (-1)) 79 15 = (u2 (u2 dt699 79 12 0) 79 19 (dt699 79 17)) 79 15 := rfl
                have w808 : (u2 (u2 (u2 dt699 79 12 0) 79 19 (dt699 79 17)) 79 21 (-1)) 79 16 = (u2 (u2 dt699 79 12 0) 79 19 (dt699 79 17)) 79 16 := rfl
                have w809 : (u2 (u2 (u2 dt699 79 12 0) 79 19 (dt699 79 17)) 79 21 (-1)) 79 20 = (u2 (u2 dt699 79 12 0) 79 19 (dt699 79 17)) 79 20 := rfl
                have w810 : (u2 (u2 (u2 dt699 79 12 0) 79 19 (dt699 79 17)) 79 21 (-1)) 80 0 = (u2 (u2 dt699 79 12 0) 79 19 (dt699 79 17)) 80 0 := rfl
                have w811 : (u2 (u2 (u2 dt699 79 12 0) 79 19 (dt699 79 17)) 79 21 (-1)) 80 1 = (u2 (u2 dt699 79 12 0) 79 19 (dt699 79 17)) 80 1 := rfl
                have w812 : (u2 (u2 (u2 dt699 79 12 0) 79 19 (dt699 79 17)) 79 21 (-1)) 80 2 = (u2 (u2 dt699 79 12 0) 79 19 (dt699 79 17)) 80 2 := rfl
                have w813 : (u2 (u2 (u2 dt699 79 12 0) 79 19 (dt699 79 17)) 79 21 (-1)) 80 3 = (u2 (u2 dt699 79 12 0) 79 19 (dt699 79 17)) 80 3 := rfl
                have w814 : (u2 (u2 (u2 dt699 79 12 0) 79 19 (dt699 79 17)) 79 21 (-1)) 80 4 = (u2 (u2 dt699 79 12 0) 79 19 (dt699 79 17)) 80 4 := rfl
                have w815 : (u2 (u2 (u2 dt699 79 12 0) 79 19 (dt699 79 17)) 79 21 (-1)) 80 5 = (u2 (u2 dt699 79 12 0) 79 19 (dt699 79 17)) 80 5 := rfl
                have E84816 : (u2 (u2 (u2 dt699 79 12 0) 79 19 (dt699 79 17)) 79 21 (-1)) 84 = dt699 84 := (funext fun _ => u2_ne (by omega)).trans E84757
                refine go_smp (L' := [some (.inr (.inr (some 79))), some (.inl p1), some (.inl p2), some (.inl l75_3)]) (st' := []) (w' := (SH, (u2 (u2 (u2 dt699 79 12 0) 79 19 (dt699 79 17)) 79 21 (-1)))) rfl rfl (s_pf rfl rfl rfl rfl ⟨by omega, by omega⟩) ?_
                refine go_if (k := 2) (p1 := 158) (p2 := 156) (L' := [some (.inr (.inr (some 79))), some (.inl p1), some (.inl p2), some (.inl l75_3)]) (st' := []) (w' := (SH, (u2 (u2 (u2 dt699 79 12 0) 79 19 (dt699 79 17)) 79 21 (-1)))) (fun _ => rfl) (z_ne (a := l75_3) ⟨by omega, by omega⟩) (fun c817 => ?_) (fun c817 => ?_)
                · skip
                  refine go_to (k := 2) (pc' := 160) (L' := [some (.inr (.inr (some 79))), some (.inl p1), some (.inl p2), some (.inl l75_3)]) (st' := [.inl p2, .inr (.inr (some 79))]) (w' := (SH, (u2 (u2 (u2 dt699 79 12 0) 79 19 (dt699 79 17)) 79 21 (-1)))) (fun _ => rfl) ?_
                  refine go_call (Q' := _) rfl rfl rfl rfl rfl (sp_X6_keeps_k0 L xs sio (d + 37) (u2 (u2 (u2 dt699 79 12 0) 79 19 (dt699 79 17)) 79 21 (-1)) hI798 hM_dt699  p2 ⟨by omega, by omega⟩ (by first | trivial | omega | exact hI4 (by omega) (by omega) | exact hI5 (by omega) (by omega)) (by first | trivial | omega | exact hI4 (by omega) (by omega) | exact hI5 (by omega) (by omega)) (by first | trivial | omega | exact hI4 (by omega) (by omega) | exact hI5 (by omega) (by omega))) ?_
                  rintro _ _ ⟨dt819, rfl, hI820, hF821, h818⟩
                  refine ⟨rfl, ?_⟩
                  have hF822 : Fr [79, 80, 82, 83, 84] dt dt819 := Fr_tr hF799 hF821 (by decide)
                  have w823 : dt819 79 2 = (u2 (u2 (u2 dt699 79 12 0) 79 19 (dt699 79 17)) 79 21 (-1)) 79 2 := hF821 79 (by decide) 2
                  have w824 : dt819 79 9 = (u2 (u2 (u2 dt699 79 12 0) 79 19 (dt699 79 17)) 79 21 (-1)) 79 9 := hF821 79 (by decide) 9
                  have w825 : dt819 79 10 = (u2 (u2 (u2 dt699 79 12 0) 79 19 (dt699 79 17)) 79 21 (-1)) 79 10 := hF821 79 (by decide) 10
                  have w826 : dt819 79 11 = (u2 (u2 (u2 dt699 79 12 0) 79 19 (dt699 79 17)) 79 21 (-1)) 79 11 := hF821 79 (by decide) 11
                  have w827 : dt819 79 12 = (u2 (u2 (u2 dt699 79 12 0) 79 19 (dt699 79 17)) 79 21 (-1)) 79 12 := hF821 79 (by decide) 12
                  have w828 : dt819 79 13 = (u2 (u2 (u2 dt699 79 12 0) 79 19 (dt699 79 17)) 79 21 (-1)) 79 13 := hF821 79 (by decide) 13
                  have w829 : dt819 79 14 = (u2 (u2 (u2 dt699 79 12 0) 79 19 (dt699 79 17)) 79 21 (-1)) 79 14 := hF821 79 (by decide) 14
                  have w830 : dt819 79 15 = (u2 (u2 (u2 dt699 79 12 0) 79 19 (dt699 79 17)) 79 21 (-1)) 79 15 := hF821 79 (by decide) 15
                  have w831 : dt819 79 16 = (u2 (u2 (u2 dt699 79 12 0) 79 19 (dt699 79 17)) 79 21 (-1)) 79 16 := hF821 79 (by decide) 16
                  have w832 : dt819 79 20 = (u2 (u2 (u2 dt699 79 12 0) 79 19 (dt699 79 17)) 79 21 (-1)) 79 20 := hF821 79 (by decide) 20
                  have E84833 : dt819 84 = dt699 84 := (funext (hF821 84 (by decide))).trans E84816
                  rcases h818 with ⟨rfl, h818⟩
                  have hM834 : MW (dt819 80) := h818.1
                  obtain ⟨h818_0, h818_1, h818_2, h818_3, h818_4, h818_5, h818_6⟩ := h818
                  have r835 : 0 ≤ dt819 79 10 ∧ dt819 79 10 ≤ 24 := InvC_get hI820 79 10 rfl rfl
                  refine go_ret (k := 3) (r := some (.inl (dt819 79 10))) (w1 := (SH, dt819)) (fun _ => rfl) ?_
                  exact ⟨dt819, rfl, hI820, hF822, ⟨_, rfl, ⟨by omega, by omega⟩, ⟨by first | trivial | omega, by first | trivial | omega, by first | assumption | exact hM, by first | trivial | omega, by first | trivial | omega, by first | trivial | omega, by first | trivial | omega, by first | trivial | omega, by first | trivial | omega⟩⟩⟩
                · exfalso; omega
            · skip
              have r836 : (-2147483648) ≤ dt699 79 14 ∧ dt699 79 14 ≤ 2147483647 := InvC_get hI700 79 14 rfl rfl
              refine go_if (k := 3) (p1 := 123) (p2 := 86) (L' := [some (.inr (.inr (some 79))), some (.inl p1), some (.inl p2), some (.inl l75_3)]) (st' := []) (w' := (SH, dt699)) (fun _ => rfl) (z_eq (a := dt699 79 14) ⟨by omega, by omega⟩) (fun c837 => ?_) (fun c837 => ?_)
              · skip
                refine go_to (k := 2) (pc' := 125) (L' := [some (.inr (.inr (some 79))), some (.inl p1), some (.inl p2), some (.inl l75_3)]) (st' := [.inl 0, .inr (.inr (some 79))]) (w' := (SH, dt699)) (fun _ => rfl) ?_
                have hI838 : InvC (u2 dt699 79 12 0) := InvC_u2 hI700 (lo := 0) (hi := 500) rfl rfl rfl (by omega) (by omega)
                have hF839 : Fr [79, 80, 82, 83, 84] dt (u2 dt699 79 12 0) := Fr_u2 hF701 (by decide)
                have w840 : (u2 dt699 79 12 0) 79 2 = dt699 79 2 := rfl
                have w841 : (u2 dt699 79 12 0) 79 9 = dt699 79 9 := rfl
                have w842 : (u2 dt699 79 12 0) 79 10 = dt699 79 10 := rfl
                have w843 : (u2 dt699 79 12 0) 79 11 = dt699 79 11 := rfl
                have w844 : (u2 dt699 79 12 0) 79 12 = 0 := rfl
                have w845 : (u2 dt699 79 12 0) 79 13 = dt699 79 13 := rfl
                have w846 : (u2 dt699 79 12 0) 79 14 = dt699 79 14 := rfl
                have w847 : (u2 dt699 79 12 0) 79 15 = dt699 79 15 := rfl
                have w848 : (u2 dt699 79 12 0) 79 16 = dt699 79 16 := rfl
                have w849 : (u2 dt699 79 12 0) 79 20 = dt699 79 20 := rfl
                have w850 : (u2 dt699 79 12 0) 80 0 = dt699 80 0 := rfl
                have w851 : (u2 dt699 79 12 0) 80 1 = dt699 80 1 := rfl
                have w852 : (u2 dt699 79 12 0) 80 2 = dt699 80 2 := rfl
                have w853 : (u2 dt699 79 12 0) 80 3 = dt699 80 3 := rfl
                have w854 : (u2 dt699 79 12 0) 80 4 = dt699 80 4 := rfl
                have w855 : (u2 dt699 79 12 0) 80 5 = dt699 80 5 := rfl
                have E84856 : (u2 dt699 79 12 0) 84 = dt699 84 := funext fun _ => u2_ne (by omega)
                refine go_smp (L' := [some (.inr (.inr (some 79))), some (.inl p1), some (.inl p2), some (.inl l75_3)]) (st' := []) (w' := (SH, (u2 dt699 79 12 0))) rfl rfl (s_pf rfl rfl rfl rfl ⟨by omega, by omega⟩) ?_
                have r857 : (-2147483648) ≤ dt699 79 17 ∧ dt699 79 17 ≤ 2147483647 := InvC_get hI700 79 17 rfl rfl
                refine go_to (k := 3) (pc' := 133) (L' := [some (.inr (.inr (some 79))), some (.inl p1), some (.inl p2), some (.inl l75_3)]) (st' := [.inl (dt699 79 17), .inr (.inr (some 79))]) (w' := (SH, (u2 dt699 79 12 0))) (fun _ => rfl) ?_
                have hI858 : InvC (u2 (u2 dt699 79 12 0) 79 19 (dt699 79 17)) := InvC_u2 hI838 (lo := -2147483648) (hi := 2147483647) rfl rfl rfl (by omega) (by omega)
                have hF859 : Fr [79, 80, 82, 83, 84] dt (u2 (u2 dt699 79 12 0) 79 19 (dt699 79 17)) := Fr_u2 hF839 (by decide)
                have w860 : (u2 (u2 dt699 79 12 0) 79 19 (dt699 79 17)) 79 2 = (u2 dt699 79 12 0) 79 2 := rfl
                have w861 : (u2 (u2 dt699 79 12 0) 79 19 (dt699 79 17)) 79 9 = (u2 dt699 79 12 0) 79 9 := rfl
                have w862 : (u2 (u2 dt699 79 12 0) 79 19 (dt699 79 17)) 79 10 = (u2 dt699 79 12 0) 79 10 := rfl
                have w863 : (u2 (u2 dt699 79 12 0) 79 19 (dt699 79 17)) 79 11 = (u2 dt699 79 12 0) 79 11 := rfl
                have w864 : (u2 (u2 dt699 79 12 0) 79 19 (dt699 79 17)) 79 12 = (u2 dt699 79 12 0) 79 12 := rfl
                have w865 : (u2 (u2 dt699 79 12 0) 79 19 (dt699 79 17)) 79 13 = (u2 dt699 79 12 0) 79 13 := rfl
                have w866 : (u2 (u2 dt699 79 12 0) 79 19 (dt699 79 17)) 79 14 = (u2 dt699 79 12 0) 79 14 := rfl
                have w867 : (u2 (u2 dt699 79 12 0) 79 19 (dt699 79 17)) 79 15 = (u2 dt699 79 12 0) 79 15 := rfl
                have w868 : (u2 (u2 dt699 79 12 0) 79 19 (dt699 79 17)) 79 16 = (u2 dt699 79 12 0) 79 16 := rfl
                have w869 : (u2 (u2 dt699 79 12 0) 79 19 (dt699 79 17)) 79 20 = (u2 dt699 79 12 0) 79 20 := rfl
                have w870 : (u2 (u2 dt699 79 12 0) 79 19 (dt699 79 17)) 80 0 = (u2 dt699 79 12 0) 80 0 := rfl
                have w871 : (u2 (u2 dt699 79 12 0) 79 19 (dt699 79 17)) 80 1 = (u2 dt699 79 12 0) 80 1 := rfl
                have w872 : (u2 (u2 dt699 79 12 0) 79 19 (dt699 79 17)) 80 2 = (u2 dt699 79 12 0) 80 2 := rfl
                have w873 : (u2 (u2 dt699 79 12 0) 79 19 (dt699 79 17)) 80 3 = (u2 dt699 79 12 0) 80 3 := rfl
                have w874 : (u2 (u2 dt699 79 12 0) 79 19 (dt699 79 17)) 80 4 = (u2 dt699 79 12 0) 80 4 := rfl
                have w875 : (u2 (u2 dt699 79 12 0) 79 19 (dt699 79 17)) 80 5 = (u2 dt699 79 12 0) 80 5 := rfl
                have E84876 : (u2 (u2 dt699 79 12 0) 79 19 (dt699 79 17)) 84 = dt699 84 := (funext fun _ => u2_ne (by omega)).trans E84856
                refine go_smp (L' := [some (.inr (.inr (some 79))), some (.inl p1), some (.inl p2), some (.inl l75_3)]) (st' := []) (w' := (SH, (u2 (u2 dt699 79 12 0) 79 19 (dt699 79 17)))) rfl rfl (s_pf rfl rfl rfl rfl ⟨by omega, by omega⟩) ?_
                refine go_if (k := 3) (p1 := 145) (p2 := 141) (L' := [some (.inr (.inr (some 79))), some (.inl p1), some (.inl p2), some (.inl l75_3)]) (st' := [.inr (.inr (some 79))]) (w' := (SH, (u2 (u2 dt699 79 12 0) 79 19 (dt699 79 17)))) (fun _ => rfl) (z_eq (a := l75_3) ⟨by omega, by omega⟩) (fun c877 => ?_) (fun c877 => ?_)
                · exfalso; omega
                · skip
                  refine go_to (k := 2) (pc' := 149) (L' := [some (.inr (.inr (some 79))), some (.inl p1), some (.inl p2), some (.inl l75_3)]) (st' := [.inl (-1), .inr (.inr (some 79))]) (w' := (SH, (u2 (u2 dt699 79 12 0) 79 19 (dt699 79 17)))) (fun _ => rfl) ?_
                  have hI878 : InvC (u2 (u2 (u2 dt699 79 12 0) 79 19 (dt699 79 17)) 79 21 (-1)) := InvC_u2 hI858 (lo := -2147483648) (hi := 2147483647) rfl rfl rfl (by omega) (by omega)
                  have hF879 : Fr [79, 80, 82, 83, 84] dt (u2 (u2 (u2 dt699 79 12 0) 79 19 (dt699 79 17)) 79 21 (-1)) := Fr_u2 hF859 (by decide)
                  have w880 : (u2 (u2 (u2 dt699 79 12 0) 79 19 (dt699 79 17)) 79 21 (-1)) 79 2 = (u2 (u2 dt699 79 12 0) 79 19 (dt699 79 17)) 79 2 := rfl
                  have w881 : (u2 (u2 (u2 dt699 79 12 0) 79 19 (dt699 79 17)) 79 21 (-1)) 79 9 = (u2 (u2 dt699 79 12 0) 79 19 (dt699 79 17)) 79 9 := rfl
                  have w882 : (u2 (u2 (u2 dt699 79 12 0) 79 19 (dt699 79 17)) 79 21 (-1)) 79 10 = (u2 (u2 dt699 79 12 0) 79 19 (dt699 79 17)) 79 10 := rfl
                  have w883 : (u2 (u2 (u2 dt699 79 12 0) 79 19 (dt699 79 17)) 79 21 (-1)) 79 11 = (u2 (u2 dt699 79 12 0) 79 19 (dt699 79 17)) 79 11 := rfl
                  have w884 : (u2 (u2 (u2 dt699 79 12 0) 79 19 (dt699 79 17)) 79 21 (-1)) 79 12 = (u2 (u2 dt699 79 12 0) 79 19 (dt699 79 17)) 79 12 := rfl
                  have w885 : (u2 (u2 (u2 dt699 79 12 0) 79 19 (dt699 79 17)) 79 21 (-1)) 79 13 = (u2 (u2 dt699 79 12 0) 79 19 (dt699 79 17)) 79 13 := rfl
                  have w886 : (u2 (u2 (u2 dt699 79 12 0) 79 19 (dt699 79 17)) 79 21 (-1)) 79 14 = (u2 (u2 dt699 79 12 0) 79 19 (dt699 79 17)) 79 14 := rfl
                  have w887 : (u2 (u2 (u2 dt699 79 12 0) 79 19 (dt699 79 17)) 79 21 (-1)) 79 15 = (u2 (u2 dt699 79 12 0) 79 19 (dt699 79 17)) 79 15 := rfl
                  have w888 : (u2 (u2 (u2 dt699 79 12 0) 79 19 (dt699 79 17)) 79 21 (-1)) 79 16 = (u2 (u2 dt699 79 12 0) 79 19 (dt699 79 17)) 79 16 := rfl
                  have w889 : (u2 (u2 (u2 dt699 79 12 0) 79 19 (dt699 79 17)) 79 21 (-1)) 79 20 = (u2 (u2 dt699 79 12 0) 79 19 (dt699 79 17)) 79 20 := rfl
                  have w890 : (u2 (u2 (u2 dt699 79 12 0) 79 19 (dt699 79 17)) 79 21 (-1)) 80 0 = (u2 (u2 dt699 79 12 0) 79 19 (dt699 79 17)) 80 0 := rfl
                  have w891 : (u2 (u2 (u2 dt699 79 12 0) 79 19 (dt699 79 17)) 79 21 (-1)) 80 1 = (u2 (u2 dt699 79 12 0) 79 19 (dt699 79 17)) 80 1 := rfl
                  have w892 : (u2 (u2 (u2 dt699 79 12 0) 79 19 (dt699 79 17)) 79 21 (-1)) 80 2 = (u2 (u2 dt699 79 12 0) 79 19 (dt699 79 17)) 80 2 := rfl
                  have w893 : (u2 (u2 (u2 dt699 79 12 0) 79 19 (dt699 79 17)) 79 21 (-1)) 80 3 = (u2 (u2 dt699 79 12 0) 79 19 (dt699 79 17)) 80 3 := rfl
                  have w894 : (u2 (u2 (u2 dt699 79 12 0) 79 19 (dt699 79 17)) 79 21 (-1)) 80 4 = (u2 (u2 dt699 79 12 0) 79 19 (dt699 79 17)) 80 4 := rfl
                  have w895 : (u2 (u2 (u2 dt699 79 12 0) 79 19 (dt699 79 17)) 79 21 (-1)) 80 5 = (u2 (u2 dt699 79 12 0) 79 19 (dt699 79 17)) 80 5 := rfl
                  have E84896 : (u2 (u2 (u2 dt699 79 12 0) 79 19 (dt699 79 17)) 79 21 (-1)) 84 = dt699 84 := (funext fun _ => u2_ne (by omega)).trans E84876
                  refine go_smp (L' := [some (.inr (.inr (some 79))), some (.inl p1), some (.inl p2), some (.inl l75_3)]) (st' := []) (w' := (SH, (u2 (u2 (u2 dt699 79 12 0) 79 19 (dt699 79 17)) 79 21 (-1)))) rfl rfl (s_pf rfl rfl rfl rfl ⟨by omega, by omega⟩) ?_
                  refine go_if (k := 2) (p1 := 158) (p2 := 156) (L' := [some (.inr (.inr (some 79))), some (.inl p1), some (.inl p2), some (.inl l75_3)]) (st' := []) (w' := (SH, (u2 (u2 (u2 dt699 79 12 0) 79 19 (dt699 79 17)) 79 21 (-1)))) (fun _ => rfl) (z_ne (a := l75_3) ⟨by omega, by omega⟩) (fun c897 => ?_) (fun c897 => ?_)
                  · skip
                    refine go_to (k := 2) (pc' := 160) (L' := [some (.inr (.inr (some 79))), some (.inl p1), some (.inl p2), some (.inl l75_3)]) (st' := [.inl p2, .inr (.inr (some 79))]) (w' := (SH, (u2 (u2 (u2 dt699 79 12 0) 79 19 (dt699 79 17)) 79 21 (-1)))) (fun _ => rfl) ?_
                    refine go_call (Q' := _) rfl rfl rfl rfl rfl (sp_X6_keeps_k0 L xs sio (d + 37) (u2 (u2 (u2 dt699 79 12 0) 79 19 (dt699 79 17)) 79 21 (-1)) hI878 hM_dt699  p2 ⟨by omega, by omega⟩ (by first | trivial | omega | exact hI4 (by omega) (by omega) | exact hI5 (by omega) (by omega)) (by first | trivial | omega | exact hI4 (by omega) (by omega) | exact hI5 (by omega) (by omega)) (by first | trivial | omega | exact hI4 (by omega) (by omega) | exact hI5 (by omega) (by omega))) ?_
                    rintro _ _ ⟨dt899, rfl, hI900, hF901, h898⟩
                    refine ⟨rfl, ?_⟩
                    have hF902 : Fr [79, 80, 82, 83, 84] dt dt899 := Fr_tr hF879 hF901 (by decide)
                    have w903 : dt899 79 2 = (u2 (u2 (u2 dt699 79 12 0) 79 19 (dt699 79 17)) 79 21 (-1)) 79 2 := hF901 79 (by decide) 2
                    have w904 : dt899 79 9 = (u2 (u2 (u2 dt699 79 12 0) 79 19 (dt699 79 17)) 79 21 (-1)) 79 9 := hF901 79 (by decide) 9
                    have w905 : dt899 79 10 = (u2 (u2 (u2 dt699 79 12 0) 79 19 (dt699 79 17)) 79 21 (-1)) 79 10 := hF901 79 (by decide) 10
                    have w906 : dt899 79 11 = (u2 (u2 (u2 dt699 79 12 0) 79 19 (dt699 79 17)) 79 21 (-1)) 79 11 := hF901 79 (by decide) 11
                    have w907 : dt899 79 12 = (u2 (u2 (u2 dt699 79 12 0) 79 19 (dt699 79 17)) 79 21 (-1)) 79 12 := hF901 79 (by decide) 12
                    have w908 : dt899 79 13 = (u2 (u2 (u2 dt699 79 12 0) 79 19 (dt699 79 17)) 79 21 (-1)) 79 13 := hF901 79 (by decide) 13
                    have w909 : dt899 79 14 = (u2 (u2 (u2 dt699 79 12 0) 79 19 (dt699 79 17)) 79 21 (-1)) 79 14 := hF901 79 (by decide) 14
                    have w910 : dt899 79 15 = (u2 (u2 (u2 dt699 79 12 0) 79 19 (dt699 79 17)) 79 21 (-1)) 79 15 := hF901 79 (by decide) 15
                    have w911 : dt899 79 16 = (u2 (u2 (u2 dt699 79 12 0) 79 19 (dt699 79 17)) 79 21 (-1)) 79 16 := hF901 79 (by decide) 16
                    have w912 : dt899 79 20 = (u2 (u2 (u2 dt699 79 12 0) 79 19 (dt699 79 17)) 79 21 (-1)) 79 20 := hF901 79 (by decide) 20
                    have E84913 : dt899 84 = dt699 84 := (funext (hF901 84 (by decide))).trans E84896
                    rcases h898 with ⟨rfl, h898⟩
                    have hM914 : MW (dt899 80) := h898.1
                    obtain ⟨h898_0, h898_1, h898_2, h898_3, h898_4, h898_5, h898_6⟩ := h898
                    have r915 : 0 ≤ dt899 79 10 ∧ dt899 79 10 ≤ 24 := InvC_get hI900 79 10 rfl rfl
                    refine go_ret (k := 3) (r := some (.inl (dt899 79 10))) (w1 := (SH, dt899)) (fun _ => rfl) ?_
                    exact ⟨dt899, rfl, hI900, hF902, ⟨_, rfl, ⟨by omega, by omega⟩, ⟨by first | trivial | omega, by first | trivial | omega, by first | assumption | exact hM, by first | trivial | omega, by first | trivial | omega, by first | trivial | omega, by first | trivial | omega, by first | trivial | omega, by first | trivial | omega⟩⟩⟩
                  · exfalso; omega
              · skip
                refine go_if (k := 2) (p1 := 97) (p2 := 90) (L' := [some (.inr (.inr (some 79))), some (.inl p1), some (.inl p2), some (.inl l75_3)]) (st' := []) (w' := (SH, dt699)) (fun _ => rfl) (z_ne (a := p1) ⟨by omega, by omega⟩) (fun c916 => ?_) (fun c916 => ?_)
                · skip
                  refine go_to (k := 1) (pc' := 98) (L' := [some (.inr (.inr (some 79))), some (.inl p1), some (.inl p2), some (.inl l75_3)]) (st' := [.inr (.inr (some 79))]) (w' := (SH, dt699)) (fun _ => rfl) ?_
                  refine go_call (Q' := _) rfl rfl rfl rfl rfl (sp_X6_aLine L xs sio (d + 0) dt699 hI700   (by first | trivial | omega | exact hI4 (by omega) (by omega) | exact hI5 (by omega) (by omega)) (by first | trivial | omega | exact hI4 (by omega) (by omega) | exact hI5 (by omega) (by omega)) (by first | trivial | omega | exact hI4 (by omega) (by omega) | exact hI5 (by omega) (by omega))) ?_
                  rintro _ _ ⟨dt918, rfl, hI919, hF920, h917⟩
                  refine ⟨rfl, ?_⟩
                  have hF921 : Fr [79, 80, 82, 83, 84] dt dt918 := Fr_tr hF701 hF920 (by decide)
                  have hM922 : MW (dt918 80) := MW_fr hM_dt699 hF920 (by decide)
                  have w923 : dt918 80 0 = dt699 80 0 := hF920 80 (by decide) 0
                  have w924 : dt918 80 1 = dt699 80 1 := hF920 80 (by decide) 1
                  have w925 : dt918 80 2 = dt699 80 2 := hF920 80 (by decide) 2
                  have w926 : dt918 80 3 = dt699 80 3 := hF920 80 (by decide) 3
                  have w927 : dt918 80 4 = dt699 80 4 := hF920 80 (by decide) 4
                  have w928 : dt918 80 5 = dt699 80 5 := hF920 80 (by decide) 5
                  rcases h917 with ⟨rfl, h917⟩ | ⟨rfl, h917⟩
                  · skip
                    obtain ⟨h917_0, h917_1, h917_2⟩ := h917
                    have r929 : 0 ≤ dt918 79 10 ∧ dt918 79 10 ≤ 24 := InvC_get hI919 79 10 rfl rfl
                    refine go_to (k := 8) (pc' := 117) (L' := [some (.inr (.inr (some 79))), some (.inl p1), some (.inl p2), some (.inl 0)]) (st' := [.inl ((dt918 79 10) + 0), .inr (.inr (some 79))]) (w' := (SH, dt918)) (fun _ => rfl) ?_
                    have hI930 : InvC (u2 dt918 79 10 ((dt918 79 10) + 0)) := InvC_u2 hI919 (lo := 0) (hi := 24) rfl rfl rfl (by omega) (by omega)
                    have hF931 : Fr [79, 80, 82, 83, 84] dt (u2 dt918 79 10 ((dt918 79 10) + 0)) := Fr_u2 hF921 (by decide)
                    have w932 : (u2 dt918 79 10 ((dt918 79 10) + 0)) 79 2 = dt918 79 2 := rfl
                    have w933 : (u2 dt918 79 10 ((dt918 79 10) + 0)) 79 9 = dt918 79 9 := rfl
                    have w934 : (u2 dt918 79 10 ((dt918 79 10) + 0)) 79 10 = (dt918 79 10) + 0 := rfl
                    have w935 : (u2 dt918 79 10 ((dt918 79 10) + 0)) 79 11 = dt918 79 11 := rfl
                    have w936 : (u2 dt918 79 10 ((dt918 79 10) + 0)) 79 12 = dt918 79 12 := rfl
                    have w937 : (u2 dt918 79 10 ((dt918 79 10) + 0)) 79 13 = dt918 79 13 := rfl
                    have w938 : (u2 dt918 79 10 ((dt918 79 10) + 0)) 79 14 = dt918 79 14 := rfl
                    have w939 : (u2 dt918 79 10 ((dt918 79 10) + 0)) 79 15 = dt918 79 15 := rfl
                    have w940 : (u2 dt918 79 10 ((dt918 79 10) + 0)) 79 16 = dt918 79 16 := rfl
                    have w941 : (u2 dt918 79 10 ((dt918 79 10) + 0)) 79 20 = dt918 79 20 := rfl
                    have w942 : (u2 dt918 79 10 ((dt918 79 10) + 0)) 80 0 = dt918 80 0 := rfl
                    have w943 : (u2 dt918 79 10 ((dt918 79 10) + 0)) 80 1 = dt918 80 1 := rfl
                    have w944 : (u2 dt918 79 10 ((dt918 79 10) + 0)) 80 2 = dt918 80 2 := rfl
                    have w945 : (u2 dt918 79 10 ((dt918 79 10) + 0)) 80 3 = dt918 80 3 := rfl
                    have w946 : (u2 dt918 79 10 ((dt918 79 10) + 0)) 80 4 = dt918 80 4 := rfl
                    have w947 : (u2 dt918 79 10 ((dt918 79 10) + 0)) 80 5 = dt918 80 5 := rfl
                    have E84948 : (u2 dt918 79 10 ((dt918 79 10) + 0)) 84 = dt918 84 := funext fun _ => u2_ne (by omega)
                    refine go_smp (L' := [some (.inr (.inr (some 79))), some (.inl p1), some (.inl p2), some (.inl 0)]) (st' := []) (w' := (SH, (u2 dt918 79 10 ((dt918 79 10) + 0)))) rfl rfl (s_pf rfl rfl rfl rfl ⟨by omega, by omega⟩) ?_
                    refine go_to (k := 1) (pc' := 75) (L' := [some (.inr (.inr (some 79))), some (.inl p1), some (.inl p2), some (.inl 0)]) (st' := []) (w' := (SH, (u2 dt918 79 10 ((dt918 79 10) + 0)))) (fun _ => rfl) ?_
                    exact GO.le (ih_loop717 0 (u2 dt918 79 10 ((dt918 79 10) + 0)) hI930 hF931 hM922 (by omega) (by omega) (by omega) (by omega) (by omega) (by intro _ hz; first | omega | exact ARW_0 (by omega) | exact ARW_s (hI4 (by omega) hz) (by omega) (by assumption) (by assumption) (by omega)) (by intro _ hz; first | omega | exact LRW_0 (by omega) | exact LRW_s (hI5 (by omega) hz) (by omega) (by assumption) (by assumption) (by assumption) (by omega) (by omega)) (by omega) (by omega) (by omega) (by omega) (by omega) (by omega) (by omega) (by omega) (by omega)) ⟨.inl rfl, .inl rfl, .inl rfl, .inl rfl, trivial⟩
                  · skip
                    obtain ⟨h917_0, h917_1, h917_2, h917_3, h917_4, h917_5, h917_6, h917_7, h917_8, h917_9, h917_10, h917_11, h917_12⟩ := h917
                    have r949 : 0 ≤ dt918 79 10 ∧ dt918 79 10 ≤ 24 := InvC_get hI919 79 10 rfl rfl
                    refine go_to (k := 9) (pc' := 117) (L' := [some (.inr (.inr (some 79))), some (.inl p1), some (.inl p2), some (.inl 1)]) (st' := [.inl ((dt918 79 10) + 1), .inr (.inr (some 79))]) (w' := (SH, dt918)) (fun _ => rfl) ?_
                    have hI950 : InvC (u2 dt918 79 10 ((dt918 79 10) + 1)) := InvC_u2 hI919 (lo := 0) (hi := 24) rfl rfl rfl (by omega) (by omega)
                    have hF951 : Fr [79, 80, 82, 83, 84] dt (u2 dt918 79 10 ((dt918 79 10) + 1)) := Fr_u2 hF921 (by decide)
                    have w952 : (u2 dt918 79 10 ((dt918 79 10) + 1)) 79 2 = dt918 79 2 := rfl
                    have w953 : (u2 dt918 79 10 ((dt918 79 10) + 1)) 79 9 = dt918 79 9 := rfl
                    have w954 : (u2 dt918 79 10 ((dt918 79 10) + 1)) 79 10 = (dt918 79 10) + 1 := rfl
                    have w955 : (u2 dt918 79 10 ((dt918 79 10) + 1)) 79 11 = dt918 79 11 := rfl
                    have w956 : (u2 dt918 79 10 ((dt918 79 10) + 1)) 79 12 = dt918 79 12 := rfl
                    have w957 : (u2 dt918 79 10 ((dt918 79 10) + 1)) 79 13 = dt918 79 13 := rfl
                    have w958 : (u2 dt918 79 10 ((dt918 79 10) + 1)) 79 14 = dt918 79 14 := rfl
                    have w959 : (u2 dt918 79 10 ((dt918 79 10) + 1)) 79 15 = dt918 79 15 := rfl
                    have w960 : (u2 dt918 79 10 ((dt918 79 10) + 1)) 79 16 = dt918 79 16 := rfl
                    have w961 : (u2 dt918 79 10 ((dt918 79 10) + 1)) 79 20 = dt918 79 20 := rfl
                    have w962 : (u2 dt918 79 10 ((dt918 79 10) + 1)) 80 0 = dt918 80 0 := rfl
                    have w963 : (u2 dt918 79 10 ((dt918 79 10) + 1)) 80 1 = dt918 80 1 := rfl
                    have w964 : (u2 dt918 79 10 ((dt918 79 10) + 1)) 80 2 = dt918 80 2 := rfl
                    have w965 : (u2 dt918 79 10 ((dt918 79 10) + 1)) 80 3 = dt918 80 3 := rfl
                    have w966 : (u2 dt918 79 10 ((dt918 79 10) + 1)) 80 4 = dt918 80 4 := rfl
                    have w967 : (u2 dt918 79 10 ((dt918 79 10) + 1)) 80 5 = dt918 80 5 := rfl
                    have E84968 : (u2 dt918 79 10 ((dt918 79 10) + 1)) 84 = dt918 84 := funext fun _ => u2_ne (by omega)
                    refine go_smp (L' := [some (.inr (.inr (some 79))), some (.inl p1), some (.inl p2), some (.inl 1)]) (st' := []) (w' := (SH, (u2 dt918 79 10 ((dt918 79 10) + 1)))) rfl rfl (s_pf rfl rfl rfl rfl ⟨by omega, by omega⟩) ?_
                    refine go_to (k := 1) (pc' := 75) (L' := [some (.inr (.inr (some 79))), some (.inl p1), some (.inl p2), some (.inl 1)]) (st' := []) (w' := (SH, (u2 dt918 79 10 ((dt918 79 10) + 1)))) (fun _ => rfl) ?_
                    exact GO.le (ih_loop717 1 (u2 dt918 79 10 ((dt918 79 10) + 1)) hI950 hF951 hM922 (by omega) (by omega) (by omega) (by omega) (by omega) (by intro _ hz; first | omega | exact ARW_0 (by omega) | exact ARW_s (hI4 (by omega) hz) (by omega) (by assumption) (by assumption) (by omega)) (by intro _ hz; first | omega | exact LRW_0 (by omega) | exact LRW_s (hI5 (by omega) hz) (by omega) (by assumption) (by assumption) (by assumption) (by omega) (by omega)) (by omega) (by omega) (by omega) (by omega) (by omega) (by omega) (by omega) (by omega) (by omega)) ⟨.inl rfl, .inl rfl, .inl rfl, .inl rfl, trivial⟩
                · skip
                  refine go_to (k := 1) (pc' := 91) (L' := [some (.inr (.inr (some 79))), some (.inl p1), some (.inl p2), some (.inl l75_3)]) (st' := [.inr (.inr (some 79))]) (w' := (SH, dt699)) (fun _ => rfl) ?_
                  refine go_call (Q' := _) rfl rfl rfl rfl rfl (sp_X6_anAct L xs sio (d + 28) dt699 hI700   (by first | trivial | omega | exact hI4 (by omega) (by omega) | exact hI5 (by omega) (by omega))) ?_
                  rintro _ _ ⟨dt970, rfl, hI971, hF972, h969⟩
                  refine ⟨rfl, ?_⟩
                  have hF973 : Fr [79, 80, 82, 83, 84] dt dt970 := Fr_tr hF701 hF972 (by decide)
                  have hM974 : MW (dt970 80) := MW_fr hM_dt699 hF972 (by decide)
                  have w975 : dt970 80 0 = dt699 80 0 := hF972 80 (by decide) 0
                  have w976 : dt970 80 1 = dt699 80 1 := hF972 80 (by decide) 1
                  have w977 : dt970 80 2 = dt699 80 2 := hF972 80 (by decide) 2
                  have w978 : dt970 80 3 = dt699 80 3 := hF972 80 (by decide) 3
                  have w979 : dt970 80 4 = dt699 80 4 := hF972 80 (by decide) 4
                  have w980 : dt970 80 5 = dt699 80 5 := hF972 80 (by decide) 5
                  have E84981 : dt970 84 = dt699 84 := funext (hF972 84 (by decide))
                  rcases h969 with ⟨rfl, h969⟩ | ⟨rfl, h969⟩
                  · skip
                    obtain ⟨h969_0, h969_1, h969_2⟩ := h969
                    have r982 : 0 ≤ dt970 79 10 ∧ dt970 79 10 ≤ 24 := InvC_get hI971 79 10 rfl rfl
                    refine go_to (k := 9) (pc' := 117) (L' := [some (.inr (.inr (some 79))), some (.inl p1), some (.inl p2), some (.inl 0)]) (st' := [.inl ((dt970 79 10) + 0), .inr (.inr (some 79))]) (w' := (SH, dt970)) (fun _ => rfl) ?_
                    have hI983 : InvC (u2 dt970 79 10 ((dt970 79 10) + 0)) := InvC_u2 hI971 (lo := 0) (hi := 24) rfl rfl rfl (by omega) (by omega)
                    have hF984 : Fr [79, 80, 82, 83, 84] dt (u2 dt970 79 10 ((dt970 79 10) + 0)) := Fr_u2 hF973 (by decide)
                    have w985 : (u2 dt970 79 10 ((dt970 79 10) + 0)) 79 2 = dt970 79 2 := rfl
                    have w986 : (u2 dt970 79 10 ((dt970 79 10) + 0)) 79 9 = dt970 79 9 := rfl
                    have w987 : (u2 dt970 79 10 ((dt970 79 10) + 0)) 79 10 = (dt970 79 10) + 0 := rfl
                    have w988 : (u2 dt970 79 10 ((dt970 79 10) + 0)) 79 11 = dt970 79 11 := rfl
                    have w989 : (u2 dt970 79 10 ((dt970 79 10) + 0)) 79 12 = dt970 79 12 := rfl
                    have w990 : (u2 dt970 79 10 ((dt970 79 10) + 0)) 79 13 = dt970 79 13 := rfl
                    have w991 : (u2 dt970 79 10 ((dt970 79 10) + 0)) 79 14 = dt970 79 14 := rfl
                    have w992 : (u2 dt970 79 10 ((dt970 79 10) + 0)) 79 15 = dt970 79 15 := rfl
                    have w993 : (u2 dt970 79 10 ((dt970 79 10) + 0)) 79 16 = dt970 79 16 := rfl
                    have w994 : (u2 dt970 79 10 ((dt970 79 10) + 0)) 79 20 = dt970 79 20 := rfl
                    have w995 : (u2 dt970 79 10 ((dt970 79 10) + 0)) 80 0 = dt970 80 0 := rfl
                    have w996 : (u2 dt970 79 10 ((dt970 79 10) + 0)) 80 1 = dt970 80 1 := rfl
                    have w997 : (u2 dt970 79 10 ((dt970 79 10) + 0)) 80 2 = dt970 80 2 := rfl
                    have w998 : (u2 dt970 79 10 ((dt970 79 10) + 0)) 80 3 = dt970 80 3 := rfl
                    have w999 : (u2 dt970 79 10 ((dt970 79 10) + 0)) 80 4 = dt970 80 4 := rfl
                    have w1000 : (u2 dt970 79 10 ((dt970 79 10) + 0)) 80 5 = dt970 80 5 := rfl
                    have E841001 : (u2 dt970 79 10 ((dt970 79 10) + 0)) 84 = dt699 84 := (funext fun _ => u2_ne (by omega)).trans E84981
                    refine go_smp (L' := [some (.inr (.inr (some 79))), some (.inl p1), some (.inl p2), some (.inl 0)]) (st' := []) (w' := (SH, (u2 dt970 79 10 ((dt970 79 10) + 0)))) rfl rfl (s_pf rfl rfl rfl rfl ⟨by omega, by omega⟩) ?_
                    refine go_to (k := 1) (pc' := 75) (L' := [some (.inr (.inr (some 79))), some (.inl p1), some (.inl p2), some (.inl 0)]) (st' := []) (w' := (SH, (u2 dt970 79 10 ((dt970 79 10) + 0)))) (fun _ => rfl) ?_
                    exact GO.le (ih_loop717 0 (u2 dt970 79 10 ((dt970 79 10) + 0)) hI983 hF984 hM974 (by omega) (by omega) (by omega) (by omega) (by omega) (by intro _ hz; first | omega | exact ARW_0 (by omega) | exact ARW_s (hI4 (by omega) hz) (by omega) (by assumption) (by assumption) (by omega)) (by intro _ hz; first | omega | exact LRW_0 (by omega) | exact LRW_s (hI5 (by omega) hz) (by omega) (by assumption) (by assumption) (by assumption) (by omega) (by omega)) (by omega) (by omega) (by omega) (by omega) (by omega) (by omega) (by omega) (by omega) (by omega)) ⟨.inl rfl, .inl rfl, .inl rfl, .inl rfl, trivial⟩
                  · skip
                    obtain ⟨h969_0, h969_1, h969_2, h969_3, h969_4, h969_5, h969_6, h969_7, h969_8, h969_9, h969_10⟩ := h969
                    have r1002 : 0 ≤ dt970 79 10 ∧ dt970 79 10 ≤ 24 := InvC_get hI971 79 10 rfl rfl
                    refine go_to (k := 10) (pc' := 117) (L' := [some (.inr (.inr (some 79))), some (.inl p1), some (.inl p2), some (.inl 1)]) (st' := [.inl ((dt970 79 10) + 1), .inr (.inr (some 79))]) (w' := (SH, dt970)) (fun _ => rfl) ?_
                    have hI1003 : InvC (u2 dt970 79 10 ((dt970 79 10) + 1)) := InvC_u2 hI971 (lo := 0) (hi := 24) rfl rfl rfl (by omega) (by omega)
                    have hF1004 : Fr [79, 80, 82, 83, 84] dt (u2 dt970 79 10 ((dt970 79 10) + 1)) := Fr_u2 hF973 (by decide)
                    have w1005 : (u2 dt970 79 10 ((dt970 79 10) + 1)) 79 2 = dt970 79 2 := rfl
                    have w1006 : (u2 dt970 79 10 ((dt970 79 10) + 1)) 79 9 = dt970 79 9 := rfl
                    have w1007 : (u2 dt970 79 10 ((dt970 79 10) + 1)) 79 10 = (dt970 79 10) + 1 := rfl
                    have w1008 : (u2 dt970 79 10 ((dt970 79 10) + 1)) 79 11 = dt970 79 11 := rfl
                    have w1009 : (u2 dt970 79 10 ((dt970 79 10) + 1)) 79 12 = dt970 79 12 := rfl
                    have w1010 : (u2 dt970 79 10 ((dt970 79 10) + 1)) 79 13 = dt970 79 13 := rfl
                    have w1011 : (u2 dt970 79 10 ((dt970 79 10) + 1)) 79 14 = dt970 79 14 := rfl
                    have w1012 : (u2 dt970 79 10 ((dt970 79 10) + 1)) 79 15 = dt970 79 15 := rfl
                    have w1013 : (u2 dt970 79 10 ((dt970 79 10) + 1)) 79 16 = dt970 79 16 := rfl
                    have w1014 : (u2 dt970 79 10 ((dt970 79 10) + 1)) 79 20 = dt970 79 20 := rfl
                    have w1015 : (u2 dt970 79 10 ((dt970 79 10) + 1)) 80 0 = dt970 80 0 := rfl
                    have w1016 : (u2 dt970 79 10 ((dt970 79 10) + 1)) 80 1 = dt970 80 1 := rfl
                    have w1017 : (u2 dt970 79 10 ((dt970 79 10) + 1)) 80 2 = dt970 80 2 := rfl
                    have w1018 : (u2 dt970 79 10 ((dt970 79 10) + 1)) 80 3 = dt970 80 3 := rfl
                    have w1019 : (u2 dt970 79 10 ((dt970 79 10) + 1)) 80 4 = dt970 80 4 := rfl
                    have w1020 : (u2 dt970 79 10 ((dt970 79 10) + 1)) 80 5 = dt970 80 5 := rfl
                    have E841021 : (u2 dt970 79 10 ((dt970 79 10) + 1)) 84 = dt699 84 := (funext fun _ => u2_ne (by omega)).trans E84981
                    refine go_smp (L' := [some (.inr (.inr (some 79))), some (.inl p1), some (.inl p2), some (.inl 1)]) (st' := []) (w' := (SH, (u2 dt970 79 10 ((dt970 79 10) + 1)))) rfl rfl (s_pf rfl rfl rfl rfl ⟨by omega, by omega⟩) ?_
                    refine go_to (k := 1) (pc' := 75) (L' := [some (.inr (.inr (some 79))), some (.inl p1), some (.inl p2), some (.inl 1)]) (st' := []) (w' := (SH, (u2 dt970 79 10 ((dt970 79 10) + 1)))) (fun _ => rfl) ?_
                    exact GO.le (ih_loop717 1 (u2 dt970 79 10 ((dt970 79 10) + 1)) hI1003 hF1004 hM974 (by omega) (by omega) (by omega) (by omega) (by omega) (by intro _ hz; first | omega | exact ARW_0 (by omega) | exact ARW_s (hI4 (by omega) hz) (by omega) (by assumption) (by assumption) (by omega)) (by intro _ hz; first | omega | exact LRW_0 (by omega) | exact LRW_s (hI5 (by omega) hz) (by omega) (by assumption) (by assumption) (by assumption) (by omega) (by omega)) (by omega) (by omega) (by omega) (by omega) (by omega) (by omega) (by omega) (by omega) (by omega)) ⟨.inl rfl, .inl rfl, .inl rfl, .inl rfl, trivial⟩
        exact GO.le (loop717 _ 1 dt577 hI578 hF580 hM581 (by omega) (by omega) (by omega) (by omega) (by omega) (by intro _ hz; first | omega | exact ARW_0 (by omega) | exact ARW_s (hI4 (by omega) hz) (by omega) (by assumption) (by assumption) (by omega)) (by intro _ hz; first | omega | exact LRW_0 (by omega) | exact LRW_s (hI5 (by omega) hz) (by omega) (by assumption) (by assumption) (by assumption) (by omega) (by omega)) (by omega) (by omega) (by omega) (by omega) (by omega) (by omega) (by omega) (by omega) (Nat.lt_succ_self _)) ⟨.inl rfl, .inl rfl, .inl rfl, .inl rfl, trivial⟩
      · skip
        refine go_to (k := 3) (pc' := 34) (L' := [some (.inr (.inr (some 79))), some (.inl p1), some (.inl p2), none]) (st' := [.inl 0, .inr (.inr (some 79))]) (w' := (SH, (u2 dt 79 17 0))) (fun _ => rfl) ?_
        have hI1022 : InvC (u2 (u2 dt 79 17 0) 79 12 0) := InvC_u2 hI4 (lo := 0) (hi := 500) rfl rfl rfl (by omega) (by omega)
        have hF1023 : Fr [79, 80, 82, 83, 84] dt (u2 (u2 dt 79 17 0) 79 12 0) := Fr_u2 hF5 (by decide)
        have w1024 : (u2 (u2 dt 79 17 0) 79 12 0) 79 2 = (u2 dt 79 17 0) 79 2 := rfl
        have w1025 : (u2 (u2 dt 79 17 0) 79 12 0) 79 9 = (u2 dt 79 17 0) 79 9 := rfl
        have w1026 : (u2 (u2 dt 79 17 0) 79 12 0) 79 10 = (u2 dt 79 17 0) 79 10 := rfl
        have w1027 : (u2 (u2 dt 79 17 0) 79 12 0) 79 11 = (u2 dt 79 17 0) 79 11 := rfl
        have w1028 : (u2 (u2 dt 79 17 0) 79 12 0) 79 12 = 0 := rfl
        have w1029 : (u2 (u2 dt 79 17 0) 79 12 0) 79 13 = (u2 dt 79 17 0) 79 13 := rfl
        have w1030 : (u2 (u2 dt 79 17 0) 79 12 0) 79 14 = (u2 dt 79 17 0) 79 14 := rfl
        have w1031 : (u2 (u2 dt 79 17 0) 79 12 0) 79 15 = (u2 dt 79 17 0) 79 15 := rfl
        have w1032 : (u2 (u2 dt 79 17 0) 79 12 0) 79 16 = (u2 dt 79 17 0) 79 16 := rfl
        have w1033 : (u2 (u2 dt 79 17 0) 79 12 0) 79 20 = (u2 dt 79 17 0) 79 20 := rfl
        have w1034 : (u2 (u2 dt 79 17 0) 79 12 0) 80 0 = (u2 dt 79 17 0) 80 0 := rfl
        have w1035 : (u2 (u2 dt 79 17 0) 79 12 0) 80 1 = (u2 dt 79 17 0) 80 1 := rfl
        have w1036 : (u2 (u2 dt 79 17 0) 79 12 0) 80 2 = (u2 dt 79 17 0) 80 2 := rfl
        have w1037 : (u2 (u2 dt 79 17 0) 79 12 0) 80 3 = (u2 dt 79 17 0) 80 3 := rfl
        have w1038 : (u2 (u2 dt 79 17 0) 79 12 0) 80 4 = (u2 dt 79 17 0) 80 4 := rfl
        have w1039 : (u2 (u2 dt 79 17 0) 79 12 0) 80 5 = (u2 dt 79 17 0) 80 5 := rfl
        have E841040 : (u2 (u2 dt 79 17 0) 79 12 0) 84 = dt 84 := (funext fun _ => u2_ne (by omega)).trans E8422
        refine go_smp (L' := [some (.inr (.inr (some 79))), some (.inl p1), some (.inl p2), none]) (st' := []) (w' := (SH, (u2 (u2 dt 79 17 0) 79 12 0))) rfl rfl (s_pf rfl rfl rfl rfl ⟨by omega, by omega⟩) ?_
        refine go_to (k := 2) (pc' := 39) (L' := [some (.inr (.inr (some 79))), some (.inl p1), some (.inl p2), none]) (st' := [.inl 0, .inr (.inr (some 79))]) (w' := (SH, (u2 (u2 dt 79 17 0) 79 12 0))) (fun _ => rfl) ?_
        have hI1041 : InvC (u2 (u2 (u2 dt 79 17 0) 79 12 0) 79 19 0) := InvC_u2 hI1022 (lo := -2147483648) (hi := 2147483647) rfl rfl rfl (by omega) (by omega)
        have hF1042 : Fr [79, 80, 82, 83, 84] dt (u2 (u2 (u2 dt 79 17 0) 79 12 0) 79 19 0) := Fr_u2 hF1023 (by decide)
        have w1043 : (u2 (u2 (u2 dt 79 17 0) 79 12 0) 79 19 0) 79 2 = (u2 (u2 dt 79 17 0) 79 12 0) 79 2 := rfl
        have w1044 : (u2 (u2 (u2 dt 79 17 0) 79 12 0) 79 19 0) 79 9 = (u2 (u2 dt 79 17 0) 79 12 0) 79 9 := rfl
        have w1045 : (u2 (u2 (u2 dt 79 17 0) 79 12 0) 79 19 0) 79 10 = (u2 (u2 dt 79 17 0) 79 12 0) 79 10 := rfl
        have w1046 : (u2 (u2 (u2 dt 79 17 0) 79 12 0) 79 19 0) 79 11 = (u2 (u2 dt 79 17 0) 79 12 0) 79 11 := rfl
        have w1047 : (u2 (u2 (u2 dt 79 17 0) 79 12 0) 79 19 0) 79 12 = (u2 (u2 dt 79 17 0) 79 12 0) 79 12 := rfl
        have w1048 : (u2 (u2 (u2 dt 79 17 0) 79 12 0) 79 19 0) 79 13 = (u2 (u2 dt 79 17 0) 79 12 0) 79 13 := rfl
        have w1049 : (u2 (u2 (u2 dt 79 17 0) 79 12 0) 79 19 0) 79 14 = (u2 (u2 dt 79 17 0) 79 12 0) 79 14 := rfl
        have w1050 : (u2 (u2 (u2 dt 79 17 0) 79 12 0) 79 19 0) 79 15 = (u2 (u2 dt 79 17 0) 79 12 0) 79 15 := rfl
        have w1051 : (u2 (u2 (u2 dt 79 17 0) 79 12 0) 79 19 0) 79 16 = (u2 (u2 dt 79 17 0) 79 12 0) 79 16 := rfl
        have w1052 : (u2 (u2 (u2 dt 79 17 0) 79 12 0) 79 19 0) 79 20 = (u2 (u2 dt 79 17 0) 79 12 0) 79 20 := rfl
        have w1053 : (u2 (u2 (u2 dt 79 17 0) 79 12 0) 79 19 0) 80 0 = (u2 (u2 dt 79 17 0) 79 12 0) 80 0 := rfl
        have w1054 : (u2 (u2 (u2 dt 79 17 0) 79 12 0) 79 19 0) 80 1 = (u2 (u2 dt 79 17 0) 79 12 0) 80 1 := rfl
        have w1055 : (u2 (u2 (u2 dt 79 17 0) 79 12 0) 79 19 0) 80 2 = (u2 (u2 dt 79 17 0) 79 12 0) 80 2 := rfl
        have w1056 : (u2 (u2 (u2 dt 79 17 0) 79 12 0) 79 19 0) 80 3 = (u2 (u2 dt 79 17 0) 79 12 0) 80 3 := rfl
        have w1057 : (u2 (u2 (u2 dt 79 17 0) 79 12 0) 79 19 0) 80 4 = (u2 (u2 dt 79 17 0) 79 12 0) 80 4 := rfl
        have w1058 : (u2 (u2 (u2 dt 79 17 0) 79 12 0) 79 19 0) 80 5 = (u2 (u2 dt 79 17 0) 79 12 0) 80 5 := rfl
        have E841059 : (u2 (u2 (u2 dt 79 17 0) 79 12 0) 79 19 0) 84 = dt 84 := (funext fun _ => u2_ne (by omega)).trans E841040
        refine go_smp (L' := [some (.inr (.inr (some 79))), some (.inl p1), some (.inl p2), none]) (st' := []) (w' := (SH, (u2 (u2 (u2 dt 79 17 0) 79 12 0) 79 19 0))) rfl rfl (s_pf rfl rfl rfl rfl ⟨by omega, by omega⟩) ?_
        refine go_to (k := 2) (pc' := 44) (L' := [some (.inr (.inr (some 79))), some (.inl p1), some (.inl p2), none]) (st' := [.inl (-1), .inr (.inr (some 79))]) (w' := (SH, (u2 (u2 (u2 dt 79 17 0) 79 12 0) 79 19 0))) (fun _ => rfl) ?_
        have hI1060 : InvC (u2 (u2 (u2 (u2 dt 79 17 0) 79 12 0) 79 19 0) 79 21 (-1)) := InvC_u2 hI1041 (lo := -2147483648) (hi := 2147483647) rfl rfl rfl (by omega) (by omega)
        have hF1061 : Fr [79, 80, 82, 83, 84] dt (u2 (u2 (u2 (u2 dt 79 17 0) 79 12 0) 79 19 0) 79 21 (-1)) := Fr_u2 hF1042 (by decide)
        have w1062 : (u2 (u2 (u2 (u2 dt 79 17 0) 79 12 0) 79 19 0) 79 21 (-1)) 79 2 = (u2 (u2 (u2 dt 79 17 0) 79 12 0) 79 19 0) 79 2 := rfl
        have w1063 : (u2 (u2 (u2 (u2 dt 79 17 0) 79 12 0) 79 19 0) 79 21 (-1)) 79 9 = (u2 (u2 (u2 dt 79 17 0) 79 12 0) 79 19 0) 79 9 := rfl
        have w1064 : (u2 (u2 (u2 (u2 dt 79 17 0) 79 12 0) 79 19 0) 79 21 (-1)) 79 10 = (u2 (u2 (u2 dt 79 17 0) 79 12 0) 79 19 0) 79 10 := rfl
        have w1065 : (u2 (u2 (u2 (u2 dt 79 17 0) 79 12 0) 79 19 0) 79 21 (-1)) 79 11 = (u2 (u2 (u2 dt 79 17 0) 79 12 0) 79 19 0) 79 11 := rfl
        have w1066 : (u2 (u2 (u2 (u2 dt 79 17 0) 79 12 0) 79 19 0) 79 21 (-1)) 79 12 = (u2 (u2 (u2 dt 79 17 0) 79 12 0) 79 19 0) 79 12 := rfl
        have w1067 : (u2 (u2 (u2 (u2 dt 79 17 0) 79 12 0) 79 19 0) 79 21 (-1)) 79 13 = (u2 (u2 (u2 dt 79 17 0) 79 12 0) 79 19 0) 79 13 := rfl
        have w1068 : (u2 (u2 (u2 (u2 dt 79 17 0) 79 12 0) 79 19 0) 79 21 (-1)) 79 14 = (u2 (u2 (u2 dt 79 17 0) 79 12 0) 79 19 0) 79 14 := rfl
        have w1069 : (u2 (u2 (u2 (u2 dt 79 17 0) 79 12 0) 79 19 0) 79 21 (-1)) 79 15 = (u2 (u2 (u2 dt 79 17 0) 79 12 0) 79 19 0) 79 15 := rfl
        have w1070 : (u2 (u2 (u2 (u2 dt 79 17 0) 79 12 0) 79 19 0) 79 21 (-1)) 79 16 = (u2 (u2 (u2 dt 79 17 0) 79 12 0) 79 19 0) 79 16 := rfl
        have w1071 : (u2 (u2 (u2 (u2 dt 79 17 0) 79 12 0) 79 19 0) 79 21 (-1)) 79 20 = (u2 (u2 (u2 dt 79 17 0) 79 12 0) 79 19 0) 79 20 := rfl
        have w1072 : (u2 (u2 (u2 (u2 dt 79 17 0) 79 12 0) 79 19 0) 79 21 (-1)) 80 0 = (u2 (u2 (u2 dt 79 17 0) 79 12 0) 79 19 0) 80 0 := rfl
        have w1073 : (u2 (u2 (u2 (u2 dt 79 17 0) 79 12 0) 79 19 0) 79 21 (-1)) 80 1 = (u2 (u2 (u2 dt 79 17 0) 79 12 0) 79 19 0) 80 1 := rfl
        have w1074 : (u2 (u2 (u2 (u2 dt 79 17 0) 79 12 0) 79 19 0) 79 21 (-1)) 80 2 = (u2 (u2 (u2 dt 79 17 0) 79 12 0) 79 19 0) 80 2 := rfl
        have w1075 : (u2 (u2 (u2 (u2 dt 79 17 0) 79 12 0) 79 19 0) 79 21 (-1)) 80 3 = (u2 (u2 (u2 dt 79 17 0) 79 12 0) 79 19 0) 80 3 := rfl
        have w1076 : (u2 (u2 (u2 (u2 dt 79 17 0) 79 12 0) 79 19 0) 79 21 (-1)) 80 4 = (u2 (u2 (u2 dt 79 17 0) 79 12 0) 79 19 0) 80 4 := rfl
        have w1077 : (u2 (u2 (u2 (u2 dt 79 17 0) 79 12 0) 79 19 0) 79 21 (-1)) 80 5 = (u2 (u2 (u2 dt 79 17 0) 79 12 0) 79 19 0) 80 5 := rfl
        have E841078 : (u2 (u2 (u2 (u2 dt 79 17 0) 79 12 0) 79 19 0) 79 21 (-1)) 84 = dt 84 := (funext fun _ => u2_ne (by omega)).trans E841059
        refine go_smp (L' := [some (.inr (.inr (some 79))), some (.inl p1), some (.inl p2), none]) (st' := []) (w' := (SH, (u2 (u2 (u2 (u2 dt 79 17 0) 79 12 0) 79 19 0) 79 21 (-1)))) rfl rfl (s_pf rfl rfl rfl rfl ⟨by omega, by omega⟩) ?_
        refine go_ret (k := 2) (r := some (.inl (-1))) (w1 := (SH, (u2 (u2 (u2 (u2 dt 79 17 0) 79 12 0) 79 19 0) 79 21 (-1)))) (fun _ => rfl) ?_
        exact ⟨(u2 (u2 (u2 (u2 dt 79 17 0) 79 12 0) 79 19 0) 79 21 (-1)), rfl, hI1060, hF1061, ⟨_, rfl, ⟨by omega, by omega⟩, ⟨by first | trivial | omega, by first | trivial | omega, by first | assumption | exact hM, by first | trivial | omega, by first | trivial | omega, by first | trivial | omega, by first | trivial | omega, by first | trivial | omega, by first | trivial | omega⟩⟩⟩
  · skip
    refine go_to (k := 3) (pc' := 34) (L' := [some (.inr (.inr (some 79))), some (.inl p1), some (.inl p2), none]) (st' := [.inl 0, .inr (.inr (some 79))]) (w' := (SH, (u2 dt 79 17 0))) (fun _ => rfl) ?_
    have hI1079 : InvC (u2 (u2 dt 79 17 0) 79 12 0) := InvC_u2 hI4 (lo := 0) (hi := 500) rfl rfl rfl (by omega) (by omega)
    have hF1080 : Fr [79, 80, 82, 83, 84] dt (u2 (u2 dt 79 17 0) 79 12 0) := Fr_u2 hF5 (by decide)
    have w1081 : (u2 (u2 dt 79 17 0) 79 12 0) 79 2 = (u2 dt 79 17 0) 79 2 := rfl
    have w1082 : (u2 (u2 dt 79 17 0) 79 12 0) 79 9 = (u2 dt 79 17 0) 79 9 := rfl
    have w1083 : (u2 (u2 dt 79 17 0) 79 12 0) 79 10 = (u2 dt 79 17 0) 79 10 := rfl
    have w1084 : (u2 (u2 dt 79 17 0) 79 12 0) 79 11 = (u2 dt 79 17 0) 79 11 := rfl
    have w1085 : (u2 (u2 dt 79 17 0) 79 12 0) 79 12 = 0 := rfl
    have w1086 : (u2 (u2 dt 79 17 0) 79 12 0) 79 13 = (u2 dt 79 17 0) 79 13 := rfl
    have w1087 : (u2 (u2 dt 79 17 0) 79 12 0) 79 14 = (u2 dt 79 17 0) 79 14 := rfl
    have w1088 : (u2 (u2 dt 79 17 0) 79 12 0) 79 15 = (u2 dt 79 17 0) 79 15 := rfl
    have w1089 : (u2 (u2 dt 79 17 0) 79 12 0) 79 16 = (u2 dt 79 17 0) 79 16 := rfl
    have w1090 : (u2 (u2 dt 79 17 0) 79 12 0) 79 20 = (u2 dt 79 17 0) 79 20 := rfl
    have w1091 : (u2 (u2 dt 79 17 0) 79 12 0) 80 0 = (u2 dt 79 17 0) 80 0 := rfl
    have w1092 : (u2 (u2 dt 79 17 0) 79 12 0) 80 1 = (u2 dt 79 17 0) 80 1 := rfl
    have w1093 : (u2 (u2 dt 79 17 0) 79 12 0) 80 2 = (u2 dt 79 17 0) 80 2 := rfl
    have w1094 : (u2 (u2 dt 79 17 0) 79 12 0) 80 3 = (u2 dt 79 17 0) 80 3 := rfl
    have w1095 : (u2 (u2 dt 79 17 0) 79 12 0) 80 4 = (u2 dt 79 17 0) 80 4 := rfl
    have w1096 : (u2 (u2 dt 79 17 0) 79 12 0) 80 5 = (u2 dt 79 17 0) 80 5 := rfl
    have E841097 : (u2 (u2 dt 79 17 0) 79 12 0) 84 = dt 84 := (funext fun _ => u2_ne (by omega)).trans E8422
    refine go_smp (L' := [some (.inr (.inr (some 79))), some (.inl p1), some (.inl p2), none]) (st' := []) (w' := (SH, (u2 (u2 dt 79 17 0) 79 12 0))) rfl rfl (s_pf rfl rfl rfl rfl ⟨by omega, by omega⟩) ?_
    refine go_to (k := 2) (pc' := 39) (L' := [some (.inr (.inr (some 79))), some (.inl p1), some (.inl p2), none]) (st' := [.inl 0, .inr (.inr (some 79))]) (w' := (SH, (u2 (u2 dt 79 17 0) 79 12 0))) (fun _ => rfl) ?_
    have hI1098 : InvC (u2 (u2 (u2 dt 79 17 0) 79 12 0) 79 19 0) := InvC_u2 hI1079 (lo := -2147483648) (hi := 2147483647) rfl rfl rfl (by omega) (by omega)
    have hF1099 : Fr [79, 80, 82, 83, 84] dt (u2 (u2 (u2 dt 79 17 0) 79 12 0) 79 19 0) := Fr_u2 hF1080 (by decide)
    have w1100 : (u2 (u2 (u2 dt 79 17 0) 79 12 0) 79 19 0) 79 2 = (u2 (u2 dt 79 17 0) 79 12 0) 79 2 := rfl
    have w1101 : (u2 (u2 (u2 dt 79 17 0) 79 12 0) 79 19 0) 79 9 = (u2 (u2 dt 79 17 0) 79 12 0) 79 9 := rfl
    have w1102 : (u2 (u2 (u2 dt 79 17 0) 79 12 0) 79 19 0) 79 10 = (u2 (u2 dt 79 17 0) 79 12 0) 79 10 := rfl
    have w1103 : (u2 (u2 (u2 dt 79 17 0) 79 12 0) 79 19 0) 79 11 = (u2 (u2 dt 79 17 0) 79 12 0) 79 11 := rfl
    have w1104 : (u2 (u2 (u2 dt 79 17 0) 79 12 0) 79 19 0) 79 12 = (u2 (u2 dt 79 17 0) 79 12 0) 79 12 := rfl
    have w1105 : (u2 (u2 (u2 dt 79 17 0) 79 12 0) 79 19 0) 79 13 = (u2 (u2 dt 79 17 0) 79 12 0) 79 13 := rfl
    have w1106 : (u2 (u2 (u2 dt 79 17 0) 79 12 0) 79 19 0) 79 14 = (u2 (u2 dt 79 17 0) 79 12 0) 79 14 := rfl
    have w1107 : (u2 (u2 (u2 dt 79 17 0) 79 12 0) 79 19 0) 79 15 = (u2 (u2 dt 79 17 0) 79 12 0) 79 15 := rfl
    have w1108 : (u2 (u2 (u2 dt 79 17 0) 79 12 0) 79 19 0) 79 16 = (u2 (u2 dt 79 17 0) 79 12 0) 79 16 := rfl
    have w1109 : (u2 (u2 (u2 dt 79 17 0) 79 12 0) 79 19 0) 79 20 = (u2 (u2 dt 79 17 0) 79 12 0) 79 20 := rfl
    have w1110 : (u2 (u2 (u2 dt 79 17 0) 79 12 0) 79 19 0) 80 0 = (u2 (u2 dt 79 17 0) 79 12 0) 80 0 := rfl
    have w1111 : (u2 (u2 (u2 dt 79 17 0) 79 12 0) 79 19 0) 80 1 = (u2 (u2 dt 79 17 0) 79 12 0) 80 1 := rfl
    have w1112 : (u2 (u2 (u2 dt 79 17 0) 79 12 0) 79 19 0) 80 2 = (u2 (u2 dt 79 17 0) 79 12 0) 80 2 := rfl
    have w1113 : (u2 (u2 (u2 dt 79 17 0) 79 12 0) 79 19 0) 80 3 = (u2 (u2 dt 79 17 0) 79 12 0) 80 3 := rfl
    have w1114 : (u2 (u2 (u2 dt 79 17 0) 79 12 0) 79 19 0) 80 4 = (u2 (u2 dt 79 17 0) 79 12 0) 80 4 := rfl
    have w1115 : (u2 (u2 (u2 dt 79 17 0) 79 12 0) 79 19 0) 80 5 = (u2 (u2 dt 79 17 0) 79 12 0) 80 5 := rfl
    have E841116 : (u2 (u2 (u2 dt 79 17 0) 79 12 0) 79 19 0) 84 = dt 84 := (funext fun _ => u2_ne (by omega)).trans E841097
    refine go_smp (L' := [some (.inr (.inr (some 79))), some (.inl p1), some (.inl p2), none]) (st' := []) (w' := (SH, (u2 (u2 (u2 dt 79 17 0) 79 12 0) 79 19 0))) rfl rfl (s_pf rfl rfl rfl rfl ⟨by omega, by omega⟩) ?_
    refine go_to (k := 2) (pc' := 44) (L' := [some (.inr (.inr (some 79))), some (.inl p1), some (.inl p2), none]) (st' := [.inl (-1), .inr (.inr (some 79))]) (w' := (SH, (u2 (u2 (u2 dt 79 17 0) 79 12 0) 79 19 0))) (fun _ => rfl) ?_
    have hI1117 : InvC (u2 (u2 (u2 (u2 dt 79 17 0) 79 12 0) 79 19 0) 79 21 (-1)) := InvC_u2 hI1098 (lo := -2147483648) (hi := 2147483647) rfl rfl rfl (by omega) (by omega)
    have hF1118 : Fr [79, 80, 82, 83, 84] dt (u2 (u2 (u2 (u2 dt 79 17 0) 79 12 0) 79 19 0) 79 21 (-1)) := Fr_u2 hF1099 (by decide)
    have w1119 : (u2 (u2 (u2 (u2 dt 79 17 0) 79 12 0) 79 19 0) 79 21 (-1)) 79 2 = (u2 (u2 (u2 dt 79 17 0) 79 12 0) 79 19 0) 79 2 := rfl
    have w1120 : (u2 (u2 (u2 (u2 dt 79 17 0) 79 12 0) 79 19 0) 79 21 (-1)) 79 9 = (u2 (u2 (u2 dt 79 17 0) 79 12 0) 79 19 0) 79 9 := rfl
    have w1121 : (u2 (u2 (u2 (u2 dt 79 17 0) 79 12 0) 79 19 0) 79 21 (-1)) 79 10 = (u2 (u2 (u2 dt 79 17 0) 79 12 0) 79 19 0) 79 10 := rfl
    have w1122 : (u2 (u2 (u2 (u2 dt 79 17 0) 79 12 0) 79 19 0) 79 21 (-1)) 79 11 = (u2 (u2 (u2 dt 79 17 0) 79 12 0) 79 19 0) 79 11 := rfl
    have w1123 : (u2 (u2 (u2 (u2 dt 79 17 0) 79 12 0) 79 19 0) 79 21 (-1)) 79 12 = (u2 (u2 (u2 dt 79 17 0) 79 12 0) 79 19 0) 79 12 := rfl
    have w1124 : (u2 (u2 (u2 (u2 dt 79 17 0) 79 12 0) 79 19 0) 79 21 (-1)) 79 13 = (u2 (u2 (u2 dt 79 17 0) 79 12 0) 79 19 0) 79 13 := rfl
    have w1125 : (u2 (u2 (u2 (u2 dt 79 17 0) 79 12 0) 79 19 0) 79 21 (-1)) 79 14 = (u2 (u2 (u2 dt 79 17 0) 79 12 0) 79 19 0) 79 14 := rfl
    have w1126 : (u2 (u2 (u2 (u2 dt 79 17 0) 79 12 0) 79 19 0) 79 21 (-1)) 79 15 = (u2 (u2 (u2 dt 79 17 0) 79 12 0) 79 19 0) 79 15 := rfl
    have w1127 : (u2 (u2 (u2 (u2 dt 79 17 0) 79 12 0) 79 19 0) 79 21 (-1)) 79 16 = (u2 (u2 (u2 dt 79 17 0) 79 12 0) 79 19 0) 79 16 := rfl
    have w1128 : (u2 (u2 (u2 (u2 dt 79 17 0) 79 12 0) 79 19 0) 79 21 (-1)) 79 20 = (u2 (u2 (u2 dt 79 17 0) 79 12 0) 79 19 0) 79 20 := rfl
    have w1129 : (u2 (u2 (u2 (u2 dt 79 17 0) 79 12 0) 79 19 0) 79 21 (-1)) 80 0 = (u2 (u2 (u2 dt 79 17 0) 79 12 0) 79 19 0) 80 0 := rfl
    have w1130 : (u2 (u2 (u2 (u2 dt 79 17 0) 79 12 0) 79 19 0) 79 21 (-1)) 80 1 = (u2 (u2 (u2 dt 79 17 0) 79 12 0) 79 19 0) 80 1 := rfl
    have w1131 : (u2 (u2 (u2 (u2 dt 79 17 0) 79 12 0) 79 19 0) 79 21 (-1)) 80 2 = (u2 (u2 (u2 dt 79 17 0) 79 12 0) 79 19 0) 80 2 := rfl
    have w1132 : (u2 (u2 (u2 (u2 dt 79 17 0) 79 12 0) 79 19 0) 79 21 (-1)) 80 3 = (u2 (u2 (u2 dt 79 17 0) 79 12 0) 79 19 0) 80 3 := rfl
    have w1133 : (u2 (u2 (u2 (u2 dt 79 17 0) 79 12 0) 79 19 0) 79 21 (-1)) 80 4 = (u2 (u2 (u2 dt 79 17 0) 79 12 0) 79 19 0) 80 4 := rfl
    have w1134 : (u2 (u2 (u2 (u2 dt 79 17 0) 79 12 0) 79 19 0) 79 21 (-1)) 80 5 = (u2 (u2 (u2 dt 79 17 0) 79 12 0) 79 19 0) 80 5 := rfl
    have E841135 : (u2 (u2 (u2 (u2 dt 79 17 0) 79 12 0) 79 19 0) 79 21 (-1)) 84 = dt 84 := (funext fun _ => u2_ne (by omega)).trans E841116
    refine go_smp (L' := [some (.inr (.inr (some 79))), some (.inl p1), some (.inl p2), none]) (st' := []) (w' := (SH, (u2 (u2 (u2 (u2 dt 79 17 0) 79 12 0) 79 19 0) 79 21 (-1)))) rfl rfl (s_pf rfl rfl rfl rfl ⟨by omega, by omega⟩) ?_
    refine go_ret (k := 2) (r := some (.inl (-1))) (w1 := (SH, (u2 (u2 (u2 (u2 dt 79 17 0) 79 12 0) 79 19 0) 79 21 (-1)))) (fun _ => rfl) ?_
    exact ⟨(u2 (u2 (u2 (u2 dt 79 17 0) 79 12 0) 79 19 0) 79 21 (-1)), rfl, hI1117, hF1118, ⟨_, rfl, ⟨by omega, by omega⟩, ⟨by first | trivial | omega, by first | trivial | omega, by first | assumption | exact hM, by first | trivial | omega, by first | trivial | omega, by first | trivial | omega, by first | trivial | omega, by first | trivial | omega, by first | trivial | omega⟩⟩⟩
