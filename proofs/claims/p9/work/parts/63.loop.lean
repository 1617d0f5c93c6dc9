set_option maxRecDepth 20000 in
set_option maxHeartbeats 8000000 in
theorem sp_case11 (L : Nat) (xs : Nat → Int32) (sio : Option Nat) (d : Nat) (Q : Option AV → am_W → Prop) (hLL : L ≤ 3072) (i : Int) (hi : 0 ≤ i ∧ i ≤ 3066) (hil : i ≤ (L : Int) - 6) (dt : Nat → Nat → Int) (hI : InvC dt) (hM : MW (dt 80)) (hM2 : MW (dt 81)) (hk0 : dt 1 0 = dt 80 0) (hk1 : dt 7 3 = dt 80 1) (hk2 : dt 10 3 = dt 80 2) (hk3 : dt 12 3 = dt 80 3) (hk4 : dt 14 3 = dt 80 4) (hk5 : dt 16 3 = dt 80 5) (hk6 : dt 18 0 = dt 81 0) (hk7 : dt 24 3 = dt 81 1) (hk8 : dt 27 3 = dt 81 2) (hk9 : dt 29 3 = dt 81 3) (hk10 : dt 31 3 = dt 81 4) (hk11 : dt 33 3 = dt 81 5) (hk12 : dt 0 2 = dt 79 2) (hk13 : dt 35 1 = dt 79 12) (hk14 : dt 35 2 = dt 79 19) (hk15 : dt 35 3 = dt 79 21) (hd0 : TPL (dt 36) (dt 85) (dt 35 1)) (hd1 : SCL (dt 2) (dt 3) (dt 80)) (hd2 : SCL (dt 19) (dt 20) (dt 81)) (K : ∀ (dt : Nat → Nat → Int) (hI : InvC dt) (hM : MW (dt 80)) (hM2 : MW (dt 81)) (hk0 : dt 1 0 = dt 80 0) (hk1 : dt 7 3 = dt 80 1) (hk2 : dt 10 3 = dt 80 2) (hk3 : dt 12 3 = dt 80 3) (hk4 : dt 14 3 = dt 80 4) (hk5 : dt 16 3 = dt 80 5) (hk6 : dt 18 0 = dt 81 0) (hk7 : dt 24 3 = dt 81 1) (hk8 : dt 27 3 = dt 81 2) (hk9 : dt 29 3 = dt 81 3) (hk10 : dt 31 3 = dt 81 4) (hk11 : dt 33 3 = dt 81 5) (hk12 : dt 0 2 = dt 79 2) (hk13 : dt 35 1 = dt 79 12) (hk14 : dt 35 2 = dt 79 19) (hk15 : dt 35 3 = dt 79 21) (hd0 : TPL (dt 36) (dt 85) (dt 35 1)) (hd1 : SCL (dt 2) (dt 3) (dt 80)) (hd2 : SCL (dt 19) (dt 20) (dt 81)), GO (am_XX L xs sio) (d + 39) 267 1435 [some (.inr (.inr (some 3000))), some (.inr (.inr (some 0))), some (.inr (.inr (some 79))), some (.inl i)] [] (SH, dt) Q) : GO (am_XX L xs sio) (d + 39) 267 643 [some (.inr (.inr (some 3000))), some (.inr (.inr (some 0))), some (.inr (.inr (some 79))), some (.inl i)] [] (SH, dt) Q := by
  have hF : Fr [0, 1, 2, 3, 4, 5, 6, 7, 8, 9, 10, 11, 12, 13, 14, 15, 16, 17, 18, 19, 20, 21, 22, 23, 24, 25, 26, 27, 28, 29, 30, 31, 32, 33, 34, 35, 36, 37, 38, 39, 40, 41, 42, 43, 44, 45, 46, 47, 48, 49, 50, 51, 52, 53, 54, 55, 56, 57, 58, 59, 60, 61, 62, 63, 64, 65, 66, 67, 68, 69, 70, 71, 72, 73, 74, 75, 76, 77, 78, 79, 80, 81, 82, 83, 84, 85, 86, 87, 88, 89, 90, 91, 92, 93, 94, 95, 96, 97, 98, 99, 100, 101, 102, 103, 104] dt dt := Fr_refl
  refine go_toq PM267 (k := 5) (pc' := 648) (L' := [some (.inr (.inr (some 3000))), some (.inr (.inr (some 0))), some (.inr (.inr (some 79))), some (.inl i)]) (st' := [.inl (i + 1), .inr (.inr (some 3000)), .inr (.inr (some 0))]) (w' := (SH, dt)) rfl ?_
  have r1 := i32_R (xs ((i + 1).toNat))
  refine go_smpq PM267 (L' := [some (.inr (.inr (some 3000))), some (.inr (.inr (some 0))), some (.inr (.inr (some 79))), some (.inl i)]) (st' := [.inl ((xs ((i + 1).toNat)).toInt), .inr (.inr (some 0))]) (w' := (SH, dt)) rfl rfl (s_iald (n := L) (f := fun j => (xs j).toInt) (am_scr hLL) ⟨by omega, by omega⟩) ?_
  refine go_toq PM267 (k := 4) (pc' := 653) (L' := [some (.inr (.inr (some 3000))), some (.inr (.inr (some 0))), some (.inr (.inr (some 79))), some (.inl i)]) (st' := [.inl (i + 2), .inr (.inr (some 3000)), .inl ((xs ((i + 1).toNat)).toInt), .inr (.inr (some 0))]) (w' := (SH, dt)) rfl ?_
  have r2 := i32_R (xs ((i + 2).toNat))
  refine go_smpq PM267 (L' := [some (.inr (.inr (some 3000))), some (.inr (.inr (some 0))), some (.inr (.inr (some 79))), some (.inl i)]) (st' := [.inl ((xs ((i + 2).toNat)).toInt), .inl ((xs ((i + 1).toNat)).toInt), .inr (.inr (some 0))]) (w' := (SH, dt)) rfl rfl (s_iald (n := L) (f := fun j => (xs j).toInt) (am_scr hLL) ⟨by omega, by omega⟩) ?_
  refine go_toq PM267 (k := 4) (pc' := 658) (L' := [some (.inr (.inr (some 3000))), some (.inr (.inr (some 0))), some (.inr (.inr (some 79))), some (.inl i)]) (st' := [.inl (i + 3), .inr (.inr (some 3000)), .inl ((xs ((i + 2).toNat)).toInt), .inl ((xs ((i + 1).toNat)).toInt), .inr (.inr (some 0))]) (w' := (SH, dt)) rfl ?_
  have r3 := i32_R (xs ((i + 3).toNat))
  refine go_smpq PM267 (L' := [some (.inr (.inr (some 3000))), some (.inr (.inr (some 0))), some (.inr (.inr (some 79))), some (.inl i)]) (st' := [.inl ((xs ((i + 3).toNat)).toInt), .inl ((xs ((i + 2).toNat)).toInt), .inl ((xs ((i + 1).toNat)).toInt), .inr (.inr (some 0))]) (w' := (SH, dt)) rfl rfl (s_iald (n := L) (f := fun j => (xs j).toInt) (am_scr hLL) ⟨by omega, by omega⟩) ?_
  refine go_toq PM267 (k := 4) (pc' := 663) (L' := [some (.inr (.inr (some 3000))), some (.inr (.inr (some 0))), some (.inr (.inr (some 79))), some (.inl i)]) (st' := [.inl (i + 4), .inr (.inr (some 3000)), .inl ((xs ((i + 3).toNat)).toInt), .inl ((xs ((i + 2).toNat)).toInt), .inl ((xs ((i + 1).toNat)).toInt), .inr (.inr (some 0))]) (w' := (SH, dt)) rfl ?_
  have r4 := i32_R (xs ((i + 4).toNat))
  refine go_smpq PM267 (L' := [some (.inr (.inr (some 3000))), some (.inr (.inr (some 0))), some (.inr (.inr (some 79))), some (.inl i)]) (st' := [.inl ((xs ((i + 4).toNat)).toInt), .inl ((xs ((i + 3).toNat)).toInt), .inl ((xs ((i + 2).toNat)).toInt), .inl ((xs ((i + 1).toNat)).toInt), .inr (.inr (some 0))]) (w' := (SH, dt)) rfl rfl (s_iald (n := L) (f := fun j => (xs j).toInt) (am_scr hLL) ⟨by omega, by omega⟩) ?_
  refine go_callq PM267 PM78 (Q' := _) rfl rfl rfl rfl (sp_X5_weight L xs sio (d + 33) dt hI  ((xs ((i + 1).toNat)).toInt) ⟨by omega, by omega⟩ ((xs ((i + 2).toNat)).toInt) ⟨by omega, by omega⟩ ((xs ((i + 3).toNat)).toInt) ⟨by omega, by omega⟩ ((xs ((i + 4).toNat)).toInt) ⟨by omega, by omega⟩ ) ?_
  rintro _ _ ⟨dt6, rfl, hI7, hF8, h5⟩
  refine ⟨rfl, ?_⟩
  have hF9 : Fr [0, 1, 2, 3, 4, 5, 6, 7, 8, 9, 10, 11, 12, 13, 14, 15, 16, 17, 18, 19, 20, 21, 22, 23, 24, 25, 26, 27, 28, 29, 30, 31, 32, 33, 34, 35, 36, 37, 38, 39, 40, 41, 42, 43, 44, 45, 46, 47, 48, 49, 50, 51, 52, 53, 54, 55, 56, 57, 58, 59, 60, 61, 62, 63, 64, 65, 66, 67, 68, 69, 70, 71, 72, 73, 74, 75, 76, 77, 78, 79, 80, 81, 82, 83, 84, 85, 86, 87, 88, 89, 90, 91, 92, 93, 94, 95, 96, 97, 98, 99, 100, 101, 102, 103, 104] dt dt6 := Fr_tr hF hF8 (by decide)
  have hM10 : MW (dt6 80) := MW_fr hM hF8 (by decide)
  have w11 : dt6 1 0 = dt 1 0 := hF8 1 (by decide) 0
  have w12 : dt6 7 3 = dt 7 3 := hF8 7 (by decide) 3
  have w13 : dt6 10 3 = dt 10 3 := hF8 10 (by decide) 3
  have w14 : dt6 12 3 = dt 12 3 := hF8 12 (by decide) 3
  have w15 : dt6 14 3 = dt 14 3 := hF8 14 (by decide) 3
  have w16 : dt6 16 3 = dt 16 3 := hF8 16 (by decide) 3
  have w17 : dt6 18 0 = dt 18 0 := hF8 18 (by decide) 0
  have w18 : dt6 24 3 = dt 24 3 := hF8 24 (by decide) 3
  have w19 : dt6 27 3 = dt 27 3 := hF8 27 (by decide) 3
  have w20 : dt6 29 3 = dt 29 3 := hF8 29 (by decide) 3
  have w21 : dt6 31 3 = dt 31 3 := hF8 31 (by decide) 3
  have w22 : dt6 33 3 = dt 33 3 := hF8 33 (by decide) 3
  have w23 : dt6 0 2 = dt 0 2 := hF8 0 (by decide) 2
  have w24 : dt6 35 1 = dt 35 1 := hF8 35 (by decide) 1
  have w25 : dt6 35 2 = dt 35 2 := hF8 35 (by decide) 2
  have w26 : dt6 35 3 = dt 35 3 := hF8 35 (by decide) 3
  have w27 : dt6 80 0 = dt 80 0 := hF8 80 (by decide) 0
  have w28 : dt6 80 1 = dt 80 1 := hF8 80 (by decide) 1
  have w29 : dt6 80 2 = dt 80 2 := hF8 80 (by decide) 2
  have w30 : dt6 80 3 = dt 80 3 := hF8 80 (by decide) 3
  have w31 : dt6 80 4 = dt 80 4 := hF8 80 (by decide) 4
  have w32 : dt6 80 5 = dt 80 5 := hF8 80 (by decide) 5
  have w33 : dt6 81 0 = dt 81 0 := hF8 81 (by decide) 0
  have w34 : dt6 81 1 = dt 81 1 := hF8 81 (by decide) 1
  have w35 : dt6 81 2 = dt 81 2 := hF8 81 (by decide) 2
  have w36 : dt6 81 3 = dt 81 3 := hF8 81 (by decide) 3
  have w37 : dt6 81 4 = dt 81 4 := hF8 81 (by decide) 4
  have w38 : dt6 81 5 = dt 81 5 := hF8 81 (by decide) 5
  have w39 : dt6 79 2 = dt 79 2 := hF8 79 (by decide) 2
  have w40 : dt6 79 12 = dt 79 12 := hF8 79 (by decide) 12
  have w41 : dt6 79 19 = dt 79 19 := hF8 79 (by decide) 19
  have w42 : dt6 79 21 = dt 79 21 := hF8 79 (by decide) 21
  rcases h5 with ⟨v_h5, rfl, h5r, h5⟩
  have M243 : MW (dt6 81) := MW_frk hM2 hF8 (by decide)
  have C44 : ∀ j : Nat, dt6 2 j = dt 2 j := fun j => (hF8 2 (by decide) j).trans ((fun _ => rfl) j)
  have C45 : ∀ j : Nat, dt6 3 j = dt 3 j := fun j => (hF8 3 (by decide) j).trans ((fun _ => rfl) j)
  have C46 : ∀ j : Nat, dt6 19 j = dt 19 j := fun j => (hF8 19 (by decide) j).trans ((fun _ => rfl) j)
  have C47 : ∀ j : Nat, dt6 20 j = dt 20 j := fun j => (hF8 20 (by decide) j).trans ((fun _ => rfl) j)
  have C48 : ∀ j : Nat, dt6 36 j = dt 36 j := fun j => (hF8 36 (by decide) j).trans ((fun _ => rfl) j)
  have C49 : ∀ j : Nat, dt6 80 j = dt 80 j := fun j => (hF8 80 (by decide) j).trans ((fun _ => rfl) j)
  have C50 : ∀ j : Nat, dt6 81 j = dt 81 j := fun j => (hF8 81 (by decide) j).trans ((fun _ => rfl) j)
  have C51 : ∀ j : Nat, dt6 85 j = dt 85 j := fun j => (hF8 85 (by decide) j).trans ((fun _ => rfl) j)
  refine go_toq PM267 (k := 6) (pc' := 673) (L' := [some (.inr (.inr (some 3000))), some (.inr (.inr (some 0))), some (.inr (.inr (some 79))), some (.inl i)]) (st' := [.inl (i + 1), .inr (.inr (some 3000)), .inr (.inr (some 79))]) (w' := (SH, dt6)) rfl ?_
  have r52 := i32_R (xs ((i + 1).toNat))
  refine go_smpq PM267 (L' := [some (.inr (.inr (some 3000))), some (.inr (.inr (some 0))), some (.inr (.inr (some 79))), some (.inl i)]) (st' := [.inl ((xs ((i + 1).toNat)).toInt), .inr (.inr (some 79))]) (w' := (SH, dt6)) rfl rfl (s_iald (n := L) (f := fun j => (xs j).toInt) (am_scr hLL) ⟨by omega, by omega⟩) ?_
  refine go_toq PM267 (k := 4) (pc' := 678) (L' := [some (.inr (.inr (some 3000))), some (.inr (.inr (some 0))), some (.inr (.inr (some 79))), some (.inl i)]) (st' := [.inl (i + 2), .inr (.inr (some 3000)), .inl ((xs ((i + 1).toNat)).toInt), .inr (.inr (some 79))]) (w' := (SH, dt6)) rfl ?_
  have r53 := i32_R (xs ((i + 2).toNat))
  refine go_smpq PM267 (L' := [some (.inr (.inr (some 3000))), some (.inr (.inr (some 0))), some (.inr (.inr (some 79))), some (.inl i)]) (st' := [.inl ((xs ((i + 2).toNat)).toInt), .inl ((xs ((i + 1).toNat)).toInt), .inr (.inr (some 79))]) (w' := (SH, dt6)) rfl rfl (s_iald (n := L) (f := fun j => (xs j).toInt) (am_scr hLL) ⟨by omega, by omega⟩) ?_
  refine go_toq PM267 (k := 4) (pc' := 683) (L' := [some (.inr (.inr (some 3000))), some (.inr (.inr (some 0))), some (.inr (.inr (some 79))), some (.inl i)]) (st' := [.inl (i + 3), .inr (.inr (some 3000)), .inl ((xs ((i + 2).toNat)).toInt), .inl ((xs ((i + 1).toNat)).toInt), .inr (.inr (some 79))]) (w' := (SH, dt6)) rfl ?_
  have r54 := i32_R (xs ((i + 3).toNat))
  refine go_smpq PM267 (L' := [some (.inr (.inr (some 3000))), some (.inr (.inr (some 0))), some (.inr (.inr (some 79))), some (.inl i)]) (st' := [.inl ((xs ((i + 3).toNat)).toInt), .inl ((xs ((i + 2).toNat)).toInt), .inl ((xs ((i + 1).toNat)).toInt), .inr (.inr (some 79))]) (w' := (SH, dt6)) rfl rfl (s_iald (n := L) (f := fun j => (xs j).toInt) (am_scr hLL) ⟨by omega, by omega⟩) ?_
  refine go_toq PM267 (k := 4) (pc' := 688) (L' := [some (.inr (.inr (some 3000))), some (.inr (.inr (some 0))), some (.inr (.inr (some 79))), some (.inl i)]) (st' := [.inl (i + 4), .inr (.inr (some 3000)), .inl ((xs ((i + 3).toNat)).toInt), .inl ((xs ((i + 2).toNat)).toInt), .inl ((xs ((i + 1).toNat)).toInt), .inr (.inr (some 79))]) (w' := (SH, dt6)) rfl ?_
  have r55 := i32_R (xs ((i + 4).toNat))
  refine go_smpq PM267 (L' := [some (.inr (.inr (some 3000))), some (.inr (.inr (some 0))), some (.inr (.inr (some 79))), some (.inl i)]) (st' := [.inl ((xs ((i + 4).toNat)).toInt), .inl ((xs ((i + 3).toNat)).toInt), .inl ((xs ((i + 2).toNat)).toInt), .inl ((xs ((i + 1).toNat)).toInt), .inr (.inr (some 79))]) (w' := (SH, dt6)) rfl rfl (s_iald (n := L) (f := fun j => (xs j).toInt) (am_scr hLL) ⟨by omega, by omega⟩) ?_
  refine go_callq PM267 PM207 (Q' := _) rfl rfl rfl rfl (sp_X6_weight L xs sio (d + 32) dt6 hI7 hM10  ((xs ((i + 1).toNat)).toInt) ⟨by omega, by omega⟩ ((xs ((i + 2).toNat)).toInt) ⟨by omega, by omega⟩ ((xs ((i + 3).toNat)).toInt) ⟨by omega, by omega⟩ ((xs ((i + 4).toNat)).toInt) ⟨by omega, by omega⟩ ) ?_
  rintro _ _ ⟨dt57, rfl, hI58, hF59, h56⟩
  refine ⟨rfl, ?_⟩
  have hF60 : Fr [0, 1, 2, 3, 4, 5, 6, 7, 8, 9, 10, 11, 12, 13, 14, 15, 16, 17, 18, 19, 20, 21, 22, 23, 24, 25, 26, 27, 28, 29, 30, 31, 32, 33, 34, 35, 36, 37, 38, 39, 40, 41, 42, 43, 44, 45, 46, 47, 48, 49, 50, 51, 52, 53, 54, 55, 56, 57, 58, 59, 60, 61, 62, 63, 64, 65, 66, 67, 68, 69, 70, 71, 72, 73, 74, 75, 76, 77, 78, 79, 80, 81, 82, 83, 84, 85, 86, 87, 88, 89, 90, 91, 92, 93, 94, 95, 96, 97, 98, 99, 100, 101, 102, 103, 104] dt dt57 := Fr_tr hF9 hF59 (by decide)
  have hM61 : MW (dt57 80) := MW_fr hM10 hF59 (by decide)
  have w62 : dt57 1 0 = dt 1 0 := (hF59 1 (by decide) 0).trans w11
  have w63 : dt57 7 3 = dt 7 3 := (hF59 7 (by decide) 3).trans w12
  have w64 : dt57 10 3 = dt 10 3 := (hF59 10 (by decide) 3).trans w13
  have w65 : dt57 12 3 = dt 12 3 := (hF59 12 (by decide) 3).trans w14
  have w66 : dt57 14 3 = dt 14 3 := (hF59 14 (by decide) 3).trans w15
  have w67 : dt57 16 3 = dt 16 3 := (hF59 16 (by decide) 3).trans w16
  have w68 : dt57 18 0 = dt 18 0 := (hF59 18 (by decide) 0).trans w17
  have w69 : dt57 24 3 = dt 24 3 := (hF59 24 (by decide) 3).trans w18
  have w70 : dt57 27 3 = dt 27 3 := (hF59 27 (by decide) 3).trans w19
  have w71 : dt57 29 3 = dt 29 3 := (hF59 29 (by decide) 3).trans w20
  have w72 : dt57 31 3 = dt 31 3 := (hF59 31 (by decide) 3).trans w21
  have w73 : dt57 33 3 = dt 33 3 := (hF59 33 (by decide) 3).trans w22
  have w74 : dt57 0 2 = dt 0 2 := (hF59 0 (by decide) 2).trans w23
  have w75 : dt57 35 1 = dt 35 1 := (hF59 35 (by decide) 1).trans w24
  have w76 : dt57 35 2 = dt 35 2 := (hF59 35 (by decide) 2).trans w25
  have w77 : dt57 35 3 = dt 35 3 := (hF59 35 (by decide) 3).trans w26
  have w78 : dt57 80 0 = dt 80 0 := (hF59 80 (by decide) 0).trans w27
  have w79 : dt57 80 1 = dt 80 1 := (hF59 80 (by decide) 1).trans w28
  have w80 : dt57 80 2 = dt 80 2 := (hF59 80 (by decide) 2).trans w29
  have w81 : dt57 80 3 = dt 80 3 := (hF59 80 (by decide) 3).trans w30
  have w82 : dt57 80 4 = dt 80 4 := (hF59 80 (by decide) 4).trans w31
  have w83 : dt57 80 5 = dt 80 5 := (hF59 80 (by decide) 5).trans w32
  have w84 : dt57 81 0 = dt 81 0 := (hF59 81 (by decide) 0).trans w33
  have w85 : dt57 81 1 = dt 81 1 := (hF59 81 (by decide) 1).trans w34
  have w86 : dt57 81 2 = dt 81 2 := (hF59 81 (by decide) 2).trans w35
  have w87 : dt57 81 3 = dt 81 3 := (hF59 81 (by decide) 3).trans w36
  have w88 : dt57 81 4 = dt 81 4 := (hF59 81 (by decide) 4).trans w37
  have w89 : dt57 81 5 = dt 81 5 := (hF59 81 (by decide) 5).trans w38
  have w90 : dt57 79 2 = dt 79 2 := (hF59 79 (by decide) 2).trans w39
  have w91 : dt57 79 12 = dt 79 12 := (hF59 79 (by decide) 12).trans w40
  have w92 : dt57 79 19 = dt 79 19 := (hF59 79 (by decide) 19).trans w41
  have w93 : dt57 79 21 = dt 79 21 := (hF59 79 (by decide) 21).trans w42
  rcases h56 with ⟨v_h56, rfl, h56r, h56⟩
  have M294 : MW (dt57 81) := MW_frk M243 hF59 (by decide)
  have C95 : ∀ j : Nat, dt57 2 j = dt 2 j := fun j => (hF59 2 (by decide) j).trans (C44 j)
  have C96 : ∀ j : Nat, dt57 3 j = dt 3 j := fun j => (hF59 3 (by decide) j).trans (C45 j)
  have C97 : ∀ j : Nat, dt57 19 j = dt 19 j := fun j => (hF59 19 (by decide) j).trans (C46 j)
  have C98 : ∀ j : Nat, dt57 20 j = dt 20 j := fun j => (hF59 20 (by decide) j).trans (C47 j)
  have C99 : ∀ j : Nat, dt57 36 j = dt 36 j := fun j => (hF59 36 (by decide) j).trans (C48 j)
  have C100 : ∀ j : Nat, dt57 80 j = dt 80 j := fun j => (hF59 80 (by decide) j).trans (C49 j)
  have C101 : ∀ j : Nat, dt57 81 j = dt 81 j := fun j => (hF59 81 (by decide) j).trans (C50 j)
  have C102 : ∀ j : Nat, dt57 85 j = dt 85 j := fun j => (hF59 85 (by decide) j).trans (C51 j)
  refine go_toq PM267 (k := 2) (pc' := 1435) (L' := [some (.inr (.inr (some 3000))), some (.inr (.inr (some 0))), some (.inr (.inr (some 79))), some (.inl i)]) (st' := []) (w' := (SH, dt57)) rfl ?_
  exact K dt57 hI58 hM61 M294 (w62.trans (hk0.trans w78.symm)) (w63.trans (hk1.trans w79.symm)) (w64.trans (hk2.trans w80.symm)) (w65.trans (hk3.trans w81.symm)) (w66.trans (hk4.trans w82.symm)) (w67.trans (hk5.trans w83.symm)) (w68.trans (hk6.trans w84.symm)) (w69.trans (hk7.trans w85.symm)) (w70.trans (hk8.trans w86.symm)) (w71.trans (hk9.trans w87.symm)) (w72.trans (hk10.trans w88.symm)) (w73.trans (hk11.trans w89.symm)) (w74.trans (hk12.trans w90.symm)) (w75.trans (hk13.trans w91.symm)) (w76.trans (hk14.trans w92.symm)) (w77.trans (hk15.trans w93.symm)) (by first | exact hI | exact TPL_k hd0 C99 C102 (by omega) | (exfalso; omega)) (by first | exact hI | exact SCL_k hd1 hM (fun j _ => C95 j) (fun j _ => C96 j) (fun j _ _ => C100 j) | (exfalso; omega)) (by first | exact hI | exact SCL_k hd2 hM2 (fun j _ => C97 j) (fun j _ => C98 j) (fun j _ _ => C101 j) | (exfalso; omega))
set_option maxRecDepth 20000 in
set_option maxHeartbeats 8000000 in
theorem sp_case12 (L : Nat) (xs : Nat → Int32) (sio : Option Nat) (d : Nat) (Q : Option AV → am_W → Prop) (hLL : L ≤ 3072) (i : Int) (hi : 0 ≤ i ∧ i ≤ 3066) (hil : i ≤ (L : Int) - 6) (dt : Nat → Nat → Int) (hI : InvC dt) (hM : MW (dt 80)) (hM2 : MW (dt 81)) (hk0 : dt 1 0 = dt 80 0) (hk1 : dt 7 3 = dt 80 1) (hk2 : dt 10 3 = dt 80 2) (hk3 : dt 12 3 = dt 80 3) (hk4 : dt 14 3 = dt 80 4) (hk5 : dt 16 3 = dt 80 5) (hk6 : dt 18 0 = dt 81 0) (hk7 : dt 24 3 = dt 81 1) (hk8 : dt 27 3 = dt 81 2) (hk9 : dt 29 3 = dt 81 3) (hk10 : dt 31 3 = dt 81 4) (hk11 : dt 33 3 = dt 81 5) (hk12 : dt 0 2 = dt 79 2) (hk13 : dt 35 1 = dt 79 12) (hk14 : dt 35 2 = dt 79 19) (hk15 : dt 35 3 = dt 79 21) (hd0 : TPL (dt 36) (dt 85) (dt 35 1)) (hd1 : SCL (dt 2) (dt 3) (dt 80)) (hd2 : SCL (dt 19) (dt 20) (dt 81)) (K : ∀ (dt : Nat → Nat → Int) (hI : InvC dt) (hM : MW (dt 80)) (hM2 : MW (dt 81)) (hk0 : dt 1 0 = dt 80 0) (hk1 : dt 7 3 = dt 80 1) (hk2 : dt 10 3 = dt 80 2) (hk3 : dt 12 3 = dt 80 3) (hk4 : dt 14 3 = dt 80 4) (hk5 : dt 16 3 = dt 80 5) (hk6 : dt 18 0 = dt 81 0) (hk7 : dt 24 3 = dt 81 1) (hk8 : dt 27 3 = dt 81 2) (hk9 : dt 29 3 = dt 81 3) (hk10 : dt 31 3 = dt 81 4) (hk11 : dt 33 3 = dt 81 5) (hk12 : dt 0 2 = dt 79 2) (hk13 : dt 35 1 = dt 79 12) (hk14 : dt 35 2 = dt 79 19) (hk15 : dt 35 3 = dt 79 21) (hd0 : TPL (dt 36) (dt 85) (dt 35 1)) (hd1 : SCL (dt 2) (dt 3) (dt 80)) (hd2 : SCL (dt 19) (dt 20) (dt 81)), GO (am_XX L xs sio) (d + 39) 267 1435 [some (.inr (.inr (some 3000))), some (.inr (.inr (some 0))), some (.inr (.inr (some 79))), some (.inl i)] [] (SH, dt) Q) : GO (am_XX L xs sio) (d + 39) 267 696 [some (.inr (.inr (some 3000))), some (.inr (.inr (some 0))), some (.inr (.inr (some 79))), some (.inl i)] [] (SH, dt) Q := by
  have hF : Fr [0, 1, 2, 3, 4, 5, 6, 7, 8, 9, 10, 11, 12, 13, 14, 15, 16, 17, 18, 19, 20, 21, 22, 23, 24, 25, 26, 27, 28, 29, 30, 31, 32, 33, 34, 35, 36, 37, 38, 39, 40, 41, 42, 43, 44, 45, 46, 47, 48, 49, 50, 51, 52, 53, 54, 55, 56, 57, 58, 59, 60, 61, 62, 63, 64, 65, 66, 67, 68, 69, 70, 71, 72, 73, 74, 75, 76, 77, 78, 79, 80, 81, 82, 83, 84, 85, 86, 87, 88, 89, 90, 91, 92, 93, 94, 95, 96, 97, 98, 99, 100, 101, 102, 103, 104] dt dt := Fr_refl
  refine go_toq PM267 (k := 5) (pc' := 701) (L' := [some (.inr (.inr (some 3000))), some (.inr (.inr (some 0))), some (.inr (.inr (some 79))), some (.inl i)]) (st' := [.inl (i + 1), .inr (.inr (some 3000)), .inr (.inr (some 0))]) (w' := (SH, dt)) rfl ?_
  have r1 := i32_R (xs ((i + 1).toNat))
  refine go_smpq PM267 (L' := [some (.inr (.inr (some 3000))), some (.inr (.inr (some 0))), some (.inr (.inr (some 79))), some (.inl i)]) (st' := [.inl ((xs ((i + 1).toNat)).toInt), .inr (.inr (some 0))]) (w' := (SH, dt)) rfl rfl (s_iald (n := L) (f := fun j => (xs j).toInt) (am_scr hLL) ⟨by omega, by omega⟩) ?_
  refine go_toq PM267 (k := 4) (pc' := 706) (L' := [some (.inr (.inr (some 3000))), some (.inr (.inr (some 0))), some (.inr (.inr (some 79))), some (.inl i)]) (st' := [.inl (i + 2), .inr (.inr (some 3000)), .inl ((xs ((i + 1).toNat)).toInt), .inr (.inr (some 0))]) (w' := (SH, dt)) rfl ?_
  have r2 := i32_R (xs ((i + 2).toNat))
  refine go_smpq PM267 (L' := [some (.inr (.inr (some 3000))), some (.inr (.inr (some 0))), some (.inr (.inr (some 79))), some (.inl i)]) (st' := [.inl ((xs ((i + 2).toNat)).toInt), .inl ((xs ((i + 1).toNat)).toInt), .inr (.inr (some 0))]) (w' := (SH, dt)) rfl rfl (s_iald (n := L) (f := fun j => (xs j).toInt) (am_scr hLL) ⟨by omega, by omega⟩) ?_
  refine go_toq PM267 (k := 4) (pc' := 711) (L' := [some (.inr (.inr (some 3000))), some (.inr (.inr (some 0))), some (.inr (.inr (some 79))), some (.inl i)]) (st' := [.inl (i + 3), .inr (.inr (some 3000)), .inl ((xs ((i + 2).toNat)).toInt), .inl ((xs ((i + 1).toNat)).toInt), .inr (.inr (some 0))]) (w' := (SH, dt)) rfl ?_
  have r3 := i32_R (xs ((i + 3).toNat))
  refine go_smpq PM267 (L' := [some (.inr (.inr (some 3000))), some (.inr (.inr (some 0))), some (.inr (.inr (some 79))), some (.inl i)]) (st' := [.inl ((xs ((i + 3).toNat)).toInt), .inl ((xs ((i + 2).toNat)).toInt), .inl ((xs ((i + 1).toNat)).toInt), .inr (.inr (some 0))]) (w' := (SH, dt)) rfl rfl (s_iald (n := L) (f := fun j => (xs j).toInt) (am_scr hLL) ⟨by omega, by omega⟩) ?_
  refine go_callq PM267 PM79 (Q' := _) rfl rfl rfl rfl (sp_X5_ask L xs sio (d + 33) dt hI  ((xs ((i + 1).toNat)).toInt) ⟨by omega, by omega⟩ ((xs ((i + 2).toNat)).toInt) ⟨by omega, by omega⟩ ((xs ((i + 3).toNat)).toInt) ⟨by omega, by omega⟩ ) ?_
  rintro _ _ ⟨dt5, rfl, hI6, hF7, h4⟩
  refine ⟨rfl, ?_⟩
  have hF8 : Fr [0, 1, 2, 3, 4, 5, 6, 7, 8, 9, 10, 11, 12, 13, 14, 15, 16, 17, 18, 19, 20, 21, 22, 23, 24, 25, 26, 27, 28, 29, 30, 31, 32, 33, 34, 35, 36, 37, 38, 39, 40, 41, 42, 43, 44, 45, 46, 47, 48, 49, 50, 51, 52, 53, 54, 55, 56, 57, 58, 59, 60, 61, 62, 63, 64, 65, 66, 67, 68, 69, 70, 71, 72, 73, 74, 75, 76, 77, 78, 79, 80, 81, 82, 83, 84, 85, 86, 87, 88, 89, 90, 91, 92, 93, 94, 95, 96, 97, 98, 99, 100, 101, 102, 103, 104] dt dt5 := Fr_tr hF hF7 (by decide)
  have hM9 : MW (dt5 80) := MW_fr hM hF7 (by decide)
  have w10 : dt5 7 3 = dt 7 3 := hF7 7 (by decide) 3
  have w11 : dt5 10 3 = dt 10 3 := hF7 10 (by decide) 3
  have w12 : dt5 14 3 = dt 14 3 := hF7 14 (by decide) 3
  have w13 : dt5 16 3 = dt 16 3 := hF7 16 (by decide) 3
  have w14 : dt5 18 0 = dt 18 0 := hF7 18 (by decide) 0
  have w15 : dt5 24 3 = dt 24 3 := hF7 24 (by decide) 3
  have w16 : dt5 27 3 = dt 27 3 := hF7 27 (by decide) 3
  have w17 : dt5 29 3 = dt 29 3 := hF7 29 (by decide) 3
  have w18 : dt5 31 3 = dt 31 3 := hF7 31 (by decide) 3
  have w19 : dt5 33 3 = dt 33 3 := hF7 33 (by decide) 3
  have w20 : dt5 0 2 = dt 0 2 := hF7 0 (by decide) 2
  have w21 : dt5 35 1 = dt 35 1 := hF7 35 (by decide) 1
  have w22 : dt5 35 2 = dt 35 2 := hF7 35 (by decide) 2
  have w23 : dt5 35 3 = dt 35 3 := hF7 35 (by decide) 3
  have w24 : dt5 80 0 = dt 80 0 := hF7 80 (by decide) 0
  have w25 : dt5 80 1 = dt 80 1 := hF7 80 (by decide) 1
  have w26 : dt5 80 2 = dt 80 2 := hF7 80 (by decide) 2
  have w27 : dt5 80 3 = dt 80 3 := hF7 80 (by decide) 3
  have w28 : dt5 80 4 = dt 80 4 := hF7 80 (by decide) 4
  have w29 : dt5 80 5 = dt 80 5 := hF7 80 (by decide) 5
  have w30 : dt5 81 0 = dt 81 0 := hF7 81 (by decide) 0
  have w31 : dt5 81 1 = dt 81 1 := hF7 81 (by decide) 1
  have w32 : dt5 81 2 = dt 81 2 := hF7 81 (by decide) 2
  have w33 : dt5 81 3 = dt 81 3 := hF7 81 (by decide) 3
  have w34 : dt5 81 4 = dt 81 4 := hF7 81 (by decide) 4
  have w35 : dt5 81 5 = dt 81 5 := hF7 81 (by decide) 5
  have w36 : dt5 79 2 = dt 79 2 := hF7 79 (by decide) 2
  have w37 : dt5 79 12 = dt 79 12 := hF7 79 (by decide) 12
  have w38 : dt5 79 19 = dt 79 19 := hF7 79 (by decide) 19
  have w39 : dt5 79 21 = dt 79 21 := hF7 79 (by decide) 21
  rcases h4 with ⟨rfl, h4⟩ | ⟨v_h4, rfl, h4r, h4⟩
  · skip
    obtain ⟨h4_0, h4_1, h4_2⟩ := h4
    replace h4_0 := hid h4_0
    have w40 : dt5 1 0 = dt 1 0 := h4_1
    have w41 : dt5 12 3 = dt 12 3 := h4_2
    have M242 : MW (dt5 81) := MW_frk hM2 hF7 (by decide)
    have C43 : ∀ j : Nat, dt5 2 j = dt 2 j := fun j => (hF7 2 (by decide) j).trans ((fun _ => rfl) j)
    have C44 : ∀ j : Nat, dt5 3 j = dt 3 j := fun j => (hF7 3 (by decide) j).trans ((fun _ => rfl) j)
    have C45 : ∀ j : Nat, dt5 19 j = dt 19 j := fun j => (hF7 19 (by decide) j).trans ((fun _ => rfl) j)
    have C46 : ∀ j : Nat, dt5 20 j = dt 20 j := fun j => (hF7 20 (by decide) j).trans ((fun _ => rfl) j)
    have C47 : ∀ j : Nat, dt5 36 j = dt 36 j := fun j => (hF7 36 (by decide) j).trans ((fun _ => rfl) j)
    have C48 : ∀ j : Nat, dt5 80 j = dt 80 j := fun j => (hF7 80 (by decide) j).trans ((fun _ => rfl) j)
    have C49 : ∀ j : Nat, dt5 81 j = dt 81 j := fun j => (hF7 81 (by decide) j).trans ((fun _ => rfl) j)
    have C50 : ∀ j : Nat, dt5 85 j = dt 85 j := fun j => (hF7 85 (by decide) j).trans ((fun _ => rfl) j)
    refine go_toq PM267 (k := 6) (pc' := 721) (L' := [some (.inr (.inr (some 3000))), some (.inr (.inr (some 0))), some (.inr (.inr (some 79))), some (.inl i)]) (st' := [.inl (i + 1), .inr (.inr (some 3000)), .inr (.inr (some 79))]) (w' := (SH, dt5)) rfl ?_
    have r51 := i32_R (xs ((i + 1).toNat))
    refine go_smpq PM267 (L' := [some (.inr (.inr (some 3000))), some (.inr (.inr (some 0))), some (.inr (.inr (some 79))), some (.inl i)]) (st' := [.inl ((xs ((i + 1).toNat)).toInt), .inr (.inr (some 79))]) (w' := (SH, dt5)) rfl rfl (s_iald (n := L) (f := fun j => (xs j).toInt) (am_scr hLL) ⟨by (first | omega | (have z0_ := unhid h4_0; omega)), by (first | omega | (have z0_ := unhid h4_0; omega))⟩) ?_
    refine go_toq PM267 (k := 4) (pc' := 726) (L' := [some (.inr (.inr (some 3000))), some (.inr (.inr (some 0))), some (.inr (.inr (some 79))), some (.inl i)]) (st' := [.inl (i + 2), .inr (.inr (some 3000)), .inl ((xs ((i + 1).toNat)).toInt), .inr (.inr (some 79))]) (w' := (SH, dt5)) rfl ?_
    have r52 := i32_R (xs ((i + 2).toNat))
    refine go_smpq PM267 (L' := [some (.inr (.inr (some 3000))), some (.inr (.inr (some 0))), some (.inr (.inr (some 79))), some (.inl i)]) (st' := [.inl ((xs ((i + 2).toNat)).toInt), .inl ((xs ((i + 1).toNat)).toInt), .inr (.inr (some 79))]) (w' := (SH, dt5)) rfl rfl (s_iald (n := L) (f := fun j => (xs j).toInt) (am_scr hLL) ⟨by (first | omega | (have z0_ := unhid h4_0; omega)), by (first | omega | (have z0_ := unhid h4_0; omega))⟩) ?_
    refine go_toq PM267 (k := 4) (pc' := 731) (L' := [some (.inr (.inr (some 3000))), some (.inr (.inr (some 0))), some (.inr (.inr (some 79))), some (.inl i)]) (st' := [.inl (i + 3), .inr (.inr (some 3000)), .inl ((xs ((i + 2).toNat)).toInt), .inl ((xs ((i + 1).toNat)).toInt), .inr (.inr (some 79))]) (w' := (SH, dt5)) rfl ?_
    have r53 := i32_R (xs ((i + 3).toNat))
    refine go_smpq PM267 (L' := [some (.inr (.inr (some 3000))), some (.inr (.inr (some 0))), some (.inr (.inr (some 79))), some (.inl i)]) (st' := [.inl ((xs ((i + 3).toNat)).toInt), .inl ((xs ((i + 2).toNat)).toInt), .inl ((xs ((i + 1).toNat)).toInt), .inr (.inr (some 79))]) (w' := (SH, dt5)) rfl rfl (s_iald (n := L) (f := fun j => (xs j).toInt) (am_scr hLL) ⟨by (first | omega | (have z0_ := unhid h4_0; omega)), by (first | omega | (have z0_ := unhid h4_0; omega))⟩) ?_
    refine go_callq PM267 PM211 (Q' := _) rfl rfl rfl rfl (sp_X6_ask_v L xs sio (d + 32) dt5 hI6 hM9  ((xs ((i + 1).toNat)).toInt) ⟨by (first | omega | (have z0_ := unhid h4_0; omega)), by (first | omega | (have z0_ := unhid h4_0; omega))⟩ ((xs ((i + 2).toNat)).toInt) ⟨by (first | omega | (have z0_ := unhid h4_0; omega)), by (first | omega | (have z0_ := unhid h4_0; omega))⟩ ((xs ((i + 3).toNat)).toInt) ⟨by (first | omega | (have z0_ := unhid h4_0; omega)), by (first | omega | (have z0_ := unhid h4_0; omega))⟩ ) ?_
    rintro _ _ ⟨dt55, rfl, hI56, hF57, h54⟩
    refine ⟨rfl, ?_⟩
    have hF58 : Fr [0, 1, 2, 3, 4, 5, 6, 7, 8, 9, 10, 11, 12, 13, 14, 15, 16, 17, 18, 19, 20, 21, 22, 23, 24, 25, 26, 27, 28, 29, 30, 31, 32, 33, 34, 35, 36, 37, 38, 39, 40, 41, 42, 43, 44, 45, 46, 47, 48, 49, 50, 51, 52, 53, 54, 55, 56, 57, 58, 59, 60, 61, 62, 63, 64, 65, 66, 67, 68, 69, 70, 71, 72, 73, 74, 75, 76, 77, 78, 79, 80, 81, 82, 83, 84, 85, 86, 87, 88, 89, 90, 91, 92, 93, 94, 95, 96, 97, 98, 99, 100, 101, 102, 103, 104] dt dt55 := Fr_tr hF8 hF57 (by decide)
    have w59 : dt55 1 0 = dt 1 0 := (hF57 1 (by decide) 0).trans w40
    have w60 : dt55 7 3 = dt 7 3 := (hF57 7 (by decide) 3).trans w10
    have w61 : dt55 10 3 = dt 10 3 := (hF57 10 (by decide) 3).trans w11
    have w62 : dt55 12 3 = dt 12 3 := (hF57 12 (by decide) 3).trans w41
    have w63 : dt55 14 3 = dt 14 3 := (hF57 14 (by decide) 3).trans w12
    have w64 : dt55 16 3 = dt 16 3 := (hF57 16 (by decide) 3).trans w13
    have w65 : dt55 18 0 = dt 18 0 := (hF57 18 (by decide) 0).trans w14
    have w66 : dt55 24 3 = dt 24 3 := (hF57 24 (by decide) 3).trans w15
    have w67 : dt55 27 3 = dt 27 3 := (hF57 27 (by decide) 3).trans w16
    have w68 : dt55 29 3 = dt 29 3 := (hF57 29 (by decide) 3).trans w17
    have w69 : dt55 31 3 = dt 31 3 := (hF57 31 (by decide) 3).trans w18
    have w70 : dt55 33 3 = dt 33 3 := (hF57 33 (by decide) 3).trans w19
    have w71 : dt55 0 2 = dt 0 2 := (hF57 0 (by decide) 2).trans w20
    have w72 : dt55 35 1 = dt 35 1 := (hF57 35 (by decide) 1).trans w21
    have w73 : dt55 35 2 = dt 35 2 := (hF57 35 (by decide) 2).trans w22
    have w74 : dt55 35 3 = dt 35 3 := (hF57 35 (by decide) 3).trans w23
    have w75 : dt55 81 0 = dt 81 0 := (hF57 81 (by decide) 0).trans w30
    have w76 : dt55 81 1 = dt 81 1 := (hF57 81 (by decide) 1).trans w31
    have w77 : dt55 81 2 = dt 81 2 := (hF57 81 (by decide) 2).trans w32
    have w78 : dt55 81 3 = dt 81 3 := (hF57 81 (by decide) 3).trans w33
    have w79 : dt55 81 4 = dt 81 4 := (hF57 81 (by decide) 4).trans w34
    have w80 : dt55 81 5 = dt 81 5 := (hF57 81 (by decide) 5).trans w35
    have w81 : dt55 79 2 = dt 79 2 := (hF57 79 (by decide) 2).trans w36
    have w82 : dt55 79 12 = dt 79 12 := (hF57 79 (by decide) 12).trans w37
    have w83 : dt55 79 19 = dt 79 19 := (hF57 79 (by decide) 19).trans w38
    have w84 : dt55 79 21 = dt 79 21 := (hF57 79 (by decide) 21).trans w39
    rcases h54 with ⟨rfl, h54⟩ | ⟨v_h54, rfl, h54r, h54⟩
    · skip
      have hM85 : MW (dt55 80) := h54.2.1
      obtain ⟨h54_0, h54_1, h54_2, h54_3, h54_4, h54_5, h54_6, h54_7, h54_8⟩ := h54
      replace h54_0 := hid h54_0
      have w86 : dt55 80 0 = dt 80 0 := h54_2.trans w24
      have w87 : dt55 80 1 = dt 80 1 := h54_3.trans w25
      have w88 : dt55 80 2 = dt 80 2 := h54_4.trans w26
      have w89 : dt55 80 3 = dt 80 3 := h54_5.trans w27
      have w90 : dt55 80 4 = dt 80 4 := h54_6.trans w28
      have w91 : dt55 80 5 = dt 80 5 := h54_7.trans w29
      have M292 : MW (dt55 81) := MW_frk M242 hF57 (by decide)
      have C93 : ∀ j : Nat, dt55 2 j = dt 2 j := fun j => (hF57 2 (by decide) j).trans (C43 j)
      have C94 : ∀ j : Nat, dt55 3 j = dt 3 j := fun j => (hF57 3 (by decide) j).trans (C44 j)
      have C95 : ∀ j : Nat, dt55 19 j = dt 19 j := fun j => (hF57 19 (by decide) j).trans (C45 j)
      have C96 : ∀ j : Nat, dt55 20 j = dt 20 j := fun j => (hF57 20 (by decide) j).trans (C46 j)
      have C97 : ∀ j : Nat, dt55 36 j = dt 36 j := fun j => (hF57 36 (by decide) j).trans (C47 j)
      have C98 : ∀ j : Nat, dt55 80 j = dt 80 j := fun j => (h54_8 j).trans (C48 j)
      have C99 : ∀ j : Nat, dt55 81 j = dt 81 j := fun j => (hF57 81 (by decide) j).trans (C49 j)
      have C100 : ∀ j : Nat, dt55 85 j = dt 85 j := fun j => (hF57 85 (by decide) j).trans (C50 j)
      refine go_toq PM267 (k := 2) (pc' := 1435) (L' := [some (.inr (.inr (some 3000))), some (.inr (.inr (some 0))), some (.inr (.inr (some 79))), some (.inl i)]) (st' := []) (w' := (SH, dt55)) rfl ?_
      exact K dt55 hI56 hM85 M292 (w59.trans (hk0.trans w86.symm)) (w60.trans (hk1.trans w87.symm)) (w61.trans (hk2.trans w88.symm)) (w62.trans (hk3.trans w89.symm)) (w63.trans (hk4.trans w90.symm)) (w64.trans (hk5.trans w91.symm)) (w65.trans (hk6.trans w75.symm)) (w66.trans (hk7.trans w76.symm)) (w67.trans (hk8.trans w77.symm)) (w68.trans (hk9.trans w78.symm)) (w69.trans (hk10.trans w79.symm)) (w70.trans (hk11.trans w80.symm)) (w71.trans (hk12.trans w81.symm)) (w72.trans (hk13.trans w82.symm)) (w73.trans (hk14.trans w83.symm)) (w74.trans (hk15.trans w84.symm)) (by first | exact hI | exact TPL_k hd0 C97 C100 (by (first | omega | (have z0_ := unhid h4_0; have z1_ := unhid h54_0; omega))) | (exfalso; (first | omega | (have z0_ := unhid h4_0; have z1_ := unhid h54_0; omega)))) (by first | exact hI | exact SCL_k hd1 hM (fun j _ => C93 j) (fun j _ => C94 j) (fun j _ _ => C98 j) | (exfalso; (first | omega | (have z0_ := unhid h4_0; have z1_ := unhid h54_0; omega)))) (by first | exact hI | exact SCL_k hd2 hM2 (fun j _ => C95 j) (fun j _ => C96 j) (fun j _ _ => C99 j) | (exfalso; (first | omega | (have z0_ := unhid h4_0; have z1_ := unhid h54_0; omega))))
    · skip
      have hM101 : MW (dt55 80) := h54.2.1
      obtain ⟨h54_0, h54_1, h54_2, h54_3, h54_4, h54_5, h54_6, h54_7, h54_8⟩ := h54
      have w102 : dt55 80 1 = dt 80 1 := h54_4.trans w25
      have w103 : dt55 80 2 = dt 80 2 := h54_5.trans w26
      have w104 : dt55 80 4 = dt 80 4 := h54_6.trans w28
      have w105 : dt55 80 5 = dt 80 5 := h54_7.trans w29
      have M2106 : MW (dt55 81) := MW_frk M242 hF57 (by decide)
      have C107 : ∀ j : Nat, dt55 2 j = dt 2 j := fun j => (hF57 2 (by decide) j).trans (C43 j)
      have C108 : ∀ j : Nat, dt55 3 j = dt 3 j := fun j => (hF57 3 (by decide) j).trans (C44 j)
      have C109 : ∀ j : Nat, dt55 19 j = dt 19 j := fun j => (hF57 19 (by decide) j).trans (C45 j)
      have C110 : ∀ j : Nat, dt55 20 j = dt 20 j := fun j => (hF57 20 (by decide) j).trans (C46 j)
      have C111 : ∀ j : Nat, dt55 36 j = dt 36 j := fun j => (hF57 36 (by decide) j).trans (C47 j)
      have C112 : ∀ j : Nat, dt55 81 j = dt 81 j := fun j => (hF57 81 (by decide) j).trans (C49 j)
      have C113 : ∀ j : Nat, dt55 85 j = dt 85 j := fun j => (hF57 85 (by decide) j).trans (C50 j)
      have F114 : ∀ j : Nat, 6 ≤ j → j < 974 → dt55 80 j = dt 80 j := fun j h1_ h2_ => (h54_8 j (by (first | omega | (have z0_ := unhid h4_0; omega))) (by (first | omega | (have z0_ := unhid h4_0; omega))) (by (first | omega | (have z0_ := unhid h4_0; omega)))).trans (C48 j)
      refine go_toq PM267 (k := 2) (pc' := 1435) (L' := [some (.inr (.inr (some 3000))), some (.inr (.inr (some 0))), some (.inr (.inr (some 79))), some (.inl i)]) (st' := []) (w' := (SH, dt55)) rfl ?_
      exact K dt55 hI56 hM101 M2106 (by first | (first | omega | (have z0_ := unhid h4_0; omega)) | (simp only [*]; done) | simp only [*]) (w60.trans (hk1.trans w102.symm)) (w61.trans (hk2.trans w103.symm)) (by (first | omega | (have z0_ := unhid h4_0; omega))) (w63.trans (hk4.trans w104.symm)) (w64.trans (hk5.trans w105.symm)) (w65.trans (hk6.trans w75.symm)) (w66.trans (hk7.trans w76.symm)) (w67.trans (hk8.trans w77.symm)) (w68.trans (hk9.trans w78.symm)) (w69.trans (hk10.trans w79.symm)) (w70.trans (hk11.trans w80.symm)) (w71.trans (hk12.trans w81.symm)) (w72.trans (hk13.trans w82.symm)) (w73.trans (hk14.trans w83.symm)) (w74.trans (hk15.trans w84.symm)) (by first | exact hI | exact TPL_k hd0 C111 C113 (by (first | omega | (have z0_ := unhid h4_0; omega))) | (exfalso; (first | omega | (have z0_ := unhid h4_0; omega)))) (by first | exact hI | exact SCL_k hd1 hM (fun j _ => C107 j) (fun j _ => C108 j) F114 | (exfalso; (first | omega | (have z0_ := unhid h4_0; omega)))) (by first | exact hI | exact SCL_k hd2 hM2 (fun j _ => C109 j) (fun j _ => C110 j) (fun j _ _ => C112 j) | (exfalso; (first | omega | (have z0_ := unhid h4_0; omega))))
  · skip
    obtain ⟨h4_0, h4_1, h4_2⟩ := h4
    have M2115 : MW (dt5 81) := MW_frk hM2 hF7 (by decide)
    have C116 : ∀ j : Nat, dt5 2 j = dt 2 j := fun j => (hF7 2 (by decide) j).trans ((fun _ => rfl) j)
    have C117 : ∀ j : Nat, dt5 3 j = dt 3 j := fun j => (hF7 3 (by decide) j).trans ((fun _ => rfl) j)
    have C118 : ∀ j : Nat, dt5 19 j = dt 19 j := fun j => (hF7 19 (by decide) j).trans ((fun _ => rfl) j)
    have C119 : ∀ j : Nat, dt5 20 j = dt 20 j := fun j => (hF7 20 (by decide) j).trans ((fun _ => rfl) j)
    have C120 : ∀ j : Nat, dt5 36 j = dt 36 j := fun j => (hF7 36 (by decide) j).trans ((fun _ => rfl) j)
    have C121 : ∀ j : Nat, dt5 80 j = dt 80 j := fun j => (hF7 80 (by decide) j).trans ((fun _ => rfl) j)
    have C122 : ∀ j : Nat, dt5 81 j = dt 81 j := fun j => (hF7 81 (by decide) j).trans ((fun _ => rfl) j)
    have C123 : ∀ j : Nat, dt5 85 j = dt 85 j := fun j => (hF7 85 (by decide) j).trans ((fun _ => rfl) j)
    refine go_toq PM267 (k := 6) (pc' := 721) (L' := [some (.inr (.inr (some 3000))), some (.inr (.inr (some 0))), some (.inr (.inr (some 79))), some (.inl i)]) (st' := [.inl (i + 1), .inr (.inr (some 3000)), .inr (.inr (some 79))]) (w' := (SH, dt5)) rfl ?_
    have r124 := i32_R (xs ((i + 1).toNat))
    refine go_smpq PM267 (L' := [some (.inr (.inr (some 3000))), some (.inr (.inr (some 0))), some (.inr (.inr (some 79))), some (.inl i)]) (st' := [.inl ((xs ((i + 1).toNat)).toInt), .inr (.inr (some 79))]) (w' := (SH, dt5)) rfl rfl (s_iald (n := L) (f := fun j => (xs j).toInt) (am_scr hLL) ⟨by omega, by omega⟩) ?_
    refine go_toq PM267 (k := 4) (pc' := 726) (L' := [some (.inr (.inr (some 3000))), some (.inr (.inr (some 0))), some (.inr (.inr (some 79))), some (.inl i)]) (st' := [.inl (i + 2), .inr (.inr (some 3000)), .inl ((xs ((i + 1).toNat)).toInt), .inr (.inr (some 79))]) (w' := (SH, dt5)) rfl ?_
    have r125 := i32_R (xs ((i + 2).toNat))
    refine go_smpq PM267 (L' := [some (.inr (.inr (some 3000))), some (.inr (.inr (some 0))), some (.inr (.inr (some 79))), some (.inl i)]) (st' := [.inl ((xs ((i + 2).toNat)).toInt), .inl ((xs ((i + 1).toNat)).toInt), .inr (.inr (some 79))]) (w' := (SH, dt5)) rfl rfl (s_iald (n := L) (f := fun j => (xs j).toInt) (am_scr hLL) ⟨by omega, by omega⟩) ?_
    refine go_toq PM267 (k := 4) (pc' := 731) (L' := [some (.inr (.inr (some 3000))), some (.inr (.inr (some 0))), some (.inr (.inr (some 79))), some (.inl i)]) (st' := [.inl (i + 3), .inr (.inr (some 3000)), .inl ((xs ((i + 2).toNat)).toInt), .inl ((xs ((i + 1).toNat)).toInt), .inr (.inr (some 79))]) (w' := (SH, dt5)) rfl ?_
    have r126 := i32_R (xs ((i + 3).toNat))
    refine go_smpq PM267 (L' := [some (.inr (.inr (some 3000))), some (.inr (.inr (some 0))), some (.inr (.inr (some 79))), some (.inl i)]) (st' := [.inl ((xs ((i + 3).toNat)).toInt), .inl ((xs ((i + 2).toNat)).toInt), .inl ((xs ((i + 1).toNat)).toInt), .inr (.inr (some 79))]) (w' := (SH, dt5)) rfl rfl (s_iald (n := L) (f := fun j => (xs j).toInt) (am_scr hLL) ⟨by omega, by omega⟩) ?_
    refine go_callq PM267 PM211 (Q' := _) rfl rfl rfl rfl (sp_X6_ask_v L xs sio (d + 32) dt5 hI6 hM9  ((xs ((i + 1).toNat)).toInt) ⟨by omega, by omega⟩ ((xs ((i + 2).toNat)).toInt) ⟨by omega, by omega⟩ ((xs ((i + 3).toNat)).toInt) ⟨by omega, by omega⟩ ) ?_
    rintro _ _ ⟨dt128, rfl, hI129, hF130, h127⟩
    refine ⟨rfl, ?_⟩
    have hF131 : Fr [0, 1, 2, 3, 4, 5, 6, 7, 8, 9, 10, 11, 12, 13, 14, 15, 16, 17, 18, 19, 20, 21, 22, 23, 24, 25, 26, 27, 28, 29, 30, 31, 32, 33, 34, 35, 36, 37, 38, 39, 40, 41, 42, 43, 44, 45, 46, 47, 48, 49, 50, 51, 52, 53, 54, 55, 56, 57, 58, 59, 60, 61, 62, 63, 64, 65, 66, 67, 68, 69, 70, 71, 72, 73, 74, 75, 76, 77, 78, 79, 80, 81, 82, 83, 84, 85, 86, 87, 88, 89, 90, 91, 92, 93, 94, 95, 96, 97, 98, 99, 100, 101, 102, 103, 104] dt dt128 := Fr_tr hF8 hF130 (by decide)
    have w132 : dt128 1 0 = dt5 1 0 := hF130 1 (by decide) 0
    have w133 : dt128 7 3 = dt 7 3 := (hF130 7 (by decide) 3).trans w10
    have w134 : dt128 10 3 = dt 10 3 := (hF130 10 (by decide) 3).trans w11
    have w135 : dt128 12 3 = dt5 12 3 := hF130 12 (by decide) 3
    have w136 : dt128 14 3 = dt 14 3 := (hF130 14 (by decide) 3).trans w12
    have w137 : dt128 16 3 = dt 16 3 := (hF130 16 (by decide) 3).trans w13
    have w138 : dt128 18 0 = dt 18 0 := (hF130 18 (by decide) 0).trans w14
    have w139 : dt128 24 3 = dt 24 3 := (hF130 24 (by decide) 3).trans w15
    have w140 : dt128 27 3 = dt 27 3 := (hF130 27 (by decide) 3).trans w16
    have w141 : dt128 29 3 = dt 29 3 := (hF130 29 (by decide) 3).trans w17
    have w142 : dt128 31 3 = dt 31 3 := (hF130 31 (by decide) 3).trans w18
    have w143 : dt128 33 3 = dt 33 3 := (hF130 33 (by decide) 3).trans w19
    have w144 : dt128 0 2 = dt 0 2 := (hF130 0 (by decide) 2).trans w20
    have w145 : dt128 35 1 = dt 35 1 := (hF130 35 (by decide) 1).trans w21
    have w146 : dt128 35 2 = dt 35 2 := (hF130 35 (by decide) 2).trans w22
    have w147 : dt128 35 3 = dt 35 3 := (hF130 35 (by decide) 3).trans w23
    have w148 : dt128 81 0 = dt 81 0 := (hF130 81 (by decide) 0).trans w30
    have w149 : dt128 81 1 = dt 81 1 := (hF130 81 (by decide) 1).trans w31
    have w150 : dt128 81 2 = dt 81 2 := (hF130 81 (by decide) 2).trans w32
    have w151 : dt128 81 3 = dt 81 3 := (hF130 81 (by decide) 3).trans w33
    have w152 : dt128 81 4 = dt 81 4 := (hF130 81 (by decide) 4).trans w34
    have w153 : dt128 81 5 = dt 81 5 := (hF130 81 (by decide) 5).trans w35
    have w154 : dt128 79 2 = dt 79 2 := (hF130 79 (by decide) 2).trans w36
    have w155 : dt128 79 12 = dt 79 12 := (hF130 79 (by decide) 12).trans w37
    have w156 : dt128 79 19 = dt 79 19 := (hF130 79 (by decide) 19).trans w38
    have w157 : dt128 79 21 = dt 79 21 := (hF130 79 (by decide) 21).trans w39
    rcases h127 with ⟨rfl, h127⟩ | ⟨v_h127, rfl, h127r, h127⟩
    · skip
      have hM158 : MW (dt128 80) := h127.2.1
      obtain ⟨h127_0, h127_1, h127_2, h127_3, h127_4, h127_5, h127_6, h127_7, h127_8⟩ := h127
      replace h127_0 := hid h127_0
      have w159 : dt128 80 0 = dt 80 0 := h127_2.trans w24
      have w160 : dt128 80 1 = dt 80 1 := h127_3.trans w25
      have w161 : dt128 80 2 = dt 80 2 := h127_4.trans w26
      have w162 : dt128 80 3 = dt 80 3 := h127_5.trans w27
      have w163 : dt128 80 4 = dt 80 4 := h127_6.trans w28
      have w164 : dt128 80 5 = dt 80 5 := h127_7.trans w29
      have M2165 : MW (dt128 81) := MW_frk M2115 hF130 (by decide)
      have C166 : ∀ j : Nat, dt128 2 j = dt 2 j := fun j => (hF130 2 (by decide) j).trans (C116 j)
      have C167 : ∀ j : Nat, dt128 3 j = dt 3 j := fun j => (hF130 3 (by decide) j).trans (C117 j)
      have C168 : ∀ j : Nat, dt128 19 j = dt 19 j := fun j => (hF130 19 (by decide) j).trans (C118 j)
      have C169 : ∀ j : Nat, dt128 20 j = dt 20 j := fun j => (hF130 20 (by decide) j).trans (C119 j)
      have C170 : ∀ j : Nat, dt128 36 j = dt 36 j := fun j => (hF130 36 (by decide) j).trans (C120 j)
      have C171 : ∀ j : Nat, dt128 80 j = dt 80 j := fun j => (h127_8 j).trans (C121 j)
      have C172 : ∀ j : Nat, dt128 81 j = dt 81 j := fun j => (hF130 81 (by decide) j).trans (C122 j)
      have C173 : ∀ j : Nat, dt128 85 j = dt 85 j := fun j => (hF130 85 (by decide) j).trans (C123 j)
      refine go_toq PM267 (k := 2) (pc' := 1435) (L' := [some (.inr (.inr (some 3000))), some (.inr (.inr (some 0))), some (.inr (.inr (some 79))), some (.inl i)]) (st' := []) (w' := (SH, dt128)) rfl ?_
      exact K dt128 hI129 hM158 M2165 (by first | (first | omega | (have z0_ := unhid h127_0; omega)) | (simp only [*]; done) | simp only [*]) (w133.trans (hk1.trans w160.symm)) (w134.trans (hk2.trans w161.symm)) (by (first | omega | (have z0_ := unhid h127_0; omega))) (w136.trans (hk4.trans w163.symm)) (w137.trans (hk5.trans w164.symm)) (w138.trans (hk6.trans w148.symm)) (w139.trans (hk7.trans w149.symm)) (w140.trans (hk8.trans w150.symm)) (w141.trans (hk9.trans w151.symm)) (w142.trans (hk10.trans w152.symm)) (w143.trans (hk11.trans w153.symm)) (w144.trans (hk12.trans w154.symm)) (w145.trans (hk13.trans w155.symm)) (w146.trans (hk14.trans w156.symm)) (w147.trans (hk15.trans w157.symm)) (by first | exact hI | exact TPL_k hd0 C170 C173 (by (first | omega | (have z0_ := unhid h127_0; omega))) | (exfalso; (first | omega | (have z0_ := unhid h127_0; omega)))) (by first | exact hI | exact SCL_k hd1 hM (fun j _ => C166 j) (fun j _ => C167 j) (fun j _ _ => C171 j) | (exfalso; (first | omega | (have z0_ := unhid h127_0; omega)))) (by first | exact hI | exact SCL_k hd2 hM2 (fun j _ => C168 j) (fun j _ => C169 j) (fun j _ _ => C172 j) | (exfalso; (first | omega | (have z0_ := unhid h127_0; omega))))
    · skip
      have hM174 : MW (dt128 80) := h127.2.1
      obtain ⟨h127_0, h127_1, h127_2, h127_3, h127_4, h127_5, h127_6, h127_7, h127_8⟩ := h127
      have w175 : dt128 80 1 = dt 80 1 := h127_4.trans w25
      have w176 : dt128 80 2 = dt 80 2 := h127_5.trans w26
      have w177 : dt128 80 4 = dt 80 4 := h127_6.trans w28
      have w178 : dt128 80 5 = dt 80 5 := h127_7.trans w29
      have M2179 : MW (dt128 81) := MW_frk M2115 hF130 (by decide)
      have C180 : ∀ j : Nat, dt128 2 j = dt 2 j := fun j => (hF130 2 (by decide) j).trans (C116 j)
      have C181 : ∀ j : Nat, dt128 3 j = dt 3 j := fun j => (hF130 3 (by decide) j).trans (C117 j)
      have C182 : ∀ j : Nat, dt128 19 j = dt 19 j := fun j => (hF130 19 (by decide) j).trans (C118 j)
      have C183 : ∀ j : Nat, dt128 20 j = dt 20 j := fun j => (hF130 20 (by decide) j).trans (C119 j)
      have C184 : ∀ j : Nat, dt128 36 j = dt 36 j := fun j => (hF130 36 (by decide) j).trans (C120 j)
      have C185 : ∀ j : Nat, dt128 81 j = dt 81 j := fun j => (hF130 81 (by decide) j).trans (C122 j)
      have C186 : ∀ j : Nat, dt128 85 j = dt 85 j := fun j => (hF130 85 (by decide) j).trans (C123 j)
      have F187 : ∀ j : Nat, 6 ≤ j → j < 974 → dt128 80 j = dt 80 j := fun j h1_ h2_ => (h127_8 j (by omega) (by omega) (by omega)).trans (C121 j)
      refine go_toq PM267 (k := 2) (pc' := 1435) (L' := [some (.inr (.inr (some 3000))), some (.inr (.inr (some 0))), some (.inr (.inr (some 79))), some (.inl i)]) (st' := []) (w' := (SH, dt128)) rfl ?_
      exact K dt128 hI129 hM174 M2179 (by first | omega | (simp only [*]; done) | simp only [*]) (w133.trans (hk1.trans w175.symm)) (w134.trans (hk2.trans w176.symm)) (by omega) (w136.trans (hk4.trans w177.symm)) (w137.trans (hk5.trans w178.symm)) (w138.trans (hk6.trans w148.symm)) (w139.trans (hk7.trans w149.symm)) (w140.trans (hk8.trans w150.symm)) (w141.trans (hk9.trans w151.symm)) (w142.trans (hk10.trans w152.symm)) (w143.trans (hk11.trans w153.symm)) (w144.trans (hk12.trans w154.symm)) (w145.trans (hk13.trans w155.symm)) (w146.trans (hk14.trans w156.symm)) (w147.trans (hk15.trans w157.symm)) (by first | exact hI | exact TPL_k hd0 C184 C186 (by omega) | (exfalso; omega)) (by first | exact hI | exact SCL_k hd1 hM (fun j _ => C180 j) (fun j _ => C181 j) F187 | (exfalso; omega)) (by first | exact hI | exact SCL_k hd2 hM2 (fun j _ => C182 j) (fun j _ => C183 j) (fun j _ _ => C185 j) | (exfalso; omega))
set_option maxRecDepth 20000 in
set_option maxHeartbeats 8000000 in
theorem sp_case13 (L : Nat) (xs : Nat → Int32) (sio : Option Nat) (d : Nat) (Q : Option AV → am_W → Prop) (hLL : L ≤ 3072) (i : Int) (hi : 0 ≤ i ∧ i ≤ 3066) (hil : i ≤ (L : Int) - 6) (dt : Nat → Nat → Int) (hI : InvC dt) (hM : MW (dt 80)) (hM2 : MW (dt 81)) (hk0 : dt 1 0 = dt 80 0) (hk1 : dt 7 3 = dt 80 1) (hk2 : dt 10 3 = dt 80 2) (hk3 : dt 12 3 = dt 80 3) (hk4 : dt 14 3 = dt 80 4) (hk5 : dt 16 3 = dt 80 5) (hk6 : dt 18 0 = dt 81 0) (hk7 : dt 24 3 = dt 81 1) (hk8 : dt 27 3 = dt 81 2) (hk9 : dt 29 3 = dt 81 3) (hk10 : dt 31 3 = dt 81 4) (hk11 : dt 33 3 = dt 81 5) (hk12 : dt 0 2 = dt 79 2) (hk13 : dt 35 1 = dt 79 12) (hk14 : dt 35 2 = dt 79 19) (hk15 : dt 35 3 = dt 79 21) (hd0 : TPL (dt 36) (dt 85) (dt 35 1)) (hd1 : SCL (dt 2) (dt 3) (dt 80)) (hd2 : SCL (dt 19) (dt 20) (dt 81)) (K : ∀ (dt : Nat → Nat → Int) (hI : InvC dt) (hM : MW (dt 80)) (hM2 : MW (dt 81)) (hk0 : dt 1 0 = dt 80 0) (hk1 : dt 7 3 = dt 80 1) (hk2 : dt 10 3 = dt 80 2) (hk3 : dt 12 3 = dt 80 3) (hk4 : dt 14 3 = dt 80 4) (hk5 : dt 16 3 = dt 80 5) (hk6 : dt 18 0 = dt 81 0) (hk7 : dt 24 3 = dt 81 1) (hk8 : dt 27 3 = dt 81 2) (hk9 : dt 29 3 = dt 81 3) (hk10 : dt 31 3 = dt 81 4) (hk11 : dt 33 3 = dt 81 5) (hk12 : dt 0 2 = dt 79 2) (hk13 : dt 35 1 = dt 79 12) (hk14 : dt 35 2 = dt 79 19) (hk15 : dt 35 3 = dt 79 21) (hd0 : TPL (dt 36) (dt 85) (dt 35 1)) (hd1 : SCL (dt 2) (dt 3) (dt 80)) (hd2 : SCL (dt 19) (dt 20) (dt 81)), GO (am_XX L xs sio) (d + 39) 267 1435 [some (.inr (.inr (some 3000))), some (.inr (.inr (some 0))), some (.inr (.inr (some 79))), some (.inl i)] [] (SH, dt) Q) : GO (am_XX L xs sio) (d + 39) 267 739 [some (.inr (.inr (some 3000))), some (.inr (.inr (some 0))), some (.inr (.inr (some 79))), some (.inl i)] [] (SH, dt) Q := by
  have hF : Fr [0, 1, 2, 3, 4, 5, 6, 7, 8, 9, 10, 11, 12, 13, 14, 15, 16, 17, 18, 19, 20, 21, 22, 23, 24, 25, 26, 27, 28, 29, 30, 31, 32, 33, 34, 35, 36, 37, 38, 39, 40, 41, 42, 43, 44, 45, 46, 47, 48, 49, 50, 51, 52, 53, 54, 55, 56, 57, 58, 59, 60, 61, 62, 63, 64, 65, 66, 67, 68, 69, 70, 71, 72, 73, 74, 75, 76, 77, 78, 79, 80, 81, 82, 83, 84, 85, 86, 87, 88, 89, 90, 91, 92, 93, 94, 95, 96, 97, 98, 99, 100, 101, 102, 103, 104] dt dt := Fr_refl
  refine go_toq PM267 (k := 5) (pc' := 744) (L' := [some (.inr (.inr (some 3000))), some (.inr (.inr (some 0))), some (.inr (.inr (some 79))), some (.inl i)]) (st' := [.inl (i + 1), .inr (.inr (some 3000)), .inr (.inr (some 0))]) (w' := (SH, dt)) rfl ?_
  have r1 := i32_R (xs ((i + 1).toNat))
  refine go_smpq PM267 (L' := [some (.inr (.inr (some 3000))), some (.inr (.inr (some 0))), some (.inr (.inr (some 79))), some (.inl i)]) (st' := [.inl ((xs ((i + 1).toNat)).toInt), .inr (.inr (some 0))]) (w' := (SH, dt)) rfl rfl (s_iald (n := L) (f := fun j => (xs j).toInt) (am_scr hLL) ⟨by omega, by omega⟩) ?_
  refine go_toq PM267 (k := 4) (pc' := 749) (L' := [some (.inr (.inr (some 3000))), some (.inr (.inr (some 0))), some (.inr (.inr (some 79))), some (.inl i)]) (st' := [.inl (i + 2), .inr (.inr (some 3000)), .inl ((xs ((i + 1).toNat)).toInt), .inr (.inr (some 0))]) (w' := (SH, dt)) rfl ?_
  have r2 := i32_R (xs ((i + 2).toNat))
  refine go_smpq PM267 (L' := [some (.inr (.inr (some 3000))), some (.inr (.inr (some 0))), some (.inr (.inr (some 79))), some (.inl i)]) (st' := [.inl ((xs ((i + 2).toNat)).toInt), .inl ((xs ((i + 1).toNat)).toInt), .inr (.inr (some 0))]) (w' := (SH, dt)) rfl rfl (s_iald (n := L) (f := fun j => (xs j).toInt) (am_scr hLL) ⟨by omega, by omega⟩) ?_
  refine go_toq PM267 (k := 4) (pc' := 754) (L' := [some (.inr (.inr (some 3000))), some (.inr (.inr (some 0))), some (.inr (.inr (some 79))), some (.inl i)]) (st' := [.inl (i + 3), .inr (.inr (some 3000)), .inl ((xs ((i + 2).toNat)).toInt), .inl ((xs ((i + 1).toNat)).toInt), .inr (.inr (some 0))]) (w' := (SH, dt)) rfl ?_
  have r3 := i32_R (xs ((i + 3).toNat))
  refine go_smpq PM267 (L' := [some (.inr (.inr (some 3000))), some (.inr (.inr (some 0))), some (.inr (.inr (some 79))), some (.inl i)]) (st' := [.inl ((xs ((i + 3).toNat)).toInt), .inl ((xs ((i + 2).toNat)).toInt), .inl ((xs ((i + 1).toNat)).toInt), .inr (.inr (some 0))]) (w' := (SH, dt)) rfl rfl (s_iald (n := L) (f := fun j => (xs j).toInt) (am_scr hLL) ⟨by omega, by omega⟩) ?_
  refine go_toq PM267 (k := 4) (pc' := 759) (L' := [some (.inr (.inr (some 3000))), some (.inr (.inr (some 0))), some (.inr (.inr (some 79))), some (.inl i)]) (st' := [.inl (i + 4), .inr (.inr (some 3000)), .inl ((xs ((i + 3).toNat)).toInt), .inl ((xs ((i + 2).toNat)).toInt), .inl ((xs ((i + 1).toNat)).toInt), .inr (.inr (some 0))]) (w' := (SH, dt)) rfl ?_
  have r4 := i32_R (xs ((i + 4).toNat))
  refine go_smpq PM267 (L' := [some (.inr (.inr (some 3000))), some (.inr (.inr (some 0))), some (.inr (.inr (some 79))), some (.inl i)]) (st' := [.inl ((xs ((i + 4).toNat)).toInt), .inl ((xs ((i + 3).toNat)).toInt), .inl ((xs ((i + 2).toNat)).toInt), .inl ((xs ((i + 1).toNat)).toInt), .inr (.inr (some 0))]) (w' := (SH, dt)) rfl rfl (s_iald (n := L) (f := fun j => (xs j).toInt) (am_scr hLL) ⟨by omega, by omega⟩) ?_
  refine go_callq PM267 PM80 (Q' := _) rfl rfl rfl rfl (sp_X5_told L xs sio (d + 36) dt hI  ((xs ((i + 1).toNat)).toInt) ⟨by omega, by omega⟩ ((xs ((i + 2).toNat)).toInt) ⟨by omega, by omega⟩ ((xs ((i + 3).toNat)).toInt) ⟨by omega, by omega⟩ ((xs ((i + 4).toNat)).toInt) ⟨by omega, by omega⟩ ) ?_
  rintro _ _ ⟨dt6, rfl, hI7, hF8, h5⟩
  refine ⟨rfl, ?_⟩
  have hF9 : Fr [0, 1, 2, 3, 4, 5, 6, 7, 8, 9, 10, 11, 12, 13, 14, 15, 16, 17, 18, 19, 20, 21, 22, 23, 24, 25, 26, 27, 28, 29, 30, 31, 32, 33, 34, 35, 36, 37, 38, 39, 40, 41, 42, 43, 44, 45, 46, 47, 48, 49, 50, 51, 52, 53, 54, 55, 56, 57, 58, 59, 60, 61, 62, 63, 64, 65, 66, 67, 68, 69, 70, 71, 72, 73, 74, 75, 76, 77, 78, 79, 80, 81, 82, 83, 84, 85, 86, 87, 88, 89, 90, 91, 92, 93, 94, 95, 96, 97, 98, 99, 100, 101, 102, 103, 104] dt dt6 := Fr_tr hF hF8 (by decide)
  have hM10 : MW (dt6 80) := MW_fr hM hF8 (by decide)
  have w11 : dt6 1 0 = dt 1 0 := hF8 1 (by decide) 0
  have w12 : dt6 7 3 = dt 7 3 := hF8 7 (by decide) 3
  have w13 : dt6 10 3 = dt 10 3 := hF8 10 (by decide) 3
  have w14 : dt6 14 3 = dt 14 3 := hF8 14 (by decide) 3
  have w15 : dt6 16 3 = dt 16 3 := hF8 16 (by decide) 3
  have w16 : dt6 18 0 = dt 18 0 := hF8 18 (by decide) 0
  have w17 : dt6 24 3 = dt 24 3 := hF8 24 (by decide) 3
  have w18 : dt6 27 3 = dt 27 3 := hF8 27 (by decide) 3
  have w19 : dt6 29 3 = dt 29 3 := hF8 29 (by decide) 3
  have w20 : dt6 31 3 = dt 31 3 := hF8 31 (by decide) 3
  have w21 : dt6 33 3 = dt 33 3 := hF8 33 (by decide) 3
  have w22 : dt6 0 2 = dt 0 2 := hF8 0 (by decide) 2
  have w23 : dt6 35 1 = dt 35 1 := hF8 35 (by decide) 1
  have w24 : dt6 35 2 = dt 35 2 := hF8 35 (by decide) 2
  have w25 : dt6 35 3 = dt 35 3 := hF8 35 (by decide) 3
  have w26 : dt6 80 0 = dt 80 0 := hF8 80 (by decide) 0
  have w27 : dt6 80 1 = dt 80 1 := hF8 80 (by decide) 1
  have w28 : dt6 80 2 = dt 80 2 := hF8 80 (by decide) 2
  have w29 : dt6 80 3 = dt 80 3 := hF8 80 (by decide) 3
  have w30 : dt6 80 4 = dt 80 4 := hF8 80 (by decide) 4
  have w31 : dt6 80 5 = dt 80 5 := hF8 80 (by decide) 5
  have w32 : dt6 81 0 = dt 81 0 := hF8 81 (by decide) 0
  have w33 : dt6 81 1 = dt 81 1 := hF8 81 (by decide) 1
  have w34 : dt6 81 2 = dt 81 2 := hF8 81 (by decide) 2
  have w35 : dt6 81 3 = dt 81 3 := hF8 81 (by decide) 3
  have w36 : dt6 81 4 = dt 81 4 := hF8 81 (by decide) 4
  have w37 : dt6 81 5 = dt 81 5 := hF8 81 (by decide) 5
  have w38 : dt6 79 2 = dt 79 2 := hF8 79 (by decide) 2
  have w39 : dt6 79 12 = dt 79 12 := hF8 79 (by decide) 12
  have w40 : dt6 79 19 = dt 79 19 := hF8 79 (by decide) 19
  have w41 : dt6 79 21 = dt 79 21 := hF8 79 (by decide) 21
  rcases h5 with ⟨rfl, h5⟩ | ⟨v_h5, rfl, h5r, h5⟩
  · skip
    obtain ⟨h5_0, h5_1⟩ := h5
    replace h5_0 := hid h5_0
    have w42 : dt6 12 3 = dt 12 3 := h5_1
    have M243 : MW (dt6 81) := MW_frk hM2 hF8 (by decide)
    have C44 : ∀ j : Nat, dt6 2 j = dt 2 j := fun j => (hF8 2 (by decide) j).trans ((fun _ => rfl) j)
    have C45 : ∀ j : Nat, dt6 3 j = dt 3 j := fun j => (hF8 3 (by decide) j).trans ((fun _ => rfl) j)
    have C46 : ∀ j : Nat, dt6 19 j = dt 19 j := fun j => (hF8 19 (by decide) j).trans ((fun _ => rfl) j)
    have C47 : ∀ j : Nat, dt6 20 j = dt 20 j := fun j => (hF8 20 (by decide) j).trans ((fun _ => rfl) j)
    have C48 : ∀ j : Nat, dt6 36 j = dt 36 j := fun j => (hF8 36 (by decide) j).trans ((fun _ => rfl) j)
    have C49 : ∀ j : Nat, dt6 80 j = dt 80 j := fun j => (hF8 80 (by decide) j).trans ((fun _ => rfl) j)
    have C50 : ∀ j : Nat, dt6 81 j = dt 81 j := fun j => (hF8 81 (by decide) j).trans ((fun _ => rfl) j)
    have C51 : ∀ j : Nat, dt6 85 j = dt 85 j := fun j => (hF8 85 (by decide) j).trans ((fun _ => rfl) j)
    refine go_toq PM267 (k := 6) (pc' := 769) (L' := [some (.inr (.inr (some 3000))), some (.inr (.inr (some 0))), some (.inr (.inr (some 79))), some (.inl i)]) (st' := [.inl (i + 1), .inr (.inr (some 3000)), .inr (.inr (some 79))]) (w' := (SH, dt6)) rfl ?_
    have r52 := i32_R (xs ((i + 1).toNat))
    refine go_smpq PM267 (L' := [some (.inr (.inr (some 3000))), some (.inr (.inr (some 0))), some (.inr (.inr (some 79))), some (.inl i)]) (st' := [.inl ((xs ((i + 1).toNat)).toInt), .inr (.inr (some 79))]) (w' := (SH, dt6)) rfl rfl (s_iald (n := L) (f := fun j => (xs j).toInt) (am_scr hLL) ⟨by (first | omega | (have z0_ := unhid h5_0; omega)), by (first | omega | (have z0_ := unhid h5_0; omega))⟩) ?_
    refine go_toq PM267 (k := 4) (pc' := 774) (L' := [some (.inr (.inr (some 3000))), some (.inr (.inr (some 0))), some (.inr (.inr (some 79))), some (.inl i)]) (st' := [.inl (i + 2), .inr (.inr (some 3000)), .inl ((xs ((i + 1).toNat)).toInt), .inr (.inr (some 79))]) (w' := (SH, dt6)) rfl ?_
    have r53 := i32_R (xs ((i + 2).toNat))
    refine go_smpq PM267 (L' := [some (.inr (.inr (some 3000))), some (.inr (.inr (some 0))), some (.inr (.inr (some 79))), some (.inl i)]) (st' := [.inl ((xs ((i + 2).toNat)).toInt), .inl ((xs ((i + 1).toNat)).toInt), .inr (.inr (some 79))]) (w' := (SH, dt6)) rfl rfl (s_iald (n := L) (f := fun j => (xs j).toInt) (am_scr hLL) ⟨by (first | omega | (have z0_ := unhid h5_0; omega)), by (first | omega | (have z0_ := unhid h5_0; omega))⟩) ?_
    refine go_toq PM267 (k := 4) (pc' := 779) (L' := [some (.inr (.inr (some 3000))), some (.inr (.inr (some 0))), some (.inr (.inr (some 79))), some (.inl i)]) (st' := [.inl (i + 3), .inr (.inr (some 3000)), .inl ((xs ((i + 2).toNat)).toInt), .inl ((xs ((i + 1).toNat)).toInt), .inr (.inr (some 79))]) (w' := (SH, dt6)) rfl ?_
    have r54 := i32_R (xs ((i + 3).toNat))
    refine go_smpq PM267 (L' := [some (.inr (.inr (some 3000))), some (.inr (.inr (some 0))), some (.inr (.inr (some 79))), some (.inl i)]) (st' := [.inl ((xs ((i + 3).toNat)).toInt), .inl ((xs ((i + 2).toNat)).toInt), .inl ((xs ((i + 1).toNat)).toInt), .inr (.inr (some 79))]) (w' := (SH, dt6)) rfl rfl (s_iald (n := L) (f := fun j => (xs j).toInt) (am_scr hLL) ⟨by (first | omega | (have z0_ := unhid h5_0; omega)), by (first | omega | (have z0_ := unhid h5_0; omega))⟩) ?_
    refine go_toq PM267 (k := 4) (pc' := 784) (L' := [some (.inr (.inr (some 3000))), some (.inr (.inr (some 0))), some (.inr (.inr (some 79))), some (.inl i)]) (st' := [.inl (i + 4), .inr (.inr (some 3000)), .inl ((xs ((i + 3).toNat)).toInt), .inl ((xs ((i + 2).toNat)).toInt), .inl ((xs ((i + 1).toNat)).toInt), .inr (.inr (some 79))]) (w' := (SH, dt6)) rfl ?_
    have r55 := i32_R (xs ((i + 4).toNat))
    refine go_smpq PM267 (L' := [some (.inr (.inr (some 3000))), some (.inr (.inr (some 0))), some (.inr (.inr (some 79))), some (.inl i)]) (st' := [.inl ((xs ((i + 4).toNat)).toInt), .inl ((xs ((i + 3).toNat)).toInt), .inl ((xs ((i + 2).toNat)).toInt), .inl ((xs ((i + 1).toNat)).toInt), .inr (.inr (some 79))]) (w' := (SH, dt6)) rfl rfl (s_iald (n := L) (f := fun j => (xs j).toInt) (am_scr hLL) ⟨by (first | omega | (have z0_ := unhid h5_0; omega)), by (first | omega | (have z0_ := unhid h5_0; omega))⟩) ?_
    refine go_callq PM267 PM213 (Q' := _) rfl rfl rfl rfl (sp_X6_told_v L xs sio (d + 36) dt6 hI7 hM10  ((xs ((i + 1).toNat)).toInt) ⟨by (first | omega | (have z0_ := unhid h5_0; omega)), by (first | omega | (have z0_ := unhid h5_0; omega))⟩ ((xs ((i + 2).toNat)).toInt) ⟨by (first | omega | (have z0_ := unhid h5_0; omega)), by (first | omega | (have z0_ := unhid h5_0; omega))⟩ ((xs ((i + 3).toNat)).toInt) ⟨by (first | omega | (have z0_ := unhid h5_0; omega)), by (first | omega | (have z0_ := unhid h5_0; omega))⟩ ((xs ((i + 4).toNat)).toInt) ⟨by (first | omega | (have z0_ := unhid h5_0; omega)), by (first | omega | (have z0_ := unhid h5_0; omega))⟩ ) ?_
    rintro _ _ ⟨dt57, rfl, hI58, hF59, h56⟩
    refine ⟨rfl, ?_⟩
    have hF60 : Fr [0, 1, 2, 3, 4, 5, 6, 7, 8, 9, 10, 11, 12, 13, 14, 15, 16, 17, 18, 19, 20, 21, 22, 23, 24, 25, 26, 27, 28, 29, 30, 31, 32, 33, 34, 35, 36, 37, 38, 39, 40, 41, 42, 43, 44, 45, 46, 47, 48, 49, 50, 51, 52, 53, 54, 55, 56, 57, 58, 59, 60, 61, 62, 63, 64, 65, 66, 67, 68, 69, 70, 71, 72, 73, 74, 75, 76, 77, 78, 79, 80, 81, 82, 83, 84, 85, 86, 87, 88, 89, 90, 91, 92, 93, 94, 95, 96, 97, 98, 99, 100, 101, 102, 103, 104] dt dt57 := Fr_tr hF9 hF59 (by decide)
    have w61 : dt57 1 0 = dt 1 0 := (hF59 1 (by decide) 0).trans w11
    have w62 : dt57 7 3 = dt 7 3 := (hF59 7 (by decide) 3).trans w12
    have w63 : dt57 10 3 = dt 10 3 := (hF59 10 (by decide) 3).trans w13
    have w64 : dt57 12 3 = dt 12 3 := (hF59 12 (by decide) 3).trans w42
    have w65 : dt57 14 3 = dt 14 3 := (hF59 14 (by decide) 3).trans w14
    have w66 : dt57 16 3 = dt 16 3 := (hF59 16 (by decide) 3).trans w15
    have w67 : dt57 18 0 = dt 18 0 := (hF59 18 (by decide) 0).trans w16
    have w68 : dt57 24 3 = dt 24 3 := (hF59 24 (by decide) 3).trans w17
    have w69 : dt57 27 3 = dt 27 3 := (hF59 27 (by decide) 3).trans w18
    have w70 : dt57 29 3 = dt 29 3 := (hF59 29 (by decide) 3).trans w19
    have w71 : dt57 31 3 = dt 31 3 := (hF59 31 (by decide) 3).trans w20
    have w72 : dt57 33 3 = dt 33 3 := (hF59 33 (by decide) 3).trans w21
    have w73 : dt57 0 2 = dt 0 2 := (hF59 0 (by decide) 2).trans w22
    have w74 : dt57 35 1 = dt 35 1 := (hF59 35 (by decide) 1).trans w23
    have w75 : dt57 35 2 = dt 35 2 := (hF59 35 (by decide) 2).trans w24
    have w76 : dt57 35 3 = dt 35 3 := (hF59 35 (by decide) 3).trans w25
    have w77 : dt57 81 0 = dt 81 0 := (hF59 81 (by decide) 0).trans w32
    have w78 : dt57 81 1 = dt 81 1 := (hF59 81 (by decide) 1).trans w33
    have w79 : dt57 81 2 = dt 81 2 := (hF59 81 (by decide) 2).trans w34
    have w80 : dt57 81 3 = dt 81 3 := (hF59 81 (by decide) 3).trans w35
    have w81 : dt57 81 4 = dt 81 4 := (hF59 81 (by decide) 4).trans w36
    have w82 : dt57 81 5 = dt 81 5 := (hF59 81 (by decide) 5).trans w37
    have w83 : dt57 79 2 = dt 79 2 := (hF59 79 (by decide) 2).trans w38
    have w84 : dt57 79 12 = dt 79 12 := (hF59 79 (by decide) 12).trans w39
    have w85 : dt57 79 19 = dt 79 19 := (hF59 79 (by decide) 19).trans w40
    have w86 : dt57 79 21 = dt 79 21 := (hF59 79 (by decide) 21).trans w41
    rcases h56 with ⟨rfl, h56⟩ | ⟨v_h56, rfl, h56r, h56⟩
    · skip
      have hM87 : MW (dt57 80) := h56.2.1
      obtain ⟨h56_0, h56_1, h56_2, h56_3, h56_4, h56_5, h56_6, h56_7, h56_8⟩ := h56
      replace h56_0 := hid h56_0
      have w88 : dt57 80 0 = dt 80 0 := h56_2.trans w26
      have w89 : dt57 80 1 = dt 80 1 := h56_3.trans w27
      have w90 : dt57 80 2 = dt 80 2 := h56_4.trans w28
      have w91 : dt57 80 3 = dt 80 3 := h56_5.trans w29
      have w92 : dt57 80 4 = dt 80 4 := h56_6.trans w30
      have w93 : dt57 80 5 = dt 80 5 := h56_7.trans w31
      have M294 : MW (dt57 81) := MW_frk M243 hF59 (by decide)
      have C95 : ∀ j : Nat, dt57 2 j = dt 2 j := fun j => (hF59 2 (by decide) j).trans (C44 j)
      have C96 : ∀ j : Nat, dt57 3 j = dt 3 j := fun j => (hF59 3 (by decide) j).trans (C45 j)
      have C97 : ∀ j : Nat, dt57 19 j = dt 19 j := fun j => (hF59 19 (by decide) j).trans (C46 j)
      have C98 : ∀ j : Nat, dt57 20 j = dt 20 j := fun j => (hF59 20 (by decide) j).trans (C47 j)
      have C99 : ∀ j : Nat, dt57 36 j = dt 36 j := fun j => (hF59 36 (by decide) j).trans (C48 j)
      have C100 : ∀ j : Nat, dt57 80 j = dt 80 j := fun j => (h56_8 j).trans (C49 j)
      have C101 : ∀ j : Nat, dt57 81 j = dt 81 j := fun j => (hF59 81 (by decide) j).trans (C50 j)
      have C102 : ∀ j : Nat, dt57 85 j = dt 85 j := fun j => (hF59 85 (by decide) j).trans (C51 j)
      refine go_toq PM267 (k := 2) (pc' := 1435) (L' := [some (.inr (.inr (some 3000))), some (.inr (.inr (some 0))), some (.inr (.inr (some 79))), some (.inl i)]) (st' := []) (w' := (SH, dt57)) rfl ?_
      exact K dt57 hI58 hM87 M294 (w61.trans (hk0.trans w88.symm)) (w62.trans (hk1.trans w89.symm)) (w63.trans (hk2.trans w90.symm)) (w64.trans (hk3.trans w91.symm)) (w65.trans (hk4.trans w92.symm)) (w66.trans (hk5.trans w93.symm)) (w67.trans (hk6.trans w77.symm)) (w68.trans (hk7.trans w78.symm)) (w69.trans (hk8.trans w79.symm)) (w70.trans (hk9.trans w80.symm)) (w71.trans (hk10.trans w81.symm)) (w72.trans (hk11.trans w82.symm)) (w73.trans (hk12.trans w83.symm)) (w74.trans (hk13.trans w84.symm)) (w75.trans (hk14.trans w85.symm)) (w76.trans (hk15.trans w86.symm)) (by first | exact hI | exact TPL_k hd0 C99 C102 (by (first | omega | (have z0_ := unhid h5_0; have z1_ := unhid h56_0; omega))) | (exfalso; (first | omega | (have z0_ := unhid h5_0; have z1_ := unhid h56_0; omega)))) (by first | exact hI | exact SCL_k hd1 hM (fun j _ => C95 j) (fun j _ => C96 j) (fun j _ _ => C100 j) | (exfalso; (first | omega | (have z0_ := unhid h5_0; have z1_ := unhid h56_0; omega)))) (by first | exact hI | exact SCL_k hd2 hM2 (fun j _ => C97 j) (fun j _ => C98 j) (fun j _ _ => C101 j) | (exfalso; (first | omega | (have z0_ := unhid h5_0; have z1_ := unhid h56_0; omega))))
    · skip
      have hM103 : MW (dt57 80) := h56.2.2.1
      obtain ⟨h56_0, h56_1, h56_2, h56_3, h56_4, h56_5, h56_6, h56_7, h56_8, h56_9, h56_10, h56_11, h56_12, h56_13, h56_14, h56_15⟩ := h56
      have w104 : dt57 80 0 = dt 80 0 := h56_4.trans w26
      have w105 : dt57 80 1 = dt 80 1 := h56_5.trans w27
      have w106 : dt57 80 2 = dt 80 2 := h56_6.trans w28
      have w107 : dt57 80 4 = dt 80 4 := h56_7.trans w30
      have w108 : dt57 80 5 = dt 80 5 := h56_8.trans w31
      have M2109 : MW (dt57 81) := MW_frk M243 hF59 (by decide)
      have C110 : ∀ j : Nat, dt57 2 j = dt 2 j := fun j => (hF59 2 (by decide) j).trans (C44 j)
      have C111 : ∀ j : Nat, dt57 3 j = dt 3 j := fun j => (hF59 3 (by decide) j).trans (C45 j)
      have C112 : ∀ j : Nat, dt57 19 j = dt 19 j := fun j => (hF59 19 (by decide) j).trans (C46 j)
      have C113 : ∀ j : Nat, dt57 20 j = dt 20 j := fun j => (hF59 20 (by decide) j).trans (C47 j)
      have C114 : ∀ j : Nat, dt57 36 j = dt 36 j := fun j => (hF59 36 (by decide) j).trans (C48 j)
      have C115 : ∀ j : Nat, dt57 81 j = dt 81 j := fun j => (hF59 81 (by decide) j).trans (C50 j)
      have C116 : ∀ j : Nat, dt57 85 j = dt 85 j := fun j => (hF59 85 (by decide) j).trans (C51 j)
      have F117 : ∀ j : Nat, 6 ≤ j → j < 974 → dt57 80 j = dt 80 j := fun j h1_ h2_ => (h56_9 j (by (first | omega | (have z0_ := unhid h5_0; omega))) (by (first | omega | (have z0_ := unhid h5_0; omega)))).trans (C49 j)
      refine go_toq PM267 (k := 2) (pc' := 1435) (L' := [some (.inr (.inr (some 3000))), some (.inr (.inr (some 0))), some (.inr (.inr (some 79))), some (.inl i)]) (st' := []) (w' := (SH, dt57)) rfl ?_
      exact K dt57 hI58 hM103 M2109 (w61.trans (hk0.trans w104.symm)) (w62.trans (hk1.trans w105.symm)) (w63.trans (hk2.trans w106.symm)) (by (first | omega | (have z0_ := unhid h5_0; omega))) (w65.trans (hk4.trans w107.symm)) (w66.trans (hk5.trans w108.symm)) (w67.trans (hk6.trans w77.symm)) (w68.trans (hk7.trans w78.symm)) (w69.trans (hk8.trans w79.symm)) (w70.trans (hk9.trans w80.symm)) (w71.trans (hk10.trans w81.symm)) (w72.trans (hk11.trans w82.symm)) (w73.trans (hk12.trans w83.symm)) (w74.trans (hk13.trans w84.symm)) (w75.trans (hk14.trans w85.symm)) (w76.trans (hk15.trans w86.symm)) (by first | exact hI | exact TPL_k hd0 C114 C116 (by (first | omega | (have z0_ := unhid h5_0; omega))) | (exfalso; (first | omega | (have z0_ := unhid h5_0; omega)))) (by first | exact hI | exact SCL_k hd1 hM (fun j _ => C110 j) (fun j _ => C111 j) F117 | (exfalso; (first | omega | (have z0_ := unhid h5_0; omega)))) (by first | exact hI | exact SCL_k hd2 hM2 (fun j _ => C112 j) (fun j _ => C113 j) (fun j _ _ => C115 j) | (exfalso; (first | omega | (have z0_ := unhid h5_0; omega))))
  · skip
    obtain ⟨h5_0, h5_1, h5_2⟩ := h5
    have M2118 : MW (dt6 81) := MW_frk hM2 hF8 (by decide)
    have C119 : ∀ j : Nat, dt6 2 j = dt 2 j := fun j => (hF8 2 (by decide) j).trans ((fun _ => rfl) j)
    have C120 : ∀ j : Nat, dt6 3 j = dt 3 j := fun j => (hF8 3 (by decide) j).trans ((fun _ => rfl) j)
    have C121 : ∀ j : Nat, dt6 19 j = dt 19 j := fun j => (hF8 19 (by decide) j).trans ((fun _ => rfl) j)
    have C122 : ∀ j : Nat, dt6 20 j = dt 20 j := fun j => (hF8 20 (by decide) j).trans ((fun _ => rfl) j)
    have C123 : ∀ j : Nat, dt6 36 j = dt 36 j := fun j => (hF8 36 (by decide) j).trans ((fun _ => rfl) j)
    have C124 : ∀ j : Nat, dt6 80 j = dt 80 j := fun j => (hF8 80 (by decide) j).trans ((fun _ => rfl) j)
    have C125 : ∀ j : Nat, dt6 81 j = dt 81 j := fun j => (hF8 81 (by decide) j).trans ((fun _ => rfl) j)
    have C126 : ∀ j : Nat, dt6 85 j = dt 85 j := fun j => (hF8 85 (by decide) j).trans ((fun _ => rfl) j)
    refine go_toq PM267 (k := 6) (pc' := 769) (L' := [some (.inr (.inr (some 3000))), some (.inr (.inr (some 0))), some (.inr (.inr (some 79))), some (.inl i)]) (st' := [.inl (i + 1), .inr (.inr (some 3000)), .inr (.inr (some 79))]) (w' := (SH, dt6)) rfl ?_
    have r127 := i32_R (xs ((i + 1).toNat))
    refine go_smpq PM267 (L' := [some (.inr (.inr (some 3000))), some (.inr (.inr (some 0))), some (.inr (.inr (some 79))), some (.inl i)]) (st' := [.inl ((xs ((i + 1).toNat)).toInt), .inr (.inr (some 79))]) (w' := (SH, dt6)) rfl rfl (s_iald (n := L) (f := fun j => (xs j).toInt) (am_scr hLL) ⟨by omega, by omega⟩) ?_
    refine go_toq PM267 (k := 4) (pc' := 774) (L' := [some (.inr (.inr (some 3000))), some (.inr (.inr (some 0))), some (.inr (.inr (some 79))), some (.inl i)]) (st' := [.inl (i + 2), .inr (.inr (some 3000)), .inl ((xs ((i + 1).toNat)).toInt), .inr (.inr (some 79))]) (w' := (SH, dt6)) rfl ?_
    have r128 := i32_R (xs ((i + 2).toNat))
    refine go_smpq PM267 (L' := [some (.inr (.inr (some 3000))), some (.inr (.inr (some 0))), some (.inr (.inr (some 79))), some (.inl i)]) (st' := [.inl ((xs ((i + 2).toNat)).toInt), .inl ((xs ((i + 1).toNat)).toInt), .inr (.inr (some 79))]) (w' := (SH, dt6)) rfl rfl (s_iald (n := L) (f := fun j => (xs j).toInt) (am_scr hLL) ⟨by omega, by omega⟩) ?_
    refine go_toq PM267 (k := 4) (pc' := 779) (L' := [some (.inr (.inr (some 3000))), some (.inr (.inr (some 0))), some (.inr (.inr (some 79))), some (.inl i)]) (st' := [.inl (i + 3), .inr (.inr (some 3000)), .inl ((xs ((i + 2).toNat)).toInt), .inl ((xs ((i + 1).toNat)).toInt), .inr (.inr (some 79))]) (w' := (SH, dt6)) rfl ?_
    have r129 := i32_R (xs ((i + 3).toNat))
    refine go_smpq PM267 (L' := [some (.inr (.inr (some 3000))), some (.inr (.inr (some 0))), some (.inr (.inr (some 79))), some (.inl i)]) (st' := [.inl ((xs ((i + 3).toNat)).toInt), .inl ((xs ((i + 2).toNat)).toInt), .inl ((xs ((i + 1).toNat)).toInt), .inr (.inr (some 79))]) (w' := (SH, dt6)) rfl rfl (s_iald (n := L) (f := fun j => (xs j).toInt) (am_scr hLL) ⟨by omega, by omega⟩) ?_
    refine go_toq PM267 (k := 4) (pc' := 784) (L' := [some (.inr (.inr (some 3000))), some (.inr (.inr (some 0))), some (.inr (.inr (some 79))), some (.inl i)]) (st' := [.inl (i + 4), .inr (.inr (some 3000)), .inl ((xs ((i + 3).toNat)).toInt), .inl ((xs ((i + 2).toNat)).toInt), .inl ((xs ((i + 1).toNat)).toInt), .inr (.inr (some 79))]) (w' := (SH, dt6)) rfl ?_
    have r130 := i32_R (xs ((i + 4).toNat))
    refine go_smpq PM267 (L' := [some (.inr (.inr (some 3000))), some (.inr (.inr (some 0))), some (.inr (.inr (some 79))), some (.inl i)]) (st' := [.inl ((xs ((i + 4).toNat)).toInt), .inl ((xs ((i + 3).toNat)).toInt), .inl ((xs ((i + 2).toNat)).toInt), .inl ((xs ((i + 1).toNat)).toInt), .inr (.inr (some 79))]) (w' := (SH, dt6)) rfl rfl (s_iald (n := L) (f := fun j => (xs j).toInt) (am_scr hLL) ⟨by omega, by omega⟩) ?_
    refine go_callq PM267 PM213 (Q' := _) rfl rfl rfl rfl (sp_X6_told_v L xs sio (d + 36) dt6 hI7 hM10  ((xs ((i + 1).toNat)).toInt) ⟨by omega, by omega⟩ ((xs ((i + 2).toNat)).toInt) ⟨by omega, by omega⟩ ((xs ((i + 3).toNat)).toInt) ⟨by omega, by omega⟩ ((xs ((i + 4).toNat)).toInt) ⟨by omega, by omega⟩ ) ?_
    rintro _ _ ⟨dt132, rfl, hI133, hF134, h131⟩
    refine ⟨rfl, ?_⟩
    have hF135 : Fr [0, 1, 2, 3, 4, 5, 6, 7, 8, 9, 10, 11, 12, 13, 14, 15, 16, 17, 18, 19, 20, 21, 22, 23, 24, 25, 26, 27, 28, 29, 30, 31, 32, 33, 34, 35, 36, 37, 38, 39, 40, 41, 42, 43, 44, 45, 46, 47, 48, 49, 50, 51, 52, 53, 54, 55, 56, 57, 58, 59, 60, 61, 62, 63, 64, 65, 66, 67, 68, 69, 70, 71, 72, 73, 74, 75, 76, 77, 78, 79, 80, 81, 82, 83, 84, 85, 86, 87, 88, 89, 90, 91, 92, 93, 94, 95, 96, 97, 98, 99, 100, 101, 102, 103, 104] dt dt132 := Fr_tr hF9 hF134 (by decide)
    have w136 : dt132 1 0 = dt 1 0 := (hF134 1 (by decide) 0).trans w11
    have w137 : dt132 7 3 = dt 7 3 := (hF134 7 (by decide) 3).trans w12
    have w138 : dt132 10 3 = dt 10 3 := (hF134 10 (by decide) 3).trans w13
    have w139 : dt132 12 3 = dt6 12 3 := hF134 12 (by decide) 3
    have w140 : dt132 14 3 = dt 14 3 := (hF134 14 (by decide) 3).trans w14
    have w141 : dt132 16 3 = dt 16 3 := (hF134 16 (by decide) 3).trans w15
    have w142 : dt132 18 0 = dt 18 0 := (hF134 18 (by decide) 0).trans w16
    have w143 : dt132 24 3 = dt 24 3 := (hF134 24 (by decide) 3).trans w17
    have w144 : dt132 27 3 = dt 27 3 := (hF134 27 (by decide) 3).trans w18
    have w145 : dt132 29 3 = dt 29 3 := (hF134 29 (by decide) 3).trans w19
    have w146 : dt132 31 3 = dt 31 3 := (hF134 31 (by decide) 3).trans w20
    have w147 : dt132 33 3 = dt 33 3 := (hF134 33 (by decide) 3).trans w21
    have w148 : dt132 0 2 = dt 0 2 := (hF134 0 (by decide) 2).trans w22
    have w149 : dt132 35 1 = dt 35 1 := (hF134 35 (by decide) 1).trans w23
    have w150 : dt132 35 2 = dt 35 2 := (hF134 35 (by decide) 2).trans w24
    have w151 : dt132 35 3 = dt 35 3 := (hF134 35 (by decide) 3).trans w25
    have w152 : dt132 81 0 = dt 81 0 := (hF134 81 (by decide) 0).trans w32
    have w153 : dt132 81 1 = dt 81 1 := (hF134 81 (by decide) 1).trans w33
    have w154 : dt132 81 2 = dt 81 2 := (hF134 81 (by decide) 2).trans w34
    have w155 : dt132 81 3 = dt 81 3 := (hF134 81 (by decide) 3).trans w35
    have w156 : dt132 81 4 = dt 81 4 := (hF134 81 (by decide) 4).trans w36
    have w157 : dt132 81 5 = dt 81 5 := (hF134 81 (by decide) 5).trans w37
    have w158 : dt132 79 2 = dt 79 2 := (hF134 79 (by decide) 2).trans w38
    have w159 : dt132 79 12 = dt 79 12 := (hF134 79 (by decide) 12).trans w39
    have w160 : dt132 79 19 = dt 79 19 := (hF134 79 (by decide) 19).trans w40
    have w161 : dt132 79 21 = dt 79 21 := (hF134 79 (by decide) 21).trans w41
    rcases h131 with ⟨rfl, h131⟩ | ⟨v_h131, rfl, h131r, h131⟩
    · skip
      have hM162 : MW (dt132 80) := h131.2.1
      obtain ⟨h131_0, h131_1, h131_2, h131_3, h131_4, h131_5, h131_6, h131_7, h131_8⟩ := h131
      replace h131_0 := hid h131_0
      have w163 : dt132 80 0 = dt 80 0 := h131_2.trans w26
      have w164 : dt132 80 1 = dt 80 1 := h131_3.trans w27
      have w165 : dt132 80 2 = dt 80 2 := h131_4.trans w28
      have w166 : dt132 80 3 = dt 80 3 := h131_5.trans w29
      have w167 : dt132 80 4 = dt 80 4 := h131_6.trans w30
      have w168 : dt132 80 5 = dt 80 5 := h131_7.trans w31
      have M2169 : MW (dt132 81) := MW_frk M2118 hF134 (by decide)
      have C170 : ∀ j : Nat, dt132 2 j = dt 2 j := fun j => (hF134 2 (by decide) j).trans (C119 j)
      have C171 : ∀ j : Nat, dt132 3 j = dt 3 j := fun j => (hF134 3 (by decide) j).trans (C120 j)
      have C172 : ∀ j : Nat, dt132 19 j = dt 19 j := fun j => (hF134 19 (by decide) j).trans (C121 j)
      have C173 : ∀ j : Nat, dt132 20 j = dt 20 j := fun j => (hF134 20 (by decide) j).trans (C122 j)
      have C174 : ∀ j : Nat, dt132 36 j = dt 36 j := fun j => (hF134 36 (by decide) j).trans (C123 j)
      have C175 : ∀ j : Nat, dt132 80 j = dt 80 j := fun j => (h131_8 j).trans (C124 j)
      have C176 : ∀ j : Nat, dt132 81 j = dt 81 j := fun j => (hF134 81 (by decide) j).trans (C125 j)
      have C177 : ∀ j : Nat, dt132 85 j = dt 85 j := fun j => (hF134 85 (by decide) j).trans (C126 j)
      refine go_toq PM267 (k := 2) (pc' := 1435) (L' := [some (.inr (.inr (some 3000))), some (.inr (.inr (some 0))), some (.inr (.inr (some 79))), some (.inl i)]) (st' := []) (w' := (SH, dt132)) rfl ?_
      exact K dt132 hI133 hM162 M2169 (w136.trans (hk0.trans w163.symm)) (w137.trans (hk1.trans w164.symm)) (w138.trans (hk2.trans w165.symm)) (by (first | omega | (have z0_ := unhid h131_0; omega))) (w140.trans (hk4.trans w167.symm)) (w141.trans (hk5.trans w168.symm)) (w142.trans (hk6.trans w152.symm)) (w143.trans (hk7.trans w153.symm)) (w144.trans (hk8.trans w154.symm)) (w145.trans (hk9.trans w155.symm)) (w146.trans (hk10.trans w156.symm)) (w147.trans (hk11.trans w157.symm)) (w148.trans (hk12.trans w158.symm)) (w149.trans (hk13.trans w159.symm)) (w150.trans (hk14.trans w160.symm)) (w151.trans (hk15.trans w161.symm)) (by first | exact hI | exact TPL_k hd0 C174 C177 (by (first | omega | (have z0_ := unhid h131_0; omega))) | (exfalso; (first | omega | (have z0_ := unhid h131_0; omega)))) (by first | exact hI | exact SCL_k hd1 hM (fun j _ => C170 j) (fun j _ => C171 j) (fun j _ _ => C175 j) | (exfalso; (first | omega | (have z0_ := unhid h131_0; omega)))) (by first | exact hI | exact SCL_k hd2 hM2 (fun j _ => C172 j) (fun j _ => C173 j) (fun j _ _ => C176 j) | (exfalso; (first | omega | (have z0_ := unhid h131_0; omega))))
    · skip
      have hM178 : MW (dt132 80) := h131.2.2.1
      obtain ⟨h131_0, h131_1, h131_2, h131_3, h131_4, h131_5, h131_6, h131_7, h131_8, h131_9, h131_10, h131_11, h131_12, h131_13, h131_14, h131_15⟩ := h131
      have w179 : dt132 80 0 = dt 80 0 := h131_4.trans w26
      have w180 : dt132 80 1 = dt 80 1 := h131_5.trans w27
      have w181 : dt132 80 2 = dt 80 2 := h131_6.trans w28
      have w182 : dt132 80 4 = dt 80 4 := h131_7.trans w30
      have w183 : dt132 80 5 = dt 80 5 := h131_8.trans w31
      have M2184 : MW (dt132 81) := MW_frk M2118 hF134 (by decide)
      have C185 : ∀ j : Nat, dt132 2 j = dt 2 j := fun j => (hF134 2 (by decide) j).trans (C119 j)
      have C186 : ∀ j : Nat, dt132 3 j = dt 3 j := fun j => (hF134 3 (by decide) j).trans (C120 j)
      have C187 : ∀ j : Nat, dt132 19 j = dt 19 j := fun j => (hF134 19 (by decide) j).trans (C121 j)
      have C188 : ∀ j : Nat, dt132 20 j = dt 20 j := fun j => (hF134 20 (by decide) j).trans (C122 j)
      have C189 : ∀ j : Nat, dt132 36 j = dt 36 j := fun j => (hF134 36 (by decide) j).trans (C123 j)
      have C190 : ∀ j : Nat, dt132 81 j = dt 81 j := fun j => (hF134 81 (by decide) j).trans (C125 j)
      have C191 : ∀ j : Nat, dt132 85 j = dt 85 j := fun j => (hF134 85 (by decide) j).trans (C126 j)
      have F192 : ∀ j : Nat, 6 ≤ j → j < 974 → dt132 80 j = dt 80 j := fun j h1_ h2_ => (h131_9 j (by omega) (by omega)).trans (C124 j)
      refine go_toq PM267 (k := 2) (pc' := 1435) (L' := [some (.inr (.inr (some 3000))), some (.inr (.inr (some 0))), some (.inr (.inr (some 79))), some (.inl i)]) (st' := []) (w' := (SH, dt132)) rfl ?_
      exact K dt132 hI133 hM178 M2184 (w136.trans (hk0.trans w179.symm)) (w137.trans (hk1.trans w180.symm)) (w138.trans (hk2.trans w181.symm)) (by omega) (w140.trans (hk4.trans w182.symm)) (w141.trans (hk5.trans w183.symm)) (w142.trans (hk6.trans w152.symm)) (w143.trans (hk7.trans w153.symm)) (w144.trans (hk8.trans w154.symm)) (w145.trans (hk9.trans w155.symm)) (w146.trans (hk10.trans w156.symm)) (w147.trans (hk11.trans w157.symm)) (w148.trans (hk12.trans w158.symm)) (w149.trans (hk13.trans w159.symm)) (w150.trans (hk14.trans w160.symm)) (w151.trans (hk15.trans w161.symm)) (by first | exact hI | exact TPL_k hd0 C189 C191 (by omega) | (exfalso; omega)) (by first | exact hI | exact SCL_k hd1 hM (fun j _ => C185 j) (fun j _ => C186 j) F192 | (exfalso; omega)) (by first | exact hI | exact SCL_k hd2 hM2 (fun j _ => C187 j) (fun j _ => C188 j) (fun j _ _ => C190 j) | (exfalso; omega))
set_option maxRecDepth 20000 in
set_option maxHeartbeats 8000000 in
theorem sp_case14 (L : Nat) (xs : Nat → Int32) (sio : Option Nat) (d : Nat) (Q : Option AV → am_W → Prop) (hLL : L ≤ 3072) (i : Int) (hi : 0 ≤ i ∧ i ≤ 3066) (hil : i ≤ (L : Int) - 6) (dt : Nat → Nat → Int) (hI : InvC dt) (hM : MW (dt 80)) (hM2 : MW (dt 81)) (hk0 : dt 1 0 = dt 80 0) (hk1 : dt 7 3 = dt 80 1) (hk2 : dt 10 3 = dt 80 2) (hk3 : dt 12 3 = dt 80 3) (hk4 : dt 14 3 = dt 80 4) (hk5 : dt 16 3 = dt 80 5) (hk6 : dt 18 0 = dt 81 0) (hk7 : dt 24 3 = dt 81 1) (hk8 : dt 27 3 = dt 81 2) (hk9 : dt 29 3 = dt 81 3) (hk10 : dt 31 3 = dt 81 4) (hk11 : dt 33 3 = dt 81 5) (hk12 : dt 0 2 = dt 79 2) (hk13 : dt 35 1 = dt 79 12) (hk14 : dt 35 2 = dt 79 19) (hk15 : dt 35 3 = dt 79 21) (hd0 : TPL (dt 36) (dt 85) (dt 35 1)) (hd1 : SCL (dt 2) (dt 3) (dt 80)) (hd2 : SCL (dt 19) (dt 20) (dt 81)) (K : ∀ (dt : Nat → Nat → Int) (hI : InvC dt) (hM : MW (dt 80)) (hM2 : MW (dt 81)) (hk0 : dt 1 0 = dt 80 0) (hk1 : dt 7 3 = dt 80 1) (hk2 : dt 10 3 = dt 80 2) (hk3 : dt 12 3 = dt 80 3) (hk4 : dt 14 3 = dt 80 4) (hk5 : dt 16 3 = dt 80 5) (hk6 : dt 18 0 = dt 81 0) (hk7 : dt 24 3 = dt 81 1) (hk8 : dt 27 3 = dt 81 2) (hk9 : dt 29 3 = dt 81 3) (hk10 : dt 31 3 = dt 81 4) (hk11 : dt 33 3 = dt 81 5) (hk12 : dt 0 2 = dt 79 2) (hk13 : dt 35 1 = dt 79 12) (hk14 : dt 35 2 = dt 79 19) (hk15 : dt 35 3 = dt 79 21) (hd0 : TPL (dt 36) (dt 85) (dt 35 1)) (hd1 : SCL (dt 2) (dt 3) (dt 80)) (hd2 : SCL (dt 19) (dt 20) (dt 81)), GO (am_XX L xs sio) (d + 39) 267 1435 [some (.inr (.inr (some 3000))), some (.inr (.inr (some 0))), some (.inr (.inr (some 79))), some (.inl i)] [] (SH, dt) Q) : GO (am_XX L xs sio) (d + 39) 267 792 [some (.inr (.inr (some 3000))), some (.inr (.inr (some 0))), some (.inr (.inr (some 79))), some (.inl i)] [] (SH, dt) Q := by
  have hF : Fr [0, 1, 2, 3, 4, 5, 6, 7, 8, 9, 10, 11, 12, 13, 14, 15, 16, 17, 18, 19, 20, 21, 22, 23, 24, 25, 26, 27, 28, 29, 30, 31, 32, 33, 34, 35, 36, 37, 38, 39, 40, 41, 42, 43, 44, 45, 46, 47, 48, 49, 50, 51, 52, 53, 54, 55, 56, 57, 58, 59, 60, 61, 62, 63, 64, 65, 66, 67, 68, 69, 70, 71, 72, 73, 74, 75, 76, 77, 78, 79, 80, 81, 82, 83, 84, 85, 86, 87, 88, 89, 90, 91, 92, 93, 94, 95, 96, 97, 98, 99, 100, 101, 102, 103, 104] dt dt := Fr_refl
  refine go_toq PM267 (k := 5) (pc' := 797) (L' := [some (.inr (.inr (some 3000))), some (.inr (.inr (some 0))), some (.inr (.inr (some 79))), some (.inl i)]) (st' := [.inl (i + 1), .inr (.inr (some 3000)), .inr (.inr (some 0))]) (w' := (SH, dt)) rfl ?_
  have r1 := i32_R (xs ((i + 1).toNat))
  refine go_smpq PM267 (L' := [some (.inr (.inr (some 3000))), some (.inr (.inr (some 0))), some (.inr (.inr (some 79))), some (.inl i)]) (st' := [.inl ((xs ((i + 1).toNat)).toInt), .inr (.inr (some 0))]) (w' := (SH, dt)) rfl rfl (s_iald (n := L) (f := fun j => (xs j).toInt) (am_scr hLL) ⟨by omega, by omega⟩) ?_
  refine go_toq PM267 (k := 4) (pc' := 802) (L' := [some (.inr (.inr (some 3000))), some (.inr (.inr (some 0))), some (.inr (.inr (some 79))), some (.inl i)]) (st' := [.inl (i + 2), .inr (.inr (some 3000)), .inl ((xs ((i + 1).toNat)).toInt), .inr (.inr (some 0))]) (w' := (SH, dt)) rfl ?_
  have r2 := i32_R (xs ((i + 2).toNat))
  refine go_smpq PM267 (L' := [some (.inr (.inr (some 3000))), some (.inr (.inr (some 0))), some (.inr (.inr (some 79))), some (.inl i)]) (st' := [.inl ((xs ((i + 2).toNat)).toInt), .inl ((xs ((i + 1).toNat)).toInt), .inr (.inr (some 0))]) (w' := (SH, dt)) rfl rfl (s_iald (n := L) (f := fun j => (xs j).toInt) (am_scr hLL) ⟨by omega, by omega⟩) ?_
  refine go_callq PM267 PM81 (Q' := _) rfl rfl rfl rfl (sp_X5_answer L xs sio (d + 36) dt hI  ((xs ((i + 1).toNat)).toInt) ⟨by omega, by omega⟩ ((xs ((i + 2).toNat)).toInt) ⟨by omega, by omega⟩ ) ?_
  rintro _ _ ⟨rfl, h3⟩
  refine ⟨rfl, ?_⟩
  rcases h3 with ⟨v_h3, rfl, h3r, h3⟩
  refine go_toq PM267 (k := 6) (pc' := 812) (L' := [some (.inr (.inr (some 3000))), some (.inr (.inr (some 0))), some (.inr (.inr (some 79))), some (.inl i)]) (st' := [.inl (i + 1), .inr (.inr (some 3000)), .inr (.inr (some 79))]) (w' := (SH, dt)) rfl ?_
  refine go_smpq PM267 (L' := [some (.inr (.inr (some 3000))), some (.inr (.inr (some 0))), some (.inr (.inr (some 79))), some (.inl i)]) (st' := [.inl ((xs ((i + 1).toNat)).toInt), .inr (.inr (some 79))]) (w' := (SH, dt)) rfl rfl (s_iald (n := L) (f := fun j => (xs j).toInt) (am_scr hLL) ⟨by omega, by omega⟩) ?_
  refine go_toq PM267 (k := 4) (pc' := 817) (L' := [some (.inr (.inr (some 3000))), some (.inr (.inr (some 0))), some (.inr (.inr (some 79))), some (.inl i)]) (st' := [.inl (i + 2), .inr (.inr (some 3000)), .inl ((xs ((i + 1).toNat)).toInt), .inr (.inr (some 79))]) (w' := (SH, dt)) rfl ?_
  refine go_smpq PM267 (L' := [some (.inr (.inr (some 3000))), some (.inr (.inr (some 0))), some (.inr (.inr (some 79))), some (.inl i)]) (st' := [.inl ((xs ((i + 2).toNat)).toInt), .inl ((xs ((i + 1).toNat)).toInt), .inr (.inr (some 79))]) (w' := (SH, dt)) rfl rfl (s_iald (n := L) (f := fun j => (xs j).toInt) (am_scr hLL) ⟨by omega, by omega⟩) ?_
  refine go_callq PM267 PM214 (Q' := _) rfl rfl rfl rfl (sp_X6_answer L xs sio (d + 37) dt hI hM  ((xs ((i + 1).toNat)).toInt) ⟨by omega, by omega⟩ ((xs ((i + 2).toNat)).toInt) ⟨by omega, by omega⟩ ) ?_
  rintro _ _ ⟨rfl, h4⟩
  refine ⟨rfl, ?_⟩
  rcases h4 with ⟨v_h4, rfl, h4r, h4⟩
  refine go_toq PM267 (k := 2) (pc' := 1435) (L' := [some (.inr (.inr (some 3000))), some (.inr (.inr (some 0))), some (.inr (.inr (some 79))), some (.inl i)]) (st' := []) (w' := (SH, dt)) rfl ?_
  exact K dt hI hM hM2 hk0 hk1 hk2 hk3 hk4 hk5 hk6 hk7 hk8 hk9 hk10 hk11 hk12 hk13 hk14 hk15 (by first | exact hI | exact TPL_k hd0 (fun _ => rfl) (fun _ => rfl) (by omega) | (exfalso; omega)) (by first | exact hI | exact SCL_k hd1 hM (fun j _ => (fun _ => rfl) j) (fun j _ => (fun _ => rfl) j) (fun j _ _ => (fun _ => rfl) j) | (exfalso; omega)) (by first | exact hI | exact SCL_k hd2 hM2 (fun j _ => (fun _ => rfl) j) (fun j _ => (fun _ => rfl) j) (fun j _ _ => (fun _ => rfl) j) | (exfalso; omega))
set_option maxRecDepth 20000 in
set_option maxHeartbeats 8000000 in
theorem sp_case15 (L : Nat) (xs : Nat → Int32) (sio : Option Nat) (d : Nat) (Q : Option AV → am_W → Prop) (hLL : L ≤ 3072) (i : Int) (hi : 0 ≤ i ∧ i ≤ 3066) (hil : i ≤ (L : Int) - 6) (dt : Nat → Nat → Int) (hI : InvC dt) (hM : MW (dt 80)) (hM2 : MW (dt 81)) (hk0 : dt 1 0 = dt 80 0) (hk1 : dt 7 3 = dt 80 1) (hk2 : dt 10 3 = dt 80 2) (hk3 : dt 12 3 = dt 80 3) (hk4 : dt 14 3 = dt 80 4) (hk5 : dt 16 3 = dt 80 5) (hk6 : dt 18 0 = dt 81 0) (hk7 : dt 24 3 = dt 81 1) (hk8 : dt 27 3 = dt 81 2) (hk9 : dt 29 3 = dt 81 3) (hk10 : dt 31 3 = dt 81 4) (hk11 : dt 33 3 = dt 81 5) (hk12 : dt 0 2 = dt 79 2) (hk13 : dt 35 1 = dt 79 12) (hk14 : dt 35 2 = dt 79 19) (hk15 : dt 35 3 = dt 79 21) (hd0 : TPL (dt 36) (dt 85) (dt 35 1)) (hd1 : SCL (dt 2) (dt 3) (dt 80)) (hd2 : SCL (dt 19) (dt 20) (dt 81)) (K : ∀ (dt : Nat → Nat → Int) (hI : InvC dt) (hM : MW (dt 80)) (hM2 : MW (dt 81)) (hk0 : dt 1 0 = dt 80 0) (hk1 : dt 7 3 = dt 80 1) (hk2 : dt 10 3 = dt 80 2) (hk3 : dt 12 3 = dt 80 3) (hk4 : dt 14 3 = dt 80 4) (hk5 : dt 16 3 = dt 80 5) (hk6 : dt 18 0 = dt 81 0) (hk7 : dt 24 3 = dt 81 1) (hk8 : dt 27 3 = dt 81 2) (hk9 : dt 29 3 = dt 81 3) (hk10 : dt 31 3 = dt 81 4) (hk11 : dt 33 3 = dt 81 5) (hk12 : dt 0 2 = dt 79 2) (hk13 : dt 35 1 = dt 79 12) (hk14 : dt 35 2 = dt 79 19) (hk15 : dt 35 3 = dt 79 21) (hd0 : TPL (dt 36) (dt 85) (dt 35 1)) (hd1 : SCL (dt 2) (dt 3) (dt 80)) (hd2 : SCL (dt 19) (dt 20) (dt 81)), GO (am_XX L xs sio) (d + 39) 267 1435 [some (.inr (.inr (some 3000))), some (.inr (.inr (some 0))), some (.inr (.inr (some 79))), some (.inl i)] [] (SH, dt) Q) : GO (am_XX L xs sio) (d + 39) 267 825 [some (.inr (.inr (some 3000))), some (.inr (.inr (some 0))), some (.inr (.inr (some 79))), some (.inl i)] [] (SH, dt) Q := by
  have hF : Fr [0, 1, 2, 3, 4, 5, 6, 7, 8, 9, 10, 11, 12, 13, 14, 15, 16, 17, 18, 19, 20, 21, 22, 23, 24, 25, 26, 27, 28, 29, 30, 31, 32, 33, 34, 35, 36, 37, 38, 39, 40, 41, 42, 43, 44, 45, 46, 47, 48, 49, 50, 51, 52, 53, 54, 55, 56, 57, 58, 59, 60, 61, 62, 63, 64, 65, 66, 67, 68, 69, 70, 71, 72, 73, 74, 75, 76, 77, 78, 79, 80, 81, 82, 83, 84, 85, 86, 87, 88, 89, 90, 91, 92, 93, 94, 95, 96, 97, 98, 99, 100, 101, 102, 103, 104] dt dt := Fr_refl
  refine go_toq PM267 (k := 5) (pc' := 830) (L' := [some (.inr (.inr (some 3000))), some (.inr (.inr (some 0))), some (.inr (.inr (some 79))), some (.inl i)]) (st' := [.inl (i + 1), .inr (.inr (some 3000)), .inr (.inr (some 0))]) (w' := (SH, dt)) rfl ?_
  have r1 := i32_R (xs ((i + 1).toNat))
  refine go_smpq PM267 (L' := [some (.inr (.inr (some 3000))), some (.inr (.inr (some 0))), some (.inr (.inr (some 79))), some (.inl i)]) (st' := [.inl ((xs ((i + 1).toNat)).toInt), .inr (.inr (some 0))]) (w' := (SH, dt)) rfl rfl (s_iald (n := L) (f := fun j => (xs j).toInt) (am_scr hLL) ⟨by omega, by omega⟩) ?_
  refine go_toq PM267 (k := 4) (pc' := 835) (L' := [some (.inr (.inr (some 3000))), some (.inr (.inr (some 0))), some (.inr (.inr (some 79))), some (.inl i)]) (st' := [.inl (i + 2), .inr (.inr (some 3000)), .inl ((xs ((i + 1).toNat)).toInt), .inr (.inr (some 0))]) (w' := (SH, dt)) rfl ?_
  have r2 := i32_R (xs ((i + 2).toNat))
  refine go_smpq PM267 (L' := [some (.inr (.inr (some 3000))), some (.inr (.inr (some 0))), some (.inr (.inr (some 79))), some (.inl i)]) (st' := [.inl ((xs ((i + 2).toNat)).toInt), .inl ((xs ((i + 1).toNat)).toInt), .inr (.inr (some 0))]) (w' := (SH, dt)) rfl rfl (s_iald (n := L) (f := fun j => (xs j).toInt) (am_scr hLL) ⟨by omega, by omega⟩) ?_
  refine go_toq PM267 (k := 4) (pc' := 840) (L' := [some (.inr (.inr (some 3000))), some (.inr (.inr (some 0))), some (.inr (.inr (some 79))), some (.inl i)]) (st' := [.inl (i + 3), .inr (.inr (some 3000)), .inl ((xs ((i + 2).toNat)).toInt), .inl ((xs ((i + 1).toNat)).toInt), .inr (.inr (some 0))]) (w' := (SH, dt)) rfl ?_
  have r3 := i32_R (xs ((i + 3).toNat))
  refine go_smpq PM267 (L' := [some (.inr (.inr (some 3000))), some (.inr (.inr (some 0))), some (.inr (.inr (some 79))), some (.inl i)]) (st' := [.inl ((xs ((i + 3).toNat)).toInt), .inl ((xs ((i + 2).toNat)).toInt), .inl ((xs ((i + 1).toNat)).toInt), .inr (.inr (some 0))]) (w' := (SH, dt)) rfl rfl (s_iald (n := L) (f := fun j => (xs j).toInt) (am_scr hLL) ⟨by omega, by omega⟩) ?_
  refine go_toq PM267 (k := 4) (pc' := 845) (L' := [some (.inr (.inr (some 3000))), some (.inr (.inr (some 0))), some (.inr (.inr (some 79))), some (.inl i)]) (st' := [.inl (i + 4), .inr (.inr (some 3000)), .inl ((xs ((i + 3).toNat)).toInt), .inl ((xs ((i + 2).toNat)).toInt), .inl ((xs ((i + 1).toNat)).toInt), .inr (.inr (some 0))]) (w' := (SH, dt)) rfl ?_
  have r4 := i32_R (xs ((i + 4).toNat))
  refine go_smpq PM267 (L' := [some (.inr (.inr (some 3000))), some (.inr (.inr (some 0))), some (.inr (.inr (some 79))), some (.inl i)]) (st' := [.inl ((xs ((i + 4).toNat)).toInt), .inl ((xs ((i + 3).toNat)).toInt), .inl ((xs ((i + 2).toNat)).toInt), .inl ((xs ((i + 1).toNat)).toInt), .inr (.inr (some 0))]) (w' := (SH, dt)) rfl rfl (s_iald (n := L) (f := fun j => (xs j).toInt) (am_scr hLL) ⟨by omega, by omega⟩) ?_
  refine go_toq PM267 (k := 4) (pc' := 850) (L' := [some (.inr (.inr (some 3000))), some (.inr (.inr (some 0))), some (.inr (.inr (some 79))), some (.inl i)]) (st' := [.inl (i + 5), .inr (.inr (some 3000)), .inl ((xs ((i + 4).toNat)).toInt), .inl ((xs ((i + 3).toNat)).toInt), .inl ((xs ((i + 2).toNat)).toInt), .inl ((xs ((i + 1).toNat)).toInt), .inr (.inr (some 0))]) (w' := (SH, dt)) rfl ?_
  have r5 := i32_R (xs ((i + 5).toNat))
  refine go_smpq PM267 (L' := [some (.inr (.inr (some 3000))), some (.inr (.inr (some 0))), some (.inr (.inr (some 79))), some (.inl i)]) (st' := [.inl ((xs ((i + 5).toNat)).toInt), .inl ((xs ((i + 4).toNat)).toInt), .inl ((xs ((i + 3).toNat)).toInt), .inl ((xs ((i + 2).toNat)).toInt), .inl ((xs ((i + 1).toNat)).toInt), .inr (.inr (some 0))]) (w' := (SH, dt)) rfl rfl (s_iald (n := L) (f := fun j => (xs j).toInt) (am_scr hLL) ⟨by omega, by omega⟩) ?_
  refine go_callq PM267 PM82 (Q' := _) rfl rfl rfl rfl (sp_X5_chance L xs sio (d + 33) dt hI  ((xs ((i + 1).toNat)).toInt) ⟨by omega, by omega⟩ ((xs ((i + 2).toNat)).toInt) ⟨by omega, by omega⟩ ((xs ((i + 3).toNat)).toInt) ⟨by omega, by omega⟩ ((xs ((i + 4).toNat)).toInt) ⟨by omega, by omega⟩ ((xs ((i + 5).toNat)).toInt) ⟨by omega, by omega⟩ ) ?_
  rintro _ _ ⟨dt7, rfl, hI8, hF9, h6⟩
  refine ⟨rfl, ?_⟩
  have hF10 : Fr [0, 1, 2, 3, 4, 5, 6, 7, 8, 9, 10, 11, 12, 13, 14, 15, 16, 17, 18, 19, 20, 21, 22, 23, 24, 25, 26, 27, 28, 29, 30, 31, 32, 33, 34, 35, 36, 37, 38, 39, 40, 41, 42, 43, 44, 45, 46, 47, 48, 49, 50, 51, 52, 53, 54, 55, 56, 57, 58, 59, 60, 61, 62, 63, 64, 65, 66, 67, 68, 69, 70, 71, 72, 73, 74, 75, 76, 77, 78, 79, 80, 81, 82, 83, 84, 85, 86, 87, 88, 89, 90, 91, 92, 93, 94, 95, 96, 97, 98, 99, 100, 101, 102, 103, 104] dt dt7 := Fr_tr hF hF9 (by decide)
  have hM11 : MW (dt7 80) := MW_fr hM hF9 (by decide)
  have w12 : dt7 1 0 = dt 1 0 := hF9 1 (by decide) 0
  have w13 : dt7 7 3 = dt 7 3 := hF9 7 (by decide) 3
  have w14 : dt7 10 3 = dt 10 3 := hF9 10 (by decide) 3
  have w15 : dt7 12 3 = dt 12 3 := hF9 12 (by decide) 3
  have w16 : dt7 14 3 = dt 14 3 := hF9 14 (by decide) 3
  have w17 : dt7 16 3 = dt 16 3 := hF9 16 (by decide) 3
  have w18 : dt7 18 0 = dt 18 0 := hF9 18 (by decide) 0
  have w19 : dt7 24 3 = dt 24 3 := hF9 24 (by decide) 3
  have w20 : dt7 27 3 = dt 27 3 := hF9 27 (by decide) 3
  have w21 : dt7 29 3 = dt 29 3 := hF9 29 (by decide) 3
  have w22 : dt7 31 3 = dt 31 3 := hF9 31 (by decide) 3
  have w23 : dt7 33 3 = dt 33 3 := hF9 33 (by decide) 3
  have w24 : dt7 0 2 = dt 0 2 := hF9 0 (by decide) 2
  have w25 : dt7 35 1 = dt 35 1 := hF9 35 (by decide) 1
  have w26 : dt7 35 2 = dt 35 2 := hF9 35 (by decide) 2
  have w27 : dt7 35 3 = dt 35 3 := hF9 35 (by decide) 3
  have w28 : dt7 80 0 = dt 80 0 := hF9 80 (by decide) 0
  have w29 : dt7 80 1 = dt 80 1 := hF9 80 (by decide) 1
  have w30 : dt7 80 2 = dt 80 2 := hF9 80 (by decide) 2
  have w31 : dt7 80 3 = dt 80 3 := hF9 80 (by decide) 3
  have w32 : dt7 80 4 = dt 80 4 := hF9 80 (by decide) 4
  have w33 : dt7 80 5 = dt 80 5 := hF9 80 (by decide) 5
  have w34 : dt7 81 0 = dt 81 0 := hF9 81 (by decide) 0
  have w35 : dt7 81 1 = dt 81 1 := hF9 81 (by decide) 1
  have w36 : dt7 81 2 = dt 81 2 := hF9 81 (by decide) 2
  have w37 : dt7 81 3 = dt 81 3 := hF9 81 (by decide) 3
  have w38 : dt7 81 4 = dt 81 4 := hF9 81 (by decide) 4
  have w39 : dt7 81 5 = dt 81 5 := hF9 81 (by decide) 5
  have w40 : dt7 79 2 = dt 79 2 := hF9 79 (by decide) 2
  have w41 : dt7 79 12 = dt 79 12 := hF9 79 (by decide) 12
  have w42 : dt7 79 19 = dt 79 19 := hF9 79 (by decide) 19
  have w43 : dt7 79 21 = dt 79 21 := hF9 79 (by decide) 21
  rcases h6 with ⟨v_h6, rfl, h6r, h6⟩
  have M244 : MW (dt7 81) := MW_frk hM2 hF9 (by decide)
  have C45 : ∀ j : Nat, dt7 2 j = dt 2 j := fun j => (hF9 2 (by decide) j).trans ((fun _ => rfl) j)
  have C46 : ∀ j : Nat, dt7 3 j = dt 3 j := fun j => (hF9 3 (by decide) j).trans ((fun _ => rfl) j)
  have C47 : ∀ j : Nat, dt7 19 j = dt 19 j := fun j => (hF9 19 (by decide) j).trans ((fun _ => rfl) j)
  have C48 : ∀ j : Nat, dt7 20 j = dt 20 j := fun j => (hF9 20 (by decide) j).trans ((fun _ => rfl) j)
  have C49 : ∀ j : Nat, dt7 36 j = dt 36 j := fun j => (hF9 36 (by decide) j).trans ((fun _ => rfl) j)
  have C50 : ∀ j : Nat, dt7 80 j = dt 80 j := fun j => (hF9 80 (by decide) j).trans ((fun _ => rfl) j)
  have C51 : ∀ j : Nat, dt7 81 j = dt 81 j := fun j => (hF9 81 (by decide) j).trans ((fun _ => rfl) j)
  have C52 : ∀ j : Nat, dt7 85 j = dt 85 j := fun j => (hF9 85 (by decide) j).trans ((fun _ => rfl) j)
  refine go_toq PM267 (k := 6) (pc' := 860) (L' := [some (.inr (.inr (some 3000))), some (.inr (.inr (some 0))), some (.inr (.inr (some 79))), some (.inl i)]) (st' := [.inl (i + 1), .inr (.inr (some 3000)), .inr (.inr (some 79))]) (w' := (SH, dt7)) rfl ?_
  have r53 := i32_R (xs ((i + 1).toNat))
  refine go_smpq PM267 (L' := [some (.inr (.inr (some 3000))), some (.inr (.inr (some 0))), some (.inr (.inr (some 79))), some (.inl i)]) (st' := [.inl ((xs ((i + 1).toNat)).toInt), .inr (.inr (some 79))]) (w' := (SH, dt7)) rfl rfl (s_iald (n := L) (f := fun j => (xs j).toInt) (am_scr hLL) ⟨by omega, by omega⟩) ?_
  refine go_toq PM267 (k := 4) (pc' := 865) (L' := [some (.inr (.inr (some 3000))), some (.inr (.inr (some 0))), some (.inr (.inr (some 79))), some (.inl i)]) (st' := [.inl (i + 2), .inr (.inr (some 3000)), .inl ((xs ((i + 1).toNat)).toInt), .inr (.inr (some 79))]) (w' := (SH, dt7)) rfl ?_
  have r54 := i32_R (xs ((i + 2).toNat))
  refine go_smpq PM267 (L' := [some (.inr (.inr (some 3000))), some (.inr (.inr (some 0))), some (.inr (.inr (some 79))), some (.inl i)]) (st' := [.inl ((xs ((i + 2).toNat)).toInt), .inl ((xs ((i + 1).toNat)).toInt), .inr (.inr (some 79))]) (w' := (SH, dt7)) rfl rfl (s_iald (n := L) (f := fun j => (xs j).toInt) (am_scr hLL) ⟨by omega, by omega⟩) ?_
  refine go_toq PM267 (k := 4) (pc' := 870) (L' := [some (.inr (.inr (some 3000))), some (.inr (.inr (some 0))), some (.inr (.inr (some 79))), some (.inl i)]) (st' := [.inl (i + 3), .inr (.inr (some 3000)), .inl ((xs ((i + 2).toNat)).toInt), .inl ((xs ((i + 1).toNat)).toInt), .inr (.inr (some 79))]) (w' := (SH, dt7)) rfl ?_
  have r55 := i32_R (xs ((i + 3).toNat))
  refine go_smpq PM267 (L' := [some (.inr (.inr (some 3000))), some (.inr (.inr (some 0))), some (.inr (.inr (some 79))), some (.inl i)]) (st' := [.inl ((xs ((i + 3).toNat)).toInt), .inl ((xs ((i + 2).toNat)).toInt), .inl ((xs ((i + 1).toNat)).toInt), .inr (.inr (some 79))]) (w' := (SH, dt7)) rfl rfl (s_iald (n := L) (f := fun j => (xs j).toInt) (am_scr hLL) ⟨by omega, by omega⟩) ?_
  refine go_toq PM267 (k := 4) (pc' := 875) (L' := [some (.inr (.inr (some 3000))), some (.inr (.inr (some 0))), some (.inr (.inr (some 79))), some (.inl i)]) (st' := [.inl (i + 4), .inr (.inr (some 3000)), .inl ((xs ((i + 3).toNat)).toInt), .inl ((xs ((i + 2).toNat)).toInt), .inl ((xs ((i + 1).toNat)).toInt), .inr (.inr (some 79))]) (w' := (SH, dt7)) rfl ?_
  have r56 := i32_R (xs ((i + 4).toNat))
  refine go_smpq PM267 (L' := [some (.inr (.inr (some 3000))), some (.inr (.inr (some 0))), some (.inr (.inr (some 79))), some (.inl i)]) (st' := [.inl ((xs ((i + 4).toNat)).toInt), .inl ((xs ((i + 3).toNat)).toInt), .inl ((xs ((i + 2).toNat)).toInt), .inl ((xs ((i + 1).toNat)).toInt), .inr (.inr (some 79))]) (w' := (SH, dt7)) rfl rfl (s_iald (n := L) (f := fun j => (xs j).toInt) (am_scr hLL) ⟨by omega, by omega⟩) ?_
  refine go_toq PM267 (k := 4) (pc' := 880) (L' := [some (.inr (.inr (some 3000))), some (.inr (.inr (some 0))), some (.inr (.inr (some 79))), some (.inl i)]) (st' := [.inl (i + 5), .inr (.inr (some 3000)), .inl ((xs ((i + 4).toNat)).toInt), .inl ((xs ((i + 3).toNat)).toInt), .inl ((xs ((i + 2).toNat)).toInt), .inl ((xs ((i + 1).toNat)).toInt), .inr (.inr (some 79))]) (w' := (SH, dt7)) rfl ?_
  have r57 := i32_R (xs ((i + 5).toNat))
  refine go_smpq PM267 (L' := [some (.inr (.inr (some 3000))), some (.inr (.inr (some 0))), some (.inr (.inr (some 79))), some (.inl i)]) (st' := [.inl ((xs ((i + 5).toNat)).toInt), .inl ((xs ((i + 4).toNat)).toInt), .inl ((xs ((i + 3).toNat)).toInt), .inl ((xs ((i + 2).toNat)).toInt), .inl ((xs ((i + 1).toNat)).toInt), .inr (.inr (some 79))]) (w' := (SH, dt7)) rfl rfl (s_iald (n := L) (f := fun j => (xs j).toInt) (am_scr hLL) ⟨by omega, by omega⟩) ?_
  refine go_callq PM267 PM216 (Q' := _) rfl rfl rfl rfl (sp_X6_chance L xs sio (d + 31) dt7 hI8 hM11  ((xs ((i + 1).toNat)).toInt) ⟨by omega, by omega⟩ ((xs ((i + 2).toNat)).toInt) ⟨by omega, by omega⟩ ((xs ((i + 3).toNat)).toInt) ⟨by omega, by omega⟩ ((xs ((i + 4).toNat)).toInt) ⟨by omega, by omega⟩ ((xs ((i + 5).toNat)).toInt) ⟨by omega, by omega⟩ ) ?_
  rintro _ _ ⟨dt59, rfl, hI60, hF61, h58⟩
  refine ⟨rfl, ?_⟩
  have hF62 : Fr [0, 1, 2, 3, 4, 5, 6, 7, 8, 9, 10, 11, 12, 13, 14, 15, 16, 17, 18, 19, 20, 21, 22, 23, 24, 25, 26, 27, 28, 29, 30, 31, 32, 33, 34, 35, 36, 37, 38, 39, 40, 41, 42, 43, 44, 45, 46, 47, 48, 49, 50, 51, 52, 53, 54, 55, 56, 57, 58, 59, 60, 61, 62, 63, 64, 65, 66, 67, 68, 69, 70, 71, 72, 73, 74, 75, 76, 77, 78, 79, 80, 81, 82, 83, 84, 85, 86, 87, 88, 89, 90, 91, 92, 93, 94, 95, 96, 97, 98, 99, 100, 101, 102, 103, 104] dt dt59 := Fr_tr hF10 hF61 (by decide)
  have hM63 : MW (dt59 80) := MW_fr hM11 hF61 (by decide)
  have w64 : dt59 1 0 = dt 1 0 := (hF61 1 (by decide) 0).trans w12
  have w65 : dt59 7 3 = dt 7 3 := (hF61 7 (by decide) 3).trans w13
  have w66 : dt59 10 3 = dt 10 3 := (hF61 10 (by decide) 3).trans w14
  have w67 : dt59 12 3 = dt 12 3 := (hF61 12 (by decide) 3).trans w15
  have w68 : dt59 14 3 = dt 14 3 := (hF61 14 (by decide) 3).trans w16
  have w69 : dt59 16 3 = dt 16 3 := (hF61 16 (by decide) 3).trans w17
  have w70 : dt59 18 0 = dt 18 0 := (hF61 18 (by decide) 0).trans w18
  have w71 : dt59 24 3 = dt 24 3 := (hF61 24 (by decide) 3).trans w19
  have w72 : dt59 27 3 = dt 27 3 := (hF61 27 (by decide) 3).trans w20
  have w73 : dt59 29 3 = dt 29 3 := (hF61 29 (by decide) 3).trans w21
  have w74 : dt59 31 3 = dt 31 3 := (hF61 31 (by decide) 3).trans w22
  have w75 : dt59 33 3 = dt 33 3 := (hF61 33 (by decide) 3).trans w23
  have w76 : dt59 0 2 = dt 0 2 := (hF61 0 (by decide) 2).trans w24
  have w77 : dt59 35 1 = dt 35 1 := (hF61 35 (by decide) 1).trans w25
  have w78 : dt59 35 2 = dt 35 2 := (hF61 35 (by decide) 2).trans w26
  have w79 : dt59 35 3 = dt 35 3 := (hF61 35 (by decide) 3).trans w27
  have w80 : dt59 80 0 = dt 80 0 := (hF61 80 (by decide) 0).trans w28
  have w81 : dt59 80 1 = dt 80 1 := (hF61 80 (by decide) 1).trans w29
  have w82 : dt59 80 2 = dt 80 2 := (hF61 80 (by decide) 2).trans w30
  have w83 : dt59 80 3 = dt 80 3 := (hF61 80 (by decide) 3).trans w31
  have w84 : dt59 80 4 = dt 80 4 := (hF61 80 (by decide) 4).trans w32
  have w85 : dt59 80 5 = dt 80 5 := (hF61 80 (by decide) 5).trans w33
  have w86 : dt59 81 0 = dt 81 0 := (hF61 81 (by decide) 0).trans w34
  have w87 : dt59 81 1 = dt 81 1 := (hF61 81 (by decide) 1).trans w35
  have w88 : dt59 81 2 = dt 81 2 := (hF61 81 (by decide) 2).trans w36
  have w89 : dt59 81 3 = dt 81 3 := (hF61 81 (by decide) 3).trans w37
  have w90 : dt59 81 4 = dt 81 4 := (hF61 81 (by decide) 4).trans w38
  have w91 : dt59 81 5 = dt 81 5 := (hF61 81 (by decide) 5).trans w39
  have w92 : dt59 79 2 = dt 79 2 := (hF61 79 (by decide) 2).trans w40
  have w93 : dt59 79 12 = dt 79 12 := (hF61 79 (by decide) 12).trans w41
  have w94 : dt59 79 19 = dt 79 19 := (hF61 79 (by decide) 19).trans w42
  have w95 : dt59 79 21 = dt 79 21 := (hF61 79 (by decide) 21).trans w43
  rcases h58 with ⟨v_h58, rfl, h58r, h58⟩
  have M296 : MW (dt59 81) := MW_frk M244 hF61 (by decide)
  have C97 : ∀ j : Nat, dt59 2 j = dt 2 j := fun j => (hF61 2 (by decide) j).trans (C45 j)
  have C98 : ∀ j : Nat, dt59 3 j = dt 3 j := fun j => (hF61 3 (by decide) j).trans (C46 j)
  have C99 : ∀ j : Nat, dt59 19 j = dt 19 j := fun j => (hF61 19 (by decide) j).trans (C47 j)
  have C100 : ∀ j : Nat, dt59 20 j = dt 20 j := fun j => (hF61 20 (by decide) j).trans (C48 j)
  have C101 : ∀ j : Nat, dt59 36 j = dt 36 j := fun j => (hF61 36 (by decide) j).trans (C49 j)
  have C102 : ∀ j : Nat, dt59 80 j = dt 80 j := fun j => (hF61 80 (by decide) j).trans (C50 j)
  have C103 : ∀ j : Nat, dt59 81 j = dt 81 j := fun j => (hF61 81 (by decide) j).trans (C51 j)
  have C104 : ∀ j : Nat, dt59 85 j = dt 85 j := fun j => (hF61 85 (by decide) j).trans (C52 j)
  refine go_toq PM267 (k := 2) (pc' := 1435) (L' := [some (.inr (.inr (some 3000))), some (.inr (.inr (some 0))), some (.inr (.inr (some 79))), some (.inl i)]) (st' := []) (w' := (SH, dt59)) rfl ?_
  exact K dt59 hI60 hM63 M296 (w64.trans (hk0.trans w80.symm)) (w65.trans (hk1.trans w81.symm)) (w66.trans (hk2.trans w82.symm)) (w67.trans (hk3.trans w83.symm)) (w68.trans (hk4.trans w84.symm)) (w69.trans (hk5.trans w85.symm)) (w70.trans (hk6.trans w86.symm)) (w71.trans (hk7.trans w87.symm)) (w72.trans (hk8.trans w88.symm)) (w73.trans (hk9.trans w89.symm)) (w74.trans (hk10.trans w90.symm)) (w75.trans (hk11.trans w91.symm)) (w76.trans (hk12.trans w92.symm)) (w77.trans (hk13.trans w93.symm)) (w78.trans (hk14.trans w94.symm)) (w79.trans (hk15.trans w95.symm)) (by first | exact hI | exact TPL_k hd0 C101 C104 (by omega) | (exfalso; omega)) (by first | exact hI | exact SCL_k hd1 hM (fun j _ => C97 j) (fun j _ => C98 j) (fun j _ _ => C102 j) | (exfalso; omega)) (by first | exact hI | exact SCL_k hd2 hM2 (fun j _ => C99 j) (fun j _ => C100 j) (fun j _ _ => C103 j) | (exfalso; omega))
set_option maxRecDepth 20000 in
set_option maxHeartbeats 8000000 in
theorem sp_case16 (L : Nat) (xs : Nat → Int32) (sio : Option Nat) (d : Nat) (Q : Option AV → am_W → Prop) (hLL : L ≤ 3072) (i : Int) (hi : 0 ≤ i ∧ i ≤ 3066) (hil : i ≤ (L : Int) - 6) (dt : Nat → Nat → Int) (hI : InvC dt) (hM : MW (dt 80)) (hM2 : MW (dt 81)) (hk0 : dt 1 0 = dt 80 0) (hk1 : dt 7 3 = dt 80 1) (hk2 : dt 10 3 = dt 80 2) (hk3 : dt 12 3 = dt 80 3) (hk4 : dt 14 3 = dt 80 4) (hk5 : dt 16 3 = dt 80 5) (hk6 : dt 18 0 = dt 81 0) (hk7 : dt 24 3 = dt 81 1) (hk8 : dt 27 3 = dt 81 2) (hk9 : dt 29 3 = dt 81 3) (hk10 : dt 31 3 = dt 81 4) (hk11 : dt 33 3 = dt 81 5) (hk12 : dt 0 2 = dt 79 2) (hk13 : dt 35 1 = dt 79 12) (hk14 : dt 35 2 = dt 79 19) (hk15 : dt 35 3 = dt 79 21) (hd0 : TPL (dt 36) (dt 85) (dt 35 1)) (hd1 : SCL (dt 2) (dt 3) (dt 80)) (hd2 : SCL (dt 19) (dt 20) (dt 81)) (K : ∀ (dt : Nat → Nat → Int) (hI : InvC dt) (hM : MW (dt 80)) (hM2 : MW (dt 81)) (hk0 : dt 1 0 = dt 80 0) (hk1 : dt 7 3 = dt 80 1) (hk2 : dt 10 3 = dt 80 2) (hk3 : dt 12 3 = dt 80 3) (hk4 : dt 14 3 = dt 80 4) (hk5 : dt 16 3 = dt 80 5) (hk6 : dt 18 0 = dt 81 0) (hk7 : dt 24 3 = dt 81 1) (hk8 : dt 27 3 = dt 81 2) (hk9 : dt 29 3 = dt 81 3) (hk10 : dt 31 3 = dt 81 4) (hk11 : dt 33 3 = dt 81 5) (hk12 : dt 0 2 = dt 79 2) (hk13 : dt 35 1 = dt 79 12) (hk14 : dt 35 2 = dt 79 19) (hk15 : dt 35 3 = dt 79 21) (hd0 : TPL (dt 36) (dt 85) (dt 35 1)) (hd1 : SCL (dt 2) (dt 3) (dt 80)) (hd2 : SCL (dt 19) (dt 20) (dt 81)), GO (am_XX L xs sio) (d + 39) 267 1435 [some (.inr (.inr (some 3000))), some (.inr (.inr (some 0))), some (.inr (.inr (some 79))), some (.inl i)] [] (SH, dt) Q) : GO (am_XX L xs sio) (d + 39) 267 888 [some (.inr (.inr (some 3000))), some (.inr (.inr (some 0))), some (.inr (.inr (some 79))), some (.inl i)] [] (SH, dt) Q := by
  have hF : Fr [0, 1, 2, 3, 4, 5, 6, 7, 8, 9, 10, 11, 12, 13, 14, 15, 16, 17, 18, 19, 20, 21, 22, 23, 24, 25, 26, 27, 28, 29, 30, 31, 32, 33, 34, 35, 36, 37, 38, 39, 40, 41, 42, 43, 44, 45, 46, 47, 48, 49, 50, 51, 52, 53, 54, 55, 56, 57, 58, 59, 60, 61, 62, 63, 64, 65, 66, 67, 68, 69, 70, 71, 72, 73, 74, 75, 76, 77, 78, 79, 80, 81, 82, 83, 84, 85, 86, 87, 88, 89, 90, 91, 92, 93, 94, 95, 96, 97, 98, 99, 100, 101, 102, 103, 104] dt dt := Fr_refl
  refine go_toq PM267 (k := 5) (pc' := 893) (L' := [some (.inr (.inr (some 3000))), some (.inr (.inr (some 0))), some (.inr (.inr (some 79))), some (.inl i)]) (st' := [.inl (i + 1), .inr (.inr (some 3000)), .inr (.inr (some 0))]) (w' := (SH, dt)) rfl ?_
  have r1 := i32_R (xs ((i + 1).toNat))
  refine go_smpq PM267 (L' := [some (.inr (.inr (some 3000))), some (.inr (.inr (some 0))), some (.inr (.inr (some 79))), some (.inl i)]) (st' := [.inl ((xs ((i + 1).toNat)).toInt), .inr (.inr (some 0))]) (w' := (SH, dt)) rfl rfl (s_iald (n := L) (f := fun j => (xs j).toInt) (am_scr hLL) ⟨by omega, by omega⟩) ?_
  refine go_toq PM267 (k := 4) (pc' := 898) (L' := [some (.inr (.inr (some 3000))), some (.inr (.inr (some 0))), some (.inr (.inr (some 79))), some (.inl i)]) (st' := [.inl (i + 2), .inr (.inr (some 3000)), .inl ((xs ((i + 1).toNat)).toInt), .inr (.inr (some 0))]) (w' := (SH, dt)) rfl ?_
  have r2 := i32_R (xs ((i + 2).toNat))
  refine go_smpq PM267 (L' := [some (.inr (.inr (some 3000))), some (.inr (.inr (some 0))), some (.inr (.inr (some 79))), some (.inl i)]) (st' := [.inl ((xs ((i + 2).toNat)).toInt), .inl ((xs ((i + 1).toNat)).toInt), .inr (.inr (some 0))]) (w' := (SH, dt)) rfl rfl (s_iald (n := L) (f := fun j => (xs j).toInt) (am_scr hLL) ⟨by omega, by omega⟩) ?_
  refine go_callq PM267 PM83 (Q' := _) rfl rfl rfl rfl (sp_X5_parted L xs sio (d + 35) dt hI  ((xs ((i + 1).toNat)).toInt) ⟨by omega, by omega⟩ ((xs ((i + 2).toNat)).toInt) ⟨by omega, by omega⟩ ) ?_
  rintro _ _ ⟨rfl, h3⟩
  refine ⟨rfl, ?_⟩
  rcases h3 with ⟨v_h3, rfl, h3r, h3⟩
  refine go_toq PM267 (k := 6) (pc' := 908) (L' := [some (.inr (.inr (some 3000))), some (.inr (.inr (some 0))), some (.inr (.inr (some 79))), some (.inl i)]) (st' := [.inl (i + 1), .inr (.inr (some 3000)), .inr (.inr (some 79))]) (w' := (SH, dt)) rfl ?_
  refine go_smpq PM267 (L' := [some (.inr (.inr (some 3000))), some (.inr (.inr (some 0))), some (.inr (.inr (some 79))), some (.inl i)]) (st' := [.inl ((xs ((i + 1).toNat)).toInt), .inr (.inr (some 79))]) (w' := (SH, dt)) rfl rfl (s_iald (n := L) (f := fun j => (xs j).toInt) (am_scr hLL) ⟨by omega, by omega⟩) ?_
  refine go_toq PM267 (k := 4) (pc' := 913) (L' := [some (.inr (.inr (some 3000))), some (.inr (.inr (some 0))), some (.inr (.inr (some 79))), some (.inl i)]) (st' := [.inl (i + 2), .inr (.inr (some 3000)), .inl ((xs ((i + 1).toNat)).toInt), .inr (.inr (some 79))]) (w' := (SH, dt)) rfl ?_
  refine go_smpq PM267 (L' := [some (.inr (.inr (some 3000))), some (.inr (.inr (some 0))), some (.inr (.inr (some 79))), some (.inl i)]) (st' := [.inl ((xs ((i + 2).toNat)).toInt), .inl ((xs ((i + 1).toNat)).toInt), .inr (.inr (some 79))]) (w' := (SH, dt)) rfl rfl (s_iald (n := L) (f := fun j => (xs j).toInt) (am_scr hLL) ⟨by omega, by omega⟩) ?_
  refine go_callq PM267 PM219 (Q' := _) rfl rfl rfl rfl (sp_X6_parted L xs sio (d + 32) dt hI hM  ((xs ((i + 1).toNat)).toInt) ⟨by omega, by omega⟩ ((xs ((i + 2).toNat)).toInt) ⟨by omega, by omega⟩ ) ?_
  rintro _ _ ⟨dt5, rfl, hI6, hF7, h4⟩
  refine ⟨rfl, ?_⟩
  have hF8 : Fr [0, 1, 2, 3, 4, 5, 6, 7, 8, 9, 10, 11, 12, 13, 14, 15, 16, 17, 18, 19, 20, 21, 22, 23, 24, 25, 26, 27, 28, 29, 30, 31, 32, 33, 34, 35, 36, 37, 38, 39, 40, 41, 42, 43, 44, 45, 46, 47, 48, 49, 50, 51, 52, 53, 54, 55, 56, 57, 58, 59, 60, 61, 62, 63, 64, 65, 66, 67, 68, 69, 70, 71, 72, 73, 74, 75, 76, 77, 78, 79, 80, 81, 82, 83, 84, 85, 86, 87, 88, 89, 90, 91, 92, 93, 94, 95, 96, 97, 98, 99, 100, 101, 102, 103, 104] dt dt5 := Fr_tr hF hF7 (by decide)
  have hM9 : MW (dt5 80) := MW_fr hM hF7 (by decide)
  have w10 : dt5 1 0 = dt 1 0 := hF7 1 (by decide) 0
  have w11 : dt5 7 3 = dt 7 3 := hF7 7 (by decide) 3
  have w12 : dt5 10 3 = dt 10 3 := hF7 10 (by decide) 3
  have w13 : dt5 12 3 = dt 12 3 := hF7 12 (by decide) 3
  have w14 : dt5 14 3 = dt 14 3 := hF7 14 (by decide) 3
  have w15 : dt5 16 3 = dt 16 3 := hF7 16 (by decide) 3
  have w16 : dt5 18 0 = dt 18 0 := hF7 18 (by decide) 0
  have w17 : dt5 24 3 = dt 24 3 := hF7 24 (by decide) 3
  have w18 : dt5 27 3 = dt 27 3 := hF7 27 (by decide) 3
  have w19 : dt5 29 3 = dt 29 3 := hF7 29 (by decide) 3
  have w20 : dt5 31 3 = dt 31 3 := hF7 31 (by decide) 3
  have w21 : dt5 33 3 = dt 33 3 := hF7 33 (by decide) 3
  have w22 : dt5 0 2 = dt 0 2 := hF7 0 (by decide) 2
  have w23 : dt5 35 1 = dt 35 1 := hF7 35 (by decide) 1
  have w24 : dt5 35 2 = dt 35 2 := hF7 35 (by decide) 2
  have w25 : dt5 35 3 = dt 35 3 := hF7 35 (by decide) 3
  have w26 : dt5 80 0 = dt 80 0 := hF7 80 (by decide) 0
  have w27 : dt5 80 1 = dt 80 1 := hF7 80 (by decide) 1
  have w28 : dt5 80 2 = dt 80 2 := hF7 80 (by decide) 2
  have w29 : dt5 80 3 = dt 80 3 := hF7 80 (by decide) 3
  have w30 : dt5 80 4 = dt 80 4 := hF7 80 (by decide) 4
  have w31 : dt5 80 5 = dt 80 5 := hF7 80 (by decide) 5
  have w32 : dt5 81 0 = dt 81 0 := hF7 81 (by decide) 0
  have w33 : dt5 81 1 = dt 81 1 := hF7 81 (by decide) 1
  have w34 : dt5 81 2 = dt 81 2 := hF7 81 (by decide) 2
  have w35 : dt5 81 3 = dt 81 3 := hF7 81 (by decide) 3
  have w36 : dt5 81 4 = dt 81 4 := hF7 81 (by decide) 4
  have w37 : dt5 81 5 = dt 81 5 := hF7 81 (by decide) 5
  have w38 : dt5 79 2 = dt 79 2 := hF7 79 (by decide) 2
  have w39 : dt5 79 12 = dt 79 12 := hF7 79 (by decide) 12
  have w40 : dt5 79 19 = dt 79 19 := hF7 79 (by decide) 19
  have w41 : dt5 79 21 = dt 79 21 := hF7 79 (by decide) 21
  rcases h4 with ⟨v_h4, rfl, h4r, h4⟩
  have M242 : MW (dt5 81) := MW_frk hM2 hF7 (by decide)
  have C43 : ∀ j : Nat, dt5 2 j = dt 2 j := fun j => (hF7 2 (by decide) j).trans ((fun _ => rfl) j)
  have C44 : ∀ j : Nat, dt5 3 j = dt 3 j := fun j => (hF7 3 (by decide) j).trans ((fun _ => rfl) j)
  have C45 : ∀ j : Nat, dt5 19 j = dt 19 j := fun j => (hF7 19 (by decide) j).trans ((fun _ => rfl) j)
  have C46 : ∀ j : Nat, dt5 20 j = dt 20 j := fun j => (hF7 20 (by decide) j).trans ((fun _ => rfl) j)
  have C47 : ∀ j : Nat, dt5 36 j = dt 36 j := fun j => (hF7 36 (by decide) j).trans ((fun _ => rfl) j)
  have C48 : ∀ j : Nat, dt5 80 j = dt 80 j := fun j => (hF7 80 (by decide) j).trans ((fun _ => rfl) j)
  have C49 : ∀ j : Nat, dt5 81 j = dt 81 j := fun j => (hF7 81 (by decide) j).trans ((fun _ => rfl) j)
  have C50 : ∀ j : Nat, dt5 85 j = dt 85 j := fun j => (hF7 85 (by decide) j).trans ((fun _ => rfl) j)
  refine go_toq PM267 (k := 2) (pc' := 1435) (L' := [some (.inr (.inr (some 3000))), some (.inr (.inr (some 0))), some (.inr (.inr (some 79))), some (.inl i)]) (st' := []) (w' := (SH, dt5)) rfl ?_
  exact K dt5 hI6 hM9 M242 (w10.trans (hk0.trans w26.symm)) (w11.trans (hk1.trans w27.symm)) (w12.trans (hk2.trans w28.symm)) (w13.trans (hk3.trans w29.symm)) (w14.trans (hk4.trans w30.symm)) (w15.trans (hk5.trans w31.symm)) (w16.trans (hk6.trans w32.symm)) (w17.trans (hk7.trans w33.symm)) (w18.trans (hk8.trans w34.symm)) (w19.trans (hk9.trans w35.symm)) (w20.trans (hk10.trans w36.symm)) (w21.trans (hk11.trans w37.symm)) (w22.trans (hk12.trans w38.symm)) (w23.trans (hk13.trans w39.symm)) (w24.trans (hk14.trans w40.symm)) (w25.trans (hk15.trans w41.symm)) (by first | exact hI | exact TPL_k hd0 C47 C50 (by omega) | (exfalso; omega)) (by first | exact hI | exact SCL_k hd1 hM (fun j _ => C43 j) (fun j _ => C44 j) (fun j _ _ => C48 j) | (exfalso; omega)) (by first | exact hI | exact SCL_k hd2 hM2 (fun j _ => C45 j) (fun j _ => C46 j) (fun j _ _ => C49 j) | (exfalso; omega))
set_option maxRecDepth 20000 in
set_option maxHeartbeats 8000000 in
theorem sp_case17 (L : Nat) (xs : Nat → Int32) (sio : Option Nat) (d : Nat) (Q : Option AV → am_W → Prop) (hLL : L ≤ 3072) (i : Int) (hi : 0 ≤ i ∧ i ≤ 3066) (hil : i ≤ (L : Int) - 6) (dt : Nat → Nat → Int) (hI : InvC dt) (hM : MW (dt 80)) (hM2 : MW (dt 81)) (hk0 : dt 1 0 = dt 80 0) (hk1 : dt 7 3 = dt 80 1) (hk2 : dt 10 3 = dt 80 2) (hk3 : dt 12 3 = dt 80 3) (hk4 : dt 14 3 = dt 80 4) (hk5 : dt 16 3 = dt 80 5) (hk6 : dt 18 0 = dt 81 0) (hk7 : dt 24 3 = dt 81 1) (hk8 : dt 27 3 = dt 81 2) (hk9 : dt 29 3 = dt 81 3) (hk10 : dt 31 3 = dt 81 4) (hk11 : dt 33 3 = dt 81 5) (hk12 : dt 0 2 = dt 79 2) (hk13 : dt 35 1 = dt 79 12) (hk14 : dt 35 2 = dt 79 19) (hk15 : dt 35 3 = dt 79 21) (hd0 : TPL (dt 36) (dt 85) (dt 35 1)) (hd1 : SCL (dt 2) (dt 3) (dt 80)) (hd2 : SCL (dt 19) (dt 20) (dt 81)) (K : ∀ (dt : Nat → Nat → Int) (hI : InvC dt) (hM : MW (dt 80)) (hM2 : MW (dt 81)) (hk0 : dt 1 0 = dt 80 0) (hk1 : dt 7 3 = dt 80 1) (hk2 : dt 10 3 = dt 80 2) (hk3 : dt 12 3 = dt 80 3) (hk4 : dt 14 3 = dt 80 4) (hk5 : dt 16 3 = dt 80 5) (hk6 : dt 18 0 = dt 81 0) (hk7 : dt 24 3 = dt 81 1) (hk8 : dt 27 3 = dt 81 2) (hk9 : dt 29 3 = dt 81 3) (hk10 : dt 31 3 = dt 81 4) (hk11 : dt 33 3 = dt 81 5) (hk12 : dt 0 2 = dt 79 2) (hk13 : dt 35 1 = dt 79 12) (hk14 : dt 35 2 = dt 79 19) (hk15 : dt 35 3 = dt 79 21) (hd0 : TPL (dt 36) (dt 85) (dt 35 1)) (hd1 : SCL (dt 2) (dt 3) (dt 80)) (hd2 : SCL (dt 19) (dt 20) (dt 81)), GO (am_XX L xs sio) (d + 39) 267 1435 [some (.inr (.inr (some 3000))), some (.inr (.inr (some 0))), some (.inr (.inr (some 79))), some (.inl i)] [] (SH, dt) Q) : GO (am_XX L xs sio) (d + 39) 267 921 [some (.inr (.inr (some 3000))), some (.inr (.inr (some 0))), some (.inr (.inr (some 79))), some (.inl i)] [] (SH, dt) Q := by
  have hF : Fr [0, 1, 2, 3, 4, 5, 6, 7, 8, 9, 10, 11, 12, 13, 14, 15, 16, 17, 18, 19, 20, 21, 22, 23, 24, 25, 26, 27, 28, 29, 30, 31, 32, 33, 34, 35, 36, 37, 38, 39, 40, 41, 42, 43, 44, 45, 46, 47, 48, 49, 50, 51, 52, 53, 54, 55, 56, 57, 58, 59, 60, 61, 62, 63, 64, 65, 66, 67, 68, 69, 70, 71, 72, 73, 74, 75, 76, 77, 78, 79, 80, 81, 82, 83, 84, 85, 86, 87, 88, 89, 90, 91, 92, 93, 94, 95, 96, 97, 98, 99, 100, 101, 102, 103, 104] dt dt := Fr_refl
  refine go_toq PM267 (k := 5) (pc' := 926) (L' := [some (.inr (.inr (some 3000))), some (.inr (.inr (some 0))), some (.inr (.inr (some 79))), some (.inl i)]) (st' := [.inl (i + 1), .inr (.inr (some 3000)), .inr (.inr (some 0))]) (w' := (SH, dt)) rfl ?_
  have r1 := i32_R (xs ((i + 1).toNat))
  refine go_smpq PM267 (L' := [some (.inr (.inr (some 3000))), some (.inr (.inr (some 0))), some (.inr (.inr (some 79))), some (.inl i)]) (st' := [.inl ((xs ((i + 1).toNat)).toInt), .inr (.inr (some 0))]) (w' := (SH, dt)) rfl rfl (s_iald (n := L) (f := fun j => (xs j).toInt) (am_scr hLL) ⟨by omega, by omega⟩) ?_
  refine go_callq PM267 PM84 (Q' := _) rfl rfl rfl rfl (sp_X5_fewest L xs sio (d + 34) dt hI  ((xs ((i + 1).toNat)).toInt) ⟨by omega, by omega⟩ ) ?_
  rintro _ _ ⟨dt3, rfl, hI4, hF5, h2⟩
  refine ⟨rfl, ?_⟩
  have hF6 : Fr [0, 1, 2, 3, 4, 5, 6, 7, 8, 9, 10, 11, 12, 13, 14, 15, 16, 17, 18, 19, 20, 21, 22, 23, 24, 25, 26, 27, 28, 29, 30, 31, 32, 33, 34, 35, 36, 37, 38, 39, 40, 41, 42, 43, 44, 45, 46, 47, 48, 49, 50, 51, 52, 53, 54, 55, 56, 57, 58, 59, 60, 61, 62, 63, 64, 65, 66, 67, 68, 69, 70, 71, 72, 73, 74, 75, 76, 77, 78, 79, 80, 81, 82, 83, 84, 85, 86, 87, 88, 89, 90, 91, 92, 93, 94, 95, 96, 97, 98, 99, 100, 101, 102, 103, 104] dt dt3 := Fr_tr hF hF5 (by decide)
  have hM7 : MW (dt3 80) := MW_fr hM hF5 (by decide)
  have w8 : dt3 1 0 = dt 1 0 := hF5 1 (by decide) 0
  have w9 : dt3 7 3 = dt 7 3 := hF5 7 (by decide) 3
  have w10 : dt3 10 3 = dt 10 3 := hF5 10 (by decide) 3
  have w11 : dt3 12 3 = dt 12 3 := hF5 12 (by decide) 3
  have w12 : dt3 14 3 = dt 14 3 := hF5 14 (by decide) 3
  have w13 : dt3 16 3 = dt 16 3 := hF5 16 (by decide) 3
  have w14 : dt3 18 0 = dt 18 0 := hF5 18 (by decide) 0
  have w15 : dt3 24 3 = dt 24 3 := hF5 24 (by decide) 3
  have w16 : dt3 27 3 = dt 27 3 := hF5 27 (by decide) 3
  have w17 : dt3 29 3 = dt 29 3 := hF5 29 (by decide) 3
  have w18 : dt3 31 3 = dt 31 3 := hF5 31 (by decide) 3
  have w19 : dt3 33 3 = dt 33 3 := hF5 33 (by decide) 3
  have w20 : dt3 0 2 = dt 0 2 := hF5 0 (by decide) 2
  have w21 : dt3 35 1 = dt 35 1 := hF5 35 (by decide) 1
  have w22 : dt3 35 2 = dt 35 2 := hF5 35 (by decide) 2
  have w23 : dt3 35 3 = dt 35 3 := hF5 35 (by decide) 3
  have w24 : dt3 80 0 = dt 80 0 := hF5 80 (by decide) 0
  have w25 : dt3 80 1 = dt 80 1 := hF5 80 (by decide) 1
  have w26 : dt3 80 2 = dt 80 2 := hF5 80 (by decide) 2
  have w27 : dt3 80 3 = dt 80 3 := hF5 80 (by decide) 3
  have w28 : dt3 80 4 = dt 80 4 := hF5 80 (by decide) 4
  have w29 : dt3 80 5 = dt 80 5 := hF5 80 (by decide) 5
  have w30 : dt3 81 0 = dt 81 0 := hF5 81 (by decide) 0
  have w31 : dt3 81 1 = dt 81 1 := hF5 81 (by decide) 1
  have w32 : dt3 81 2 = dt 81 2 := hF5 81 (by decide) 2
  have w33 : dt3 81 3 = dt 81 3 := hF5 81 (by decide) 3
  have w34 : dt3 81 4 = dt 81 4 := hF5 81 (by decide) 4
  have w35 : dt3 81 5 = dt 81 5 := hF5 81 (by decide) 5
  have w36 : dt3 79 2 = dt 79 2 := hF5 79 (by decide) 2
  have w37 : dt3 79 12 = dt 79 12 := hF5 79 (by decide) 12
  have w38 : dt3 79 19 = dt 79 19 := hF5 79 (by decide) 19
  have w39 : dt3 79 21 = dt 79 21 := hF5 79 (by decide) 21
  rcases h2 with ⟨v_h2, rfl, h2r, h2⟩
  have M240 : MW (dt3 81) := MW_frk hM2 hF5 (by decide)
  have C41 : ∀ j : Nat, dt3 2 j = dt 2 j := fun j => (hF5 2 (by decide) j).trans ((fun _ => rfl) j)
  have C42 : ∀ j : Nat, dt3 3 j = dt 3 j := fun j => (hF5 3 (by decide) j).trans ((fun _ => rfl) j)
  have C43 : ∀ j : Nat, dt3 19 j = dt 19 j := fun j => (hF5 19 (by decide) j).trans ((fun _ => rfl) j)
  have C44 : ∀ j : Nat, dt3 20 j = dt 20 j := fun j => (hF5 20 (by decide) j).trans ((fun _ => rfl) j)
  have C45 : ∀ j : Nat, dt3 36 j = dt 36 j := fun j => (hF5 36 (by decide) j).trans ((fun _ => rfl) j)
  have C46 : ∀ j : Nat, dt3 80 j = dt 80 j := fun j => (hF5 80 (by decide) j).trans ((fun _ => rfl) j)
  have C47 : ∀ j : Nat, dt3 81 j = dt 81 j := fun j => (hF5 81 (by decide) j).trans ((fun _ => rfl) j)
  have C48 : ∀ j : Nat, dt3 85 j = dt 85 j := fun j => (hF5 85 (by decide) j).trans ((fun _ => rfl) j)
  refine go_toq PM267 (k := 6) (pc' := 936) (L' := [some (.inr (.inr (some 3000))), some (.inr (.inr (some 0))), some (.inr (.inr (some 79))), some (.inl i)]) (st' := [.inl (i + 1), .inr (.inr (some 3000)), .inr (.inr (some 79))]) (w' := (SH, dt3)) rfl ?_
  have r49 := i32_R (xs ((i + 1).toNat))
  refine go_smpq PM267 (L' := [some (.inr (.inr (some 3000))), some (.inr (.inr (some 0))), some (.inr (.inr (some 79))), some (.inl i)]) (st' := [.inl ((xs ((i + 1).toNat)).toInt), .inr (.inr (some 79))]) (w' := (SH, dt3)) rfl rfl (s_iald (n := L) (f := fun j => (xs j).toInt) (am_scr hLL) ⟨by omega, by omega⟩) ?_
  refine go_callq PM267 PM221 (Q' := _) rfl rfl rfl rfl (sp_X6_fewest L xs sio (d + 32) dt3 hI4 hM7  ((xs ((i + 1).toNat)).toInt) ⟨by omega, by omega⟩ ) ?_
  rintro _ _ ⟨dt51, rfl, hI52, hF53, h50⟩
  refine ⟨rfl, ?_⟩
  have hF54 : Fr [0, 1, 2, 3, 4, 5, 6, 7, 8, 9, 10, 11, 12, 13, 14, 15, 16, 17, 18, 19, 20, 21, 22, 23, 24, 25, 26, 27, 28, 29, 30, 31, 32, 33, 34, 35, 36, 37, 38, 39, 40, 41, 42, 43, 44, 45, 46, 47, 48, 49, 50, 51, 52, 53, 54, 55, 56, 57, 58, 59, 60, 61, 62, 63, 64, 65, 66, 67, 68, 69, 70, 71, 72, 73, 74, 75, 76, 77, 78, 79, 80, 81, 82, 83, 84, 85, 86, 87, 88, 89, 90, 91, 92, 93, 94, 95, 96, 97, 98, 99, 100, 101, 102, 103, 104] dt dt51 := Fr_tr hF6 hF53 (by decide)
  have hM55 : MW (dt51 80) := MW_fr hM7 hF53 (by decide)
  have w56 : dt51 1 0 = dt 1 0 := (hF53 1 (by decide) 0).trans w8
  have w57 : dt51 7 3 = dt 7 3 := (hF53 7 (by decide) 3).trans w9
  have w58 : dt51 10 3 = dt 10 3 := (hF53 10 (by decide) 3).trans w10
  have w59 : dt51 12 3 = dt 12 3 := (hF53 12 (by decide) 3).trans w11
  have w60 : dt51 14 3 = dt 14 3 := (hF53 14 (by decide) 3).trans w12
  have w61 : dt51 16 3 = dt 16 3 := (hF53 16 (by decide) 3).trans w13
  have w62 : dt51 18 0 = dt 18 0 := (hF53 18 (by decide) 0).trans w14
  have w63 : dt51 24 3 = dt 24 3 := (hF53 24 (by decide) 3).trans w15
  have w64 : dt51 27 3 = dt 27 3 := (hF53 27 (by decide) 3).trans w16
  have w65 : dt51 29 3 = dt 29 3 := (hF53 29 (by decide) 3).trans w17
  have w66 : dt51 31 3 = dt 31 3 := (hF53 31 (by decide) 3).trans w18
  have w67 : dt51 33 3 = dt 33 3 := (hF53 33 (by decide) 3).trans w19
  have w68 : dt51 0 2 = dt 0 2 := (hF53 0 (by decide) 2).trans w20
  have w69 : dt51 35 1 = dt 35 1 := (hF53 35 (by decide) 1).trans w21
  have w70 : dt51 35 2 = dt 35 2 := (hF53 35 (by decide) 2).trans w22
  have w71 : dt51 35 3 = dt 35 3 := (hF53 35 (by decide) 3).trans w23
  have w72 : dt51 80 0 = dt 80 0 := (hF53 80 (by decide) 0).trans w24
  have w73 : dt51 80 1 = dt 80 1 := (hF53 80 (by decide) 1).trans w25
  have w74 : dt51 80 2 = dt 80 2 := (hF53 80 (by decide) 2).trans w26
  have w75 : dt51 80 3 = dt 80 3 := (hF53 80 (by decide) 3).trans w27
  have w76 : dt51 80 4 = dt 80 4 := (hF53 80 (by decide) 4).trans w28
  have w77 : dt51 80 5 = dt 80 5 := (hF53 80 (by decide) 5).trans w29
  have w78 : dt51 81 0 = dt 81 0 := (hF53 81 (by decide) 0).trans w30
  have w79 : dt51 81 1 = dt 81 1 := (hF53 81 (by decide) 1).trans w31
  have w80 : dt51 81 2 = dt 81 2 := (hF53 81 (by decide) 2).trans w32
  have w81 : dt51 81 3 = dt 81 3 := (hF53 81 (by decide) 3).trans w33
  have w82 : dt51 81 4 = dt 81 4 := (hF53 81 (by decide) 4).trans w34
  have w83 : dt51 81 5 = dt 81 5 := (hF53 81 (by decide) 5).trans w35
  have w84 : dt51 79 2 = dt 79 2 := (hF53 79 (by decide) 2).trans w36
  have w85 : dt51 79 12 = dt 79 12 := (hF53 79 (by decide) 12).trans w37
  have w86 : dt51 79 19 = dt 79 19 := (hF53 79 (by decide) 19).trans w38
  have w87 : dt51 79 21 = dt 79 21 := (hF53 79 (by decide) 21).trans w39
  rcases h50 with ⟨v_h50, rfl, h50r, h50⟩
  have M288 : MW (dt51 81) := MW_frk M240 hF53 (by decide)
  have C89 : ∀ j : Nat, dt51 2 j = dt 2 j := fun j => (hF53 2 (by decide) j).trans (C41 j)
  have C90 : ∀ j : Nat, dt51 3 j = dt 3 j := fun j => (hF53 3 (by decide) j).trans (C42 j)
  have C91 : ∀ j : Nat, dt51 19 j = dt 19 j := fun j => (hF53 19 (by decide) j).trans (C43 j)
  have C92 : ∀ j : Nat, dt51 20 j = dt 20 j := fun j => (hF53 20 (by decide) j).trans (C44 j)
  have C93 : ∀ j : Nat, dt51 36 j = dt 36 j := fun j => (hF53 36 (by decide) j).trans (C45 j)
  have C94 : ∀ j : Nat, dt51 80 j = dt 80 j := fun j => (hF53 80 (by decide) j).trans (C46 j)
  have C95 : ∀ j : Nat, dt51 81 j = dt 81 j := fun j => (hF53 81 (by decide) j).trans (C47 j)
  have C96 : ∀ j : Nat, dt51 85 j = dt 85 j := fun j => (hF53 85 (by decide) j).trans (C48 j)
  refine go_toq PM267 (k := 2) (pc' := 1435) (L' := [some (.inr (.inr (some 3000))), some (.inr (.inr (some 0))), some (.inr (.inr (some 79))), some (.inl i)]) (st' := []) (w' := (SH, dt51)) rfl ?_
  exact K dt51 hI52 hM55 M288 (w56.trans (hk0.trans w72.symm)) (w57.trans (hk1.trans w73.symm)) (w58.trans (hk2.trans w74.symm)) (w59.trans (hk3.trans w75.symm)) (w60.trans (hk4.trans w76.symm)) (w61.trans (hk5.trans w77.symm)) (w62.trans (hk6.trans w78.symm)) (w63.trans (hk7.trans w79.symm)) (w64.trans (hk8.trans w80.symm)) (w65.trans (hk9.trans w81.symm)) (w66.trans (hk10.trans w82.symm)) (w67.trans (hk11.trans w83.symm)) (w68.trans (hk12.trans w84.symm)) (w69.trans (hk13.trans w85.symm)) (w70.trans (hk14.trans w86.symm)) (w71.trans (hk15.trans w87.symm)) (by first | exact hI | exact TPL_k hd0 C93 C96 (by omega) | (exfalso; omega)) (by first | exact hI | exact SCL_k hd1 hM (fun j _ => C89 j) (fun j _ => C90 j) (fun j _ _ => C94 j) | (exfalso; omega)) (by first | exact hI | exact SCL_k hd2 hM2 (fun j _ => C91 j) (fun j _ => C92 j) (fun j _ _ => C95 j) | (exfalso; omega))
set_option maxRecDepth 20000 in
set_option maxHeartbeats 8000000 in
theorem sp_case18 (L : Nat) (xs : Nat → Int32) (sio : Option Nat) (d : Nat) (Q : Option AV → am_W → Prop) (hLL : L ≤ 3072) (i : Int) (hi : 0 ≤ i ∧ i ≤ 3066) (hil : i ≤ (L : Int) - 6) (dt : Nat → Nat → Int) (hI : InvC dt) (hM : MW (dt 80)) (hM2 : MW (dt 81)) (hk0 : dt 1 0 = dt 80 0) (hk1 : dt 7 3 = dt 80 1) (hk2 : dt 10 3 = dt 80 2) (hk3 : dt 12 3 = dt 80 3) (hk4 : dt 14 3 = dt 80 4) (hk5 : dt 16 3 = dt 80 5) (hk6 : dt 18 0 = dt 81 0) (hk7 : dt 24 3 = dt 81 1) (hk8 : dt 27 3 = dt 81 2) (hk9 : dt 29 3 = dt 81 3) (hk10 : dt 31 3 = dt 81 4) (hk11 : dt 33 3 = dt 81 5) (hk12 : dt 0 2 = dt 79 2) (hk13 : dt 35 1 = dt 79 12) (hk14 : dt 35 2 = dt 79 19) (hk15 : dt 35 3 = dt 79 21) (hd0 : TPL (dt 36) (dt 85) (dt 35 1)) (hd1 : SCL (dt 2) (dt 3) (dt 80)) (hd2 : SCL (dt 19) (dt 20) (dt 81)) (K : ∀ (dt : Nat → Nat → Int) (hI : InvC dt) (hM : MW (dt 80)) (hM2 : MW (dt 81)) (hk0 : dt 1 0 = dt 80 0) (hk1 : dt 7 3 = dt 80 1) (hk2 : dt 10 3 = dt 80 2) (hk3 : dt 12 3 = dt 80 3) (hk4 : dt 14 3 = dt 80 4) (hk5 : dt 16 3 = dt 80 5) (hk6 : dt 18 0 = dt 81 0) (hk7 : dt 24 3 = dt 81 1) (hk8 : dt 27 3 = dt 81 2) (hk9 : dt 29 3 = dt 81 3) (hk10 : dt 31 3 = dt 81 4) (hk11 : dt 33 3 = dt 81 5) (hk12 : dt 0 2 = dt 79 2) (hk13 : dt 35 1 = dt 79 12) (hk14 : dt 35 2 = dt 79 19) (hk15 : dt 35 3 = dt 79 21) (hd0 : TPL (dt 36) (dt 85) (dt 35 1)) (hd1 : SCL (dt 2) (dt 3) (dt 80)) (hd2 : SCL (dt 19) (dt 20) (dt 81)), GO (am_XX L xs sio) (d + 39) 267 1435 [some (.inr (.inr (some 3000))), some (.inr (.inr (some 0))), some (.inr (.inr (some 79))), some (.inl i)] [] (SH, dt) Q) : GO (am_XX L xs sio) (d + 39) 267 944 [some (.inr (.inr (some 3000))), some (.inr (.inr (some 0))), some (.inr (.inr (some 79))), some (.inl i)] [] (SH, dt) Q := by
  have hF : Fr [0, 1, 2, 3, 4, 5, 6, 7, 8, 9, 10, 11, 12, 13, 14, 15, 16, 17, 18, 19, 20, 21, 22, 23, 24, 25, 26, 27, 28, 29, 30, 31, 32, 33, 34, 35, 36, 37, 38, 39, 40, 41, 42, 43, 44, 45, 46, 47, 48, 49, 50, 51, 52, 53, 54, 55, 56, 57, 58, 59, 60, 61, 62, 63, 64, 65, 66, 67, 68, 69, 70, 71, 72, 73, 74, 75, 76, 77, 78, 79, 80, 81, 82, 83, 84, 85, 86, 87, 88, 89, 90, 91, 92, 93, 94, 95, 96, 97, 98, 99, 100, 101, 102, 103, 104] dt dt := Fr_refl
  refine go_toq PM267 (k := 5) (pc' := 949) (L' := [some (.inr (.inr (some 3000))), some (.inr (.inr (some 0))), some (.inr (.inr (some 79))), some (.inl i)]) (st' := [.inl (i + 1), .inr (.inr (some 3000)), .inr (.inr (some 0))]) (w' := (SH, dt)) rfl ?_
  have r1 := i32_R (xs ((i + 1).toNat))
  refine go_smpq PM267 (L' := [some (.inr (.inr (some 3000))), some (.inr (.inr (some 0))), some (.inr (.inr (some 79))), some (.inl i)]) (st' := [.inl ((xs ((i + 1).toNat)).toInt), .inr (.inr (some 0))]) (w' := (SH, dt)) rfl rfl (s_iald (n := L) (f := fun j => (xs j).toInt) (am_scr hLL) ⟨by omega, by omega⟩) ?_
  refine go_toq PM267 (k := 4) (pc' := 954) (L' := [some (.inr (.inr (some 3000))), some (.inr (.inr (some 0))), some (.inr (.inr (some 79))), some (.inl i)]) (st' := [.inl (i + 2), .inr (.inr (some 3000)), .inl ((xs ((i + 1).toNat)).toInt), .inr (.inr (some 0))]) (w' := (SH, dt)) rfl ?_
  have r2 := i32_R (xs ((i + 2).toNat))
  refine go_smpq PM267 (L' := [some (.inr (.inr (some 3000))), some (.inr (.inr (some 0))), some (.inr (.inr (some 79))), some (.inl i)]) (st' := [.inl ((xs ((i + 2).toNat)).toInt), .inl ((xs ((i + 1).toNat)).toInt), .inr (.inr (some 0))]) (w' := (SH, dt)) rfl rfl (s_iald (n := L) (f := fun j => (xs j).toInt) (am_scr hLL) ⟨by omega, by omega⟩) ?_
  refine go_toq PM267 (k := 4) (pc' := 959) (L' := [some (.inr (.inr (some 3000))), some (.inr (.inr (some 0))), some (.inr (.inr (some 79))), some (.inl i)]) (st' := [.inl (i + 3), .inr (.inr (some 3000)), .inl ((xs ((i + 2).toNat)).toInt), .inl ((xs ((i + 1).toNat)).toInt), .inr (.inr (some 0))]) (w' := (SH, dt)) rfl ?_
  have r3 := i32_R (xs ((i + 3).toNat))
  refine go_smpq PM267 (L' := [some (.inr (.inr (some 3000))), some (.inr (.inr (some 0))), some (.inr (.inr (some 79))), some (.inl i)]) (st' := [.inl ((xs ((i + 3).toNat)).toInt), .inl ((xs ((i + 2).toNat)).toInt), .inl ((xs ((i + 1).toNat)).toInt), .inr (.inr (some 0))]) (w' := (SH, dt)) rfl rfl (s_iald (n := L) (f := fun j => (xs j).toInt) (am_scr hLL) ⟨by omega, by omega⟩) ?_
  refine go_callq PM267 PM85 (Q' := _) rfl rfl rfl rfl (sp_X5_make L xs sio (d + 32) dt hI  ((xs ((i + 1).toNat)).toInt) ⟨by omega, by omega⟩ ((xs ((i + 2).toNat)).toInt) ⟨by omega, by omega⟩ ((xs ((i + 3).toNat)).toInt) ⟨by omega, by omega⟩ ) ?_
  rintro _ _ ⟨dt5, rfl, hI6, hF7, h4⟩
  refine ⟨rfl, ?_⟩
  have hF8 : Fr [0, 1, 2, 3, 4, 5, 6, 7, 8, 9, 10, 11, 12, 13, 14, 15, 16, 17, 18, 19, 20, 21, 22, 23, 24, 25, 26, 27, 28, 29, 30, 31, 32, 33, 34, 35, 36, 37, 38, 39, 40, 41, 42, 43, 44, 45, 46, 47, 48, 49, 50, 51, 52, 53, 54, 55, 56, 57, 58, 59, 60, 61, 62, 63, 64, 65, 66, 67, 68, 69, 70, 71, 72, 73, 74, 75, 76, 77, 78, 79, 80, 81, 82, 83, 84, 85, 86, 87, 88, 89, 90, 91, 92, 93, 94, 95, 96, 97, 98, 99, 100, 101, 102, 103, 104] dt dt5 := Fr_tr hF hF7 (by decide)
  have hM9 : MW (dt5 80) := MW_fr hM hF7 (by decide)
  have w10 : dt5 1 0 = dt 1 0 := hF7 1 (by decide) 0
  have w11 : dt5 7 3 = dt 7 3 := hF7 7 (by decide) 3
  have w12 : dt5 10 3 = dt 10 3 := hF7 10 (by decide) 3
  have w13 : dt5 12 3 = dt 12 3 := hF7 12 (by decide) 3
  have w14 : dt5 14 3 = dt 14 3 := hF7 14 (by decide) 3
  have w15 : dt5 16 3 = dt 16 3 := hF7 16 (by decide) 3
  have w16 : dt5 18 0 = dt 18 0 := hF7 18 (by decide) 0
  have w17 : dt5 24 3 = dt 24 3 := hF7 24 (by decide) 3
  have w18 : dt5 27 3 = dt 27 3 := hF7 27 (by decide) 3
  have w19 : dt5 29 3 = dt 29 3 := hF7 29 (by decide) 3
  have w20 : dt5 31 3 = dt 31 3 := hF7 31 (by decide) 3
  have w21 : dt5 33 3 = dt 33 3 := hF7 33 (by decide) 3
  have w22 : dt5 0 2 = dt 0 2 := hF7 0 (by decide) 2
  have w23 : dt5 35 1 = dt 35 1 := hF7 35 (by decide) 1
  have w24 : dt5 35 2 = dt 35 2 := hF7 35 (by decide) 2
  have w25 : dt5 35 3 = dt 35 3 := hF7 35 (by decide) 3
  have w26 : dt5 80 0 = dt 80 0 := hF7 80 (by decide) 0
  have w27 : dt5 80 1 = dt 80 1 := hF7 80 (by decide) 1
  have w28 : dt5 80 2 = dt 80 2 := hF7 80 (by decide) 2
  have w29 : dt5 80 3 = dt 80 3 := hF7 80 (by decide) 3
  have w30 : dt5 80 4 = dt 80 4 := hF7 80 (by decide) 4
  have w31 : dt5 80 5 = dt 80 5 := hF7 80 (by decide) 5
  have w32 : dt5 81 0 = dt 81 0 := hF7 81 (by decide) 0
  have w33 : dt5 81 1 = dt 81 1 := hF7 81 (by decide) 1
  have w34 : dt5 81 2 = dt 81 2 := hF7 81 (by decide) 2
  have w35 : dt5 81 3 = dt 81 3 := hF7 81 (by decide) 3
  have w36 : dt5 81 4 = dt 81 4 := hF7 81 (by decide) 4
  have w37 : dt5 81 5 = dt 81 5 := hF7 81 (by decide) 5
  have w38 : dt5 79 2 = dt 79 2 := hF7 79 (by decide) 2
  have w39 : dt5 79 12 = dt 79 12 := hF7 79 (by decide) 12
  have w40 : dt5 79 19 = dt 79 19 := hF7 79 (by decide) 19
  have w41 : dt5 79 21 = dt 79 21 := hF7 79 (by decide) 21
  rcases h4 with ⟨v_h4, rfl, h4r, h4⟩
  have M242 : MW (dt5 81) := MW_frk hM2 hF7 (by decide)
  have C43 : ∀ j : Nat, dt5 2 j = dt 2 j := fun j => (hF7 2 (by decide) j).trans ((fun _ => rfl) j)
  have C44 : ∀ j : Nat, dt5 3 j = dt 3 j := fun j => (hF7 3 (by decide) j).trans ((fun _ => rfl) j)
  have C45 : ∀ j : Nat, dt5 19 j = dt 19 j := fun j => (hF7 19 (by decide) j).trans ((fun _ => rfl) j)
  have C46 : ∀ j : Nat, dt5 20 j = dt 20 j := fun j => (hF7 20 (by decide) j).trans ((fun _ => rfl) j)
  have C47 : ∀ j : Nat, dt5 36 j = dt 36 j := fun j => (hF7 36 (by decide) j).trans ((fun _ => rfl) j)
  have C48 : ∀ j : Nat, dt5 80 j = dt 80 j := fun j => (hF7 80 (by decide) j).trans ((fun _ => rfl) j)
  have C49 : ∀ j : Nat, dt5 81 j = dt 81 j := fun j => (hF7 81 (by decide) j).trans ((fun _ => rfl) j)
  have C50 : ∀ j : Nat, dt5 85 j = dt 85 j := fun j => (hF7 85 (by decide) j).trans ((fun _ => rfl) j)
  refine go_toq PM267 (k := 6) (pc' := 969) (L' := [some (.inr (.inr (some 3000))), some (.inr (.inr (some 0))), some (.inr (.inr (some 79))), some (.inl i)]) (st' := [.inl (i + 1), .inr (.inr (some 3000)), .inr (.inr (some 79))]) (w' := (SH, dt5)) rfl ?_
  have r51 := i32_R (xs ((i + 1).toNat))
  refine go_smpq PM267 (L' := [some (.inr (.inr (some 3000))), some (.inr (.inr (some 0))), some (.inr (.inr (some 79))), some (.inl i)]) (st' := [.inl ((xs ((i + 1).toNat)).toInt), .inr (.inr (some 79))]) (w' := (SH, dt5)) rfl rfl (s_iald (n := L) (f := fun j => (xs j).toInt) (am_scr hLL) ⟨by omega, by omega⟩) ?_
  refine go_toq PM267 (k := 4) (pc' := 974) (L' := [some (.inr (.inr (some 3000))), some (.inr (.inr (some 0))), some (.inr (.inr (some 79))), some (.inl i)]) (st' := [.inl (i + 2), .inr (.inr (some 3000)), .inl ((xs ((i + 1).toNat)).toInt), .inr (.inr (some 79))]) (w' := (SH, dt5)) rfl ?_
  have r52 := i32_R (xs ((i + 2).toNat))
  refine go_smpq PM267 (L' := [some (.inr (.inr (some 3000))), some (.inr (.inr (some 0))), some (.inr (.inr (some 79))), some (.inl i)]) (st' := [.inl ((xs ((i + 2).toNat)).toInt), .inl ((xs ((i + 1).toNat)).toInt), .inr (.inr (some 79))]) (w' := (SH, dt5)) rfl rfl (s_iald (n := L) (f := fun j => (xs j).toInt) (am_scr hLL) ⟨by omega, by omega⟩) ?_
  refine go_toq PM267 (k := 4) (pc' := 979) (L' := [some (.inr (.inr (some 3000))), some (.inr (.inr (some 0))), some (.inr (.inr (some 79))), some (.inl i)]) (st' := [.inl (i + 3), .inr (.inr (some 3000)), .inl ((xs ((i + 2).toNat)).toInt), .inl ((xs ((i + 1).toNat)).toInt), .inr (.inr (some 79))]) (w' := (SH, dt5)) rfl ?_
  have r53 := i32_R (xs ((i + 3).toNat))
  refine go_smpq PM267 (L' := [some (.inr (.inr (some 3000))), some (.inr (.inr (some 0))), some (.inr (.inr (some 79))), some (.inl i)]) (st' := [.inl ((xs ((i + 3).toNat)).toInt), .inl ((xs ((i + 2).toNat)).toInt), .inl ((xs ((i + 1).toNat)).toInt), .inr (.inr (some 79))]) (w' := (SH, dt5)) rfl rfl (s_iald (n := L) (f := fun j => (xs j).toInt) (am_scr hLL) ⟨by omega, by omega⟩) ?_
  refine go_callq PM267 PM223 (Q' := _) rfl rfl rfl rfl (sp_X6_make L xs sio (d + 32) dt5 hI6 hM9  ((xs ((i + 1).toNat)).toInt) ⟨by omega, by omega⟩ ((xs ((i + 2).toNat)).toInt) ⟨by omega, by omega⟩ ((xs ((i + 3).toNat)).toInt) ⟨by omega, by omega⟩ ) ?_
  rintro _ _ ⟨dt55, rfl, hI56, hF57, h54⟩
  refine ⟨rfl, ?_⟩
  have hF58 : Fr [0, 1, 2, 3, 4, 5, 6, 7, 8, 9, 10, 11, 12, 13, 14, 15, 16, 17, 18, 19, 20, 21, 22, 23, 24, 25, 26, 27, 28, 29, 30, 31, 32, 33, 34, 35, 36, 37, 38, 39, 40, 41, 42, 43, 44, 45, 46, 47, 48, 49, 50, 51, 52, 53, 54, 55, 56, 57, 58, 59, 60, 61, 62, 63, 64, 65, 66, 67, 68, 69, 70, 71, 72, 73, 74, 75, 76, 77, 78, 79, 80, 81, 82, 83, 84, 85, 86, 87, 88, 89, 90, 91, 92, 93, 94, 95, 96, 97, 98, 99, 100, 101, 102, 103, 104] dt dt55 := Fr_tr hF8 hF57 (by decide)
  have hM59 : MW (dt55 80) := MW_fr hM9 hF57 (by decide)
  have w60 : dt55 1 0 = dt 1 0 := (hF57 1 (by decide) 0).trans w10
  have w61 : dt55 7 3 = dt 7 3 := (hF57 7 (by decide) 3).trans w11
  have w62 : dt55 10 3 = dt 10 3 := (hF57 10 (by decide) 3).trans w12
  have w63 : dt55 12 3 = dt 12 3 := (hF57 12 (by decide) 3).trans w13
  have w64 : dt55 14 3 = dt 14 3 := (hF57 14 (by decide) 3).trans w14
  have w65 : dt55 16 3 = dt 16 3 := (hF57 16 (by decide) 3).trans w15
  have w66 : dt55 18 0 = dt 18 0 := (hF57 18 (by decide) 0).trans w16
  have w67 : dt55 24 3 = dt 24 3 := (hF57 24 (by decide) 3).trans w17
  have w68 : dt55 27 3 = dt 27 3 := (hF57 27 (by decide) 3).trans w18
  have w69 : dt55 29 3 = dt 29 3 := (hF57 29 (by decide) 3).trans w19
  have w70 : dt55 31 3 = dt 31 3 := (hF57 31 (by decide) 3).trans w20
  have w71 : dt55 33 3 = dt 33 3 := (hF57 33 (by decide) 3).trans w21
  have w72 : dt55 0 2 = dt 0 2 := (hF57 0 (by decide) 2).trans w22
  have w73 : dt55 35 1 = dt 35 1 := (hF57 35 (by decide) 1).trans w23
  have w74 : dt55 35 2 = dt 35 2 := (hF57 35 (by decide) 2).trans w24
  have w75 : dt55 35 3 = dt 35 3 := (hF57 35 (by decide) 3).trans w25
  have w76 : dt55 80 0 = dt 80 0 := (hF57 80 (by decide) 0).trans w26
  have w77 : dt55 80 1 = dt 80 1 := (hF57 80 (by decide) 1).trans w27
  have w78 : dt55 80 2 = dt 80 2 := (hF57 80 (by decide) 2).trans w28
  have w79 : dt55 80 3 = dt 80 3 := (hF57 80 (by decide) 3).trans w29
  have w80 : dt55 80 4 = dt 80 4 := (hF57 80 (by decide) 4).trans w30
  have w81 : dt55 80 5 = dt 80 5 := (hF57 80 (by decide) 5).trans w31
  have w82 : dt55 81 0 = dt 81 0 := (hF57 81 (by decide) 0).trans w32
  have w83 : dt55 81 1 = dt 81 1 := (hF57 81 (by decide) 1).trans w33
  have w84 : dt55 81 2 = dt 81 2 := (hF57 81 (by decide) 2).trans w34
  have w85 : dt55 81 3 = dt 81 3 := (hF57 81 (by decide) 3).trans w35
  have w86 : dt55 81 4 = dt 81 4 := (hF57 81 (by decide) 4).trans w36
  have w87 : dt55 81 5 = dt 81 5 := (hF57 81 (by decide) 5).trans w37
  have w88 : dt55 79 2 = dt 79 2 := (hF57 79 (by decide) 2).trans w38
  have w89 : dt55 79 12 = dt 79 12 := (hF57 79 (by decide) 12).trans w39
  have w90 : dt55 79 19 = dt 79 19 := (hF57 79 (by decide) 19).trans w40
  have w91 : dt55 79 21 = dt 79 21 := (hF57 79 (by decide) 21).trans w41
  rcases h54 with ⟨v_h54, rfl, h54r, h54⟩
  have M292 : MW (dt55 81) := MW_frk M242 hF57 (by decide)
  have C93 : ∀ j : Nat, dt55 2 j = dt 2 j := fun j => (hF57 2 (by decide) j).trans (C43 j)
  have C94 : ∀ j : Nat, dt55 3 j = dt 3 j := fun j => (hF57 3 (by decide) j).trans (C44 j)
  have C95 : ∀ j : Nat, dt55 19 j = dt 19 j := fun j => (hF57 19 (by decide) j).trans (C45 j)
  have C96 : ∀ j : Nat, dt55 20 j = dt 20 j := fun j => (hF57 20 (by decide) j).trans (C46 j)
  have C97 : ∀ j : Nat, dt55 36 j = dt 36 j := fun j => (hF57 36 (by decide) j).trans (C47 j)
  have C98 : ∀ j : Nat, dt55 80 j = dt 80 j := fun j => (hF57 80 (by decide) j).trans (C48 j)
  have C99 : ∀ j : Nat, dt55 81 j = dt 81 j := fun j => (hF57 81 (by decide) j).trans (C49 j)
  have C100 : ∀ j : Nat, dt55 85 j = dt 85 j := fun j => (hF57 85 (by decide) j).trans (C50 j)
  refine go_toq PM267 (k := 2) (pc' := 1435) (L' := [some (.inr (.inr (some 3000))), some (.inr (.inr (some 0))), some (.inr (.inr (some 79))), some (.inl i)]) (st' := []) (w' := (SH, dt55)) rfl ?_
  exact K dt55 hI56 hM59 M292 (w60.trans (hk0.trans w76.symm)) (w61.trans (hk1.trans w77.symm)) (w62.trans (hk2.trans w78.symm)) (w63.trans (hk3.trans w79.symm)) (w64.trans (hk4.trans w80.symm)) (w65.trans (hk5.trans w81.symm)) (w66.trans (hk6.trans w82.symm)) (w67.trans (hk7.trans w83.symm)) (w68.trans (hk8.trans w84.symm)) (w69.trans (hk9.trans w85.symm)) (w70.trans (hk10.trans w86.symm)) (w71.trans (hk11.trans w87.symm)) (w72.trans (hk12.trans w88.symm)) (w73.trans (hk13.trans w89.symm)) (w74.trans (hk14.trans w90.symm)) (w75.trans (hk15.trans w91.symm)) (by first | exact hI | exact TPL_k hd0 C97 C100 (by omega) | (exfalso; omega)) (by first | exact hI | exact SCL_k hd1 hM (fun j _ => C93 j) (fun j _ => C94 j) (fun j _ _ => C98 j) | (exfalso; omega)) (by first | exact hI | exact SCL_k hd2 hM2 (fun j _ => C95 j) (fun j _ => C96 j) (fun j _ _ => C99 j) | (exfalso; omega))
set_option maxRecDepth 20000 in
set_option maxHeartbeats 8000000 in
theorem sp_case19 (L : Nat) (xs : Nat → Int32) (sio : Option Nat) (d : Nat) (Q : Option AV → am_W → Prop) (hLL : L ≤ 3072) (i : Int) (hi : 0 ≤ i ∧ i ≤ 3066) (hil : i ≤ (L : Int) - 6) (dt : Nat → Nat → Int) (hI : InvC dt) (hM : MW (dt 80)) (hM2 : MW (dt 81)) (hk0 : dt 1 0 = dt 80 0) (hk1 : dt 7 3 = dt 80 1) (hk2 : dt 10 3 = dt 80 2) (hk3 : dt 12 3 = dt 80 3) (hk4 : dt 14 3 = dt 80 4) (hk5 : dt 16 3 = dt 80 5) (hk6 : dt 18 0 = dt 81 0) (hk7 : dt 24 3 = dt 81 1) (hk8 : dt 27 3 = dt 81 2) (hk9 : dt 29 3 = dt 81 3) (hk10 : dt 31 3 = dt 81 4) (hk11 : dt 33 3 = dt 81 5) (hk12 : dt 0 2 = dt 79 2) (hk13 : dt 35 1 = dt 79 12) (hk14 : dt 35 2 = dt 79 19) (hk15 : dt 35 3 = dt 79 21) (hd0 : TPL (dt 36) (dt 85) (dt 35 1)) (hd1 : SCL (dt 2) (dt 3) (dt 80)) (hd2 : SCL (dt 19) (dt 20) (dt 81)) (K : ∀ (dt : Nat → Nat → Int) (hI : InvC dt) (hM : MW (dt 80)) (hM2 : MW (dt 81)) (hk0 : dt 1 0 = dt 80 0) (hk1 : dt 7 3 = dt 80 1) (hk2 : dt 10 3 = dt 80 2) (hk3 : dt 12 3 = dt 80 3) (hk4 : dt 14 3 = dt 80 4) (hk5 : dt 16 3 = dt 80 5) (hk6 : dt 18 0 = dt 81 0) (hk7 : dt 24 3 = dt 81 1) (hk8 : dt 27 3 = dt 81 2) (hk9 : dt 29 3 = dt 81 3) (hk10 : dt 31 3 = dt 81 4) (hk11 : dt 33 3 = dt 81 5) (hk12 : dt 0 2 = dt 79 2) (hk13 : dt 35 1 = dt 79 12) (hk14 : dt 35 2 = dt 79 19) (hk15 : dt 35 3 = dt 79 21) (hd0 : TPL (dt 36) (dt 85) (dt 35 1)) (hd1 : SCL (dt 2) (dt 3) (dt 80)) (hd2 : SCL (dt 19) (dt 20) (dt 81)), GO (am_XX L xs sio) (d + 39) 267 1435 [some (.inr (.inr (some 3000))), some (.inr (.inr (some 0))), some (.inr (.inr (some 79))), some (.inl i)] [] (SH, dt) Q) : GO (am_XX L xs sio) (d + 39) 267 987 [some (.inr (.inr (some 3000))), some (.inr (.inr (some 0))), some (.inr (.inr (some 79))), some (.inl i)] [] (SH, dt) Q := by
  have hF : Fr [0, 1, 2, 3, 4, 5, 6, 7, 8, 9, 10, 11, 12, 13, 14, 15, 16, 17, 18, 19, 20, 21, 22, 23, 24, 25, 26, 27, 28, 29, 30, 31, 32, 33, 34, 35, 36, 37, 38, 39, 40, 41, 42, 43, 44, 45, 46, 47, 48, 49, 50, 51, 52, 53, 54, 55, 56, 57, 58, 59, 60, 61, 62, 63, 64, 65, 66, 67, 68, 69, 70, 71, 72, 73, 74, 75, 76, 77, 78, 79, 80, 81, 82, 83, 84, 85, 86, 87, 88, 89, 90, 91, 92, 93, 94, 95, 96, 97, 98, 99, 100, 101, 102, 103, 104] dt dt := Fr_refl
  refine go_toq PM267 (k := 5) (pc' := 992) (L' := [some (.inr (.inr (some 3000))), some (.inr (.inr (some 0))), some (.inr (.inr (some 79))), some (.inl i)]) (st' := [.inl (i + 1), .inr (.inr (some 3000)), .inr (.inr (some 0))]) (w' := (SH, dt)) rfl ?_
  have r1 := i32_R (xs ((i + 1).toNat))
  refine go_smpq PM267 (L' := [some (.inr (.inr (some 3000))), some (.inr (.inr (some 0))), some (.inr (.inr (some 79))), some (.inl i)]) (st' := [.inl ((xs ((i + 1).toNat)).toInt), .inr (.inr (some 0))]) (w' := (SH, dt)) rfl rfl (s_iald (n := L) (f := fun j => (xs j).toInt) (am_scr hLL) ⟨by omega, by omega⟩) ?_
  refine go_toq PM267 (k := 4) (pc' := 997) (L' := [some (.inr (.inr (some 3000))), some (.inr (.inr (some 0))), some (.inr (.inr (some 79))), some (.inl i)]) (st' := [.inl (i + 2), .inr (.inr (some 3000)), .inl ((xs ((i + 1).toNat)).toInt), .inr (.inr (some 0))]) (w' := (SH, dt)) rfl ?_
  have r2 := i32_R (xs ((i + 2).toNat))
  refine go_smpq PM267 (L' := [some (.inr (.inr (some 3000))), some (.inr (.inr (some 0))), some (.inr (.inr (some 79))), some (.inl i)]) (st' := [.inl ((xs ((i + 2).toNat)).toInt), .inl ((xs ((i + 1).toNat)).toInt), .inr (.inr (some 0))]) (w' := (SH, dt)) rfl rfl (s_iald (n := L) (f := fun j => (xs j).toInt) (am_scr hLL) ⟨by omega, by omega⟩) ?_
  refine go_callq PM267 PM86 (Q' := _) rfl rfl rfl rfl (sp_X5_odds L xs sio (d + 34) dt hI  ((xs ((i + 1).toNat)).toInt) ⟨by omega, by omega⟩ ((xs ((i + 2).toNat)).toInt) ⟨by omega, by omega⟩ ) ?_
  rintro _ _ ⟨dt4, rfl, hI5, hF6, h3⟩
  refine ⟨rfl, ?_⟩
  have hF7 : Fr [0, 1, 2, 3, 4, 5, 6, 7, 8, 9, 10, 11, 12, 13, 14, 15, 16, 17, 18, 19, 20, 21, 22, 23, 24, 25, 26, 27, 28, 29, 30, 31, 32, 33, 34, 35, 36, 37, 38, 39, 40, 41, 42, 43, 44, 45, 46, 47, 48, 49, 50, 51, 52, 53, 54, 55, 56, 57, 58, 59, 60, 61, 62, 63, 64, 65, 66, 67, 68, 69, 70, 71, 72, 73, 74, 75, 76, 77, 78, 79, 80, 81, 82, 83, 84, 85, 86, 87, 88, 89, 90, 91, 92, 93, 94, 95, 96, 97, 98, 99, 100, 101, 102, 103, 104] dt dt4 := Fr_tr hF hF6 (by decide)
  have hM8 : MW (dt4 80) := MW_fr hM hF6 (by decide)
  have w9 : dt4 1 0 = dt 1 0 := hF6 1 (by decide) 0
  have w10 : dt4 7 3 = dt 7 3 := hF6 7 (by decide) 3
  have w11 : dt4 10 3 = dt 10 3 := hF6 10 (by decide) 3
  have w12 : dt4 12 3 = dt 12 3 := hF6 12 (by decide) 3
  have w13 : dt4 14 3 = dt 14 3 := hF6 14 (by decide) 3
  have w14 : dt4 16 3 = dt 16 3 := hF6 16 (by decide) 3
  have w15 : dt4 18 0 = dt 18 0 := hF6 18 (by decide) 0
  have w16 : dt4 24 3 = dt 24 3 := hF6 24 (by decide) 3
  have w17 : dt4 27 3 = dt 27 3 := hF6 27 (by decide) 3
  have w18 : dt4 29 3 = dt 29 3 := hF6 29 (by decide) 3
  have w19 : dt4 31 3 = dt 31 3 := hF6 31 (by decide) 3
  have w20 : dt4 33 3 = dt 33 3 := hF6 33 (by decide) 3
  have w21 : dt4 0 2 = dt 0 2 := hF6 0 (by decide) 2
  have w22 : dt4 35 1 = dt 35 1 := hF6 35 (by decide) 1
  have w23 : dt4 35 2 = dt 35 2 := hF6 35 (by decide) 2
  have w24 : dt4 35 3 = dt 35 3 := hF6 35 (by decide) 3
  have w25 : dt4 80 0 = dt 80 0 := hF6 80 (by decide) 0
  have w26 : dt4 80 1 = dt 80 1 := hF6 80 (by decide) 1
  have w27 : dt4 80 2 = dt 80 2 := hF6 80 (by decide) 2
  have w28 : dt4 80 3 = dt 80 3 := hF6 80 (by decide) 3
  have w29 : dt4 80 4 = dt 80 4 := hF6 80 (by decide) 4
  have w30 : dt4 80 5 = dt 80 5 := hF6 80 (by decide) 5
  have w31 : dt4 81 0 = dt 81 0 := hF6 81 (by decide) 0
  have w32 : dt4 81 1 = dt 81 1 := hF6 81 (by decide) 1
  have w33 : dt4 81 2 = dt 81 2 := hF6 81 (by decide) 2
  have w34 : dt4 81 3 = dt 81 3 := hF6 81 (by decide) 3
  have w35 : dt4 81 4 = dt 81 4 := hF6 81 (by decide) 4
  have w36 : dt4 81 5 = dt 81 5 := hF6 81 (by decide) 5
  have w37 : dt4 79 2 = dt 79 2 := hF6 79 (by decide) 2
  have w38 : dt4 79 12 = dt 79 12 := hF6 79 (by decide) 12
  have w39 : dt4 79 19 = dt 79 19 := hF6 79 (by decide) 19
  have w40 : dt4 79 21 = dt 79 21 := hF6 79 (by decide) 21
  rcases h3 with ⟨v_h3, rfl, h3r, h3⟩
  have M241 : MW (dt4 81) := MW_frk hM2 hF6 (by decide)
  have C42 : ∀ j : Nat, dt4 2 j = dt 2 j := fun j => (hF6 2 (by decide) j).trans ((fun _ => rfl) j)
  have C43 : ∀ j : Nat, dt4 3 j = dt 3 j := fun j => (hF6 3 (by decide) j).trans ((fun _ => rfl) j)
  have C44 : ∀ j : Nat, dt4 19 j = dt 19 j := fun j => (hF6 19 (by decide) j).trans ((fun _ => rfl) j)
  have C45 : ∀ j : Nat, dt4 20 j = dt 20 j := fun j => (hF6 20 (by decide) j).trans ((fun _ => rfl) j)
  have C46 : ∀ j : Nat, dt4 36 j = dt 36 j := fun j => (hF6 36 (by decide) j).trans ((fun _ => rfl) j)
  have C47 : ∀ j : Nat, dt4 80 j = dt 80 j := fun j => (hF6 80 (by decide) j).trans ((fun _ => rfl) j)
  have C48 : ∀ j : Nat, dt4 81 j = dt 81 j := fun j => (hF6 81 (by decide) j).trans ((fun _ => rfl) j)
  have C49 : ∀ j : Nat, dt4 85 j = dt 85 j := fun j => (hF6 85 (by decide) j).trans ((fun _ => rfl) j)
  refine go_toq PM267 (k := 6) (pc' := 1007) (L' := [some (.inr (.inr (some 3000))), some (.inr (.inr (some 0))), some (.inr (.inr (some 79))), some (.inl i)]) (st' := [.inl (i + 1), .inr (.inr (some 3000)), .inr (.inr (some 79))]) (w' := (SH, dt4)) rfl ?_
  have r50 := i32_R (xs ((i + 1).toNat))
  refine go_smpq PM267 (L' := [some (.inr (.inr (some 3000))), some (.inr (.inr (some 0))), some (.inr (.inr (some 79))), some (.inl i)]) (st' := [.inl ((xs ((i + 1).toNat)).toInt), .inr (.inr (some 79))]) (w' := (SH, dt4)) rfl rfl (s_iald (n := L) (f := fun j => (xs j).toInt) (am_scr hLL) ⟨by omega, by omega⟩) ?_
  refine go_toq PM267 (k := 4) (pc' := 1012) (L' := [some (.inr (.inr (some 3000))), some (.inr (.inr (some 0))), some (.inr (.inr (some 79))), some (.inl i)]) (st' := [.inl (i + 2), .inr (.inr (some 3000)), .inl ((xs ((i + 1).toNat)).toInt), .inr (.inr (some 79))]) (w' := (SH, dt4)) rfl ?_
  have r51 := i32_R (xs ((i + 2).toNat))
  refine go_smpq PM267 (L' := [some (.inr (.inr (some 3000))), some (.inr (.inr (some 0))), some (.inr (.inr (some 79))), some (.inl i)]) (st' := [.inl ((xs ((i + 2).toNat)).toInt), .inl ((xs ((i + 1).toNat)).toInt), .inr (.inr (some 79))]) (w' := (SH, dt4)) rfl rfl (s_iald (n := L) (f := fun j => (xs j).toInt) (am_scr hLL) ⟨by omega, by omega⟩) ?_
  refine go_callq PM267 PM227 (Q' := _) rfl rfl rfl rfl (sp_X6_odds L xs sio (d + 31) dt4 hI5 hM8  ((xs ((i + 1).toNat)).toInt) ⟨by omega, by omega⟩ ((xs ((i + 2).toNat)).toInt) ⟨by omega, by omega⟩ ) ?_
  rintro _ _ ⟨dt53, rfl, hI54, hF55, h52⟩
  refine ⟨rfl, ?_⟩
  have hF56 : Fr [0, 1, 2, 3, 4, 5, 6, 7, 8, 9, 10, 11, 12, 13, 14, 15, 16, 17, 18, 19, 20, 21, 22, 23, 24, 25, 26, 27, 28, 29, 30, 31, 32, 33, 34, 35, 36, 37, 38, 39, 40, 41, 42, 43, 44, 45, 46, 47, 48, 49, 50, 51, 52, 53, 54, 55, 56, 57, 58, 59, 60, 61, 62, 63, 64, 65, 66, 67, 68, 69, 70, 71, 72, 73, 74, 75, 76, 77, 78, 79, 80, 81, 82, 83, 84, 85, 86, 87, 88, 89, 90, 91, 92, 93, 94, 95, 96, 97, 98, 99, 100, 101, 102, 103, 104] dt dt53 := Fr_tr hF7 hF55 (by decide)
  have hM57 : MW (dt53 80) := MW_fr hM8 hF55 (by decide)
  have w58 : dt53 1 0 = dt 1 0 := (hF55 1 (by decide) 0).trans w9
  have w59 : dt53 7 3 = dt 7 3 := (hF55 7 (by decide) 3).trans w10
  have w60 : dt53 10 3 = dt 10 3 := (hF55 10 (by decide) 3).trans w11
  have w61 : dt53 12 3 = dt 12 3 := (hF55 12 (by decide) 3).trans w12
  have w62 : dt53 14 3 = dt 14 3 := (hF55 14 (by decide) 3).trans w13
  have w63 : dt53 16 3 = dt 16 3 := (hF55 16 (by decide) 3).trans w14
  have w64 : dt53 18 0 = dt 18 0 := (hF55 18 (by decide) 0).trans w15
  have w65 : dt53 24 3 = dt 24 3 := (hF55 24 (by decide) 3).trans w16
  have w66 : dt53 27 3 = dt 27 3 := (hF55 27 (by decide) 3).trans w17
  have w67 : dt53 29 3 = dt 29 3 := (hF55 29 (by decide) 3).trans w18
  have w68 : dt53 31 3 = dt 31 3 := (hF55 31 (by decide) 3).trans w19
  have w69 : dt53 33 3 = dt 33 3 := (hF55 33 (by decide) 3).trans w20
  have w70 : dt53 0 2 = dt 0 2 := (hF55 0 (by decide) 2).trans w21
  have w71 : dt53 35 1 = dt 35 1 := (hF55 35 (by decide) 1).trans w22
  have w72 : dt53 35 2 = dt 35 2 := (hF55 35 (by decide) 2).trans w23
  have w73 : dt53 35 3 = dt 35 3 := (hF55 35 (by decide) 3).trans w24
  have w74 : dt53 80 0 = dt 80 0 := (hF55 80 (by decide) 0).trans w25
  have w75 : dt53 80 1 = dt 80 1 := (hF55 80 (by decide) 1).trans w26
  have w76 : dt53 80 2 = dt 80 2 := (hF55 80 (by decide) 2).trans w27
  have w77 : dt53 80 3 = dt 80 3 := (hF55 80 (by decide) 3).trans w28
  have w78 : dt53 80 4 = dt 80 4 := (hF55 80 (by decide) 4).trans w29
  have w79 : dt53 80 5 = dt 80 5 := (hF55 80 (by decide) 5).trans w30
  have w80 : dt53 81 0 = dt 81 0 := (hF55 81 (by decide) 0).trans w31
  have w81 : dt53 81 1 = dt 81 1 := (hF55 81 (by decide) 1).trans w32
  have w82 : dt53 81 2 = dt 81 2 := (hF55 81 (by decide) 2).trans w33
  have w83 : dt53 81 3 = dt 81 3 := (hF55 81 (by decide) 3).trans w34
  have w84 : dt53 81 4 = dt 81 4 := (hF55 81 (by decide) 4).trans w35
  have w85 : dt53 81 5 = dt 81 5 := (hF55 81 (by decide) 5).trans w36
  have w86 : dt53 79 2 = dt 79 2 := (hF55 79 (by decide) 2).trans w37
  have w87 : dt53 79 12 = dt 79 12 := (hF55 79 (by decide) 12).trans w38
  have w88 : dt53 79 19 = dt 79 19 := (hF55 79 (by decide) 19).trans w39
  have w89 : dt53 79 21 = dt 79 21 := (hF55 79 (by decide) 21).trans w40
  rcases h52 with ⟨v_h52, rfl, h52r, h52⟩
  have M290 : MW (dt53 81) := MW_frk M241 hF55 (by decide)
  have C91 : ∀ j : Nat, dt53 2 j = dt 2 j := fun j => (hF55 2 (by decide) j).trans (C42 j)
  have C92 : ∀ j : Nat, dt53 3 j = dt 3 j := fun j => (hF55 3 (by decide) j).trans (C43 j)
  have C93 : ∀ j : Nat, dt53 19 j = dt 19 j := fun j => (hF55 19 (by decide) j).trans (C44 j)
  have C94 : ∀ j : Nat, dt53 20 j = dt 20 j := fun j => (hF55 20 (by decide) j).trans (C45 j)
  have C95 : ∀ j : Nat, dt53 36 j = dt 36 j := fun j => (hF55 36 (by decide) j).trans (C46 j)
  have C96 : ∀ j : Nat, dt53 80 j = dt 80 j := fun j => (hF55 80 (by decide) j).trans (C47 j)
  have C97 : ∀ j : Nat, dt53 81 j = dt 81 j := fun j => (hF55 81 (by decide) j).trans (C48 j)
  have C98 : ∀ j : Nat, dt53 85 j = dt 85 j := fun j => (hF55 85 (by decide) j).trans (C49 j)
  refine go_toq PM267 (k := 2) (pc' := 1435) (L' := [some (.inr (.inr (some 3000))), some (.inr (.inr (some 0))), some (.inr (.inr (some 79))), some (.inl i)]) (st' := []) (w' := (SH, dt53)) rfl ?_
  exact K dt53 hI54 hM57 M290 (w58.trans (hk0.trans w74.symm)) (w59.trans (hk1.trans w75.symm)) (w60.trans (hk2.trans w76.symm)) (w61.trans (hk3.trans w77.symm)) (w62.trans (hk4.trans w78.symm)) (w63.trans (hk5.trans w79.symm)) (w64.trans (hk6.trans w80.symm)) (w65.trans (hk7.trans w81.symm)) (w66.trans (hk8.trans w82.symm)) (w67.trans (hk9.trans w83.symm)) (w68.trans (hk10.trans w84.symm)) (w69.trans (hk11.trans w85.symm)) (w70.trans (hk12.trans w86.symm)) (w71.trans (hk13.trans w87.symm)) (w72.trans (hk14.trans w88.symm)) (w73.trans (hk15.trans w89.symm)) (by first | exact hI | exact TPL_k hd0 C95 C98 (by omega) | (exfalso; omega)) (by first | exact hI | exact SCL_k hd1 hM (fun j _ => C91 j) (fun j _ => C92 j) (fun j _ _ => C96 j) | (exfalso; omega)) (by first | exact hI | exact SCL_k hd2 hM2 (fun j _ => C93 j) (fun j _ => C94 j) (fun j _ _ => C97 j) | (exfalso; omega))
set_option maxRecDepth 20000 in
set_option maxHeartbeats 8000000 in
theorem sp_case20 (L : Nat) (xs : Nat → Int32) (sio : Option Nat) (d : Nat) (Q : Option AV → am_W → Prop) (hLL : L ≤ 3072) (i : Int) (hi : 0 ≤ i ∧ i ≤ 3066) (hil : i ≤ (L : Int) - 6) (dt : Nat → Nat → Int) (hI : InvC dt) (hM : MW (dt 80)) (hM2 : MW (dt 81)) (hk0 : dt 1 0 = dt 80 0) (hk1 : dt 7 3 = dt 80 1) (hk2 : dt 10 3 = dt 80 2) (hk3 : dt 12 3 = dt 80 3) (hk4 : dt 14 3 = dt 80 4) (hk5 : dt 16 3 = dt 80 5) (hk6 : dt 18 0 = dt 81 0) (hk7 : dt 24 3 = dt 81 1) (hk8 : dt 27 3 = dt 81 2) (hk9 : dt 29 3 = dt 81 3) (hk10 : dt 31 3 = dt 81 4) (hk11 : dt 33 3 = dt 81 5) (hk12 : dt 0 2 = dt 79 2) (hk13 : dt 35 1 = dt 79 12) (hk14 : dt 35 2 = dt 79 19) (hk15 : dt 35 3 = dt 79 21) (hd0 : TPL (dt 36) (dt 85) (dt 35 1)) (hd1 : SCL (dt 2) (dt 3) (dt 80)) (hd2 : SCL (dt 19) (dt 20) (dt 81)) (K : ∀ (dt : Nat → Nat → Int) (hI : InvC dt) (hM : MW (dt 80)) (hM2 : MW (dt 81)) (hk0 : dt 1 0 = dt 80 0) (hk1 : dt 7 3 = dt 80 1) (hk2 : dt 10 3 = dt 80 2) (hk3 : dt 12 3 = dt 80 3) (hk4 : dt 14 3 = dt 80 4) (hk5 : dt 16 3 = dt 80 5) (hk6 : dt 18 0 = dt 81 0) (hk7 : dt 24 3 = dt 81 1) (hk8 : dt 27 3 = dt 81 2) (hk9 : dt 29 3 = dt 81 3) (hk10 : dt 31 3 = dt 81 4) (hk11 : dt 33 3 = dt 81 5) (hk12 : dt 0 2 = dt 79 2) (hk13 : dt 35 1 = dt 79 12) (hk14 : dt 35 2 = dt 79 19) (hk15 : dt 35 3 = dt 79 21) (hd0 : TPL (dt 36) (dt 85) (dt 35 1)) (hd1 : SCL (dt 2) (dt 3) (dt 80)) (hd2 : SCL (dt 19) (dt 20) (dt 81)), GO (am_XX L xs sio) (d + 39) 267 1435 [some (.inr (.inr (some 3000))), some (.inr (.inr (some 0))), some (.inr (.inr (some 79))), some (.inl i)] [] (SH, dt) Q) : GO (am_XX L xs sio) (d + 39) 267 1020 [some (.inr (.inr (some 3000))), some (.inr (.inr (some 0))), some (.inr (.inr (some 79))), some (.inl i)] [] (SH, dt) Q := by
  have hF : Fr [0, 1, 2, 3, 4, 5, 6, 7, 8, 9, 10, 11, 12, 13, 14, 15, 16, 17, 18, 19, 20, 21, 22, 23, 24, 25, 26, 27, 28, 29, 30, 31, 32, 33, 34, 35, 36, 37, 38, 39, 40, 41, 42, 43, 44, 45, 46, 47, 48, 49, 50, 51, 52, 53, 54, 55, 56, 57, 58, 59, 60, 61, 62, 63, 64, 65, 66, 67, 68, 69, 70, 71, 72, 73, 74, 75, 76, 77, 78, 79, 80, 81, 82, 83, 84, 85, 86, 87, 88, 89, 90, 91, 92, 93, 94, 95, 96, 97, 98, 99, 100, 101, 102, 103, 104] dt dt := Fr_refl
  refine go_toq PM267 (k := 5) (pc' := 1025) (L' := [some (.inr (.inr (some 3000))), some (.inr (.inr (some 0))), some (.inr (.inr (some 79))), some (.inl i)]) (st' := [.inl (i + 1), .inr (.inr (some 3000)), .inr (.inr (some 0))]) (w' := (SH, dt)) rfl ?_
  have r1 := i32_R (xs ((i + 1).toNat))
  refine go_smpq PM267 (L' := [some (.inr (.inr (some 3000))), some (.inr (.inr (some 0))), some (.inr (.inr (some 79))), some (.inl i)]) (st' := [.inl ((xs ((i + 1).toNat)).toInt), .inr (.inr (some 0))]) (w' := (SH, dt)) rfl rfl (s_iald (n := L) (f := fun j => (xs j).toInt) (am_scr hLL) ⟨by omega, by omega⟩) ?_
  refine go_toq PM267 (k := 4) (pc' := 1030) (L' := [some (.inr (.inr (some 3000))), some (.inr (.inr (some 0))), some (.inr (.inr (some 79))), some (.inl i)]) (st' := [.inl (i + 2), .inr (.inr (some 3000)), .inl ((xs ((i + 1).toNat)).toInt), .inr (.inr (some 0))]) (w' := (SH, dt)) rfl ?_
  have r2 := i32_R (xs ((i + 2).toNat))
  refine go_smpq PM267 (L' := [some (.inr (.inr (some 3000))), some (.inr (.inr (some 0))), some (.inr (.inr (some 79))), some (.inl i)]) (st' := [.inl ((xs ((i + 2).toNat)).toInt), .inl ((xs ((i + 1).toNat)).toInt), .inr (.inr (some 0))]) (w' := (SH, dt)) rfl rfl (s_iald (n := L) (f := fun j => (xs j).toInt) (am_scr hLL) ⟨by omega, by omega⟩) ?_
  refine go_callq PM267 PM87 (Q' := _) rfl rfl rfl rfl (sp_X5_need L xs sio (d + 35) dt hI  ((xs ((i + 1).toNat)).toInt) ⟨by omega, by omega⟩ ((xs ((i + 2).toNat)).toInt) ⟨by omega, by omega⟩ ) ?_
  rintro _ _ ⟨dt4, rfl, hI5, hF6, h3⟩
  refine ⟨rfl, ?_⟩
  have hF7 : Fr [0, 1, 2, 3, 4, 5, 6, 7, 8, 9, 10, 11, 12, 13, 14, 15, 16, 17, 18, 19, 20, 21, 22, 23, 24, 25, 26, 27, 28, 29, 30, 31, 32, 33, 34, 35, 36, 37, 38, 39, 40, 41, 42, 43, 44, 45, 46, 47, 48, 49, 50, 51, 52, 53, 54, 55, 56, 57, 58, 59, 60, 61, 62, 63, 64, 65, 66, 67, 68, 69, 70, 71, 72, 73, 74, 75, 76, 77, 78, 79, 80, 81, 82, 83, 84, 85, 86, 87, 88, 89, 90, 91, 92, 93, 94, 95, 96, 97, 98, 99, 100, 101, 102, 103, 104] dt dt4 := Fr_tr hF hF6 (by decide)
  have hM8 : MW (dt4 80) := MW_fr hM hF6 (by decide)
  have w9 : dt4 1 0 = dt 1 0 := hF6 1 (by decide) 0
  have w10 : dt4 7 3 = dt 7 3 := hF6 7 (by decide) 3
  have w11 : dt4 10 3 = dt 10 3 := hF6 10 (by decide) 3
  have w12 : dt4 12 3 = dt 12 3 := hF6 12 (by decide) 3
  have w13 : dt4 14 3 = dt 14 3 := hF6 14 (by decide) 3
  have w14 : dt4 16 3 = dt 16 3 := hF6 16 (by decide) 3
  have w15 : dt4 18 0 = dt 18 0 := hF6 18 (by decide) 0
  have w16 : dt4 24 3 = dt 24 3 := hF6 24 (by decide) 3
  have w17 : dt4 27 3 = dt 27 3 := hF6 27 (by decide) 3
  have w18 : dt4 29 3 = dt 29 3 := hF6 29 (by decide) 3
  have w19 : dt4 31 3 = dt 31 3 := hF6 31 (by decide) 3
  have w20 : dt4 33 3 = dt 33 3 := hF6 33 (by decide) 3
  have w21 : dt4 0 2 = dt 0 2 := hF6 0 (by decide) 2
  have w22 : dt4 35 1 = dt 35 1 := hF6 35 (by decide) 1
  have w23 : dt4 35 2 = dt 35 2 := hF6 35 (by decide) 2
  have w24 : dt4 35 3 = dt 35 3 := hF6 35 (by decide) 3
  have w25 : dt4 80 0 = dt 80 0 := hF6 80 (by decide) 0
  have w26 : dt4 80 1 = dt 80 1 := hF6 80 (by decide) 1
  have w27 : dt4 80 2 = dt 80 2 := hF6 80 (by decide) 2
  have w28 : dt4 80 3 = dt 80 3 := hF6 80 (by decide) 3
  have w29 : dt4 80 4 = dt 80 4 := hF6 80 (by decide) 4
  have w30 : dt4 80 5 = dt 80 5 := hF6 80 (by decide) 5
  have w31 : dt4 81 0 = dt 81 0 := hF6 81 (by decide) 0
  have w32 : dt4 81 1 = dt 81 1 := hF6 81 (by decide) 1
  have w33 : dt4 81 2 = dt 81 2 := hF6 81 (by decide) 2
  have w34 : dt4 81 3 = dt 81 3 := hF6 81 (by decide) 3
  have w35 : dt4 81 4 = dt 81 4 := hF6 81 (by decide) 4
  have w36 : dt4 81 5 = dt 81 5 := hF6 81 (by decide) 5
  have w37 : dt4 79 2 = dt 79 2 := hF6 79 (by decide) 2
  have w38 : dt4 79 12 = dt 79 12 := hF6 79 (by decide) 12
  have w39 : dt4 79 19 = dt 79 19 := hF6 79 (by decide) 19
  have w40 : dt4 79 21 = dt 79 21 := hF6 79 (by decide) 21
  rcases h3 with ⟨v_h3, rfl, h3r, h3⟩
  have M241 : MW (dt4 81) := MW_frk hM2 hF6 (by decide)
  have C42 : ∀ j : Nat, dt4 2 j = dt 2 j := fun j => (hF6 2 (by decide) j).trans ((fun _ => rfl) j)
  have C43 : ∀ j : Nat, dt4 3 j = dt 3 j := fun j => (hF6 3 (by decide) j).trans ((fun _ => rfl) j)
  have C44 : ∀ j : Nat, dt4 19 j = dt 19 j := fun j => (hF6 19 (by decide) j).trans ((fun _ => rfl) j)
  have C45 : ∀ j : Nat, dt4 20 j = dt 20 j := fun j => (hF6 20 (by decide) j).trans ((fun _ => rfl) j)
  have C46 : ∀ j : Nat, dt4 36 j = dt 36 j := fun j => (hF6 36 (by decide) j).trans ((fun _ => rfl) j)
  have C47 : ∀ j : Nat, dt4 80 j = dt 80 j := fun j => (hF6 80 (by decide) j).trans ((fun _ => rfl) j)
  have C48 : ∀ j : Nat, dt4 81 j = dt 81 j := fun j => (hF6 81 (by decide) j).trans ((fun _ => rfl) j)
  have C49 : ∀ j : Nat, dt4 85 j = dt 85 j := fun j => (hF6 85 (by decide) j).trans ((fun _ => rfl) j)
  refine go_toq PM267 (k := 6) (pc' := 1040) (L' := [some (.inr (.inr (some 3000))), some (.inr (.inr (some 0))), some (.inr (.inr (some 79))), some (.inl i)]) (st' := [.inl (i + 1), .inr (.inr (some 3000)), .inr (.inr (some 79))]) (w' := (SH, dt4)) rfl ?_
  have r50 := i32_R (xs ((i + 1).toNat))
  refine go_smpq PM267 (L' := [some (.inr (.inr (some 3000))), some (.inr (.inr (some 0))), some (.inr (.inr (some 79))), some (.inl i)]) (st' := [.inl ((xs ((i + 1).toNat)).toInt), .inr (.inr (some 79))]) (w' := (SH, dt4)) rfl rfl (s_iald (n := L) (f := fun j => (xs j).toInt) (am_scr hLL) ⟨by omega, by omega⟩) ?_
  refine go_toq PM267 (k := 4) (pc' := 1045) (L' := [some (.inr (.inr (some 3000))), some (.inr (.inr (some 0))), some (.inr (.inr (some 79))), some (.inl i)]) (st' := [.inl (i + 2), .inr (.inr (some 3000)), .inl ((xs ((i + 1).toNat)).toInt), .inr (.inr (some 79))]) (w' := (SH, dt4)) rfl ?_
  have r51 := i32_R (xs ((i + 2).toNat))
  refine go_smpq PM267 (L' := [some (.inr (.inr (some 3000))), some (.inr (.inr (some 0))), some (.inr (.inr (some 79))), some (.inl i)]) (st' := [.inl ((xs ((i + 2).toNat)).toInt), .inl ((xs ((i + 1).toNat)).toInt), .inr (.inr (some 79))]) (w' := (SH, dt4)) rfl rfl (s_iald (n := L) (f := fun j => (xs j).toInt) (am_scr hLL) ⟨by omega, by omega⟩) ?_
  refine go_callq PM267 PM228 (Q' := _) rfl rfl rfl rfl (sp_X6_need L xs sio (d + 33) dt4 hI5 hM8  ((xs ((i + 1).toNat)).toInt) ⟨by omega, by omega⟩ ((xs ((i + 2).toNat)).toInt) ⟨by omega, by omega⟩ ) ?_
  rintro _ _ ⟨dt53, rfl, hI54, hF55, h52⟩
  refine ⟨rfl, ?_⟩
  have hF56 : Fr [0, 1, 2, 3, 4, 5, 6, 7, 8, 9, 10, 11, 12, 13, 14, 15, 16, 17, 18, 19, 20, 21, 22, 23, 24, 25, 26, 27, 28, 29, 30, 31, 32, 33, 34, 35, 36, 37, 38, 39, 40, 41, 42, 43, 44, 45, 46, 47, 48, 49, 50, 51, 52, 53, 54, 55, 56, 57, 58, 59, 60, 61, 62, 63, 64, 65, 66, 67, 68, 69, 70, 71, 72, 73, 74, 75, 76, 77, 78, 79, 80, 81, 82, 83, 84, 85, 86, 87, 88, 89, 90, 91, 92, 93, 94, 95, 96, 97, 98, 99, 100, 101, 102, 103, 104] dt dt53 := Fr_tr hF7 hF55 (by decide)
  have hM57 : MW (dt53 80) := MW_fr hM8 hF55 (by decide)
  have w58 : dt53 1 0 = dt 1 0 := (hF55 1 (by decide) 0).trans w9
  have w59 : dt53 7 3 = dt 7 3 := (hF55 7 (by decide) 3).trans w10
  have w60 : dt53 10 3 = dt 10 3 := (hF55 10 (by decide) 3).trans w11
  have w61 : dt53 12 3 = dt 12 3 := (hF55 12 (by decide) 3).trans w12
  have w62 : dt53 14 3 = dt 14 3 := (hF55 14 (by decide) 3).trans w13
  have w63 : dt53 16 3 = dt 16 3 := (hF55 16 (by decide) 3).trans w14
  have w64 : dt53 18 0 = dt 18 0 := (hF55 18 (by decide) 0).trans w15
  have w65 : dt53 24 3 = dt 24 3 := (hF55 24 (by decide) 3).trans w16
  have w66 : dt53 27 3 = dt 27 3 := (hF55 27 (by decide) 3).trans w17
  have w67 : dt53 29 3 = dt 29 3 := (hF55 29 (by decide) 3).trans w18
  have w68 : dt53 31 3 = dt 31 3 := (hF55 31 (by decide) 3).trans w19
  have w69 : dt53 33 3 = dt 33 3 := (hF55 33 (by decide) 3).trans w20
  have w70 : dt53 0 2 = dt 0 2 := (hF55 0 (by decide) 2).trans w21
  have w71 : dt53 35 1 = dt 35 1 := (hF55 35 (by decide) 1).trans w22
  have w72 : dt53 35 2 = dt 35 2 := (hF55 35 (by decide) 2).trans w23
  have w73 : dt53 35 3 = dt 35 3 := (hF55 35 (by decide) 3).trans w24
  have w74 : dt53 80 0 = dt 80 0 := (hF55 80 (by decide) 0).trans w25
  have w75 : dt53 80 1 = dt 80 1 := (hF55 80 (by decide) 1).trans w26
  have w76 : dt53 80 2 = dt 80 2 := (hF55 80 (by decide) 2).trans w27
  have w77 : dt53 80 3 = dt 80 3 := (hF55 80 (by decide) 3).trans w28
  have w78 : dt53 80 4 = dt 80 4 := (hF55 80 (by decide) 4).trans w29
  have w79 : dt53 80 5 = dt 80 5 := (hF55 80 (by decide) 5).trans w30
  have w80 : dt53 81 0 = dt 81 0 := (hF55 81 (by decide) 0).trans w31
  have w81 : dt53 81 1 = dt 81 1 := (hF55 81 (by decide) 1).trans w32
  have w82 : dt53 81 2 = dt 81 2 := (hF55 81 (by decide) 2).trans w33
  have w83 : dt53 81 3 = dt 81 3 := (hF55 81 (by decide) 3).trans w34
  have w84 : dt53 81 4 = dt 81 4 := (hF55 81 (by decide) 4).trans w35
  have w85 : dt53 81 5 = dt 81 5 := (hF55 81 (by decide) 5).trans w36
  have w86 : dt53 79 2 = dt 79 2 := (hF55 79 (by decide) 2).trans w37
  have w87 : dt53 79 12 = dt 79 12 := (hF55 79 (by decide) 12).trans w38
  have w88 : dt53 79 19 = dt 79 19 := (hF55 79 (by decide) 19).trans w39
  have w89 : dt53 79 21 = dt 79 21 := (hF55 79 (by decide) 21).trans w40
  rcases h52 with ⟨v_h52, rfl, h52r, h52⟩
  have M290 : MW (dt53 81) := MW_frk M241 hF55 (by decide)
  have C91 : ∀ j : Nat, dt53 2 j = dt 2 j := fun j => (hF55 2 (by decide) j).trans (C42 j)
  have C92 : ∀ j : Nat, dt53 3 j = dt 3 j := fun j => (hF55 3 (by decide) j).trans (C43 j)
  have C93 : ∀ j : Nat, dt53 19 j = dt 19 j := fun j => (hF55 19 (by decide) j).trans (C44 j)
  have C94 : ∀ j : Nat, dt53 20 j = dt 20 j := fun j => (hF55 20 (by decide) j).trans (C45 j)
  have C95 : ∀ j : Nat, dt53 36 j = dt 36 j := fun j => (hF55 36 (by decide) j).trans (C46 j)
  have C96 : ∀ j : Nat, dt53 80 j = dt 80 j := fun j => (hF55 80 (by decide) j).trans (C47 j)
  have C97 : ∀ j : Nat, dt53 81 j = dt 81 j := fun j => (hF55 81 (by decide) j).trans (C48 j)
  have C98 : ∀ j : Nat, dt53 85 j = dt 85 j := fun j => (hF55 85 (by decide) j).trans (C49 j)
  refine go_toq PM267 (k := 2) (pc' := 1435) (L' := [some (.inr (.inr (some 3000))), some (.inr (.inr (some 0))), some (.inr (.inr (some 79))), some (.inl i)]) (st' := []) (w' := (SH, dt53)) rfl ?_
  exact K dt53 hI54 hM57 M290 (w58.trans (hk0.trans w74.symm)) (w59.trans (hk1.trans w75.symm)) (w60.trans (hk2.trans w76.symm)) (w61.trans (hk3.trans w77.symm)) (w62.trans (hk4.trans w78.symm)) (w63.trans (hk5.trans w79.symm)) (w64.trans (hk6.trans w80.symm)) (w65.trans (hk7.trans w81.symm)) (w66.trans (hk8.trans w82.symm)) (w67.trans (hk9.trans w83.symm)) (w68.trans (hk10.trans w84.symm)) (w69.trans (hk11.trans w85.symm)) (w70.trans (hk12.trans w86.symm)) (w71.trans (hk13.trans w87.symm)) (w72.trans (hk14.trans w88.symm)) (w73.trans (hk15.trans w89.symm)) (by first | exact hI | exact TPL_k hd0 C95 C98 (by omega) | (exfalso; omega)) (by first | exact hI | exact SCL_k hd1 hM (fun j _ => C91 j) (fun j _ => C92 j) (fun j _ _ => C96 j) | (exfalso; omega)) (by first | exact hI | exact SCL_k hd2 hM2 (fun j _ => C93 j) (fun j _ => C94 j) (fun j _ _ => C97 j) | (exfalso; omega))
set_option maxRecDepth 20000 in
set_option maxHeartbeats 8000000 in
theorem sp_case21 (L : Nat) (xs : Nat → Int32) (sio : Option Nat) (d : Nat) (Q : Option AV → am_W → Prop) (hLL : L ≤ 3072) (i : Int) (hi : 0 ≤ i ∧ i ≤ 3066) (hil : i ≤ (L : Int) - 6) (dt : Nat → Nat → Int) (hI : InvC dt) (hM : MW (dt 80)) (hM2 : MW (dt 81)) (hk0 : dt 1 0 = dt 80 0) (hk1 : dt 7 3 = dt 80 1) (hk2 : dt 10 3 = dt 80 2) (hk3 : dt 12 3 = dt 80 3) (hk4 : dt 14 3 = dt 80 4) (hk5 : dt 16 3 = dt 80 5) (hk6 : dt 18 0 = dt 81 0) (hk7 : dt 24 3 = dt 81 1) (hk8 : dt 27 3 = dt 81 2) (hk9 : dt 29 3 = dt 81 3) (hk10 : dt 31 3 = dt 81 4) (hk11 : dt 33 3 = dt 81 5) (hk12 : dt 0 2 = dt 79 2) (hk13 : dt 35 1 = dt 79 12) (hk14 : dt 35 2 = dt 79 19) (hk15 : dt 35 3 = dt 79 21) (hd0 : TPL (dt 36) (dt 85) (dt 35 1)) (hd1 : SCL (dt 2) (dt 3) (dt 80)) (hd2 : SCL (dt 19) (dt 20) (dt 81)) (K : ∀ (dt : Nat → Nat → Int) (hI : InvC dt) (hM : MW (dt 80)) (hM2 : MW (dt 81)) (hk0 : dt 1 0 = dt 80 0) (hk1 : dt 7 3 = dt 80 1) (hk2 : dt 10 3 = dt 80 2) (hk3 : dt 12 3 = dt 80 3) (hk4 : dt 14 3 = dt 80 4) (hk5 : dt 16 3 = dt 80 5) (hk6 : dt 18 0 = dt 81 0) (hk7 : dt 24 3 = dt 81 1) (hk8 : dt 27 3 = dt 81 2) (hk9 : dt 29 3 = dt 81 3) (hk10 : dt 31 3 = dt 81 4) (hk11 : dt 33 3 = dt 81 5) (hk12 : dt 0 2 = dt 79 2) (hk13 : dt 35 1 = dt 79 12) (hk14 : dt 35 2 = dt 79 19) (hk15 : dt 35 3 = dt 79 21) (hd0 : TPL (dt 36) (dt 85) (dt 35 1)) (hd1 : SCL (dt 2) (dt 3) (dt 80)) (hd2 : SCL (dt 19) (dt 20) (dt 81)), GO (am_XX L xs sio) (d + 39) 267 1435 [some (.inr (.inr (some 3000))), some (.inr (.inr (some 0))), some (.inr (.inr (some 79))), some (.inl i)] [] (SH, dt) Q) : GO (am_XX L xs sio) (d + 39) 267 1053 [some (.inr (.inr (some 3000))), some (.inr (.inr (some 0))), some (.inr (.inr (some 79))), some (.inl i)] [] (SH, dt) Q := by
  have hF : Fr [0, 1, 2, 3, 4, 5, 6, 7, 8, 9, 10, 11, 12, 13, 14, 15, 16, 17, 18, 19, 20, 21, 22, 23, 24, 25, 26, 27, 28, 29, 30, 31, 32, 33, 34, 35, 36, 37, 38, 39, 40, 41, 42, 43, 44, 45, 46, 47, 48, 49, 50, 51, 52, 53, 54, 55, 56, 57, 58, 59, 60, 61, 62, 63, 64, 65, 66, 67, 68, 69, 70, 71, 72, 73, 74, 75, 76, 77, 78, 79, 80, 81, 82, 83, 84, 85, 86, 87, 88, 89, 90, 91, 92, 93, 94, 95, 96, 97, 98, 99, 100, 101, 102, 103, 104] dt dt := Fr_refl
  refine go_toq PM267 (k := 5) (pc' := 1058) (L' := [some (.inr (.inr (some 3000))), some (.inr (.inr (some 0))), some (.inr (.inr (some 79))), some (.inl i)]) (st' := [.inl (i + 1), .inr (.inr (some 3000)), .inr (.inr (some 0))]) (w' := (SH, dt)) rfl ?_
  have r1 := i32_R (xs ((i + 1).toNat))
  refine go_smpq PM267 (L' := [some (.inr (.inr (some 3000))), some (.inr (.inr (some 0))), some (.inr (.inr (some 79))), some (.inl i)]) (st' := [.inl ((xs ((i + 1).toNat)).toInt), .inr (.inr (some 0))]) (w' := (SH, dt)) rfl rfl (s_iald (n := L) (f := fun j => (xs j).toInt) (am_scr hLL) ⟨by omega, by omega⟩) ?_
  refine go_toq PM267 (k := 4) (pc' := 1063) (L' := [some (.inr (.inr (some 3000))), some (.inr (.inr (some 0))), some (.inr (.inr (some 79))), some (.inl i)]) (st' := [.inl (i + 2), .inr (.inr (some 3000)), .inl ((xs ((i + 1).toNat)).toInt), .inr (.inr (some 0))]) (w' := (SH, dt)) rfl ?_
  have r2 := i32_R (xs ((i + 2).toNat))
  refine go_smpq PM267 (L' := [some (.inr (.inr (some 3000))), some (.inr (.inr (some 0))), some (.inr (.inr (some 79))), some (.inl i)]) (st' := [.inl ((xs ((i + 2).toNat)).toInt), .inl ((xs ((i + 1).toNat)).toInt), .inr (.inr (some 0))]) (w' := (SH, dt)) rfl rfl (s_iald (n := L) (f := fun j => (xs j).toInt) (am_scr hLL) ⟨by omega, by omega⟩) ?_
  refine go_callq PM267 PM88 (Q' := _) rfl rfl rfl rfl (sp_X5_pulls L xs sio (d + 35) dt hI  ((xs ((i + 1).toNat)).toInt) ⟨by omega, by omega⟩ ((xs ((i + 2).toNat)).toInt) ⟨by omega, by omega⟩ ) ?_
  rintro _ _ ⟨rfl, h3⟩
  refine ⟨rfl, ?_⟩
  rcases h3 with ⟨v_h3, rfl, h3r, h3⟩
  refine go_toq PM267 (k := 6) (pc' := 1073) (L' := [some (.inr (.inr (some 3000))), some (.inr (.inr (some 0))), some (.inr (.inr (some 79))), some (.inl i)]) (st' := [.inl (i + 1), .inr (.inr (some 3000)), .inr (.inr (some 79))]) (w' := (SH, dt)) rfl ?_
  refine go_smpq PM267 (L' := [some (.inr (.inr (some 3000))), some (.inr (.inr (some 0))), some (.inr (.inr (some 79))), some (.inl i)]) (st' := [.inl ((xs ((i + 1).toNat)).toInt), .inr (.inr (some 79))]) (w' := (SH, dt)) rfl rfl (s_iald (n := L) (f := fun j => (xs j).toInt) (am_scr hLL) ⟨by omega, by omega⟩) ?_
  refine go_toq PM267 (k := 4) (pc' := 1078) (L' := [some (.inr (.inr (some 3000))), some (.inr (.inr (some 0))), some (.inr (.inr (some 79))), some (.inl i)]) (st' := [.inl (i + 2), .inr (.inr (some 3000)), .inl ((xs ((i + 1).toNat)).toInt), .inr (.inr (some 79))]) (w' := (SH, dt)) rfl ?_
  refine go_smpq PM267 (L' := [some (.inr (.inr (some 3000))), some (.inr (.inr (some 0))), some (.inr (.inr (some 79))), some (.inl i)]) (st' := [.inl ((xs ((i + 2).toNat)).toInt), .inl ((xs ((i + 1).toNat)).toInt), .inr (.inr (some 79))]) (w' := (SH, dt)) rfl rfl (s_iald (n := L) (f := fun j => (xs j).toInt) (am_scr hLL) ⟨by omega, by omega⟩) ?_
  refine go_callq PM267 PM230 (Q' := _) rfl rfl rfl rfl (sp_X6_pulls L xs sio (d + 31) dt hI hM  ((xs ((i + 1).toNat)).toInt) ⟨by omega, by omega⟩ ((xs ((i + 2).toNat)).toInt) ⟨by omega, by omega⟩ ) ?_
  rintro _ _ ⟨dt5, rfl, hI6, hF7, h4⟩
  refine ⟨rfl, ?_⟩
  have hF8 : Fr [0, 1, 2, 3, 4, 5, 6, 7, 8, 9, 10, 11, 12, 13, 14, 15, 16, 17, 18, 19, 20, 21, 22, 23, 24, 25, 26, 27, 28, 29, 30, 31, 32, 33, 34, 35, 36, 37, 38, 39, 40, 41, 42, 43, 44, 45, 46, 47, 48, 49, 50, 51, 52, 53, 54, 55, 56, 57, 58, 59, 60, 61, 62, 63, 64, 65, 66, 67, 68, 69, 70, 71, 72, 73, 74, 75, 76, 77, 78, 79, 80, 81, 82, 83, 84, 85, 86, 87, 88, 89, 90, 91, 92, 93, 94, 95, 96, 97, 98, 99, 100, 101, 102, 103, 104] dt dt5 := Fr_tr hF hF7 (by decide)
  have hM9 : MW (dt5 80) := MW_fr hM hF7 (by decide)
  have w10 : dt5 1 0 = dt 1 0 := hF7 1 (by decide) 0
  have w11 : dt5 7 3 = dt 7 3 := hF7 7 (by decide) 3
  have w12 : dt5 10 3 = dt 10 3 := hF7 10 (by decide) 3
  have w13 : dt5 12 3 = dt 12 3 := hF7 12 (by decide) 3
  have w14 : dt5 14 3 = dt 14 3 := hF7 14 (by decide) 3
  have w15 : dt5 16 3 = dt 16 3 := hF7 16 (by decide) 3
  have w16 : dt5 18 0 = dt 18 0 := hF7 18 (by decide) 0
  have w17 : dt5 24 3 = dt 24 3 := hF7 24 (by decide) 3
  have w18 : dt5 27 3 = dt 27 3 := hF7 27 (by decide) 3
  have w19 : dt5 29 3 = dt 29 3 := hF7 29 (by decide) 3
  have w20 : dt5 31 3 = dt 31 3 := hF7 31 (by decide) 3
  have w21 : dt5 33 3 = dt 33 3 := hF7 33 (by decide) 3
  have w22 : dt5 0 2 = dt 0 2 := hF7 0 (by decide) 2
  have w23 : dt5 35 1 = dt 35 1 := hF7 35 (by decide) 1
  have w24 : dt5 35 2 = dt 35 2 := hF7 35 (by decide) 2
  have w25 : dt5 35 3 = dt 35 3 := hF7 35 (by decide) 3
  have w26 : dt5 80 0 = dt 80 0 := hF7 80 (by decide) 0
  have w27 : dt5 80 1 = dt 80 1 := hF7 80 (by decide) 1
  have w28 : dt5 80 2 = dt 80 2 := hF7 80 (by decide) 2
  have w29 : dt5 80 3 = dt 80 3 := hF7 80 (by decide) 3
  have w30 : dt5 80 4 = dt 80 4 := hF7 80 (by decide) 4
  have w31 : dt5 80 5 = dt 80 5 := hF7 80 (by decide) 5
  have w32 : dt5 81 0 = dt 81 0 := hF7 81 (by decide) 0
  have w33 : dt5 81 1 = dt 81 1 := hF7 81 (by decide) 1
  have w34 : dt5 81 2 = dt 81 2 := hF7 81 (by decide) 2
  have w35 : dt5 81 3 = dt 81 3 := hF7 81 (by decide) 3
  have w36 : dt5 81 4 = dt 81 4 := hF7 81 (by decide) 4
  have w37 : dt5 81 5 = dt 81 5 := hF7 81 (by decide) 5
  have w38 : dt5 79 2 = dt 79 2 := hF7 79 (by decide) 2
  have w39 : dt5 79 12 = dt 79 12 := hF7 79 (by decide) 12
  have w40 : dt5 79 19 = dt 79 19 := hF7 79 (by decide) 19
  have w41 : dt5 79 21 = dt 79 21 := hF7 79 (by decide) 21
  rcases h4 with ⟨v_h4, rfl, h4r, h4⟩
  have M242 : MW (dt5 81) := MW_frk hM2 hF7 (by decide)
  have C43 : ∀ j : Nat, dt5 2 j = dt 2 j := fun j => (hF7 2 (by decide) j).trans ((fun _ => rfl) j)
  have C44 : ∀ j : Nat, dt5 3 j = dt 3 j := fun j => (hF7 3 (by decide) j).trans ((fun _ => rfl) j)
  have C45 : ∀ j : Nat, dt5 19 j = dt 19 j := fun j => (hF7 19 (by decide) j).trans ((fun _ => rfl) j)
  have C46 : ∀ j : Nat, dt5 20 j = dt 20 j := fun j => (hF7 20 (by decide) j).trans ((fun _ => rfl) j)
  have C47 : ∀ j : Nat, dt5 36 j = dt 36 j := fun j => (hF7 36 (by decide) j).trans ((fun _ => rfl) j)
  have C48 : ∀ j : Nat, dt5 80 j = dt 80 j := fun j => (hF7 80 (by decide) j).trans ((fun _ => rfl) j)
  have C49 : ∀ j : Nat, dt5 81 j = dt 81 j := fun j => (hF7 81 (by decide) j).trans ((fun _ => rfl) j)
  have C50 : ∀ j : Nat, dt5 85 j = dt 85 j := fun j => (hF7 85 (by decide) j).trans ((fun _ => rfl) j)
  refine go_toq PM267 (k := 2) (pc' := 1435) (L' := [some (.inr (.inr (some 3000))), some (.inr (.inr (some 0))), some (.inr (.inr (some 79))), some (.inl i)]) (st' := []) (w' := (SH, dt5)) rfl ?_
  exact K dt5 hI6 hM9 M242 (w10.trans (hk0.trans w26.symm)) (w11.trans (hk1.trans w27.symm)) (w12.trans (hk2.trans w28.symm)) (w13.trans (hk3.trans w29.symm)) (w14.trans (hk4.trans w30.symm)) (w15.trans (hk5.trans w31.symm)) (w16.trans (hk6.trans w32.symm)) (w17.trans (hk7.trans w33.symm)) (w18.trans (hk8.trans w34.symm)) (w19.trans (hk9.trans w35.symm)) (w20.trans (hk10.trans w36.symm)) (w21.trans (hk11.trans w37.symm)) (w22.trans (hk12.trans w38.symm)) (w23.trans (hk13.trans w39.symm)) (w24.trans (hk14.trans w40.symm)) (w25.trans (hk15.trans w41.symm)) (by first | exact hI | exact TPL_k hd0 C47 C50 (by omega) | (exfalso; omega)) (by first | exact hI | exact SCL_k hd1 hM (fun j _ => C43 j) (fun j _ => C44 j) (fun j _ _ => C48 j) | (exfalso; omega)) (by first | exact hI | exact SCL_k hd2 hM2 (fun j _ => C45 j) (fun j _ => C46 j) (fun j _ _ => C49 j) | (exfalso; omega))
