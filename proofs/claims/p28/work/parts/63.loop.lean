set_option maxRecDepth 20000 in
set_option maxHeartbeats 8000000 in
theorem sp_case11 (L : Nat) (xs : Nat → Int32) (sio : Option Nat) (d : Nat) (Q : Option AV → am_W → Prop) (hLL : L ≤ 3072) (i : Int) (hi : 0 ≤ i ∧ i ≤ 3066) (hil : i ≤ (L : Int) - 6) (dt : Nat → Nat → Int) (hI : InvC dt) (hM : MW (dt 80)) (hM2 : MW (dt 81)) (hk0 : dt 1 0 = dt 80 0) (hk1 : dt 7 3 = dt 80 1) (hk2 : dt 10 3 = dt 80 2) (hk3 : dt 12 3 = dt 80 3) (hk4 : dt 14 3 = dt 80 4) (hk5 : dt 16 3 = dt 80 5) (hk6 : dt 18 0 = dt 81 0) (hk7 : dt 24 3 = dt 81 1) (hk8 : dt 27 3 = dt 81 2) (hk9 : dt 29 3 = dt 81 3) (hk10 : dt 31 3 = dt 81 4) (hk11 : dt 33 3 = dt 81 5) (hk12 : dt 0 2 = dt 79 2) (hk13 : dt 35 1 = dt 79 12) (hd0 : RW2 (dt 15) (dt 80) (dt 80 4) 7340) (hd1 : RW2 (dt 32) (dt 81) (dt 81 4) 7340) (hd2 : RW2 (dt 17) (dt 80) (dt 80 5) 7420) (hd3 : RW2 (dt 34) (dt 81) (dt 81 5) 7420) (K : ∀ (dt : Nat → Nat → Int) (hI : InvC dt) (hM : MW (dt 80)) (hM2 : MW (dt 81)) (hk0 : dt 1 0 = dt 80 0) (hk1 : dt 7 3 = dt 80 1) (hk2 : dt 10 3 = dt 80 2) (hk3 : dt 12 3 = dt 80 3) (hk4 : dt 14 3 = dt 80 4) (hk5 : dt 16 3 = dt 80 5) (hk6 : dt 18 0 = dt 81 0) (hk7 : dt 24 3 = dt 81 1) (hk8 : dt 27 3 = dt 81 2) (hk9 : dt 29 3 = dt 81 3) (hk10 : dt 31 3 = dt 81 4) (hk11 : dt 33 3 = dt 81 5) (hk12 : dt 0 2 = dt 79 2) (hk13 : dt 35 1 = dt 79 12) (hd0 : RW2 (dt 15) (dt 80) (dt 80 4) 7340) (hd1 : RW2 (dt 32) (dt 81) (dt 81 4) 7340) (hd2 : RW2 (dt 17) (dt 80) (dt 80 5) 7420) (hd3 : RW2 (dt 34) (dt 81) (dt 81 5) 7420), GO (am_XX L xs sio) (d + 39) 267 1435 [some (.inr (.inr (some 3000))), some (.inr (.inr (some 0))), some (.inr (.inr (some 79))), some (.inl i)] [] (SH, dt) Q) : GO (am_XX L xs sio) (d + 39) 267 643 [some (.inr (.inr (some 3000))), some (.inr (.inr (some 0))), some (.inr (.inr (some 79))), some (.inl i)] [] (SH, dt) Q := by
  have hF : Fr [0, 1, 2, 3, 4, 5, 6, 7, 8, 9, 10, 11, 12, 13, 14, 15, 16, 17, 18, 19, 20, 21, 22, 23, 24, 25, 26, 27, 28, 29, 30, 31, 32, 33, 34, 35, 36, 37, 38, 39, 40, 41, 42, 43, 44, 45, 46, 47, 48, 49, 50, 51, 52, 53, 54, 55, 56, 57, 58, 59, 60, 61, 62, 63, 64, 65, 66, 67, 68, 69, 70, 71, 72, 73, 74, 75, 76, 77, 78, 79, 80, 81, 82, 83, 84, 85, 86, 87, 88, 89, 90, 91, 92, 93, 94, 95, 96, 97, 98, 99, 100, 101, 102, 103, 104] dt dt := Fr_refl
  have hmn := MW_n hM
  have hmn2 := MW_n hM2
  refine go_toq PM267 (k := 5) (pc' := 648) (L' := [some (.inr (.inr (some 3000))), some (.inr (.inr (some 0))), some (.inr (.inr (some 79))), some (.inl i)]) (st' := [.inl (i + 1), .inr (.inr (some 3000)), .inr (.inr (some 0))]) (w' := (SH, dt)) rfl ?_
  have r1 := i32_R (xs ((i + 1).toNat))
  refine go_smpq PM267 (L' := [some (.inr (.inr (some 3000))), some (.inr (.inr (some 0))), some (.inr (.inr (some 79))), some (.inl i)]) (st' := [.inl ((xs ((i + 1).toNat)).toInt), .inr (.inr (some 0))]) (w' := (SH, dt)) rfl rfl (s_iald (n := L) (f := fun j => (xs j).toInt) (am_scr hLL) ⟨by omega, by omega⟩) ?_
  refine go_toq PM267 (k := 4) (pc' := 653) (L' := [some (.inr (.inr (some 3000))), some (.inr (.inr (some 0))), some (.inr (.inr (some 79))), some (.inl i)]) (st' := [.inl (i + 2), .inr (.inr (some 3000)), .inl ((xs ((i + 1).toNat)).toInt), .inr (.inr (some 0))]) (w' := (SH, dt)) rfl ?_
  have r2 := i32_R (xs ((i + 2).toNat))
  refine go_smpq PM267 (L' := [some (.inr (.inr (some 3000))), some (.inr (.inr (some 0))), some (.inr (.inr (some 79))), some (.inl i)]) (st' := [.inl ((xs ((i + 2).toNat)).toInt), .inl ((xs ((i + 1).toNat)).toInt), .inr (.inr (some 0))]) (w' := (SH, dt)) rfl rfl (s_iald (n := L) (f := fun j => (xs j).toInt) (am_scr hLL) ⟨by omega, by omega⟩) ?_
  refine go_toq PM267 (k := 4) (pc' := 658) (L' := [some (.inr (.inr (some 3000))), some (.inr (.inr (some 0))), some (.inr (.inr (some 79))), some (.inl i)]) (st' := [.inl (i + 3), .inr (.inr (some 3000)), .inl ((xs ((i + 2).toNat)).toInt), .inl ((xs ((i + 1).toNat)).toInt), .inr (.inr (some 0))]) (w' := (SH, dt)) rfl ?_
  have r3 := i32_R (xs ((i + 3).toNat))
  refine go_smpq PM267 (L' := [some (.inr (.inr (some 3000))), some (.inr (.inr (some 0))), some (.inr (.inr (some 79))), some (.inl i)]) (st' := [.inl ((xs ((i + 3).toNat)).toInt), .inl ((xs ((i + 2).toNat)).toInt), .inl ((xs ((i + 1).toNat)).toInt), .inr (.inr (some 0))]) (w' := (SH, dt)) rfl rfl (s_iald (n := L) (f := fun j => (xs j).toInt) (am_scr hLL) ⟨by omega, by omega⟩) ?_
  refine go_toq PM267 (k := 4) (pc' := 663) (L' := [some (.inr (.inr (some 3000))), some (.inr (.inr (some 0))), some (.inr (.inr (some 79))), some (.inl i)]) (st' := [.inl (i + 4), .inr (.inr (some 3000)), .inl ((xs ((i + 3).toNat)).toInt), .inl ((xs ((i + 2).toNat)).toInt), .inl ((xs ((i + 1).toNat)).toInt), .inr (.inr (some 0))]) (w' := (SH, dt)) rfl ?_
  have r4 := i32_R (xs ((i + 4).toNat))
  refine go_smpq PM267 (L' := [some (.inr (.inr (some 3000))), some (.inr (.inr (some 0))), some (.inr (.inr (some 79))), some (.inl i)]) (st' := [.inl ((xs ((i + 4).toNat)).toInt), .inl ((xs ((i + 3).toNat)).toInt), .inl ((xs ((i + 2).toNat)).toInt), .inl ((xs ((i + 1).toNat)).toInt), .inr (.inr (some 0))]) (w' := (SH, dt)) rfl rfl (s_iald (n := L) (f := fun j => (xs j).toInt) (am_scr hLL) ⟨by omega, by omega⟩) ?_
  refine go_callq PM267 PM78 (Q' := _) rfl rfl rfl rfl (sp_X5_weight L xs sio (d + 33) dt hI  ((xs ((i + 1).toNat)).toInt) ⟨by omega, by omega⟩ ((xs ((i + 2).toNat)).toInt) ⟨by omega, by omega⟩ ((xs ((i + 3).toNat)).toInt) ⟨by omega, by omega⟩ ((xs ((i + 4).toNat)).toInt) ⟨by omega, by omega⟩ ) ?_
  rintro _ _ ⟨dt6, rfl, hI7, hF8, h5⟩
  refine ⟨rfl, ?_⟩
  have hF9 : Fr [0, 1, 2, 3, 4, 5, 6, 7, 8, 9, 10, 11, 12, 13, 14, 15, 16, 17, 18, 19, 20, 21, 22, 23, 24, 25, 26, 27, 28, 29, 30, 31, 32, 33, 34, 35, 36, 37, 38, 39, 40, 41, 42, 43, 44, 45, 46, 47, 48, 49, 50, 51, 52, 53, 54, 55, 56, 57, 58, 59, 60, 61, 62, 63, 64, 65, 66, 67, 68, 69, 70, 71, 72, 73, 74, 75, 76, 77, 78, 79, 80, 81, 82, 83, 84, 85, 86, 87, 88, 89, 90, 91, 92, 93, 94, 95, 96, 97, 98, 99, 100, 101, 102, 103, 104] dt dt6 := Fr_tr hF hF8 (by decide)
  have hM10 : MW (dt6 80) := MW_fr hM hF8 (by decide)
  have w11 : dt6 1 0 = dt 1 0 := hF8 1 (by decide) 0
  have w12 : dt6 7 3 = dt 7 3 := hF8 7 (by decide) 3
  have w13 : dt6 10 3 = dt 10 3 := hF8 10 (by decide) 3
  have w14 : dt6 12 3 = dt 12 3 := hF8 12 (by decide) 3
  have w15 : dt6 14 3 = dt 14 3 := hF8 14 (by decide) 3
  have w16 : dt6 16 3 = dt 16 3 := hF8 16 (by decide) 3
  have w17 : dt6 18 0 = dt 18 0 := hF8 18 (by decide) 0
  have w18 : dt6 24 3 = dt 24 3 := hF8 24 (by decide) 3
  have w19 : dt6 27 3 = dt 27 3 := hF8 27 (by decide) 3
  have w20 : dt6 29 3 = dt 29 3 := hF8 29 (by decide) 3
  have w21 : dt6 31 3 = dt 31 3 := hF8 31 (by decide) 3
  have w22 : dt6 33 3 = dt 33 3 := hF8 33 (by decide) 3
  have w23 : dt6 0 2 = dt 0 2 := hF8 0 (by decide) 2
  have w24 : dt6 35 1 = dt 35 1 := hF8 35 (by decide) 1
  have w25 : dt6 80 0 = dt 80 0 := hF8 80 (by decide) 0
  have w26 : dt6 80 1 = dt 80 1 := hF8 80 (by decide) 1
  have w27 : dt6 80 2 = dt 80 2 := hF8 80 (by decide) 2
  have w28 : dt6 80 3 = dt 80 3 := hF8 80 (by decide) 3
  have w29 : dt6 80 4 = dt 80 4 := hF8 80 (by decide) 4
  have w30 : dt6 80 5 = dt 80 5 := hF8 80 (by decide) 5
  have w31 : dt6 81 0 = dt 81 0 := hF8 81 (by decide) 0
  have w32 : dt6 81 1 = dt 81 1 := hF8 81 (by decide) 1
  have w33 : dt6 81 2 = dt 81 2 := hF8 81 (by decide) 2
  have w34 : dt6 81 3 = dt 81 3 := hF8 81 (by decide) 3
  have w35 : dt6 81 4 = dt 81 4 := hF8 81 (by decide) 4
  have w36 : dt6 81 5 = dt 81 5 := hF8 81 (by decide) 5
  have w37 : dt6 79 2 = dt 79 2 := hF8 79 (by decide) 2
  have w38 : dt6 79 12 = dt 79 12 := hF8 79 (by decide) 12
  rcases h5 with ⟨v_h5, rfl, h5r, h5⟩
  have M239 : MW (dt6 81) := MW_frk hM2 hF8 (by decide)
  have C40 : ∀ j : Nat, dt6 15 j = dt 15 j := fun j => (hF8 15 (by decide) j).trans ((fun _ => rfl) j)
  have C41 : ∀ j : Nat, dt6 17 j = dt 17 j := fun j => (hF8 17 (by decide) j).trans ((fun _ => rfl) j)
  have C42 : ∀ j : Nat, dt6 32 j = dt 32 j := fun j => (hF8 32 (by decide) j).trans ((fun _ => rfl) j)
  have C43 : ∀ j : Nat, dt6 34 j = dt 34 j := fun j => (hF8 34 (by decide) j).trans ((fun _ => rfl) j)
  have F44 : ∀ j : Nat, 7340 ≤ j → dt6 81 j = dt 81 j := fun j hj => (hF8 81 (by decide) j).trans ((fun _ _ => rfl) j hj)
  have F45 : ∀ j : Nat, 7340 ≤ j → dt6 80 j = dt 80 j := fun j hj => (hF8 80 (by decide) j).trans ((fun _ _ => rfl) j hj)
  have F46 : ∀ j : Nat, dt6 80 j = dt 80 j := fun j => (hF8 80 (by decide) j).trans ((fun _ => rfl) j)
  have F47 : ∀ j : Nat, dt6 81 j = dt 81 j := fun j => (hF8 81 (by decide) j).trans ((fun _ => rfl) j)
  refine go_toq PM267 (k := 6) (pc' := 673) (L' := [some (.inr (.inr (some 3000))), some (.inr (.inr (some 0))), some (.inr (.inr (some 79))), some (.inl i)]) (st' := [.inl (i + 1), .inr (.inr (some 3000)), .inr (.inr (some 79))]) (w' := (SH, dt6)) rfl ?_
  have r48 := i32_R (xs ((i + 1).toNat))
  refine go_smpq PM267 (L' := [some (.inr (.inr (some 3000))), some (.inr (.inr (some 0))), some (.inr (.inr (some 79))), some (.inl i)]) (st' := [.inl ((xs ((i + 1).toNat)).toInt), .inr (.inr (some 79))]) (w' := (SH, dt6)) rfl rfl (s_iald (n := L) (f := fun j => (xs j).toInt) (am_scr hLL) ⟨by omega, by omega⟩) ?_
  refine go_toq PM267 (k := 4) (pc' := 678) (L' := [some (.inr (.inr (some 3000))), some (.inr (.inr (some 0))), some (.inr (.inr (some 79))), some (.inl i)]) (st' := [.inl (i + 2), .inr (.inr (some 3000)), .inl ((xs ((i + 1).toNat)).toInt), .inr (.inr (some 79))]) (w' := (SH, dt6)) rfl ?_
  have r49 := i32_R (xs ((i + 2).toNat))
  refine go_smpq PM267 (L' := [some (.inr (.inr (some 3000))), some (.inr (.inr (some 0))), some (.inr (.inr (some 79))), some (.inl i)]) (st' := [.inl ((xs ((i + 2).toNat)).toInt), .inl ((xs ((i + 1).toNat)).toInt), .inr (.inr (some 79))]) (w' := (SH, dt6)) rfl rfl (s_iald (n := L) (f := fun j => (xs j).toInt) (am_scr hLL) ⟨by omega, by omega⟩) ?_
  refine go_toq PM267 (k := 4) (pc' := 683) (L' := [some (.inr (.inr (some 3000))), some (.inr (.inr (some 0))), some (.inr (.inr (some 79))), some (.inl i)]) (st' := [.inl (i + 3), .inr (.inr (some 3000)), .inl ((xs ((i + 2).toNat)).toInt), .inl ((xs ((i + 1).toNat)).toInt), .inr (.inr (some 79))]) (w' := (SH, dt6)) rfl ?_
  have r50 := i32_R (xs ((i + 3).toNat))
  refine go_smpq PM267 (L' := [some (.inr (.inr (some 3000))), some (.inr (.inr (some 0))), some (.inr (.inr (some 79))), some (.inl i)]) (st' := [.inl ((xs ((i + 3).toNat)).toInt), .inl ((xs ((i + 2).toNat)).toInt), .inl ((xs ((i + 1).toNat)).toInt), .inr (.inr (some 79))]) (w' := (SH, dt6)) rfl rfl (s_iald (n := L) (f := fun j => (xs j).toInt) (am_scr hLL) ⟨by omega, by omega⟩) ?_
  refine go_toq PM267 (k := 4) (pc' := 688) (L' := [some (.inr (.inr (some 3000))), some (.inr (.inr (some 0))), some (.inr (.inr (some 79))), some (.inl i)]) (st' := [.inl (i + 4), .inr (.inr (some 3000)), .inl ((xs ((i + 3).toNat)).toInt), .inl ((xs ((i + 2).toNat)).toInt), .inl ((xs ((i + 1).toNat)).toInt), .inr (.inr (some 79))]) (w' := (SH, dt6)) rfl ?_
  have r51 := i32_R (xs ((i + 4).toNat))
  refine go_smpq PM267 (L' := [some (.inr (.inr (some 3000))), some (.inr (.inr (some 0))), some (.inr (.inr (some 79))), some (.inl i)]) (st' := [.inl ((xs ((i + 4).toNat)).toInt), .inl ((xs ((i + 3).toNat)).toInt), .inl ((xs ((i + 2).toNat)).toInt), .inl ((xs ((i + 1).toNat)).toInt), .inr (.inr (some 79))]) (w' := (SH, dt6)) rfl rfl (s_iald (n := L) (f := fun j => (xs j).toInt) (am_scr hLL) ⟨by omega, by omega⟩) ?_
  refine go_callq PM267 PM207 (Q' := _) rfl rfl rfl rfl (sp_X6_weight L xs sio (d + 32) dt6 hI7 hM10  ((xs ((i + 1).toNat)).toInt) ⟨by omega, by omega⟩ ((xs ((i + 2).toNat)).toInt) ⟨by omega, by omega⟩ ((xs ((i + 3).toNat)).toInt) ⟨by omega, by omega⟩ ((xs ((i + 4).toNat)).toInt) ⟨by omega, by omega⟩ ) ?_
  rintro _ _ ⟨dt53, rfl, hI54, hF55, h52⟩
  refine ⟨rfl, ?_⟩
  have hF56 : Fr [0, 1, 2, 3, 4, 5, 6, 7, 8, 9, 10, 11, 12, 13, 14, 15, 16, 17, 18, 19, 20, 21, 22, 23, 24, 25, 26, 27, 28, 29, 30, 31, 32, 33, 34, 35, 36, 37, 38, 39, 40, 41, 42, 43, 44, 45, 46, 47, 48, 49, 50, 51, 52, 53, 54, 55, 56, 57, 58, 59, 60, 61, 62, 63, 64, 65, 66, 67, 68, 69, 70, 71, 72, 73, 74, 75, 76, 77, 78, 79, 80, 81, 82, 83, 84, 85, 86, 87, 88, 89, 90, 91, 92, 93, 94, 95, 96, 97, 98, 99, 100, 101, 102, 103, 104] dt dt53 := Fr_tr hF9 hF55 (by decide)
  have hM57 : MW (dt53 80) := MW_fr hM10 hF55 (by decide)
  have w58 : dt53 1 0 = dt6 1 0 := hF55 1 (by decide) 0
  have w59 : dt53 7 3 = dt6 7 3 := hF55 7 (by decide) 3
  have w60 : dt53 10 3 = dt6 10 3 := hF55 10 (by decide) 3
  have w61 : dt53 12 3 = dt6 12 3 := hF55 12 (by decide) 3
  have w62 : dt53 14 3 = dt6 14 3 := hF55 14 (by decide) 3
  have w63 : dt53 16 3 = dt6 16 3 := hF55 16 (by decide) 3
  have w64 : dt53 18 0 = dt6 18 0 := hF55 18 (by decide) 0
  have w65 : dt53 24 3 = dt6 24 3 := hF55 24 (by decide) 3
  have w66 : dt53 27 3 = dt6 27 3 := hF55 27 (by decide) 3
  have w67 : dt53 29 3 = dt6 29 3 := hF55 29 (by decide) 3
  have w68 : dt53 31 3 = dt6 31 3 := hF55 31 (by decide) 3
  have w69 : dt53 33 3 = dt6 33 3 := hF55 33 (by decide) 3
  have w70 : dt53 0 2 = dt6 0 2 := hF55 0 (by decide) 2
  have w71 : dt53 35 1 = dt6 35 1 := hF55 35 (by decide) 1
  have w72 : dt53 80 0 = dt6 80 0 := hF55 80 (by decide) 0
  have w73 : dt53 80 1 = dt6 80 1 := hF55 80 (by decide) 1
  have w74 : dt53 80 2 = dt6 80 2 := hF55 80 (by decide) 2
  have w75 : dt53 80 3 = dt6 80 3 := hF55 80 (by decide) 3
  have w76 : dt53 80 4 = dt6 80 4 := hF55 80 (by decide) 4
  have w77 : dt53 80 5 = dt6 80 5 := hF55 80 (by decide) 5
  have w78 : dt53 81 0 = dt6 81 0 := hF55 81 (by decide) 0
  have w79 : dt53 81 1 = dt6 81 1 := hF55 81 (by decide) 1
  have w80 : dt53 81 2 = dt6 81 2 := hF55 81 (by decide) 2
  have w81 : dt53 81 3 = dt6 81 3 := hF55 81 (by decide) 3
  have w82 : dt53 81 4 = dt6 81 4 := hF55 81 (by decide) 4
  have w83 : dt53 81 5 = dt6 81 5 := hF55 81 (by decide) 5
  have w84 : dt53 79 2 = dt6 79 2 := hF55 79 (by decide) 2
  have w85 : dt53 79 12 = dt6 79 12 := hF55 79 (by decide) 12
  rcases h52 with ⟨v_h52, rfl, h52r, h52⟩
  have M286 : MW (dt53 81) := MW_frk M239 hF55 (by decide)
  have C87 : ∀ j : Nat, dt53 15 j = dt 15 j := fun j => (hF55 15 (by decide) j).trans (C40 j)
  have C88 : ∀ j : Nat, dt53 17 j = dt 17 j := fun j => (hF55 17 (by decide) j).trans (C41 j)
  have C89 : ∀ j : Nat, dt53 32 j = dt 32 j := fun j => (hF55 32 (by decide) j).trans (C42 j)
  have C90 : ∀ j : Nat, dt53 34 j = dt 34 j := fun j => (hF55 34 (by decide) j).trans (C43 j)
  have F91 : ∀ j : Nat, 7340 ≤ j → dt53 81 j = dt 81 j := fun j hj => (hF55 81 (by decide) j).trans (F44 j hj)
  have F92 : ∀ j : Nat, 7340 ≤ j → dt53 80 j = dt 80 j := fun j hj => (hF55 80 (by decide) j).trans (F45 j hj)
  have F93 : ∀ j : Nat, dt53 80 j = dt 80 j := fun j => (hF55 80 (by decide) j).trans (F46 j)
  have F94 : ∀ j : Nat, dt53 81 j = dt 81 j := fun j => (hF55 81 (by decide) j).trans (F47 j)
  refine go_toq PM267 (k := 2) (pc' := 1435) (L' := [some (.inr (.inr (some 3000))), some (.inr (.inr (some 0))), some (.inr (.inr (some 79))), some (.inl i)]) (st' := []) (w' := (SH, dt53)) rfl ?_
  exact K dt53 hI54 hM57 M286 (by first | omega | (simp only [*]; done) | simp only [*]) (by omega) (by omega) (by omega) (by omega) (by omega) (by omega) (by omega) (by omega) (by omega) (by omega) (by omega) (by omega) (by omega) (by first | exact hI | exact RW2_k hd0 C87 F92 (by decide) (by omega) | (exfalso; omega)) (by first | exact hI | exact RW2_k hd1 C89 F91 (by decide) (by omega) | (exfalso; omega)) (by first | exact hI | exact RW2_k hd2 C88 F92 (by decide) (by omega) | (exfalso; omega)) (by first | exact hI | exact RW2_k hd3 C90 F91 (by decide) (by omega) | (exfalso; omega))
set_option maxRecDepth 20000 in
set_option maxHeartbeats 8000000 in
theorem sp_case12 (L : Nat) (xs : Nat → Int32) (sio : Option Nat) (d : Nat) (Q : Option AV → am_W → Prop) (hLL : L ≤ 3072) (i : Int) (hi : 0 ≤ i ∧ i ≤ 3066) (hil : i ≤ (L : Int) - 6) (dt : Nat → Nat → Int) (hI : InvC dt) (hM : MW (dt 80)) (hM2 : MW (dt 81)) (hk0 : dt 1 0 = dt 80 0) (hk1 : dt 7 3 = dt 80 1) (hk2 : dt 10 3 = dt 80 2) (hk3 : dt 12 3 = dt 80 3) (hk4 : dt 14 3 = dt 80 4) (hk5 : dt 16 3 = dt 80 5) (hk6 : dt 18 0 = dt 81 0) (hk7 : dt 24 3 = dt 81 1) (hk8 : dt 27 3 = dt 81 2) (hk9 : dt 29 3 = dt 81 3) (hk10 : dt 31 3 = dt 81 4) (hk11 : dt 33 3 = dt 81 5) (hk12 : dt 0 2 = dt 79 2) (hk13 : dt 35 1 = dt 79 12) (hd0 : RW2 (dt 15) (dt 80) (dt 80 4) 7340) (hd1 : RW2 (dt 32) (dt 81) (dt 81 4) 7340) (hd2 : RW2 (dt 17) (dt 80) (dt 80 5) 7420) (hd3 : RW2 (dt 34) (dt 81) (dt 81 5) 7420) (K : ∀ (dt : Nat → Nat → Int) (hI : InvC dt) (hM : MW (dt 80)) (hM2 : MW (dt 81)) (hk0 : dt 1 0 = dt 80 0) (hk1 : dt 7 3 = dt 80 1) (hk2 : dt 10 3 = dt 80 2) (hk3 : dt 12 3 = dt 80 3) (hk4 : dt 14 3 = dt 80 4) (hk5 : dt 16 3 = dt 80 5) (hk6 : dt 18 0 = dt 81 0) (hk7 : dt 24 3 = dt 81 1) (hk8 : dt 27 3 = dt 81 2) (hk9 : dt 29 3 = dt 81 3) (hk10 : dt 31 3 = dt 81 4) (hk11 : dt 33 3 = dt 81 5) (hk12 : dt 0 2 = dt 79 2) (hk13 : dt 35 1 = dt 79 12) (hd0 : RW2 (dt 15) (dt 80) (dt 80 4) 7340) (hd1 : RW2 (dt 32) (dt 81) (dt 81 4) 7340) (hd2 : RW2 (dt 17) (dt 80) (dt 80 5) 7420) (hd3 : RW2 (dt 34) (dt 81) (dt 81 5) 7420), GO (am_XX L xs sio) (d + 39) 267 1435 [some (.inr (.inr (some 3000))), some (.inr (.inr (some 0))), some (.inr (.inr (some 79))), some (.inl i)] [] (SH, dt) Q) : GO (am_XX L xs sio) (d + 39) 267 696 [some (.inr (.inr (some 3000))), some (.inr (.inr (some 0))), some (.inr (.inr (some 79))), some (.inl i)] [] (SH, dt) Q := by
  have hF : Fr [0, 1, 2, 3, 4, 5, 6, 7, 8, 9, 10, 11, 12, 13, 14, 15, 16, 17, 18, 19, 20, 21, 22, 23, 24, 25, 26, 27, 28, 29, 30, 31, 32, 33, 34, 35, 36, 37, 38, 39, 40, 41, 42, 43, 44, 45, 46, 47, 48, 49, 50, 51, 52, 53, 54, 55, 56, 57, 58, 59, 60, 61, 62, 63, 64, 65, 66, 67, 68, 69, 70, 71, 72, 73, 74, 75, 76, 77, 78, 79, 80, 81, 82, 83, 84, 85, 86, 87, 88, 89, 90, 91, 92, 93, 94, 95, 96, 97, 98, 99, 100, 101, 102, 103, 104] dt dt := Fr_refl
  have hmn := MW_n hM
  have hmn2 := MW_n hM2
  refine go_toq PM267 (k := 5) (pc' := 701) (L' := [some (.inr (.inr (some 3000))), some (.inr (.inr (some 0))), some (.inr (.inr (some 79))), some (.inl i)]) (st' := [.inl (i + 1), .inr (.inr (some 3000)), .inr (.inr (some 0))]) (w' := (SH, dt)) rfl ?_
  have r1 := i32_R (xs ((i + 1).toNat))
  refine go_smpq PM267 (L' := [some (.inr (.inr (some 3000))), some (.inr (.inr (some 0))), some (.inr (.inr (some 79))), some (.inl i)]) (st' := [.inl ((xs ((i + 1).toNat)).toInt), .inr (.inr (some 0))]) (w' := (SH, dt)) rfl rfl (s_iald (n := L) (f := fun j => (xs j).toInt) (am_scr hLL) ⟨by omega, by omega⟩) ?_
  refine go_toq PM267 (k := 4) (pc' := 706) (L' := [some (.inr (.inr (some 3000))), some (.inr (.inr (some 0))), some (.inr (.inr (some 79))), some (.inl i)]) (st' := [.inl (i + 2), .inr (.inr (some 3000)), .inl ((xs ((i + 1).toNat)).toInt), .inr (.inr (some 0))]) (w' := (SH, dt)) rfl ?_
  have r2 := i32_R (xs ((i + 2).toNat))
  refine go_smpq PM267 (L' := [some (.inr (.inr (some 3000))), some (.inr (.inr (some 0))), some (.inr (.inr (some 79))), some (.inl i)]) (st' := [.inl ((xs ((i + 2).toNat)).toInt), .inl ((xs ((i + 1).toNat)).toInt), .inr (.inr (some 0))]) (w' := (SH, dt)) rfl rfl (s_iald (n := L) (f := fun j => (xs j).toInt) (am_scr hLL) ⟨by omega, by omega⟩) ?_
  refine go_toq PM267 (k := 4) (pc' := 711) (L' := [some (.inr (.inr (some 3000))), some (.inr (.inr (some 0))), some (.inr (.inr (some 79))), some (.inl i)]) (st' := [.inl (i + 3), .inr (.inr (some 3000)), .inl ((xs ((i + 2).toNat)).toInt), .inl ((xs ((i + 1).toNat)).toInt), .inr (.inr (some 0))]) (w' := (SH, dt)) rfl ?_
  have r3 := i32_R (xs ((i + 3).toNat))
  refine go_smpq PM267 (L' := [some (.inr (.inr (some 3000))), some (.inr (.inr (some 0))), some (.inr (.inr (some 79))), some (.inl i)]) (st' := [.inl ((xs ((i + 3).toNat)).toInt), .inl ((xs ((i + 2).toNat)).toInt), .inl ((xs ((i + 1).toNat)).toInt), .inr (.inr (some 0))]) (w' := (SH, dt)) rfl rfl (s_iald (n := L) (f := fun j => (xs j).toInt) (am_scr hLL) ⟨by omega, by omega⟩) ?_
  refine go_callq PM267 PM79 (Q' := _) rfl rfl rfl rfl (sp_X5_ask L xs sio (d + 33) dt hI  ((xs ((i + 1).toNat)).toInt) ⟨by omega, by omega⟩ ((xs ((i + 2).toNat)).toInt) ⟨by omega, by omega⟩ ((xs ((i + 3).toNat)).toInt) ⟨by omega, by omega⟩ ) ?_
  rintro _ _ ⟨dt5, rfl, hI6, hF7, h4⟩
  refine ⟨rfl, ?_⟩
  have hF8 : Fr [0, 1, 2, 3, 4, 5, 6, 7, 8, 9, 10, 11, 12, 13, 14, 15, 16, 17, 18, 19, 20, 21, 22, 23, 24, 25, 26, 27, 28, 29, 30, 31, 32, 33, 34, 35, 36, 37, 38, 39, 40, 41, 42, 43, 44, 45, 46, 47, 48, 49, 50, 51, 52, 53, 54, 55, 56, 57, 58, 59, 60, 61, 62, 63, 64, 65, 66, 67, 68, 69, 70, 71, 72, 73, 74, 75, 76, 77, 78, 79, 80, 81, 82, 83, 84, 85, 86, 87, 88, 89, 90, 91, 92, 93, 94, 95, 96, 97, 98, 99, 100, 101, 102, 103, 104] dt dt5 := Fr_tr hF hF7 (by decide)
  have hM9 : MW (dt5 80) := MW_fr hM hF7 (by decide)
  have w10 : dt5 7 3 = dt 7 3 := hF7 7 (by decide) 3
  have w11 : dt5 10 3 = dt 10 3 := hF7 10 (by decide) 3
  have w12 : dt5 14 3 = dt 14 3 := hF7 14 (by decide) 3
  have w13 : dt5 16 3 = dt 16 3 := hF7 16 (by decide) 3
  have w14 : dt5 18 0 = dt 18 0 := hF7 18 (by decide) 0
  have w15 : dt5 24 3 = dt 24 3 := hF7 24 (by decide) 3
  have w16 : dt5 27 3 = dt 27 3 := hF7 27 (by decide) 3
  have w17 : dt5 29 3 = dt 29 3 := hF7 29 (by decide) 3
  have w18 : dt5 31 3 = dt 31 3 := hF7 31 (by decide) 3
  have w19 : dt5 33 3 = dt 33 3 := hF7 33 (by decide) 3
  have w20 : dt5 0 2 = dt 0 2 := hF7 0 (by decide) 2
  have w21 : dt5 35 1 = dt 35 1 := hF7 35 (by decide) 1
  have w22 : dt5 80 0 = dt 80 0 := hF7 80 (by decide) 0
  have w23 : dt5 80 1 = dt 80 1 := hF7 80 (by decide) 1
  have w24 : dt5 80 2 = dt 80 2 := hF7 80 (by decide) 2
  have w25 : dt5 80 3 = dt 80 3 := hF7 80 (by decide) 3
  have w26 : dt5 80 4 = dt 80 4 := hF7 80 (by decide) 4
  have w27 : dt5 80 5 = dt 80 5 := hF7 80 (by decide) 5
  have w28 : dt5 81 0 = dt 81 0 := hF7 81 (by decide) 0
  have w29 : dt5 81 1 = dt 81 1 := hF7 81 (by decide) 1
  have w30 : dt5 81 2 = dt 81 2 := hF7 81 (by decide) 2
  have w31 : dt5 81 3 = dt 81 3 := hF7 81 (by decide) 3
  have w32 : dt5 81 4 = dt 81 4 := hF7 81 (by decide) 4
  have w33 : dt5 81 5 = dt 81 5 := hF7 81 (by decide) 5
  have w34 : dt5 79 2 = dt 79 2 := hF7 79 (by decide) 2
  have w35 : dt5 79 12 = dt 79 12 := hF7 79 (by decide) 12
  rcases h4 with ⟨rfl, h4⟩ | ⟨v_h4, rfl, h4r, h4⟩
  · skip
    obtain ⟨h4_0, h4_1, h4_2⟩ := h4
    replace h4_0 := hid h4_0
    have M236 : MW (dt5 81) := MW_frk hM2 hF7 (by decide)
    have C37 : ∀ j : Nat, dt5 15 j = dt 15 j := fun j => (hF7 15 (by decide) j).trans ((fun _ => rfl) j)
    have C38 : ∀ j : Nat, dt5 17 j = dt 17 j := fun j => (hF7 17 (by decide) j).trans ((fun _ => rfl) j)
    have C39 : ∀ j : Nat, dt5 32 j = dt 32 j := fun j => (hF7 32 (by decide) j).trans ((fun _ => rfl) j)
    have C40 : ∀ j : Nat, dt5 34 j = dt 34 j := fun j => (hF7 34 (by decide) j).trans ((fun _ => rfl) j)
    have F41 : ∀ j : Nat, 7340 ≤ j → dt5 81 j = dt 81 j := fun j hj => (hF7 81 (by decide) j).trans ((fun _ _ => rfl) j hj)
    have F42 : ∀ j : Nat, 7340 ≤ j → dt5 80 j = dt 80 j := fun j hj => (hF7 80 (by decide) j).trans ((fun _ _ => rfl) j hj)
    have F43 : ∀ j : Nat, dt5 80 j = dt 80 j := fun j => (hF7 80 (by decide) j).trans ((fun _ => rfl) j)
    have F44 : ∀ j : Nat, dt5 81 j = dt 81 j := fun j => (hF7 81 (by decide) j).trans ((fun _ => rfl) j)
    refine go_toq PM267 (k := 6) (pc' := 721) (L' := [some (.inr (.inr (some 3000))), some (.inr (.inr (some 0))), some (.inr (.inr (some 79))), some (.inl i)]) (st' := [.inl (i + 1), .inr (.inr (some 3000)), .inr (.inr (some 79))]) (w' := (SH, dt5)) rfl ?_
    have r45 := i32_R (xs ((i + 1).toNat))
    refine go_smpq PM267 (L' := [some (.inr (.inr (some 3000))), some (.inr (.inr (some 0))), some (.inr (.inr (some 79))), some (.inl i)]) (st' := [.inl ((xs ((i + 1).toNat)).toInt), .inr (.inr (some 79))]) (w' := (SH, dt5)) rfl rfl (s_iald (n := L) (f := fun j => (xs j).toInt) (am_scr hLL) ⟨by (first | omega | (have z0_ := unhid h4_0; omega)), by (first | omega | (have z0_ := unhid h4_0; omega))⟩) ?_
    refine go_toq PM267 (k := 4) (pc' := 726) (L' := [some (.inr (.inr (some 3000))), some (.inr (.inr (some 0))), some (.inr (.inr (some 79))), some (.inl i)]) (st' := [.inl (i + 2), .inr (.inr (some 3000)), .inl ((xs ((i + 1).toNat)).toInt), .inr (.inr (some 79))]) (w' := (SH, dt5)) rfl ?_
    have r46 := i32_R (xs ((i + 2).toNat))
    refine go_smpq PM267 (L' := [some (.inr (.inr (some 3000))), some (.inr (.inr (some 0))), some (.inr (.inr (some 79))), some (.inl i)]) (st' := [.inl ((xs ((i + 2).toNat)).toInt), .inl ((xs ((i + 1).toNat)).toInt), .inr (.inr (some 79))]) (w' := (SH, dt5)) rfl rfl (s_iald (n := L) (f := fun j => (xs j).toInt) (am_scr hLL) ⟨by (first | omega | (have z0_ := unhid h4_0; omega)), by (first | omega | (have z0_ := unhid h4_0; omega))⟩) ?_
    refine go_toq PM267 (k := 4) (pc' := 731) (L' := [some (.inr (.inr (some 3000))), some (.inr (.inr (some 0))), some (.inr (.inr (some 79))), some (.inl i)]) (st' := [.inl (i + 3), .inr (.inr (some 3000)), .inl ((xs ((i + 2).toNat)).toInt), .inl ((xs ((i + 1).toNat)).toInt), .inr (.inr (some 79))]) (w' := (SH, dt5)) rfl ?_
    have r47 := i32_R (xs ((i + 3).toNat))
    refine go_smpq PM267 (L' := [some (.inr (.inr (some 3000))), some (.inr (.inr (some 0))), some (.inr (.inr (some 79))), some (.inl i)]) (st' := [.inl ((xs ((i + 3).toNat)).toInt), .inl ((xs ((i + 2).toNat)).toInt), .inl ((xs ((i + 1).toNat)).toInt), .inr (.inr (some 79))]) (w' := (SH, dt5)) rfl rfl (s_iald (n := L) (f := fun j => (xs j).toInt) (am_scr hLL) ⟨by (first | omega | (have z0_ := unhid h4_0; omega)), by (first | omega | (have z0_ := unhid h4_0; omega))⟩) ?_
    refine go_callq PM267 PM211 (Q' := _) rfl rfl rfl rfl (sp_X6_ask_u L xs sio (d + 32) dt5 hI6 hM9  ((xs ((i + 1).toNat)).toInt) ⟨by (first | omega | (have z0_ := unhid h4_0; omega)), by (first | omega | (have z0_ := unhid h4_0; omega))⟩ ((xs ((i + 2).toNat)).toInt) ⟨by (first | omega | (have z0_ := unhid h4_0; omega)), by (first | omega | (have z0_ := unhid h4_0; omega))⟩ ((xs ((i + 3).toNat)).toInt) ⟨by (first | omega | (have z0_ := unhid h4_0; omega)), by (first | omega | (have z0_ := unhid h4_0; omega))⟩ ) ?_
    rintro _ _ ⟨dt49, rfl, hI50, hF51, h48⟩
    refine ⟨rfl, ?_⟩
    have hF52 : Fr [0, 1, 2, 3, 4, 5, 6, 7, 8, 9, 10, 11, 12, 13, 14, 15, 16, 17, 18, 19, 20, 21, 22, 23, 24, 25, 26, 27, 28, 29, 30, 31, 32, 33, 34, 35, 36, 37, 38, 39, 40, 41, 42, 43, 44, 45, 46, 47, 48, 49, 50, 51, 52, 53, 54, 55, 56, 57, 58, 59, 60, 61, 62, 63, 64, 65, 66, 67, 68, 69, 70, 71, 72, 73, 74, 75, 76, 77, 78, 79, 80, 81, 82, 83, 84, 85, 86, 87, 88, 89, 90, 91, 92, 93, 94, 95, 96, 97, 98, 99, 100, 101, 102, 103, 104] dt dt49 := Fr_tr hF8 hF51 (by decide)
    have w53 : dt49 1 0 = dt5 1 0 := hF51 1 (by decide) 0
    have w54 : dt49 7 3 = dt5 7 3 := hF51 7 (by decide) 3
    have w55 : dt49 10 3 = dt5 10 3 := hF51 10 (by decide) 3
    have w56 : dt49 12 3 = dt5 12 3 := hF51 12 (by decide) 3
    have w57 : dt49 14 3 = dt5 14 3 := hF51 14 (by decide) 3
    have w58 : dt49 16 3 = dt5 16 3 := hF51 16 (by decide) 3
    have w59 : dt49 18 0 = dt5 18 0 := hF51 18 (by decide) 0
    have w60 : dt49 24 3 = dt5 24 3 := hF51 24 (by decide) 3
    have w61 : dt49 27 3 = dt5 27 3 := hF51 27 (by decide) 3
    have w62 : dt49 29 3 = dt5 29 3 := hF51 29 (by decide) 3
    have w63 : dt49 31 3 = dt5 31 3 := hF51 31 (by decide) 3
    have w64 : dt49 33 3 = dt5 33 3 := hF51 33 (by decide) 3
    have w65 : dt49 0 2 = dt5 0 2 := hF51 0 (by decide) 2
    have w66 : dt49 35 1 = dt5 35 1 := hF51 35 (by decide) 1
    have w67 : dt49 81 0 = dt5 81 0 := hF51 81 (by decide) 0
    have w68 : dt49 81 1 = dt5 81 1 := hF51 81 (by decide) 1
    have w69 : dt49 81 2 = dt5 81 2 := hF51 81 (by decide) 2
    have w70 : dt49 81 3 = dt5 81 3 := hF51 81 (by decide) 3
    have w71 : dt49 81 4 = dt5 81 4 := hF51 81 (by decide) 4
    have w72 : dt49 81 5 = dt5 81 5 := hF51 81 (by decide) 5
    have w73 : dt49 79 2 = dt5 79 2 := hF51 79 (by decide) 2
    have w74 : dt49 79 12 = dt5 79 12 := hF51 79 (by decide) 12
    rcases h48 with ⟨rfl, h48⟩ | ⟨v_h48, rfl, h48r, h48⟩
    · skip
      have hM75 : MW (dt49 80) := h48.2.1
      obtain ⟨h48_0, h48_1, h48_2, h48_3, h48_4, h48_5, h48_6, h48_7, h48_8⟩ := h48
      replace h48_0 := hid h48_0
      have M276 : MW (dt49 81) := MW_frk M236 hF51 (by decide)
      have C77 : ∀ j : Nat, dt49 15 j = dt 15 j := fun j => (hF51 15 (by decide) j).trans (C37 j)
      have C78 : ∀ j : Nat, dt49 17 j = dt 17 j := fun j => (hF51 17 (by decide) j).trans (C38 j)
      have C79 : ∀ j : Nat, dt49 32 j = dt 32 j := fun j => (hF51 32 (by decide) j).trans (C39 j)
      have C80 : ∀ j : Nat, dt49 34 j = dt 34 j := fun j => (hF51 34 (by decide) j).trans (C40 j)
      have F81 : ∀ j : Nat, 7340 ≤ j → dt49 81 j = dt 81 j := fun j hj => (hF51 81 (by decide) j).trans (F41 j hj)
      have F82 : ∀ j : Nat, 7340 ≤ j → dt49 80 j = dt 80 j := fun j hj => (h48_8 j hj).trans (F42 j hj)
      have F83 : ∀ j : Nat, dt49 81 j = dt 81 j := fun j => (hF51 81 (by decide) j).trans (F44 j)
      refine go_toq PM267 (k := 2) (pc' := 1435) (L' := [some (.inr (.inr (some 3000))), some (.inr (.inr (some 0))), some (.inr (.inr (some 79))), some (.inl i)]) (st' := []) (w' := (SH, dt49)) rfl ?_
      exact K dt49 hI50 hM75 M276 (by first | (first | omega | (have z0_ := unhid h4_0; have z1_ := unhid h48_0; omega)) | (simp only [*]; done) | simp only [*]) (by (first | omega | (have z0_ := unhid h4_0; have z1_ := unhid h48_0; omega))) (by (first | omega | (have z0_ := unhid h4_0; have z1_ := unhid h48_0; omega))) (by (first | omega | (have z0_ := unhid h4_0; have z1_ := unhid h48_0; omega))) (by (first | omega | (have z0_ := unhid h4_0; have z1_ := unhid h48_0; omega))) (by (first | omega | (have z0_ := unhid h4_0; have z1_ := unhid h48_0; omega))) (by (first | omega | (have z0_ := unhid h4_0; have z1_ := unhid h48_0; omega))) (by (first | omega | (have z0_ := unhid h4_0; have z1_ := unhid h48_0; omega))) (by (first | omega | (have z0_ := unhid h4_0; have z1_ := unhid h48_0; omega))) (by (first | omega | (have z0_ := unhid h4_0; have z1_ := unhid h48_0; omega))) (by (first | omega | (have z0_ := unhid h4_0; have z1_ := unhid h48_0; omega))) (by (first | omega | (have z0_ := unhid h4_0; have z1_ := unhid h48_0; omega))) (by (first | omega | (have z0_ := unhid h4_0; have z1_ := unhid h48_0; omega))) (by (first | omega | (have z0_ := unhid h4_0; have z1_ := unhid h48_0; omega))) (by first | exact hI | exact RW2_k hd0 C77 F82 (by decide) (by (first | omega | (have z0_ := unhid h4_0; have z1_ := unhid h48_0; omega))) | (exfalso; (first | omega | (have z0_ := unhid h4_0; have z1_ := unhid h48_0; omega)))) (by first | exact hI | exact RW2_k hd1 C79 F81 (by decide) (by (first | omega | (have z0_ := unhid h4_0; have z1_ := unhid h48_0; omega))) | (exfalso; (first | omega | (have z0_ := unhid h4_0; have z1_ := unhid h48_0; omega)))) (by first | exact hI | exact RW2_k hd2 C78 F82 (by decide) (by (first | omega | (have z0_ := unhid h4_0; have z1_ := unhid h48_0; omega))) | (exfalso; (first | omega | (have z0_ := unhid h4_0; have z1_ := unhid h48_0; omega)))) (by first | exact hI | exact RW2_k hd3 C80 F81 (by decide) (by (first | omega | (have z0_ := unhid h4_0; have z1_ := unhid h48_0; omega))) | (exfalso; (first | omega | (have z0_ := unhid h4_0; have z1_ := unhid h48_0; omega))))
    · skip
      have hM84 : MW (dt49 80) := h48.2.1
      obtain ⟨h48_0, h48_1, h48_2, h48_3, h48_4, h48_5, h48_6, h48_7, h48_8⟩ := h48
      have M285 : MW (dt49 81) := MW_frk M236 hF51 (by decide)
      have C86 : ∀ j : Nat, dt49 15 j = dt 15 j := fun j => (hF51 15 (by decide) j).trans (C37 j)
      have C87 : ∀ j : Nat, dt49 17 j = dt 17 j := fun j => (hF51 17 (by decide) j).trans (C38 j)
      have C88 : ∀ j : Nat, dt49 32 j = dt 32 j := fun j => (hF51 32 (by decide) j).trans (C39 j)
      have C89 : ∀ j : Nat, dt49 34 j = dt 34 j := fun j => (hF51 34 (by decide) j).trans (C40 j)
      have F90 : ∀ j : Nat, 7340 ≤ j → dt49 81 j = dt 81 j := fun j hj => (hF51 81 (by decide) j).trans (F41 j hj)
      have F91 : ∀ j : Nat, 7340 ≤ j → dt49 80 j = dt 80 j := fun j hj => (h48_8 j hj).trans (F42 j hj)
      have F92 : ∀ j : Nat, dt49 81 j = dt 81 j := fun j => (hF51 81 (by decide) j).trans (F44 j)
      refine go_toq PM267 (k := 2) (pc' := 1435) (L' := [some (.inr (.inr (some 3000))), some (.inr (.inr (some 0))), some (.inr (.inr (some 79))), some (.inl i)]) (st' := []) (w' := (SH, dt49)) rfl ?_
      exact K dt49 hI50 hM84 M285 (by first | (first | omega | (have z0_ := unhid h4_0; omega)) | (simp only [*]; done) | simp only [*]) (by (first | omega | (have z0_ := unhid h4_0; omega))) (by (first | omega | (have z0_ := unhid h4_0; omega))) (by (first | omega | (have z0_ := unhid h4_0; omega))) (by (first | omega | (have z0_ := unhid h4_0; omega))) (by (first | omega | (have z0_ := unhid h4_0; omega))) (by (first | omega | (have z0_ := unhid h4_0; omega))) (by (first | omega | (have z0_ := unhid h4_0; omega))) (by (first | omega | (have z0_ := unhid h4_0; omega))) (by (first | omega | (have z0_ := unhid h4_0; omega))) (by (first | omega | (have z0_ := unhid h4_0; omega))) (by (first | omega | (have z0_ := unhid h4_0; omega))) (by (first | omega | (have z0_ := unhid h4_0; omega))) (by (first | omega | (have z0_ := unhid h4_0; omega))) (by first | exact hI | exact RW2_k hd0 C86 F91 (by decide) (by (first | omega | (have z0_ := unhid h4_0; omega))) | (exfalso; (first | omega | (have z0_ := unhid h4_0; omega)))) (by first | exact hI | exact RW2_k hd1 C88 F90 (by decide) (by (first | omega | (have z0_ := unhid h4_0; omega))) | (exfalso; (first | omega | (have z0_ := unhid h4_0; omega)))) (by first | exact hI | exact RW2_k hd2 C87 F91 (by decide) (by (first | omega | (have z0_ := unhid h4_0; omega))) | (exfalso; (first | omega | (have z0_ := unhid h4_0; omega)))) (by first | exact hI | exact RW2_k hd3 C89 F90 (by decide) (by (first | omega | (have z0_ := unhid h4_0; omega))) | (exfalso; (first | omega | (have z0_ := unhid h4_0; omega))))
  · skip
    obtain ⟨h4_0, h4_1, h4_2⟩ := h4
    have M293 : MW (dt5 81) := MW_frk hM2 hF7 (by decide)
    have C94 : ∀ j : Nat, dt5 15 j = dt 15 j := fun j => (hF7 15 (by decide) j).trans ((fun _ => rfl) j)
    have C95 : ∀ j : Nat, dt5 17 j = dt 17 j := fun j => (hF7 17 (by decide) j).trans ((fun _ => rfl) j)
    have C96 : ∀ j : Nat, dt5 32 j = dt 32 j := fun j => (hF7 32 (by decide) j).trans ((fun _ => rfl) j)
    have C97 : ∀ j : Nat, dt5 34 j = dt 34 j := fun j => (hF7 34 (by decide) j).trans ((fun _ => rfl) j)
    have F98 : ∀ j : Nat, 7340 ≤ j → dt5 81 j = dt 81 j := fun j hj => (hF7 81 (by decide) j).trans ((fun _ _ => rfl) j hj)
    have F99 : ∀ j : Nat, 7340 ≤ j → dt5 80 j = dt 80 j := fun j hj => (hF7 80 (by decide) j).trans ((fun _ _ => rfl) j hj)
    have F100 : ∀ j : Nat, dt5 80 j = dt 80 j := fun j => (hF7 80 (by decide) j).trans ((fun _ => rfl) j)
    have F101 : ∀ j : Nat, dt5 81 j = dt 81 j := fun j => (hF7 81 (by decide) j).trans ((fun _ => rfl) j)
    refine go_toq PM267 (k := 6) (pc' := 721) (L' := [some (.inr (.inr (some 3000))), some (.inr (.inr (some 0))), some (.inr (.inr (some 79))), some (.inl i)]) (st' := [.inl (i + 1), .inr (.inr (some 3000)), .inr (.inr (some 79))]) (w' := (SH, dt5)) rfl ?_
    have r102 := i32_R (xs ((i + 1).toNat))
    refine go_smpq PM267 (L' := [some (.inr (.inr (some 3000))), some (.inr (.inr (some 0))), some (.inr (.inr (some 79))), some (.inl i)]) (st' := [.inl ((xs ((i + 1).toNat)).toInt), .inr (.inr (some 79))]) (w' := (SH, dt5)) rfl rfl (s_iald (n := L) (f := fun j => (xs j).toInt) (am_scr hLL) ⟨by omega, by omega⟩) ?_
    refine go_toq PM267 (k := 4) (pc' := 726) (L' := [some (.inr (.inr (some 3000))), some (.inr (.inr (some 0))), some (.inr (.inr (some 79))), some (.inl i)]) (st' := [.inl (i + 2), .inr (.inr (some 3000)), .inl ((xs ((i + 1).toNat)).toInt), .inr (.inr (some 79))]) (w' := (SH, dt5)) rfl ?_
    have r103 := i32_R (xs ((i + 2).toNat))
    refine go_smpq PM267 (L' := [some (.inr (.inr (some 3000))), some (.inr (.inr (some 0))), some (.inr (.inr (some 79))), some (.inl i)]) (st' := [.inl ((xs ((i + 2).toNat)).toInt), .inl ((xs ((i + 1).toNat)).toInt), .inr (.inr (some 79))]) (w' := (SH, dt5)) rfl rfl (s_iald (n := L) (f := fun j => (xs j).toInt) (am_scr hLL) ⟨by omega, by omega⟩) ?_
    refine go_toq PM267 (k := 4) (pc' := 731) (L' := [some (.inr (.inr (some 3000))), some (.inr (.inr (some 0))), some (.inr (.inr (some 79))), some (.inl i)]) (st' := [.inl (i + 3), .inr (.inr (some 3000)), .inl ((xs ((i + 2).toNat)).toInt), .inl ((xs ((i + 1).toNat)).toInt), .inr (.inr (some 79))]) (w' := (SH, dt5)) rfl ?_
    have r104 := i32_R (xs ((i + 3).toNat))
    refine go_smpq PM267 (L' := [some (.inr (.inr (some 3000))), some (.inr (.inr (some 0))), some (.inr (.inr (some 79))), some (.inl i)]) (st' := [.inl ((xs ((i + 3).toNat)).toInt), .inl ((xs ((i + 2).toNat)).toInt), .inl ((xs ((i + 1).toNat)).toInt), .inr (.inr (some 79))]) (w' := (SH, dt5)) rfl rfl (s_iald (n := L) (f := fun j => (xs j).toInt) (am_scr hLL) ⟨by omega, by omega⟩) ?_
    refine go_callq PM267 PM211 (Q' := _) rfl rfl rfl rfl (sp_X6_ask_u L xs sio (d + 32) dt5 hI6 hM9  ((xs ((i + 1).toNat)).toInt) ⟨by omega, by omega⟩ ((xs ((i + 2).toNat)).toInt) ⟨by omega, by omega⟩ ((xs ((i + 3).toNat)).toInt) ⟨by omega, by omega⟩ ) ?_
    rintro _ _ ⟨dt106, rfl, hI107, hF108, h105⟩
    refine ⟨rfl, ?_⟩
    have hF109 : Fr [0, 1, 2, 3, 4, 5, 6, 7, 8, 9, 10, 11, 12, 13, 14, 15, 16, 17, 18, 19, 20, 21, 22, 23, 24, 25, 26, 27, 28, 29, 30, 31, 32, 33, 34, 35, 36, 37, 38, 39, 40, 41, 42, 43, 44, 45, 46, 47, 48, 49, 50, 51, 52, 53, 54, 55, 56, 57, 58, 59, 60, 61, 62, 63, 64, 65, 66, 67, 68, 69, 70, 71, 72, 73, 74, 75, 76, 77, 78, 79, 80, 81, 82, 83, 84, 85, 86, 87, 88, 89, 90, 91, 92, 93, 94, 95, 96, 97, 98, 99, 100, 101, 102, 103, 104] dt dt106 := Fr_tr hF8 hF108 (by decide)
    have w110 : dt106 1 0 = dt5 1 0 := hF108 1 (by decide) 0
    have w111 : dt106 7 3 = dt5 7 3 := hF108 7 (by decide) 3
    have w112 : dt106 10 3 = dt5 10 3 := hF108 10 (by decide) 3
    have w113 : dt106 12 3 = dt5 12 3 := hF108 12 (by decide) 3
    have w114 : dt106 14 3 = dt5 14 3 := hF108 14 (by decide) 3
    have w115 : dt106 16 3 = dt5 16 3 := hF108 16 (by decide) 3
    have w116 : dt106 18 0 = dt5 18 0 := hF108 18 (by decide) 0
    have w117 : dt106 24 3 = dt5 24 3 := hF108 24 (by decide) 3
    have w118 : dt106 27 3 = dt5 27 3 := hF108 27 (by decide) 3
    have w119 : dt106 29 3 = dt5 29 3 := hF108 29 (by decide) 3
    have w120 : dt106 31 3 = dt5 31 3 := hF108 31 (by decide) 3
    have w121 : dt106 33 3 = dt5 33 3 := hF108 33 (by decide) 3
    have w122 : dt106 0 2 = dt5 0 2 := hF108 0 (by decide) 2
    have w123 : dt106 35 1 = dt5 35 1 := hF108 35 (by decide) 1
    have w124 : dt106 81 0 = dt5 81 0 := hF108 81 (by decide) 0
    have w125 : dt106 81 1 = dt5 81 1 := hF108 81 (by decide) 1
    have w126 : dt106 81 2 = dt5 81 2 := hF108 81 (by decide) 2
    have w127 : dt106 81 3 = dt5 81 3 := hF108 81 (by decide) 3
    have w128 : dt106 81 4 = dt5 81 4 := hF108 81 (by decide) 4
    have w129 : dt106 81 5 = dt5 81 5 := hF108 81 (by decide) 5
    have w130 : dt106 79 2 = dt5 79 2 := hF108 79 (by decide) 2
    have w131 : dt106 79 12 = dt5 79 12 := hF108 79 (by decide) 12
    rcases h105 with ⟨rfl, h105⟩ | ⟨v_h105, rfl, h105r, h105⟩
    · skip
      have hM132 : MW (dt106 80) := h105.2.1
      obtain ⟨h105_0, h105_1, h105_2, h105_3, h105_4, h105_5, h105_6, h105_7, h105_8⟩ := h105
      replace h105_0 := hid h105_0
      have M2133 : MW (dt106 81) := MW_frk M293 hF108 (by decide)
      have C134 : ∀ j : Nat, dt106 15 j = dt 15 j := fun j => (hF108 15 (by decide) j).trans (C94 j)
      have C135 : ∀ j : Nat, dt106 17 j = dt 17 j := fun j => (hF108 17 (by decide) j).trans (C95 j)
      have C136 : ∀ j : Nat, dt106 32 j = dt 32 j := fun j => (hF108 32 (by decide) j).trans (C96 j)
      have C137 : ∀ j : Nat, dt106 34 j = dt 34 j := fun j => (hF108 34 (by decide) j).trans (C97 j)
      have F138 : ∀ j : Nat, 7340 ≤ j → dt106 81 j = dt 81 j := fun j hj => (hF108 81 (by decide) j).trans (F98 j hj)
      have F139 : ∀ j : Nat, 7340 ≤ j → dt106 80 j = dt 80 j := fun j hj => (h105_8 j hj).trans (F99 j hj)
      have F140 : ∀ j : Nat, dt106 81 j = dt 81 j := fun j => (hF108 81 (by decide) j).trans (F101 j)
      refine go_toq PM267 (k := 2) (pc' := 1435) (L' := [some (.inr (.inr (some 3000))), some (.inr (.inr (some 0))), some (.inr (.inr (some 79))), some (.inl i)]) (st' := []) (w' := (SH, dt106)) rfl ?_
      exact K dt106 hI107 hM132 M2133 (by first | (first | omega | (have z0_ := unhid h105_0; omega)) | (simp only [*]; done) | simp only [*]) (by (first | omega | (have z0_ := unhid h105_0; omega))) (by (first | omega | (have z0_ := unhid h105_0; omega))) (by (first | omega | (have z0_ := unhid h105_0; omega))) (by (first | omega | (have z0_ := unhid h105_0; omega))) (by (first | omega | (have z0_ := unhid h105_0; omega))) (by (first | omega | (have z0_ := unhid h105_0; omega))) (by (first | omega | (have z0_ := unhid h105_0; omega))) (by (first | omega | (have z0_ := unhid h105_0; omega))) (by (first | omega | (have z0_ := unhid h105_0; omega))) (by (first | omega | (have z0_ := unhid h105_0; omega))) (by (first | omega | (have z0_ := unhid h105_0; omega))) (by (first | omega | (have z0_ := unhid h105_0; omega))) (by (first | omega | (have z0_ := unhid h105_0; omega))) (by first | exact hI | exact RW2_k hd0 C134 F139 (by decide) (by (first | omega | (have z0_ := unhid h105_0; omega))) | (exfalso; (first | omega | (have z0_ := unhid h105_0; omega)))) (by first | exact hI | exact RW2_k hd1 C136 F138 (by decide) (by (first | omega | (have z0_ := unhid h105_0; omega))) | (exfalso; (first | omega | (have z0_ := unhid h105_0; omega)))) (by first | exact hI | exact RW2_k hd2 C135 F139 (by decide) (by (first | omega | (have z0_ := unhid h105_0; omega))) | (exfalso; (first | omega | (have z0_ := unhid h105_0; omega)))) (by first | exact hI | exact RW2_k hd3 C137 F138 (by decide) (by (first | omega | (have z0_ := unhid h105_0; omega))) | (exfalso; (first | omega | (have z0_ := unhid h105_0; omega))))
    · skip
      have hM141 : MW (dt106 80) := h105.2.1
      obtain ⟨h105_0, h105_1, h105_2, h105_3, h105_4, h105_5, h105_6, h105_7, h105_8⟩ := h105
      have M2142 : MW (dt106 81) := MW_frk M293 hF108 (by decide)
      have C143 : ∀ j : Nat, dt106 15 j = dt 15 j := fun j => (hF108 15 (by decide) j).trans (C94 j)
      have C144 : ∀ j : Nat, dt106 17 j = dt 17 j := fun j => (hF108 17 (by decide) j).trans (C95 j)
      have C145 : ∀ j : Nat, dt106 32 j = dt 32 j := fun j => (hF108 32 (by decide) j).trans (C96 j)
      have C146 : ∀ j : Nat, dt106 34 j = dt 34 j := fun j => (hF108 34 (by decide) j).trans (C97 j)
      have F147 : ∀ j : Nat, 7340 ≤ j → dt106 81 j = dt 81 j := fun j hj => (hF108 81 (by decide) j).trans (F98 j hj)
      have F148 : ∀ j : Nat, 7340 ≤ j → dt106 80 j = dt 80 j := fun j hj => (h105_8 j hj).trans (F99 j hj)
      have F149 : ∀ j : Nat, dt106 81 j = dt 81 j := fun j => (hF108 81 (by decide) j).trans (F101 j)
      refine go_toq PM267 (k := 2) (pc' := 1435) (L' := [some (.inr (.inr (some 3000))), some (.inr (.inr (some 0))), some (.inr (.inr (some 79))), some (.inl i)]) (st' := []) (w' := (SH, dt106)) rfl ?_
      exact K dt106 hI107 hM141 M2142 (by first | omega | (simp only [*]; done) | simp only [*]) (by omega) (by omega) (by omega) (by omega) (by omega) (by omega) (by omega) (by omega) (by omega) (by omega) (by omega) (by omega) (by omega) (by first | exact hI | exact RW2_k hd0 C143 F148 (by decide) (by omega) | (exfalso; omega)) (by first | exact hI | exact RW2_k hd1 C145 F147 (by decide) (by omega) | (exfalso; omega)) (by first | exact hI | exact RW2_k hd2 C144 F148 (by decide) (by omega) | (exfalso; omega)) (by first | exact hI | exact RW2_k hd3 C146 F147 (by decide) (by omega) | (exfalso; omega))
set_option maxRecDepth 20000 in
set_option maxHeartbeats 8000000 in
theorem sp_case13 (L : Nat) (xs : Nat → Int32) (sio : Option Nat) (d : Nat) (Q : Option AV → am_W → Prop) (hLL : L ≤ 3072) (i : Int) (hi : 0 ≤ i ∧ i ≤ 3066) (hil : i ≤ (L : Int) - 6) (dt : Nat → Nat → Int) (hI : InvC dt) (hM : MW (dt 80)) (hM2 : MW (dt 81)) (hk0 : dt 1 0 = dt 80 0) (hk1 : dt 7 3 = dt 80 1) (hk2 : dt 10 3 = dt 80 2) (hk3 : dt 12 3 = dt 80 3) (hk4 : dt 14 3 = dt 80 4) (hk5 : dt 16 3 = dt 80 5) (hk6 : dt 18 0 = dt 81 0) (hk7 : dt 24 3 = dt 81 1) (hk8 : dt 27 3 = dt 81 2) (hk9 : dt 29 3 = dt 81 3) (hk10 : dt 31 3 = dt 81 4) (hk11 : dt 33 3 = dt 81 5) (hk12 : dt 0 2 = dt 79 2) (hk13 : dt 35 1 = dt 79 12) (hd0 : RW2 (dt 15) (dt 80) (dt 80 4) 7340) (hd1 : RW2 (dt 32) (dt 81) (dt 81 4) 7340) (hd2 : RW2 (dt 17) (dt 80) (dt 80 5) 7420) (hd3 : RW2 (dt 34) (dt 81) (dt 81 5) 7420) (K : ∀ (dt : Nat → Nat → Int) (hI : InvC dt) (hM : MW (dt 80)) (hM2 : MW (dt 81)) (hk0 : dt 1 0 = dt 80 0) (hk1 : dt 7 3 = dt 80 1) (hk2 : dt 10 3 = dt 80 2) (hk3 : dt 12 3 = dt 80 3) (hk4 : dt 14 3 = dt 80 4) (hk5 : dt 16 3 = dt 80 5) (hk6 : dt 18 0 = dt 81 0) (hk7 : dt 24 3 = dt 81 1) (hk8 : dt 27 3 = dt 81 2) (hk9 : dt 29 3 = dt 81 3) (hk10 : dt 31 3 = dt 81 4) (hk11 : dt 33 3 = dt 81 5) (hk12 : dt 0 2 = dt 79 2) (hk13 : dt 35 1 = dt 79 12) (hd0 : RW2 (dt 15) (dt 80) (dt 80 4) 7340) (hd1 : RW2 (dt 32) (dt 81) (dt 81 4) 7340) (hd2 : RW2 (dt 17) (dt 80) (dt 80 5) 7420) (hd3 : RW2 (dt 34) (dt 81) (dt 81 5) 7420), GO (am_XX L xs sio) (d + 39) 267 1435 [some (.inr (.inr (some 3000))), some (.inr (.inr (some 0))), some (.inr (.inr (some 79))), some (.inl i)] [] (SH, dt) Q) : GO (am_XX L xs sio) (d + 39) 267 739 [some (.inr (.inr (some 3000))), some (.inr (.inr (some 0))), some (.inr (.inr (some 79))), some (.inl i)] [] (SH, dt) Q := by
  have hF : Fr [0, 1, 2, 3, 4, 5, 6, 7, 8, 9, 10, 11, 12, 13, 14, 15, 16, 17, 18, 19, 20, 21, 22, 23, 24, 25, 26, 27, 28, 29, 30, 31, 32, 33, 34, 35, 36, 37, 38, 39, 40, 41, 42, 43, 44, 45, 46, 47, 48, 49, 50, 51, 52, 53, 54, 55, 56, 57, 58, 59, 60, 61, 62, 63, 64, 65, 66, 67, 68, 69, 70, 71, 72, 73, 74, 75, 76, 77, 78, 79, 80, 81, 82, 83, 84, 85, 86, 87, 88, 89, 90, 91, 92, 93, 94, 95, 96, 97, 98, 99, 100, 101, 102, 103, 104] dt dt := Fr_refl
  have hmn := MW_n hM
  have hmn2 := MW_n hM2
  refine go_toq PM267 (k := 5) (pc' := 744) (L' := [some (.inr (.inr (some 3000))), some (.inr (.inr (some 0))), some (.inr (.inr (some 79))), some (.inl i)]) (st' := [.inl (i + 1), .inr (.inr (some 3000)), .inr (.inr (some 0))]) (w' := (SH, dt)) rfl ?_
  have r1 := i32_R (xs ((i + 1).toNat))
  refine go_smpq PM267 (L' := [some (.inr (.inr (some 3000))), some (.inr (.inr (some 0))), some (.inr (.inr (some 79))), some (.inl i)]) (st' := [.inl ((xs ((i + 1).toNat)).toInt), .inr (.inr (some 0))]) (w' := (SH, dt)) rfl rfl (s_iald (n := L) (f := fun j => (xs j).toInt) (am_scr hLL) ⟨by omega, by omega⟩) ?_
  refine go_toq PM267 (k := 4) (pc' := 749) (L' := [some (.inr (.inr (some 3000))), some (.inr (.inr (some 0))), some (.inr (.inr (some 79))), some (.inl i)]) (st' := [.inl (i + 2), .inr (.inr (some 3000)), .inl ((xs ((i + 1).toNat)).toInt), .inr (.inr (some 0))]) (w' := (SH, dt)) rfl ?_
  have r2 := i32_R (xs ((i + 2).toNat))
  refine go_smpq PM267 (L' := [some (.inr (.inr (some 3000))), some (.inr (.inr (some 0))), some (.inr (.inr (some 79))), some (.inl i)]) (st' := [.inl ((xs ((i + 2).toNat)).toInt), .inl ((xs ((i + 1).toNat)).toInt), .inr (.inr (some 0))]) (w' := (SH, dt)) rfl rfl (s_iald (n := L) (f := fun j => (xs j).toInt) (am_scr hLL) ⟨by omega, by omega⟩) ?_
  refine go_toq PM267 (k := 4) (pc' := 754) (L' := [some (.inr (.inr (some 3000))), some (.inr (.inr (some 0))), some (.inr (.inr (some 79))), some (.inl i)]) (st' := [.inl (i + 3), .inr (.inr (some 3000)), .inl ((xs ((i + 2).toNat)).toInt), .inl ((xs ((i + 1).toNat)).toInt), .inr (.inr (some 0))]) (w' := (SH, dt)) rfl ?_
  have r3 := i32_R (xs ((i + 3).toNat))
  refine go_smpq PM267 (L' := [some (.inr (.inr (some 3000))), some (.inr (.inr (some 0))), some (.inr (.inr (some 79))), some (.inl i)]) (st' := [.inl ((xs ((i + 3).toNat)).toInt), .inl ((xs ((i + 2).toNat)).toInt), .inl ((xs ((i + 1).toNat)).toInt), .inr (.inr (some 0))]) (w' := (SH, dt)) rfl rfl (s_iald (n := L) (f := fun j => (xs j).toInt) (am_scr hLL) ⟨by omega, by omega⟩) ?_
  refine go_toq PM267 (k := 4) (pc' := 759) (L' := [some (.inr (.inr (some 3000))), some (.inr (.inr (some 0))), some (.inr (.inr (some 79))), some (.inl i)]) (st' := [.inl (i + 4), .inr (.inr (some 3000)), .inl ((xs ((i + 3).toNat)).toInt), .inl ((xs ((i + 2).toNat)).toInt), .inl ((xs ((i + 1).toNat)).toInt), .inr (.inr (some 0))]) (w' := (SH, dt)) rfl ?_
  have r4 := i32_R (xs ((i + 4).toNat))
  refine go_smpq PM267 (L' := [some (.inr (.inr (some 3000))), some (.inr (.inr (some 0))), some (.inr (.inr (some 79))), some (.inl i)]) (st' := [.inl ((xs ((i + 4).toNat)).toInt), .inl ((xs ((i + 3).toNat)).toInt), .inl ((xs ((i + 2).toNat)).toInt), .inl ((xs ((i + 1).toNat)).toInt), .inr (.inr (some 0))]) (w' := (SH, dt)) rfl rfl (s_iald (n := L) (f := fun j => (xs j).toInt) (am_scr hLL) ⟨by omega, by omega⟩) ?_
  refine go_callq PM267 PM80 (Q' := _) rfl rfl rfl rfl (sp_X5_told L xs sio (d + 36) dt hI  ((xs ((i + 1).toNat)).toInt) ⟨by omega, by omega⟩ ((xs ((i + 2).toNat)).toInt) ⟨by omega, by omega⟩ ((xs ((i + 3).toNat)).toInt) ⟨by omega, by omega⟩ ((xs ((i + 4).toNat)).toInt) ⟨by omega, by omega⟩ ) ?_
  rintro _ _ ⟨dt6, rfl, hI7, hF8, h5⟩
  refine ⟨rfl, ?_⟩
  have hF9 : Fr [0, 1, 2, 3, 4, 5, 6, 7, 8, 9, 10, 11, 12, 13, 14, 15, 16, 17, 18, 19, 20, 21, 22, 23, 24, 25, 26, 27, 28, 29, 30, 31, 32, 33, 34, 35, 36, 37, 38, 39, 40, 41, 42, 43, 44, 45, 46, 47, 48, 49, 50, 51, 52, 53, 54, 55, 56, 57, 58, 59, 60, 61, 62, 63, 64, 65, 66, 67, 68, 69, 70, 71, 72, 73, 74, 75, 76, 77, 78, 79, 80, 81, 82, 83, 84, 85, 86, 87, 88, 89, 90, 91, 92, 93, 94, 95, 96, 97, 98, 99, 100, 101, 102, 103, 104] dt dt6 := Fr_tr hF hF8 (by decide)
  have hM10 : MW (dt6 80) := MW_fr hM hF8 (by decide)
  have w11 : dt6 1 0 = dt 1 0 := hF8 1 (by decide) 0
  have w12 : dt6 7 3 = dt 7 3 := hF8 7 (by decide) 3
  have w13 : dt6 10 3 = dt 10 3 := hF8 10 (by decide) 3
  have w14 : dt6 14 3 = dt 14 3 := hF8 14 (by decide) 3
  have w15 : dt6 16 3 = dt 16 3 := hF8 16 (by decide) 3
  have w16 : dt6 18 0 = dt 18 0 := hF8 18 (by decide) 0
  have w17 : dt6 24 3 = dt 24 3 := hF8 24 (by decide) 3
  have w18 : dt6 27 3 = dt 27 3 := hF8 27 (by decide) 3
  have w19 : dt6 29 3 = dt 29 3 := hF8 29 (by decide) 3
  have w20 : dt6 31 3 = dt 31 3 := hF8 31 (by decide) 3
  have w21 : dt6 33 3 = dt 33 3 := hF8 33 (by decide) 3
  have w22 : dt6 0 2 = dt 0 2 := hF8 0 (by decide) 2
  have w23 : dt6 35 1 = dt 35 1 := hF8 35 (by decide) 1
  have w24 : dt6 80 0 = dt 80 0 := hF8 80 (by decide) 0
  have w25 : dt6 80 1 = dt 80 1 := hF8 80 (by decide) 1
  have w26 : dt6 80 2 = dt 80 2 := hF8 80 (by decide) 2
  have w27 : dt6 80 3 = dt 80 3 := hF8 80 (by decide) 3
  have w28 : dt6 80 4 = dt 80 4 := hF8 80 (by decide) 4
  have w29 : dt6 80 5 = dt 80 5 := hF8 80 (by decide) 5
  have w30 : dt6 81 0 = dt 81 0 := hF8 81 (by decide) 0
  have w31 : dt6 81 1 = dt 81 1 := hF8 81 (by decide) 1
  have w32 : dt6 81 2 = dt 81 2 := hF8 81 (by decide) 2
  have w33 : dt6 81 3 = dt 81 3 := hF8 81 (by decide) 3
  have w34 : dt6 81 4 = dt 81 4 := hF8 81 (by decide) 4
  have w35 : dt6 81 5 = dt 81 5 := hF8 81 (by decide) 5
  have w36 : dt6 79 2 = dt 79 2 := hF8 79 (by decide) 2
  have w37 : dt6 79 12 = dt 79 12 := hF8 79 (by decide) 12
  rcases h5 with ⟨rfl, h5⟩ | ⟨v_h5, rfl, h5r, h5⟩
  · skip
    obtain ⟨h5_0, h5_1⟩ := h5
    replace h5_0 := hid h5_0
    have M238 : MW (dt6 81) := MW_frk hM2 hF8 (by decide)
    have C39 : ∀ j : Nat, dt6 15 j = dt 15 j := fun j => (hF8 15 (by decide) j).trans ((fun _ => rfl) j)
    have C40 : ∀ j : Nat, dt6 17 j = dt 17 j := fun j => (hF8 17 (by decide) j).trans ((fun _ => rfl) j)
    have C41 : ∀ j : Nat, dt6 32 j = dt 32 j := fun j => (hF8 32 (by decide) j).trans ((fun _ => rfl) j)
    have C42 : ∀ j : Nat, dt6 34 j = dt 34 j := fun j => (hF8 34 (by decide) j).trans ((fun _ => rfl) j)
    have F43 : ∀ j : Nat, 7340 ≤ j → dt6 81 j = dt 81 j := fun j hj => (hF8 81 (by decide) j).trans ((fun _ _ => rfl) j hj)
    have F44 : ∀ j : Nat, 7340 ≤ j → dt6 80 j = dt 80 j := fun j hj => (hF8 80 (by decide) j).trans ((fun _ _ => rfl) j hj)
    have F45 : ∀ j : Nat, dt6 80 j = dt 80 j := fun j => (hF8 80 (by decide) j).trans ((fun _ => rfl) j)
    have F46 : ∀ j : Nat, dt6 81 j = dt 81 j := fun j => (hF8 81 (by decide) j).trans ((fun _ => rfl) j)
    refine go_toq PM267 (k := 6) (pc' := 769) (L' := [some (.inr (.inr (some 3000))), some (.inr (.inr (some 0))), some (.inr (.inr (some 79))), some (.inl i)]) (st' := [.inl (i + 1), .inr (.inr (some 3000)), .inr (.inr (some 79))]) (w' := (SH, dt6)) rfl ?_
    have r47 := i32_R (xs ((i + 1).toNat))
    refine go_smpq PM267 (L' := [some (.inr (.inr (some 3000))), some (.inr (.inr (some 0))), some (.inr (.inr (some 79))), some (.inl i)]) (st' := [.inl ((xs ((i + 1).toNat)).toInt), .inr (.inr (some 79))]) (w' := (SH, dt6)) rfl rfl (s_iald (n := L) (f := fun j => (xs j).toInt) (am_scr hLL) ⟨by (first | omega | (have z0_ := unhid h5_0; omega)), by (first | omega | (have z0_ := unhid h5_0; omega))⟩) ?_
    refine go_toq PM267 (k := 4) (pc' := 774) (L' := [some (.inr (.inr (some 3000))), some (.inr (.inr (some 0))), some (.inr (.inr (some 79))), some (.inl i)]) (st' := [.inl (i + 2), .inr (.inr (some 3000)), .inl ((xs ((i + 1).toNat)).toInt), .inr (.inr (some 79))]) (w' := (SH, dt6)) rfl ?_
    have r48 := i32_R (xs ((i + 2).toNat))
    refine go_smpq PM267 (L' := [some (.inr (.inr (some 3000))), some (.inr (.inr (some 0))), some (.inr (.inr (some 79))), some (.inl i)]) (st' := [.inl ((xs ((i + 2).toNat)).toInt), .inl ((xs ((i + 1).toNat)).toInt), .inr (.inr (some 79))]) (w' := (SH, dt6)) rfl rfl (s_iald (n := L) (f := fun j => (xs j).toInt) (am_scr hLL) ⟨by (first | omega | (have z0_ := unhid h5_0; omega)), by (first | omega | (have z0_ := unhid h5_0; omega))⟩) ?_
    refine go_toq PM267 (k := 4) (pc' := 779) (L' := [some (.inr (.inr (some 3000))), some (.inr (.inr (some 0))), some (.inr (.inr (some 79))), some (.inl i)]) (st' := [.inl (i + 3), .inr (.inr (some 3000)), .inl ((xs ((i + 2).toNat)).toInt), .inl ((xs ((i + 1).toNat)).toInt), .inr (.inr (some 79))]) (w' := (SH, dt6)) rfl ?_
    have r49 := i32_R (xs ((i + 3).toNat))
    refine go_smpq PM267 (L' := [some (.inr (.inr (some 3000))), some (.inr (.inr (some 0))), some (.inr (.inr (some 79))), some (.inl i)]) (st' := [.inl ((xs ((i + 3).toNat)).toInt), .inl ((xs ((i + 2).toNat)).toInt), .inl ((xs ((i + 1).toNat)).toInt), .inr (.inr (some 79))]) (w' := (SH, dt6)) rfl rfl (s_iald (n := L) (f := fun j => (xs j).toInt) (am_scr hLL) ⟨by (first | omega | (have z0_ := unhid h5_0; omega)), by (first | omega | (have z0_ := unhid h5_0; omega))⟩) ?_
    refine go_toq PM267 (k := 4) (pc' := 784) (L' := [some (.inr (.inr (some 3000))), some (.inr (.inr (some 0))), some (.inr (.inr (some 79))), some (.inl i)]) (st' := [.inl (i + 4), .inr (.inr (some 3000)), .inl ((xs ((i + 3).toNat)).toInt), .inl ((xs ((i + 2).toNat)).toInt), .inl ((xs ((i + 1).toNat)).toInt), .inr (.inr (some 79))]) (w' := (SH, dt6)) rfl ?_
    have r50 := i32_R (xs ((i + 4).toNat))
    refine go_smpq PM267 (L' := [some (.inr (.inr (some 3000))), some (.inr (.inr (some 0))), some (.inr (.inr (some 79))), some (.inl i)]) (st' := [.inl ((xs ((i + 4).toNat)).toInt), .inl ((xs ((i + 3).toNat)).toInt), .inl ((xs ((i + 2).toNat)).toInt), .inl ((xs ((i + 1).toNat)).toInt), .inr (.inr (some 79))]) (w' := (SH, dt6)) rfl rfl (s_iald (n := L) (f := fun j => (xs j).toInt) (am_scr hLL) ⟨by (first | omega | (have z0_ := unhid h5_0; omega)), by (first | omega | (have z0_ := unhid h5_0; omega))⟩) ?_
    refine go_callq PM267 PM213 (Q' := _) rfl rfl rfl rfl (sp_X6_told_u L xs sio (d + 36) dt6 hI7 hM10  ((xs ((i + 1).toNat)).toInt) ⟨by (first | omega | (have z0_ := unhid h5_0; omega)), by (first | omega | (have z0_ := unhid h5_0; omega))⟩ ((xs ((i + 2).toNat)).toInt) ⟨by (first | omega | (have z0_ := unhid h5_0; omega)), by (first | omega | (have z0_ := unhid h5_0; omega))⟩ ((xs ((i + 3).toNat)).toInt) ⟨by (first | omega | (have z0_ := unhid h5_0; omega)), by (first | omega | (have z0_ := unhid h5_0; omega))⟩ ((xs ((i + 4).toNat)).toInt) ⟨by (first | omega | (have z0_ := unhid h5_0; omega)), by (first | omega | (have z0_ := unhid h5_0; omega))⟩ ) ?_
    rintro _ _ ⟨dt52, rfl, hI53, hF54, h51⟩
    refine ⟨rfl, ?_⟩
    have hF55 : Fr [0, 1, 2, 3, 4, 5, 6, 7, 8, 9, 10, 11, 12, 13, 14, 15, 16, 17, 18, 19, 20, 21, 22, 23, 24, 25, 26, 27, 28, 29, 30, 31, 32, 33, 34, 35, 36, 37, 38, 39, 40, 41, 42, 43, 44, 45, 46, 47, 48, 49, 50, 51, 52, 53, 54, 55, 56, 57, 58, 59, 60, 61, 62, 63, 64, 65, 66, 67, 68, 69, 70, 71, 72, 73, 74, 75, 76, 77, 78, 79, 80, 81, 82, 83, 84, 85, 86, 87, 88, 89, 90, 91, 92, 93, 94, 95, 96, 97, 98, 99, 100, 101, 102, 103, 104] dt dt52 := Fr_tr hF9 hF54 (by decide)
    have w56 : dt52 1 0 = dt6 1 0 := hF54 1 (by decide) 0
    have w57 : dt52 7 3 = dt6 7 3 := hF54 7 (by decide) 3
    have w58 : dt52 10 3 = dt6 10 3 := hF54 10 (by decide) 3
    have w59 : dt52 12 3 = dt6 12 3 := hF54 12 (by decide) 3
    have w60 : dt52 14 3 = dt6 14 3 := hF54 14 (by decide) 3
    have w61 : dt52 16 3 = dt6 16 3 := hF54 16 (by decide) 3
    have w62 : dt52 18 0 = dt6 18 0 := hF54 18 (by decide) 0
    have w63 : dt52 24 3 = dt6 24 3 := hF54 24 (by decide) 3
    have w64 : dt52 27 3 = dt6 27 3 := hF54 27 (by decide) 3
    have w65 : dt52 29 3 = dt6 29 3 := hF54 29 (by decide) 3
    have w66 : dt52 31 3 = dt6 31 3 := hF54 31 (by decide) 3
    have w67 : dt52 33 3 = dt6 33 3 := hF54 33 (by decide) 3
    have w68 : dt52 0 2 = dt6 0 2 := hF54 0 (by decide) 2
    have w69 : dt52 35 1 = dt6 35 1 := hF54 35 (by decide) 1
    have w70 : dt52 81 0 = dt6 81 0 := hF54 81 (by decide) 0
    have w71 : dt52 81 1 = dt6 81 1 := hF54 81 (by decide) 1
    have w72 : dt52 81 2 = dt6 81 2 := hF54 81 (by decide) 2
    have w73 : dt52 81 3 = dt6 81 3 := hF54 81 (by decide) 3
    have w74 : dt52 81 4 = dt6 81 4 := hF54 81 (by decide) 4
    have w75 : dt52 81 5 = dt6 81 5 := hF54 81 (by decide) 5
    have w76 : dt52 79 2 = dt6 79 2 := hF54 79 (by decide) 2
    have w77 : dt52 79 12 = dt6 79 12 := hF54 79 (by decide) 12
    rcases h51 with ⟨rfl, h51⟩ | ⟨v_h51, rfl, h51r, h51⟩
    · skip
      have hM78 : MW (dt52 80) := h51.2.1
      obtain ⟨h51_0, h51_1, h51_2, h51_3, h51_4, h51_5, h51_6, h51_7, h51_8⟩ := h51
      replace h51_0 := hid h51_0
      have M279 : MW (dt52 81) := MW_frk M238 hF54 (by decide)
      have C80 : ∀ j : Nat, dt52 15 j = dt 15 j := fun j => (hF54 15 (by decide) j).trans (C39 j)
      have C81 : ∀ j : Nat, dt52 17 j = dt 17 j := fun j => (hF54 17 (by decide) j).trans (C40 j)
      have C82 : ∀ j : Nat, dt52 32 j = dt 32 j := fun j => (hF54 32 (by decide) j).trans (C41 j)
      have C83 : ∀ j : Nat, dt52 34 j = dt 34 j := fun j => (hF54 34 (by decide) j).trans (C42 j)
      have F84 : ∀ j : Nat, 7340 ≤ j → dt52 81 j = dt 81 j := fun j hj => (hF54 81 (by decide) j).trans (F43 j hj)
      have F85 : ∀ j : Nat, 7340 ≤ j → dt52 80 j = dt 80 j := fun j hj => (h51_8 j hj).trans (F44 j hj)
      have F86 : ∀ j : Nat, dt52 81 j = dt 81 j := fun j => (hF54 81 (by decide) j).trans (F46 j)
      refine go_toq PM267 (k := 2) (pc' := 1435) (L' := [some (.inr (.inr (some 3000))), some (.inr (.inr (some 0))), some (.inr (.inr (some 79))), some (.inl i)]) (st' := []) (w' := (SH, dt52)) rfl ?_
      exact K dt52 hI53 hM78 M279 (by first | (first | omega | (have z0_ := unhid h5_0; have z1_ := unhid h51_0; omega)) | (simp only [*]; done) | simp only [*]) (by (first | omega | (have z0_ := unhid h5_0; have z1_ := unhid h51_0; omega))) (by (first | omega | (have z0_ := unhid h5_0; have z1_ := unhid h51_0; omega))) (by (first | omega | (have z0_ := unhid h5_0; have z1_ := unhid h51_0; omega))) (by (first | omega | (have z0_ := unhid h5_0; have z1_ := unhid h51_0; omega))) (by (first | omega | (have z0_ := unhid h5_0; have z1_ := unhid h51_0; omega))) (by (first | omega | (have z0_ := unhid h5_0; have z1_ := unhid h51_0; omega))) (by (first | omega | (have z0_ := unhid h5_0; have z1_ := unhid h51_0; omega))) (by (first | omega | (have z0_ := unhid h5_0; have z1_ := unhid h51_0; omega))) (by (first | omega | (have z0_ := unhid h5_0; have z1_ := unhid h51_0; omega))) (by (first | omega | (have z0_ := unhid h5_0; have z1_ := unhid h51_0; omega))) (by (first | omega | (have z0_ := unhid h5_0; have z1_ := unhid h51_0; omega))) (by (first | omega | (have z0_ := unhid h5_0; have z1_ := unhid h51_0; omega))) (by (first | omega | (have z0_ := unhid h5_0; have z1_ := unhid h51_0; omega))) (by first | exact hI | exact RW2_k hd0 C80 F85 (by decide) (by (first | omega | (have z0_ := unhid h5_0; have z1_ := unhid h51_0; omega))) | (exfalso; (first | omega | (have z0_ := unhid h5_0; have z1_ := unhid h51_0; omega)))) (by first | exact hI | exact RW2_k hd1 C82 F84 (by decide) (by (first | omega | (have z0_ := unhid h5_0; have z1_ := unhid h51_0; omega))) | (exfalso; (first | omega | (have z0_ := unhid h5_0; have z1_ := unhid h51_0; omega)))) (by first | exact hI | exact RW2_k hd2 C81 F85 (by decide) (by (first | omega | (have z0_ := unhid h5_0; have z1_ := unhid h51_0; omega))) | (exfalso; (first | omega | (have z0_ := unhid h5_0; have z1_ := unhid h51_0; omega)))) (by first | exact hI | exact RW2_k hd3 C83 F84 (by decide) (by (first | omega | (have z0_ := unhid h5_0; have z1_ := unhid h51_0; omega))) | (exfalso; (first | omega | (have z0_ := unhid h5_0; have z1_ := unhid h51_0; omega))))
    · skip
      have hM87 : MW (dt52 80) := h51.2.2.1
      obtain ⟨h51_0, h51_1, h51_2, h51_3, h51_4, h51_5, h51_6, h51_7, h51_8, h51_9⟩ := h51
      have M288 : MW (dt52 81) := MW_frk M238 hF54 (by decide)
      have C89 : ∀ j : Nat, dt52 15 j = dt 15 j := fun j => (hF54 15 (by decide) j).trans (C39 j)
      have C90 : ∀ j : Nat, dt52 17 j = dt 17 j := fun j => (hF54 17 (by decide) j).trans (C40 j)
      have C91 : ∀ j : Nat, dt52 32 j = dt 32 j := fun j => (hF54 32 (by decide) j).trans (C41 j)
      have C92 : ∀ j : Nat, dt52 34 j = dt 34 j := fun j => (hF54 34 (by decide) j).trans (C42 j)
      have F93 : ∀ j : Nat, 7340 ≤ j → dt52 81 j = dt 81 j := fun j hj => (hF54 81 (by decide) j).trans (F43 j hj)
      have F94 : ∀ j : Nat, 7340 ≤ j → dt52 80 j = dt 80 j := fun j hj => (h51_9 j hj).trans (F44 j hj)
      have F95 : ∀ j : Nat, dt52 81 j = dt 81 j := fun j => (hF54 81 (by decide) j).trans (F46 j)
      refine go_toq PM267 (k := 2) (pc' := 1435) (L' := [some (.inr (.inr (some 3000))), some (.inr (.inr (some 0))), some (.inr (.inr (some 79))), some (.inl i)]) (st' := []) (w' := (SH, dt52)) rfl ?_
      exact K dt52 hI53 hM87 M288 (by first | (first | omega | (have z0_ := unhid h5_0; omega)) | (simp only [*]; done) | simp only [*]) (by (first | omega | (have z0_ := unhid h5_0; omega))) (by (first | omega | (have z0_ := unhid h5_0; omega))) (by (first | omega | (have z0_ := unhid h5_0; omega))) (by (first | omega | (have z0_ := unhid h5_0; omega))) (by (first | omega | (have z0_ := unhid h5_0; omega))) (by (first | omega | (have z0_ := unhid h5_0; omega))) (by (first | omega | (have z0_ := unhid h5_0; omega))) (by (first | omega | (have z0_ := unhid h5_0; omega))) (by (first | omega | (have z0_ := unhid h5_0; omega))) (by (first | omega | (have z0_ := unhid h5_0; omega))) (by (first | omega | (have z0_ := unhid h5_0; omega))) (by (first | omega | (have z0_ := unhid h5_0; omega))) (by (first | omega | (have z0_ := unhid h5_0; omega))) (by first | exact hI | exact RW2_k hd0 C89 F94 (by decide) (by (first | omega | (have z0_ := unhid h5_0; omega))) | (exfalso; (first | omega | (have z0_ := unhid h5_0; omega)))) (by first | exact hI | exact RW2_k hd1 C91 F93 (by decide) (by (first | omega | (have z0_ := unhid h5_0; omega))) | (exfalso; (first | omega | (have z0_ := unhid h5_0; omega)))) (by first | exact hI | exact RW2_k hd2 C90 F94 (by decide) (by (first | omega | (have z0_ := unhid h5_0; omega))) | (exfalso; (first | omega | (have z0_ := unhid h5_0; omega)))) (by first | exact hI | exact RW2_k hd3 C92 F93 (by decide) (by (first | omega | (have z0_ := unhid h5_0; omega))) | (exfalso; (first | omega | (have z0_ := unhid h5_0; omega))))
  · skip
    obtain ⟨h5_0, h5_1, h5_2⟩ := h5
    have M296 : MW (dt6 81) := MW_frk hM2 hF8 (by decide)
    have C97 : ∀ j : Nat, dt6 15 j = dt 15 j := fun j => (hF8 15 (by decide) j).trans ((fun _ => rfl) j)
    have C98 : ∀ j : Nat, dt6 17 j = dt 17 j := fun j => (hF8 17 (by decide) j).trans ((fun _ => rfl) j)
    have C99 : ∀ j : Nat, dt6 32 j = dt 32 j := fun j => (hF8 32 (by decide) j).trans ((fun _ => rfl) j)
    have C100 : ∀ j : Nat, dt6 34 j = dt 34 j := fun j => (hF8 34 (by decide) j).trans ((fun _ => rfl) j)
    have F101 : ∀ j : Nat, 7340 ≤ j → dt6 81 j = dt 81 j := fun j hj => (hF8 81 (by decide) j).trans ((fun _ _ => rfl) j hj)
    have F102 : ∀ j : Nat, 7340 ≤ j → dt6 80 j = dt 80 j := fun j hj => (hF8 80 (by decide) j).trans ((fun _ _ => rfl) j hj)
    have F103 : ∀ j : Nat, dt6 80 j = dt 80 j := fun j => (hF8 80 (by decide) j).trans ((fun _ => rfl) j)
    have F104 : ∀ j : Nat, dt6 81 j = dt 81 j := fun j => (hF8 81 (by decide) j).trans ((fun _ => rfl) j)
    refine go_toq PM267 (k := 6) (pc' := 769) (L' := [some (.inr (.inr (some 3000))), some (.inr (.inr (some 0))), some (.inr (.inr (some 79))), some (.inl i)]) (st' := [.inl (i + 1), .inr (.inr (some 3000)), .inr (.inr (some 79))]) (w' := (SH, dt6)) rfl ?_
    have r105 := i32_R (xs ((i + 1).toNat))
    refine go_smpq PM267 (L' := [some (.inr (.inr (some 3000))), some (.inr (.inr (some 0))), some (.inr (.inr (some 79))), some (.inl i)]) (st' := [.inl ((xs ((i + 1).toNat)).toInt), .inr (.inr (some 79))]) (w' := (SH, dt6)) rfl rfl (s_iald (n := L) (f := fun j => (xs j).toInt) (am_scr hLL) ⟨by omega, by omega⟩) ?_
    refine go_toq PM267 (k := 4) (pc' := 774) (L' := [some (.inr (.inr (some 3000))), some (.inr (.inr (some 0))), some (.inr (.inr (some 79))), some (.inl i)]) (st' := [.inl (i + 2), .inr (.inr (some 3000)), .inl ((xs ((i + 1).toNat)).toInt), .inr (.inr (some 79))]) (w' := (SH, dt6)) rfl ?_
    have r106 := i32_R (xs ((i + 2).toNat))
    refine go_smpq PM267 (L' := [some (.inr (.inr (some 3000))), some (.inr (.inr (some 0))), some (.inr (.inr (some 79))), some (.inl i)]) (st' := [.inl ((xs ((i + 2).toNat)).toInt), .inl ((xs ((i + 1).toNat)).toInt), .inr (.inr (some 79))]) (w' := (SH, dt6)) rfl rfl (s_iald (n := L) (f := fun j => (xs j).toInt) (am_scr hLL) ⟨by omega, by omega⟩) ?_
    refine go_toq PM267 (k := 4) (pc' := 779) (L' := [some (.inr (.inr (some 3000))), some (.inr (.inr (some 0))), some (.inr (.inr (some 79))), some (.inl i)]) (st' := [.inl (i + 3), .inr (.inr (some 3000)), .inl ((xs ((i + 2).toNat)).toInt), .inl ((xs ((i + 1).toNat)).toInt), .inr (.inr (some 79))]) (w' := (SH, dt6)) rfl ?_
    have r107 := i32_R (xs ((i + 3).toNat))
    refine go_smpq PM267 (L' := [some (.inr (.inr (some 3000))), some (.inr (.inr (some 0))), some (.inr (.inr (some 79))), some (.inl i)]) (st' := [.inl ((xs ((i + 3).toNat)).toInt), .inl ((xs ((i + 2).toNat)).toInt), .inl ((xs ((i + 1).toNat)).toInt), .inr (.inr (some 79))]) (w' := (SH, dt6)) rfl rfl (s_iald (n := L) (f := fun j => (xs j).toInt) (am_scr hLL) ⟨by omega, by omega⟩) ?_
    refine go_toq PM267 (k := 4) (pc' := 784) (L' := [some (.inr (.inr (some 3000))), some (.inr (.inr (some 0))), some (.inr (.inr (some 79))), some (.inl i)]) (st' := [.inl (i + 4), .inr (.inr (some 3000)), .inl ((xs ((i + 3).toNat)).toInt), .inl ((xs ((i + 2).toNat)).toInt), .inl ((xs ((i + 1).toNat)).toInt), .inr (.inr (some 79))]) (w' := (SH, dt6)) rfl ?_
    have r108 := i32_R (xs ((i + 4).toNat))
    refine go_smpq PM267 (L' := [some (.inr (.inr (some 3000))), some (.inr (.inr (some 0))), some (.inr (.inr (some 79))), some (.inl i)]) (st' := [.inl ((xs ((i + 4).toNat)).toInt), .inl ((xs ((i + 3).toNat)).toInt), .inl ((xs ((i + 2).toNat)).toInt), .inl ((xs ((i + 1).toNat)).toInt), .inr (.inr (some 79))]) (w' := (SH, dt6)) rfl rfl (s_iald (n := L) (f := fun j => (xs j).toInt) (am_scr hLL) ⟨by omega, by omega⟩) ?_
    refine go_callq PM267 PM213 (Q' := _) rfl rfl rfl rfl (sp_X6_told_u L xs sio (d + 36) dt6 hI7 hM10  ((xs ((i + 1).toNat)).toInt) ⟨by omega, by omega⟩ ((xs ((i + 2).toNat)).toInt) ⟨by omega, by omega⟩ ((xs ((i + 3).toNat)).toInt) ⟨by omega, by omega⟩ ((xs ((i + 4).toNat)).toInt) ⟨by omega, by omega⟩ ) ?_
    rintro _ _ ⟨dt110, rfl, hI111, hF112, h109⟩
    refine ⟨rfl, ?_⟩
    have hF113 : Fr [0, 1, 2, 3, 4, 5, 6, 7, 8, 9, 10, 11, 12, 13, 14, 15, 16, 17, 18, 19, 20, 21, 22, 23, 24, 25, 26, 27, 28, 29, 30, 31, 32, 33, 34, 35, 36, 37, 38, 39, 40, 41, 42, 43, 44, 45, 46, 47, 48, 49, 50, 51, 52, 53, 54, 55, 56, 57, 58, 59, 60, 61, 62, 63, 64, 65, 66, 67, 68, 69, 70, 71, 72, 73, 74, 75, 76, 77, 78, 79, 80, 81, 82, 83, 84, 85, 86, 87, 88, 89, 90, 91, 92, 93, 94, 95, 96, 97, 98, 99, 100, 101, 102, 103, 104] dt dt110 := Fr_tr hF9 hF112 (by decide)
    have w114 : dt110 1 0 = dt6 1 0 := hF112 1 (by decide) 0
    have w115 : dt110 7 3 = dt6 7 3 := hF112 7 (by decide) 3
    have w116 : dt110 10 3 = dt6 10 3 := hF112 10 (by decide) 3
    have w117 : dt110 12 3 = dt6 12 3 := hF112 12 (by decide) 3
    have w118 : dt110 14 3 = dt6 14 3 := hF112 14 (by decide) 3
    have w119 : dt110 16 3 = dt6 16 3 := hF112 16 (by decide) 3
    have w120 : dt110 18 0 = dt6 18 0 := hF112 18 (by decide) 0
    have w121 : dt110 24 3 = dt6 24 3 := hF112 24 (by decide) 3
    have w122 : dt110 27 3 = dt6 27 3 := hF112 27 (by decide) 3
    have w123 : dt110 29 3 = dt6 29 3 := hF112 29 (by decide) 3
    have w124 : dt110 31 3 = dt6 31 3 := hF112 31 (by decide) 3
    have w125 : dt110 33 3 = dt6 33 3 := hF112 33 (by decide) 3
    have w126 : dt110 0 2 = dt6 0 2 := hF112 0 (by decide) 2
    have w127 : dt110 35 1 = dt6 35 1 := hF112 35 (by decide) 1
    have w128 : dt110 81 0 = dt6 81 0 := hF112 81 (by decide) 0
    have w129 : dt110 81 1 = dt6 81 1 := hF112 81 (by decide) 1
    have w130 : dt110 81 2 = dt6 81 2 := hF112 81 (by decide) 2
    have w131 : dt110 81 3 = dt6 81 3 := hF112 81 (by decide) 3
    have w132 : dt110 81 4 = dt6 81 4 := hF112 81 (by decide) 4
    have w133 : dt110 81 5 = dt6 81 5 := hF112 81 (by decide) 5
    have w134 : dt110 79 2 = dt6 79 2 := hF112 79 (by decide) 2
    have w135 : dt110 79 12 = dt6 79 12 := hF112 79 (by decide) 12
    rcases h109 with ⟨rfl, h109⟩ | ⟨v_h109, rfl, h109r, h109⟩
    · skip
      have hM136 : MW (dt110 80) := h109.2.1
      obtain ⟨h109_0, h109_1, h109_2, h109_3, h109_4, h109_5, h109_6, h109_7, h109_8⟩ := h109
      replace h109_0 := hid h109_0
      have M2137 : MW (dt110 81) := MW_frk M296 hF112 (by decide)
      have C138 : ∀ j : Nat, dt110 15 j = dt 15 j := fun j => (hF112 15 (by decide) j).trans (C97 j)
      have C139 : ∀ j : Nat, dt110 17 j = dt 17 j := fun j => (hF112 17 (by decide) j).trans (C98 j)
      have C140 : ∀ j : Nat, dt110 32 j = dt 32 j := fun j => (hF112 32 (by decide) j).trans (C99 j)
      have C141 : ∀ j : Nat, dt110 34 j = dt 34 j := fun j => (hF112 34 (by decide) j).trans (C100 j)
      have F142 : ∀ j : Nat, 7340 ≤ j → dt110 81 j = dt 81 j := fun j hj => (hF112 81 (by decide) j).trans (F101 j hj)
      have F143 : ∀ j : Nat, 7340 ≤ j → dt110 80 j = dt 80 j := fun j hj => (h109_8 j hj).trans (F102 j hj)
      have F144 : ∀ j : Nat, dt110 81 j = dt 81 j := fun j => (hF112 81 (by decide) j).trans (F104 j)
      refine go_toq PM267 (k := 2) (pc' := 1435) (L' := [some (.inr (.inr (some 3000))), some (.inr (.inr (some 0))), some (.inr (.inr (some 79))), some (.inl i)]) (st' := []) (w' := (SH, dt110)) rfl ?_
      exact K dt110 hI111 hM136 M2137 (by first | (first | omega | (have z0_ := unhid h109_0; omega)) | (simp only [*]; done) | simp only [*]) (by (first | omega | (have z0_ := unhid h109_0; omega))) (by (first | omega | (have z0_ := unhid h109_0; omega))) (by (first | omega | (have z0_ := unhid h109_0; omega))) (by (first | omega | (have z0_ := unhid h109_0; omega))) (by (first | omega | (have z0_ := unhid h109_0; omega))) (by (first | omega | (have z0_ := unhid h109_0; omega))) (by (first | omega | (have z0_ := unhid h109_0; omega))) (by (first | omega | (have z0_ := unhid h109_0; omega))) (by (first | omega | (have z0_ := unhid h109_0; omega))) (by (first | omega | (have z0_ := unhid h109_0; omega))) (by (first | omega | (have z0_ := unhid h109_0; omega))) (by (first | omega | (have z0_ := unhid h109_0; omega))) (by (first | omega | (have z0_ := unhid h109_0; omega))) (by first | exact hI | exact RW2_k hd0 C138 F143 (by decide) (by (first | omega | (have z0_ := unhid h109_0; omega))) | (exfalso; (first | omega | (have z0_ := unhid h109_0; omega)))) (by first | exact hI | exact RW2_k hd1 C140 F142 (by decide) (by (first | omega | (have z0_ := unhid h109_0; omega))) | (exfalso; (first | omega | (have z0_ := unhid h109_0; omega)))) (by first | exact hI | exact RW2_k hd2 C139 F143 (by decide) (by (first | omega | (have z0_ := unhid h109_0; omega))) | (exfalso; (first | omega | (have z0_ := unhid h109_0; omega)))) (by first | exact hI | exact RW2_k hd3 C141 F142 (by decide) (by (first | omega | (have z0_ := unhid h109_0; omega))) | (exfalso; (first | omega | (have z0_ := unhid h109_0; omega))))
    · skip
      have hM145 : MW (dt110 80) := h109.2.2.1
      obtain ⟨h109_0, h109_1, h109_2, h109_3, h109_4, h109_5, h109_6, h109_7, h109_8, h109_9⟩ := h109
      have M2146 : MW (dt110 81) := MW_frk M296 hF112 (by decide)
      have C147 : ∀ j : Nat, dt110 15 j = dt 15 j := fun j => (hF112 15 (by decide) j).trans (C97 j)
      have C148 : ∀ j : Nat, dt110 17 j = dt 17 j := fun j => (hF112 17 (by decide) j).trans (C98 j)
      have C149 : ∀ j : Nat, dt110 32 j = dt 32 j := fun j => (hF112 32 (by decide) j).trans (C99 j)
      have C150 : ∀ j : Nat, dt110 34 j = dt 34 j := fun j => (hF112 34 (by decide) j).trans (C100 j)
      have F151 : ∀ j : Nat, 7340 ≤ j → dt110 81 j = dt 81 j := fun j hj => (hF112 81 (by decide) j).trans (F101 j hj)
      have F152 : ∀ j : Nat, 7340 ≤ j → dt110 80 j = dt 80 j := fun j hj => (h109_9 j hj).trans (F102 j hj)
      have F153 : ∀ j : Nat, dt110 81 j = dt 81 j := fun j => (hF112 81 (by decide) j).trans (F104 j)
      refine go_toq PM267 (k := 2) (pc' := 1435) (L' := [some (.inr (.inr (some 3000))), some (.inr (.inr (some 0))), some (.inr (.inr (some 79))), some (.inl i)]) (st' := []) (w' := (SH, dt110)) rfl ?_
      exact K dt110 hI111 hM145 M2146 (by first | omega | (simp only [*]; done) | simp only [*]) (by omega) (by omega) (by omega) (by omega) (by omega) (by omega) (by omega) (by omega) (by omega) (by omega) (by omega) (by omega) (by omega) (by first | exact hI | exact RW2_k hd0 C147 F152 (by decide) (by omega) | (exfalso; omega)) (by first | exact hI | exact RW2_k hd1 C149 F151 (by decide) (by omega) | (exfalso; omega)) (by first | exact hI | exact RW2_k hd2 C148 F152 (by decide) (by omega) | (exfalso; omega)) (by first | exact hI | exact RW2_k hd3 C150 F151 (by decide) (by omega) | (exfalso; omega))
set_option maxRecDepth 20000 in
set_option maxHeartbeats 8000000 in
theorem sp_case14 (L : Nat) (xs : Nat → Int32) (sio : Option Nat) (d : Nat) (Q : Option AV → am_W → Prop) (hLL : L ≤ 3072) (i : Int) (hi : 0 ≤ i ∧ i ≤ 3066) (hil : i ≤ (L : Int) - 6) (dt : Nat → Nat → Int) (hI : InvC dt) (hM : MW (dt 80)) (hM2 : MW (dt 81)) (hk0 : dt 1 0 = dt 80 0) (hk1 : dt 7 3 = dt 80 1) (hk2 : dt 10 3 = dt 80 2) (hk3 : dt 12 3 = dt 80 3) (hk4 : dt 14 3 = dt 80 4) (hk5 : dt 16 3 = dt 80 5) (hk6 : dt 18 0 = dt 81 0) (hk7 : dt 24 3 = dt 81 1) (hk8 : dt 27 3 = dt 81 2) (hk9 : dt 29 3 = dt 81 3) (hk10 : dt 31 3 = dt 81 4) (hk11 : dt 33 3 = dt 81 5) (hk12 : dt 0 2 = dt 79 2) (hk13 : dt 35 1 = dt 79 12) (hd0 : RW2 (dt 15) (dt 80) (dt 80 4) 7340) (hd1 : RW2 (dt 32) (dt 81) (dt 81 4) 7340) (hd2 : RW2 (dt 17) (dt 80) (dt 80 5) 7420) (hd3 : RW2 (dt 34) (dt 81) (dt 81 5) 7420) (K : ∀ (dt : Nat → Nat → Int) (hI : InvC dt) (hM : MW (dt 80)) (hM2 : MW (dt 81)) (hk0 : dt 1 0 = dt 80 0) (hk1 : dt 7 3 = dt 80 1) (hk2 : dt 10 3 = dt 80 2) (hk3 : dt 12 3 = dt 80 3) (hk4 : dt 14 3 = dt 80 4) (hk5 : dt 16 3 = dt 80 5) (hk6 : dt 18 0 = dt 81 0) (hk7 : dt 24 3 = dt 81 1) (hk8 : dt 27 3 = dt 81 2) (hk9 : dt 29 3 = dt 81 3) (hk10 : dt 31 3 = dt 81 4) (hk11 : dt 33 3 = dt 81 5) (hk12 : dt 0 2 = dt 79 2) (hk13 : dt 35 1 = dt 79 12) (hd0 : RW2 (dt 15) (dt 80) (dt 80 4) 7340) (hd1 : RW2 (dt 32) (dt 81) (dt 81 4) 7340) (hd2 : RW2 (dt 17) (dt 80) (dt 80 5) 7420) (hd3 : RW2 (dt 34) (dt 81) (dt 81 5) 7420), GO (am_XX L xs sio) (d + 39) 267 1435 [some (.inr (.inr (some 3000))), some (.inr (.inr (some 0))), some (.inr (.inr (some 79))), some (.inl i)] [] (SH, dt) Q) : GO (am_XX L xs sio) (d + 39) 267 792 [some (.inr (.inr (some 3000))), some (.inr (.inr (some 0))), some (.inr (.inr (some 79))), some (.inl i)] [] (SH, dt) Q := by
  have hF : Fr [0, 1, 2, 3, 4, 5, 6, 7, 8, 9, 10, 11, 12, 13, 14, 15, 16, 17, 18, 19, 20, 21, 22, 23, 24, 25, 26, 27, 28, 29, 30, 31, 32, 33, 34, 35, 36, 37, 38, 39, 40, 41, 42, 43, 44, 45, 46, 47, 48, 49, 50, 51, 52, 53, 54, 55, 56, 57, 58, 59, 60, 61, 62, 63, 64, 65, 66, 67, 68, 69, 70, 71, 72, 73, 74, 75, 76, 77, 78, 79, 80, 81, 82, 83, 84, 85, 86, 87, 88, 89, 90, 91, 92, 93, 94, 95, 96, 97, 98, 99, 100, 101, 102, 103, 104] dt dt := Fr_refl
  have hmn := MW_n hM
  have hmn2 := MW_n hM2
  refine go_toq PM267 (k := 5) (pc' := 797) (L' := [some (.inr (.inr (some 3000))), some (.inr (.inr (some 0))), some (.inr (.inr (some 79))), some (.inl i)]) (st' := [.inl (i + 1), .inr (.inr (some 3000)), .inr (.inr (some 0))]) (w' := (SH, dt)) rfl ?_
  have r1 := i32_R (xs ((i + 1).toNat))
  refine go_smpq PM267 (L' := [some (.inr (.inr (some 3000))), some (.inr (.inr (some 0))), some (.inr (.inr (some 79))), some (.inl i)]) (st' := [.inl ((xs ((i + 1).toNat)).toInt), .inr (.inr (some 0))]) (w' := (SH, dt)) rfl rfl (s_iald (n := L) (f := fun j => (xs j).toInt) (am_scr hLL) ⟨by omega, by omega⟩) ?_
  refine go_toq PM267 (k := 4) (pc' := 802) (L' := [some (.inr (.inr (some 3000))), some (.inr (.inr (some 0))), some (.inr (.inr (some 79))), some (.inl i)]) (st' := [.inl (i + 2), .inr (.inr (some 3000)), .inl ((xs ((i + 1).toNat)).toInt), .inr (.inr (some 0))]) (w' := (SH, dt)) rfl ?_
  have r2 := i32_R (xs ((i + 2).toNat))
  refine go_smpq PM267 (L' := [some (.inr (.inr (some 3000))), some (.inr (.inr (some 0))), some (.inr (.inr (some 79))), some (.inl i)]) (st' := [.inl ((xs ((i + 2).toNat)).toInt), .inl ((xs ((i + 1).toNat)).toInt), .inr (.inr (some 0))]) (w' := (SH, dt)) rfl rfl (s_iald (n := L) (f := fun j => (xs j).toInt) (am_scr hLL) ⟨by omega, by omega⟩) ?_
  refine go_callq PM267 PM81 (Q' := _) rfl rfl rfl rfl (sp_X5_answer L xs sio (d + 36) dt hI  ((xs ((i + 1).toNat)).toInt) ⟨by omega, by omega⟩ ((xs ((i + 2).toNat)).toInt) ⟨by omega, by omega⟩ ) ?_
  rintro _ _ ⟨rfl, h3⟩
  refine ⟨rfl, ?_⟩
  rcases h3 with ⟨v_h3, rfl, h3r, h3⟩
  refine go_toq PM267 (k := 6) (pc' := 812) (L' := [some (.inr (.inr (some 3000))), some (.inr (.inr (some 0))), some (.inr (.inr (some 79))), some (.inl i)]) (st' := [.inl (i + 1), .inr (.inr (some 3000)), .inr (.inr (some 79))]) (w' := (SH, dt)) rfl ?_
  refine go_smpq PM267 (L' := [some (.inr (.inr (some 3000))), some (.inr (.inr (some 0))), some (.inr (.inr (some 79))), some (.inl i)]) (st' := [.inl ((xs ((i + 1).toNat)).toInt), .inr (.inr (some 79))]) (w' := (SH, dt)) rfl rfl (s_iald (n := L) (f := fun j => (xs j).toInt) (am_scr hLL) ⟨by omega, by omega⟩) ?_
  refine go_toq PM267 (k := 4) (pc' := 817) (L' := [some (.inr (.inr (some 3000))), some (.inr (.inr (some 0))), some (.inr (.inr (some 79))), some (.inl i)]) (st' := [.inl (i + 2), .inr (.inr (some 3000)), .inl ((xs ((i + 1).toNat)).toInt), .inr (.inr (some 79))]) (w' := (SH, dt)) rfl ?_
  refine go_smpq PM267 (L' := [some (.inr (.inr (some 3000))), some (.inr (.inr (some 0))), some (.inr (.inr (some 79))), some (.inl i)]) (st' := [.inl ((xs ((i + 2).toNat)).toInt), .inl ((xs ((i + 1).toNat)).toInt), .inr (.inr (some 79))]) (w' := (SH, dt)) rfl rfl (s_iald (n := L) (f := fun j => (xs j).toInt) (am_scr hLL) ⟨by omega, by omega⟩) ?_
  refine go_callq PM267 PM214 (Q' := _) rfl rfl rfl rfl (sp_X6_answer L xs sio (d + 37) dt hI hM  ((xs ((i + 1).toNat)).toInt) ⟨by omega, by omega⟩ ((xs ((i + 2).toNat)).toInt) ⟨by omega, by omega⟩ ) ?_
  rintro _ _ ⟨rfl, h4⟩
  refine ⟨rfl, ?_⟩
  rcases h4 with ⟨v_h4, rfl, h4r, h4⟩
  refine go_toq PM267 (k := 2) (pc' := 1435) (L' := [some (.inr (.inr (some 3000))), some (.inr (.inr (some 0))), some (.inr (.inr (some 79))), some (.inl i)]) (st' := []) (w' := (SH, dt)) rfl ?_
  exact K dt hI hM hM2 (by first | omega | (simp only [*]; done) | simp only [*]) (by omega) (by omega) (by omega) (by omega) (by omega) (by omega) (by omega) (by omega) (by omega) (by omega) (by omega) (by omega) (by omega) (by first | exact hI | exact RW2_k hd0 (fun _ => rfl) (fun _ _ => rfl) (by decide) (by omega) | (exfalso; omega)) (by first | exact hI | exact RW2_k hd1 (fun _ => rfl) (fun _ _ => rfl) (by decide) (by omega) | (exfalso; omega)) (by first | exact hI | exact RW2_k hd2 (fun _ => rfl) (fun _ _ => rfl) (by decide) (by omega) | (exfalso; omega)) (by first | exact hI | exact RW2_k hd3 (fun _ => rfl) (fun _ _ => rfl) (by decide) (by omega) | (exfalso; omega))
set_option maxRecDepth 20000 in
set_option maxHeartbeats 8000000 in
theorem sp_case15 (L : Nat) (xs : Nat → Int32) (sio : Option Nat) (d : Nat) (Q : Option AV → am_W → Prop) (hLL : L ≤ 3072) (i : Int) (hi : 0 ≤ i ∧ i ≤ 3066) (hil : i ≤ (L : Int) - 6) (dt : Nat → Nat → Int) (hI : InvC dt) (hM : MW (dt 80)) (hM2 : MW (dt 81)) (hk0 : dt 1 0 = dt 80 0) (hk1 : dt 7 3 = dt 80 1) (hk2 : dt 10 3 = dt 80 2) (hk3 : dt 12 3 = dt 80 3) (hk4 : dt 14 3 = dt 80 4) (hk5 : dt 16 3 = dt 80 5) (hk6 : dt 18 0 = dt 81 0) (hk7 : dt 24 3 = dt 81 1) (hk8 : dt 27 3 = dt 81 2) (hk9 : dt 29 3 = dt 81 3) (hk10 : dt 31 3 = dt 81 4) (hk11 : dt 33 3 = dt 81 5) (hk12 : dt 0 2 = dt 79 2) (hk13 : dt 35 1 = dt 79 12) (hd0 : RW2 (dt 15) (dt 80) (dt 80 4) 7340) (hd1 : RW2 (dt 32) (dt 81) (dt 81 4) 7340) (hd2 : RW2 (dt 17) (dt 80) (dt 80 5) 7420) (hd3 : RW2 (dt 34) (dt 81) (dt 81 5) 7420) (K : ∀ (dt : Nat → Nat → Int) (hI : InvC dt) (hM : MW (dt 80)) (hM2 : MW (dt 81)) (hk0 : dt 1 0 = dt 80 0) (hk1 : dt 7 3 = dt 80 1) (hk2 : dt 10 3 = dt 80 2) (hk3 : dt 12 3 = dt 80 3) (hk4 : dt 14 3 = dt 80 4) (hk5 : dt 16 3 = dt 80 5) (hk6 : dt 18 0 = dt 81 0) (hk7 : dt 24 3 = dt 81 1) (hk8 : dt 27 3 = dt 81 2) (hk9 : dt 29 3 = dt 81 3) (hk10 : dt 31 3 = dt 81 4) (hk11 : dt 33 3 = dt 81 5) (hk12 : dt 0 2 = dt 79 2) (hk13 : dt 35 1 = dt 79 12) (hd0 : RW2 (dt 15) (dt 80) (dt 80 4) 7340) (hd1 : RW2 (dt 32) (dt 81) (dt 81 4) 7340) (hd2 : RW2 (dt 17) (dt 80) (dt 80 5) 7420) (hd3 : RW2 (dt 34) (dt 81) (dt 81 5) 7420), GO (am_XX L xs sio) (d + 39) 267 1435 [some (.inr (.inr (some 3000))), some (.inr (.inr (some 0))), some (.inr (.inr (some 79))), some (.inl i)] [] (SH, dt) Q) : GO (am_XX L xs sio) (d + 39) 267 825 [some (.inr (.inr (some 3000))), some (.inr (.inr (some 0))), some (.inr (.inr (some 79))), some (.inl i)] [] (SH, dt) Q := by
  have hF : Fr [0, 1, 2, 3, 4, 5, 6, 7, 8, 9, 10, 11, 12, 13, 14, 15, 16, 17, 18, 19, 20, 21, 22, 23, 24, 25, 26, 27, 28, 29, 30, 31, 32, 33, 34, 35, 36, 37, 38, 39, 40, 41, 42, 43, 44, 45, 46, 47, 48, 49, 50, 51, 52, 53, 54, 55, 56, 57, 58, 59, 60, 61, 62, 63, 64, 65, 66, 67, 68, 69, 70, 71, 72, 73, 74, 75, 76, 77, 78, 79, 80, 81, 82, 83, 84, 85, 86, 87, 88, 89, 90, 91, 92, 93, 94, 95, 96, 97, 98, 99, 100, 101, 102, 103, 104] dt dt := Fr_refl
  have hmn := MW_n hM
  have hmn2 := MW_n hM2
  refine go_toq PM267 (k := 5) (pc' := 830) (L' := [some (.inr (.inr (some 3000))), some (.inr (.inr (some 0))), some (.inr (.inr (some 79))), some (.inl i)]) (st' := [.inl (i + 1), .inr (.inr (some 3000)), .inr (.inr (some 0))]) (w' := (SH, dt)) rfl ?_
  have r1 := i32_R (xs ((i + 1).toNat))
  refine go_smpq PM267 (L' := [some (.inr (.inr (some 3000))), some (.inr (.inr (some 0))), some (.inr (.inr (some 79))), some (.inl i)]) (st' := [.inl ((xs ((i + 1).toNat)).toInt), .inr (.inr (some 0))]) (w' := (SH, dt)) rfl rfl (s_iald (n := L) (f := fun j => (xs j).toInt) (am_scr hLL) ⟨by omega, by omega⟩) ?_
  refine go_toq PM267 (k := 4) (pc' := 835) (L' := [some (.inr (.inr (some 3000))), some (.inr (.inr (some 0))), some (.inr (.inr (some 79))), some (.inl i)]) (st' := [.inl (i + 2), .inr (.inr (some 3000)), .inl ((xs ((i + 1).toNat)).toInt), .inr (.inr (some 0))]) (w' := (SH, dt)) rfl ?_
  have r2 := i32_R (xs ((i + 2).toNat))
  refine go_smpq PM267 (L' := [some (.inr (.inr (some 3000))), some (.inr (.inr (some 0))), some (.inr (.inr (some 79))), some (.inl i)]) (st' := [.inl ((xs ((i + 2).toNat)).toInt), .inl ((xs ((i + 1).toNat)).toInt), .inr (.inr (some 0))]) (w' := (SH, dt)) rfl rfl (s_iald (n := L) (f := fun j => (xs j).toInt) (am_scr hLL) ⟨by omega, by omega⟩) ?_
  refine go_toq PM267 (k := 4) (pc' := 840) (L' := [some (.inr (.inr (some 3000))), some (.inr (.inr (some 0))), some (.inr (.inr (some 79))), some (.inl i)]) (st' := [.inl (i + 3), .inr (.inr (some 3000)), .inl ((xs ((i + 2).toNat)).toInt), .inl ((xs ((i + 1).toNat)).toInt), .inr (.inr (some 0))]) (w' := (SH, dt)) rfl ?_
  have r3 := i32_R (xs ((i + 3).toNat))
  refine go_smpq PM267 (L' := [some (.inr (.inr (some 3000))), some (.inr (.inr (some 0))), some (.inr (.inr (some 79))), some (.inl i)]) (st' := [.inl ((xs ((i + 3).toNat)).toInt), .inl ((xs ((i + 2).toNat)).toInt), .inl ((xs ((i + 1).toNat)).toInt), .inr (.inr (some 0))]) (w' := (SH, dt)) rfl rfl (s_iald (n := L) (f := fun j => (xs j).toInt) (am_scr hLL) ⟨by omega, by omega⟩) ?_
  refine go_toq PM267 (k := 4) (pc' := 845) (L' := [some (.inr (.inr (some 3000))), some (.inr (.inr (some 0))), some (.inr (.inr (some 79))), some (.inl i)]) (st' := [.inl (i + 4), .inr (.inr (some 3000)), .inl ((xs ((i + 3).toNat)).toInt), .inl ((xs ((i + 2).toNat)).toInt), .inl ((xs ((i + 1).toNat)).toInt), .inr (.inr (some 0))]) (w' := (SH, dt)) rfl ?_
  have r4 := i32_R (xs ((i + 4).toNat))
  refine go_smpq PM267 (L' := [some (.inr (.inr (some 3000))), some (.inr (.inr (some 0))), some (.inr (.inr (some 79))), some (.inl i)]) (st' := [.inl ((xs ((i + 4).toNat)).toInt), .inl ((xs ((i + 3).toNat)).toInt), .inl ((xs ((i + 2).toNat)).toInt), .inl ((xs ((i + 1).toNat)).toInt), .inr (.inr (some 0))]) (w' := (SH, dt)) rfl rfl (s_iald (n := L) (f := fun j => (xs j).toInt) (am_scr hLL) ⟨by omega, by omega⟩) ?_
  refine go_toq PM267 (k := 4) (pc' := 850) (L' := [some (.inr (.inr (some 3000))), some (.inr (.inr (some 0))), some (.inr (.inr (some 79))), some (.inl i)]) (st' := [.inl (i + 5), .inr (.inr (some 3000)), .inl ((xs ((i + 4).toNat)).toInt), .inl ((xs ((i + 3).toNat)).toInt), .inl ((xs ((i + 2).toNat)).toInt), .inl ((xs ((i + 1).toNat)).toInt), .inr (.inr (some 0))]) (w' := (SH, dt)) rfl ?_
  have r5 := i32_R (xs ((i + 5).toNat))
  refine go_smpq PM267 (L' := [some (.inr (.inr (some 3000))), some (.inr (.inr (some 0))), some (.inr (.inr (some 79))), some (.inl i)]) (st' := [.inl ((xs ((i + 5).toNat)).toInt), .inl ((xs ((i + 4).toNat)).toInt), .inl ((xs ((i + 3).toNat)).toInt), .inl ((xs ((i + 2).toNat)).toInt), .inl ((xs ((i + 1).toNat)).toInt), .inr (.inr (some 0))]) (w' := (SH, dt)) rfl rfl (s_iald (n := L) (f := fun j => (xs j).toInt) (am_scr hLL) ⟨by omega, by omega⟩) ?_
  refine go_callq PM267 PM82 (Q' := _) rfl rfl rfl rfl (sp_X5_chance L xs sio (d + 33) dt hI  ((xs ((i + 1).toNat)).toInt) ⟨by omega, by omega⟩ ((xs ((i + 2).toNat)).toInt) ⟨by omega, by omega⟩ ((xs ((i + 3).toNat)).toInt) ⟨by omega, by omega⟩ ((xs ((i + 4).toNat)).toInt) ⟨by omega, by omega⟩ ((xs ((i + 5).toNat)).toInt) ⟨by omega, by omega⟩ ) ?_
  rintro _ _ ⟨dt7, rfl, hI8, hF9, h6⟩
  refine ⟨rfl, ?_⟩
  have hF10 : Fr [0, 1, 2, 3, 4, 5, 6, 7, 8, 9, 10, 11, 12, 13, 14, 15, 16, 17, 18, 19, 20, 21, 22, 23, 24, 25, 26, 27, 28, 29, 30, 31, 32, 33, 34, 35, 36, 37, 38, 39, 40, 41, 42, 43, 44, 45, 46, 47, 48, 49, 50, 51, 52, 53, 54, 55, 56, 57, 58, 59, 60, 61, 62, 63, 64, 65, 66, 67, 68, 69, 70, 71, 72, 73, 74, 75, 76, 77, 78, 79, 80, 81, 82, 83, 84, 85, 86, 87, 88, 89, 90, 91, 92, 93, 94, 95, 96, 97, 98, 99, 100, 101, 102, 103, 104] dt dt7 := Fr_tr hF hF9 (by decide)
  have hM11 : MW (dt7 80) := MW_fr hM hF9 (by decide)
  have w12 : dt7 1 0 = dt 1 0 := hF9 1 (by decide) 0
  have w13 : dt7 7 3 = dt 7 3 := hF9 7 (by decide) 3
  have w14 : dt7 10 3 = dt 10 3 := hF9 10 (by decide) 3
  have w15 : dt7 12 3 = dt 12 3 := hF9 12 (by decide) 3
  have w16 : dt7 14 3 = dt 14 3 := hF9 14 (by decide) 3
  have w17 : dt7 16 3 = dt 16 3 := hF9 16 (by decide) 3
  have w18 : dt7 18 0 = dt 18 0 := hF9 18 (by decide) 0
  have w19 : dt7 24 3 = dt 24 3 := hF9 24 (by decide) 3
  have w20 : dt7 27 3 = dt 27 3 := hF9 27 (by decide) 3
  have w21 : dt7 29 3 = dt 29 3 := hF9 29 (by decide) 3
  have w22 : dt7 31 3 = dt 31 3 := hF9 31 (by decide) 3
  have w23 : dt7 33 3 = dt 33 3 := hF9 33 (by decide) 3
  have w24 : dt7 0 2 = dt 0 2 := hF9 0 (by decide) 2
  have w25 : dt7 35 1 = dt 35 1 := hF9 35 (by decide) 1
  have w26 : dt7 80 0 = dt 80 0 := hF9 80 (by decide) 0
  have w27 : dt7 80 1 = dt 80 1 := hF9 80 (by decide) 1
  have w28 : dt7 80 2 = dt 80 2 := hF9 80 (by decide) 2
  have w29 : dt7 80 3 = dt 80 3 := hF9 80 (by decide) 3
  have w30 : dt7 80 4 = dt 80 4 := hF9 80 (by decide) 4
  have w31 : dt7 80 5 = dt 80 5 := hF9 80 (by decide) 5
  have w32 : dt7 81 0 = dt 81 0 := hF9 81 (by decide) 0
  have w33 : dt7 81 1 = dt 81 1 := hF9 81 (by decide) 1
  have w34 : dt7 81 2 = dt 81 2 := hF9 81 (by decide) 2
  have w35 : dt7 81 3 = dt 81 3 := hF9 81 (by decide) 3
  have w36 : dt7 81 4 = dt 81 4 := hF9 81 (by decide) 4
  have w37 : dt7 81 5 = dt 81 5 := hF9 81 (by decide) 5
  have w38 : dt7 79 2 = dt 79 2 := hF9 79 (by decide) 2
  have w39 : dt7 79 12 = dt 79 12 := hF9 79 (by decide) 12
  rcases h6 with ⟨v_h6, rfl, h6r, h6⟩
  have M240 : MW (dt7 81) := MW_frk hM2 hF9 (by decide)
  have C41 : ∀ j : Nat, dt7 15 j = dt 15 j := fun j => (hF9 15 (by decide) j).trans ((fun _ => rfl) j)
  have C42 : ∀ j : Nat, dt7 17 j = dt 17 j := fun j => (hF9 17 (by decide) j).trans ((fun _ => rfl) j)
  have C43 : ∀ j : Nat, dt7 32 j = dt 32 j := fun j => (hF9 32 (by decide) j).trans ((fun _ => rfl) j)
  have C44 : ∀ j : Nat, dt7 34 j = dt 34 j := fun j => (hF9 34 (by decide) j).trans ((fun _ => rfl) j)
  have F45 : ∀ j : Nat, 7340 ≤ j → dt7 81 j = dt 81 j := fun j hj => (hF9 81 (by decide) j).trans ((fun _ _ => rfl) j hj)
  have F46 : ∀ j : Nat, 7340 ≤ j → dt7 80 j = dt 80 j := fun j hj => (hF9 80 (by decide) j).trans ((fun _ _ => rfl) j hj)
  have F47 : ∀ j : Nat, dt7 80 j = dt 80 j := fun j => (hF9 80 (by decide) j).trans ((fun _ => rfl) j)
  have F48 : ∀ j : Nat, dt7 81 j = dt 81 j := fun j => (hF9 81 (by decide) j).trans ((fun _ => rfl) j)
  refine go_toq PM267 (k := 6) (pc' := 860) (L' := [some (.inr (.inr (some 3000))), some (.inr (.inr (some 0))), some (.inr (.inr (some 79))), some (.inl i)]) (st' := [.inl (i + 1), .inr (.inr (some 3000)), .inr (.inr (some 79))]) (w' := (SH, dt7)) rfl ?_
  have r49 := i32_R (xs ((i + 1).toNat))
  refine go_smpq PM267 (L' := [some (.inr (.inr (some 3000))), some (.inr (.inr (some 0))), some (.inr (.inr (some 79))), some (.inl i)]) (st' := [.inl ((xs ((i + 1).toNat)).toInt), .inr (.inr (some 79))]) (w' := (SH, dt7)) rfl rfl (s_iald (n := L) (f := fun j => (xs j).toInt) (am_scr hLL) ⟨by omega, by omega⟩) ?_
  refine go_toq PM267 (k := 4) (pc' := 865) (L' := [some (.inr (.inr (some 3000))), some (.inr (.inr (some 0))), some (.inr (.inr (some 79))), some (.inl i)]) (st' := [.inl (i + 2), .inr (.inr (some 3000)), .inl ((xs ((i + 1).toNat)).toInt), .inr (.inr (some 79))]) (w' := (SH, dt7)) rfl ?_
  have r50 := i32_R (xs ((i + 2).toNat))
  refine go_smpq PM267 (L' := [some (.inr (.inr (some 3000))), some (.inr (.inr (some 0))), some (.inr (.inr (some 79))), some (.inl i)]) (st' := [.inl ((xs ((i + 2).toNat)).toInt), .inl ((xs ((i + 1).toNat)).toInt), .inr (.inr (some 79))]) (w' := (SH, dt7)) rfl rfl (s_iald (n := L) (f := fun j => (xs j).toInt) (am_scr hLL) ⟨by omega, by omega⟩) ?_
  refine go_toq PM267 (k := 4) (pc' := 870) (L' := [some (.inr (.inr (some 3000))), some (.inr (.inr (some 0))), some (.inr (.inr (some 79))), some (.inl i)]) (st' := [.inl (i + 3), .inr (.inr (some 3000)), .inl ((xs ((i + 2).toNat)).toInt), .inl ((xs ((i + 1).toNat)).toInt), .inr (.inr (some 79))]) (w' := (SH, dt7)) rfl ?_
  have r51 := i32_R (xs ((i + 3).toNat))
  refine go_smpq PM267 (L' := [some (.inr (.inr (some 3000))), some (.inr (.inr (some 0))), some (.inr (.inr (some 79))), some (.inl i)]) (st' := [.inl ((xs ((i + 3).toNat)).toInt), .inl ((xs ((i + 2).toNat)).toInt), .inl ((xs ((i + 1).toNat)).toInt), .inr (.inr (some 79))]) (w' := (SH, dt7)) rfl rfl (s_iald (n := L) (f := fun j => (xs j).toInt) (am_scr hLL) ⟨by omega, by omega⟩) ?_
  refine go_toq PM267 (k := 4) (pc' := 875) (L' := [some (.inr (.inr (some 3000))), some (.inr (.inr (some 0))), some (.inr (.inr (some 79))), some (.inl i)]) (st' := [.inl (i + 4), .inr (.inr (some 3000)), .inl ((xs ((i + 3).toNat)).toInt), .inl ((xs ((i + 2).toNat)).toInt), .inl ((xs ((i + 1).toNat)).toInt), .inr (.inr (some 79))]) (w' := (SH, dt7)) rfl ?_
  have r52 := i32_R (xs ((i + 4).toNat))
  refine go_smpq PM267 (L' := [some (.inr (.inr (some 3000))), some (.inr (.inr (some 0))), some (.inr (.inr (some 79))), some (.inl i)]) (st' := [.inl ((xs ((i + 4).toNat)).toInt), .inl ((xs ((i + 3).toNat)).toInt), .inl ((xs ((i + 2).toNat)).toInt), .inl ((xs ((i + 1).toNat)).toInt), .inr (.inr (some 79))]) (w' := (SH, dt7)) rfl rfl (s_iald (n := L) (f := fun j => (xs j).toInt) (am_scr hLL) ⟨by omega, by omega⟩) ?_
  refine go_toq PM267 (k := 4) (pc' := 880) (L' := [some (.inr (.inr (some 3000))), some (.inr (.inr (some 0))), some (.inr (.inr (some 79))), some (.inl i)]) (st' := [.inl (i + 5), .inr (.inr (some 3000)), .inl ((xs ((i + 4).toNat)).toInt), .inl ((xs ((i + 3).toNat)).toInt), .inl ((xs ((i + 2).toNat)).toInt), .inl ((xs ((i + 1).toNat)).toInt), .inr (.inr (some 79))]) (w' := (SH, dt7)) rfl ?_
  have r53 := i32_R (xs ((i + 5).toNat))
  refine go_smpq PM267 (L' := [some (.inr (.inr (some 3000))), some (.inr (.inr (some 0))), some (.inr (.inr (some 79))), some (.inl i)]) (st' := [.inl ((xs ((i + 5).toNat)).toInt), .inl ((xs ((i + 4).toNat)).toInt), .inl ((xs ((i + 3).toNat)).toInt), .inl ((xs ((i + 2).toNat)).toInt), .inl ((xs ((i + 1).toNat)).toInt), .inr (.inr (some 79))]) (w' := (SH, dt7)) rfl rfl (s_iald (n := L) (f := fun j => (xs j).toInt) (am_scr hLL) ⟨by omega, by omega⟩) ?_
  refine go_callq PM267 PM216 (Q' := _) rfl rfl rfl rfl (sp_X6_chance L xs sio (d + 31) dt7 hI8 hM11  ((xs ((i + 1).toNat)).toInt) ⟨by omega, by omega⟩ ((xs ((i + 2).toNat)).toInt) ⟨by omega, by omega⟩ ((xs ((i + 3).toNat)).toInt) ⟨by omega, by omega⟩ ((xs ((i + 4).toNat)).toInt) ⟨by omega, by omega⟩ ((xs ((i + 5).toNat)).toInt) ⟨by omega, by omega⟩ ) ?_
  rintro _ _ ⟨dt55, rfl, hI56, hF57, h54⟩
  refine ⟨rfl, ?_⟩
  have hF58 : Fr [0, 1, 2, 3, 4, 5, 6, 7, 8, 9, 10, 11, 12, 13, 14, 15, 16, 17, 18, 19, 20, 21, 22, 23, 24, 25, 26, 27, 28, 29, 30, 31, 32, 33, 34, 35, 36, 37, 38, 39, 40, 41, 42, 43, 44, 45, 46, 47, 48, 49, 50, 51, 52, 53, 54, 55, 56, 57, 58, 59, 60, 61, 62, 63, 64, 65, 66, 67, 68, 69, 70, 71, 72, 73, 74, 75, 76, 77, 78, 79, 80, 81, 82, 83, 84, 85, 86, 87, 88, 89, 90, 91, 92, 93, 94, 95, 96, 97, 98, 99, 100, 101, 102, 103, 104] dt dt55 := Fr_tr hF10 hF57 (by decide)
  have hM59 : MW (dt55 80) := MW_fr hM11 hF57 (by decide)
  have w60 : dt55 1 0 = dt7 1 0 := hF57 1 (by decide) 0
  have w61 : dt55 7 3 = dt7 7 3 := hF57 7 (by decide) 3
  have w62 : dt55 10 3 = dt7 10 3 := hF57 10 (by decide) 3
  have w63 : dt55 12 3 = dt7 12 3 := hF57 12 (by decide) 3
  have w64 : dt55 14 3 = dt7 14 3 := hF57 14 (by decide) 3
  have w65 : dt55 16 3 = dt7 16 3 := hF57 16 (by decide) 3
  have w66 : dt55 18 0 = dt7 18 0 := hF57 18 (by decide) 0
  have w67 : dt55 24 3 = dt7 24 3 := hF57 24 (by decide) 3
  have w68 : dt55 27 3 = dt7 27 3 := hF57 27 (by decide) 3
  have w69 : dt55 29 3 = dt7 29 3 := hF57 29 (by decide) 3
  have w70 : dt55 31 3 = dt7 31 3 := hF57 31 (by decide) 3
  have w71 : dt55 33 3 = dt7 33 3 := hF57 33 (by decide) 3
  have w72 : dt55 0 2 = dt7 0 2 := hF57 0 (by decide) 2
  have w73 : dt55 35 1 = dt7 35 1 := hF57 35 (by decide) 1
  have w74 : dt55 80 0 = dt7 80 0 := hF57 80 (by decide) 0
  have w75 : dt55 80 1 = dt7 80 1 := hF57 80 (by decide) 1
  have w76 : dt55 80 2 = dt7 80 2 := hF57 80 (by decide) 2
  have w77 : dt55 80 3 = dt7 80 3 := hF57 80 (by decide) 3
  have w78 : dt55 80 4 = dt7 80 4 := hF57 80 (by decide) 4
  have w79 : dt55 80 5 = dt7 80 5 := hF57 80 (by decide) 5
  have w80 : dt55 81 0 = dt7 81 0 := hF57 81 (by decide) 0
  have w81 : dt55 81 1 = dt7 81 1 := hF57 81 (by decide) 1
  have w82 : dt55 81 2 = dt7 81 2 := hF57 81 (by decide) 2
  have w83 : dt55 81 3 = dt7 81 3 := hF57 81 (by decide) 3
  have w84 : dt55 81 4 = dt7 81 4 := hF57 81 (by decide) 4
  have w85 : dt55 81 5 = dt7 81 5 := hF57 81 (by decide) 5
  have w86 : dt55 79 2 = dt7 79 2 := hF57 79 (by decide) 2
  have w87 : dt55 79 12 = dt7 79 12 := hF57 79 (by decide) 12
  rcases h54 with ⟨v_h54, rfl, h54r, h54⟩
  have M288 : MW (dt55 81) := MW_frk M240 hF57 (by decide)
  have C89 : ∀ j : Nat, dt55 15 j = dt 15 j := fun j => (hF57 15 (by decide) j).trans (C41 j)
  have C90 : ∀ j : Nat, dt55 17 j = dt 17 j := fun j => (hF57 17 (by decide) j).trans (C42 j)
  have C91 : ∀ j : Nat, dt55 32 j = dt 32 j := fun j => (hF57 32 (by decide) j).trans (C43 j)
  have C92 : ∀ j : Nat, dt55 34 j = dt 34 j := fun j => (hF57 34 (by decide) j).trans (C44 j)
  have F93 : ∀ j : Nat, 7340 ≤ j → dt55 81 j = dt 81 j := fun j hj => (hF57 81 (by decide) j).trans (F45 j hj)
  have F94 : ∀ j : Nat, 7340 ≤ j → dt55 80 j = dt 80 j := fun j hj => (hF57 80 (by decide) j).trans (F46 j hj)
  have F95 : ∀ j : Nat, dt55 80 j = dt 80 j := fun j => (hF57 80 (by decide) j).trans (F47 j)
  have F96 : ∀ j : Nat, dt55 81 j = dt 81 j := fun j => (hF57 81 (by decide) j).trans (F48 j)
  refine go_toq PM267 (k := 2) (pc' := 1435) (L' := [some (.inr (.inr (some 3000))), some (.inr (.inr (some 0))), some (.inr (.inr (some 79))), some (.inl i)]) (st' := []) (w' := (SH, dt55)) rfl ?_
  exact K dt55 hI56 hM59 M288 (by first | omega | (simp only [*]; done) | simp only [*]) (by omega) (by omega) (by omega) (by omega) (by omega) (by omega) (by omega) (by omega) (by omega) (by omega) (by omega) (by omega) (by omega) (by first | exact hI | exact RW2_k hd0 C89 F94 (by decide) (by omega) | (exfalso; omega)) (by first | exact hI | exact RW2_k hd1 C91 F93 (by decide) (by omega) | (exfalso; omega)) (by first | exact hI | exact RW2_k hd2 C90 F94 (by decide) (by omega) | (exfalso; omega)) (by first | exact hI | exact RW2_k hd3 C92 F93 (by decide) (by omega) | (exfalso; omega))
set_option maxRecDepth 20000 in
set_option maxHeartbeats 8000000 in
theorem sp_case16 (L : Nat) (xs : Nat → Int32) (sio : Option Nat) (d : Nat) (Q : Option AV → am_W → Prop) (hLL : L ≤ 3072) (i : Int) (hi : 0 ≤ i ∧ i ≤ 3066) (hil : i ≤ (L : Int) - 6) (dt : Nat → Nat → Int) (hI : InvC dt) (hM : MW (dt 80)) (hM2 : MW (dt 81)) (hk0 : dt 1 0 = dt 80 0) (hk1 : dt 7 3 = dt 80 1) (hk2 : dt 10 3 = dt 80 2) (hk3 : dt 12 3 = dt 80 3) (hk4 : dt 14 3 = dt 80 4) (hk5 : dt 16 3 = dt 80 5) (hk6 : dt 18 0 = dt 81 0) (hk7 : dt 24 3 = dt 81 1) (hk8 : dt 27 3 = dt 81 2) (hk9 : dt 29 3 = dt 81 3) (hk10 : dt 31 3 = dt 81 4) (hk11 : dt 33 3 = dt 81 5) (hk12 : dt 0 2 = dt 79 2) (hk13 : dt 35 1 = dt 79 12) (hd0 : RW2 (dt 15) (dt 80) (dt 80 4) 7340) (hd1 : RW2 (dt 32) (dt 81) (dt 81 4) 7340) (hd2 : RW2 (dt 17) (dt 80) (dt 80 5) 7420) (hd3 : RW2 (dt 34) (dt 81) (dt 81 5) 7420) (K : ∀ (dt : Nat → Nat → Int) (hI : InvC dt) (hM : MW (dt 80)) (hM2 : MW (dt 81)) (hk0 : dt 1 0 = dt 80 0) (hk1 : dt 7 3 = dt 80 1) (hk2 : dt 10 3 = dt 80 2) (hk3 : dt 12 3 = dt 80 3) (hk4 : dt 14 3 = dt 80 4) (hk5 : dt 16 3 = dt 80 5) (hk6 : dt 18 0 = dt 81 0) (hk7 : dt 24 3 = dt 81 1) (hk8 : dt 27 3 = dt 81 2) (hk9 : dt 29 3 = dt 81 3) (hk10 : dt 31 3 = dt 81 4) (hk11 : dt 33 3 = dt 81 5) (hk12 : dt 0 2 = dt 79 2) (hk13 : dt 35 1 = dt 79 12) (hd0 : RW2 (dt 15) (dt 80) (dt 80 4) 7340) (hd1 : RW2 (dt 32) (dt 81) (dt 81 4) 7340) (hd2 : RW2 (dt 17) (dt 80) (dt 80 5) 7420) (hd3 : RW2 (dt 34) (dt 81) (dt 81 5) 7420), GO (am_XX L xs sio) (d + 39) 267 1435 [some (.inr (.inr (some 3000))), some (.inr (.inr (some 0))), some (.inr (.inr (some 79))), some (.inl i)] [] (SH, dt) Q) : GO (am_XX L xs sio) (d + 39) 267 888 [some (.inr (.inr (some 3000))), some (.inr (.inr (some 0))), some (.inr (.inr (some 79))), some (.inl i)] [] (SH, dt) Q := by
  have hF : Fr [0, 1, 2, 3, 4, 5, 6, 7, 8, 9, 10, 11, 12, 13, 14, 15, 16, 17, 18, 19, 20, 21, 22, 23, 24, 25, 26, 27, 28, 29, 30, 31, 32, 33, 34, 35, 36, 37, 38, 39, 40, 41, 42, 43, 44, 45, 46, 47, 48, 49, 50, 51, 52, 53, 54, 55, 56, 57, 58, 59, 60, 61, 62, 63, 64, 65, 66, 67, 68, 69, 70, 71, 72, 73, 74, 75, 76, 77, 78, 79, 80, 81, 82, 83, 84, 85, 86, 87, 88, 89, 90, 91, 92, 93, 94, 95, 96, 97, 98, 99, 100, 101, 102, 103, 104] dt dt := Fr_refl
  have hmn := MW_n hM
  have hmn2 := MW_n hM2
  refine go_toq PM267 (k := 5) (pc' := 893) (L' := [some (.inr (.inr (some 3000))), some (.inr (.inr (some 0))), some (.inr (.inr (some 79))), some (.inl i)]) (st' := [.inl (i + 1), .inr (.inr (some 3000)), .inr (.inr (some 0))]) (w' := (SH, dt)) rfl ?_
  have r1 := i32_R (xs ((i + 1).toNat))
  refine go_smpq PM267 (L' := [some (.inr (.inr (some 3000))), some (.inr (.inr (some 0))), some (.inr (.inr (some 79))), some (.inl i)]) (st' := [.inl ((xs ((i + 1).toNat)).toInt), .inr (.inr (some 0))]) (w' := (SH, dt)) rfl rfl (s_iald (n := L) (f := fun j => (xs j).toInt) (am_scr hLL) ⟨by omega, by omega⟩) ?_
  refine go_toq PM267 (k := 4) (pc' := 898) (L' := [some (.inr (.inr (some 3000))), some (.inr (.inr (some 0))), some (.inr (.inr (some 79))), some (.inl i)]) (st' := [.inl (i + 2), .inr (.inr (some 3000)), .inl ((xs ((i + 1).toNat)).toInt), .inr (.inr (some 0))]) (w' := (SH, dt)) rfl ?_
  have r2 := i32_R (xs ((i + 2).toNat))
  refine go_smpq PM267 (L' := [some (.inr (.inr (some 3000))), some (.inr (.inr (some 0))), some (.inr (.inr (some 79))), some (.inl i)]) (st' := [.inl ((xs ((i + 2).toNat)).toInt), .inl ((xs ((i + 1).toNat)).toInt), .inr (.inr (some 0))]) (w' := (SH, dt)) rfl rfl (s_iald (n := L) (f := fun j => (xs j).toInt) (am_scr hLL) ⟨by omega, by omega⟩) ?_
  refine go_callq PM267 PM83 (Q' := _) rfl rfl rfl rfl (sp_X5_parted L xs sio (d + 35) dt hI  ((xs ((i + 1).toNat)).toInt) ⟨by omega, by omega⟩ ((xs ((i + 2).toNat)).toInt) ⟨by omega, by omega⟩ ) ?_
  rintro _ _ ⟨rfl, h3⟩
  refine ⟨rfl, ?_⟩
  rcases h3 with ⟨v_h3, rfl, h3r, h3⟩
  refine go_toq PM267 (k := 6) (pc' := 908) (L' := [some (.inr (.inr (some 3000))), some (.inr (.inr (some 0))), some (.inr (.inr (some 79))), some (.inl i)]) (st' := [.inl (i + 1), .inr (.inr (some 3000)), .inr (.inr (some 79))]) (w' := (SH, dt)) rfl ?_
  refine go_smpq PM267 (L' := [some (.inr (.inr (some 3000))), some (.inr (.inr (some 0))), some (.inr (.inr (some 79))), some (.inl i)]) (st' := [.inl ((xs ((i + 1).toNat)).toInt), .inr (.inr (some 79))]) (w' := (SH, dt)) rfl rfl (s_iald (n := L) (f := fun j => (xs j).toInt) (am_scr hLL) ⟨by omega, by omega⟩) ?_
  refine go_toq PM267 (k := 4) (pc' := 913) (L' := [some (.inr (.inr (some 3000))), some (.inr (.inr (some 0))), some (.inr (.inr (some 79))), some (.inl i)]) (st' := [.inl (i + 2), .inr (.inr (some 3000)), .inl ((xs ((i + 1).toNat)).toInt), .inr (.inr (some 79))]) (w' := (SH, dt)) rfl ?_
  refine go_smpq PM267 (L' := [some (.inr (.inr (some 3000))), some (.inr (.inr (some 0))), some (.inr (.inr (some 79))), some (.inl i)]) (st' := [.inl ((xs ((i + 2).toNat)).toInt), .inl ((xs ((i + 1).toNat)).toInt), .inr (.inr (some 79))]) (w' := (SH, dt)) rfl rfl (s_iald (n := L) (f := fun j => (xs j).toInt) (am_scr hLL) ⟨by omega, by omega⟩) ?_
  refine go_callq PM267 PM219 (Q' := _) rfl rfl rfl rfl (sp_X6_parted L xs sio (d + 32) dt hI hM  ((xs ((i + 1).toNat)).toInt) ⟨by omega, by omega⟩ ((xs ((i + 2).toNat)).toInt) ⟨by omega, by omega⟩ ) ?_
  rintro _ _ ⟨dt5, rfl, hI6, hF7, h4⟩
  refine ⟨rfl, ?_⟩
  have hF8 : Fr [0, 1, 2, 3, 4, 5, 6, 7, 8, 9, 10, 11, 12, 13, 14, 15, 16, 17, 18, 19, 20, 21, 22, 23, 24, 25, 26, 27, 28, 29, 30, 31, 32, 33, 34, 35, 36, 37, 38, 39, 40, 41, 42, 43, 44, 45, 46, 47, 48, 49, 50, 51, 52, 53, 54, 55, 56, 57, 58, 59, 60, 61, 62, 63, 64, 65, 66, 67, 68, 69, 70, 71, 72, 73, 74, 75, 76, 77, 78, 79, 80, 81, 82, 83, 84, 85, 86, 87, 88, 89, 90, 91, 92, 93, 94, 95, 96, 97, 98, 99, 100, 101, 102, 103, 104] dt dt5 := Fr_tr hF hF7 (by decide)
  have hM9 : MW (dt5 80) := MW_fr hM hF7 (by decide)
  have w10 : dt5 1 0 = dt 1 0 := hF7 1 (by decide) 0
  have w11 : dt5 7 3 = dt 7 3 := hF7 7 (by decide) 3
  have w12 : dt5 10 3 = dt 10 3 := hF7 10 (by decide) 3
  have w13 : dt5 12 3 = dt 12 3 := hF7 12 (by decide) 3
  have w14 : dt5 14 3 = dt 14 3 := hF7 14 (by decide) 3
  have w15 : dt5 16 3 = dt 16 3 := hF7 16 (by decide) 3
  have w16 : dt5 18 0 = dt 18 0 := hF7 18 (by decide) 0
  have w17 : dt5 24 3 = dt 24 3 := hF7 24 (by decide) 3
  have w18 : dt5 27 3 = dt 27 3 := hF7 27 (by decide) 3
  have w19 : dt5 29 3 = dt 29 3 := hF7 29 (by decide) 3
  have w20 : dt5 31 3 = dt 31 3 := hF7 31 (by decide) 3
  have w21 : dt5 33 3 = dt 33 3 := hF7 33 (by decide) 3
  have w22 : dt5 0 2 = dt 0 2 := hF7 0 (by decide) 2
  have w23 : dt5 35 1 = dt 35 1 := hF7 35 (by decide) 1
  have w24 : dt5 80 0 = dt 80 0 := hF7 80 (by decide) 0
  have w25 : dt5 80 1 = dt 80 1 := hF7 80 (by decide) 1
  have w26 : dt5 80 2 = dt 80 2 := hF7 80 (by decide) 2
  have w27 : dt5 80 3 = dt 80 3 := hF7 80 (by decide) 3
  have w28 : dt5 80 4 = dt 80 4 := hF7 80 (by decide) 4
  have w29 : dt5 80 5 = dt 80 5 := hF7 80 (by decide) 5
  have w30 : dt5 81 0 = dt 81 0 := hF7 81 (by decide) 0
  have w31 : dt5 81 1 = dt 81 1 := hF7 81 (by decide) 1
  have w32 : dt5 81 2 = dt 81 2 := hF7 81 (by decide) 2
  have w33 : dt5 81 3 = dt 81 3 := hF7 81 (by decide) 3
  have w34 : dt5 81 4 = dt 81 4 := hF7 81 (by decide) 4
  have w35 : dt5 81 5 = dt 81 5 := hF7 81 (by decide) 5
  have w36 : dt5 79 2 = dt 79 2 := hF7 79 (by decide) 2
  have w37 : dt5 79 12 = dt 79 12 := hF7 79 (by decide) 12
  rcases h4 with ⟨v_h4, rfl, h4r, h4⟩
  have M238 : MW (dt5 81) := MW_frk hM2 hF7 (by decide)
  have C39 : ∀ j : Nat, dt5 15 j = dt 15 j := fun j => (hF7 15 (by decide) j).trans ((fun _ => rfl) j)
  have C40 : ∀ j : Nat, dt5 17 j = dt 17 j := fun j => (hF7 17 (by decide) j).trans ((fun _ => rfl) j)
  have C41 : ∀ j : Nat, dt5 32 j = dt 32 j := fun j => (hF7 32 (by decide) j).trans ((fun _ => rfl) j)
  have C42 : ∀ j : Nat, dt5 34 j = dt 34 j := fun j => (hF7 34 (by decide) j).trans ((fun _ => rfl) j)
  have F43 : ∀ j : Nat, 7340 ≤ j → dt5 81 j = dt 81 j := fun j hj => (hF7 81 (by decide) j).trans ((fun _ _ => rfl) j hj)
  have F44 : ∀ j : Nat, 7340 ≤ j → dt5 80 j = dt 80 j := fun j hj => (hF7 80 (by decide) j).trans ((fun _ _ => rfl) j hj)
  have F45 : ∀ j : Nat, dt5 80 j = dt 80 j := fun j => (hF7 80 (by decide) j).trans ((fun _ => rfl) j)
  have F46 : ∀ j : Nat, dt5 81 j = dt 81 j := fun j => (hF7 81 (by decide) j).trans ((fun _ => rfl) j)
  refine go_toq PM267 (k := 2) (pc' := 1435) (L' := [some (.inr (.inr (some 3000))), some (.inr (.inr (some 0))), some (.inr (.inr (some 79))), some (.inl i)]) (st' := []) (w' := (SH, dt5)) rfl ?_
  exact K dt5 hI6 hM9 M238 (by first | omega | (simp only [*]; done) | simp only [*]) (by omega) (by omega) (by omega) (by omega) (by omega) (by omega) (by omega) (by omega) (by omega) (by omega) (by omega) (by omega) (by omega) (by first | exact hI | exact RW2_k hd0 C39 F44 (by decide) (by omega) | (exfalso; omega)) (by first | exact hI | exact RW2_k hd1 C41 F43 (by decide) (by omega) | (exfalso; omega)) (by first | exact hI | exact RW2_k hd2 C40 F44 (by decide) (by omega) | (exfalso; omega)) (by first | exact hI | exact RW2_k hd3 C42 F43 (by decide) (by omega) | (exfalso; omega))
set_option maxRecDepth 20000 in
set_option maxHeartbeats 8000000 in
theorem sp_case17 (L : Nat) (xs : Nat → Int32) (sio : Option Nat) (d : Nat) (Q : Option AV → am_W → Prop) (hLL : L ≤ 3072) (i : Int) (hi : 0 ≤ i ∧ i ≤ 3066) (hil : i ≤ (L : Int) - 6) (dt : Nat → Nat → Int) (hI : InvC dt) (hM : MW (dt 80)) (hM2 : MW (dt 81)) (hk0 : dt 1 0 = dt 80 0) (hk1 : dt 7 3 = dt 80 1) (hk2 : dt 10 3 = dt 80 2) (hk3 : dt 12 3 = dt 80 3) (hk4 : dt 14 3 = dt 80 4) (hk5 : dt 16 3 = dt 80 5) (hk6 : dt 18 0 = dt 81 0) (hk7 : dt 24 3 = dt 81 1) (hk8 : dt 27 3 = dt 81 2) (hk9 : dt 29 3 = dt 81 3) (hk10 : dt 31 3 = dt 81 4) (hk11 : dt 33 3 = dt 81 5) (hk12 : dt 0 2 = dt 79 2) (hk13 : dt 35 1 = dt 79 12) (hd0 : RW2 (dt 15) (dt 80) (dt 80 4) 7340) (hd1 : RW2 (dt 32) (dt 81) (dt 81 4) 7340) (hd2 : RW2 (dt 17) (dt 80) (dt 80 5) 7420) (hd3 : RW2 (dt 34) (dt 81) (dt 81 5) 7420) (K : ∀ (dt : Nat → Nat → Int) (hI : InvC dt) (hM : MW (dt 80)) (hM2 : MW (dt 81)) (hk0 : dt 1 0 = dt 80 0) (hk1 : dt 7 3 = dt 80 1) (hk2 : dt 10 3 = dt 80 2) (hk3 : dt 12 3 = dt 80 3) (hk4 : dt 14 3 = dt 80 4) (hk5 : dt 16 3 = dt 80 5) (hk6 : dt 18 0 = dt 81 0) (hk7 : dt 24 3 = dt 81 1) (hk8 : dt 27 3 = dt 81 2) (hk9 : dt 29 3 = dt 81 3) (hk10 : dt 31 3 = dt 81 4) (hk11 : dt 33 3 = dt 81 5) (hk12 : dt 0 2 = dt 79 2) (hk13 : dt 35 1 = dt 79 12) (hd0 : RW2 (dt 15) (dt 80) (dt 80 4) 7340) (hd1 : RW2 (dt 32) (dt 81) (dt 81 4) 7340) (hd2 : RW2 (dt 17) (dt 80) (dt 80 5) 7420) (hd3 : RW2 (dt 34) (dt 81) (dt 81 5) 7420), GO (am_XX L xs sio) (d + 39) 267 1435 [some (.inr (.inr (some 3000))), some (.inr (.inr (some 0))), some (.inr (.inr (some 79))), some (.inl i)] [] (SH, dt) Q) : GO (am_XX L xs sio) (d + 39) 267 921 [some (.inr (.inr (some 3000))), some (.inr (.inr (some 0))), some (.inr (.inr (some 79))), some (.inl i)] [] (SH, dt) Q := by
  have hF : Fr [0, 1, 2, 3, 4, 5, 6, 7, 8, 9, 10, 11, 12, 13, 14, 15, 16, 17, 18, 19, 20, 21, 22, 23, 24, 25, 26, 27, 28, 29, 30, 31, 32, 33, 34, 35, 36, 37, 38, 39, 40, 41, 42, 43, 44, 45, 46, 47, 48, 49, 50, 51, 52, 53, 54, 55, 56, 57, 58, 59, 60, 61, 62, 63, 64, 65, 66, 67, 68, 69, 70, 71, 72, 73, 74, 75, 76, 77, 78, 79, 80, 81, 82, 83, 84, 85, 86, 87, 88, 89, 90, 91, 92, 93, 94, 95, 96, 97, 98, 99, 100, 101, 102, 103, 104] dt dt := Fr_refl
  have hmn := MW_n hM
  have hmn2 := MW_n hM2
  refine go_toq PM267 (k := 5) (pc' := 926) (L' := [some (.inr (.inr (some 3000))), some (.inr (.inr (some 0))), some (.inr (.inr (some 79))), some (.inl i)]) (st' := [.inl (i + 1), .inr (.inr (some 3000)), .inr (.inr (some 0))]) (w' := (SH, dt)) rfl ?_
  have r1 := i32_R (xs ((i + 1).toNat))
  refine go_smpq PM267 (L' := [some (.inr (.inr (some 3000))), some (.inr (.inr (some 0))), some (.inr (.inr (some 79))), some (.inl i)]) (st' := [.inl ((xs ((i + 1).toNat)).toInt), .inr (.inr (some 0))]) (w' := (SH, dt)) rfl rfl (s_iald (n := L) (f := fun j => (xs j).toInt) (am_scr hLL) ⟨by omega, by omega⟩) ?_
  refine go_callq PM267 PM84 (Q' := _) rfl rfl rfl rfl (sp_X5_fewest L xs sio (d + 34) dt hI  ((xs ((i + 1).toNat)).toInt) ⟨by omega, by omega⟩ ) ?_
  rintro _ _ ⟨dt3, rfl, hI4, hF5, h2⟩
  refine ⟨rfl, ?_⟩
  have hF6 : Fr [0, 1, 2, 3, 4, 5, 6, 7, 8, 9, 10, 11, 12, 13, 14, 15, 16, 17, 18, 19, 20, 21, 22, 23, 24, 25, 26, 27, 28, 29, 30, 31, 32, 33, 34, 35, 36, 37, 38, 39, 40, 41, 42, 43, 44, 45, 46, 47, 48, 49, 50, 51, 52, 53, 54, 55, 56, 57, 58, 59, 60, 61, 62, 63, 64, 65, 66, 67, 68, 69, 70, 71, 72, 73, 74, 75, 76, 77, 78, 79, 80, 81, 82, 83, 84, 85, 86, 87, 88, 89, 90, 91, 92, 93, 94, 95, 96, 97, 98, 99, 100, 101, 102, 103, 104] dt dt3 := Fr_tr hF hF5 (by decide)
  have hM7 : MW (dt3 80) := MW_fr hM hF5 (by decide)
  have w8 : dt3 1 0 = dt 1 0 := hF5 1 (by decide) 0
  have w9 : dt3 7 3 = dt 7 3 := hF5 7 (by decide) 3
  have w10 : dt3 10 3 = dt 10 3 := hF5 10 (by decide) 3
  have w11 : dt3 12 3 = dt 12 3 := hF5 12 (by decide) 3
  have w12 : dt3 14 3 = dt 14 3 := hF5 14 (by decide) 3
  have w13 : dt3 16 3 = dt 16 3 := hF5 16 (by decide) 3
  have w14 : dt3 18 0 = dt 18 0 := hF5 18 (by decide) 0
  have w15 : dt3 24 3 = dt 24 3 := hF5 24 (by decide) 3
  have w16 : dt3 27 3 = dt 27 3 := hF5 27 (by decide) 3
  have w17 : dt3 29 3 = dt 29 3 := hF5 29 (by decide) 3
  have w18 : dt3 31 3 = dt 31 3 := hF5 31 (by decide) 3
  have w19 : dt3 33 3 = dt 33 3 := hF5 33 (by decide) 3
  have w20 : dt3 0 2 = dt 0 2 := hF5 0 (by decide) 2
  have w21 : dt3 35 1 = dt 35 1 := hF5 35 (by decide) 1
  have w22 : dt3 80 0 = dt 80 0 := hF5 80 (by decide) 0
  have w23 : dt3 80 1 = dt 80 1 := hF5 80 (by decide) 1
  have w24 : dt3 80 2 = dt 80 2 := hF5 80 (by decide) 2
  have w25 : dt3 80 3 = dt 80 3 := hF5 80 (by decide) 3
  have w26 : dt3 80 4 = dt 80 4 := hF5 80 (by decide) 4
  have w27 : dt3 80 5 = dt 80 5 := hF5 80 (by decide) 5
  have w28 : dt3 81 0 = dt 81 0 := hF5 81 (by decide) 0
  have w29 : dt3 81 1 = dt 81 1 := hF5 81 (by decide) 1
  have w30 : dt3 81 2 = dt 81 2 := hF5 81 (by decide) 2
  have w31 : dt3 81 3 = dt 81 3 := hF5 81 (by decide) 3
  have w32 : dt3 81 4 = dt 81 4 := hF5 81 (by decide) 4
  have w33 : dt3 81 5 = dt 81 5 := hF5 81 (by decide) 5
  have w34 : dt3 79 2 = dt 79 2 := hF5 79 (by decide) 2
  have w35 : dt3 79 12 = dt 79 12 := hF5 79 (by decide) 12
  rcases h2 with ⟨v_h2, rfl, h2r, h2⟩
  have M236 : MW (dt3 81) := MW_frk hM2 hF5 (by decide)
  have C37 : ∀ j : Nat, dt3 15 j = dt 15 j := fun j => (hF5 15 (by decide) j).trans ((fun _ => rfl) j)
  have C38 : ∀ j : Nat, dt3 17 j = dt 17 j := fun j => (hF5 17 (by decide) j).trans ((fun _ => rfl) j)
  have C39 : ∀ j : Nat, dt3 32 j = dt 32 j := fun j => (hF5 32 (by decide) j).trans ((fun _ => rfl) j)
  have C40 : ∀ j : Nat, dt3 34 j = dt 34 j := fun j => (hF5 34 (by decide) j).trans ((fun _ => rfl) j)
  have F41 : ∀ j : Nat, 7340 ≤ j → dt3 81 j = dt 81 j := fun j hj => (hF5 81 (by decide) j).trans ((fun _ _ => rfl) j hj)
  have F42 : ∀ j : Nat, 7340 ≤ j → dt3 80 j = dt 80 j := fun j hj => (hF5 80 (by decide) j).trans ((fun _ _ => rfl) j hj)
  have F43 : ∀ j : Nat, dt3 80 j = dt 80 j := fun j => (hF5 80 (by decide) j).trans ((fun _ => rfl) j)
  have F44 : ∀ j : Nat, dt3 81 j = dt 81 j := fun j => (hF5 81 (by decide) j).trans ((fun _ => rfl) j)
  refine go_toq PM267 (k := 6) (pc' := 936) (L' := [some (.inr (.inr (some 3000))), some (.inr (.inr (some 0))), some (.inr (.inr (some 79))), some (.inl i)]) (st' := [.inl (i + 1), .inr (.inr (some 3000)), .inr (.inr (some 79))]) (w' := (SH, dt3)) rfl ?_
  have r45 := i32_R (xs ((i + 1).toNat))
  refine go_smpq PM267 (L' := [some (.inr (.inr (some 3000))), some (.inr (.inr (some 0))), some (.inr (.inr (some 79))), some (.inl i)]) (st' := [.inl ((xs ((i + 1).toNat)).toInt), .inr (.inr (some 79))]) (w' := (SH, dt3)) rfl rfl (s_iald (n := L) (f := fun j => (xs j).toInt) (am_scr hLL) ⟨by omega, by omega⟩) ?_
  refine go_callq PM267 PM221 (Q' := _) rfl rfl rfl rfl (sp_X6_fewest L xs sio (d + 32) dt3 hI4 hM7  ((xs ((i + 1).toNat)).toInt) ⟨by omega, by omega⟩ ) ?_
  rintro _ _ ⟨dt47, rfl, hI48, hF49, h46⟩
  refine ⟨rfl, ?_⟩
  have hF50 : Fr [0, 1, 2, 3, 4, 5, 6, 7, 8, 9, 10, 11, 12, 13, 14, 15, 16, 17, 18, 19, 20, 21, 22, 23, 24, 25, 26, 27, 28, 29, 30, 31, 32, 33, 34, 35, 36, 37, 38, 39, 40, 41, 42, 43, 44, 45, 46, 47, 48, 49, 50, 51, 52, 53, 54, 55, 56, 57, 58, 59, 60, 61, 62, 63, 64, 65, 66, 67, 68, 69, 70, 71, 72, 73, 74, 75, 76, 77, 78, 79, 80, 81, 82, 83, 84, 85, 86, 87, 88, 89, 90, 91, 92, 93, 94, 95, 96, 97, 98, 99, 100, 101, 102, 103, 104] dt dt47 := Fr_tr hF6 hF49 (by decide)
  have hM51 : MW (dt47 80) := MW_fr hM7 hF49 (by decide)
  have w52 : dt47 1 0 = dt3 1 0 := hF49 1 (by decide) 0
  have w53 : dt47 7 3 = dt3 7 3 := hF49 7 (by decide) 3
  have w54 : dt47 10 3 = dt3 10 3 := hF49 10 (by decide) 3
  have w55 : dt47 12 3 = dt3 12 3 := hF49 12 (by decide) 3
  have w56 : dt47 14 3 = dt3 14 3 := hF49 14 (by decide) 3
  have w57 : dt47 16 3 = dt3 16 3 := hF49 16 (by decide) 3
  have w58 : dt47 18 0 = dt3 18 0 := hF49 18 (by decide) 0
  have w59 : dt47 24 3 = dt3 24 3 := hF49 24 (by decide) 3
  have w60 : dt47 27 3 = dt3 27 3 := hF49 27 (by decide) 3
  have w61 : dt47 29 3 = dt3 29 3 := hF49 29 (by decide) 3
  have w62 : dt47 31 3 = dt3 31 3 := hF49 31 (by decide) 3
  have w63 : dt47 33 3 = dt3 33 3 := hF49 33 (by decide) 3
  have w64 : dt47 0 2 = dt3 0 2 := hF49 0 (by decide) 2
  have w65 : dt47 35 1 = dt3 35 1 := hF49 35 (by decide) 1
  have w66 : dt47 80 0 = dt3 80 0 := hF49 80 (by decide) 0
  have w67 : dt47 80 1 = dt3 80 1 := hF49 80 (by decide) 1
  have w68 : dt47 80 2 = dt3 80 2 := hF49 80 (by decide) 2
  have w69 : dt47 80 3 = dt3 80 3 := hF49 80 (by decide) 3
  have w70 : dt47 80 4 = dt3 80 4 := hF49 80 (by decide) 4
  have w71 : dt47 80 5 = dt3 80 5 := hF49 80 (by decide) 5
  have w72 : dt47 81 0 = dt3 81 0 := hF49 81 (by decide) 0
  have w73 : dt47 81 1 = dt3 81 1 := hF49 81 (by decide) 1
  have w74 : dt47 81 2 = dt3 81 2 := hF49 81 (by decide) 2
  have w75 : dt47 81 3 = dt3 81 3 := hF49 81 (by decide) 3
  have w76 : dt47 81 4 = dt3 81 4 := hF49 81 (by decide) 4
  have w77 : dt47 81 5 = dt3 81 5 := hF49 81 (by decide) 5
  have w78 : dt47 79 2 = dt3 79 2 := hF49 79 (by decide) 2
  have w79 : dt47 79 12 = dt3 79 12 := hF49 79 (by decide) 12
  rcases h46 with ⟨v_h46, rfl, h46r, h46⟩
  have M280 : MW (dt47 81) := MW_frk M236 hF49 (by decide)
  have C81 : ∀ j : Nat, dt47 15 j = dt 15 j := fun j => (hF49 15 (by decide) j).trans (C37 j)
  have C82 : ∀ j : Nat, dt47 17 j = dt 17 j := fun j => (hF49 17 (by decide) j).trans (C38 j)
  have C83 : ∀ j : Nat, dt47 32 j = dt 32 j := fun j => (hF49 32 (by decide) j).trans (C39 j)
  have C84 : ∀ j : Nat, dt47 34 j = dt 34 j := fun j => (hF49 34 (by decide) j).trans (C40 j)
  have F85 : ∀ j : Nat, 7340 ≤ j → dt47 81 j = dt 81 j := fun j hj => (hF49 81 (by decide) j).trans (F41 j hj)
  have F86 : ∀ j : Nat, 7340 ≤ j → dt47 80 j = dt 80 j := fun j hj => (hF49 80 (by decide) j).trans (F42 j hj)
  have F87 : ∀ j : Nat, dt47 80 j = dt 80 j := fun j => (hF49 80 (by decide) j).trans (F43 j)
  have F88 : ∀ j : Nat, dt47 81 j = dt 81 j := fun j => (hF49 81 (by decide) j).trans (F44 j)
  refine go_toq PM267 (k := 2) (pc' := 1435) (L' := [some (.inr (.inr (some 3000))), some (.inr (.inr (some 0))), some (.inr (.inr (some 79))), some (.inl i)]) (st' := []) (w' := (SH, dt47)) rfl ?_
  exact K dt47 hI48 hM51 M280 (by first | omega | (simp only [*]; done) | simp only [*]) (by omega) (by omega) (by omega) (by omega) (by omega) (by omega) (by omega) (by omega) (by omega) (by omega) (by omega) (by omega) (by omega) (by first | exact hI | exact RW2_k hd0 C81 F86 (by decide) (by omega) | (exfalso; omega)) (by first | exact hI | exact RW2_k hd1 C83 F85 (by decide) (by omega) | (exfalso; omega)) (by first | exact hI | exact RW2_k hd2 C82 F86 (by decide) (by omega) | (exfalso; omega)) (by first | exact hI | exact RW2_k hd3 C84 F85 (by decide) (by omega) | (exfalso; omega))
set_option maxRecDepth 20000 in
set_option maxHeartbeats 8000000 in
theorem sp_case18 (L : Nat) (xs : Nat → Int32) (sio : Option Nat) (d : Nat) (Q : Option AV → am_W → Prop) (hLL : L ≤ 3072) (i : Int) (hi : 0 ≤ i ∧ i ≤ 3066) (hil : i ≤ (L : Int) - 6) (dt : Nat → Nat → Int) (hI : InvC dt) (hM : MW (dt 80)) (hM2 : MW (dt 81)) (hk0 : dt 1 0 = dt 80 0) (hk1 : dt 7 3 = dt 80 1) (hk2 : dt 10 3 = dt 80 2) (hk3 : dt 12 3 = dt 80 3) (hk4 : dt 14 3 = dt 80 4) (hk5 : dt 16 3 = dt 80 5) (hk6 : dt 18 0 = dt 81 0) (hk7 : dt 24 3 = dt 81 1) (hk8 : dt 27 3 = dt 81 2) (hk9 : dt 29 3 = dt 81 3) (hk10 : dt 31 3 = dt 81 4) (hk11 : dt 33 3 = dt 81 5) (hk12 : dt 0 2 = dt 79 2) (hk13 : dt 35 1 = dt 79 12) (hd0 : RW2 (dt 15) (dt 80) (dt 80 4) 7340) (hd1 : RW2 (dt 32) (dt 81) (dt 81 4) 7340) (hd2 : RW2 (dt 17) (dt 80) (dt 80 5) 7420) (hd3 : RW2 (dt 34) (dt 81) (dt 81 5) 7420) (K : ∀ (dt : Nat → Nat → Int) (hI : InvC dt) (hM : MW (dt 80)) (hM2 : MW (dt 81)) (hk0 : dt 1 0 = dt 80 0) (hk1 : dt 7 3 = dt 80 1) (hk2 : dt 10 3 = dt 80 2) (hk3 : dt 12 3 = dt 80 3) (hk4 : dt 14 3 = dt 80 4) (hk5 : dt 16 3 = dt 80 5) (hk6 : dt 18 0 = dt 81 0) (hk7 : dt 24 3 = dt 81 1) (hk8 : dt 27 3 = dt 81 2) (hk9 : dt 29 3 = dt 81 3) (hk10 : dt 31 3 = dt 81 4) (hk11 : dt 33 3 = dt 81 5) (hk12 : dt 0 2 = dt 79 2) (hk13 : dt 35 1 = dt 79 12) (hd0 : RW2 (dt 15) (dt 80) (dt 80 4) 7340) (hd1 : RW2 (dt 32) (dt 81) (dt 81 4) 7340) (hd2 : RW2 (dt 17) (dt 80) (dt 80 5) 7420) (hd3 : RW2 (dt 34) (dt 81) (dt 81 5) 7420), GO (am_XX L xs sio) (d + 39) 267 1435 [some (.inr (.inr (some 3000))), some (.inr (.inr (some 0))), some (.inr (.inr (some 79))), some (.inl i)] [] (SH, dt) Q) : GO (am_XX L xs sio) (d + 39) 267 944 [some (.inr (.inr (some 3000))), some (.inr (.inr (some 0))), some (.inr (.inr (some 79))), some (.inl i)] [] (SH, dt) Q := by
  have hF : Fr [0, 1, 2, 3, 4, 5, 6, 7, 8, 9, 10, 11, 12, 13, 14, 15, 16, 17, 18, 19, 20, 21, 22, 23, 24, 25, 26, 27, 28, 29, 30, 31, 32, 33, 34, 35, 36, 37, 38, 39, 40, 41, 42, 43, 44, 45, 46, 47, 48, 49, 50, 51, 52, 53, 54, 55, 56, 57, 58, 59, 60, 61, 62, 63, 64, 65, 66, 67, 68, 69, 70, 71, 72, 73, 74, 75, 76, 77, 78, 79, 80, 81, 82, 83, 84, 85, 86, 87, 88, 89, 90, 91, 92, 93, 94, 95, 96, 97, 98, 99, 100, 101, 102, 103, 104] dt dt := Fr_refl
  have hmn := MW_n hM
  have hmn2 := MW_n hM2
  refine go_toq PM267 (k := 5) (pc' := 949) (L' := [some (.inr (.inr (some 3000))), some (.inr (.inr (some 0))), some (.inr (.inr (some 79))), some (.inl i)]) (st' := [.inl (i + 1), .inr (.inr (some 3000)), .inr (.inr (some 0))]) (w' := (SH, dt)) rfl ?_
  have r1 := i32_R (xs ((i + 1).toNat))
  refine go_smpq PM267 (L' := [some (.inr (.inr (some 3000))), some (.inr (.inr (some 0))), some (.inr (.inr (some 79))), some (.inl i)]) (st' := [.inl ((xs ((i + 1).toNat)).toInt), .inr (.inr (some 0))]) (w' := (SH, dt)) rfl rfl (s_iald (n := L) (f := fun j => (xs j).toInt) (am_scr hLL) ⟨by omega, by omega⟩) ?_
  refine go_toq PM267 (k := 4) (pc' := 954) (L' := [some (.inr (.inr (some 3000))), some (.inr (.inr (some 0))), some (.inr (.inr (some 79))), some (.inl i)]) (st' := [.inl (i + 2), .inr (.inr (some 3000)), .inl ((xs ((i + 1).toNat)).toInt), .inr (.inr (some 0))]) (w' := (SH, dt)) rfl ?_
  have r2 := i32_R (xs ((i + 2).toNat))
  refine go_smpq PM267 (L' := [some (.inr (.inr (some 3000))), some (.inr (.inr (some 0))), some (.inr (.inr (some 79))), some (.inl i)]) (st' := [.inl ((xs ((i + 2).toNat)).toInt), .inl ((xs ((i + 1).toNat)).toInt), .inr (.inr (some 0))]) (w' := (SH, dt)) rfl rfl (s_iald (n := L) (f := fun j => (xs j).toInt) (am_scr hLL) ⟨by omega, by omega⟩) ?_
  refine go_toq PM267 (k := 4) (pc' := 959) (L' := [some (.inr (.inr (some 3000))), some (.inr (.inr (some 0))), some (.inr (.inr (some 79))), some (.inl i)]) (st' := [.inl (i + 3), .inr (.inr (some 3000)), .inl ((xs ((i + 2).toNat)).toInt), .inl ((xs ((i + 1).toNat)).toInt), .inr (.inr (some 0))]) (w' := (SH, dt)) rfl ?_
  have r3 := i32_R (xs ((i + 3).toNat))
  refine go_smpq PM267 (L' := [some (.inr (.inr (some 3000))), some (.inr (.inr (some 0))), some (.inr (.inr (some 79))), some (.inl i)]) (st' := [.inl ((xs ((i + 3).toNat)).toInt), .inl ((xs ((i + 2).toNat)).toInt), .inl ((xs ((i + 1).toNat)).toInt), .inr (.inr (some 0))]) (w' := (SH, dt)) rfl rfl (s_iald (n := L) (f := fun j => (xs j).toInt) (am_scr hLL) ⟨by omega, by omega⟩) ?_
  refine go_callq PM267 PM85 (Q' := _) rfl rfl rfl rfl (sp_X5_make L xs sio (d + 32) dt hI  ((xs ((i + 1).toNat)).toInt) ⟨by omega, by omega⟩ ((xs ((i + 2).toNat)).toInt) ⟨by omega, by omega⟩ ((xs ((i + 3).toNat)).toInt) ⟨by omega, by omega⟩ ) ?_
  rintro _ _ ⟨dt5, rfl, hI6, hF7, h4⟩
  refine ⟨rfl, ?_⟩
  have hF8 : Fr [0, 1, 2, 3, 4, 5, 6, 7, 8, 9, 10, 11, 12, 13, 14, 15, 16, 17, 18, 19, 20, 21, 22, 23, 24, 25, 26, 27, 28, 29, 30, 31, 32, 33, 34, 35, 36, 37, 38, 39, 40, 41, 42, 43, 44, 45, 46, 47, 48, 49, 50, 51, 52, 53, 54, 55, 56, 57, 58, 59, 60, 61, 62, 63, 64, 65, 66, 67, 68, 69, 70, 71, 72, 73, 74, 75, 76, 77, 78, 79, 80, 81, 82, 83, 84, 85, 86, 87, 88, 89, 90, 91, 92, 93, 94, 95, 96, 97, 98, 99, 100, 101, 102, 103, 104] dt dt5 := Fr_tr hF hF7 (by decide)
  have hM9 : MW (dt5 80) := MW_fr hM hF7 (by decide)
  have w10 : dt5 1 0 = dt 1 0 := hF7 1 (by decide) 0
  have w11 : dt5 7 3 = dt 7 3 := hF7 7 (by decide) 3
  have w12 : dt5 10 3 = dt 10 3 := hF7 10 (by decide) 3
  have w13 : dt5 12 3 = dt 12 3 := hF7 12 (by decide) 3
  have w14 : dt5 14 3 = dt 14 3 := hF7 14 (by decide) 3
  have w15 : dt5 16 3 = dt 16 3 := hF7 16 (by decide) 3
  have w16 : dt5 18 0 = dt 18 0 := hF7 18 (by decide) 0
  have w17 : dt5 24 3 = dt 24 3 := hF7 24 (by decide) 3
  have w18 : dt5 27 3 = dt 27 3 := hF7 27 (by decide) 3
  have w19 : dt5 29 3 = dt 29 3 := hF7 29 (by decide) 3
  have w20 : dt5 31 3 = dt 31 3 := hF7 31 (by decide) 3
  have w21 : dt5 33 3 = dt 33 3 := hF7 33 (by decide) 3
  have w22 : dt5 0 2 = dt 0 2 := hF7 0 (by decide) 2
  have w23 : dt5 35 1 = dt 35 1 := hF7 35 (by decide) 1
  have w24 : dt5 80 0 = dt 80 0 := hF7 80 (by decide) 0
  have w25 : dt5 80 1 = dt 80 1 := hF7 80 (by decide) 1
  have w26 : dt5 80 2 = dt 80 2 := hF7 80 (by decide) 2
  have w27 : dt5 80 3 = dt 80 3 := hF7 80 (by decide) 3
  have w28 : dt5 80 4 = dt 80 4 := hF7 80 (by decide) 4
  have w29 : dt5 80 5 = dt 80 5 := hF7 80 (by decide) 5
  have w30 : dt5 81 0 = dt 81 0 := hF7 81 (by decide) 0
  have w31 : dt5 81 1 = dt 81 1 := hF7 81 (by decide) 1
  have w32 : dt5 81 2 = dt 81 2 := hF7 81 (by decide) 2
  have w33 : dt5 81 3 = dt 81 3 := hF7 81 (by decide) 3
  have w34 : dt5 81 4 = dt 81 4 := hF7 81 (by decide) 4
  have w35 : dt5 81 5 = dt 81 5 := hF7 81 (by decide) 5
  have w36 : dt5 79 2 = dt 79 2 := hF7 79 (by decide) 2
  have w37 : dt5 79 12 = dt 79 12 := hF7 79 (by decide) 12
  rcases h4 with ⟨v_h4, rfl, h4r, h4⟩
  have M238 : MW (dt5 81) := MW_frk hM2 hF7 (by decide)
  have C39 : ∀ j : Nat, dt5 15 j = dt 15 j := fun j => (hF7 15 (by decide) j).trans ((fun _ => rfl) j)
  have C40 : ∀ j : Nat, dt5 17 j = dt 17 j := fun j => (hF7 17 (by decide) j).trans ((fun _ => rfl) j)
  have C41 : ∀ j : Nat, dt5 32 j = dt 32 j := fun j => (hF7 32 (by decide) j).trans ((fun _ => rfl) j)
  have C42 : ∀ j : Nat, dt5 34 j = dt 34 j := fun j => (hF7 34 (by decide) j).trans ((fun _ => rfl) j)
  have F43 : ∀ j : Nat, 7340 ≤ j → dt5 81 j = dt 81 j := fun j hj => (hF7 81 (by decide) j).trans ((fun _ _ => rfl) j hj)
  have F44 : ∀ j : Nat, 7340 ≤ j → dt5 80 j = dt 80 j := fun j hj => (hF7 80 (by decide) j).trans ((fun _ _ => rfl) j hj)
  have F45 : ∀ j : Nat, dt5 80 j = dt 80 j := fun j => (hF7 80 (by decide) j).trans ((fun _ => rfl) j)
  have F46 : ∀ j : Nat, dt5 81 j = dt 81 j := fun j => (hF7 81 (by decide) j).trans ((fun _ => rfl) j)
  refine go_toq PM267 (k := 6) (pc' := 969) (L' := [some (.inr (.inr (some 3000))), some (.inr (.inr (some 0))), some (.inr (.inr (some 79))), some (.inl i)]) (st' := [.inl (i + 1), .inr (.inr (some 3000)), .inr (.inr (some 79))]) (w' := (SH, dt5)) rfl ?_
  have r47 := i32_R (xs ((i + 1).toNat))
  refine go_smpq PM267 (L' := [some (.inr (.inr (some 3000))), some (.inr (.inr (some 0))), some (.inr (.inr (some 79))), some (.inl i)]) (st' := [.inl ((xs ((i + 1).toNat)).toInt), .inr (.inr (some 79))]) (w' := (SH, dt5)) rfl rfl (s_iald (n := L) (f := fun j => (xs j).toInt) (am_scr hLL) ⟨by omega, by omega⟩) ?_
  refine go_toq PM267 (k := 4) (pc' := 974) (L' := [some (.inr (.inr (some 3000))), some (.inr (.inr (some 0))), some (.inr (.inr (some 79))), some (.inl i)]) (st' := [.inl (i + 2), .inr (.inr (some 3000)), .inl ((xs ((i + 1).toNat)).toInt), .inr (.inr (some 79))]) (w' := (SH, dt5)) rfl ?_
  have r48 := i32_R (xs ((i + 2).toNat))
  refine go_smpq PM267 (L' := [some (.inr (.inr (some 3000))), some (.inr (.inr (some 0))), some (.inr (.inr (some 79))), some (.inl i)]) (st' := [.inl ((xs ((i + 2).toNat)).toInt), .inl ((xs ((i + 1).toNat)).toInt), .inr (.inr (some 79))]) (w' := (SH, dt5)) rfl rfl (s_iald (n := L) (f := fun j => (xs j).toInt) (am_scr hLL) ⟨by omega, by omega⟩) ?_
  refine go_toq PM267 (k := 4) (pc' := 979) (L' := [some (.inr (.inr (some 3000))), some (.inr (.inr (some 0))), some (.inr (.inr (some 79))), some (.inl i)]) (st' := [.inl (i + 3), .inr (.inr (some 3000)), .inl ((xs ((i + 2).toNat)).toInt), .inl ((xs ((i + 1).toNat)).toInt), .inr (.inr (some 79))]) (w' := (SH, dt5)) rfl ?_
  have r49 := i32_R (xs ((i + 3).toNat))
  refine go_smpq PM267 (L' := [some (.inr (.inr (some 3000))), some (.inr (.inr (some 0))), some (.inr (.inr (some 79))), some (.inl i)]) (st' := [.inl ((xs ((i + 3).toNat)).toInt), .inl ((xs ((i + 2).toNat)).toInt), .inl ((xs ((i + 1).toNat)).toInt), .inr (.inr (some 79))]) (w' := (SH, dt5)) rfl rfl (s_iald (n := L) (f := fun j => (xs j).toInt) (am_scr hLL) ⟨by omega, by omega⟩) ?_
  refine go_callq PM267 PM223 (Q' := _) rfl rfl rfl rfl (sp_X6_make L xs sio (d + 32) dt5 hI6 hM9  ((xs ((i + 1).toNat)).toInt) ⟨by omega, by omega⟩ ((xs ((i + 2).toNat)).toInt) ⟨by omega, by omega⟩ ((xs ((i + 3).toNat)).toInt) ⟨by omega, by omega⟩ ) ?_
  rintro _ _ ⟨dt51, rfl, hI52, hF53, h50⟩
  refine ⟨rfl, ?_⟩
  have hF54 : Fr [0, 1, 2, 3, 4, 5, 6, 7, 8, 9, 10, 11, 12, 13, 14, 15, 16, 17, 18, 19, 20, 21, 22, 23, 24, 25, 26, 27, 28, 29, 30, 31, 32, 33, 34, 35, 36, 37, 38, 39, 40, 41, 42, 43, 44, 45, 46, 47, 48, 49, 50, 51, 52, 53, 54, 55, 56, 57, 58, 59, 60, 61, 62, 63, 64, 65, 66, 67, 68, 69, 70, 71, 72, 73, 74, 75, 76, 77, 78, 79, 80, 81, 82, 83, 84, 85, 86, 87, 88, 89, 90, 91, 92, 93, 94, 95, 96, 97, 98, 99, 100, 101, 102, 103, 104] dt dt51 := Fr_tr hF8 hF53 (by decide)
  have hM55 : MW (dt51 80) := MW_fr hM9 hF53 (by decide)
  have w56 : dt51 1 0 = dt5 1 0 := hF53 1 (by decide) 0
  have w57 : dt51 7 3 = dt5 7 3 := hF53 7 (by decide) 3
  have w58 : dt51 10 3 = dt5 10 3 := hF53 10 (by decide) 3
  have w59 : dt51 12 3 = dt5 12 3 := hF53 12 (by decide) 3
  have w60 : dt51 14 3 = dt5 14 3 := hF53 14 (by decide) 3
  have w61 : dt51 16 3 = dt5 16 3 := hF53 16 (by decide) 3
  have w62 : dt51 18 0 = dt5 18 0 := hF53 18 (by decide) 0
  have w63 : dt51 24 3 = dt5 24 3 := hF53 24 (by decide) 3
  have w64 : dt51 27 3 = dt5 27 3 := hF53 27 (by decide) 3
  have w65 : dt51 29 3 = dt5 29 3 := hF53 29 (by decide) 3
  have w66 : dt51 31 3 = dt5 31 3 := hF53 31 (by decide) 3
  have w67 : dt51 33 3 = dt5 33 3 := hF53 33 (by decide) 3
  have w68 : dt51 0 2 = dt5 0 2 := hF53 0 (by decide) 2
  have w69 : dt51 35 1 = dt5 35 1 := hF53 35 (by decide) 1
  have w70 : dt51 80 0 = dt5 80 0 := hF53 80 (by decide) 0
  have w71 : dt51 80 1 = dt5 80 1 := hF53 80 (by decide) 1
  have w72 : dt51 80 2 = dt5 80 2 := hF53 80 (by decide) 2
  have w73 : dt51 80 3 = dt5 80 3 := hF53 80 (by decide) 3
  have w74 : dt51 80 4 = dt5 80 4 := hF53 80 (by decide) 4
  have w75 : dt51 80 5 = dt5 80 5 := hF53 80 (by decide) 5
  have w76 : dt51 81 0 = dt5 81 0 := hF53 81 (by decide) 0
  have w77 : dt51 81 1 = dt5 81 1 := hF53 81 (by decide) 1
  have w78 : dt51 81 2 = dt5 81 2 := hF53 81 (by decide) 2
  have w79 : dt51 81 3 = dt5 81 3 := hF53 81 (by decide) 3
  have w80 : dt51 81 4 = dt5 81 4 := hF53 81 (by decide) 4
  have w81 : dt51 81 5 = dt5 81 5 := hF53 81 (by decide) 5
  have w82 : dt51 79 2 = dt5 79 2 := hF53 79 (by decide) 2
  have w83 : dt51 79 12 = dt5 79 12 := hF53 79 (by decide) 12
  rcases h50 with ⟨v_h50, rfl, h50r, h50⟩
  have M284 : MW (dt51 81) := MW_frk M238 hF53 (by decide)
  have C85 : ∀ j : Nat, dt51 15 j = dt 15 j := fun j => (hF53 15 (by decide) j).trans (C39 j)
  have C86 : ∀ j : Nat, dt51 17 j = dt 17 j := fun j => (hF53 17 (by decide) j).trans (C40 j)
  have C87 : ∀ j : Nat, dt51 32 j = dt 32 j := fun j => (hF53 32 (by decide) j).trans (C41 j)
  have C88 : ∀ j : Nat, dt51 34 j = dt 34 j := fun j => (hF53 34 (by decide) j).trans (C42 j)
  have F89 : ∀ j : Nat, 7340 ≤ j → dt51 81 j = dt 81 j := fun j hj => (hF53 81 (by decide) j).trans (F43 j hj)
  have F90 : ∀ j : Nat, 7340 ≤ j → dt51 80 j = dt 80 j := fun j hj => (hF53 80 (by decide) j).trans (F44 j hj)
  have F91 : ∀ j : Nat, dt51 80 j = dt 80 j := fun j => (hF53 80 (by decide) j).trans (F45 j)
  have F92 : ∀ j : Nat, dt51 81 j = dt 81 j := fun j => (hF53 81 (by decide) j).trans (F46 j)
  refine go_toq PM267 (k := 2) (pc' := 1435) (L' := [some (.inr (.inr (some 3000))), some (.inr (.inr (some 0))), some (.inr (.inr (some 79))), some (.inl i)]) (st' := []) (w' := (SH, dt51)) rfl ?_
  exact K dt51 hI52 hM55 M284 (by first | omega | (simp only [*]; done) | simp only [*]) (by omega) (by omega) (by omega) (by omega) (by omega) (by omega) (by omega) (by omega) (by omega) (by omega) (by omega) (by omega) (by omega) (by first | exact hI | exact RW2_k hd0 C85 F90 (by decide) (by omega) | (exfalso; omega)) (by first | exact hI | exact RW2_k hd1 C87 F89 (by decide) (by omega) | (exfalso; omega)) (by first | exact hI | exact RW2_k hd2 C86 F90 (by decide) (by omega) | (exfalso; omega)) (by first | exact hI | exact RW2_k hd3 C88 F89 (by decide) (by omega) | (exfalso; omega))
set_option maxRecDepth 20000 in
set_option maxHeartbeats 8000000 in
theorem sp_case19 (L : Nat) (xs : Nat → Int32) (sio : Option Nat) (d : Nat) (Q : Option AV → am_W → Prop) (hLL : L ≤ 3072) (i : Int) (hi : 0 ≤ i ∧ i ≤ 3066) (hil : i ≤ (L : Int) - 6) (dt : Nat → Nat → Int) (hI : InvC dt) (hM : MW (dt 80)) (hM2 : MW (dt 81)) (hk0 : dt 1 0 = dt 80 0) (hk1 : dt 7 3 = dt 80 1) (hk2 : dt 10 3 = dt 80 2) (hk3 : dt 12 3 = dt 80 3) (hk4 : dt 14 3 = dt 80 4) (hk5 : dt 16 3 = dt 80 5) (hk6 : dt 18 0 = dt 81 0) (hk7 : dt 24 3 = dt 81 1) (hk8 : dt 27 3 = dt 81 2) (hk9 : dt 29 3 = dt 81 3) (hk10 : dt 31 3 = dt 81 4) (hk11 : dt 33 3 = dt 81 5) (hk12 : dt 0 2 = dt 79 2) (hk13 : dt 35 1 = dt 79 12) (hd0 : RW2 (dt 15) (dt 80) (dt 80 4) 7340) (hd1 : RW2 (dt 32) (dt 81) (dt 81 4) 7340) (hd2 : RW2 (dt 17) (dt 80) (dt 80 5) 7420) (hd3 : RW2 (dt 34) (dt 81) (dt 81 5) 7420) (K : ∀ (dt : Nat → Nat → Int) (hI : InvC dt) (hM : MW (dt 80)) (hM2 : MW (dt 81)) (hk0 : dt 1 0 = dt 80 0) (hk1 : dt 7 3 = dt 80 1) (hk2 : dt 10 3 = dt 80 2) (hk3 : dt 12 3 = dt 80 3) (hk4 : dt 14 3 = dt 80 4) (hk5 : dt 16 3 = dt 80 5) (hk6 : dt 18 0 = dt 81 0) (hk7 : dt 24 3 = dt 81 1) (hk8 : dt 27 3 = dt 81 2) (hk9 : dt 29 3 = dt 81 3) (hk10 : dt 31 3 = dt 81 4) (hk11 : dt 33 3 = dt 81 5) (hk12 : dt 0 2 = dt 79 2) (hk13 : dt 35 1 = dt 79 12) (hd0 : RW2 (dt 15) (dt 80) (dt 80 4) 7340) (hd1 : RW2 (dt 32) (dt 81) (dt 81 4) 7340) (hd2 : RW2 (dt 17) (dt 80) (dt 80 5) 7420) (hd3 : RW2 (dt 34) (dt 81) (dt 81 5) 7420), GO (am_XX L xs sio) (d + 39) 267 1435 [some (.inr (.inr (some 3000))), some (.inr (.inr (some 0))), some (.inr (.inr (some 79))), some (.inl i)] [] (SH, dt) Q) : GO (am_XX L xs sio) (d + 39) 267 987 [some (.inr (.inr (some 3000))), some (.inr (.inr (some 0))), some (.inr (.inr (some 79))), some (.inl i)] [] (SH, dt) Q := by
  have hF : Fr [0, 1, 2, 3, 4, 5, 6, 7, 8, 9, 10, 11, 12, 13, 14, 15, 16, 17, 18, 19, 20, 21, 22, 23, 24, 25, 26, 27, 28, 29, 30, 31, 32, 33, 34, 35, 36, 37, 38, 39, 40, 41, 42, 43, 44, 45, 46, 47, 48, 49, 50, 51, 52, 53, 54, 55, 56, 57, 58, 59, 60, 61, 62, 63, 64, 65, 66, 67, 68, 69, 70, 71, 72, 73, 74, 75, 76, 77, 78, 79, 80, 81, 82, 83, 84, 85, 86, 87, 88, 89, 90, 91, 92, 93, 94, 95, 96, 97, 98, 99, 100, 101, 102, 103, 104] dt dt := Fr_refl
  have hmn := MW_n hM
  have hmn2 := MW_n hM2
  refine go_toq PM267 (k := 5) (pc' := 992) (L' := [some (.inr (.inr (some 3000))), some (.inr (.inr (some 0))), some (.inr (.inr (some 79))), some (.inl i)]) (st' := [.inl (i + 1), .inr (.inr (some 3000)), .inr (.inr (some 0))]) (w' := (SH, dt)) rfl ?_
  have r1 := i32_R (xs ((i + 1).toNat))
  refine go_smpq PM267 (L' := [some (.inr (.inr (some 3000))), some (.inr (.inr (some 0))), some (.inr (.inr (some 79))), some (.inl i)]) (st' := [.inl ((xs ((i + 1).toNat)).toInt), .inr (.inr (some 0))]) (w' := (SH, dt)) rfl rfl (s_iald (n := L) (f := fun j => (xs j).toInt) (am_scr hLL) ⟨by omega, by omega⟩) ?_
  refine go_toq PM267 (k := 4) (pc' := 997) (L' := [some (.inr (.inr (some 3000))), some (.inr (.inr (some 0))), some (.inr (.inr (some 79))), some (.inl i)]) (st' := [.inl (i + 2), .inr (.inr (some 3000)), .inl ((xs ((i + 1).toNat)).toInt), .inr (.inr (some 0))]) (w' := (SH, dt)) rfl ?_
  have r2 := i32_R (xs ((i + 2).toNat))
  refine go_smpq PM267 (L' := [some (.inr (.inr (some 3000))), some (.inr (.inr (some 0))), some (.inr (.inr (some 79))), some (.inl i)]) (st' := [.inl ((xs ((i + 2).toNat)).toInt), .inl ((xs ((i + 1).toNat)).toInt), .inr (.inr (some 0))]) (w' := (SH, dt)) rfl rfl (s_iald (n := L) (f := fun j => (xs j).toInt) (am_scr hLL) ⟨by omega, by omega⟩) ?_
  refine go_callq PM267 PM86 (Q' := _) rfl rfl rfl rfl (sp_X5_odds L xs sio (d + 34) dt hI  ((xs ((i + 1).toNat)).toInt) ⟨by omega, by omega⟩ ((xs ((i + 2).toNat)).toInt) ⟨by omega, by omega⟩ ) ?_
  rintro _ _ ⟨dt4, rfl, hI5, hF6, h3⟩
  refine ⟨rfl, ?_⟩
  have hF7 : Fr [0, 1, 2, 3, 4, 5, 6, 7, 8, 9, 10, 11, 12, 13, 14, 15, 16, 17, 18, 19, 20, 21, 22, 23, 24, 25, 26, 27, 28, 29, 30, 31, 32, 33, 34, 35, 36, 37, 38, 39, 40, 41, 42, 43, 44, 45, 46, 47, 48, 49, 50, 51, 52, 53, 54, 55, 56, 57, 58, 59, 60, 61, 62, 63, 64, 65, 66, 67, 68, 69, 70, 71, 72, 73, 74, 75, 76, 77, 78, 79, 80, 81, 82, 83, 84, 85, 86, 87, 88, 89, 90, 91, 92, 93, 94, 95, 96, 97, 98, 99, 100, 101, 102, 103, 104] dt dt4 := Fr_tr hF hF6 (by decide)
  have hM8 : MW (dt4 80) := MW_fr hM hF6 (by decide)
  have w9 : dt4 1 0 = dt 1 0 := hF6 1 (by decide) 0
  have w10 : dt4 7 3 = dt 7 3 := hF6 7 (by decide) 3
  have w11 : dt4 10 3 = dt 10 3 := hF6 10 (by decide) 3
  have w12 : dt4 12 3 = dt 12 3 := hF6 12 (by decide) 3
  have w13 : dt4 14 3 = dt 14 3 := hF6 14 (by decide) 3
  have w14 : dt4 16 3 = dt 16 3 := hF6 16 (by decide) 3
  have w15 : dt4 18 0 = dt 18 0 := hF6 18 (by decide) 0
  have w16 : dt4 24 3 = dt 24 3 := hF6 24 (by decide) 3
  have w17 : dt4 27 3 = dt 27 3 := hF6 27 (by decide) 3
  have w18 : dt4 29 3 = dt 29 3 := hF6 29 (by decide) 3
  have w19 : dt4 31 3 = dt 31 3 := hF6 31 (by decide) 3
  have w20 : dt4 33 3 = dt 33 3 := hF6 33 (by decide) 3
  have w21 : dt4 0 2 = dt 0 2 := hF6 0 (by decide) 2
  have w22 : dt4 35 1 = dt 35 1 := hF6 35 (by decide) 1
  have w23 : dt4 80 0 = dt 80 0 := hF6 80 (by decide) 0
  have w24 : dt4 80 1 = dt 80 1 := hF6 80 (by decide) 1
  have w25 : dt4 80 2 = dt 80 2 := hF6 80 (by decide) 2
  have w26 : dt4 80 3 = dt 80 3 := hF6 80 (by decide) 3
  have w27 : dt4 80 4 = dt 80 4 := hF6 80 (by decide) 4
  have w28 : dt4 80 5 = dt 80 5 := hF6 80 (by decide) 5
  have w29 : dt4 81 0 = dt 81 0 := hF6 81 (by decide) 0
  have w30 : dt4 81 1 = dt 81 1 := hF6 81 (by decide) 1
  have w31 : dt4 81 2 = dt 81 2 := hF6 81 (by decide) 2
  have w32 : dt4 81 3 = dt 81 3 := hF6 81 (by decide) 3
  have w33 : dt4 81 4 = dt 81 4 := hF6 81 (by decide) 4
  have w34 : dt4 81 5 = dt 81 5 := hF6 81 (by decide) 5
  have w35 : dt4 79 2 = dt 79 2 := hF6 79 (by decide) 2
  have w36 : dt4 79 12 = dt 79 12 := hF6 79 (by decide) 12
  rcases h3 with ⟨v_h3, rfl, h3r, h3⟩
  have M237 : MW (dt4 81) := MW_frk hM2 hF6 (by decide)
  have C38 : ∀ j : Nat, dt4 15 j = dt 15 j := fun j => (hF6 15 (by decide) j).trans ((fun _ => rfl) j)
  have C39 : ∀ j : Nat, dt4 17 j = dt 17 j := fun j => (hF6 17 (by decide) j).trans ((fun _ => rfl) j)
  have C40 : ∀ j : Nat, dt4 32 j = dt 32 j := fun j => (hF6 32 (by decide) j).trans ((fun _ => rfl) j)
  have C41 : ∀ j : Nat, dt4 34 j = dt 34 j := fun j => (hF6 34 (by decide) j).trans ((fun _ => rfl) j)
  have F42 : ∀ j : Nat, 7340 ≤ j → dt4 81 j = dt 81 j := fun j hj => (hF6 81 (by decide) j).trans ((fun _ _ => rfl) j hj)
  have F43 : ∀ j : Nat, 7340 ≤ j → dt4 80 j = dt 80 j := fun j hj => (hF6 80 (by decide) j).trans ((fun _ _ => rfl) j hj)
  have F44 : ∀ j : Nat, dt4 80 j = dt 80 j := fun j => (hF6 80 (by decide) j).trans ((fun _ => rfl) j)
  have F45 : ∀ j : Nat, dt4 81 j = dt 81 j := fun j => (hF6 81 (by decide) j).trans ((fun _ => rfl) j)
  refine go_toq PM267 (k := 6) (pc' := 1007) (L' := [some (.inr (.inr (some 3000))), some (.inr (.inr (some 0))), some (.inr (.inr (some 79))), some (.inl i)]) (st' := [.inl (i + 1), .inr (.inr (some 3000)), .inr (.inr (some 79))]) (w' := (SH, dt4)) rfl ?_
  have r46 := i32_R (xs ((i + 1).toNat))
  refine go_smpq PM267 (L' := [some (.inr (.inr (some 3000))), some (.inr (.inr (some 0))), some (.inr (.inr (some 79))), some (.inl i)]) (st' := [.inl ((xs ((i + 1).toNat)).toInt), .inr (.inr (some 79))]) (w' := (SH, dt4)) rfl rfl (s_iald (n := L) (f := fun j => (xs j).toInt) (am_scr hLL) ⟨by omega, by omega⟩) ?_
  refine go_toq PM267 (k := 4) (pc' := 1012) (L' := [some (.inr (.inr (some 3000))), some (.inr (.inr (some 0))), some (.inr (.inr (some 79))), some (.inl i)]) (st' := [.inl (i + 2), .inr (.inr (some 3000)), .inl ((xs ((i + 1).toNat)).toInt), .inr (.inr (some 79))]) (w' := (SH, dt4)) rfl ?_
  have r47 := i32_R (xs ((i + 2).toNat))
  refine go_smpq PM267 (L' := [some (.inr (.inr (some 3000))), some (.inr (.inr (some 0))), some (.inr (.inr (some 79))), some (.inl i)]) (st' := [.inl ((xs ((i + 2).toNat)).toInt), .inl ((xs ((i + 1).toNat)).toInt), .inr (.inr (some 79))]) (w' := (SH, dt4)) rfl rfl (s_iald (n := L) (f := fun j => (xs j).toInt) (am_scr hLL) ⟨by omega, by omega⟩) ?_
  refine go_callq PM267 PM227 (Q' := _) rfl rfl rfl rfl (sp_X6_odds L xs sio (d + 31) dt4 hI5 hM8  ((xs ((i + 1).toNat)).toInt) ⟨by omega, by omega⟩ ((xs ((i + 2).toNat)).toInt) ⟨by omega, by omega⟩ ) ?_
  rintro _ _ ⟨dt49, rfl, hI50, hF51, h48⟩
  refine ⟨rfl, ?_⟩
  have hF52 : Fr [0, 1, 2, 3, 4, 5, 6, 7, 8, 9, 10, 11, 12, 13, 14, 15, 16, 17, 18, 19, 20, 21, 22, 23, 24, 25, 26, 27, 28, 29, 30, 31, 32, 33, 34, 35, 36, 37, 38, 39, 40, 41, 42, 43, 44, 45, 46, 47, 48, 49, 50, 51, 52, 53, 54, 55, 56, 57, 58, 59, 60, 61, 62, 63, 64, 65, 66, 67, 68, 69, 70, 71, 72, 73, 74, 75, 76, 77, 78, 79, 80, 81, 82, 83, 84, 85, 86, 87, 88, 89, 90, 91, 92, 93, 94, 95, 96, 97, 98, 99, 100, 101, 102, 103, 104] dt dt49 := Fr_tr hF7 hF51 (by decide)
  have hM53 : MW (dt49 80) := MW_fr hM8 hF51 (by decide)
  have w54 : dt49 1 0 = dt4 1 0 := hF51 1 (by decide) 0
  have w55 : dt49 7 3 = dt4 7 3 := hF51 7 (by decide) 3
  have w56 : dt49 10 3 = dt4 10 3 := hF51 10 (by decide) 3
  have w57 : dt49 12 3 = dt4 12 3 := hF51 12 (by decide) 3
  have w58 : dt49 14 3 = dt4 14 3 := hF51 14 (by decide) 3
  have w59 : dt49 16 3 = dt4 16 3 := hF51 16 (by decide) 3
  have w60 : dt49 18 0 = dt4 18 0 := hF51 18 (by decide) 0
  have w61 : dt49 24 3 = dt4 24 3 := hF51 24 (by decide) 3
  have w62 : dt49 27 3 = dt4 27 3 := hF51 27 (by decide) 3
  have w63 : dt49 29 3 = dt4 29 3 := hF51 29 (by decide) 3
  have w64 : dt49 31 3 = dt4 31 3 := hF51 31 (by decide) 3
  have w65 : dt49 33 3 = dt4 33 3 := hF51 33 (by decide) 3
  have w66 : dt49 0 2 = dt4 0 2 := hF51 0 (by decide) 2
  have w67 : dt49 35 1 = dt4 35 1 := hF51 35 (by decide) 1
  have w68 : dt49 80 0 = dt4 80 0 := hF51 80 (by decide) 0
  have w69 : dt49 80 1 = dt4 80 1 := hF51 80 (by decide) 1
  have w70 : dt49 80 2 = dt4 80 2 := hF51 80 (by decide) 2
  have w71 : dt49 80 3 = dt4 80 3 := hF51 80 (by decide) 3
  have w72 : dt49 80 4 = dt4 80 4 := hF51 80 (by decide) 4
  have w73 : dt49 80 5 = dt4 80 5 := hF51 80 (by decide) 5
  have w74 : dt49 81 0 = dt4 81 0 := hF51 81 (by decide) 0
  have w75 : dt49 81 1 = dt4 81 1 := hF51 81 (by decide) 1
  have w76 : dt49 81 2 = dt4 81 2 := hF51 81 (by decide) 2
  have w77 : dt49 81 3 = dt4 81 3 := hF51 81 (by decide) 3
  have w78 : dt49 81 4 = dt4 81 4 := hF51 81 (by decide) 4
  have w79 : dt49 81 5 = dt4 81 5 := hF51 81 (by decide) 5
  have w80 : dt49 79 2 = dt4 79 2 := hF51 79 (by decide) 2
  have w81 : dt49 79 12 = dt4 79 12 := hF51 79 (by decide) 12
  rcases h48 with ⟨v_h48, rfl, h48r, h48⟩
  have M282 : MW (dt49 81) := MW_frk M237 hF51 (by decide)
  have C83 : ∀ j : Nat, dt49 15 j = dt 15 j := fun j => (hF51 15 (by decide) j).trans (C38 j)
  have C84 : ∀ j : Nat, dt49 17 j = dt 17 j := fun j => (hF51 17 (by decide) j).trans (C39 j)
  have C85 : ∀ j : Nat, dt49 32 j = dt 32 j := fun j => (hF51 32 (by decide) j).trans (C40 j)
  have C86 : ∀ j : Nat, dt49 34 j = dt 34 j := fun j => (hF51 34 (by decide) j).trans (C41 j)
  have F87 : ∀ j : Nat, 7340 ≤ j → dt49 81 j = dt 81 j := fun j hj => (hF51 81 (by decide) j).trans (F42 j hj)
  have F88 : ∀ j : Nat, 7340 ≤ j → dt49 80 j = dt 80 j := fun j hj => (hF51 80 (by decide) j).trans (F43 j hj)
  have F89 : ∀ j : Nat, dt49 80 j = dt 80 j := fun j => (hF51 80 (by decide) j).trans (F44 j)
  have F90 : ∀ j : Nat, dt49 81 j = dt 81 j := fun j => (hF51 81 (by decide) j).trans (F45 j)
  refine go_toq PM267 (k := 2) (pc' := 1435) (L' := [some (.inr (.inr (some 3000))), some (.inr (.inr (some 0))), some (.inr (.inr (some 79))), some (.inl i)]) (st' := []) (w' := (SH, dt49)) rfl ?_
  exact K dt49 hI50 hM53 M282 (by first | omega | (simp only [*]; done) | simp only [*]) (by omega) (by omega) (by omega) (by omega) (by omega) (by omega) (by omega) (by omega) (by omega) (by omega) (by omega) (by omega) (by omega) (by first | exact hI | exact RW2_k hd0 C83 F88 (by decide) (by omega) | (exfalso; omega)) (by first | exact hI | exact RW2_k hd1 C85 F87 (by decide) (by omega) | (exfalso; omega)) (by first | exact hI | exact RW2_k hd2 C84 F88 (by decide) (by omega) | (exfalso; omega)) (by first | exact hI | exact RW2_k hd3 C86 F87 (by decide) (by omega) | (exfalso; omega))
set_option maxRecDepth 20000 in
set_option maxHeartbeats 8000000 in
theorem sp_case20 (L : Nat) (xs : Nat → Int32) (sio : Option Nat) (d : Nat) (Q : Option AV → am_W → Prop) (hLL : L ≤ 3072) (i : Int) (hi : 0 ≤ i ∧ i ≤ 3066) (hil : i ≤ (L : Int) - 6) (dt : Nat → Nat → Int) (hI : InvC dt) (hM : MW (dt 80)) (hM2 : MW (dt 81)) (hk0 : dt 1 0 = dt 80 0) (hk1 : dt 7 3 = dt 80 1) (hk2 : dt 10 3 = dt 80 2) (hk3 : dt 12 3 = dt 80 3) (hk4 : dt 14 3 = dt 80 4) (hk5 : dt 16 3 = dt 80 5) (hk6 : dt 18 0 = dt 81 0) (hk7 : dt 24 3 = dt 81 1) (hk8 : dt 27 3 = dt 81 2) (hk9 : dt 29 3 = dt 81 3) (hk10 : dt 31 3 = dt 81 4) (hk11 : dt 33 3 = dt 81 5) (hk12 : dt 0 2 = dt 79 2) (hk13 : dt 35 1 = dt 79 12) (hd0 : RW2 (dt 15) (dt 80) (dt 80 4) 7340) (hd1 : RW2 (dt 32) (dt 81) (dt 81 4) 7340) (hd2 : RW2 (dt 17) (dt 80) (dt 80 5) 7420) (hd3 : RW2 (dt 34) (dt 81) (dt 81 5) 7420) (K : ∀ (dt : Nat → Nat → Int) (hI : InvC dt) (hM : MW (dt 80)) (hM2 : MW (dt 81)) (hk0 : dt 1 0 = dt 80 0) (hk1 : dt 7 3 = dt 80 1) (hk2 : dt 10 3 = dt 80 2) (hk3 : dt 12 3 = dt 80 3) (hk4 : dt 14 3 = dt 80 4) (hk5 : dt 16 3 = dt 80 5) (hk6 : dt 18 0 = dt 81 0) (hk7 : dt 24 3 = dt 81 1) (hk8 : dt 27 3 = dt 81 2) (hk9 : dt 29 3 = dt 81 3) (hk10 : dt 31 3 = dt 81 4) (hk11 : dt 33 3 = dt 81 5) (hk12 : dt 0 2 = dt 79 2) (hk13 : dt 35 1 = dt 79 12) (hd0 : RW2 (dt 15) (dt 80) (dt 80 4) 7340) (hd1 : RW2 (dt 32) (dt 81) (dt 81 4) 7340) (hd2 : RW2 (dt 17) (dt 80) (dt 80 5) 7420) (hd3 : RW2 (dt 34) (dt 81) (dt 81 5) 7420), GO (am_XX L xs sio) (d + 39) 267 1435 [some (.inr (.inr (some 3000))), some (.inr (.inr (some 0))), some (.inr (.inr (some 79))), some (.inl i)] [] (SH, dt) Q) : GO (am_XX L xs sio) (d + 39) 267 1020 [some (.inr (.inr (some 3000))), some (.inr (.inr (some 0))), some (.inr (.inr (some 79))), some (.inl i)] [] (SH, dt) Q := by
  have hF : Fr [0, 1, 2, 3, 4, 5, 6, 7, 8, 9, 10, 11, 12, 13, 14, 15, 16, 17, 18, 19, 20, 21, 22, 23, 24, 25, 26, 27, 28, 29, 30, 31, 32, 33, 34, 35, 36, 37, 38, 39, 40, 41, 42, 43, 44, 45, 46, 47, 48, 49, 50, 51, 52, 53, 54, 55, 56, 57, 58, 59, 60, 61, 62, 63, 64, 65, 66, 67, 68, 69, 70, 71, 72, 73, 74, 75, 76, 77, 78, 79, 80, 81, 82, 83, 84, 85, 86, 87, 88, 89, 90, 91, 92, 93, 94, 95, 96, 97, 98, 99, 100, 101, 102, 103, 104] dt dt := Fr_refl
  have hmn := MW_n hM
  have hmn2 := MW_n hM2
  refine go_toq PM267 (k := 5) (pc' := 1025) (L' := [some (.inr (.inr (some 3000))), some (.inr (.inr (some 0))), some (.inr (.inr (some 79))), some (.inl i)]) (st' := [.inl (i + 1), .inr (.inr (some 3000)), .inr (.inr (some 0))]) (w' := (SH, dt)) rfl ?_
  have r1 := i32_R (xs ((i + 1).toNat))
  refine go_smpq PM267 (L' := [some (.inr (.inr (some 3000))), some (.inr (.inr (some 0))), some (.inr (.inr (some 79))), some (.inl i)]) (st' := [.inl ((xs ((i + 1).toNat)).toInt), .inr (.inr (some 0))]) (w' := (SH, dt)) rfl rfl (s_iald (n := L) (f := fun j => (xs j).toInt) (am_scr hLL) ⟨by omega, by omega⟩) ?_
  refine go_toq PM267 (k := 4) (pc' := 1030) (L' := [some (.inr (.inr (some 3000))), some (.inr (.inr (some 0))), some (.inr (.inr (some 79))), some (.inl i)]) (st' := [.inl (i + 2), .inr (.inr (some 3000)), .inl ((xs ((i + 1).toNat)).toInt), .inr (.inr (some 0))]) (w' := (SH, dt)) rfl ?_
  have r2 := i32_R (xs ((i + 2).toNat))
  refine go_smpq PM267 (L' := [some (.inr (.inr (some 3000))), some (.inr (.inr (some 0))), some (.inr (.inr (some 79))), some (.inl i)]) (st' := [.inl ((xs ((i + 2).toNat)).toInt), .inl ((xs ((i + 1).toNat)).toInt), .inr (.inr (some 0))]) (w' := (SH, dt)) rfl rfl (s_iald (n := L) (f := fun j => (xs j).toInt) (am_scr hLL) ⟨by omega, by omega⟩) ?_
  refine go_callq PM267 PM87 (Q' := _) rfl rfl rfl rfl (sp_X5_need L xs sio (d + 35) dt hI  ((xs ((i + 1).toNat)).toInt) ⟨by omega, by omega⟩ ((xs ((i + 2).toNat)).toInt) ⟨by omega, by omega⟩ ) ?_
  rintro _ _ ⟨dt4, rfl, hI5, hF6, h3⟩
  refine ⟨rfl, ?_⟩
  have hF7 : Fr [0, 1, 2, 3, 4, 5, 6, 7, 8, 9, 10, 11, 12, 13, 14, 15, 16, 17, 18, 19, 20, 21, 22, 23, 24, 25, 26, 27, 28, 29, 30, 31, 32, 33, 34, 35, 36, 37, 38, 39, 40, 41, 42, 43, 44, 45, 46, 47, 48, 49, 50, 51, 52, 53, 54, 55, 56, 57, 58, 59, 60, 61, 62, 63, 64, 65, 66, 67, 68, 69, 70, 71, 72, 73, 74, 75, 76, 77, 78, 79, 80, 81, 82, 83, 84, 85, 86, 87, 88, 89, 90, 91, 92, 93, 94, 95, 96, 97, 98, 99, 100, 101, 102, 103, 104] dt dt4 := Fr_tr hF hF6 (by decide)
  have hM8 : MW (dt4 80) := MW_fr hM hF6 (by decide)
  have w9 : dt4 1 0 = dt 1 0 := hF6 1 (by decide) 0
  have w10 : dt4 7 3 = dt 7 3 := hF6 7 (by decide) 3
  have w11 : dt4 10 3 = dt 10 3 := hF6 10 (by decide) 3
  have w12 : dt4 12 3 = dt 12 3 := hF6 12 (by decide) 3
  have w13 : dt4 14 3 = dt 14 3 := hF6 14 (by decide) 3
  have w14 : dt4 16 3 = dt 16 3 := hF6 16 (by decide) 3
  have w15 : dt4 18 0 = dt 18 0 := hF6 18 (by decide) 0
  have w16 : dt4 24 3 = dt 24 3 := hF6 24 (by decide) 3
  have w17 : dt4 27 3 = dt 27 3 := hF6 27 (by decide) 3
  have w18 : dt4 29 3 = dt 29 3 := hF6 29 (by decide) 3
  have w19 : dt4 31 3 = dt 31 3 := hF6 31 (by decide) 3
  have w20 : dt4 33 3 = dt 33 3 := hF6 33 (by decide) 3
  have w21 : dt4 0 2 = dt 0 2 := hF6 0 (by decide) 2
  have w22 : dt4 35 1 = dt 35 1 := hF6 35 (by decide) 1
  have w23 : dt4 80 0 = dt 80 0 := hF6 80 (by decide) 0
  have w24 : dt4 80 1 = dt 80 1 := hF6 80 (by decide) 1
  have w25 : dt4 80 2 = dt 80 2 := hF6 80 (by decide) 2
  have w26 : dt4 80 3 = dt 80 3 := hF6 80 (by decide) 3
  have w27 : dt4 80 4 = dt 80 4 := hF6 80 (by decide) 4
  have w28 : dt4 80 5 = dt 80 5 := hF6 80 (by decide) 5
  have w29 : dt4 81 0 = dt 81 0 := hF6 81 (by decide) 0
  have w30 : dt4 81 1 = dt 81 1 := hF6 81 (by decide) 1
  have w31 : dt4 81 2 = dt 81 2 := hF6 81 (by decide) 2
  have w32 : dt4 81 3 = dt 81 3 := hF6 81 (by decide) 3
  have w33 : dt4 81 4 = dt 81 4 := hF6 81 (by decide) 4
  have w34 : dt4 81 5 = dt 81 5 := hF6 81 (by decide) 5
  have w35 : dt4 79 2 = dt 79 2 := hF6 79 (by decide) 2
  have w36 : dt4 79 12 = dt 79 12 := hF6 79 (by decide) 12
  rcases h3 with ⟨v_h3, rfl, h3r, h3⟩
  have M237 : MW (dt4 81) := MW_frk hM2 hF6 (by decide)
  have C38 : ∀ j : Nat, dt4 15 j = dt 15 j := fun j => (hF6 15 (by decide) j).trans ((fun _ => rfl) j)
  have C39 : ∀ j : Nat, dt4 17 j = dt 17 j := fun j => (hF6 17 (by decide) j).trans ((fun _ => rfl) j)
  have C40 : ∀ j : Nat, dt4 32 j = dt 32 j := fun j => (hF6 32 (by decide) j).trans ((fun _ => rfl) j)
  have C41 : ∀ j : Nat, dt4 34 j = dt 34 j := fun j => (hF6 34 (by decide) j).trans ((fun _ => rfl) j)
  have F42 : ∀ j : Nat, 7340 ≤ j → dt4 81 j = dt 81 j := fun j hj => (hF6 81 (by decide) j).trans ((fun _ _ => rfl) j hj)
  have F43 : ∀ j : Nat, 7340 ≤ j → dt4 80 j = dt 80 j := fun j hj => (hF6 80 (by decide) j).trans ((fun _ _ => rfl) j hj)
  have F44 : ∀ j : Nat, dt4 80 j = dt 80 j := fun j => (hF6 80 (by decide) j).trans ((fun _ => rfl) j)
  have F45 : ∀ j : Nat, dt4 81 j = dt 81 j := fun j => (hF6 81 (by decide) j).trans ((fun _ => rfl) j)
  refine go_toq PM267 (k := 6) (pc' := 1040) (L' := [some (.inr (.inr (some 3000))), some (.inr (.inr (some 0))), some (.inr (.inr (some 79))), some (.inl i)]) (st' := [.inl (i + 1), .inr (.inr (some 3000)), .inr (.inr (some 79))]) (w' := (SH, dt4)) rfl ?_
  have r46 := i32_R (xs ((i + 1).toNat))
  refine go_smpq PM267 (L' := [some (.inr (.inr (some 3000))), some (.inr (.inr (some 0))), some (.inr (.inr (some 79))), some (.inl i)]) (st' := [.inl ((xs ((i + 1).toNat)).toInt), .inr (.inr (some 79))]) (w' := (SH, dt4)) rfl rfl (s_iald (n := L) (f := fun j => (xs j).toInt) (am_scr hLL) ⟨by omega, by omega⟩) ?_
  refine go_toq PM267 (k := 4) (pc' := 1045) (L' := [some (.inr (.inr (some 3000))), some (.inr (.inr (some 0))), some (.inr (.inr (some 79))), some (.inl i)]) (st' := [.inl (i + 2), .inr (.inr (some 3000)), .inl ((xs ((i + 1).toNat)).toInt), .inr (.inr (some 79))]) (w' := (SH, dt4)) rfl ?_
  have r47 := i32_R (xs ((i + 2).toNat))
  refine go_smpq PM267 (L' := [some (.inr (.inr (some 3000))), some (.inr (.inr (some 0))), some (.inr (.inr (some 79))), some (.inl i)]) (st' := [.inl ((xs ((i + 2).toNat)).toInt), .inl ((xs ((i + 1).toNat)).toInt), .inr (.inr (some 79))]) (w' := (SH, dt4)) rfl rfl (s_iald (n := L) (f := fun j => (xs j).toInt) (am_scr hLL) ⟨by omega, by omega⟩) ?_
  refine go_callq PM267 PM228 (Q' := _) rfl rfl rfl rfl (sp_X6_need L xs sio (d + 33) dt4 hI5 hM8  ((xs ((i + 1).toNat)).toInt) ⟨by omega, by omega⟩ ((xs ((i + 2).toNat)).toInt) ⟨by omega, by omega⟩ ) ?_
  rintro _ _ ⟨dt49, rfl, hI50, hF51, h48⟩
  refine ⟨rfl, ?_⟩
  have hF52 : Fr [0, 1, 2, 3, 4, 5, 6, 7, 8, 9, 10, 11, 12, 13, 14, 15, 16, 17, 18, 19, 20, 21, 22, 23, 24, 25, 26, 27, 28, 29, 30, 31, 32, 33, 34, 35, 36, 37, 38, 39, 40, 41, 42, 43, 44, 45, 46, 47, 48, 49, 50, 51, 52, 53, 54, 55, 56, 57, 58, 59, 60, 61, 62, 63, 64, 65, 66, 67, 68, 69, 70, 71, 72, 73, 74, 75, 76, 77, 78, 79, 80, 81, 82, 83, 84, 85, 86, 87, 88, 89, 90, 91, 92, 93, 94, 95, 96, 97, 98, 99, 100, 101, 102, 103, 104] dt dt49 := Fr_tr hF7 hF51 (by decide)
  have hM53 : MW (dt49 80) := MW_fr hM8 hF51 (by decide)
  have w54 : dt49 1 0 = dt4 1 0 := hF51 1 (by decide) 0
  have w55 : dt49 7 3 = dt4 7 3 := hF51 7 (by decide) 3
  have w56 : dt49 10 3 = dt4 10 3 := hF51 10 (by decide) 3
  have w57 : dt49 12 3 = dt4 12 3 := hF51 12 (by decide) 3
  have w58 : dt49 14 3 = dt4 14 3 := hF51 14 (by decide) 3
  have w59 : dt49 16 3 = dt4 16 3 := hF51 16 (by decide) 3
  have w60 : dt49 18 0 = dt4 18 0 := hF51 18 (by decide) 0
  have w61 : dt49 24 3 = dt4 24 3 := hF51 24 (by decide) 3
  have w62 : dt49 27 3 = dt4 27 3 := hF51 27 (by decide) 3
  have w63 : dt49 29 3 = dt4 29 3 := hF51 29 (by decide) 3
  have w64 : dt49 31 3 = dt4 31 3 := hF51 31 (by decide) 3
  have w65 : dt49 33 3 = dt4 33 3 := hF51 33 (by decide) 3
  have w66 : dt49 0 2 = dt4 0 2 := hF51 0 (by decide) 2
  have w67 : dt49 35 1 = dt4 35 1 := hF51 35 (by decide) 1
  have w68 : dt49 80 0 = dt4 80 0 := hF51 80 (by decide) 0
  have w69 : dt49 80 1 = dt4 80 1 := hF51 80 (by decide) 1
  have w70 : dt49 80 2 = dt4 80 2 := hF51 80 (by decide) 2
  have w71 : dt49 80 3 = dt4 80 3 := hF51 80 (by decide) 3
  have w72 : dt49 80 4 = dt4 80 4 := hF51 80 (by decide) 4
  have w73 : dt49 80 5 = dt4 80 5 := hF51 80 (by decide) 5
  have w74 : dt49 81 0 = dt4 81 0 := hF51 81 (by decide) 0
  have w75 : dt49 81 1 = dt4 81 1 := hF51 81 (by decide) 1
  have w76 : dt49 81 2 = dt4 81 2 := hF51 81 (by decide) 2
  have w77 : dt49 81 3 = dt4 81 3 := hF51 81 (by decide) 3
  have w78 : dt49 81 4 = dt4 81 4 := hF51 81 (by decide) 4
  have w79 : dt49 81 5 = dt4 81 5 := hF51 81 (by decide) 5
  have w80 : dt49 79 2 = dt4 79 2 := hF51 79 (by decide) 2
  have w81 : dt49 79 12 = dt4 79 12 := hF51 79 (by decide) 12
  rcases h48 with ⟨v_h48, rfl, h48r, h48⟩
  have M282 : MW (dt49 81) := MW_frk M237 hF51 (by decide)
  have C83 : ∀ j : Nat, dt49 15 j = dt 15 j := fun j => (hF51 15 (by decide) j).trans (C38 j)
  have C84 : ∀ j : Nat, dt49 17 j = dt 17 j := fun j => (hF51 17 (by decide) j).trans (C39 j)
  have C85 : ∀ j : Nat, dt49 32 j = dt 32 j := fun j => (hF51 32 (by decide) j).trans (C40 j)
  have C86 : ∀ j : Nat, dt49 34 j = dt 34 j := fun j => (hF51 34 (by decide) j).trans (C41 j)
  have F87 : ∀ j : Nat, 7340 ≤ j → dt49 81 j = dt 81 j := fun j hj => (hF51 81 (by decide) j).trans (F42 j hj)
  have F88 : ∀ j : Nat, 7340 ≤ j → dt49 80 j = dt 80 j := fun j hj => (hF51 80 (by decide) j).trans (F43 j hj)
  have F89 : ∀ j : Nat, dt49 80 j = dt 80 j := fun j => (hF51 80 (by decide) j).trans (F44 j)
  have F90 : ∀ j : Nat, dt49 81 j = dt 81 j := fun j => (hF51 81 (by decide) j).trans (F45 j)
  refine go_toq PM267 (k := 2) (pc' := 1435) (L' := [some (.inr (.inr (some 3000))), some (.inr (.inr (some 0))), some (.inr (.inr (some 79))), some (.inl i)]) (st' := []) (w' := (SH, dt49)) rfl ?_
  exact K dt49 hI50 hM53 M282 (by first | omega | (simp only [*]; done) | simp only [*]) (by omega) (by omega) (by omega) (by omega) (by omega) (by omega) (by omega) (by omega) (by omega) (by omega) (by omega) (by omega) (by omega) (by first | exact hI | exact RW2_k hd0 C83 F88 (by decide) (by omega) | (exfalso; omega)) (by first | exact hI | exact RW2_k hd1 C85 F87 (by decide) (by omega) | (exfalso; omega)) (by first | exact hI | exact RW2_k hd2 C84 F88 (by decide) (by omega) | (exfalso; omega)) (by first | exact hI | exact RW2_k hd3 C86 F87 (by decide) (by omega) | (exfalso; omega))
set_option maxRecDepth 20000 in
set_option maxHeartbeats 8000000 in
theorem sp_case21 (L : Nat) (xs : Nat → Int32) (sio : Option Nat) (d : Nat) (Q : Option AV → am_W → Prop) (hLL : L ≤ 3072) (i : Int) (hi : 0 ≤ i ∧ i ≤ 3066) (hil : i ≤ (L : Int) - 6) (dt : Nat → Nat → Int) (hI : InvC dt) (hM : MW (dt 80)) (hM2 : MW (dt 81)) (hk0 : dt 1 0 = dt 80 0) (hk1 : dt 7 3 = dt 80 1) (hk2 : dt 10 3 = dt 80 2) (hk3 : dt 12 3 = dt 80 3) (hk4 : dt 14 3 = dt 80 4) (hk5 : dt 16 3 = dt 80 5) (hk6 : dt 18 0 = dt 81 0) (hk7 : dt 24 3 = dt 81 1) (hk8 : dt 27 3 = dt 81 2) (hk9 : dt 29 3 = dt 81 3) (hk10 : dt 31 3 = dt 81 4) (hk11 : dt 33 3 = dt 81 5) (hk12 : dt 0 2 = dt 79 2) (hk13 : dt 35 1 = dt 79 12) (hd0 : RW2 (dt 15) (dt 80) (dt 80 4) 7340) (hd1 : RW2 (dt 32) (dt 81) (dt 81 4) 7340) (hd2 : RW2 (dt 17) (dt 80) (dt 80 5) 7420) (hd3 : RW2 (dt 34) (dt 81) (dt 81 5) 7420) (K : ∀ (dt : Nat → Nat → Int) (hI : InvC dt) (hM : MW (dt 80)) (hM2 : MW (dt 81)) (hk0 : dt 1 0 = dt 80 0) (hk1 : dt 7 3 = dt 80 1) (hk2 : dt 10 3 = dt 80 2) (hk3 : dt 12 3 = dt 80 3) (hk4 : dt 14 3 = dt 80 4) (hk5 : dt 16 3 = dt 80 5) (hk6 : dt 18 0 = dt 81 0) (hk7 : dt 24 3 = dt 81 1) (hk8 : dt 27 3 = dt 81 2) (hk9 : dt 29 3 = dt 81 3) (hk10 : dt 31 3 = dt 81 4) (hk11 : dt 33 3 = dt 81 5) (hk12 : dt 0 2 = dt 79 2) (hk13 : dt 35 1 = dt 79 12) (hd0 : RW2 (dt 15) (dt 80) (dt 80 4) 7340) (hd1 : RW2 (dt 32) (dt 81) (dt 81 4) 7340) (hd2 : RW2 (dt 17) (dt 80) (dt 80 5) 7420) (hd3 : RW2 (dt 34) (dt 81) (dt 81 5) 7420), GO (am_XX L xs sio) (d + 39) 267 1435 [some (.inr (.inr (some 3000))), some (.inr (.inr (some 0))), some (.inr (.inr (some 79))), some (.inl i)] [] (SH, dt) Q) : GO (am_XX L xs sio) (d + 39) 267 1053 [some (.inr (.inr (some 3000))), some (.inr (.inr (some 0))), some (.inr (.inr (some 79))), some (.inl i)] [] (SH, dt) Q := by
  have hF : Fr [0, 1, 2, 3, 4, 5, 6, 7, 8, 9, 10, 11, 12, 13, 14, 15, 16, 17, 18, 19, 20, 21, 22, 23, 24, 25, 26, 27, 28, 29, 30, 31, 32, 33, 34, 35, 36, 37, 38, 39, 40, 41, 42, 43, 44, 45, 46, 47, 48, 49, 50, 51, 52, 53, 54, 55, 56, 57, 58, 59, 60, 61, 62, 63, 64, 65, 66, 67, 68, 69, 70, 71, 72, 73, 74, 75, 76, 77, 78, 79, 80, 81, 82, 83, 84, 85, 86, 87, 88, 89, 90, 91, 92, 93, 94, 95, 96, 97, 98, 99, 100, 101, 102, 103, 104] dt dt := Fr_refl
  have hmn := MW_n hM
  have hmn2 := MW_n hM2
  refine go_toq PM267 (k := 5) (pc' := 1058) (L' := [some (.inr (.inr (some 3000))), some (.inr (.inr (some 0))), some (.inr (.inr (some 79))), some (.inl i)]) (st' := [.inl (i + 1), .inr (.inr (some 3000)), .inr (.inr (some 0))]) (w' := (SH, dt)) rfl ?_
  have r1 := i32_R (xs ((i + 1).toNat))
  refine go_smpq PM267 (L' := [some (.inr (.inr (some 3000))), some (.inr (.inr (some 0))), some (.inr (.inr (some 79))), some (.inl i)]) (st' := [.inl ((xs ((i + 1).toNat)).toInt), .inr (.inr (some 0))]) (w' := (SH, dt)) rfl rfl (s_iald (n := L) (f := fun j => (xs j).toInt) (am_scr hLL) ⟨by omega, by omega⟩) ?_
  refine go_toq PM267 (k := 4) (pc' := 1063) (L' := [some (.inr (.inr (some 3000))), some (.inr (.inr (some 0))), some (.inr (.inr (some 79))), some (.inl i)]) (st' := [.inl (i + 2), .inr (.inr (some 3000)), .inl ((xs ((i + 1).toNat)).toInt), .inr (.inr (some 0))]) (w' := (SH, dt)) rfl ?_
  have r2 := i32_R (xs ((i + 2).toNat))
  refine go_smpq PM267 (L' := [some (.inr (.inr (some 3000))), some (.inr (.inr (some 0))), some (.inr (.inr (some 79))), some (.inl i)]) (st' := [.inl ((xs ((i + 2).toNat)).toInt), .inl ((xs ((i + 1).toNat)).toInt), .inr (.inr (some 0))]) (w' := (SH, dt)) rfl rfl (s_iald (n := L) (f := fun j => (xs j).toInt) (am_scr hLL) ⟨by omega, by omega⟩) ?_
  refine go_callq PM267 PM88 (Q' := _) rfl rfl rfl rfl (sp_X5_pulls L xs sio (d + 35) dt hI  ((xs ((i + 1).toNat)).toInt) ⟨by omega, by omega⟩ ((xs ((i + 2).toNat)).toInt) ⟨by omega, by omega⟩ ) ?_
  rintro _ _ ⟨rfl, h3⟩
  refine ⟨rfl, ?_⟩
  rcases h3 with ⟨v_h3, rfl, h3r, h3⟩
  refine go_toq PM267 (k := 6) (pc' := 1073) (L' := [some (.inr (.inr (some 3000))), some (.inr (.inr (some 0))), some (.inr (.inr (some 79))), some (.inl i)]) (st' := [.inl (i + 1), .inr (.inr (some 3000)), .inr (.inr (some 79))]) (w' := (SH, dt)) rfl ?_
  refine go_smpq PM267 (L' := [some (.inr (.inr (some 3000))), some (.inr (.inr (some 0))), some (.inr (.inr (some 79))), some (.inl i)]) (st' := [.inl ((xs ((i + 1).toNat)).toInt), .inr (.inr (some 79))]) (w' := (SH, dt)) rfl rfl (s_iald (n := L) (f := fun j => (xs j).toInt) (am_scr hLL) ⟨by omega, by omega⟩) ?_
  refine go_toq PM267 (k := 4) (pc' := 1078) (L' := [some (.inr (.inr (some 3000))), some (.inr (.inr (some 0))), some (.inr (.inr (some 79))), some (.inl i)]) (st' := [.inl (i + 2), .inr (.inr (some 3000)), .inl ((xs ((i + 1).toNat)).toInt), .inr (.inr (some 79))]) (w' := (SH, dt)) rfl ?_
  refine go_smpq PM267 (L' := [some (.inr (.inr (some 3000))), some (.inr (.inr (some 0))), some (.inr (.inr (some 79))), some (.inl i)]) (st' := [.inl ((xs ((i + 2).toNat)).toInt), .inl ((xs ((i + 1).toNat)).toInt), .inr (.inr (some 79))]) (w' := (SH, dt)) rfl rfl (s_iald (n := L) (f := fun j => (xs j).toInt) (am_scr hLL) ⟨by omega, by omega⟩) ?_
  refine go_callq PM267 PM230 (Q' := _) rfl rfl rfl rfl (sp_X6_pulls L xs sio (d + 31) dt hI hM  ((xs ((i + 1).toNat)).toInt) ⟨by omega, by omega⟩ ((xs ((i + 2).toNat)).toInt) ⟨by omega, by omega⟩ ) ?_
  rintro _ _ ⟨dt5, rfl, hI6, hF7, h4⟩
  refine ⟨rfl, ?_⟩
  have hF8 : Fr [0, 1, 2, 3, 4, 5, 6, 7, 8, 9, 10, 11, 12, 13, 14, 15, 16, 17, 18, 19, 20, 21, 22, 23, 24, 25, 26, 27, 28, 29, 30, 31, 32, 33, 34, 35, 36, 37, 38, 39, 40, 41, 42, 43, 44, 45, 46, 47, 48, 49, 50, 51, 52, 53, 54, 55, 56, 57, 58, 59, 60, 61, 62, 63, 64, 65, 66, 67, 68, 69, 70, 71, 72, 73, 74, 75, 76, 77, 78, 79, 80, 81, 82, 83, 84, 85, 86, 87, 88, 89, 90, 91, 92, 93, 94, 95, 96, 97, 98, 99, 100, 101, 102, 103, 104] dt dt5 := Fr_tr hF hF7 (by decide)
  have hM9 : MW (dt5 80) := MW_fr hM hF7 (by decide)
  have w10 : dt5 1 0 = dt 1 0 := hF7 1 (by decide) 0
  have w11 : dt5 7 3 = dt 7 3 := hF7 7 (by decide) 3
  have w12 : dt5 10 3 = dt 10 3 := hF7 10 (by decide) 3
  have w13 : dt5 12 3 = dt 12 3 := hF7 12 (by decide) 3
  have w14 : dt5 14 3 = dt 14 3 := hF7 14 (by decide) 3
  have w15 : dt5 16 3 = dt 16 3 := hF7 16 (by decide) 3
  have w16 : dt5 18 0 = dt 18 0 := hF7 18 (by decide) 0
  have w17 : dt5 24 3 = dt 24 3 := hF7 24 (by decide) 3
  have w18 : dt5 27 3 = dt 27 3 := hF7 27 (by decide) 3
  have w19 : dt5 29 3 = dt 29 3 := hF7 29 (by decide) 3
  have w20 : dt5 31 3 = dt 31 3 := hF7 31 (by decide) 3
  have w21 : dt5 33 3 = dt 33 3 := hF7 33 (by decide) 3
  have w22 : dt5 0 2 = dt 0 2 := hF7 0 (by decide) 2
  have w23 : dt5 35 1 = dt 35 1 := hF7 35 (by decide) 1
  have w24 : dt5 80 0 = dt 80 0 := hF7 80 (by decide) 0
  have w25 : dt5 80 1 = dt 80 1 := hF7 80 (by decide) 1
  have w26 : dt5 80 2 = dt 80 2 := hF7 80 (by decide) 2
  have w27 : dt5 80 3 = dt 80 3 := hF7 80 (by decide) 3
  have w28 : dt5 80 4 = dt 80 4 := hF7 80 (by decide) 4
  have w29 : dt5 80 5 = dt 80 5 := hF7 80 (by decide) 5
  have w30 : dt5 81 0 = dt 81 0 := hF7 81 (by decide) 0
  have w31 : dt5 81 1 = dt 81 1 := hF7 81 (by decide) 1
  have w32 : dt5 81 2 = dt 81 2 := hF7 81 (by decide) 2
  have w33 : dt5 81 3 = dt 81 3 := hF7 81 (by decide) 3
  have w34 : dt5 81 4 = dt 81 4 := hF7 81 (by decide) 4
  have w35 : dt5 81 5 = dt 81 5 := hF7 81 (by decide) 5
  have w36 : dt5 79 2 = dt 79 2 := hF7 79 (by decide) 2
  have w37 : dt5 79 12 = dt 79 12 := hF7 79 (by decide) 12
  rcases h4 with ⟨v_h4, rfl, h4r, h4⟩
  have M238 : MW (dt5 81) := MW_frk hM2 hF7 (by decide)
  have C39 : ∀ j : Nat, dt5 15 j = dt 15 j := fun j => (hF7 15 (by decide) j).trans ((fun _ => rfl) j)
  have C40 : ∀ j : Nat, dt5 17 j = dt 17 j := fun j => (hF7 17 (by decide) j).trans ((fun _ => rfl) j)
  have C41 : ∀ j : Nat, dt5 32 j = dt 32 j := fun j => (hF7 32 (by decide) j).trans ((fun _ => rfl) j)
  have C42 : ∀ j : Nat, dt5 34 j = dt 34 j := fun j => (hF7 34 (by decide) j).trans ((fun _ => rfl) j)
  have F43 : ∀ j : Nat, 7340 ≤ j → dt5 81 j = dt 81 j := fun j hj => (hF7 81 (by decide) j).trans ((fun _ _ => rfl) j hj)
  have F44 : ∀ j : Nat, 7340 ≤ j → dt5 80 j = dt 80 j := fun j hj => (hF7 80 (by decide) j).trans ((fun _ _ => rfl) j hj)
  have F45 : ∀ j : Nat, dt5 80 j = dt 80 j := fun j => (hF7 80 (by decide) j).trans ((fun _ => rfl) j)
  have F46 : ∀ j : Nat, dt5 81 j = dt 81 j := fun j => (hF7 81 (by decide) j).trans ((fun _ => rfl) j)
  refine go_toq PM267 (k := 2) (pc' := 1435) (L' := [some (.inr (.inr (some 3000))), some (.inr (.inr (some 0))), some (.inr (.inr (some 79))), some (.inl i)]) (st' := []) (w' := (SH, dt5)) rfl ?_
  exact K dt5 hI6 hM9 M238 (by first | omega | (simp only [*]; done) | simp only [*]) (by omega) (by omega) (by omega) (by omega) (by omega) (by omega) (by omega) (by omega) (by omega) (by omega) (by omega) (by omega) (by omega) (by first | exact hI | exact RW2_k hd0 C39 F44 (by decide) (by omega) | (exfalso; omega)) (by first | exact hI | exact RW2_k hd1 C41 F43 (by decide) (by omega) | (exfalso; omega)) (by first | exact hI | exact RW2_k hd2 C40 F44 (by decide) (by omega) | (exfalso; omega)) (by first | exact hI | exact RW2_k hd3 C42 F43 (by decide) (by omega) | (exfalso; omega))
