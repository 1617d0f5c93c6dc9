set_option maxRecDepth 20000 in
set_option maxHeartbeats 8000000 in
theorem sp_case22 (L : Nat) (xs : Nat → Int32) (sio : Option Nat) (d : Nat) (Q : Option AV → am_W → Prop) (hLL : L ≤ 3072) (i : Int) (hi : 0 ≤ i ∧ i ≤ 3066) (hil : i ≤ (L : Int) - 6) (dt : Nat → Nat → Int) (hI : InvC dt) (hM : MW (dt 80)) (hM2 : MW (dt 81)) (hk0 : dt 1 0 = dt 80 0) (hk1 : dt 7 3 = dt 80 1) (hk2 : dt 10 3 = dt 80 2) (hk3 : dt 12 3 = dt 80 3) (hk4 : dt 14 3 = dt 80 4) (hk5 : dt 16 3 = dt 80 5) (hk6 : dt 18 0 = dt 81 0) (hk7 : dt 24 3 = dt 81 1) (hk8 : dt 27 3 = dt 81 2) (hk9 : dt 29 3 = dt 81 3) (hk10 : dt 31 3 = dt 81 4) (hk11 : dt 33 3 = dt 81 5) (hk12 : dt 0 2 = dt 79 2) (hk13 : dt 35 1 = dt 79 12) (K : ∀ (dt : Nat → Nat → Int) (hI : InvC dt) (hM : MW (dt 80)) (hM2 : MW (dt 81)) (hk0 : dt 1 0 = dt 80 0) (hk1 : dt 7 3 = dt 80 1) (hk2 : dt 10 3 = dt 80 2) (hk3 : dt 12 3 = dt 80 3) (hk4 : dt 14 3 = dt 80 4) (hk5 : dt 16 3 = dt 80 5) (hk6 : dt 18 0 = dt 81 0) (hk7 : dt 24 3 = dt 81 1) (hk8 : dt 27 3 = dt 81 2) (hk9 : dt 29 3 = dt 81 3) (hk10 : dt 31 3 = dt 81 4) (hk11 : dt 33 3 = dt 81 5) (hk12 : dt 0 2 = dt 79 2) (hk13 : dt 35 1 = dt 79 12), GO (am_XX L xs sio) (d + 39) 267 1435 [some (.inr (.inr (some 3000))), some (.inr (.inr (some 0))), some (.inr (.inr (some 79))), some (.inl i)] [] (SH, dt) Q) : GO (am_XX L xs sio) (d + 39) 267 1086 [some (.inr (.inr (some 3000))), some (.inr (.inr (some 0))), some (.inr (.inr (some 79))), some (.inl i)] [] (SH, dt) Q := by
  have hF : Fr [0, 1, 2, 3, 4, 5, 6, 7, 8, 9, 10, 11, 12, 13, 14, 15, 16, 17, 18, 19, 20, 21, 22, 23, 24, 25, 26, 27, 28, 29, 30, 31, 32, 33, 34, 35, 36, 37, 38, 39, 40, 41, 42, 43, 44, 45, 46, 47, 48, 49, 50, 51, 52, 53, 54, 55, 56, 57, 58, 59, 60, 61, 62, 63, 64, 65, 66, 67, 68, 69, 70, 71, 72, 73, 74, 75, 76, 77, 78, 79, 80, 81, 82, 83, 84, 85, 86, 87, 88, 89, 90, 91, 92, 93, 94, 95, 96, 97, 98, 99, 100, 101, 102, 103, 104] dt dt := Fr_refl
  refine go_toq PM267 (k := 5) (pc' := 1091) (L' := [some (.inr (.inr (some 3000))), some (.inr (.inr (some 0))), some (.inr (.inr (some 79))), some (.inl i)]) (st' := [.inl (i + 1), .inr (.inr (some 3000)), .inr (.inr (some 0))]) (w' := (SH, dt)) rfl ?_
  have r1 := i32_R (xs ((i + 1).toNat))
  refine go_smpq PM267 (L' := [some (.inr (.inr (some 3000))), some (.inr (.inr (some 0))), some (.inr (.inr (some 79))), some (.inl i)]) (st' := [.inl ((xs ((i + 1).toNat)).toInt), .inr (.inr (some 0))]) (w' := (SH, dt)) rfl rfl (s_iald (n := L) (f := fun j => (xs j).toInt) (am_scr hLL) ⟨by omega, by omega⟩) ?_
  refine go_callq PM267 PM89 (Q' := _) rfl rfl rfl rfl (sp_X5_beside L xs sio (d + 34) dt hI  ((xs ((i + 1).toNat)).toInt) ⟨by omega, by omega⟩ ) ?_
  rintro _ _ ⟨dt3, rfl, hI4, hF5, h2⟩
  refine ⟨rfl, ?_⟩
  have hF6 : Fr [0, 1, 2, 3, 4, 5, 6, 7, 8, 9, 10, 11, 12, 13, 14, 15, 16, 17, 18, 19, 20, 21, 22, 23, 24, 25, 26, 27, 28, 29, 30, 31, 32, 33, 34, 35, 36, 37, 38, 39, 40, 41, 42, 43, 44, 45, 46, 47, 48, 49, 50, 51, 52, 53, 54, 55, 56, 57, 58, 59, 60, 61, 62, 63, 64, 65, 66, 67, 68, 69, 70, 71, 72, 73, 74, 75, 76, 77, 78, 79, 80, 81, 82, 83, 84, 85, 86, 87, 88, 89, 90, 91, 92, 93, 94, 95, 96, 97, 98, 99, 100, 101, 102, 103, 104] dt dt3 := Fr_tr hF hF5 (by decide)
  have hM7 : MW (dt3 80) := MW_fr hM hF5 (by decide)
  have w8 : dt3 1 0 = dt 1 0 := hF5 1 (by decide) 0
  have w9 : dt3 7 3 = dt 7 3 := hF5 7 (by decide) 3
  have w10 : dt3 10 3 = dt 10 3 := hF5 10 (by decide) 3
  have w11 : dt3 12 3 = dt 12 3 := hF5 12 (by decide) 3
  have w12 : dt3 14 3 = dt 14 3 := hF5 14 (by decide) 3
  have w13 : dt3 16 3 = dt 16 3 := hF5 16 (by decide) 3
  have w14 : dt3 18 0 = dt 18 0 := hF5 18 (by decide) 0
  have w15 : dt3 24 3 = dt 24 3 := hF5 24 (by decide) 3
  have w16 : dt3 27 3 = dt 27 3 := hF5 27 (by decide) 3
  have w17 : dt3 29 3 = dt 29 3 := hF5 29 (by decide) 3
  have w18 : dt3 31 3 = dt 31 3 := hF5 31 (by decide) 3
  have w19 : dt3 33 3 = dt 33 3 := hF5 33 (by decide) 3
  have w20 : dt3 0 2 = dt 0 2 := hF5 0 (by decide) 2
  have w21 : dt3 35 1 = dt 35 1 := hF5 35 (by decide) 1
  have w22 : dt3 80 0 = dt 80 0 := hF5 80 (by decide) 0
  have w23 : dt3 80 1 = dt 80 1 := hF5 80 (by decide) 1
  have w24 : dt3 80 2 = dt 80 2 := hF5 80 (by decide) 2
  have w25 : dt3 80 3 = dt 80 3 := hF5 80 (by decide) 3
  have w26 : dt3 80 4 = dt 80 4 := hF5 80 (by decide) 4
  have w27 : dt3 80 5 = dt 80 5 := hF5 80 (by decide) 5
  have w28 : dt3 81 0 = dt 81 0 := hF5 81 (by decide) 0
  have w29 : dt3 81 1 = dt 81 1 := hF5 81 (by decide) 1
  have w30 : dt3 81 2 = dt 81 2 := hF5 81 (by decide) 2
  have w31 : dt3 81 3 = dt 81 3 := hF5 81 (by decide) 3
  have w32 : dt3 81 4 = dt 81 4 := hF5 81 (by decide) 4
  have w33 : dt3 81 5 = dt 81 5 := hF5 81 (by decide) 5
  have w34 : dt3 79 2 = dt 79 2 := hF5 79 (by decide) 2
  have w35 : dt3 79 12 = dt 79 12 := hF5 79 (by decide) 12
  rcases h2 with ⟨v_h2, rfl, h2r, h2⟩
  have M236 : MW (dt3 81) := MW_frk hM2 hF5 (by decide)
  refine go_toq PM267 (k := 6) (pc' := 1101) (L' := [some (.inr (.inr (some 3000))), some (.inr (.inr (some 0))), some (.inr (.inr (some 79))), some (.inl i)]) (st' := [.inl (i + 1), .inr (.inr (some 3000)), .inr (.inr (some 79))]) (w' := (SH, dt3)) rfl ?_
  have r37 := i32_R (xs ((i + 1).toNat))
  refine go_smpq PM267 (L' := [some (.inr (.inr (some 3000))), some (.inr (.inr (some 0))), some (.inr (.inr (some 79))), some (.inl i)]) (st' := [.inl ((xs ((i + 1).toNat)).toInt), .inr (.inr (some 79))]) (w' := (SH, dt3)) rfl rfl (s_iald (n := L) (f := fun j => (xs j).toInt) (am_scr hLL) ⟨by omega, by omega⟩) ?_
  refine go_callq PM267 PM232 (Q' := _) rfl rfl rfl rfl (sp_X6_beside L xs sio (d + 31) dt3 hI4 hM7  ((xs ((i + 1).toNat)).toInt) ⟨by omega, by omega⟩ ) ?_
  rintro _ _ ⟨dt39, rfl, hI40, hF41, h38⟩
  refine ⟨rfl, ?_⟩
  have hF42 : Fr [0, 1, 2, 3, 4, 5, 6, 7, 8, 9, 10, 11, 12, 13, 14, 15, 16, 17, 18, 19, 20, 21, 22, 23, 24, 25, 26, 27, 28, 29, 30, 31, 32, 33, 34, 35, 36, 37, 38, 39, 40, 41, 42, 43, 44, 45, 46, 47, 48, 49, 50, 51, 52, 53, 54, 55, 56, 57, 58, 59, 60, 61, 62, 63, 64, 65, 66, 67, 68, 69, 70, 71, 72, 73, 74, 75, 76, 77, 78, 79, 80, 81, 82, 83, 84, 85, 86, 87, 88, 89, 90, 91, 92, 93, 94, 95, 96, 97, 98, 99, 100, 101, 102, 103, 104] dt dt39 := Fr_tr hF6 hF41 (by decide)
  have hM43 : MW (dt39 80) := MW_fr hM7 hF41 (by decide)
  have w44 : dt39 1 0 = dt3 1 0 := hF41 1 (by decide) 0
  have w45 : dt39 7 3 = dt3 7 3 := hF41 7 (by decide) 3
  have w46 : dt39 10 3 = dt3 10 3 := hF41 10 (by decide) 3
  have w47 : dt39 12 3 = dt3 12 3 := hF41 12 (by decide) 3
  have w48 : dt39 14 3 = dt3 14 3 := hF41 14 (by decide) 3
  have w49 : dt39 16 3 = dt3 16 3 := hF41 16 (by decide) 3
  have w50 : dt39 18 0 = dt3 18 0 := hF41 18 (by decide) 0
  have w51 : dt39 24 3 = dt3 24 3 := hF41 24 (by decide) 3
  have w52 : dt39 27 3 = dt3 27 3 := hF41 27 (by decide) 3
  have w53 : dt39 29 3 = dt3 29 3 := hF41 29 (by decide) 3
  have w54 : dt39 31 3 = dt3 31 3 := hF41 31 (by decide) 3
  have w55 : dt39 33 3 = dt3 33 3 := hF41 33 (by decide) 3
  have w56 : dt39 0 2 = dt3 0 2 := hF41 0 (by decide) 2
  have w57 : dt39 35 1 = dt3 35 1 := hF41 35 (by decide) 1
  have w58 : dt39 80 0 = dt3 80 0 := hF41 80 (by decide) 0
  have w59 : dt39 80 1 = dt3 80 1 := hF41 80 (by decide) 1
  have w60 : dt39 80 2 = dt3 80 2 := hF41 80 (by decide) 2
  have w61 : dt39 80 3 = dt3 80 3 := hF41 80 (by decide) 3
  have w62 : dt39 80 4 = dt3 80 4 := hF41 80 (by decide) 4
  have w63 : dt39 80 5 = dt3 80 5 := hF41 80 (by decide) 5
  have w64 : dt39 81 0 = dt3 81 0 := hF41 81 (by decide) 0
  have w65 : dt39 81 1 = dt3 81 1 := hF41 81 (by decide) 1
  have w66 : dt39 81 2 = dt3 81 2 := hF41 81 (by decide) 2
  have w67 : dt39 81 3 = dt3 81 3 := hF41 81 (by decide) 3
  have w68 : dt39 81 4 = dt3 81 4 := hF41 81 (by decide) 4
  have w69 : dt39 81 5 = dt3 81 5 := hF41 81 (by decide) 5
  have w70 : dt39 79 2 = dt3 79 2 := hF41 79 (by decide) 2
  have w71 : dt39 79 12 = dt3 79 12 := hF41 79 (by decide) 12
  rcases h38 with ⟨v_h38, rfl, h38r, h38⟩
  have M272 : MW (dt39 81) := MW_frk M236 hF41 (by decide)
  refine go_toq PM267 (k := 2) (pc' := 1435) (L' := [some (.inr (.inr (some 3000))), some (.inr (.inr (some 0))), some (.inr (.inr (some 79))), some (.inl i)]) (st' := []) (w' := (SH, dt39)) rfl ?_
  exact K dt39 hI40 hM43 M272 (by first | omega | (simp only [*]; done) | simp only [*]) (by omega) (by omega) (by omega) (by omega) (by omega) (by omega) (by omega) (by omega) (by omega) (by omega) (by omega) (by omega) (by omega)
set_option maxRecDepth 20000 in
set_option maxHeartbeats 8000000 in
theorem sp_case23 (L : Nat) (xs : Nat → Int32) (sio : Option Nat) (d : Nat) (Q : Option AV → am_W → Prop) (hLL : L ≤ 3072) (i : Int) (hi : 0 ≤ i ∧ i ≤ 3066) (hil : i ≤ (L : Int) - 6) (dt : Nat → Nat → Int) (hI : InvC dt) (hM : MW (dt 80)) (hM2 : MW (dt 81)) (hk0 : dt 1 0 = dt 80 0) (hk1 : dt 7 3 = dt 80 1) (hk2 : dt 10 3 = dt 80 2) (hk3 : dt 12 3 = dt 80 3) (hk4 : dt 14 3 = dt 80 4) (hk5 : dt 16 3 = dt 80 5) (hk6 : dt 18 0 = dt 81 0) (hk7 : dt 24 3 = dt 81 1) (hk8 : dt 27 3 = dt 81 2) (hk9 : dt 29 3 = dt 81 3) (hk10 : dt 31 3 = dt 81 4) (hk11 : dt 33 3 = dt 81 5) (hk12 : dt 0 2 = dt 79 2) (hk13 : dt 35 1 = dt 79 12) (K : ∀ (dt : Nat → Nat → Int) (hI : InvC dt) (hM : MW (dt 80)) (hM2 : MW (dt 81)) (hk0 : dt 1 0 = dt 80 0) (hk1 : dt 7 3 = dt 80 1) (hk2 : dt 10 3 = dt 80 2) (hk3 : dt 12 3 = dt 80 3) (hk4 : dt 14 3 = dt 80 4) (hk5 : dt 16 3 = dt 80 5) (hk6 : dt 18 0 = dt 81 0) (hk7 : dt 24 3 = dt 81 1) (hk8 : dt 27 3 = dt 81 2) (hk9 : dt 29 3 = dt 81 3) (hk10 : dt 31 3 = dt 81 4) (hk11 : dt 33 3 = dt 81 5) (hk12 : dt 0 2 = dt 79 2) (hk13 : dt 35 1 = dt 79 12), GO (am_XX L xs sio) (d + 39) 267 1435 [some (.inr (.inr (some 3000))), some (.inr (.inr (some 0))), some (.inr (.inr (some 79))), some (.inl i)] [] (SH, dt) Q) : GO (am_XX L xs sio) (d + 39) 267 1109 [some (.inr (.inr (some 3000))), some (.inr (.inr (some 0))), some (.inr (.inr (some 79))), some (.inl i)] [] (SH, dt) Q := by
  have hF : Fr [0, 1, 2, 3, 4, 5, 6, 7, 8, 9, 10, 11, 12, 13, 14, 15, 16, 17, 18, 19, 20, 21, 22, 23, 24, 25, 26, 27, 28, 29, 30, 31, 32, 33, 34, 35, 36, 37, 38, 39, 40, 41, 42, 43, 44, 45, 46, 47, 48, 49, 50, 51, 52, 53, 54, 55, 56, 57, 58, 59, 60, 61, 62, 63, 64, 65, 66, 67, 68, 69, 70, 71, 72, 73, 74, 75, 76, 77, 78, 79, 80, 81, 82, 83, 84, 85, 86, 87, 88, 89, 90, 91, 92, 93, 94, 95, 96, 97, 98, 99, 100, 101, 102, 103, 104] dt dt := Fr_refl
  refine go_toq PM267 (k := 5) (pc' := 1114) (L' := [some (.inr (.inr (some 3000))), some (.inr (.inr (some 0))), some (.inr (.inr (some 79))), some (.inl i)]) (st' := [.inl (i + 1), .inr (.inr (some 3000)), .inr (.inr (some 0))]) (w' := (SH, dt)) rfl ?_
  have r1 := i32_R (xs ((i + 1).toNat))
  refine go_smpq PM267 (L' := [some (.inr (.inr (some 3000))), some (.inr (.inr (some 0))), some (.inr (.inr (some 79))), some (.inl i)]) (st' := [.inl ((xs ((i + 1).toNat)).toInt), .inr (.inr (some 0))]) (w' := (SH, dt)) rfl rfl (s_iald (n := L) (f := fun j => (xs j).toInt) (am_scr hLL) ⟨by omega, by omega⟩) ?_
  refine go_toq PM267 (k := 4) (pc' := 1119) (L' := [some (.inr (.inr (some 3000))), some (.inr (.inr (some 0))), some (.inr (.inr (some 79))), some (.inl i)]) (st' := [.inl (i + 2), .inr (.inr (some 3000)), .inl ((xs ((i + 1).toNat)).toInt), .inr (.inr (some 0))]) (w' := (SH, dt)) rfl ?_
  have r2 := i32_R (xs ((i + 2).toNat))
  refine go_smpq PM267 (L' := [some (.inr (.inr (some 3000))), some (.inr (.inr (some 0))), some (.inr (.inr (some 79))), some (.inl i)]) (st' := [.inl ((xs ((i + 2).toNat)).toInt), .inl ((xs ((i + 1).toNat)).toInt), .inr (.inr (some 0))]) (w' := (SH, dt)) rfl rfl (s_iald (n := L) (f := fun j => (xs j).toInt) (am_scr hLL) ⟨by omega, by omega⟩) ?_
  refine go_callq PM267 PM90 (Q' := _) rfl rfl rfl rfl (sp_X5_eyes L xs sio (d + 36) dt hI  ((xs ((i + 1).toNat)).toInt) ⟨by omega, by omega⟩ ((xs ((i + 2).toNat)).toInt) ⟨by omega, by omega⟩ ) ?_
  rintro _ _ ⟨dt4, rfl, hI5, hF6, h3⟩
  refine ⟨rfl, ?_⟩
  have hF7 : Fr [0, 1, 2, 3, 4, 5, 6, 7, 8, 9, 10, 11, 12, 13, 14, 15, 16, 17, 18, 19, 20, 21, 22, 23, 24, 25, 26, 27, 28, 29, 30, 31, 32, 33, 34, 35, 36, 37, 38, 39, 40, 41, 42, 43, 44, 45, 46, 47, 48, 49, 50, 51, 52, 53, 54, 55, 56, 57, 58, 59, 60, 61, 62, 63, 64, 65, 66, 67, 68, 69, 70, 71, 72, 73, 74, 75, 76, 77, 78, 79, 80, 81, 82, 83, 84, 85, 86, 87, 88, 89, 90, 91, 92, 93, 94, 95, 96, 97, 98, 99, 100, 101, 102, 103, 104] dt dt4 := Fr_tr hF hF6 (by decide)
  have hM8 : MW (dt4 80) := MW_fr hM hF6 (by decide)
  have w9 : dt4 1 0 = dt 1 0 := hF6 1 (by decide) 0
  have w10 : dt4 7 3 = dt 7 3 := hF6 7 (by decide) 3
  have w11 : dt4 10 3 = dt 10 3 := hF6 10 (by decide) 3
  have w12 : dt4 12 3 = dt 12 3 := hF6 12 (by decide) 3
  have w13 : dt4 16 3 = dt 16 3 := hF6 16 (by decide) 3
  have w14 : dt4 18 0 = dt 18 0 := hF6 18 (by decide) 0
  have w15 : dt4 24 3 = dt 24 3 := hF6 24 (by decide) 3
  have w16 : dt4 27 3 = dt 27 3 := hF6 27 (by decide) 3
  have w17 : dt4 29 3 = dt 29 3 := hF6 29 (by decide) 3
  have w18 : dt4 31 3 = dt 31 3 := hF6 31 (by decide) 3
  have w19 : dt4 33 3 = dt 33 3 := hF6 33 (by decide) 3
  have w20 : dt4 0 2 = dt 0 2 := hF6 0 (by decide) 2
  have w21 : dt4 35 1 = dt 35 1 := hF6 35 (by decide) 1
  have w22 : dt4 80 0 = dt 80 0 := hF6 80 (by decide) 0
  have w23 : dt4 80 1 = dt 80 1 := hF6 80 (by decide) 1
  have w24 : dt4 80 2 = dt 80 2 := hF6 80 (by decide) 2
  have w25 : dt4 80 3 = dt 80 3 := hF6 80 (by decide) 3
  have w26 : dt4 80 4 = dt 80 4 := hF6 80 (by decide) 4
  have w27 : dt4 80 5 = dt 80 5 := hF6 80 (by decide) 5
  have w28 : dt4 81 0 = dt 81 0 := hF6 81 (by decide) 0
  have w29 : dt4 81 1 = dt 81 1 := hF6 81 (by decide) 1
  have w30 : dt4 81 2 = dt 81 2 := hF6 81 (by decide) 2
  have w31 : dt4 81 3 = dt 81 3 := hF6 81 (by decide) 3
  have w32 : dt4 81 4 = dt 81 4 := hF6 81 (by decide) 4
  have w33 : dt4 81 5 = dt 81 5 := hF6 81 (by decide) 5
  have w34 : dt4 79 2 = dt 79 2 := hF6 79 (by decide) 2
  have w35 : dt4 79 12 = dt 79 12 := hF6 79 (by decide) 12
  rcases h3 with ⟨rfl, h3⟩ | ⟨v_h3, rfl, h3r, h3⟩
  · skip
    obtain ⟨h3_0, h3_1⟩ := h3
    have M236 : MW (dt4 81) := MW_frk hM2 hF6 (by decide)
    refine go_toq PM267 (k := 6) (pc' := 1129) (L' := [some (.inr (.inr (some 3000))), some (.inr (.inr (some 0))), some (.inr (.inr (some 79))), some (.inl i)]) (st' := [.inl (i + 1), .inr (.inr (some 3000)), .inr (.inr (some 79))]) (w' := (SH, dt4)) rfl ?_
    have r37 := i32_R (xs ((i + 1).toNat))
    refine go_smpq PM267 (L' := [some (.inr (.inr (some 3000))), some (.inr (.inr (some 0))), some (.inr (.inr (some 79))), some (.inl i)]) (st' := [.inl ((xs ((i + 1).toNat)).toInt), .inr (.inr (some 79))]) (w' := (SH, dt4)) rfl rfl (s_iald (n := L) (f := fun j => (xs j).toInt) (am_scr hLL) ⟨by omega, by omega⟩) ?_
    refine go_toq PM267 (k := 4) (pc' := 1134) (L' := [some (.inr (.inr (some 3000))), some (.inr (.inr (some 0))), some (.inr (.inr (some 79))), some (.inl i)]) (st' := [.inl (i + 2), .inr (.inr (some 3000)), .inl ((xs ((i + 1).toNat)).toInt), .inr (.inr (some 79))]) (w' := (SH, dt4)) rfl ?_
    have r38 := i32_R (xs ((i + 2).toNat))
    refine go_smpq PM267 (L' := [some (.inr (.inr (some 3000))), some (.inr (.inr (some 0))), some (.inr (.inr (some 79))), some (.inl i)]) (st' := [.inl ((xs ((i + 2).toNat)).toInt), .inl ((xs ((i + 1).toNat)).toInt), .inr (.inr (some 79))]) (w' := (SH, dt4)) rfl rfl (s_iald (n := L) (f := fun j => (xs j).toInt) (am_scr hLL) ⟨by omega, by omega⟩) ?_
    refine go_callq PM267 PM233 (Q' := _) rfl rfl rfl rfl (sp_X6_eyes L xs sio (d + 37) dt4 hI5 hM8  ((xs ((i + 1).toNat)).toInt) ⟨by omega, by omega⟩ ((xs ((i + 2).toNat)).toInt) ⟨by omega, by omega⟩ ) ?_
    rintro _ _ ⟨dt40, rfl, hI41, hF42, h39⟩
    refine ⟨rfl, ?_⟩
    have hF43 : Fr [0, 1, 2, 3, 4, 5, 6, 7, 8, 9, 10, 11, 12, 13, 14, 15, 16, 17, 18, 19, 20, 21, 22, 23, 24, 25, 26, 27, 28, 29, 30, 31, 32, 33, 34, 35, 36, 37, 38, 39, 40, 41, 42, 43, 44, 45, 46, 47, 48, 49, 50, 51, 52, 53, 54, 55, 56, 57, 58, 59, 60, 61, 62, 63, 64, 65, 66, 67, 68, 69, 70, 71, 72, 73, 74, 75, 76, 77, 78, 79, 80, 81, 82, 83, 84, 85, 86, 87, 88, 89, 90, 91, 92, 93, 94, 95, 96, 97, 98, 99, 100, 101, 102, 103, 104] dt dt40 := Fr_tr hF7 hF42 (by decide)
    have w44 : dt40 1 0 = dt4 1 0 := hF42 1 (by decide) 0
    have w45 : dt40 7 3 = dt4 7 3 := hF42 7 (by decide) 3
    have w46 : dt40 10 3 = dt4 10 3 := hF42 10 (by decide) 3
    have w47 : dt40 12 3 = dt4 12 3 := hF42 12 (by decide) 3
    have w48 : dt40 14 3 = dt4 14 3 := hF42 14 (by decide) 3
    have w49 : dt40 16 3 = dt4 16 3 := hF42 16 (by decide) 3
    have w50 : dt40 18 0 = dt4 18 0 := hF42 18 (by decide) 0
    have w51 : dt40 24 3 = dt4 24 3 := hF42 24 (by decide) 3
    have w52 : dt40 27 3 = dt4 27 3 := hF42 27 (by decide) 3
    have w53 : dt40 29 3 = dt4 29 3 := hF42 29 (by decide) 3
    have w54 : dt40 31 3 = dt4 31 3 := hF42 31 (by decide) 3
    have w55 : dt40 33 3 = dt4 33 3 := hF42 33 (by decide) 3
    have w56 : dt40 0 2 = dt4 0 2 := hF42 0 (by decide) 2
    have w57 : dt40 35 1 = dt4 35 1 := hF42 35 (by decide) 1
    have w58 : dt40 81 0 = dt4 81 0 := hF42 81 (by decide) 0
    have w59 : dt40 81 1 = dt4 81 1 := hF42 81 (by decide) 1
    have w60 : dt40 81 2 = dt4 81 2 := hF42 81 (by decide) 2
    have w61 : dt40 81 3 = dt4 81 3 := hF42 81 (by decide) 3
    have w62 : dt40 81 4 = dt4 81 4 := hF42 81 (by decide) 4
    have w63 : dt40 81 5 = dt4 81 5 := hF42 81 (by decide) 5
    have w64 : dt40 79 2 = dt4 79 2 := hF42 79 (by decide) 2
    have w65 : dt40 79 12 = dt4 79 12 := hF42 79 (by decide) 12
    rcases h39 with ⟨rfl, h39⟩ | ⟨v_h39, rfl, h39r, h39⟩
    · skip
      have hM66 : MW (dt40 80) := h39.2.1
      obtain ⟨h39_0, h39_1, h39_2, h39_3, h39_4, h39_5, h39_6, h39_7⟩ := h39
      have M267 : MW (dt40 81) := MW_frk M236 hF42 (by decide)
      refine go_toq PM267 (k := 2) (pc' := 1435) (L' := [some (.inr (.inr (some 3000))), some (.inr (.inr (some 0))), some (.inr (.inr (some 79))), some (.inl i)]) (st' := []) (w' := (SH, dt40)) rfl ?_
      exact K dt40 hI41 hM66 M267 (by first | omega | (simp only [*]; done) | simp only [*]) (by omega) (by omega) (by omega) (by omega) (by omega) (by omega) (by omega) (by omega) (by omega) (by omega) (by omega) (by omega) (by omega)
    · skip
      have hM68 : MW (dt40 80) := h39.2.2.1
      obtain ⟨h39_0, h39_1, h39_2, h39_3, h39_4, h39_5, h39_6, h39_7, h39_8⟩ := h39
      have M269 : MW (dt40 81) := MW_frk M236 hF42 (by decide)
      refine go_toq PM267 (k := 2) (pc' := 1435) (L' := [some (.inr (.inr (some 3000))), some (.inr (.inr (some 0))), some (.inr (.inr (some 79))), some (.inl i)]) (st' := []) (w' := (SH, dt40)) rfl ?_
      exact K dt40 hI41 hM68 M269 (by first | omega | (simp only [*]; done) | simp only [*]) (by omega) (by omega) (by omega) (by omega) (by omega) (by omega) (by omega) (by omega) (by omega) (by omega) (by omega) (by omega) (by omega)
  · skip
    obtain ⟨h3_0, h3_1, h3_2⟩ := h3
    have M270 : MW (dt4 81) := MW_frk hM2 hF6 (by decide)
    refine go_toq PM267 (k := 6) (pc' := 1129) (L' := [some (.inr (.inr (some 3000))), some (.inr (.inr (some 0))), some (.inr (.inr (some 79))), some (.inl i)]) (st' := [.inl (i + 1), .inr (.inr (some 3000)), .inr (.inr (some 79))]) (w' := (SH, dt4)) rfl ?_
    have r71 := i32_R (xs ((i + 1).toNat))
    refine go_smpq PM267 (L' := [some (.inr (.inr (some 3000))), some (.inr (.inr (some 0))), some (.inr (.inr (some 79))), some (.inl i)]) (st' := [.inl ((xs ((i + 1).toNat)).toInt), .inr (.inr (some 79))]) (w' := (SH, dt4)) rfl rfl (s_iald (n := L) (f := fun j => (xs j).toInt) (am_scr hLL) ⟨by omega, by omega⟩) ?_
    refine go_toq PM267 (k := 4) (pc' := 1134) (L' := [some (.inr (.inr (some 3000))), some (.inr (.inr (some 0))), some (.inr (.inr (some 79))), some (.inl i)]) (st' := [.inl (i + 2), .inr (.inr (some 3000)), .inl ((xs ((i + 1).toNat)).toInt), .inr (.inr (some 79))]) (w' := (SH, dt4)) rfl ?_
    have r72 := i32_R (xs ((i + 2).toNat))
    refine go_smpq PM267 (L' := [some (.inr (.inr (some 3000))), some (.inr (.inr (some 0))), some (.inr (.inr (some 79))), some (.inl i)]) (st' := [.inl ((xs ((i + 2).toNat)).toInt), .inl ((xs ((i + 1).toNat)).toInt), .inr (.inr (some 79))]) (w' := (SH, dt4)) rfl rfl (s_iald (n := L) (f := fun j => (xs j).toInt) (am_scr hLL) ⟨by omega, by omega⟩) ?_
    refine go_callq PM267 PM233 (Q' := _) rfl rfl rfl rfl (sp_X6_eyes L xs sio (d + 37) dt4 hI5 hM8  ((xs ((i + 1).toNat)).toInt) ⟨by omega, by omega⟩ ((xs ((i + 2).toNat)).toInt) ⟨by omega, by omega⟩ ) ?_
    rintro _ _ ⟨dt74, rfl, hI75, hF76, h73⟩
    refine ⟨rfl, ?_⟩
    have hF77 : Fr [0, 1, 2, 3, 4, 5, 6, 7, 8, 9, 10, 11, 12, 13, 14, 15, 16, 17, 18, 19, 20, 21, 22, 23, 24, 25, 26, 27, 28, 29, 30, 31, 32, 33, 34, 35, 36, 37, 38, 39, 40, 41, 42, 43, 44, 45, 46, 47, 48, 49, 50, 51, 52, 53, 54, 55, 56, 57, 58, 59, 60, 61, 62, 63, 64, 65, 66, 67, 68, 69, 70, 71, 72, 73, 74, 75, 76, 77, 78, 79, 80, 81, 82, 83, 84, 85, 86, 87, 88, 89, 90, 91, 92, 93, 94, 95, 96, 97, 98, 99, 100, 101, 102, 103, 104] dt dt74 := Fr_tr hF7 hF76 (by decide)
    have w78 : dt74 1 0 = dt4 1 0 := hF76 1 (by decide) 0
    have w79 : dt74 7 3 = dt4 7 3 := hF76 7 (by decide) 3
    have w80 : dt74 10 3 = dt4 10 3 := hF76 10 (by decide) 3
    have w81 : dt74 12 3 = dt4 12 3 := hF76 12 (by decide) 3
    have w82 : dt74 14 3 = dt4 14 3 := hF76 14 (by decide) 3
    have w83 : dt74 16 3 = dt4 16 3 := hF76 16 (by decide) 3
    have w84 : dt74 18 0 = dt4 18 0 := hF76 18 (by decide) 0
    have w85 : dt74 24 3 = dt4 24 3 := hF76 24 (by decide) 3
    have w86 : dt74 27 3 = dt4 27 3 := hF76 27 (by decide) 3
    have w87 : dt74 29 3 = dt4 29 3 := hF76 29 (by decide) 3
    have w88 : dt74 31 3 = dt4 31 3 := hF76 31 (by decide) 3
    have w89 : dt74 33 3 = dt4 33 3 := hF76 33 (by decide) 3
    have w90 : dt74 0 2 = dt4 0 2 := hF76 0 (by decide) 2
    have w91 : dt74 35 1 = dt4 35 1 := hF76 35 (by decide) 1
    have w92 : dt74 81 0 = dt4 81 0 := hF76 81 (by decide) 0
    have w93 : dt74 81 1 = dt4 81 1 := hF76 81 (by decide) 1
    have w94 : dt74 81 2 = dt4 81 2 := hF76 81 (by decide) 2
    have w95 : dt74 81 3 = dt4 81 3 := hF76 81 (by decide) 3
    have w96 : dt74 81 4 = dt4 81 4 := hF76 81 (by decide) 4
    have w97 : dt74 81 5 = dt4 81 5 := hF76 81 (by decide) 5
    have w98 : dt74 79 2 = dt4 79 2 := hF76 79 (by decide) 2
    have w99 : dt74 79 12 = dt4 79 12 := hF76 79 (by decide) 12
    rcases h73 with ⟨rfl, h73⟩ | ⟨v_h73, rfl, h73r, h73⟩
    · skip
      have hM100 : MW (dt74 80) := h73.2.1
      obtain ⟨h73_0, h73_1, h73_2, h73_3, h73_4, h73_5, h73_6, h73_7⟩ := h73
      have M2101 : MW (dt74 81) := MW_frk M270 hF76 (by decide)
      refine go_toq PM267 (k := 2) (pc' := 1435) (L' := [some (.inr (.inr (some 3000))), some (.inr (.inr (some 0))), some (.inr (.inr (some 79))), some (.inl i)]) (st' := []) (w' := (SH, dt74)) rfl ?_
      exact K dt74 hI75 hM100 M2101 (by first | omega | (simp only [*]; done) | simp only [*]) (by omega) (by omega) (by omega) (by omega) (by omega) (by omega) (by omega) (by omega) (by omega) (by omega) (by omega) (by omega) (by omega)
    · skip
      have hM102 : MW (dt74 80) := h73.2.2.1
      obtain ⟨h73_0, h73_1, h73_2, h73_3, h73_4, h73_5, h73_6, h73_7, h73_8⟩ := h73
      have M2103 : MW (dt74 81) := MW_frk M270 hF76 (by decide)
      refine go_toq PM267 (k := 2) (pc' := 1435) (L' := [some (.inr (.inr (some 3000))), some (.inr (.inr (some 0))), some (.inr (.inr (some 79))), some (.inl i)]) (st' := []) (w' := (SH, dt74)) rfl ?_
      exact K dt74 hI75 hM102 M2103 (by first | omega | (simp only [*]; done) | simp only [*]) (by omega) (by omega) (by omega) (by omega) (by omega) (by omega) (by omega) (by omega) (by omega) (by omega) (by omega) (by omega) (by omega)
set_option maxRecDepth 20000 in
set_option maxHeartbeats 8000000 in
theorem sp_case24 (L : Nat) (xs : Nat → Int32) (sio : Option Nat) (d : Nat) (Q : Option AV → am_W → Prop) (hLL : L ≤ 3072) (i : Int) (hi : 0 ≤ i ∧ i ≤ 3066) (hil : i ≤ (L : Int) - 6) (dt : Nat → Nat → Int) (hI : InvC dt) (hM : MW (dt 80)) (hM2 : MW (dt 81)) (hk0 : dt 1 0 = dt 80 0) (hk1 : dt 7 3 = dt 80 1) (hk2 : dt 10 3 = dt 80 2) (hk3 : dt 12 3 = dt 80 3) (hk4 : dt 14 3 = dt 80 4) (hk5 : dt 16 3 = dt 80 5) (hk6 : dt 18 0 = dt 81 0) (hk7 : dt 24 3 = dt 81 1) (hk8 : dt 27 3 = dt 81 2) (hk9 : dt 29 3 = dt 81 3) (hk10 : dt 31 3 = dt 81 4) (hk11 : dt 33 3 = dt 81 5) (hk12 : dt 0 2 = dt 79 2) (hk13 : dt 35 1 = dt 79 12) (K : ∀ (dt : Nat → Nat → Int) (hI : InvC dt) (hM : MW (dt 80)) (hM2 : MW (dt 81)) (hk0 : dt 1 0 = dt 80 0) (hk1 : dt 7 3 = dt 80 1) (hk2 : dt 10 3 = dt 80 2) (hk3 : dt 12 3 = dt 80 3) (hk4 : dt 14 3 = dt 80 4) (hk5 : dt 16 3 = dt 80 5) (hk6 : dt 18 0 = dt 81 0) (hk7 : dt 24 3 = dt 81 1) (hk8 : dt 27 3 = dt 81 2) (hk9 : dt 29 3 = dt 81 3) (hk10 : dt 31 3 = dt 81 4) (hk11 : dt 33 3 = dt 81 5) (hk12 : dt 0 2 = dt 79 2) (hk13 : dt 35 1 = dt 79 12), GO (am_XX L xs sio) (d + 39) 267 1435 [some (.inr (.inr (some 3000))), some (.inr (.inr (some 0))), some (.inr (.inr (some 79))), some (.inl i)] [] (SH, dt) Q) : GO (am_XX L xs sio) (d + 39) 267 1142 [some (.inr (.inr (some 3000))), some (.inr (.inr (some 0))), some (.inr (.inr (some 79))), some (.inl i)] [] (SH, dt) Q := by
  have hF : Fr [0, 1, 2, 3, 4, 5, 6, 7, 8, 9, 10, 11, 12, 13, 14, 15, 16, 17, 18, 19, 20, 21, 22, 23, 24, 25, 26, 27, 28, 29, 30, 31, 32, 33, 34, 35, 36, 37, 38, 39, 40, 41, 42, 43, 44, 45, 46, 47, 48, 49, 50, 51, 52, 53, 54, 55, 56, 57, 58, 59, 60, 61, 62, 63, 64, 65, 66, 67, 68, 69, 70, 71, 72, 73, 74, 75, 76, 77, 78, 79, 80, 81, 82, 83, 84, 85, 86, 87, 88, 89, 90, 91, 92, 93, 94, 95, 96, 97, 98, 99, 100, 101, 102, 103, 104] dt dt := Fr_refl
  refine go_toq PM267 (k := 5) (pc' := 1147) (L' := [some (.inr (.inr (some 3000))), some (.inr (.inr (some 0))), some (.inr (.inr (some 79))), some (.inl i)]) (st' := [.inl (i + 1), .inr (.inr (some 3000)), .inr (.inr (some 0))]) (w' := (SH, dt)) rfl ?_
  have r1 := i32_R (xs ((i + 1).toNat))
  refine go_smpq PM267 (L' := [some (.inr (.inr (some 3000))), some (.inr (.inr (some 0))), some (.inr (.inr (some 79))), some (.inl i)]) (st' := [.inl ((xs ((i + 1).toNat)).toInt), .inr (.inr (some 0))]) (w' := (SH, dt)) rfl rfl (s_iald (n := L) (f := fun j => (xs j).toInt) (am_scr hLL) ⟨by omega, by omega⟩) ?_
  refine go_callq PM267 PM91 (Q' := _) rfl rfl rfl rfl (sp_X5_way L xs sio (d + 35) dt hI  ((xs ((i + 1).toNat)).toInt) ⟨by omega, by omega⟩ ) ?_
  rintro _ _ ⟨rfl, h2⟩
  refine ⟨rfl, ?_⟩
  rcases h2 with ⟨v_h2, rfl, h2r, h2⟩
  refine go_toq PM267 (k := 6) (pc' := 1157) (L' := [some (.inr (.inr (some 3000))), some (.inr (.inr (some 0))), some (.inr (.inr (some 79))), some (.inl i)]) (st' := [.inl (i + 1), .inr (.inr (some 3000)), .inr (.inr (some 79))]) (w' := (SH, dt)) rfl ?_
  refine go_smpq PM267 (L' := [some (.inr (.inr (some 3000))), some (.inr (.inr (some 0))), some (.inr (.inr (some 79))), some (.inl i)]) (st' := [.inl ((xs ((i + 1).toNat)).toInt), .inr (.inr (some 79))]) (w' := (SH, dt)) rfl rfl (s_iald (n := L) (f := fun j => (xs j).toInt) (am_scr hLL) ⟨by omega, by omega⟩) ?_
  refine go_callq PM267 PM236 (Q' := _) rfl rfl rfl rfl (sp_X6_way L xs sio (d + 36) dt hI hM  ((xs ((i + 1).toNat)).toInt) ⟨by omega, by omega⟩ ) ?_
  rintro _ _ ⟨dt4, rfl, hI5, hF6, h3⟩
  refine ⟨rfl, ?_⟩
  have hF7 : Fr [0, 1, 2, 3, 4, 5, 6, 7, 8, 9, 10, 11, 12, 13, 14, 15, 16, 17, 18, 19, 20, 21, 22, 23, 24, 25, 26, 27, 28, 29, 30, 31, 32, 33, 34, 35, 36, 37, 38, 39, 40, 41, 42, 43, 44, 45, 46, 47, 48, 49, 50, 51, 52, 53, 54, 55, 56, 57, 58, 59, 60, 61, 62, 63, 64, 65, 66, 67, 68, 69, 70, 71, 72, 73, 74, 75, 76, 77, 78, 79, 80, 81, 82, 83, 84, 85, 86, 87, 88, 89, 90, 91, 92, 93, 94, 95, 96, 97, 98, 99, 100, 101, 102, 103, 104] dt dt4 := Fr_tr hF hF6 (by decide)
  have hM8 : MW (dt4 80) := MW_fr hM hF6 (by decide)
  have w9 : dt4 1 0 = dt 1 0 := hF6 1 (by decide) 0
  have w10 : dt4 7 3 = dt 7 3 := hF6 7 (by decide) 3
  have w11 : dt4 10 3 = dt 10 3 := hF6 10 (by decide) 3
  have w12 : dt4 12 3 = dt 12 3 := hF6 12 (by decide) 3
  have w13 : dt4 14 3 = dt 14 3 := hF6 14 (by decide) 3
  have w14 : dt4 16 3 = dt 16 3 := hF6 16 (by decide) 3
  have w15 : dt4 18 0 = dt 18 0 := hF6 18 (by decide) 0
  have w16 : dt4 24 3 = dt 24 3 := hF6 24 (by decide) 3
  have w17 : dt4 27 3 = dt 27 3 := hF6 27 (by decide) 3
  have w18 : dt4 29 3 = dt 29 3 := hF6 29 (by decide) 3
  have w19 : dt4 31 3 = dt 31 3 := hF6 31 (by decide) 3
  have w20 : dt4 33 3 = dt 33 3 := hF6 33 (by decide) 3
  have w21 : dt4 0 2 = dt 0 2 := hF6 0 (by decide) 2
  have w22 : dt4 35 1 = dt 35 1 := hF6 35 (by decide) 1
  have w23 : dt4 80 0 = dt 80 0 := hF6 80 (by decide) 0
  have w24 : dt4 80 1 = dt 80 1 := hF6 80 (by decide) 1
  have w25 : dt4 80 2 = dt 80 2 := hF6 80 (by decide) 2
  have w26 : dt4 80 3 = dt 80 3 := hF6 80 (by decide) 3
  have w27 : dt4 80 4 = dt 80 4 := hF6 80 (by decide) 4
  have w28 : dt4 80 5 = dt 80 5 := hF6 80 (by decide) 5
  have w29 : dt4 81 0 = dt 81 0 := hF6 81 (by decide) 0
  have w30 : dt4 81 1 = dt 81 1 := hF6 81 (by decide) 1
  have w31 : dt4 81 2 = dt 81 2 := hF6 81 (by decide) 2
  have w32 : dt4 81 3 = dt 81 3 := hF6 81 (by decide) 3
  have w33 : dt4 81 4 = dt 81 4 := hF6 81 (by decide) 4
  have w34 : dt4 81 5 = dt 81 5 := hF6 81 (by decide) 5
  have w35 : dt4 79 2 = dt 79 2 := hF6 79 (by decide) 2
  have w36 : dt4 79 12 = dt 79 12 := hF6 79 (by decide) 12
  rcases h3 with ⟨v_h3, rfl, h3r, h3⟩
  have M237 : MW (dt4 81) := MW_frk hM2 hF6 (by decide)
  refine go_toq PM267 (k := 2) (pc' := 1435) (L' := [some (.inr (.inr (some 3000))), some (.inr (.inr (some 0))), some (.inr (.inr (some 79))), some (.inl i)]) (st' := []) (w' := (SH, dt4)) rfl ?_
  exact K dt4 hI5 hM8 M237 (by first | omega | (simp only [*]; done) | simp only [*]) (by omega) (by omega) (by omega) (by omega) (by omega) (by omega) (by omega) (by omega) (by omega) (by omega) (by omega) (by omega) (by omega)
set_option maxRecDepth 20000 in
set_option maxHeartbeats 8000000 in
theorem sp_case25 (L : Nat) (xs : Nat → Int32) (sio : Option Nat) (d : Nat) (Q : Option AV → am_W → Prop) (hLL : L ≤ 3072) (i : Int) (hi : 0 ≤ i ∧ i ≤ 3066) (hil : i ≤ (L : Int) - 6) (dt : Nat → Nat → Int) (hI : InvC dt) (hM : MW (dt 80)) (hM2 : MW (dt 81)) (hk0 : dt 1 0 = dt 80 0) (hk1 : dt 7 3 = dt 80 1) (hk2 : dt 10 3 = dt 80 2) (hk3 : dt 12 3 = dt 80 3) (hk4 : dt 14 3 = dt 80 4) (hk5 : dt 16 3 = dt 80 5) (hk6 : dt 18 0 = dt 81 0) (hk7 : dt 24 3 = dt 81 1) (hk8 : dt 27 3 = dt 81 2) (hk9 : dt 29 3 = dt 81 3) (hk10 : dt 31 3 = dt 81 4) (hk11 : dt 33 3 = dt 81 5) (hk12 : dt 0 2 = dt 79 2) (hk13 : dt 35 1 = dt 79 12) (K : ∀ (dt : Nat → Nat → Int) (hI : InvC dt) (hM : MW (dt 80)) (hM2 : MW (dt 81)) (hk0 : dt 1 0 = dt 80 0) (hk1 : dt 7 3 = dt 80 1) (hk2 : dt 10 3 = dt 80 2) (hk3 : dt 12 3 = dt 80 3) (hk4 : dt 14 3 = dt 80 4) (hk5 : dt 16 3 = dt 80 5) (hk6 : dt 18 0 = dt 81 0) (hk7 : dt 24 3 = dt 81 1) (hk8 : dt 27 3 = dt 81 2) (hk9 : dt 29 3 = dt 81 3) (hk10 : dt 31 3 = dt 81 4) (hk11 : dt 33 3 = dt 81 5) (hk12 : dt 0 2 = dt 79 2) (hk13 : dt 35 1 = dt 79 12), GO (am_XX L xs sio) (d + 39) 267 1435 [some (.inr (.inr (some 3000))), some (.inr (.inr (some 0))), some (.inr (.inr (some 79))), some (.inl i)] [] (SH, dt) Q) : GO (am_XX L xs sio) (d + 39) 267 1165 [some (.inr (.inr (some 3000))), some (.inr (.inr (some 0))), some (.inr (.inr (some 79))), some (.inl i)] [] (SH, dt) Q := by
  have hF : Fr [0, 1, 2, 3, 4, 5, 6, 7, 8, 9, 10, 11, 12, 13, 14, 15, 16, 17, 18, 19, 20, 21, 22, 23, 24, 25, 26, 27, 28, 29, 30, 31, 32, 33, 34, 35, 36, 37, 38, 39, 40, 41, 42, 43, 44, 45, 46, 47, 48, 49, 50, 51, 52, 53, 54, 55, 56, 57, 58, 59, 60, 61, 62, 63, 64, 65, 66, 67, 68, 69, 70, 71, 72, 73, 74, 75, 76, 77, 78, 79, 80, 81, 82, 83, 84, 85, 86, 87, 88, 89, 90, 91, 92, 93, 94, 95, 96, 97, 98, 99, 100, 101, 102, 103, 104] dt dt := Fr_refl
  refine go_toq PM267 (k := 5) (pc' := 1170) (L' := [some (.inr (.inr (some 3000))), some (.inr (.inr (some 0))), some (.inr (.inr (some 79))), some (.inl i)]) (st' := [.inl (i + 1), .inr (.inr (some 3000)), .inr (.inr (some 0))]) (w' := (SH, dt)) rfl ?_
  have r1 := i32_R (xs ((i + 1).toNat))
  refine go_smpq PM267 (L' := [some (.inr (.inr (some 3000))), some (.inr (.inr (some 0))), some (.inr (.inr (some 79))), some (.inl i)]) (st' := [.inl ((xs ((i + 1).toNat)).toInt), .inr (.inr (some 0))]) (w' := (SH, dt)) rfl rfl (s_iald (n := L) (f := fun j => (xs j).toInt) (am_scr hLL) ⟨by omega, by omega⟩) ?_
  refine go_toq PM267 (k := 4) (pc' := 1175) (L' := [some (.inr (.inr (some 3000))), some (.inr (.inr (some 0))), some (.inr (.inr (some 79))), some (.inl i)]) (st' := [.inl (i + 2), .inr (.inr (some 3000)), .inl ((xs ((i + 1).toNat)).toInt), .inr (.inr (some 0))]) (w' := (SH, dt)) rfl ?_
  have r2 := i32_R (xs ((i + 2).toNat))
  refine go_smpq PM267 (L' := [some (.inr (.inr (some 3000))), some (.inr (.inr (some 0))), some (.inr (.inr (some 79))), some (.inl i)]) (st' := [.inl ((xs ((i + 2).toNat)).toInt), .inl ((xs ((i + 1).toNat)).toInt), .inr (.inr (some 0))]) (w' := (SH, dt)) rfl rfl (s_iald (n := L) (f := fun j => (xs j).toInt) (am_scr hLL) ⟨by omega, by omega⟩) ?_
  refine go_callq PM267 PM92 (Q' := _) rfl rfl rfl rfl (sp_X5_house L xs sio (d + 36) dt hI  ((xs ((i + 1).toNat)).toInt) ⟨by omega, by omega⟩ ((xs ((i + 2).toNat)).toInt) ⟨by omega, by omega⟩ ) ?_
  rintro _ _ ⟨dt4, rfl, hI5, hF6, h3⟩
  refine ⟨rfl, ?_⟩
  have hF7 : Fr [0, 1, 2, 3, 4, 5, 6, 7, 8, 9, 10, 11, 12, 13, 14, 15, 16, 17, 18, 19, 20, 21, 22, 23, 24, 25, 26, 27, 28, 29, 30, 31, 32, 33, 34, 35, 36, 37, 38, 39, 40, 41, 42, 43, 44, 45, 46, 47, 48, 49, 50, 51, 52, 53, 54, 55, 56, 57, 58, 59, 60, 61, 62, 63, 64, 65, 66, 67, 68, 69, 70, 71, 72, 73, 74, 75, 76, 77, 78, 79, 80, 81, 82, 83, 84, 85, 86, 87, 88, 89, 90, 91, 92, 93, 94, 95, 96, 97, 98, 99, 100, 101, 102, 103, 104] dt dt4 := Fr_tr hF hF6 (by decide)
  have hM8 : MW (dt4 80) := MW_fr hM hF6 (by decide)
  have w9 : dt4 1 0 = dt 1 0 := hF6 1 (by decide) 0
  have w10 : dt4 7 3 = dt 7 3 := hF6 7 (by decide) 3
  have w11 : dt4 10 3 = dt 10 3 := hF6 10 (by decide) 3
  have w12 : dt4 12 3 = dt 12 3 := hF6 12 (by decide) 3
  have w13 : dt4 14 3 = dt 14 3 := hF6 14 (by decide) 3
  have w14 : dt4 18 0 = dt 18 0 := hF6 18 (by decide) 0
  have w15 : dt4 24 3 = dt 24 3 := hF6 24 (by decide) 3
  have w16 : dt4 27 3 = dt 27 3 := hF6 27 (by decide) 3
  have w17 : dt4 29 3 = dt 29 3 := hF6 29 (by decide) 3
  have w18 : dt4 31 3 = dt 31 3 := hF6 31 (by decide) 3
  have w19 : dt4 33 3 = dt 33 3 := hF6 33 (by decide) 3
  have w20 : dt4 0 2 = dt 0 2 := hF6 0 (by decide) 2
  have w21 : dt4 35 1 = dt 35 1 := hF6 35 (by decide) 1
  have w22 : dt4 80 0 = dt 80 0 := hF6 80 (by decide) 0
  have w23 : dt4 80 1 = dt 80 1 := hF6 80 (by decide) 1
  have w24 : dt4 80 2 = dt 80 2 := hF6 80 (by decide) 2
  have w25 : dt4 80 3 = dt 80 3 := hF6 80 (by decide) 3
  have w26 : dt4 80 4 = dt 80 4 := hF6 80 (by decide) 4
  have w27 : dt4 80 5 = dt 80 5 := hF6 80 (by decide) 5
  have w28 : dt4 81 0 = dt 81 0 := hF6 81 (by decide) 0
  have w29 : dt4 81 1 = dt 81 1 := hF6 81 (by decide) 1
  have w30 : dt4 81 2 = dt 81 2 := hF6 81 (by decide) 2
  have w31 : dt4 81 3 = dt 81 3 := hF6 81 (by decide) 3
  have w32 : dt4 81 4 = dt 81 4 := hF6 81 (by decide) 4
  have w33 : dt4 81 5 = dt 81 5 := hF6 81 (by decide) 5
  have w34 : dt4 79 2 = dt 79 2 := hF6 79 (by decide) 2
  have w35 : dt4 79 12 = dt 79 12 := hF6 79 (by decide) 12
  rcases h3 with ⟨rfl, h3⟩ | ⟨v_h3, rfl, h3r, h3⟩
  · skip
    obtain ⟨h3_0, h3_1⟩ := h3
    have M236 : MW (dt4 81) := MW_frk hM2 hF6 (by decide)
    refine go_toq PM267 (k := 6) (pc' := 1185) (L' := [some (.inr (.inr (some 3000))), some (.inr (.inr (some 0))), some (.inr (.inr (some 79))), some (.inl i)]) (st' := [.inl (i + 1), .inr (.inr (some 3000)), .inr (.inr (some 79))]) (w' := (SH, dt4)) rfl ?_
    have r37 := i32_R (xs ((i + 1).toNat))
    refine go_smpq PM267 (L' := [some (.inr (.inr (some 3000))), some (.inr (.inr (some 0))), some (.inr (.inr (some 79))), some (.inl i)]) (st' := [.inl ((xs ((i + 1).toNat)).toInt), .inr (.inr (some 79))]) (w' := (SH, dt4)) rfl rfl (s_iald (n := L) (f := fun j => (xs j).toInt) (am_scr hLL) ⟨by omega, by omega⟩) ?_
    refine go_toq PM267 (k := 4) (pc' := 1190) (L' := [some (.inr (.inr (some 3000))), some (.inr (.inr (some 0))), some (.inr (.inr (some 79))), some (.inl i)]) (st' := [.inl (i + 2), .inr (.inr (some 3000)), .inl ((xs ((i + 1).toNat)).toInt), .inr (.inr (some 79))]) (w' := (SH, dt4)) rfl ?_
    have r38 := i32_R (xs ((i + 2).toNat))
    refine go_smpq PM267 (L' := [some (.inr (.inr (some 3000))), some (.inr (.inr (some 0))), some (.inr (.inr (some 79))), some (.inl i)]) (st' := [.inl ((xs ((i + 2).toNat)).toInt), .inl ((xs ((i + 1).toNat)).toInt), .inr (.inr (some 79))]) (w' := (SH, dt4)) rfl rfl (s_iald (n := L) (f := fun j => (xs j).toInt) (am_scr hLL) ⟨by omega, by omega⟩) ?_
    refine go_callq PM267 PM237 (Q' := _) rfl rfl rfl rfl (sp_X6_house L xs sio (d + 37) dt4 hI5 hM8  ((xs ((i + 1).toNat)).toInt) ⟨by omega, by omega⟩ ((xs ((i + 2).toNat)).toInt) ⟨by omega, by omega⟩ ) ?_
    rintro _ _ ⟨dt40, rfl, hI41, hF42, h39⟩
    refine ⟨rfl, ?_⟩
    have hF43 : Fr [0, 1, 2, 3, 4, 5, 6, 7, 8, 9, 10, 11, 12, 13, 14, 15, 16, 17, 18, 19, 20, 21, 22, 23, 24, 25, 26, 27, 28, 29, 30, 31, 32, 33, 34, 35, 36, 37, 38, 39, 40, 41, 42, 43, 44, 45, 46, 47, 48, 49, 50, 51, 52, 53, 54, 55, 56, 57, 58, 59, 60, 61, 62, 63, 64, 65, 66, 67, 68, 69, 70, 71, 72, 73, 74, 75, 76, 77, 78, 79, 80, 81, 82, 83, 84, 85, 86, 87, 88, 89, 90, 91, 92, 93, 94, 95, 96, 97, 98, 99, 100, 101, 102, 103, 104] dt dt40 := Fr_tr hF7 hF42 (by decide)
    have w44 : dt40 1 0 = dt4 1 0 := hF42 1 (by decide) 0
    have w45 : dt40 7 3 = dt4 7 3 := hF42 7 (by decide) 3
    have w46 : dt40 10 3 = dt4 10 3 := hF42 10 (by decide) 3
    have w47 : dt40 12 3 = dt4 12 3 := hF42 12 (by decide) 3
    have w48 : dt40 14 3 = dt4 14 3 := hF42 14 (by decide) 3
    have w49 : dt40 16 3 = dt4 16 3 := hF42 16 (by decide) 3
    have w50 : dt40 18 0 = dt4 18 0 := hF42 18 (by decide) 0
    have w51 : dt40 24 3 = dt4 24 3 := hF42 24 (by decide) 3
    have w52 : dt40 27 3 = dt4 27 3 := hF42 27 (by decide) 3
    have w53 : dt40 29 3 = dt4 29 3 := hF42 29 (by decide) 3
    have w54 : dt40 31 3 = dt4 31 3 := hF42 31 (by decide) 3
    have w55 : dt40 33 3 = dt4 33 3 := hF42 33 (by decide) 3
    have w56 : dt40 0 2 = dt4 0 2 := hF42 0 (by decide) 2
    have w57 : dt40 35 1 = dt4 35 1 := hF42 35 (by decide) 1
    have w58 : dt40 81 0 = dt4 81 0 := hF42 81 (by decide) 0
    have w59 : dt40 81 1 = dt4 81 1 := hF42 81 (by decide) 1
    have w60 : dt40 81 2 = dt4 81 2 := hF42 81 (by decide) 2
    have w61 : dt40 81 3 = dt4 81 3 := hF42 81 (by decide) 3
    have w62 : dt40 81 4 = dt4 81 4 := hF42 81 (by decide) 4
    have w63 : dt40 81 5 = dt4 81 5 := hF42 81 (by decide) 5
    have w64 : dt40 79 2 = dt4 79 2 := hF42 79 (by decide) 2
    have w65 : dt40 79 12 = dt4 79 12 := hF42 79 (by decide) 12
    rcases h39 with ⟨rfl, h39⟩ | ⟨v_h39, rfl, h39r, h39⟩
    · skip
      have hM66 : MW (dt40 80) := h39.2.1
      obtain ⟨h39_0, h39_1, h39_2, h39_3, h39_4, h39_5, h39_6, h39_7⟩ := h39
      have M267 : MW (dt40 81) := MW_frk M236 hF42 (by decide)
      refine go_toq PM267 (k := 2) (pc' := 1435) (L' := [some (.inr (.inr (some 3000))), some (.inr (.inr (some 0))), some (.inr (.inr (some 79))), some (.inl i)]) (st' := []) (w' := (SH, dt40)) rfl ?_
      exact K dt40 hI41 hM66 M267 (by first | omega | (simp only [*]; done) | simp only [*]) (by omega) (by omega) (by omega) (by omega) (by omega) (by omega) (by omega) (by omega) (by omega) (by omega) (by omega) (by omega) (by omega)
    · skip
      have hM68 : MW (dt40 80) := h39.2.2.1
      obtain ⟨h39_0, h39_1, h39_2, h39_3, h39_4, h39_5, h39_6, h39_7, h39_8⟩ := h39
      have M269 : MW (dt40 81) := MW_frk M236 hF42 (by decide)
      refine go_toq PM267 (k := 2) (pc' := 1435) (L' := [some (.inr (.inr (some 3000))), some (.inr (.inr (some 0))), some (.inr (.inr (some 79))), some (.inl i)]) (st' := []) (w' := (SH, dt40)) rfl ?_
      exact K dt40 hI41 hM68 M269 (by first | omega | (simp only [*]; done) | simp only [*]) (by omega) (by omega) (by omega) (by omega) (by omega) (by omega) (by omega) (by omega) (by omega) (by omega) (by omega) (by omega) (by omega)
  · skip
    obtain ⟨h3_0, h3_1, h3_2⟩ := h3
    have M270 : MW (dt4 81) := MW_frk hM2 hF6 (by decide)
    refine go_toq PM267 (k := 6) (pc' := 1185) (L' := [some (.inr (.inr (some 3000))), some (.inr (.inr (some 0))), some (.inr (.inr (some 79))), some (.inl i)]) (st' := [.inl (i + 1), .inr (.inr (some 3000)), .inr (.inr (some 79))]) (w' := (SH, dt4)) rfl ?_
    have r71 := i32_R (xs ((i + 1).toNat))
    refine go_smpq PM267 (L' := [some (.inr (.inr (some 3000))), some (.inr (.inr (some 0))), some (.inr (.inr (some 79))), some (.inl i)]) (st' := [.inl ((xs ((i + 1).toNat)).toInt), .inr (.inr (some 79))]) (w' := (SH, dt4)) rfl rfl (s_iald (n := L) (f := fun j => (xs j).toInt) (am_scr hLL) ⟨by omega, by omega⟩) ?_
    refine go_toq PM267 (k := 4) (pc' := 1190) (L' := [some (.inr (.inr (some 3000))), some (.inr (.inr (some 0))), some (.inr (.inr (some 79))), some (.inl i)]) (st' := [.inl (i + 2), .inr (.inr (some 3000)), .inl ((xs ((i + 1).toNat)).toInt), .inr (.inr (some 79))]) (w' := (SH, dt4)) rfl ?_
    have r72 := i32_R (xs ((i + 2).toNat))
    refine go_smpq PM267 (L' := [some (.inr (.inr (some 3000))), some (.inr (.inr (some 0))), some (.inr (.inr (some 79))), some (.inl i)]) (st' := [.inl ((xs ((i + 2).toNat)).toInt), .inl ((xs ((i + 1).toNat)).toInt), .inr (.inr (some 79))]) (w' := (SH, dt4)) rfl rfl (s_iald (n := L) (f := fun j => (xs j).toInt) (am_scr hLL) ⟨by omega, by omega⟩) ?_
    refine go_callq PM267 PM237 (Q' := _) rfl rfl rfl rfl (sp_X6_house L xs sio (d + 37) dt4 hI5 hM8  ((xs ((i + 1).toNat)).toInt) ⟨by omega, by omega⟩ ((xs ((i + 2).toNat)).toInt) ⟨by omega, by omega⟩ ) ?_
    rintro _ _ ⟨dt74, rfl, hI75, hF76, h73⟩
    refine ⟨rfl, ?_⟩
    have hF77 : Fr [0, 1, 2, 3, 4, 5, 6, 7, 8, 9, 10, 11, 12, 13, 14, 15, 16, 17, 18, 19, 20, 21, 22, 23, 24, 25, 26, 27, 28, 29, 30, 31, 32, 33, 34, 35, 36, 37, 38, 39, 40, 41, 42, 43, 44, 45, 46, 47, 48, 49, 50, 51, 52, 53, 54, 55, 56, 57, 58, 59, 60, 61, 62, 63, 64, 65, 66, 67, 68, 69, 70, 71, 72, 73, 74, 75, 76, 77, 78, 79, 80, 81, 82, 83, 84, 85, 86, 87, 88, 89, 90, 91, 92, 93, 94, 95, 96, 97, 98, 99, 100, 101, 102, 103, 104] dt dt74 := Fr_tr hF7 hF76 (by decide)
    have w78 : dt74 1 0 = dt4 1 0 := hF76 1 (by decide) 0
    have w79 : dt74 7 3 = dt4 7 3 := hF76 7 (by decide) 3
    have w80 : dt74 10 3 = dt4 10 3 := hF76 10 (by decide) 3
    have w81 : dt74 12 3 = dt4 12 3 := hF76 12 (by decide) 3
    have w82 : dt74 14 3 = dt4 14 3 := hF76 14 (by decide) 3
    have w83 : dt74 16 3 = dt4 16 3 := hF76 16 (by decide) 3
    have w84 : dt74 18 0 = dt4 18 0 := hF76 18 (by decide) 0
    have w85 : dt74 24 3 = dt4 24 3 := hF76 24 (by decide) 3
    have w86 : dt74 27 3 = dt4 27 3 := hF76 27 (by decide) 3
    have w87 : dt74 29 3 = dt4 29 3 := hF76 29 (by decide) 3
    have w88 : dt74 31 3 = dt4 31 3 := hF76 31 (by decide) 3
    have w89 : dt74 33 3 = dt4 33 3 := hF76 33 (by decide) 3
    have w90 : dt74 0 2 = dt4 0 2 := hF76 0 (by decide) 2
    have w91 : dt74 35 1 = dt4 35 1 := hF76 35 (by decide) 1
    have w92 : dt74 81 0 = dt4 81 0 := hF76 81 (by decide) 0
    have w93 : dt74 81 1 = dt4 81 1 := hF76 81 (by decide) 1
    have w94 : dt74 81 2 = dt4 81 2 := hF76 81 (by decide) 2
    have w95 : dt74 81 3 = dt4 81 3 := hF76 81 (by decide) 3
    have w96 : dt74 81 4 = dt4 81 4 := hF76 81 (by decide) 4
    have w97 : dt74 81 5 = dt4 81 5 := hF76 81 (by decide) 5
    have w98 : dt74 79 2 = dt4 79 2 := hF76 79 (by decide) 2
    have w99 : dt74 79 12 = dt4 79 12 := hF76 79 (by decide) 12
    rcases h73 with ⟨rfl, h73⟩ | ⟨v_h73, rfl, h73r, h73⟩
    · skip
      have hM100 : MW (dt74 80) := h73.2.1
      obtain ⟨h73_0, h73_1, h73_2, h73_3, h73_4, h73_5, h73_6, h73_7⟩ := h73
      have M2101 : MW (dt74 81) := MW_frk M270 hF76 (by decide)
      refine go_toq PM267 (k := 2) (pc' := 1435) (L' := [some (.inr (.inr (some 3000))), some (.inr (.inr (some 0))), some (.inr (.inr (some 79))), some (.inl i)]) (st' := []) (w' := (SH, dt74)) rfl ?_
      exact K dt74 hI75 hM100 M2101 (by first | omega | (simp only [*]; done) | simp only [*]) (by omega) (by omega) (by omega) (by omega) (by omega) (by omega) (by omega) (by omega) (by omega) (by omega) (by omega) (by omega) (by omega)
    · skip
      have hM102 : MW (dt74 80) := h73.2.2.1
      obtain ⟨h73_0, h73_1, h73_2, h73_3, h73_4, h73_5, h73_6, h73_7, h73_8⟩ := h73
      have M2103 : MW (dt74 81) := MW_frk M270 hF76 (by decide)
      refine go_toq PM267 (k := 2) (pc' := 1435) (L' := [some (.inr (.inr (some 3000))), some (.inr (.inr (some 0))), some (.inr (.inr (some 79))), some (.inl i)]) (st' := []) (w' := (SH, dt74)) rfl ?_
      exact K dt74 hI75 hM102 M2103 (by first | omega | (simp only [*]; done) | simp only [*]) (by omega) (by omega) (by omega) (by omega) (by omega) (by omega) (by omega) (by omega) (by omega) (by omega) (by omega) (by omega) (by omega)
set_option maxRecDepth 20000 in
set_option maxHeartbeats 8000000 in
theorem sp_case26 (L : Nat) (xs : Nat → Int32) (sio : Option Nat) (d : Nat) (Q : Option AV → am_W → Prop) (hLL : L ≤ 3072) (i : Int) (hi : 0 ≤ i ∧ i ≤ 3066) (hil : i ≤ (L : Int) - 6) (dt : Nat → Nat → Int) (hI : InvC dt) (hM : MW (dt 80)) (hM2 : MW (dt 81)) (hk0 : dt 1 0 = dt 80 0) (hk1 : dt 7 3 = dt 80 1) (hk2 : dt 10 3 = dt 80 2) (hk3 : dt 12 3 = dt 80 3) (hk4 : dt 14 3 = dt 80 4) (hk5 : dt 16 3 = dt 80 5) (hk6 : dt 18 0 = dt 81 0) (hk7 : dt 24 3 = dt 81 1) (hk8 : dt 27 3 = dt 81 2) (hk9 : dt 29 3 = dt 81 3) (hk10 : dt 31 3 = dt 81 4) (hk11 : dt 33 3 = dt 81 5) (hk12 : dt 0 2 = dt 79 2) (hk13 : dt 35 1 = dt 79 12) (K : ∀ (dt : Nat → Nat → Int) (hI : InvC dt) (hM : MW (dt 80)) (hM2 : MW (dt 81)) (hk0 : dt 1 0 = dt 80 0) (hk1 : dt 7 3 = dt 80 1) (hk2 : dt 10 3 = dt 80 2) (hk3 : dt 12 3 = dt 80 3) (hk4 : dt 14 3 = dt 80 4) (hk5 : dt 16 3 = dt 80 5) (hk6 : dt 18 0 = dt 81 0) (hk7 : dt 24 3 = dt 81 1) (hk8 : dt 27 3 = dt 81 2) (hk9 : dt 29 3 = dt 81 3) (hk10 : dt 31 3 = dt 81 4) (hk11 : dt 33 3 = dt 81 5) (hk12 : dt 0 2 = dt 79 2) (hk13 : dt 35 1 = dt 79 12), GO (am_XX L xs sio) (d + 39) 267 1435 [some (.inr (.inr (some 3000))), some (.inr (.inr (some 0))), some (.inr (.inr (some 79))), some (.inl i)] [] (SH, dt) Q) : GO (am_XX L xs sio) (d + 39) 267 1198 [some (.inr (.inr (some 3000))), some (.inr (.inr (some 0))), some (.inr (.inr (some 79))), some (.inl i)] [] (SH, dt) Q := by
  have hF : Fr [0, 1, 2, 3, 4, 5, 6, 7, 8, 9, 10, 11, 12, 13, 14, 15, 16, 17, 18, 19, 20, 21, 22, 23, 24, 25, 26, 27, 28, 29, 30, 31, 32, 33, 34, 35, 36, 37, 38, 39, 40, 41, 42, 43, 44, 45, 46, 47, 48, 49, 50, 51, 52, 53, 54, 55, 56, 57, 58, 59, 60, 61, 62, 63, 64, 65, 66, 67, 68, 69, 70, 71, 72, 73, 74, 75, 76, 77, 78, 79, 80, 81, 82, 83, 84, 85, 86, 87, 88, 89, 90, 91, 92, 93, 94, 95, 96, 97, 98, 99, 100, 101, 102, 103, 104] dt dt := Fr_refl
  refine go_toq PM267 (k := 5) (pc' := 1203) (L' := [some (.inr (.inr (some 3000))), some (.inr (.inr (some 0))), some (.inr (.inr (some 79))), some (.inl i)]) (st' := [.inl (i + 1), .inr (.inr (some 3000)), .inr (.inr (some 0))]) (w' := (SH, dt)) rfl ?_
  have r1 := i32_R (xs ((i + 1).toNat))
  refine go_smpq PM267 (L' := [some (.inr (.inr (some 3000))), some (.inr (.inr (some 0))), some (.inr (.inr (some 79))), some (.inl i)]) (st' := [.inl ((xs ((i + 1).toNat)).toInt), .inr (.inr (some 0))]) (w' := (SH, dt)) rfl rfl (s_iald (n := L) (f := fun j => (xs j).toInt) (am_scr hLL) ⟨by omega, by omega⟩) ?_
  refine go_callq PM267 PM93 (Q' := _) rfl rfl rfl rfl (sp_X5_houses L xs sio (d + 34) dt hI  ((xs ((i + 1).toNat)).toInt) ⟨by omega, by omega⟩ ) ?_
  rintro _ _ ⟨rfl, h2⟩
  refine ⟨rfl, ?_⟩
  rcases h2 with ⟨v_h2, rfl, h2r, h2⟩
  refine go_toq PM267 (k := 6) (pc' := 1213) (L' := [some (.inr (.inr (some 3000))), some (.inr (.inr (some 0))), some (.inr (.inr (some 79))), some (.inl i)]) (st' := [.inl (i + 1), .inr (.inr (some 3000)), .inr (.inr (some 79))]) (w' := (SH, dt)) rfl ?_
  refine go_smpq PM267 (L' := [some (.inr (.inr (some 3000))), some (.inr (.inr (some 0))), some (.inr (.inr (some 79))), some (.inl i)]) (st' := [.inl ((xs ((i + 1).toNat)).toInt), .inr (.inr (some 79))]) (w' := (SH, dt)) rfl rfl (s_iald (n := L) (f := fun j => (xs j).toInt) (am_scr hLL) ⟨by omega, by omega⟩) ?_
  refine go_callq PM267 PM239 (Q' := _) rfl rfl rfl rfl (sp_X6_houses L xs sio (d + 37) dt hI hM  ((xs ((i + 1).toNat)).toInt) ⟨by omega, by omega⟩ ) ?_
  rintro _ _ ⟨rfl, h3⟩
  refine ⟨rfl, ?_⟩
  rcases h3 with ⟨v_h3, rfl, h3r, h3⟩
  refine go_toq PM267 (k := 2) (pc' := 1435) (L' := [some (.inr (.inr (some 3000))), some (.inr (.inr (some 0))), some (.inr (.inr (some 79))), some (.inl i)]) (st' := []) (w' := (SH, dt)) rfl ?_
  exact K dt hI hM hM2 (by first | omega | (simp only [*]; done) | simp only [*]) (by omega) (by omega) (by omega) (by omega) (by omega) (by omega) (by omega) (by omega) (by omega) (by omega) (by omega) (by omega) (by omega)
set_option maxRecDepth 20000 in
set_option maxHeartbeats 8000000 in
theorem sp_case27 (L : Nat) (xs : Nat → Int32) (sio : Option Nat) (d : Nat) (Q : Option AV → am_W → Prop) (hLL : L ≤ 3072) (i : Int) (hi : 0 ≤ i ∧ i ≤ 3066) (hil : i ≤ (L : Int) - 6) (dt : Nat → Nat → Int) (hI : InvC dt) (hM : MW (dt 80)) (hM2 : MW (dt 81)) (hk0 : dt 1 0 = dt 80 0) (hk1 : dt 7 3 = dt 80 1) (hk2 : dt 10 3 = dt 80 2) (hk3 : dt 12 3 = dt 80 3) (hk4 : dt 14 3 = dt 80 4) (hk5 : dt 16 3 = dt 80 5) (hk6 : dt 18 0 = dt 81 0) (hk7 : dt 24 3 = dt 81 1) (hk8 : dt 27 3 = dt 81 2) (hk9 : dt 29 3 = dt 81 3) (hk10 : dt 31 3 = dt 81 4) (hk11 : dt 33 3 = dt 81 5) (hk12 : dt 0 2 = dt 79 2) (hk13 : dt 35 1 = dt 79 12) (K : ∀ (dt : Nat → Nat → Int) (hI : InvC dt) (hM : MW (dt 80)) (hM2 : MW (dt 81)) (hk0 : dt 1 0 = dt 80 0) (hk1 : dt 7 3 = dt 80 1) (hk2 : dt 10 3 = dt 80 2) (hk3 : dt 12 3 = dt 80 3) (hk4 : dt 14 3 = dt 80 4) (hk5 : dt 16 3 = dt 80 5) (hk6 : dt 18 0 = dt 81 0) (hk7 : dt 24 3 = dt 81 1) (hk8 : dt 27 3 = dt 81 2) (hk9 : dt 29 3 = dt 81 3) (hk10 : dt 31 3 = dt 81 4) (hk11 : dt 33 3 = dt 81 5) (hk12 : dt 0 2 = dt 79 2) (hk13 : dt 35 1 = dt 79 12), GO (am_XX L xs sio) (d + 39) 267 1435 [some (.inr (.inr (some 3000))), some (.inr (.inr (some 0))), some (.inr (.inr (some 79))), some (.inl i)] [] (SH, dt) Q) : GO (am_XX L xs sio) (d + 39) 267 1221 [some (.inr (.inr (some 3000))), some (.inr (.inr (some 0))), some (.inr (.inr (some 79))), some (.inl i)] [] (SH, dt) Q := by
  have hF : Fr [0, 1, 2, 3, 4, 5, 6, 7, 8, 9, 10, 11, 12, 13, 14, 15, 16, 17, 18, 19, 20, 21, 22, 23, 24, 25, 26, 27, 28, 29, 30, 31, 32, 33, 34, 35, 36, 37, 38, 39, 40, 41, 42, 43, 44, 45, 46, 47, 48, 49, 50, 51, 52, 53, 54, 55, 56, 57, 58, 59, 60, 61, 62, 63, 64, 65, 66, 67, 68, 69, 70, 71, 72, 73, 74, 75, 76, 77, 78, 79, 80, 81, 82, 83, 84, 85, 86, 87, 88, 89, 90, 91, 92, 93, 94, 95, 96, 97, 98, 99, 100, 101, 102, 103, 104] dt dt := Fr_refl
  refine go_toq PM267 (k := 5) (pc' := 1226) (L' := [some (.inr (.inr (some 3000))), some (.inr (.inr (some 0))), some (.inr (.inr (some 79))), some (.inl i)]) (st' := [.inl (i + 1), .inr (.inr (some 3000)), .inr (.inr (some 0))]) (w' := (SH, dt)) rfl ?_
  have r1 := i32_R (xs ((i + 1).toNat))
  refine go_smpq PM267 (L' := [some (.inr (.inr (some 3000))), some (.inr (.inr (some 0))), some (.inr (.inr (some 79))), some (.inl i)]) (st' := [.inl ((xs ((i + 1).toNat)).toInt), .inr (.inr (some 0))]) (w' := (SH, dt)) rfl rfl (s_iald (n := L) (f := fun j => (xs j).toInt) (am_scr hLL) ⟨by omega, by omega⟩) ?_
  refine go_toq PM267 (k := 4) (pc' := 1231) (L' := [some (.inr (.inr (some 3000))), some (.inr (.inr (some 0))), some (.inr (.inr (some 79))), some (.inl i)]) (st' := [.inl (i + 2), .inr (.inr (some 3000)), .inl ((xs ((i + 1).toNat)).toInt), .inr (.inr (some 0))]) (w' := (SH, dt)) rfl ?_
  have r2 := i32_R (xs ((i + 2).toNat))
  refine go_smpq PM267 (L' := [some (.inr (.inr (some 3000))), some (.inr (.inr (some 0))), some (.inr (.inr (some 79))), some (.inl i)]) (st' := [.inl ((xs ((i + 2).toNat)).toInt), .inl ((xs ((i + 1).toNat)).toInt), .inr (.inr (some 0))]) (w' := (SH, dt)) rfl rfl (s_iald (n := L) (f := fun j => (xs j).toInt) (am_scr hLL) ⟨by omega, by omega⟩) ?_
  refine go_callq PM267 PM94 (Q' := _) rfl rfl rfl rfl (sp_X5_sorts L xs sio (d + 33) dt hI  ((xs ((i + 1).toNat)).toInt) ⟨by omega, by omega⟩ ((xs ((i + 2).toNat)).toInt) ⟨by omega, by omega⟩ ) ?_
  rintro _ _ ⟨dt4, rfl, hI5, hF6, h3⟩
  refine ⟨rfl, ?_⟩
  have hF7 : Fr [0, 1, 2, 3, 4, 5, 6, 7, 8, 9, 10, 11, 12, 13, 14, 15, 16, 17, 18, 19, 20, 21, 22, 23, 24, 25, 26, 27, 28, 29, 30, 31, 32, 33, 34, 35, 36, 37, 38, 39, 40, 41, 42, 43, 44, 45, 46, 47, 48, 49, 50, 51, 52, 53, 54, 55, 56, 57, 58, 59, 60, 61, 62, 63, 64, 65, 66, 67, 68, 69, 70, 71, 72, 73, 74, 75, 76, 77, 78, 79, 80, 81, 82, 83, 84, 85, 86, 87, 88, 89, 90, 91, 92, 93, 94, 95, 96, 97, 98, 99, 100, 101, 102, 103, 104] dt dt4 := Fr_tr hF hF6 (by decide)
  have hM8 : MW (dt4 80) := MW_fr hM hF6 (by decide)
  have w9 : dt4 1 0 = dt 1 0 := hF6 1 (by decide) 0
  have w10 : dt4 7 3 = dt 7 3 := hF6 7 (by decide) 3
  have w11 : dt4 10 3 = dt 10 3 := hF6 10 (by decide) 3
  have w12 : dt4 12 3 = dt 12 3 := hF6 12 (by decide) 3
  have w13 : dt4 14 3 = dt 14 3 := hF6 14 (by decide) 3
  have w14 : dt4 16 3 = dt 16 3 := hF6 16 (by decide) 3
  have w15 : dt4 18 0 = dt 18 0 := hF6 18 (by decide) 0
  have w16 : dt4 24 3 = dt 24 3 := hF6 24 (by decide) 3
  have w17 : dt4 27 3 = dt 27 3 := hF6 27 (by decide) 3
  have w18 : dt4 29 3 = dt 29 3 := hF6 29 (by decide) 3
  have w19 : dt4 31 3 = dt 31 3 := hF6 31 (by decide) 3
  have w20 : dt4 33 3 = dt 33 3 := hF6 33 (by decide) 3
  have w21 : dt4 0 2 = dt 0 2 := hF6 0 (by decide) 2
  have w22 : dt4 35 1 = dt 35 1 := hF6 35 (by decide) 1
  have w23 : dt4 80 0 = dt 80 0 := hF6 80 (by decide) 0
  have w24 : dt4 80 1 = dt 80 1 := hF6 80 (by decide) 1
  have w25 : dt4 80 2 = dt 80 2 := hF6 80 (by decide) 2
  have w26 : dt4 80 3 = dt 80 3 := hF6 80 (by decide) 3
  have w27 : dt4 80 4 = dt 80 4 := hF6 80 (by decide) 4
  have w28 : dt4 80 5 = dt 80 5 := hF6 80 (by decide) 5
  have w29 : dt4 81 0 = dt 81 0 := hF6 81 (by decide) 0
  have w30 : dt4 81 1 = dt 81 1 := hF6 81 (by decide) 1
  have w31 : dt4 81 2 = dt 81 2 := hF6 81 (by decide) 2
  have w32 : dt4 81 3 = dt 81 3 := hF6 81 (by decide) 3
  have w33 : dt4 81 4 = dt 81 4 := hF6 81 (by decide) 4
  have w34 : dt4 81 5 = dt 81 5 := hF6 81 (by decide) 5
  have w35 : dt4 79 2 = dt 79 2 := hF6 79 (by decide) 2
  have w36 : dt4 79 12 = dt 79 12 := hF6 79 (by decide) 12
  rcases h3 with ⟨v_h3, rfl, h3r, h3⟩
  have M237 : MW (dt4 81) := MW_frk hM2 hF6 (by decide)
  refine go_toq PM267 (k := 6) (pc' := 1241) (L' := [some (.inr (.inr (some 3000))), some (.inr (.inr (some 0))), some (.inr (.inr (some 79))), some (.inl i)]) (st' := [.inl (i + 1), .inr (.inr (some 3000)), .inr (.inr (some 79))]) (w' := (SH, dt4)) rfl ?_
  have r38 := i32_R (xs ((i + 1).toNat))
  refine go_smpq PM267 (L' := [some (.inr (.inr (some 3000))), some (.inr (.inr (some 0))), some (.inr (.inr (some 79))), some (.inl i)]) (st' := [.inl ((xs ((i + 1).toNat)).toInt), .inr (.inr (some 79))]) (w' := (SH, dt4)) rfl rfl (s_iald (n := L) (f := fun j => (xs j).toInt) (am_scr hLL) ⟨by omega, by omega⟩) ?_
  refine go_toq PM267 (k := 4) (pc' := 1246) (L' := [some (.inr (.inr (some 3000))), some (.inr (.inr (some 0))), some (.inr (.inr (some 79))), some (.inl i)]) (st' := [.inl (i + 2), .inr (.inr (some 3000)), .inl ((xs ((i + 1).toNat)).toInt), .inr (.inr (some 79))]) (w' := (SH, dt4)) rfl ?_
  have r39 := i32_R (xs ((i + 2).toNat))
  refine go_smpq PM267 (L' := [some (.inr (.inr (some 3000))), some (.inr (.inr (some 0))), some (.inr (.inr (some 79))), some (.inl i)]) (st' := [.inl ((xs ((i + 2).toNat)).toInt), .inl ((xs ((i + 1).toNat)).toInt), .inr (.inr (some 79))]) (w' := (SH, dt4)) rfl rfl (s_iald (n := L) (f := fun j => (xs j).toInt) (am_scr hLL) ⟨by omega, by omega⟩) ?_
  refine go_callq PM267 PM240 (Q' := _) rfl rfl rfl rfl (sp_X6_sorts L xs sio (d + 31) dt4 hI5 hM8  ((xs ((i + 1).toNat)).toInt) ⟨by omega, by omega⟩ ((xs ((i + 2).toNat)).toInt) ⟨by omega, by omega⟩ ) ?_
  rintro _ _ ⟨dt41, rfl, hI42, hF43, h40⟩
  refine ⟨rfl, ?_⟩
  have hF44 : Fr [0, 1, 2, 3, 4, 5, 6, 7, 8, 9, 10, 11, 12, 13, 14, 15, 16, 17, 18, 19, 20, 21, 22, 23, 24, 25, 26, 27, 28, 29, 30, 31, 32, 33, 34, 35, 36, 37, 38, 39, 40, 41, 42, 43, 44, 45, 46, 47, 48, 49, 50, 51, 52, 53, 54, 55, 56, 57, 58, 59, 60, 61, 62, 63, 64, 65, 66, 67, 68, 69, 70, 71, 72, 73, 74, 75, 76, 77, 78, 79, 80, 81, 82, 83, 84, 85, 86, 87, 88, 89, 90, 91, 92, 93, 94, 95, 96, 97, 98, 99, 100, 101, 102, 103, 104] dt dt41 := Fr_tr hF7 hF43 (by decide)
  have hM45 : MW (dt41 80) := MW_fr hM8 hF43 (by decide)
  have w46 : dt41 1 0 = dt4 1 0 := hF43 1 (by decide) 0
  have w47 : dt41 7 3 = dt4 7 3 := hF43 7 (by decide) 3
  have w48 : dt41 10 3 = dt4 10 3 := hF43 10 (by decide) 3
  have w49 : dt41 12 3 = dt4 12 3 := hF43 12 (by decide) 3
  have w50 : dt41 14 3 = dt4 14 3 := hF43 14 (by decide) 3
  have w51 : dt41 16 3 = dt4 16 3 := hF43 16 (by decide) 3
  have w52 : dt41 18 0 = dt4 18 0 := hF43 18 (by decide) 0
  have w53 : dt41 24 3 = dt4 24 3 := hF43 24 (by decide) 3
  have w54 : dt41 27 3 = dt4 27 3 := hF43 27 (by decide) 3
  have w55 : dt41 29 3 = dt4 29 3 := hF43 29 (by decide) 3
  have w56 : dt41 31 3 = dt4 31 3 := hF43 31 (by decide) 3
  have w57 : dt41 33 3 = dt4 33 3 := hF43 33 (by decide) 3
  have w58 : dt41 0 2 = dt4 0 2 := hF43 0 (by decide) 2
  have w59 : dt41 35 1 = dt4 35 1 := hF43 35 (by decide) 1
  have w60 : dt41 80 0 = dt4 80 0 := hF43 80 (by decide) 0
  have w61 : dt41 80 1 = dt4 80 1 := hF43 80 (by decide) 1
  have w62 : dt41 80 2 = dt4 80 2 := hF43 80 (by decide) 2
  have w63 : dt41 80 3 = dt4 80 3 := hF43 80 (by decide) 3
  have w64 : dt41 80 4 = dt4 80 4 := hF43 80 (by decide) 4
  have w65 : dt41 80 5 = dt4 80 5 := hF43 80 (by decide) 5
  have w66 : dt41 81 0 = dt4 81 0 := hF43 81 (by decide) 0
  have w67 : dt41 81 1 = dt4 81 1 := hF43 81 (by decide) 1
  have w68 : dt41 81 2 = dt4 81 2 := hF43 81 (by decide) 2
  have w69 : dt41 81 3 = dt4 81 3 := hF43 81 (by decide) 3
  have w70 : dt41 81 4 = dt4 81 4 := hF43 81 (by decide) 4
  have w71 : dt41 81 5 = dt4 81 5 := hF43 81 (by decide) 5
  have w72 : dt41 79 2 = dt4 79 2 := hF43 79 (by decide) 2
  have w73 : dt41 79 12 = dt4 79 12 := hF43 79 (by decide) 12
  rcases h40 with ⟨v_h40, rfl, h40r, h40⟩
  have M274 : MW (dt41 81) := MW_frk M237 hF43 (by decide)
  refine go_toq PM267 (k := 2) (pc' := 1435) (L' := [some (.inr (.inr (some 3000))), some (.inr (.inr (some 0))), some (.inr (.inr (some 79))), some (.inl i)]) (st' := []) (w' := (SH, dt41)) rfl ?_
  exact K dt41 hI42 hM45 M274 (by first | omega | (simp only [*]; done) | simp only [*]) (by omega) (by omega) (by omega) (by omega) (by omega) (by omega) (by omega) (by omega) (by omega) (by omega) (by omega) (by omega) (by omega)
set_option maxRecDepth 20000 in
set_option maxHeartbeats 8000000 in
theorem sp_case28 (L : Nat) (xs : Nat → Int32) (sio : Option Nat) (d : Nat) (Q : Option AV → am_W → Prop) (hLL : L ≤ 3072) (i : Int) (hi : 0 ≤ i ∧ i ≤ 3066) (hil : i ≤ (L : Int) - 6) (dt : Nat → Nat → Int) (hI : InvC dt) (hM : MW (dt 80)) (hM2 : MW (dt 81)) (hk0 : dt 1 0 = dt 80 0) (hk1 : dt 7 3 = dt 80 1) (hk2 : dt 10 3 = dt 80 2) (hk3 : dt 12 3 = dt 80 3) (hk4 : dt 14 3 = dt 80 4) (hk5 : dt 16 3 = dt 80 5) (hk6 : dt 18 0 = dt 81 0) (hk7 : dt 24 3 = dt 81 1) (hk8 : dt 27 3 = dt 81 2) (hk9 : dt 29 3 = dt 81 3) (hk10 : dt 31 3 = dt 81 4) (hk11 : dt 33 3 = dt 81 5) (hk12 : dt 0 2 = dt 79 2) (hk13 : dt 35 1 = dt 79 12) (K : ∀ (dt : Nat → Nat → Int) (hI : InvC dt) (hM : MW (dt 80)) (hM2 : MW (dt 81)) (hk0 : dt 1 0 = dt 80 0) (hk1 : dt 7 3 = dt 80 1) (hk2 : dt 10 3 = dt 80 2) (hk3 : dt 12 3 = dt 80 3) (hk4 : dt 14 3 = dt 80 4) (hk5 : dt 16 3 = dt 80 5) (hk6 : dt 18 0 = dt 81 0) (hk7 : dt 24 3 = dt 81 1) (hk8 : dt 27 3 = dt 81 2) (hk9 : dt 29 3 = dt 81 3) (hk10 : dt 31 3 = dt 81 4) (hk11 : dt 33 3 = dt 81 5) (hk12 : dt 0 2 = dt 79 2) (hk13 : dt 35 1 = dt 79 12), GO (am_XX L xs sio) (d + 39) 267 1435 [some (.inr (.inr (some 3000))), some (.inr (.inr (some 0))), some (.inr (.inr (some 79))), some (.inl i)] [] (SH, dt) Q) : GO (am_XX L xs sio) (d + 39) 267 1254 [some (.inr (.inr (some 3000))), some (.inr (.inr (some 0))), some (.inr (.inr (some 79))), some (.inl i)] [] (SH, dt) Q := by
  have hF : Fr [0, 1, 2, 3, 4, 5, 6, 7, 8, 9, 10, 11, 12, 13, 14, 15, 16, 17, 18, 19, 20, 21, 22, 23, 24, 25, 26, 27, 28, 29, 30, 31, 32, 33, 34, 35, 36, 37, 38, 39, 40, 41, 42, 43, 44, 45, 46, 47, 48, 49, 50, 51, 52, 53, 54, 55, 56, 57, 58, 59, 60, 61, 62, 63, 64, 65, 66, 67, 68, 69, 70, 71, 72, 73, 74, 75, 76, 77, 78, 79, 80, 81, 82, 83, 84, 85, 86, 87, 88, 89, 90, 91, 92, 93, 94, 95, 96, 97, 98, 99, 100, 101, 102, 103, 104] dt dt := Fr_refl
  refine go_toq PM267 (k := 5) (pc' := 1259) (L' := [some (.inr (.inr (some 3000))), some (.inr (.inr (some 0))), some (.inr (.inr (some 79))), some (.inl i)]) (st' := [.inl (i + 1), .inr (.inr (some 3000)), .inr (.inr (some 0))]) (w' := (SH, dt)) rfl ?_
  have r1 := i32_R (xs ((i + 1).toNat))
  refine go_smpq PM267 (L' := [some (.inr (.inr (some 3000))), some (.inr (.inr (some 0))), some (.inr (.inr (some 79))), some (.inl i)]) (st' := [.inl ((xs ((i + 1).toNat)).toInt), .inr (.inr (some 0))]) (w' := (SH, dt)) rfl rfl (s_iald (n := L) (f := fun j => (xs j).toInt) (am_scr hLL) ⟨by omega, by omega⟩) ?_
  refine go_toq PM267 (k := 4) (pc' := 1264) (L' := [some (.inr (.inr (some 3000))), some (.inr (.inr (some 0))), some (.inr (.inr (some 79))), some (.inl i)]) (st' := [.inl (i + 2), .inr (.inr (some 3000)), .inl ((xs ((i + 1).toNat)).toInt), .inr (.inr (some 0))]) (w' := (SH, dt)) rfl ?_
  have r2 := i32_R (xs ((i + 2).toNat))
  refine go_smpq PM267 (L' := [some (.inr (.inr (some 3000))), some (.inr (.inr (some 0))), some (.inr (.inr (some 79))), some (.inl i)]) (st' := [.inl ((xs ((i + 2).toNat)).toInt), .inl ((xs ((i + 1).toNat)).toInt), .inr (.inr (some 0))]) (w' := (SH, dt)) rfl rfl (s_iald (n := L) (f := fun j => (xs j).toInt) (am_scr hLL) ⟨by omega, by omega⟩) ?_
  refine go_callq PM267 PM95 (Q' := _) rfl rfl rfl rfl (sp_X5_curve L xs sio (d + 33) dt hI  ((xs ((i + 1).toNat)).toInt) ⟨by omega, by omega⟩ ((xs ((i + 2).toNat)).toInt) ⟨by omega, by omega⟩ ) ?_
  rintro _ _ ⟨dt4, rfl, hI5, hF6, h3⟩
  refine ⟨rfl, ?_⟩
  have hF7 : Fr [0, 1, 2, 3, 4, 5, 6, 7, 8, 9, 10, 11, 12, 13, 14, 15, 16, 17, 18, 19, 20, 21, 22, 23, 24, 25, 26, 27, 28, 29, 30, 31, 32, 33, 34, 35, 36, 37, 38, 39, 40, 41, 42, 43, 44, 45, 46, 47, 48, 49, 50, 51, 52, 53, 54, 55, 56, 57, 58, 59, 60, 61, 62, 63, 64, 65, 66, 67, 68, 69, 70, 71, 72, 73, 74, 75, 76, 77, 78, 79, 80, 81, 82, 83, 84, 85, 86, 87, 88, 89, 90, 91, 92, 93, 94, 95, 96, 97, 98, 99, 100, 101, 102, 103, 104] dt dt4 := Fr_tr hF hF6 (by decide)
  have hM8 : MW (dt4 80) := MW_fr hM hF6 (by decide)
  have w9 : dt4 1 0 = dt 1 0 := hF6 1 (by decide) 0
  have w10 : dt4 7 3 = dt 7 3 := hF6 7 (by decide) 3
  have w11 : dt4 10 3 = dt 10 3 := hF6 10 (by decide) 3
  have w12 : dt4 12 3 = dt 12 3 := hF6 12 (by decide) 3
  have w13 : dt4 14 3 = dt 14 3 := hF6 14 (by decide) 3
  have w14 : dt4 16 3 = dt 16 3 := hF6 16 (by decide) 3
  have w15 : dt4 18 0 = dt 18 0 := hF6 18 (by decide) 0
  have w16 : dt4 24 3 = dt 24 3 := hF6 24 (by decide) 3
  have w17 : dt4 27 3 = dt 27 3 := hF6 27 (by decide) 3
  have w18 : dt4 29 3 = dt 29 3 := hF6 29 (by decide) 3
  have w19 : dt4 31 3 = dt 31 3 := hF6 31 (by decide) 3
  have w20 : dt4 33 3 = dt 33 3 := hF6 33 (by decide) 3
  have w21 : dt4 0 2 = dt 0 2 := hF6 0 (by decide) 2
  have w22 : dt4 35 1 = dt 35 1 := hF6 35 (by decide) 1
  have w23 : dt4 80 0 = dt 80 0 := hF6 80 (by decide) 0
  have w24 : dt4 80 1 = dt 80 1 := hF6 80 (by decide) 1
  have w25 : dt4 80 2 = dt 80 2 := hF6 80 (by decide) 2
  have w26 : dt4 80 3 = dt 80 3 := hF6 80 (by decide) 3
  have w27 : dt4 80 4 = dt 80 4 := hF6 80 (by decide) 4
  have w28 : dt4 80 5 = dt 80 5 := hF6 80 (by decide) 5
  have w29 : dt4 81 0 = dt 81 0 := hF6 81 (by decide) 0
  have w30 : dt4 81 1 = dt 81 1 := hF6 81 (by decide) 1
  have w31 : dt4 81 2 = dt 81 2 := hF6 81 (by decide) 2
  have w32 : dt4 81 3 = dt 81 3 := hF6 81 (by decide) 3
  have w33 : dt4 81 4 = dt 81 4 := hF6 81 (by decide) 4
  have w34 : dt4 81 5 = dt 81 5 := hF6 81 (by decide) 5
  have w35 : dt4 79 2 = dt 79 2 := hF6 79 (by decide) 2
  have w36 : dt4 79 12 = dt 79 12 := hF6 79 (by decide) 12
  rcases h3 with ⟨v_h3, rfl, h3r, h3⟩
  have M237 : MW (dt4 81) := MW_frk hM2 hF6 (by decide)
  refine go_toq PM267 (k := 6) (pc' := 1274) (L' := [some (.inr (.inr (some 3000))), some (.inr (.inr (some 0))), some (.inr (.inr (some 79))), some (.inl i)]) (st' := [.inl (i + 1), .inr (.inr (some 3000)), .inr (.inr (some 79))]) (w' := (SH, dt4)) rfl ?_
  have r38 := i32_R (xs ((i + 1).toNat))
  refine go_smpq PM267 (L' := [some (.inr (.inr (some 3000))), some (.inr (.inr (some 0))), some (.inr (.inr (some 79))), some (.inl i)]) (st' := [.inl ((xs ((i + 1).toNat)).toInt), .inr (.inr (some 79))]) (w' := (SH, dt4)) rfl rfl (s_iald (n := L) (f := fun j => (xs j).toInt) (am_scr hLL) ⟨by omega, by omega⟩) ?_
  refine go_toq PM267 (k := 4) (pc' := 1279) (L' := [some (.inr (.inr (some 3000))), some (.inr (.inr (some 0))), some (.inr (.inr (some 79))), some (.inl i)]) (st' := [.inl (i + 2), .inr (.inr (some 3000)), .inl ((xs ((i + 1).toNat)).toInt), .inr (.inr (some 79))]) (w' := (SH, dt4)) rfl ?_
  have r39 := i32_R (xs ((i + 2).toNat))
  refine go_smpq PM267 (L' := [some (.inr (.inr (some 3000))), some (.inr (.inr (some 0))), some (.inr (.inr (some 79))), some (.inl i)]) (st' := [.inl ((xs ((i + 2).toNat)).toInt), .inl ((xs ((i + 1).toNat)).toInt), .inr (.inr (some 79))]) (w' := (SH, dt4)) rfl rfl (s_iald (n := L) (f := fun j => (xs j).toInt) (am_scr hLL) ⟨by omega, by omega⟩) ?_
  refine go_callq PM267 PM242 (Q' := _) rfl rfl rfl rfl (sp_X6_curve_k L xs sio (d + 30) dt4 hI5 hM8  ((xs ((i + 1).toNat)).toInt) ⟨by omega, by omega⟩ ((xs ((i + 2).toNat)).toInt) ⟨by omega, by omega⟩ ) ?_
  rintro _ _ ⟨dt41, rfl, hI42, hF43, h40⟩
  refine ⟨rfl, ?_⟩
  have hF44 : Fr [0, 1, 2, 3, 4, 5, 6, 7, 8, 9, 10, 11, 12, 13, 14, 15, 16, 17, 18, 19, 20, 21, 22, 23, 24, 25, 26, 27, 28, 29, 30, 31, 32, 33, 34, 35, 36, 37, 38, 39, 40, 41, 42, 43, 44, 45, 46, 47, 48, 49, 50, 51, 52, 53, 54, 55, 56, 57, 58, 59, 60, 61, 62, 63, 64, 65, 66, 67, 68, 69, 70, 71, 72, 73, 74, 75, 76, 77, 78, 79, 80, 81, 82, 83, 84, 85, 86, 87, 88, 89, 90, 91, 92, 93, 94, 95, 96, 97, 98, 99, 100, 101, 102, 103, 104] dt dt41 := Fr_tr hF7 hF43 (by decide)
  have hM45 : MW (dt41 80) := MW_fr hM8 hF43 (by decide)
  have w46 : dt41 1 0 = dt4 1 0 := hF43 1 (by decide) 0
  have w47 : dt41 7 3 = dt4 7 3 := hF43 7 (by decide) 3
  have w48 : dt41 10 3 = dt4 10 3 := hF43 10 (by decide) 3
  have w49 : dt41 12 3 = dt4 12 3 := hF43 12 (by decide) 3
  have w50 : dt41 14 3 = dt4 14 3 := hF43 14 (by decide) 3
  have w51 : dt41 16 3 = dt4 16 3 := hF43 16 (by decide) 3
  have w52 : dt41 18 0 = dt4 18 0 := hF43 18 (by decide) 0
  have w53 : dt41 24 3 = dt4 24 3 := hF43 24 (by decide) 3
  have w54 : dt41 27 3 = dt4 27 3 := hF43 27 (by decide) 3
  have w55 : dt41 29 3 = dt4 29 3 := hF43 29 (by decide) 3
  have w56 : dt41 31 3 = dt4 31 3 := hF43 31 (by decide) 3
  have w57 : dt41 33 3 = dt4 33 3 := hF43 33 (by decide) 3
  have w58 : dt41 0 2 = dt4 0 2 := hF43 0 (by decide) 2
  have w59 : dt41 35 1 = dt4 35 1 := hF43 35 (by decide) 1
  have w60 : dt41 80 0 = dt4 80 0 := hF43 80 (by decide) 0
  have w61 : dt41 80 1 = dt4 80 1 := hF43 80 (by decide) 1
  have w62 : dt41 80 2 = dt4 80 2 := hF43 80 (by decide) 2
  have w63 : dt41 80 3 = dt4 80 3 := hF43 80 (by decide) 3
  have w64 : dt41 80 4 = dt4 80 4 := hF43 80 (by decide) 4
  have w65 : dt41 80 5 = dt4 80 5 := hF43 80 (by decide) 5
  have w66 : dt41 81 0 = dt4 81 0 := hF43 81 (by decide) 0
  have w67 : dt41 81 1 = dt4 81 1 := hF43 81 (by decide) 1
  have w68 : dt41 81 2 = dt4 81 2 := hF43 81 (by decide) 2
  have w69 : dt41 81 3 = dt4 81 3 := hF43 81 (by decide) 3
  have w70 : dt41 81 4 = dt4 81 4 := hF43 81 (by decide) 4
  have w71 : dt41 81 5 = dt4 81 5 := hF43 81 (by decide) 5
  rcases h40 with ⟨v_h40, rfl, h40r, h40⟩
  obtain ⟨h40_0, h40_1⟩ := h40
  have M272 : MW (dt41 81) := MW_frk M237 hF43 (by decide)
  refine go_toq PM267 (k := 2) (pc' := 1435) (L' := [some (.inr (.inr (some 3000))), some (.inr (.inr (some 0))), some (.inr (.inr (some 79))), some (.inl i)]) (st' := []) (w' := (SH, dt41)) rfl ?_
  exact K dt41 hI42 hM45 M272 (by first | omega | (simp only [*]; done) | simp only [*]) (by omega) (by omega) (by omega) (by omega) (by omega) (by omega) (by omega) (by omega) (by omega) (by omega) (by omega) (by omega) (by omega)
set_option maxRecDepth 20000 in
set_option maxHeartbeats 8000000 in
theorem sp_case29 (L : Nat) (xs : Nat → Int32) (sio : Option Nat) (d : Nat) (Q : Option AV → am_W → Prop) (hLL : L ≤ 3072) (i : Int) (hi : 0 ≤ i ∧ i ≤ 3066) (hil : i ≤ (L : Int) - 6) (dt : Nat → Nat → Int) (hI : InvC dt) (hM : MW (dt 80)) (hM2 : MW (dt 81)) (hk0 : dt 1 0 = dt 80 0) (hk1 : dt 7 3 = dt 80 1) (hk2 : dt 10 3 = dt 80 2) (hk3 : dt 12 3 = dt 80 3) (hk4 : dt 14 3 = dt 80 4) (hk5 : dt 16 3 = dt 80 5) (hk6 : dt 18 0 = dt 81 0) (hk7 : dt 24 3 = dt 81 1) (hk8 : dt 27 3 = dt 81 2) (hk9 : dt 29 3 = dt 81 3) (hk10 : dt 31 3 = dt 81 4) (hk11 : dt 33 3 = dt 81 5) (hk12 : dt 0 2 = dt 79 2) (hk13 : dt 35 1 = dt 79 12) (K : ∀ (dt : Nat → Nat → Int) (hI : InvC dt) (hM : MW (dt 80)) (hM2 : MW (dt 81)) (hk0 : dt 1 0 = dt 80 0) (hk1 : dt 7 3 = dt 80 1) (hk2 : dt 10 3 = dt 80 2) (hk3 : dt 12 3 = dt 80 3) (hk4 : dt 14 3 = dt 80 4) (hk5 : dt 16 3 = dt 80 5) (hk6 : dt 18 0 = dt 81 0) (hk7 : dt 24 3 = dt 81 1) (hk8 : dt 27 3 = dt 81 2) (hk9 : dt 29 3 = dt 81 3) (hk10 : dt 31 3 = dt 81 4) (hk11 : dt 33 3 = dt 81 5) (hk12 : dt 0 2 = dt 79 2) (hk13 : dt 35 1 = dt 79 12), GO (am_XX L xs sio) (d + 39) 267 1435 [some (.inr (.inr (some 3000))), some (.inr (.inr (some 0))), some (.inr (.inr (some 79))), some (.inl i)] [] (SH, dt) Q) : GO (am_XX L xs sio) (d + 39) 267 1287 [some (.inr (.inr (some 3000))), some (.inr (.inr (some 0))), some (.inr (.inr (some 79))), some (.inl i)] [] (SH, dt) Q := by
  have hF : Fr [0, 1, 2, 3, 4, 5, 6, 7, 8, 9, 10, 11, 12, 13, 14, 15, 16, 17, 18, 19, 20, 21, 22, 23, 24, 25, 26, 27, 28, 29, 30, 31, 32, 33, 34, 35, 36, 37, 38, 39, 40, 41, 42, 43, 44, 45, 46, 47, 48, 49, 50, 51, 52, 53, 54, 55, 56, 57, 58, 59, 60, 61, 62, 63, 64, 65, 66, 67, 68, 69, 70, 71, 72, 73, 74, 75, 76, 77, 78, 79, 80, 81, 82, 83, 84, 85, 86, 87, 88, 89, 90, 91, 92, 93, 94, 95, 96, 97, 98, 99, 100, 101, 102, 103, 104] dt dt := Fr_refl
  refine go_toq PM267 (k := 5) (pc' := 1292) (L' := [some (.inr (.inr (some 3000))), some (.inr (.inr (some 0))), some (.inr (.inr (some 79))), some (.inl i)]) (st' := [.inl (i + 1), .inr (.inr (some 3000)), .inr (.inr (some 0))]) (w' := (SH, dt)) rfl ?_
  have r1 := i32_R (xs ((i + 1).toNat))
  refine go_smpq PM267 (L' := [some (.inr (.inr (some 3000))), some (.inr (.inr (some 0))), some (.inr (.inr (some 79))), some (.inl i)]) (st' := [.inl ((xs ((i + 1).toNat)).toInt), .inr (.inr (some 0))]) (w' := (SH, dt)) rfl rfl (s_iald (n := L) (f := fun j => (xs j).toInt) (am_scr hLL) ⟨by omega, by omega⟩) ?_
  refine go_callq PM267 PM96 (Q' := _) rfl rfl rfl rfl (sp_X5_score L xs sio (d + 32) dt hI  ((xs ((i + 1).toNat)).toInt) ⟨by omega, by omega⟩ ) ?_
  rintro _ _ ⟨dt3, rfl, hI4, hF5, h2⟩
  refine ⟨rfl, ?_⟩
  have hF6 : Fr [0, 1, 2, 3, 4, 5, 6, 7, 8, 9, 10, 11, 12, 13, 14, 15, 16, 17, 18, 19, 20, 21, 22, 23, 24, 25, 26, 27, 28, 29, 30, 31, 32, 33, 34, 35, 36, 37, 38, 39, 40, 41, 42, 43, 44, 45, 46, 47, 48, 49, 50, 51, 52, 53, 54, 55, 56, 57, 58, 59, 60, 61, 62, 63, 64, 65, 66, 67, 68, 69, 70, 71, 72, 73, 74, 75, 76, 77, 78, 79, 80, 81, 82, 83, 84, 85, 86, 87, 88, 89, 90, 91, 92, 93, 94, 95, 96, 97, 98, 99, 100, 101, 102, 103, 104] dt dt3 := Fr_tr hF hF5 (by decide)
  have hM7 : MW (dt3 80) := MW_fr hM hF5 (by decide)
  have w8 : dt3 1 0 = dt 1 0 := hF5 1 (by decide) 0
  have w9 : dt3 7 3 = dt 7 3 := hF5 7 (by decide) 3
  have w10 : dt3 10 3 = dt 10 3 := hF5 10 (by decide) 3
  have w11 : dt3 12 3 = dt 12 3 := hF5 12 (by decide) 3
  have w12 : dt3 14 3 = dt 14 3 := hF5 14 (by decide) 3
  have w13 : dt3 16 3 = dt 16 3 := hF5 16 (by decide) 3
  have w14 : dt3 18 0 = dt 18 0 := hF5 18 (by decide) 0
  have w15 : dt3 24 3 = dt 24 3 := hF5 24 (by decide) 3
  have w16 : dt3 27 3 = dt 27 3 := hF5 27 (by decide) 3
  have w17 : dt3 29 3 = dt 29 3 := hF5 29 (by decide) 3
  have w18 : dt3 31 3 = dt 31 3 := hF5 31 (by decide) 3
  have w19 : dt3 33 3 = dt 33 3 := hF5 33 (by decide) 3
  have w20 : dt3 0 2 = dt 0 2 := hF5 0 (by decide) 2
  have w21 : dt3 35 1 = dt 35 1 := hF5 35 (by decide) 1
  have w22 : dt3 80 0 = dt 80 0 := hF5 80 (by decide) 0
  have w23 : dt3 80 1 = dt 80 1 := hF5 80 (by decide) 1
  have w24 : dt3 80 2 = dt 80 2 := hF5 80 (by decide) 2
  have w25 : dt3 80 3 = dt 80 3 := hF5 80 (by decide) 3
  have w26 : dt3 80 4 = dt 80 4 := hF5 80 (by decide) 4
  have w27 : dt3 80 5 = dt 80 5 := hF5 80 (by decide) 5
  have w28 : dt3 81 0 = dt 81 0 := hF5 81 (by decide) 0
  have w29 : dt3 81 1 = dt 81 1 := hF5 81 (by decide) 1
  have w30 : dt3 81 2 = dt 81 2 := hF5 81 (by decide) 2
  have w31 : dt3 81 3 = dt 81 3 := hF5 81 (by decide) 3
  have w32 : dt3 81 4 = dt 81 4 := hF5 81 (by decide) 4
  have w33 : dt3 81 5 = dt 81 5 := hF5 81 (by decide) 5
  have w34 : dt3 79 2 = dt 79 2 := hF5 79 (by decide) 2
  have w35 : dt3 79 12 = dt 79 12 := hF5 79 (by decide) 12
  rcases h2 with ⟨v_h2, rfl, h2r, h2⟩
  have M236 : MW (dt3 81) := MW_frk hM2 hF5 (by decide)
  refine go_toq PM267 (k := 6) (pc' := 1302) (L' := [some (.inr (.inr (some 3000))), some (.inr (.inr (some 0))), some (.inr (.inr (some 79))), some (.inl i)]) (st' := [.inl (i + 1), .inr (.inr (some 3000)), .inr (.inr (some 79))]) (w' := (SH, dt3)) rfl ?_
  have r37 := i32_R (xs ((i + 1).toNat))
  refine go_smpq PM267 (L' := [some (.inr (.inr (some 3000))), some (.inr (.inr (some 0))), some (.inr (.inr (some 79))), some (.inl i)]) (st' := [.inl ((xs ((i + 1).toNat)).toInt), .inr (.inr (some 79))]) (w' := (SH, dt3)) rfl rfl (s_iald (n := L) (f := fun j => (xs j).toInt) (am_scr hLL) ⟨by omega, by omega⟩) ?_
  refine go_callq PM267 PM245 (Q' := _) rfl rfl rfl rfl (sp_X6_score L xs sio (d + 30) dt3 hI4 hM7  ((xs ((i + 1).toNat)).toInt) ⟨by omega, by omega⟩ ) ?_
  rintro _ _ ⟨dt39, rfl, hI40, hF41, h38⟩
  refine ⟨rfl, ?_⟩
  have hF42 : Fr [0, 1, 2, 3, 4, 5, 6, 7, 8, 9, 10, 11, 12, 13, 14, 15, 16, 17, 18, 19, 20, 21, 22, 23, 24, 25, 26, 27, 28, 29, 30, 31, 32, 33, 34, 35, 36, 37, 38, 39, 40, 41, 42, 43, 44, 45, 46, 47, 48, 49, 50, 51, 52, 53, 54, 55, 56, 57, 58, 59, 60, 61, 62, 63, 64, 65, 66, 67, 68, 69, 70, 71, 72, 73, 74, 75, 76, 77, 78, 79, 80, 81, 82, 83, 84, 85, 86, 87, 88, 89, 90, 91, 92, 93, 94, 95, 96, 97, 98, 99, 100, 101, 102, 103, 104] dt dt39 := Fr_tr hF6 hF41 (by decide)
  have hM43 : MW (dt39 80) := MW_fr hM7 hF41 (by decide)
  have w44 : dt39 1 0 = dt3 1 0 := hF41 1 (by decide) 0
  have w45 : dt39 7 3 = dt3 7 3 := hF41 7 (by decide) 3
  have w46 : dt39 10 3 = dt3 10 3 := hF41 10 (by decide) 3
  have w47 : dt39 12 3 = dt3 12 3 := hF41 12 (by decide) 3
  have w48 : dt39 14 3 = dt3 14 3 := hF41 14 (by decide) 3
  have w49 : dt39 16 3 = dt3 16 3 := hF41 16 (by decide) 3
  have w50 : dt39 18 0 = dt3 18 0 := hF41 18 (by decide) 0
  have w51 : dt39 24 3 = dt3 24 3 := hF41 24 (by decide) 3
  have w52 : dt39 27 3 = dt3 27 3 := hF41 27 (by decide) 3
  have w53 : dt39 29 3 = dt3 29 3 := hF41 29 (by decide) 3
  have w54 : dt39 31 3 = dt3 31 3 := hF41 31 (by decide) 3
  have w55 : dt39 33 3 = dt3 33 3 := hF41 33 (by decide) 3
  have w56 : dt39 0 2 = dt3 0 2 := hF41 0 (by decide) 2
  have w57 : dt39 35 1 = dt3 35 1 := hF41 35 (by decide) 1
  have w58 : dt39 80 0 = dt3 80 0 := hF41 80 (by decide) 0
  have w59 : dt39 80 1 = dt3 80 1 := hF41 80 (by decide) 1
  have w60 : dt39 80 2 = dt3 80 2 := hF41 80 (by decide) 2
  have w61 : dt39 80 3 = dt3 80 3 := hF41 80 (by decide) 3
  have w62 : dt39 80 4 = dt3 80 4 := hF41 80 (by decide) 4
  have w63 : dt39 80 5 = dt3 80 5 := hF41 80 (by decide) 5
  have w64 : dt39 81 0 = dt3 81 0 := hF41 81 (by decide) 0
  have w65 : dt39 81 1 = dt3 81 1 := hF41 81 (by decide) 1
  have w66 : dt39 81 2 = dt3 81 2 := hF41 81 (by decide) 2
  have w67 : dt39 81 3 = dt3 81 3 := hF41 81 (by decide) 3
  have w68 : dt39 81 4 = dt3 81 4 := hF41 81 (by decide) 4
  have w69 : dt39 81 5 = dt3 81 5 := hF41 81 (by decide) 5
  have w70 : dt39 79 2 = dt3 79 2 := hF41 79 (by decide) 2
  have w71 : dt39 79 12 = dt3 79 12 := hF41 79 (by decide) 12
  rcases h38 with ⟨v_h38, rfl, h38r, h38⟩
  have M272 : MW (dt39 81) := MW_frk M236 hF41 (by decide)
  refine go_toq PM267 (k := 2) (pc' := 1435) (L' := [some (.inr (.inr (some 3000))), some (.inr (.inr (some 0))), some (.inr (.inr (some 79))), some (.inl i)]) (st' := []) (w' := (SH, dt39)) rfl ?_
  exact K dt39 hI40 hM43 M272 (by first | omega | (simp only [*]; done) | simp only [*]) (by omega) (by omega) (by omega) (by omega) (by omega) (by omega) (by omega) (by omega) (by omega) (by omega) (by omega) (by omega) (by omega)
set_option maxRecDepth 20000 in
set_option maxHeartbeats 8000000 in
theorem sp_case30 (L : Nat) (xs : Nat → Int32) (sio : Option Nat) (d : Nat) (Q : Option AV → am_W → Prop) (hLL : L ≤ 3072) (i : Int) (hi : 0 ≤ i ∧ i ≤ 3066) (hil : i ≤ (L : Int) - 6) (dt : Nat → Nat → Int) (hI : InvC dt) (hM : MW (dt 80)) (hM2 : MW (dt 81)) (hk0 : dt 1 0 = dt 80 0) (hk1 : dt 7 3 = dt 80 1) (hk2 : dt 10 3 = dt 80 2) (hk3 : dt 12 3 = dt 80 3) (hk4 : dt 14 3 = dt 80 4) (hk5 : dt 16 3 = dt 80 5) (hk6 : dt 18 0 = dt 81 0) (hk7 : dt 24 3 = dt 81 1) (hk8 : dt 27 3 = dt 81 2) (hk9 : dt 29 3 = dt 81 3) (hk10 : dt 31 3 = dt 81 4) (hk11 : dt 33 3 = dt 81 5) (hk12 : dt 0 2 = dt 79 2) (hk13 : dt 35 1 = dt 79 12) (K : ∀ (dt : Nat → Nat → Int) (hI : InvC dt) (hM : MW (dt 80)) (hM2 : MW (dt 81)) (hk0 : dt 1 0 = dt 80 0) (hk1 : dt 7 3 = dt 80 1) (hk2 : dt 10 3 = dt 80 2) (hk3 : dt 12 3 = dt 80 3) (hk4 : dt 14 3 = dt 80 4) (hk5 : dt 16 3 = dt 80 5) (hk6 : dt 18 0 = dt 81 0) (hk7 : dt 24 3 = dt 81 1) (hk8 : dt 27 3 = dt 81 2) (hk9 : dt 29 3 = dt 81 3) (hk10 : dt 31 3 = dt 81 4) (hk11 : dt 33 3 = dt 81 5) (hk12 : dt 0 2 = dt 79 2) (hk13 : dt 35 1 = dt 79 12), GO (am_XX L xs sio) (d + 39) 267 1435 [some (.inr (.inr (some 3000))), some (.inr (.inr (some 0))), some (.inr (.inr (some 79))), some (.inl i)] [] (SH, dt) Q) : GO (am_XX L xs sio) (d + 39) 267 1310 [some (.inr (.inr (some 3000))), some (.inr (.inr (some 0))), some (.inr (.inr (some 79))), some (.inl i)] [] (SH, dt) Q := by
  have hF : Fr [0, 1, 2, 3, 4, 5, 6, 7, 8, 9, 10, 11, 12, 13, 14, 15, 16, 17, 18, 19, 20, 21, 22, 23, 24, 25, 26, 27, 28, 29, 30, 31, 32, 33, 34, 35, 36, 37, 38, 39, 40, 41, 42, 43, 44, 45, 46, 47, 48, 49, 50, 51, 52, 53, 54, 55, 56, 57, 58, 59, 60, 61, 62, 63, 64, 65, 66, 67, 68, 69, 70, 71, 72, 73, 74, 75, 76, 77, 78, 79, 80, 81, 82, 83, 84, 85, 86, 87, 88, 89, 90, 91, 92, 93, 94, 95, 96, 97, 98, 99, 100, 101, 102, 103, 104] dt dt := Fr_refl
  refine go_toq PM267 (k := 5) (pc' := 1315) (L' := [some (.inr (.inr (some 3000))), some (.inr (.inr (some 0))), some (.inr (.inr (some 79))), some (.inl i)]) (st' := [.inl (i + 1), .inr (.inr (some 3000)), .inr (.inr (some 0))]) (w' := (SH, dt)) rfl ?_
  have r1 := i32_R (xs ((i + 1).toNat))
  refine go_smpq PM267 (L' := [some (.inr (.inr (some 3000))), some (.inr (.inr (some 0))), some (.inr (.inr (some 79))), some (.inl i)]) (st' := [.inl ((xs ((i + 1).toNat)).toInt), .inr (.inr (some 0))]) (w' := (SH, dt)) rfl rfl (s_iald (n := L) (f := fun j => (xs j).toInt) (am_scr hLL) ⟨by omega, by omega⟩) ?_
  refine go_toq PM267 (k := 4) (pc' := 1320) (L' := [some (.inr (.inr (some 3000))), some (.inr (.inr (some 0))), some (.inr (.inr (some 79))), some (.inl i)]) (st' := [.inl (i + 2), .inr (.inr (some 3000)), .inl ((xs ((i + 1).toNat)).toInt), .inr (.inr (some 0))]) (w' := (SH, dt)) rfl ?_
  have r2 := i32_R (xs ((i + 2).toNat))
  refine go_smpq PM267 (L' := [some (.inr (.inr (some 3000))), some (.inr (.inr (some 0))), some (.inr (.inr (some 79))), some (.inl i)]) (st' := [.inl ((xs ((i + 2).toNat)).toInt), .inl ((xs ((i + 1).toNat)).toInt), .inr (.inr (some 0))]) (w' := (SH, dt)) rfl rfl (s_iald (n := L) (f := fun j => (xs j).toInt) (am_scr hLL) ⟨by omega, by omega⟩) ?_
  refine go_toq PM267 (k := 4) (pc' := 1325) (L' := [some (.inr (.inr (some 3000))), some (.inr (.inr (some 0))), some (.inr (.inr (some 79))), some (.inl i)]) (st' := [.inl (i + 3), .inr (.inr (some 3000)), .inl ((xs ((i + 2).toNat)).toInt), .inl ((xs ((i + 1).toNat)).toInt), .inr (.inr (some 0))]) (w' := (SH, dt)) rfl ?_
  have r3 := i32_R (xs ((i + 3).toNat))
  refine go_smpq PM267 (L' := [some (.inr (.inr (some 3000))), some (.inr (.inr (some 0))), some (.inr (.inr (some 79))), some (.inl i)]) (st' := [.inl ((xs ((i + 3).toNat)).toInt), .inl ((xs ((i + 2).toNat)).toInt), .inl ((xs ((i + 1).toNat)).toInt), .inr (.inr (some 0))]) (w' := (SH, dt)) rfl rfl (s_iald (n := L) (f := fun j => (xs j).toInt) (am_scr hLL) ⟨by omega, by omega⟩) ?_
  refine go_toq PM267 (k := 4) (pc' := 1330) (L' := [some (.inr (.inr (some 3000))), some (.inr (.inr (some 0))), some (.inr (.inr (some 79))), some (.inl i)]) (st' := [.inl (i + 4), .inr (.inr (some 3000)), .inl ((xs ((i + 3).toNat)).toInt), .inl ((xs ((i + 2).toNat)).toInt), .inl ((xs ((i + 1).toNat)).toInt), .inr (.inr (some 0))]) (w' := (SH, dt)) rfl ?_
  have r4 := i32_R (xs ((i + 4).toNat))
  refine go_smpq PM267 (L' := [some (.inr (.inr (some 3000))), some (.inr (.inr (some 0))), some (.inr (.inr (some 79))), some (.inl i)]) (st' := [.inl ((xs ((i + 4).toNat)).toInt), .inl ((xs ((i + 3).toNat)).toInt), .inl ((xs ((i + 2).toNat)).toInt), .inl ((xs ((i + 1).toNat)).toInt), .inr (.inr (some 0))]) (w' := (SH, dt)) rfl rfl (s_iald (n := L) (f := fun j => (xs j).toInt) (am_scr hLL) ⟨by omega, by omega⟩) ?_
  refine go_toq PM267 (k := 4) (pc' := 1335) (L' := [some (.inr (.inr (some 3000))), some (.inr (.inr (some 0))), some (.inr (.inr (some 79))), some (.inl i)]) (st' := [.inl (i + 5), .inr (.inr (some 3000)), .inl ((xs ((i + 4).toNat)).toInt), .inl ((xs ((i + 3).toNat)).toInt), .inl ((xs ((i + 2).toNat)).toInt), .inl ((xs ((i + 1).toNat)).toInt), .inr (.inr (some 0))]) (w' := (SH, dt)) rfl ?_
  have r5 := i32_R (xs ((i + 5).toNat))
  refine go_smpq PM267 (L' := [some (.inr (.inr (some 3000))), some (.inr (.inr (some 0))), some (.inr (.inr (some 79))), some (.inl i)]) (st' := [.inl ((xs ((i + 5).toNat)).toInt), .inl ((xs ((i + 4).toNat)).toInt), .inl ((xs ((i + 3).toNat)).toInt), .inl ((xs ((i + 2).toNat)).toInt), .inl ((xs ((i + 1).toNat)).toInt), .inr (.inr (some 0))]) (w' := (SH, dt)) rfl rfl (s_iald (n := L) (f := fun j => (xs j).toInt) (am_scr hLL) ⟨by omega, by omega⟩) ?_
  refine go_callq PM267 PM97 (Q' := _) rfl rfl rfl rfl (sp_X5_next L xs sio (d + 32) dt hI  ((xs ((i + 1).toNat)).toInt) ⟨by omega, by omega⟩ ((xs ((i + 2).toNat)).toInt) ⟨by omega, by omega⟩ ((xs ((i + 3).toNat)).toInt) ⟨by omega, by omega⟩ ((xs ((i + 4).toNat)).toInt) ⟨by omega, by omega⟩ ((xs ((i + 5).toNat)).toInt) ⟨by omega, by omega⟩ ) ?_
  rintro _ _ ⟨dt7, rfl, hI8, hF9, h6⟩
  refine ⟨rfl, ?_⟩
  have hF10 : Fr [0, 1, 2, 3, 4, 5, 6, 7, 8, 9, 10, 11, 12, 13, 14, 15, 16, 17, 18, 19, 20, 21, 22, 23, 24, 25, 26, 27, 28, 29, 30, 31, 32, 33, 34, 35, 36, 37, 38, 39, 40, 41, 42, 43, 44, 45, 46, 47, 48, 49, 50, 51, 52, 53, 54, 55, 56, 57, 58, 59, 60, 61, 62, 63, 64, 65, 66, 67, 68, 69, 70, 71, 72, 73, 74, 75, 76, 77, 78, 79, 80, 81, 82, 83, 84, 85, 86, 87, 88, 89, 90, 91, 92, 93, 94, 95, 96, 97, 98, 99, 100, 101, 102, 103, 104] dt dt7 := Fr_tr hF hF9 (by decide)
  have hM11 : MW (dt7 80) := MW_fr hM hF9 (by decide)
  have w12 : dt7 1 0 = dt 1 0 := hF9 1 (by decide) 0
  have w13 : dt7 7 3 = dt 7 3 := hF9 7 (by decide) 3
  have w14 : dt7 10 3 = dt 10 3 := hF9 10 (by decide) 3
  have w15 : dt7 12 3 = dt 12 3 := hF9 12 (by decide) 3
  have w16 : dt7 14 3 = dt 14 3 := hF9 14 (by decide) 3
  have w17 : dt7 16 3 = dt 16 3 := hF9 16 (by decide) 3
  have w18 : dt7 18 0 = dt 18 0 := hF9 18 (by decide) 0
  have w19 : dt7 24 3 = dt 24 3 := hF9 24 (by decide) 3
  have w20 : dt7 27 3 = dt 27 3 := hF9 27 (by decide) 3
  have w21 : dt7 29 3 = dt 29 3 := hF9 29 (by decide) 3
  have w22 : dt7 31 3 = dt 31 3 := hF9 31 (by decide) 3
  have w23 : dt7 33 3 = dt 33 3 := hF9 33 (by decide) 3
  have w24 : dt7 0 2 = dt 0 2 := hF9 0 (by decide) 2
  have w25 : dt7 35 1 = dt 35 1 := hF9 35 (by decide) 1
  have w26 : dt7 80 0 = dt 80 0 := hF9 80 (by decide) 0
  have w27 : dt7 80 1 = dt 80 1 := hF9 80 (by decide) 1
  have w28 : dt7 80 2 = dt 80 2 := hF9 80 (by decide) 2
  have w29 : dt7 80 3 = dt 80 3 := hF9 80 (by decide) 3
  have w30 : dt7 80 4 = dt 80 4 := hF9 80 (by decide) 4
  have w31 : dt7 80 5 = dt 80 5 := hF9 80 (by decide) 5
  have w32 : dt7 81 0 = dt 81 0 := hF9 81 (by decide) 0
  have w33 : dt7 81 1 = dt 81 1 := hF9 81 (by decide) 1
  have w34 : dt7 81 2 = dt 81 2 := hF9 81 (by decide) 2
  have w35 : dt7 81 3 = dt 81 3 := hF9 81 (by decide) 3
  have w36 : dt7 81 4 = dt 81 4 := hF9 81 (by decide) 4
  have w37 : dt7 81 5 = dt 81 5 := hF9 81 (by decide) 5
  have w38 : dt7 79 2 = dt 79 2 := hF9 79 (by decide) 2
  have w39 : dt7 79 12 = dt 79 12 := hF9 79 (by decide) 12
  rcases h6 with ⟨v_h6, rfl, h6r, h6⟩
  have M240 : MW (dt7 81) := MW_frk hM2 hF9 (by decide)
  refine go_toq PM267 (k := 6) (pc' := 1345) (L' := [some (.inr (.inr (some 3000))), some (.inr (.inr (some 0))), some (.inr (.inr (some 79))), some (.inl i)]) (st' := [.inl (i + 1), .inr (.inr (some 3000)), .inr (.inr (some 79))]) (w' := (SH, dt7)) rfl ?_
  have r41 := i32_R (xs ((i + 1).toNat))
  refine go_smpq PM267 (L' := [some (.inr (.inr (some 3000))), some (.inr (.inr (some 0))), some (.inr (.inr (some 79))), some (.inl i)]) (st' := [.inl ((xs ((i + 1).toNat)).toInt), .inr (.inr (some 79))]) (w' := (SH, dt7)) rfl rfl (s_iald (n := L) (f := fun j => (xs j).toInt) (am_scr hLL) ⟨by omega, by omega⟩) ?_
  refine go_toq PM267 (k := 4) (pc' := 1350) (L' := [some (.inr (.inr (some 3000))), some (.inr (.inr (some 0))), some (.inr (.inr (some 79))), some (.inl i)]) (st' := [.inl (i + 2), .inr (.inr (some 3000)), .inl ((xs ((i + 1).toNat)).toInt), .inr (.inr (some 79))]) (w' := (SH, dt7)) rfl ?_
  have r42 := i32_R (xs ((i + 2).toNat))
  refine go_smpq PM267 (L' := [some (.inr (.inr (some 3000))), some (.inr (.inr (some 0))), some (.inr (.inr (some 79))), some (.inl i)]) (st' := [.inl ((xs ((i + 2).toNat)).toInt), .inl ((xs ((i + 1).toNat)).toInt), .inr (.inr (some 79))]) (w' := (SH, dt7)) rfl rfl (s_iald (n := L) (f := fun j => (xs j).toInt) (am_scr hLL) ⟨by omega, by omega⟩) ?_
  refine go_toq PM267 (k := 4) (pc' := 1355) (L' := [some (.inr (.inr (some 3000))), some (.inr (.inr (some 0))), some (.inr (.inr (some 79))), some (.inl i)]) (st' := [.inl (i + 3), .inr (.inr (some 3000)), .inl ((xs ((i + 2).toNat)).toInt), .inl ((xs ((i + 1).toNat)).toInt), .inr (.inr (some 79))]) (w' := (SH, dt7)) rfl ?_
  have r43 := i32_R (xs ((i + 3).toNat))
  refine go_smpq PM267 (L' := [some (.inr (.inr (some 3000))), some (.inr (.inr (some 0))), some (.inr (.inr (some 79))), some (.inl i)]) (st' := [.inl ((xs ((i + 3).toNat)).toInt), .inl ((xs ((i + 2).toNat)).toInt), .inl ((xs ((i + 1).toNat)).toInt), .inr (.inr (some 79))]) (w' := (SH, dt7)) rfl rfl (s_iald (n := L) (f := fun j => (xs j).toInt) (am_scr hLL) ⟨by omega, by omega⟩) ?_
  refine go_toq PM267 (k := 4) (pc' := 1360) (L' := [some (.inr (.inr (some 3000))), some (.inr (.inr (some 0))), some (.inr (.inr (some 79))), some (.inl i)]) (st' := [.inl (i + 4), .inr (.inr (some 3000)), .inl ((xs ((i + 3).toNat)).toInt), .inl ((xs ((i + 2).toNat)).toInt), .inl ((xs ((i + 1).toNat)).toInt), .inr (.inr (some 79))]) (w' := (SH, dt7)) rfl ?_
  have r44 := i32_R (xs ((i + 4).toNat))
  refine go_smpq PM267 (L' := [some (.inr (.inr (some 3000))), some (.inr (.inr (some 0))), some (.inr (.inr (some 79))), some (.inl i)]) (st' := [.inl ((xs ((i + 4).toNat)).toInt), .inl ((xs ((i + 3).toNat)).toInt), .inl ((xs ((i + 2).toNat)).toInt), .inl ((xs ((i + 1).toNat)).toInt), .inr (.inr (some 79))]) (w' := (SH, dt7)) rfl rfl (s_iald (n := L) (f := fun j => (xs j).toInt) (am_scr hLL) ⟨by omega, by omega⟩) ?_
  refine go_toq PM267 (k := 4) (pc' := 1365) (L' := [some (.inr (.inr (some 3000))), some (.inr (.inr (some 0))), some (.inr (.inr (some 79))), some (.inl i)]) (st' := [.inl (i + 5), .inr (.inr (some 3000)), .inl ((xs ((i + 4).toNat)).toInt), .inl ((xs ((i + 3).toNat)).toInt), .inl ((xs ((i + 2).toNat)).toInt), .inl ((xs ((i + 1).toNat)).toInt), .inr (.inr (some 79))]) (w' := (SH, dt7)) rfl ?_
  have r45 := i32_R (xs ((i + 5).toNat))
  refine go_smpq PM267 (L' := [some (.inr (.inr (some 3000))), some (.inr (.inr (some 0))), some (.inr (.inr (some 79))), some (.inl i)]) (st' := [.inl ((xs ((i + 5).toNat)).toInt), .inl ((xs ((i + 4).toNat)).toInt), .inl ((xs ((i + 3).toNat)).toInt), .inl ((xs ((i + 2).toNat)).toInt), .inl ((xs ((i + 1).toNat)).toInt), .inr (.inr (some 79))]) (w' := (SH, dt7)) rfl rfl (s_iald (n := L) (f := fun j => (xs j).toInt) (am_scr hLL) ⟨by omega, by omega⟩) ?_
  refine go_callq PM267 PM246 (Q' := _) rfl rfl rfl rfl (sp_X6_next L xs sio (d + 31) dt7 hI8 hM11  ((xs ((i + 1).toNat)).toInt) ⟨by omega, by omega⟩ ((xs ((i + 2).toNat)).toInt) ⟨by omega, by omega⟩ ((xs ((i + 3).toNat)).toInt) ⟨by omega, by omega⟩ ((xs ((i + 4).toNat)).toInt) ⟨by omega, by omega⟩ ((xs ((i + 5).toNat)).toInt) ⟨by omega, by omega⟩ ) ?_
  rintro _ _ ⟨dt47, rfl, hI48, hF49, h46⟩
  refine ⟨rfl, ?_⟩
  have hF50 : Fr [0, 1, 2, 3, 4, 5, 6, 7, 8, 9, 10, 11, 12, 13, 14, 15, 16, 17, 18, 19, 20, 21, 22, 23, 24, 25, 26, 27, 28, 29, 30, 31, 32, 33, 34, 35, 36, 37, 38, 39, 40, 41, 42, 43, 44, 45, 46, 47, 48, 49, 50, 51, 52, 53, 54, 55, 56, 57, 58, 59, 60, 61, 62, 63, 64, 65, 66, 67, 68, 69, 70, 71, 72, 73, 74, 75, 76, 77, 78, 79, 80, 81, 82, 83, 84, 85, 86, 87, 88, 89, 90, 91, 92, 93, 94, 95, 96, 97, 98, 99, 100, 101, 102, 103, 104] dt dt47 := Fr_tr hF10 hF49 (by decide)
  have hM51 : MW (dt47 80) := MW_fr hM11 hF49 (by decide)
  have w52 : dt47 1 0 = dt7 1 0 := hF49 1 (by decide) 0
  have w53 : dt47 7 3 = dt7 7 3 := hF49 7 (by decide) 3
  have w54 : dt47 10 3 = dt7 10 3 := hF49 10 (by decide) 3
  have w55 : dt47 12 3 = dt7 12 3 := hF49 12 (by decide) 3
  have w56 : dt47 14 3 = dt7 14 3 := hF49 14 (by decide) 3
  have w57 : dt47 16 3 = dt7 16 3 := hF49 16 (by decide) 3
  have w58 : dt47 18 0 = dt7 18 0 := hF49 18 (by decide) 0
  have w59 : dt47 24 3 = dt7 24 3 := hF49 24 (by decide) 3
  have w60 : dt47 27 3 = dt7 27 3 := hF49 27 (by decide) 3
  have w61 : dt47 29 3 = dt7 29 3 := hF49 29 (by decide) 3
  have w62 : dt47 31 3 = dt7 31 3 := hF49 31 (by decide) 3
  have w63 : dt47 33 3 = dt7 33 3 := hF49 33 (by decide) 3
  have w64 : dt47 0 2 = dt7 0 2 := hF49 0 (by decide) 2
  have w65 : dt47 35 1 = dt7 35 1 := hF49 35 (by decide) 1
  have w66 : dt47 80 0 = dt7 80 0 := hF49 80 (by decide) 0
  have w67 : dt47 80 1 = dt7 80 1 := hF49 80 (by decide) 1
  have w68 : dt47 80 2 = dt7 80 2 := hF49 80 (by decide) 2
  have w69 : dt47 80 3 = dt7 80 3 := hF49 80 (by decide) 3
  have w70 : dt47 80 4 = dt7 80 4 := hF49 80 (by decide) 4
  have w71 : dt47 80 5 = dt7 80 5 := hF49 80 (by decide) 5
  have w72 : dt47 81 0 = dt7 81 0 := hF49 81 (by decide) 0
  have w73 : dt47 81 1 = dt7 81 1 := hF49 81 (by decide) 1
  have w74 : dt47 81 2 = dt7 81 2 := hF49 81 (by decide) 2
  have w75 : dt47 81 3 = dt7 81 3 := hF49 81 (by decide) 3
  have w76 : dt47 81 4 = dt7 81 4 := hF49 81 (by decide) 4
  have w77 : dt47 81 5 = dt7 81 5 := hF49 81 (by decide) 5
  have w78 : dt47 79 2 = dt7 79 2 := hF49 79 (by decide) 2
  have w79 : dt47 79 12 = dt7 79 12 := hF49 79 (by decide) 12
  rcases h46 with ⟨v_h46, rfl, h46r, h46⟩
  have M280 : MW (dt47 81) := MW_frk M240 hF49 (by decide)
  refine go_toq PM267 (k := 2) (pc' := 1435) (L' := [some (.inr (.inr (some 3000))), some (.inr (.inr (some 0))), some (.inr (.inr (some 79))), some (.inl i)]) (st' := []) (w' := (SH, dt47)) rfl ?_
  exact K dt47 hI48 hM51 M280 (by first | omega | (simp only [*]; done) | simp only [*]) (by omega) (by omega) (by omega) (by omega) (by omega) (by omega) (by omega) (by omega) (by omega) (by omega) (by omega) (by omega) (by omega)
set_option maxRecDepth 20000 in
set_option maxHeartbeats 8000000 in
theorem sp_case31 (L : Nat) (xs : Nat → Int32) (sio : Option Nat) (d : Nat) (Q : Option AV → am_W → Prop) (hLL : L ≤ 3072) (i : Int) (hi : 0 ≤ i ∧ i ≤ 3066) (hil : i ≤ (L : Int) - 6) (dt : Nat → Nat → Int) (hI : InvC dt) (hM : MW (dt 80)) (hM2 : MW (dt 81)) (hk0 : dt 1 0 = dt 80 0) (hk1 : dt 7 3 = dt 80 1) (hk2 : dt 10 3 = dt 80 2) (hk3 : dt 12 3 = dt 80 3) (hk4 : dt 14 3 = dt 80 4) (hk5 : dt 16 3 = dt 80 5) (hk6 : dt 18 0 = dt 81 0) (hk7 : dt 24 3 = dt 81 1) (hk8 : dt 27 3 = dt 81 2) (hk9 : dt 29 3 = dt 81 3) (hk10 : dt 31 3 = dt 81 4) (hk11 : dt 33 3 = dt 81 5) (hk12 : dt 0 2 = dt 79 2) (hk13 : dt 35 1 = dt 79 12) (K : ∀ (dt : Nat → Nat → Int) (hI : InvC dt) (hM : MW (dt 80)) (hM2 : MW (dt 81)) (hk0 : dt 1 0 = dt 80 0) (hk1 : dt 7 3 = dt 80 1) (hk2 : dt 10 3 = dt 80 2) (hk3 : dt 12 3 = dt 80 3) (hk4 : dt 14 3 = dt 80 4) (hk5 : dt 16 3 = dt 80 5) (hk6 : dt 18 0 = dt 81 0) (hk7 : dt 24 3 = dt 81 1) (hk8 : dt 27 3 = dt 81 2) (hk9 : dt 29 3 = dt 81 3) (hk10 : dt 31 3 = dt 81 4) (hk11 : dt 33 3 = dt 81 5) (hk12 : dt 0 2 = dt 79 2) (hk13 : dt 35 1 = dt 79 12), GO (am_XX L xs sio) (d + 39) 267 1435 [some (.inr (.inr (some 3000))), some (.inr (.inr (some 0))), some (.inr (.inr (some 79))), some (.inl i)] [] (SH, dt) Q) : GO (am_XX L xs sio) (d + 39) 267 1373 [some (.inr (.inr (some 3000))), some (.inr (.inr (some 0))), some (.inr (.inr (some 79))), some (.inl i)] [] (SH, dt) Q := by
  have hF : Fr [0, 1, 2, 3, 4, 5, 6, 7, 8, 9, 10, 11, 12, 13, 14, 15, 16, 17, 18, 19, 20, 21, 22, 23, 24, 25, 26, 27, 28, 29, 30, 31, 32, 33, 34, 35, 36, 37, 38, 39, 40, 41, 42, 43, 44, 45, 46, 47, 48, 49, 50, 51, 52, 53, 54, 55, 56, 57, 58, 59, 60, 61, 62, 63, 64, 65, 66, 67, 68, 69, 70, 71, 72, 73, 74, 75, 76, 77, 78, 79, 80, 81, 82, 83, 84, 85, 86, 87, 88, 89, 90, 91, 92, 93, 94, 95, 96, 97, 98, 99, 100, 101, 102, 103, 104] dt dt := Fr_refl
  refine go_toq PM267 (k := 5) (pc' := 1378) (L' := [some (.inr (.inr (some 3000))), some (.inr (.inr (some 0))), some (.inr (.inr (some 79))), some (.inl i)]) (st' := [.inl (i + 1), .inr (.inr (some 3000)), .inr (.inr (some 0))]) (w' := (SH, dt)) rfl ?_
  have r1 := i32_R (xs ((i + 1).toNat))
  refine go_smpq PM267 (L' := [some (.inr (.inr (some 3000))), some (.inr (.inr (some 0))), some (.inr (.inr (some 79))), some (.inl i)]) (st' := [.inl ((xs ((i + 1).toNat)).toInt), .inr (.inr (some 0))]) (w' := (SH, dt)) rfl rfl (s_iald (n := L) (f := fun j => (xs j).toInt) (am_scr hLL) ⟨by omega, by omega⟩) ?_
  refine go_ifq PM267 (k := 0) (p1 := 1386) (p2 := 1382) (L' := [some (.inr (.inr (some 3000))), some (.inr (.inr (some 0))), some (.inr (.inr (some 79))), some (.inl i)]) (st' := [.inr (.inr (some 0))]) (w' := (SH, dt)) rfl (z_eq (a := (xs ((i + 1).toNat)).toInt) ⟨by omega, by omega⟩) (fun c2 => ?_) (fun c2 => ?_)
  · skip
    refine go_toq PM267 (k := 1) (pc' := 1387) (L' := [some (.inr (.inr (some 3000))), some (.inr (.inr (some 0))), some (.inr (.inr (some 79))), some (.inl i)]) (st' := [.inl 0, .inr (.inr (some 0))]) (w' := (SH, dt)) rfl ?_
    refine go_callq PM267 PM98 (Q' := _) rfl rfl rfl rfl (sp_X5_image L xs sio (d + 35) dt hI  0 ⟨by decide, by decide⟩ ) ?_
    rintro _ _ ⟨dt4, rfl, hI5, hF6, h3⟩
    refine ⟨rfl, ?_⟩
    have hF7 : Fr [0, 1, 2, 3, 4, 5, 6, 7, 8, 9, 10, 11, 12, 13, 14, 15, 16, 17, 18, 19, 20, 21, 22, 23, 24, 25, 26, 27, 28, 29, 30, 31, 32, 33, 34, 35, 36, 37, 38, 39, 40, 41, 42, 43, 44, 45, 46, 47, 48, 49, 50, 51, 52, 53, 54, 55, 56, 57, 58, 59, 60, 61, 62, 63, 64, 65, 66, 67, 68, 69, 70, 71, 72, 73, 74, 75, 76, 77, 78, 79, 80, 81, 82, 83, 84, 85, 86, 87, 88, 89, 90, 91, 92, 93, 94, 95, 96, 97, 98, 99, 100, 101, 102, 103, 104] dt dt4 := Fr_tr hF hF6 (by decide)
    have hM8 : MW (dt4 80) := MW_fr hM hF6 (by decide)
    have w9 : dt4 35 1 = dt 35 1 := hF6 35 (by decide) 1
    have w10 : dt4 80 0 = dt 80 0 := hF6 80 (by decide) 0
    have w11 : dt4 80 1 = dt 80 1 := hF6 80 (by decide) 1
    have w12 : dt4 80 2 = dt 80 2 := hF6 80 (by decide) 2
    have w13 : dt4 80 3 = dt 80 3 := hF6 80 (by decide) 3
    have w14 : dt4 80 4 = dt 80 4 := hF6 80 (by decide) 4
    have w15 : dt4 80 5 = dt 80 5 := hF6 80 (by decide) 5
    have w16 : dt4 81 0 = dt 81 0 := hF6 81 (by decide) 0
    have w17 : dt4 81 1 = dt 81 1 := hF6 81 (by decide) 1
    have w18 : dt4 81 2 = dt 81 2 := hF6 81 (by decide) 2
    have w19 : dt4 81 3 = dt 81 3 := hF6 81 (by decide) 3
    have w20 : dt4 81 4 = dt 81 4 := hF6 81 (by decide) 4
    have w21 : dt4 81 5 = dt 81 5 := hF6 81 (by decide) 5
    have w22 : dt4 79 2 = dt 79 2 := hF6 79 (by decide) 2
    have w23 : dt4 79 12 = dt 79 12 := hF6 79 (by decide) 12
    rcases h3 with ⟨v_h3, rfl, h3r, h3⟩ | ⟨v_h3, rfl, h3r, h3⟩ | ⟨v_h3, rfl, h3r, h3⟩
    · skip
      obtain ⟨h3_0, h3_1, h3_2, h3_3, h3_4, h3_5, h3_6, h3_7, h3_8, h3_9, h3_10, h3_11, h3_12, h3_13, h3_14⟩ := h3
      have M224 : MW (dt4 81) := MW_frk hM2 hF6 (by decide)
      refine go_toq PM267 (k := 6) (pc' := 1396) (L' := [some (.inr (.inr (some 3000))), some (.inr (.inr (some 0))), some (.inr (.inr (some 79))), some (.inl i)]) (st' := [.inl (i + 1), .inr (.inr (some 3000)), .inr (.inr (some 79))]) (w' := (SH, dt4)) rfl ?_
      have r25 := i32_R (xs ((i + 1).toNat))
      refine go_smpq PM267 (L' := [some (.inr (.inr (some 3000))), some (.inr (.inr (some 0))), some (.inr (.inr (some 79))), some (.inl i)]) (st' := [.inl ((xs ((i + 1).toNat)).toInt), .inr (.inr (some 79))]) (w' := (SH, dt4)) rfl rfl (s_iald (n := L) (f := fun j => (xs j).toInt) (am_scr hLL) ⟨by omega, by omega⟩) ?_
      refine go_ifq PM267 (k := 0) (p1 := 1404) (p2 := 1400) (L' := [some (.inr (.inr (some 3000))), some (.inr (.inr (some 0))), some (.inr (.inr (some 79))), some (.inl i)]) (st' := [.inr (.inr (some 79))]) (w' := (SH, dt4)) rfl (z_eq (a := (xs ((i + 1).toNat)).toInt) ⟨by omega, by omega⟩) (fun c26 => ?_) (fun c26 => ?_)
      · skip
        refine go_toq PM267 (k := 1) (pc' := 1405) (L' := [some (.inr (.inr (some 3000))), some (.inr (.inr (some 0))), some (.inr (.inr (some 79))), some (.inl i)]) (st' := [.inl 0, .inr (.inr (some 79))]) (w' := (SH, dt4)) rfl ?_
        refine go_callq PM267 PM247 (Q' := _) rfl rfl rfl rfl (sp_X6_image_0k L xs sio (d + 38) dt4 hI5 hM8   (by first | exact True.intro | with_reducible assumption | rfl | omega | trivial | exact M224)) ?_
        rintro _ _ ⟨dt28, rfl, hI29, hF30, h27⟩
        refine ⟨rfl, ?_⟩
        have hF31 : Fr [0, 1, 2, 3, 4, 5, 6, 7, 8, 9, 10, 11, 12, 13, 14, 15, 16, 17, 18, 19, 20, 21, 22, 23, 24, 25, 26, 27, 28, 29, 30, 31, 32, 33, 34, 35, 36, 37, 38, 39, 40, 41, 42, 43, 44, 45, 46, 47, 48, 49, 50, 51, 52, 53, 54, 55, 56, 57, 58, 59, 60, 61, 62, 63, 64, 65, 66, 67, 68, 69, 70, 71, 72, 73, 74, 75, 76, 77, 78, 79, 80, 81, 82, 83, 84, 85, 86, 87, 88, 89, 90, 91, 92, 93, 94, 95, 96, 97, 98, 99, 100, 101, 102, 103, 104] dt dt28 := Fr_tr hF7 hF30 (by decide)
        have w32 : dt28 1 0 = dt4 1 0 := hF30 1 (by decide) 0
        have w33 : dt28 7 3 = dt4 7 3 := hF30 7 (by decide) 3
        have w34 : dt28 10 3 = dt4 10 3 := hF30 10 (by decide) 3
        have w35 : dt28 12 3 = dt4 12 3 := hF30 12 (by decide) 3
        have w36 : dt28 14 3 = dt4 14 3 := hF30 14 (by decide) 3
        have w37 : dt28 16 3 = dt4 16 3 := hF30 16 (by decide) 3
        have w38 : dt28 18 0 = dt4 18 0 := hF30 18 (by decide) 0
        have w39 : dt28 24 3 = dt4 24 3 := hF30 24 (by decide) 3
        have w40 : dt28 27 3 = dt4 27 3 := hF30 27 (by decide) 3
        have w41 : dt28 29 3 = dt4 29 3 := hF30 29 (by decide) 3
        have w42 : dt28 31 3 = dt4 31 3 := hF30 31 (by decide) 3
        have w43 : dt28 33 3 = dt4 33 3 := hF30 33 (by decide) 3
        have w44 : dt28 0 2 = dt4 0 2 := hF30 0 (by decide) 2
        have w45 : dt28 35 1 = dt4 35 1 := hF30 35 (by decide) 1
        have w46 : dt28 81 0 = dt4 81 0 := hF30 81 (by decide) 0
        have w47 : dt28 81 1 = dt4 81 1 := hF30 81 (by decide) 1
        have w48 : dt28 81 2 = dt4 81 2 := hF30 81 (by decide) 2
        have w49 : dt28 81 3 = dt4 81 3 := hF30 81 (by decide) 3
        have w50 : dt28 81 4 = dt4 81 4 := hF30 81 (by decide) 4
        have w51 : dt28 81 5 = dt4 81 5 := hF30 81 (by decide) 5
        rcases h27 with ⟨rfl, h27⟩ | ⟨rfl, h27⟩
        · skip
          have hM52 : MW (dt28 80) := h27.2.2.1
          obtain ⟨h27_0, h27_1, h27_2, h27_3, h27_4, h27_5, h27_6⟩ := h27
          have M253 : MW (dt28 81) := MW_frk M224 hF30 (by decide)
          have y54 := h27_4 0 (by decide)
          have y55 := h27_4 1 (by decide)
          have y56 := h27_4 2 (by decide)
          have y57 := h27_4 3 (by decide)
          have y58 := h27_4 4 (by decide)
          have y59 := h27_4 5 (by decide)
          have y60 := h27_5 0 (by decide)
          have y61 := h27_5 1 (by decide)
          have y62 := h27_5 2 (by decide)
          have y63 := h27_5 3 (by decide)
          have y64 := h27_5 4 (by decide)
          have y65 := h27_5 5 (by decide)
          refine go_toq PM267 (k := 2) (pc' := 1435) (L' := [some (.inr (.inr (some 3000))), some (.inr (.inr (some 0))), some (.inr (.inr (some 79))), some (.inl i)]) (st' := []) (w' := (SH, dt28)) rfl ?_
          exact K dt28 hI29 hM52 M253 (by first | omega | (simp only [*]; done) | simp only [*]) (by omega) (by omega) (by omega) (by omega) (by omega) (by omega) (by omega) (by omega) (by omega) (by omega) (by omega) (by omega) (by omega)
        · skip
          have hM66 : MW (dt28 80) := h27.2.2.1
          obtain ⟨h27_0, h27_1, h27_2, h27_3, h27_4, h27_5, h27_6⟩ := h27
          have M267 : MW (dt28 81) := MW_frk M224 hF30 (by decide)
          have y68 := h27_4 0 (by decide)
          have y69 := h27_4 1 (by decide)
          have y70 := h27_4 2 (by decide)
          have y71 := h27_4 3 (by decide)
          have y72 := h27_4 4 (by decide)
          have y73 := h27_4 5 (by decide)
          have y74 := h27_5 0 (by decide)
          have y75 := h27_5 1 (by decide)
          have y76 := h27_5 2 (by decide)
          have y77 := h27_5 3 (by decide)
          have y78 := h27_5 4 (by decide)
          have y79 := h27_5 5 (by decide)
          refine go_toq PM267 (k := 2) (pc' := 1435) (L' := [some (.inr (.inr (some 3000))), some (.inr (.inr (some 0))), some (.inr (.inr (some 79))), some (.inl i)]) (st' := []) (w' := (SH, dt28)) rfl ?_
          exact K dt28 hI29 hM66 M267 (by first | omega | (simp only [*]; done) | simp only [*]) (by omega) (by omega) (by omega) (by omega) (by omega) (by omega) (by omega) (by omega) (by omega) (by omega) (by omega) (by omega) (by omega)
      · skip
        refine go_toq PM267 (k := 2) (pc' := 1405) (L' := [some (.inr (.inr (some 3000))), some (.inr (.inr (some 0))), some (.inr (.inr (some 79))), some (.inl i)]) (st' := [.inl 1, .inr (.inr (some 79))]) (w' := (SH, dt4)) rfl ?_
        refine go_callq PM267 PM247 (Q' := _) rfl rfl rfl rfl (sp_X6_image_1k L xs sio (d + 38) dt4 hI5 hM8   ) ?_
        rintro _ _ ⟨dt81, rfl, hI82, hF83, h80⟩
        refine ⟨rfl, ?_⟩
        have hF84 : Fr [0, 1, 2, 3, 4, 5, 6, 7, 8, 9, 10, 11, 12, 13, 14, 15, 16, 17, 18, 19, 20, 21, 22, 23, 24, 25, 26, 27, 28, 29, 30, 31, 32, 33, 34, 35, 36, 37, 38, 39, 40, 41, 42, 43, 44, 45, 46, 47, 48, 49, 50, 51, 52, 53, 54, 55, 56, 57, 58, 59, 60, 61, 62, 63, 64, 65, 66, 67, 68, 69, 70, 71, 72, 73, 74, 75, 76, 77, 78, 79, 80, 81, 82, 83, 84, 85, 86, 87, 88, 89, 90, 91, 92, 93, 94, 95, 96, 97, 98, 99, 100, 101, 102, 103, 104] dt dt81 := Fr_tr hF7 hF83 (by decide)
        have hM85 : MW (dt81 80) := MW_fr hM8 hF83 (by decide)
        have w86 : dt81 1 0 = dt4 1 0 := hF83 1 (by decide) 0
        have w87 : dt81 7 3 = dt4 7 3 := hF83 7 (by decide) 3
        have w88 : dt81 10 3 = dt4 10 3 := hF83 10 (by decide) 3
        have w89 : dt81 12 3 = dt4 12 3 := hF83 12 (by decide) 3
        have w90 : dt81 14 3 = dt4 14 3 := hF83 14 (by decide) 3
        have w91 : dt81 16 3 = dt4 16 3 := hF83 16 (by decide) 3
        have w92 : dt81 18 0 = dt4 18 0 := hF83 18 (by decide) 0
        have w93 : dt81 24 3 = dt4 24 3 := hF83 24 (by decide) 3
        have w94 : dt81 27 3 = dt4 27 3 := hF83 27 (by decide) 3
        have w95 : dt81 29 3 = dt4 29 3 := hF83 29 (by decide) 3
        have w96 : dt81 31 3 = dt4 31 3 := hF83 31 (by decide) 3
        have w97 : dt81 33 3 = dt4 33 3 := hF83 33 (by decide) 3
        have w98 : dt81 0 2 = dt4 0 2 := hF83 0 (by decide) 2
        have w99 : dt81 35 1 = dt4 35 1 := hF83 35 (by decide) 1
        have w100 : dt81 80 0 = dt4 80 0 := hF83 80 (by decide) 0
        have w101 : dt81 80 1 = dt4 80 1 := hF83 80 (by decide) 1
        have w102 : dt81 80 2 = dt4 80 2 := hF83 80 (by decide) 2
        have w103 : dt81 80 3 = dt4 80 3 := hF83 80 (by decide) 3
        have w104 : dt81 80 4 = dt4 80 4 := hF83 80 (by decide) 4
        have w105 : dt81 80 5 = dt4 80 5 := hF83 80 (by decide) 5
        rcases h80 with ⟨rfl, h80⟩
        have hM106 : MW (dt81 80) := h80.2.1
        obtain ⟨h80_0, h80_1, h80_2, h80_3, h80_4, h80_5⟩ := h80
        have y107 := h80_3 0 (by decide)
        have y108 := h80_3 1 (by decide)
        have y109 := h80_3 2 (by decide)
        have y110 := h80_3 3 (by decide)
        have y111 := h80_3 4 (by decide)
        have y112 := h80_3 5 (by decide)
        have y113 := h80_4 0 (by decide)
        have y114 := h80_4 1 (by decide)
        have y115 := h80_4 2 (by decide)
        have y116 := h80_4 3 (by decide)
        have y117 := h80_4 4 (by decide)
        have y118 := h80_4 5 (by decide)
        refine go_toq PM267 (k := 2) (pc' := 1435) (L' := [some (.inr (.inr (some 3000))), some (.inr (.inr (some 0))), some (.inr (.inr (some 79))), some (.inl i)]) (st' := []) (w' := (SH, dt81)) rfl ?_
        exact K dt81 hI82 hM106 h80_2 (by first | omega | (simp only [*]; done) | simp only [*]) (by omega) (by omega) (by omega) (by omega) (by omega) (by omega) (by omega) (by omega) (by omega) (by omega) (by omega) (by omega) (by omega)
    · skip
      obtain ⟨h3_0, h3_1, h3_2, h3_3, h3_4, h3_5, h3_6, h3_7, h3_8, h3_9, h3_10, h3_11, h3_12, h3_13, h3_14, h3_15⟩ := h3
      have M2119 : MW (dt4 81) := MW_frk hM2 hF6 (by decide)
      refine go_toq PM267 (k := 6) (pc' := 1396) (L' := [some (.inr (.inr (some 3000))), some (.inr (.inr (some 0))), some (.inr (.inr (some 79))), some (.inl i)]) (st' := [.inl (i + 1), .inr (.inr (some 3000)), .inr (.inr (some 79))]) (w' := (SH, dt4)) rfl ?_
      have r120 := i32_R (xs ((i + 1).toNat))
      refine go_smpq PM267 (L' := [some (.inr (.inr (some 3000))), some (.inr (.inr (some 0))), some (.inr (.inr (some 79))), some (.inl i)]) (st' := [.inl ((xs ((i + 1).toNat)).toInt), .inr (.inr (some 79))]) (w' := (SH, dt4)) rfl rfl (s_iald (n := L) (f := fun j => (xs j).toInt) (am_scr hLL) ⟨by omega, by omega⟩) ?_
      refine go_ifq PM267 (k := 0) (p1 := 1404) (p2 := 1400) (L' := [some (.inr (.inr (some 3000))), some (.inr (.inr (some 0))), some (.inr (.inr (some 79))), some (.inl i)]) (st' := [.inr (.inr (some 79))]) (w' := (SH, dt4)) rfl (z_eq (a := (xs ((i + 1).toNat)).toInt) ⟨by omega, by omega⟩) (fun c121 => ?_) (fun c121 => ?_)
      · skip
        refine go_toq PM267 (k := 1) (pc' := 1405) (L' := [some (.inr (.inr (some 3000))), some (.inr (.inr (some 0))), some (.inr (.inr (some 79))), some (.inl i)]) (st' := [.inl 0, .inr (.inr (some 79))]) (w' := (SH, dt4)) rfl ?_
        refine go_callq PM267 PM247 (Q' := _) rfl rfl rfl rfl (sp_X6_image_0k L xs sio (d + 38) dt4 hI5 hM8   (by first | exact True.intro | with_reducible assumption | rfl | omega | trivial | exact M2119)) ?_
        rintro _ _ ⟨dt123, rfl, hI124, hF125, h122⟩
        refine ⟨rfl, ?_⟩
        have hF126 : Fr [0, 1, 2, 3, 4, 5, 6, 7, 8, 9, 10, 11, 12, 13, 14, 15, 16, 17, 18, 19, 20, 21, 22, 23, 24, 25, 26, 27, 28, 29, 30, 31, 32, 33, 34, 35, 36, 37, 38, 39, 40, 41, 42, 43, 44, 45, 46, 47, 48, 49, 50, 51, 52, 53, 54, 55, 56, 57, 58, 59, 60, 61, 62, 63, 64, 65, 66, 67, 68, 69, 70, 71, 72, 73, 74, 75, 76, 77, 78, 79, 80, 81, 82, 83, 84, 85, 86, 87, 88, 89, 90, 91, 92, 93, 94, 95, 96, 97, 98, 99, 100, 101, 102, 103, 104] dt dt123 := Fr_tr hF7 hF125 (by decide)
        have w127 : dt123 1 0 = dt4 1 0 := hF125 1 (by decide) 0
        have w128 : dt123 7 3 = dt4 7 3 := hF125 7 (by decide) 3
        have w129 : dt123 10 3 = dt4 10 3 := hF125 10 (by decide) 3
        have w130 : dt123 12 3 = dt4 12 3 := hF125 12 (by decide) 3
        have w131 : dt123 14 3 = dt4 14 3 := hF125 14 (by decide) 3
        have w132 : dt123 16 3 = dt4 16 3 := hF125 16 (by decide) 3
        have w133 : dt123 18 0 = dt4 18 0 := hF125 18 (by decide) 0
        have w134 : dt123 24 3 = dt4 24 3 := hF125 24 (by decide) 3
        have w135 : dt123 27 3 = dt4 27 3 := hF125 27 (by decide) 3
        have w136 : dt123 29 3 = dt4 29 3 := hF125 29 (by decide) 3
        have w137 : dt123 31 3 = dt4 31 3 := hF125 31 (by decide) 3
        have w138 : dt123 33 3 = dt4 33 3 := hF125 33 (by decide) 3
        have w139 : dt123 0 2 = dt4 0 2 := hF125 0 (by decide) 2
        have w140 : dt123 35 1 = dt4 35 1 := hF125 35 (by decide) 1
        have w141 : dt123 81 0 = dt4 81 0 := hF125 81 (by decide) 0
        have w142 : dt123 81 1 = dt4 81 1 := hF125 81 (by decide) 1
        have w143 : dt123 81 2 = dt4 81 2 := hF125 81 (by decide) 2
        have w144 : dt123 81 3 = dt4 81 3 := hF125 81 (by decide) 3
        have w145 : dt123 81 4 = dt4 81 4 := hF125 81 (by decide) 4
        have w146 : dt123 81 5 = dt4 81 5 := hF125 81 (by decide) 5
        rcases h122 with ⟨rfl, h122⟩ | ⟨rfl, h122⟩
        · skip
          have hM147 : MW (dt123 80) := h122.2.2.1
          obtain ⟨h122_0, h122_1, h122_2, h122_3, h122_4, h122_5, h122_6⟩ := h122
          have M2148 : MW (dt123 81) := MW_frk M2119 hF125 (by decide)
          have y149 := h122_4 0 (by decide)
          have y150 := h122_4 1 (by decide)
          have y151 := h122_4 2 (by decide)
          have y152 := h122_4 3 (by decide)
          have y153 := h122_4 4 (by decide)
          have y154 := h122_4 5 (by decide)
          have y155 := h122_5 0 (by decide)
          have y156 := h122_5 1 (by decide)
          have y157 := h122_5 2 (by decide)
          have y158 := h122_5 3 (by decide)
          have y159 := h122_5 4 (by decide)
          have y160 := h122_5 5 (by decide)
          refine go_toq PM267 (k := 2) (pc' := 1435) (L' := [some (.inr (.inr (some 3000))), some (.inr (.inr (some 0))), some (.inr (.inr (some 79))), some (.inl i)]) (st' := []) (w' := (SH, dt123)) rfl ?_
          exact K dt123 hI124 hM147 M2148 (by first | omega | (simp only [*]; done) | simp only [*]) (by omega) (by omega) (by omega) (by omega) (by omega) (by omega) (by omega) (by omega) (by omega) (by omega) (by omega) (by omega) (by omega)
        · skip
          have hM161 : MW (dt123 80) := h122.2.2.1
          obtain ⟨h122_0, h122_1, h122_2, h122_3, h122_4, h122_5, h122_6⟩ := h122
          have M2162 : MW (dt123 81) := MW_frk M2119 hF125 (by decide)
          have y163 := h122_4 0 (by decide)
          have y164 := h122_4 1 (by decide)
          have y165 := h122_4 2 (by decide)
          have y166 := h122_4 3 (by decide)
          have y167 := h122_4 4 (by decide)
          have y168 := h122_4 5 (by decide)
          have y169 := h122_5 0 (by decide)
          have y170 := h122_5 1 (by decide)
          have y171 := h122_5 2 (by decide)
          have y172 := h122_5 3 (by decide)
          have y173 := h122_5 4 (by decide)
          have y174 := h122_5 5 (by decide)
          refine go_toq PM267 (k := 2) (pc' := 1435) (L' := [some (.inr (.inr (some 3000))), some (.inr (.inr (some 0))), some (.inr (.inr (some 79))), some (.inl i)]) (st' := []) (w' := (SH, dt123)) rfl ?_
          exact K dt123 hI124 hM161 M2162 (by first | omega | (simp only [*]; done) | simp only [*]) (by omega) (by omega) (by omega) (by omega) (by omega) (by omega) (by omega) (by omega) (by omega) (by omega) (by omega) (by omega) (by omega)
      · skip
        refine go_toq PM267 (k := 2) (pc' := 1405) (L' := [some (.inr (.inr (some 3000))), some (.inr (.inr (some 0))), some (.inr (.inr (some 79))), some (.inl i)]) (st' := [.inl 1, .inr (.inr (some 79))]) (w' := (SH, dt4)) rfl ?_
        refine go_callq PM267 PM247 (Q' := _) rfl rfl rfl rfl (sp_X6_image_1k L xs sio (d + 38) dt4 hI5 hM8   ) ?_
        rintro _ _ ⟨dt176, rfl, hI177, hF178, h175⟩
        refine ⟨rfl, ?_⟩
        have hF179 : Fr [0, 1, 2, 3, 4, 5, 6, 7, 8, 9, 10, 11, 12, 13, 14, 15, 16, 17, 18, 19, 20, 21, 22, 23, 24, 25, 26, 27, 28, 29, 30, 31, 32, 33, 34, 35, 36, 37, 38, 39, 40, 41, 42, 43, 44, 45, 46, 47, 48, 49, 50, 51, 52, 53, 54, 55, 56, 57, 58, 59, 60, 61, 62, 63, 64, 65, 66, 67, 68, 69, 70, 71, 72, 73, 74, 75, 76, 77, 78, 79, 80, 81, 82, 83, 84, 85, 86, 87, 88, 89, 90, 91, 92, 93, 94, 95, 96, 97, 98, 99, 100, 101, 102, 103, 104] dt dt176 := Fr_tr hF7 hF178 (by decide)
        have hM180 : MW (dt176 80) := MW_fr hM8 hF178 (by decide)
        have w181 : dt176 1 0 = dt4 1 0 := hF178 1 (by decide) 0
        have w182 : dt176 7 3 = dt4 7 3 := hF178 7 (by decide) 3
        have w183 : dt176 10 3 = dt4 10 3 := hF178 10 (by decide) 3
        have w184 : dt176 12 3 = dt4 12 3 := hF178 12 (by decide) 3
        have w185 : dt176 14 3 = dt4 14 3 := hF178 14 (by decide) 3
        have w186 : dt176 16 3 = dt4 16 3 := hF178 16 (by decide) 3
        have w187 : dt176 18 0 = dt4 18 0 := hF178 18 (by decide) 0
        have w188 : dt176 24 3 = dt4 24 3 := hF178 24 (by decide) 3
        have w189 : dt176 27 3 = dt4 27 3 := hF178 27 (by decide) 3
        have w190 : dt176 29 3 = dt4 29 3 := hF178 29 (by decide) 3
        have w191 : dt176 31 3 = dt4 31 3 := hF178 31 (by decide) 3
        have w192 : dt176 33 3 = dt4 33 3 := hF178 33 (by decide) 3
        have w193 : dt176 0 2 = dt4 0 2 := hF178 0 (by decide) 2
        have w194 : dt176 35 1 = dt4 35 1 := hF178 35 (by decide) 1
        have w195 : dt176 80 0 = dt4 80 0 := hF178 80 (by decide) 0
        have w196 : dt176 80 1 = dt4 80 1 := hF178 80 (by decide) 1
        have w197 : dt176 80 2 = dt4 80 2 := hF178 80 (by decide) 2
        have w198 : dt176 80 3 = dt4 80 3 := hF178 80 (by decide) 3
        have w199 : dt176 80 4 = dt4 80 4 := hF178 80 (by decide) 4
        have w200 : dt176 80 5 = dt4 80 5 := hF178 80 (by decide) 5
        rcases h175 with ⟨rfl, h175⟩
        have hM201 : MW (dt176 80) := h175.2.1
        obtain ⟨h175_0, h175_1, h175_2, h175_3, h175_4, h175_5⟩ := h175
        have y202 := h175_3 0 (by decide)
        have y203 := h175_3 1 (by decide)
        have y204 := h175_3 2 (by decide)
        have y205 := h175_3 3 (by decide)
        have y206 := h175_3 4 (by decide)
        have y207 := h175_3 5 (by decide)
        have y208 := h175_4 0 (by decide)
        have y209 := h175_4 1 (by decide)
        have y210 := h175_4 2 (by decide)
        have y211 := h175_4 3 (by decide)
        have y212 := h175_4 4 (by decide)
        have y213 := h175_4 5 (by decide)
        refine go_toq PM267 (k := 2) (pc' := 1435) (L' := [some (.inr (.inr (some 3000))), some (.inr (.inr (some 0))), some (.inr (.inr (some 79))), some (.inl i)]) (st' := []) (w' := (SH, dt176)) rfl ?_
        exact K dt176 hI177 hM201 h175_2 (by first | omega | (simp only [*]; done) | simp only [*]) (by omega) (by omega) (by omega) (by omega) (by omega) (by omega) (by omega) (by omega) (by omega) (by omega) (by omega) (by omega) (by omega)
    · skip
      obtain ⟨h3_0, h3_1, h3_2, h3_3, h3_4, h3_5, h3_6, h3_7, h3_8, h3_9, h3_10, h3_11, h3_12, h3_13, h3_14, h3_15⟩ := h3
      have M2214 : MW (dt4 81) := MW_frk hM2 hF6 (by decide)
      refine go_toq PM267 (k := 6) (pc' := 1396) (L' := [some (.inr (.inr (some 3000))), some (.inr (.inr (some 0))), some (.inr (.inr (some 79))), some (.inl i)]) (st' := [.inl (i + 1), .inr (.inr (some 3000)), .inr (.inr (some 79))]) (w' := (SH, dt4)) rfl ?_
      have r215 := i32_R (xs ((i + 1).toNat))
      refine go_smpq PM267 (L' := [some (.inr (.inr (some 3000))), some (.inr (.inr (some 0))), some (.inr (.inr (some 79))), some (.inl i)]) (st' := [.inl ((xs ((i + 1).toNat)).toInt), .inr (.inr (some 79))]) (w' := (SH, dt4)) rfl rfl (s_iald (n := L) (f := fun j => (xs j).toInt) (am_scr hLL) ⟨by omega, by omega⟩) ?_
      refine go_ifq PM267 (k := 0) (p1 := 1404) (p2 := 1400) (L' := [some (.inr (.inr (some 3000))), some (.inr (.inr (some 0))), some (.inr (.inr (some 79))), some (.inl i)]) (st' := [.inr (.inr (some 79))]) (w' := (SH, dt4)) rfl (z_eq (a := (xs ((i + 1).toNat)).toInt) ⟨by omega, by omega⟩) (fun c216 => ?_) (fun c216 => ?_)
      · skip
        refine go_toq PM267 (k := 1) (pc' := 1405) (L' := [some (.inr (.inr (some 3000))), some (.inr (.inr (some 0))), some (.inr (.inr (some 79))), some (.inl i)]) (st' := [.inl 0, .inr (.inr (some 79))]) (w' := (SH, dt4)) rfl ?_
        refine go_callq PM267 PM247 (Q' := _) rfl rfl rfl rfl (sp_X6_image_0k L xs sio (d + 38) dt4 hI5 hM8   (by first | exact True.intro | with_reducible assumption | rfl | omega | trivial | exact M2214)) ?_
        rintro _ _ ⟨dt218, rfl, hI219, hF220, h217⟩
        refine ⟨rfl, ?_⟩
        have hF221 : Fr [0, 1, 2, 3, 4, 5, 6, 7, 8, 9, 10, 11, 12, 13, 14, 15, 16, 17, 18, 19, 20, 21, 22, 23, 24, 25, 26, 27, 28, 29, 30, 31, 32, 33, 34, 35, 36, 37, 38, 39, 40, 41, 42, 43, 44, 45, 46, 47, 48, 49, 50, 51, 52, 53, 54, 55, 56, 57, 58, 59, 60, 61, 62, 63, 64, 65, 66, 67, 68, 69, 70, 71, 72, 73, 74, 75, 76, 77, 78, 79, 80, 81, 82, 83, 84, 85, 86, 87, 88, 89, 90, 91, 92, 93, 94, 95, 96, 97, 98, 99, 100, 101, 102, 103, 104] dt dt218 := Fr_tr hF7 hF220 (by decide)
        have w222 : dt218 1 0 = dt4 1 0 := hF220 1 (by decide) 0
        have w223 : dt218 7 3 = dt4 7 3 := hF220 7 (by decide) 3
        have w224 : dt218 10 3 = dt4 10 3 := hF220 10 (by decide) 3
        have w225 : dt218 12 3 = dt4 12 3 := hF220 12 (by decide) 3
        have w226 : dt218 14 3 = dt4 14 3 := hF220 14 (by decide) 3
        have w227 : dt218 16 3 = dt4 16 3 := hF220 16 (by decide) 3
        have w228 : dt218 18 0 = dt4 18 0 := hF220 18 (by decide) 0
        have w229 : dt218 24 3 = dt4 24 3 := hF220 24 (by decide) 3
        have w230 : dt218 27 3 = dt4 27 3 := hF220 27 (by decide) 3
        have w231 : dt218 29 3 = dt4 29 3 := hF220 29 (by decide) 3
        have w232 : dt218 31 3 = dt4 31 3 := hF220 31 (by decide) 3
        have w233 : dt218 33 3 = dt4 33 3 := hF220 33 (by decide) 3
        have w234 : dt218 0 2 = dt4 0 2 := hF220 0 (by decide) 2
        have w235 : dt218 35 1 = dt4 35 1 := hF220 35 (by decide) 1
        have w236 : dt218 81 0 = dt4 81 0 := hF220 81 (by decide) 0
        have w237 : dt218 81 1 = dt4 81 1 := hF220 81 (by decide) 1
        have w238 : dt218 81 2 = dt4 81 2 := hF220 81 (by decide) 2
        have w239 : dt218 81 3 = dt4 81 3 := hF220 81 (by decide) 3
        have w240 : dt218 81 4 = dt4 81 4 := hF220 81 (by decide) 4
        have w241 : dt218 81 5 = dt4 81 5 := hF220 81 (by decide) 5
        rcases h217 with ⟨rfl, h217⟩ | ⟨rfl, h217⟩
        · skip
          have hM242 : MW (dt218 80) := h217.2.2.1
          obtain ⟨h217_0, h217_1, h217_2, h217_3, h217_4, h217_5, h217_6⟩ := h217
          have M2243 : MW (dt218 81) := MW_frk M2214 hF220 (by decide)
          have y244 := h217_4 0 (by decide)
          have y245 := h217_4 1 (by decide)
          have y246 := h217_4 2 (by decide)
          have y247 := h217_4 3 (by decide)
          have y248 := h217_4 4 (by decide)
          have y249 := h217_4 5 (by decide)
          have y250 := h217_5 0 (by decide)
          have y251 := h217_5 1 (by decide)
          have y252 := h217_5 2 (by decide)
          have y253 := h217_5 3 (by decide)
          have y254 := h217_5 4 (by decide)
          have y255 := h217_5 5 (by decide)
          refine go_toq PM267 (k := 2) (pc' := 1435) (L' := [some (.inr (.inr (some 3000))), some (.inr (.inr (some 0))), some (.inr (.inr (some 79))), some (.inl i)]) (st' := []) (w' := (SH, dt218)) rfl ?_
          exact K dt218 hI219 hM242 M2243 (by first | omega | (simp only [*]; done) | simp only [*]) (by omega) (by omega) (by omega) (by omega) (by omega) (by omega) (by omega) (by omega) (by omega) (by omega) (by omega) (by omega) (by omega)
        · skip
          have hM256 : MW (dt218 80) := h217.2.2.1
          obtain ⟨h217_0, h217_1, h217_2, h217_3, h217_4, h217_5, h217_6⟩ := h217
          have M2257 : MW (dt218 81) := MW_frk M2214 hF220 (by decide)
          have y258 := h217_4 0 (by decide)
          have y259 := h217_4 1 (by decide)
          have y260 := h217_4 2 (by decide)
          have y261 := h217_4 3 (by decide)
          have y262 := h217_4 4 (by decide)
          have y263 := h217_4 5 (by decide)
          have y264 := h217_5 0 (by decide)
          have y265 := h217_5 1 (by decide)
          have y266 := h217_5 2 (by decide)
          have y267 := h217_5 3 (by decide)
          have y268 := h217_5 4 (by decide)
          have y269 := h217_5 5 (by decide)
          refine go_toq PM267 (k := 2) (pc' := 1435) (L' := [some (.inr (.inr (some 3000))), some (.inr (.inr (some 0))), some (.inr (.inr (some 79))), some (.inl i)]) (st' := []) (w' := (SH, dt218)) rfl ?_
          exact K dt218 hI219 hM256 M2257 (by first | omega | (simp only [*]; done) | simp only [*]) (by omega) (by omega) (by omega) (by omega) (by omega) (by omega) (by omega) (by omega) (by omega) (by omega) (by omega) (by omega) (by omega)
      · skip
        refine go_toq PM267 (k := 2) (pc' := 1405) (L' := [some (.inr (.inr (some 3000))), some (.inr (.inr (some 0))), some (.inr (.inr (some 79))), some (.inl i)]) (st' := [.inl 1, .inr (.inr (some 79))]) (w' := (SH, dt4)) rfl ?_
        refine go_callq PM267 PM247 (Q' := _) rfl rfl rfl rfl (sp_X6_image_1k L xs sio (d + 38) dt4 hI5 hM8   ) ?_
        rintro _ _ ⟨dt271, rfl, hI272, hF273, h270⟩
        refine ⟨rfl, ?_⟩
        have hF274 : Fr [0, 1, 2, 3, 4, 5, 6, 7, 8, 9, 10, 11, 12, 13, 14, 15, 16, 17, 18, 19, 20, 21, 22, 23, 24, 25, 26, 27, 28, 29, 30, 31, 32, 33, 34, 35, 36, 37, 38, 39, 40, 41, 42, 43, 44, 45, 46, 47, 48, 49, 50, 51, 52, 53, 54, 55, 56, 57, 58, 59, 60, 61, 62, 63, 64, 65, 66, 67, 68, 69, 70, 71, 72, 73, 74, 75, 76, 77, 78, 79, 80, 81, 82, 83, 84, 85, 86, 87, 88, 89, 90, 91, 92, 93, 94, 95, 96, 97, 98, 99, 100, 101, 102, 103, 104] dt dt271 := Fr_tr hF7 hF273 (by decide)
        have hM275 : MW (dt271 80) := MW_fr hM8 hF273 (by decide)
        have w276 : dt271 1 0 = dt4 1 0 := hF273 1 (by decide) 0
        have w277 : dt271 7 3 = dt4 7 3 := hF273 7 (by decide) 3
        have w278 : dt271 10 3 = dt4 10 3 := hF273 10 (by decide) 3
        have w279 : dt271 12 3 = dt4 12 3 := hF273 12 (by decide) 3
        have w280 : dt271 14 3 = dt4 14 3 := hF273 14 (by decide) 3
        have w281 : dt271 16 3 = dt4 16 3 := hF273 16 (by decide) 3
        have w282 : dt271 18 0 = dt4 18 0 := hF273 18 (by decide) 0
        have w283 : dt271 24 3 = dt4 24 3 := hF273 24 (by decide) 3
        have w284 : dt271 27 3 = dt4 27 3 := hF273 27 (by decide) 3
        have w285 : dt271 29 3 = dt4 29 3 := hF273 29 (by decide) 3
        have w286 : dt271 31 3 = dt4 31 3 := hF273 31 (by decide) 3
        have w287 : dt271 33 3 = dt4 33 3 := hF273 33 (by decide) 3
        have w288 : dt271 0 2 = dt4 0 2 := hF273 0 (by decide) 2
        have w289 : dt271 35 1 = dt4 35 1 := hF273 35 (by decide) 1
        have w290 : dt271 80 0 = dt4 80 0 := hF273 80 (by decide) 0
        have w291 : dt271 80 1 = dt4 80 1 := hF273 80 (by decide) 1
        have w292 : dt271 80 2 = dt4 80 2 := hF273 80 (by decide) 2
        have w293 : dt271 80 3 = dt4 80 3 := hF273 80 (by decide) 3
        have w294 : dt271 80 4 = dt4 80 4 := hF273 80 (by decide) 4
        have w295 : dt271 80 5 = dt4 80 5 := hF273 80 (by decide) 5
        rcases h270 with ⟨rfl, h270⟩
        have hM296 : MW (dt271 80) := h270.2.1
        obtain ⟨h270_0, h270_1, h270_2, h270_3, h270_4, h270_5⟩ := h270
        have y297 := h270_3 0 (by decide)
        have y298 := h270_3 1 (by decide)
        have y299 := h270_3 2 (by decide)
        have y300 := h270_3 3 (by decide)
        have y301 := h270_3 4 (by decide)
        have y302 := h270_3 5 (by decide)
        have y303 := h270_4 0 (by decide)
        have y304 := h270_4 1 (by decide)
        have y305 := h270_4 2 (by decide)
        have y306 := h270_4 3 (by decide)
        have y307 := h270_4 4 (by decide)
        have y308 := h270_4 5 (by decide)
        refine go_toq PM267 (k := 2) (pc' := 1435) (L' := [some (.inr (.inr (some 3000))), some (.inr (.inr (some 0))), some (.inr (.inr (some 79))), some (.inl i)]) (st' := []) (w' := (SH, dt271)) rfl ?_
        exact K dt271 hI272 hM296 h270_2 (by first | omega | (simp only [*]; done) | simp only [*]) (by omega) (by omega) (by omega) (by omega) (by omega) (by omega) (by omega) (by omega) (by omega) (by omega) (by omega) (by omega) (by omega)
  · skip
    refine go_toq PM267 (k := 2) (pc' := 1387) (L' := [some (.inr (.inr (some 3000))), some (.inr (.inr (some 0))), some (.inr (.inr (some 79))), some (.inl i)]) (st' := [.inl 1, .inr (.inr (some 0))]) (w' := (SH, dt)) rfl ?_
    refine go_callq PM267 PM98 (Q' := _) rfl rfl rfl rfl (sp_X5_image L xs sio (d + 35) dt hI  1 ⟨by decide, by decide⟩ ) ?_
    rintro _ _ ⟨dt310, rfl, hI311, hF312, h309⟩
    refine ⟨rfl, ?_⟩
    have hF313 : Fr [0, 1, 2, 3, 4, 5, 6, 7, 8, 9, 10, 11, 12, 13, 14, 15, 16, 17, 18, 19, 20, 21, 22, 23, 24, 25, 26, 27, 28, 29, 30, 31, 32, 33, 34, 35, 36, 37, 38, 39, 40, 41, 42, 43, 44, 45, 46, 47, 48, 49, 50, 51, 52, 53, 54, 55, 56, 57, 58, 59, 60, 61, 62, 63, 64, 65, 66, 67, 68, 69, 70, 71, 72, 73, 74, 75, 76, 77, 78, 79, 80, 81, 82, 83, 84, 85, 86, 87, 88, 89, 90, 91, 92, 93, 94, 95, 96, 97, 98, 99, 100, 101, 102, 103, 104] dt dt310 := Fr_tr hF hF312 (by decide)
    have hM314 : MW (dt310 80) := MW_fr hM hF312 (by decide)
    have w315 : dt310 35 1 = dt 35 1 := hF312 35 (by decide) 1
    have w316 : dt310 80 0 = dt 80 0 := hF312 80 (by decide) 0
    have w317 : dt310 80 1 = dt 80 1 := hF312 80 (by decide) 1
    have w318 : dt310 80 2 = dt 80 2 := hF312 80 (by decide) 2
    have w319 : dt310 80 3 = dt 80 3 := hF312 80 (by decide) 3
    have w320 : dt310 80 4 = dt 80 4 := hF312 80 (by decide) 4
    have w321 : dt310 80 5 = dt 80 5 := hF312 80 (by decide) 5
    have w322 : dt310 81 0 = dt 81 0 := hF312 81 (by decide) 0
    have w323 : dt310 81 1 = dt 81 1 := hF312 81 (by decide) 1
    have w324 : dt310 81 2 = dt 81 2 := hF312 81 (by decide) 2
    have w325 : dt310 81 3 = dt 81 3 := hF312 81 (by decide) 3
    have w326 : dt310 81 4 = dt 81 4 := hF312 81 (by decide) 4
    have w327 : dt310 81 5 = dt 81 5 := hF312 81 (by decide) 5
    have w328 : dt310 79 2 = dt 79 2 := hF312 79 (by decide) 2
    have w329 : dt310 79 12 = dt 79 12 := hF312 79 (by decide) 12
    rcases h309 with ⟨v_h309, rfl, h309r, h309⟩ | ⟨v_h309, rfl, h309r, h309⟩ | ⟨v_h309, rfl, h309r, h309⟩
    · skip
      obtain ⟨h309_0, h309_1, h309_2, h309_3, h309_4, h309_5, h309_6, h309_7, h309_8, h309_9, h309_10, h309_11, h309_12, h309_13, h309_14⟩ := h309
      have M2330 : MW (dt310 81) := MW_frk hM2 hF312 (by decide)
      refine go_toq PM267 (k := 6) (pc' := 1396) (L' := [some (.inr (.inr (some 3000))), some (.inr (.inr (some 0))), some (.inr (.inr (some 79))), some (.inl i)]) (st' := [.inl (i + 1), .inr (.inr (some 3000)), .inr (.inr (some 79))]) (w' := (SH, dt310)) rfl ?_
      have r331 := i32_R (xs ((i + 1).toNat))
      refine go_smpq PM267 (L' := [some (.inr (.inr (some 3000))), some (.inr (.inr (some 0))), some (.inr (.inr (some 79))), some (.inl i)]) (st' := [.inl ((xs ((i + 1).toNat)).toInt), .inr (.inr (some 79))]) (w' := (SH, dt310)) rfl rfl (s_iald (n := L) (f := fun j => (xs j).toInt) (am_scr hLL) ⟨by omega, by omega⟩) ?_
      refine go_ifq PM267 (k := 0) (p1 := 1404) (p2 := 1400) (L' := [some (.inr (.inr (some 3000))), some (.inr (.inr (some 0))), some (.inr (.inr (some 79))), some (.inl i)]) (st' := [.inr (.inr (some 79))]) (w' := (SH, dt310)) rfl (z_eq (a := (xs ((i + 1).toNat)).toInt) ⟨by omega, by omega⟩) (fun c332 => ?_) (fun c332 => ?_)
      · skip
        refine go_toq PM267 (k := 1) (pc' := 1405) (L' := [some (.inr (.inr (some 3000))), some (.inr (.inr (some 0))), some (.inr (.inr (some 79))), some (.inl i)]) (st' := [.inl 0, .inr (.inr (some 79))]) (w' := (SH, dt310)) rfl ?_
        refine go_callq PM267 PM247 (Q' := _) rfl rfl rfl rfl (sp_X6_image_0k L xs sio (d + 38) dt310 hI311 hM314   (by first | exact True.intro | with_reducible assumption | rfl | omega | trivial | exact M2330)) ?_
        rintro _ _ ⟨dt334, rfl, hI335, hF336, h333⟩
        refine ⟨rfl, ?_⟩
        have hF337 : Fr [0, 1, 2, 3, 4, 5, 6, 7, 8, 9, 10, 11, 12, 13, 14, 15, 16, 17, 18, 19, 20, 21, 22, 23, 24, 25, 26, 27, 28, 29, 30, 31, 32, 33, 34, 35, 36, 37, 38, 39, 40, 41, 42, 43, 44, 45, 46, 47, 48, 49, 50, 51, 52, 53, 54, 55, 56, 57, 58, 59, 60, 61, 62, 63, 64, 65, 66, 67, 68, 69, 70, 71, 72, 73, 74, 75, 76, 77, 78, 79, 80, 81, 82, 83, 84, 85, 86, 87, 88, 89, 90, 91, 92, 93, 94, 95, 96, 97, 98, 99, 100, 101, 102, 103, 104] dt dt334 := Fr_tr hF313 hF336 (by decide)
        have w338 : dt334 1 0 = dt310 1 0 := hF336 1 (by decide) 0
        have w339 : dt334 7 3 = dt310 7 3 := hF336 7 (by decide) 3
        have w340 : dt334 10 3 = dt310 10 3 := hF336 10 (by decide) 3
        have w341 : dt334 12 3 = dt310 12 3 := hF336 12 (by decide) 3
        have w342 : dt334 14 3 = dt310 14 3 := hF336 14 (by decide) 3
        have w343 : dt334 16 3 = dt310 16 3 := hF336 16 (by decide) 3
        have w344 : dt334 18 0 = dt310 18 0 := hF336 18 (by decide) 0
        have w345 : dt334 24 3 = dt310 24 3 := hF336 24 (by decide) 3
        have w346 : dt334 27 3 = dt310 27 3 := hF336 27 (by decide) 3
        have w347 : dt334 29 3 = dt310 29 3 := hF336 29 (by decide) 3
        have w348 : dt334 31 3 = dt310 31 3 := hF336 31 (by decide) 3
        have w349 : dt334 33 3 = dt310 33 3 := hF336 33 (by decide) 3
        have w350 : dt334 0 2 = dt310 0 2 := hF336 0 (by decide) 2
        have w351 : dt334 35 1 = dt310 35 1 := hF336 35 (by decide) 1
        have w352 : dt334 81 0 = dt310 81 0 := hF336 81 (by decide) 0
        have w353 : dt334 81 1 = dt310 81 1 := hF336 81 (by decide) 1
        have w354 : dt334 81 2 = dt310 81 2 := hF336 81 (by decide) 2
        have w355 : dt334 81 3 = dt310 81 3 := hF336 81 (by decide) 3
        have w356 : dt334 81 4 = dt310 81 4 := hF336 81 (by decide) 4
        have w357 : dt334 81 5 = dt310 81 5 := hF336 81 (by decide) 5
        rcases h333 with ⟨rfl, h333⟩ | ⟨rfl, h333⟩
        · skip
          have hM358 : MW (dt334 80) := h333.2.2.1
          obtain ⟨h333_0, h333_1, h333_2, h333_3, h333_4, h333_5, h333_6⟩ := h333
          have M2359 : MW (dt334 81) := MW_frk M2330 hF336 (by decide)
          have y360 := h333_4 0 (by decide)
          have y361 := h333_4 1 (by decide)
          have y362 := h333_4 2 (by decide)
          have y363 := h333_4 3 (by decide)
          have y364 := h333_4 4 (by decide)
          have y365 := h333_4 5 (by decide)
          have y366 := h333_5 0 (by decide)
          have y367 := h333_5 1 (by decide)
          have y368 := h333_5 2 (by decide)
          have y369 := h333_5 3 (by decide)
          have y370 := h333_5 4 (by decide)
          have y371 := h333_5 5 (by decide)
          refine go_toq PM267 (k := 2) (pc' := 1435) (L' := [some (.inr (.inr (some 3000))), some (.inr (.inr (some 0))), some (.inr (.inr (some 79))), some (.inl i)]) (st' := []) (w' := (SH, dt334)) rfl ?_
          exact K dt334 hI335 hM358 M2359 (by first | omega | (simp only [*]; done) | simp only [*]) (by omega) (by omega) (by omega) (by omega) (by omega) (by omega) (by omega) (by omega) (by omega) (by omega) (by omega) (by omega) (by omega)
        · skip
          have hM372 : MW (dt334 80) := h333.2.2.1
          obtain ⟨h333_0, h333_1, h333_2, h333_3, h333_4, h333_5, h333_6⟩ := h333
          have M2373 : MW (dt334 81) := MW_frk M2330 hF336 (by decide)
          have y374 := h333_4 0 (by decide)
          have y375 := h333_4 1 (by decide)
          have y376 := h333_4 2 (by decide)
          have y377 := h333_4 3 (by decide)
          have y378 := h333_4 4 (by decide)
          have y379 := h333_4 5 (by decide)
          have y380 := h333_5 0 (by decide)
          have y381 := h333_5 1 (by decide)
          have y382 := h333_5 2 (by decide)
          have y383 := h333_5 3 (by decide)
          have y384 := h333_5 4 (by decide)
          have y385 := h333_5 5 (by decide)
          refine go_toq PM267 (k := 2) (pc' := 1435) (L' := [some (.inr (.inr (some 3000))), some (.inr (.inr (some 0))), some (.inr (.inr (some 79))), some (.inl i)]) (st' := []) (w' := (SH, dt334)) rfl ?_
          exact K dt334 hI335 hM372 M2373 (by first | omega | (simp only [*]; done) | simp only [*]) (by omega) (by omega) (by omega) (by omega) (by omega) (by omega) (by omega) (by omega) (by omega) (by omega) (by omega) (by omega) (by omega)
      · skip
        refine go_toq PM267 (k := 2) (pc' := 1405) (L' := [some (.inr (.inr (some 3000))), some (.inr (.inr (some 0))), some (.inr (.inr (some 79))), some (.inl i)]) (st' := [.inl 1, .inr (.inr (some 79))]) (w' := (SH, dt310)) rfl ?_
        refine go_callq PM267 PM247 (Q' := _) rfl rfl rfl rfl (sp_X6_image_1k L xs sio (d + 38) dt310 hI311 hM314   ) ?_
        rintro _ _ ⟨dt387, rfl, hI388, hF389, h386⟩
        refine ⟨rfl, ?_⟩
        have hF390 : Fr [0, 1, 2, 3, 4, 5, 6, 7, 8, 9, 10, 11, 12, 13, 14, 15, 16, 17, 18, 19, 20, 21, 22, 23, 24, 25, 26, 27, 28, 29, 30, 31, 32, 33, 34, 35, 36, 37, 38, 39, 40, 41, 42, 43, 44, 45, 46, 47, 48, 49, 50, 51, 52, 53, 54, 55, 56, 57, 58, 59, 60, 61, 62, 63, 64, 65, 66, 67, 68, 69, 70, 71, 72, 73, 74, 75, 76, 77, 78, 79, 80, 81, 82, 83, 84, 85, 86, 87, 88, 89, 90, 91, 92, 93, 94, 95, 96, 97, 98, 99, 100, 101, 102, 103, 104] dt dt387 := Fr_tr hF313 hF389 (by decide)
        have hM391 : MW (dt387 80) := MW_fr hM314 hF389 (by decide)
        have w392 : dt387 1 0 = dt310 1 0 := hF389 1 (by decide) 0
        have w393 : dt387 7 3 = dt310 7 3 := hF389 7 (by decide) 3
        have w394 : dt387 10 3 = dt310 10 3 := hF389 10 (by decide) 3
        have w395 : dt387 12 3 = dt310 12 3 := hF389 12 (by decide) 3
        have w396 : dt387 14 3 = dt310 14 3 := hF389 14 (by decide) 3
        have w397 : dt387 16 3 = dt310 16 3 := hF389 16 (by decide) 3
        have w398 : dt387 18 0 = dt310 18 0 := hF389 18 (by decide) 0
        have w399 : dt387 24 3 = dt310 24 3 := hF389 24 (by decide) 3
        have w400 : dt387 27 3 = dt310 27 3 := hF389 27 (by decide) 3
        have w401 : dt387 29 3 = dt310 29 3 := hF389 29 (by decide) 3
        have w402 : dt387 31 3 = dt310 31 3 := hF389 31 (by decide) 3
        have w403 : dt387 33 3 = dt310 33 3 := hF389 33 (by decide) 3
        have w404 : dt387 0 2 = dt310 0 2 := hF389 0 (by decide) 2
        have w405 : dt387 35 1 = dt310 35 1 := hF389 35 (by decide) 1
        have w406 : dt387 80 0 = dt310 80 0 := hF389 80 (by decide) 0
        have w407 : dt387 80 1 = dt310 80 1 := hF389 80 (by decide) 1
        have w408 : dt387 80 2 = dt310 80 2 := hF389 80 (by decide) 2
        have w409 : dt387 80 3 = dt310 80 3 := hF389 80 (by decide) 3
        have w410 : dt387 80 4 = dt310 80 4 := hF389 80 (by decide) 4
        have w411 : dt387 80 5 = dt310 80 5 := hF389 80 (by decide) 5
        rcases h386 with ⟨rfl, h386⟩
        have hM412 : MW (dt387 80) := h386.2.1
        obtain ⟨h386_0, h386_1, h386_2, h386_3, h386_4, h386_5⟩ := h386
        have y413 := h386_3 0 (by decide)
        have y414 := h386_3 1 (by decide)
        have y415 := h386_3 2 (by decide)
        have y416 := h386_3 3 (by decide)
        have y417 := h386_3 4 (by decide)
        have y418 := h386_3 5 (by decide)
        have y419 := h386_4 0 (by decide)
        have y420 := h386_4 1 (by decide)
        have y421 := h386_4 2 (by decide)
        have y422 := h386_4 3 (by decide)
        have y423 := h386_4 4 (by decide)
        have y424 := h386_4 5 (by decide)
        refine go_toq PM267 (k := 2) (pc' := 1435) (L' := [some (.inr (.inr (some 3000))), some (.inr (.inr (some 0))), some (.inr (.inr (some 79))), some (.inl i)]) (st' := []) (w' := (SH, dt387)) rfl ?_
        exact K dt387 hI388 hM412 h386_2 (by first | omega | (simp only [*]; done) | simp only [*]) (by omega) (by omega) (by omega) (by omega) (by omega) (by omega) (by omega) (by omega) (by omega) (by omega) (by omega) (by omega) (by omega)
    · skip
      obtain ⟨h309_0, h309_1, h309_2, h309_3, h309_4, h309_5, h309_6, h309_7, h309_8, h309_9, h309_10, h309_11, h309_12, h309_13, h309_14, h309_15⟩ := h309
      have M2425 : MW (dt310 81) := MW_frk hM2 hF312 (by decide)
      refine go_toq PM267 (k := 6) (pc' := 1396) (L' := [some (.inr (.inr (some 3000))), some (.inr (.inr (some 0))), some (.inr (.inr (some 79))), some (.inl i)]) (st' := [.inl (i + 1), .inr (.inr (some 3000)), .inr (.inr (some 79))]) (w' := (SH, dt310)) rfl ?_
      have r426 := i32_R (xs ((i + 1).toNat))
      refine go_smpq PM267 (L' := [some (.inr (.inr (some 3000))), some (.inr (.inr (some 0))), some (.inr (.inr (some 79))), some (.inl i)]) (st' := [.inl ((xs ((i + 1).toNat)).toInt), .inr (.inr (some 79))]) (w' := (SH, dt310)) rfl rfl (s_iald (n := L) (f := fun j => (xs j).toInt) (am_scr hLL) ⟨by omega, by omega⟩) ?_
      refine go_ifq PM267 (k := 0) (p1 := 1404) (p2 := 1400) (L' := [some (.inr (.inr (some 3000))), some (.inr (.inr (some 0))), some (.inr (.inr (some 79))), some (.inl i)]) (st' := [.inr (.inr (some 79))]) (w' := (SH, dt310)) rfl (z_eq (a := (xs ((i + 1).toNat)).toInt) ⟨by omega, by omega⟩) (fun c427 => ?_) (fun c427 => ?_)
      · skip
        refine go_toq PM267 (k := 1) (pc' := 1405) (L' := [some (.inr (.inr (some 3000))), some (.inr (.inr (some 0))), some (.inr (.inr (some 79))), some (.inl i)]) (st' := [.inl 0, .inr (.inr (some 79))]) (w' := (SH, dt310)) rfl ?_
        refine go_callq PM267 PM247 (Q' := _) rfl rfl rfl rfl (sp_X6_image_0k L xs sio (d + 38) dt310 hI311 hM314   (by first | exact True.intro | with_reducible assumption | rfl | omega | trivial | exact M2425)) ?_
        rintro _ _ ⟨dt429, rfl, hI430, hF431, h428⟩
        refine ⟨rfl, ?_⟩
        have hF432 : Fr [0, 1, 2, 3, 4, 5, 6, 7, 8, 9, 10, 11, 12, 13, 14, 15, 16, 17, 18, 19, 20, 21, 22, 23, 24, 25, 26, 27, 28, 29, 30, 31, 32, 33, 34, 35, 36, 37, 38, 39, 40, 41, 42, 43, 44, 45, 46, 47, 48, 49, 50, 51, 52, 53, 54, 55, 56, 57, 58, 59, 60, 61, 62, 63, 64, 65, 66, 67, 68, 69, 70, 71, 72, 73, 74, 75, 76, 77, 78, 79, 80, 81, 82, 83, 84, 85, 86, 87, 88, 89, 90, 91, 92, 93, 94, 95, 96, 97, 98, 99, 100, 101, 102, 103, 104] dt dt429 := Fr_tr hF313 hF431 (by decide)
        have w433 : dt429 1 0 = dt310 1 0 := hF431 1 (by decide) 0
        have w434 : dt429 7 3 = dt310 7 3 := hF431 7 (by decide) 3
        have w435 : dt429 10 3 = dt310 10 3 := hF431 10 (by decide) 3
        have w436 : dt429 12 3 = dt310 12 3 := hF431 12 (by decide) 3
        have w437 : dt429 14 3 = dt310 14 3 := hF431 14 (by decide) 3
        have w438 : dt429 16 3 = dt310 16 3 := hF431 16 (by decide) 3
        have w439 : dt429 18 0 = dt310 18 0 := hF431 18 (by decide) 0
        have w440 : dt429 24 3 = dt310 24 3 := hF431 24 (by decide) 3
        have w441 : dt429 27 3 = dt310 27 3 := hF431 27 (by decide) 3
        have w442 : dt429 29 3 = dt310 29 3 := hF431 29 (by decide) 3
        have w443 : dt429 31 3 = dt310 31 3 := hF431 31 (by decide) 3
        have w444 : dt429 33 3 = dt310 33 3 := hF431 33 (by decide) 3
        have w445 : dt429 0 2 = dt310 0 2 := hF431 0 (by decide) 2
        have w446 : dt429 35 1 = dt310 35 1 := hF431 35 (by decide) 1
        have w447 : dt429 81 0 = dt310 81 0 := hF431 81 (by decide) 0
        have w448 : dt429 81 1 = dt310 81 1 := hF431 81 (by decide) 1
        have w449 : dt429 81 2 = dt310 81 2 := hF431 81 (by decide) 2
        have w450 : dt429 81 3 = dt310 81 3 := hF431 81 (by decide) 3
        have w451 : dt429 81 4 = dt310 81 4 := hF431 81 (by decide) 4
        have w452 : dt429 81 5 = dt310 81 5 := hF431 81 (by decide) 5
        rcases h428 with ⟨rfl, h428⟩ | ⟨rfl, h428⟩
        · skip
          have hM453 : MW (dt429 80) := h428.2.2.1
          obtain ⟨h428_0, h428_1, h428_2, h428_3, h428_4, h428_5, h428_6⟩ := h428
          have M2454 : MW (dt429 81) := MW_frk M2425 hF431 (by decide)
          have y455 := h428_4 0 (by decide)
          have y456 := h428_4 1 (by decide)
          have y457 := h428_4 2 (by decide)
          have y458 := h428_4 3 (by decide)
          have y459 := h428_4 4 (by decide)
          have y460 := h428_4 5 (by decide)
          have y461 := h428_5 0 (by decide)
          have y462 := h428_5 1 (by decide)
          have y463 := h428_5 2 (by decide)
          have y464 := h428_5 3 (by decide)
          have y465 := h428_5 4 (by decide)
          have y466 := h428_5 5 (by decide)
          refine go_toq PM267 (k := 2) (pc' := 1435) (L' := [some (.inr (.inr (some 3000))), some (.inr (.inr (some 0))), some (.inr (.inr (some 79))), some (.inl i)]) (st' := []) (w' := (SH, dt429)) rfl ?_
          exact K dt429 hI430 hM453 M2454 (by first | omega | (simp only [*]; done) | simp only [*]) (by omega) (by omega) (by omega) (by omega) (by omega) (by omega) (by omega) (by omega) (by omega) (by omega) (by omega) (by omega) (by omega)
        · skip
          have hM467 : MW (dt429 80) := h428.2.2.1
          obtain ⟨h428_0, h428_1, h428_2, h428_3, h428_4, h428_5, h428_6⟩ := h428
          have M2468 : MW (dt429 81) := MW_frk M2425 hF431 (by decide)
          have y469 := h428_4 0 (by decide)
          have y470 := h428_4 1 (by decide)
          have y471 := h428_4 2 (by decide)
          have y472 := h428_4 3 (by decide)
          have y473 := h428_4 4 (by decide)
          have y474 := h428_4 5 (by decide)
          have y475 := h428_5 0 (by decide)
          have y476 := h428_5 1 (by decide)
          have y477 := h428_5 2 (by decide)
          have y478 := h428_5 3 (by decide)
          have y479 := h428_5 4 (by decide)
          have y480 := h428_5 5 (by decide)
          refine go_toq PM267 (k := 2) (pc' := 1435) (L' := [some (.inr (.inr (some 3000))), some (.inr (.inr (some 0))), some (.inr (.inr (some 79))), some (.inl i)]) (st' := []) (w' := (SH, dt429)) rfl ?_
          exact K dt429 hI430 hM467 M2468 (by first | omega | (simp only [*]; done) | simp only [*]) (by omega) (by omega) (by omega) (by omega) (by omega) (by omega) (by omega) (by omega) (by omega) (by omega) (by omega) (by omega) (by omega)
      · skip
        refine go_toq PM267 (k := 2) (pc' := 1405) (L' := [some (.inr (.inr (some 3000))), some (.inr (.inr (some 0))), some (.inr (.inr (some 79))), some (.inl i)]) (st' := [.inl 1, .inr (.inr (some 79))]) (w' := (SH, dt310)) rfl ?_
        refine go_callq PM267 PM247 (Q' := _) rfl rfl rfl rfl (sp_X6_image_1k L xs sio (d + 38) dt310 hI311 hM314   ) ?_
        rintro _ _ ⟨dt482, rfl, hI483, hF484, h481⟩
        refine ⟨rfl, ?_⟩
        have hF485 : Fr [0, 1, 2, 3, 4, 5, 6, 7, 8, 9, 10, 11, 12, 13, 14, 15, 16, 17, 18, 19, 20, 21, 22, 23, 24, 25, 26, 27, 28, 29, 30, 31, 32, 33, 34, 35, 36, 37, 38, 39, 40, 41, 42, 43, 44, 45, 46, 47, 48, 49, 50, 51, 52, 53, 54, 55, 56, 57, 58, 59, 60, 61, 62, 63, 64, 65, 66, 67, 68, 69, 70, 71, 72, 73, 74, 75, 76, 77, 78, 79, 80, 81, 82, 83, 84, 85, 86, 87, 88, 89, 90, 91, 92, 93, 94, 95, 96, 97, 98, 99, 100, 101, 102, 103, 104] dt dt482 := Fr_tr hF313 hF484 (by decide)
        have hM486 : MW (dt482 80) := MW_fr hM314 hF484 (by decide)
        have w487 : dt482 1 0 = dt310 1 0 := hF484 1 (by decide) 0
        have w488 : dt482 7 3 = dt310 7 3 := hF484 7 (by decide) 3
        have w489 : dt482 10 3 = dt310 10 3 := hF484 10 (by decide) 3
        have w490 : dt482 12 3 = dt310 12 3 := hF484 12 (by decide) 3
        have w491 : dt482 14 3 = dt310 14 3 := hF484 14 (by decide) 3
        have w492 : dt482 16 3 = dt310 16 3 := hF484 16 (by decide) 3
        have w493 : dt482 18 0 = dt310 18 0 := hF484 18 (by decide) 0
        have w494 : dt482 24 3 = dt310 24 3 := hF484 24 (by decide) 3
        have w495 : dt482 27 3 = dt310 27 3 := hF484 27 (by decide) 3
        have w496 : dt482 29 3 = dt310 29 3 := hF484 29 (by decide) 3
        have w497 : dt482 31 3 = dt310 31 3 := hF484 31 (by decide) 3
        have w498 : dt482 33 3 = dt310 33 3 := hF484 33 (by decide) 3
        have w499 : dt482 0 2 = dt310 0 2 := hF484 0 (by decide) 2
        have w500 : dt482 35 1 = dt310 35 1 := hF484 35 (by decide) 1
        have w501 : dt482 80 0 = dt310 80 0 := hF484 80 (by decide) 0
        have w502 : dt482 80 1 = dt310 80 1 := hF484 80 (by decide) 1
        have w503 : dt482 80 2 = dt310 80 2 := hF484 80 (by decide) 2
        have w504 : dt482 80 3 = dt310 80 3 := hF484 80 (by decide) 3
        have w505 : dt482 80 4 = dt310 80 4 := hF484 80 (by decide) 4
        have w506 : dt482 80 5 = dt310 80 5 := hF484 80 (by decide) 5
        rcases h481 with ⟨rfl, h481⟩
        have hM507 : MW (dt482 80) := h481.2.1
        obtain ⟨h481_0, h481_1, h481_2, h481_3, h481_4, h481_5⟩ := h481
        have y508 := h481_3 0 (by decide)
        have y509 := h481_3 1 (by decide)
        have y510 := h481_3 2 (by decide)
        have y511 := h481_3 3 (by decide)
        have y512 := h481_3 4 (by decide)
        have y513 := h481_3 5 (by decide)
        have y514 := h481_4 0 (by decide)
        have y515 := h481_4 1 (by decide)
        have y516 := h481_4 2 (by decide)
        have y517 := h481_4 3 (by decide)
        have y518 := h481_4 4 (by decide)
        have y519 := h481_4 5 (by decide)
        refine go_toq PM267 (k := 2) (pc' := 1435) (L' := [some (.inr (.inr (some 3000))), some (.inr (.inr (some 0))), some (.inr (.inr (some 79))), some (.inl i)]) (st' := []) (w' := (SH, dt482)) rfl ?_
        exact K dt482 hI483 hM507 h481_2 (by first | omega | (simp only [*]; done) | simp only [*]) (by omega) (by omega) (by omega) (by omega) (by omega) (by omega) (by omega) (by omega) (by omega) (by omega) (by omega) (by omega) (by omega)
    · skip
      obtain ⟨h309_0, h309_1, h309_2, h309_3, h309_4, h309_5, h309_6, h309_7, h309_8, h309_9, h309_10, h309_11, h309_12, h309_13, h309_14, h309_15⟩ := h309
      have M2520 : MW (dt310 81) := MW_frk hM2 hF312 (by decide)
      refine go_toq PM267 (k := 6) (pc' := 1396) (L' := [some (.inr (.inr (some 3000))), some (.inr (.inr (some 0))), some (.inr (.inr (some 79))), some (.inl i)]) (st' := [.inl (i + 1), .inr (.inr (some 3000)), .inr (.inr (some 79))]) (w' := (SH, dt310)) rfl ?_
      have r521 := i32_R (xs ((i + 1).toNat))
      refine go_smpq PM267 (L' := [some (.inr (.inr (some 3000))), some (.inr (.inr (some 0))), some (.inr (.inr (some 79))), some (.inl i)]) (st' := [.inl ((xs ((i + 1).toNat)).toInt), .inr (.inr (some 79))]) (w' := (SH, dt310)) rfl rfl (s_iald (n := L) (f := fun j => (xs j).toInt) (am_scr hLL) ⟨by omega, by omega⟩) ?_
      refine go_ifq PM267 (k := 0) (p1 := 1404) (p2 := 1400) (L' := [some (.inr (.inr (some 3000))), some (.inr (.inr (some 0))), some (.inr (.inr (some 79))), some (.inl i)]) (st' := [.inr (.inr (some 79))]) (w' := (SH, dt310)) rfl (z_eq (a := (xs ((i + 1).toNat)).toInt) ⟨by omega, by omega⟩) (fun c522 => ?_) (fun c522 => ?_)
      · skip
        refine go_toq PM267 (k := 1) (pc' := 1405) (L' := [some (.inr (.inr (some 3000))), some (.inr (.inr (some 0))), some (.inr (.inr (some 79))), some (.inl i)]) (st' := [.inl 0, .inr (.inr (some 79))]) (w' := (SH, dt310)) rfl ?_
        refine go_callq PM267 PM247 (Q' := _) rfl rfl rfl rfl (sp_X6_image_0k L xs sio (d + 38) dt310 hI311 hM314   (by first | exact True.intro | with_reducible assumption | rfl | omega | trivial | exact M2520)) ?_
        rintro _ _ ⟨dt524, rfl, hI525, hF526, h523⟩
        refine ⟨rfl, ?_⟩
        have hF527 : Fr [0, 1, 2, 3, 4, 5, 6, 7, 8, 9, 10, 11, 12, 13, 14, 15, 16, 17, 18, 19, 20, 21, 22, 23, 24, 25, 26, 27, 28, 29, 30, 31, 32, 33, 34, 35, 36, 37, 38, 39, 40, 41, 42, 43, 44, 45, 46, 47, 48, 49, 50, 51, 52, 53, 54, 55, 56, 57, 58, 59, 60, 61, 62, 63, 64, 65, 66, 67, 68, 69, 70, 71, 72, 73, 74, 75, 76, 77, 78, 79, 80, 81, 82, 83, 84, 85, 86, 87, 88, 89, 90, 91, 92, 93, 94, 95, 96, 97, 98, 99, 100, 101, 102, 103, 104] dt dt524 := Fr_tr hF313 hF526 (by decide)
        have w528 : dt524 1 0 = dt310 1 0 := hF526 1 (by decide) 0
        have w529 : dt524 7 3 = dt310 7 3 := hF526 7 (by decide) 3
        have w530 : dt524 10 3 = dt310 10 3 := hF526 10 (by decide) 3
        have w531 : dt524 12 3 = dt310 12 3 := hF526 12 (by decide) 3
        have w532 : dt524 14 3 = dt310 14 3 := hF526 14 (by decide) 3
        have w533 : dt524 16 3 = dt310 16 3 := hF526 16 (by decide) 3
        have w534 : dt524 18 0 = dt310 18 0 := hF526 18 (by decide) 0
        have w535 : dt524 24 3 = dt310 24 3 := hF526 24 (by decide) 3
        have w536 : dt524 27 3 = dt310 27 3 := hF526 27 (by decide) 3
        have w537 : dt524 29 3 = dt310 29 3 := hF526 29 (by decide) 3
        have w538 : dt524 31 3 = dt310 31 3 := hF526 31 (by decide) 3
        have w539 : dt524 33 3 = dt310 33 3 := hF526 33 (by decide) 3
        have w540 : dt524 0 2 = dt310 0 2 := hF526 0 (by decide) 2
        have w541 : dt524 35 1 = dt310 35 1 := hF526 35 (by decide) 1
        have w542 : dt524 81 0 = dt310 81 0 := hF526 81 (by decide) 0
        have w543 : dt524 81 1 = dt310 81 1 := hF526 81 (by decide) 1
        have w544 : dt524 81 2 = dt310 81 2 := hF526 81 (by decide) 2
        have w545 : dt524 81 3 = dt310 81 3 := hF526 81 (by decide) 3
        have w546 : dt524 81 4 = dt310 81 4 := hF526 81 (by decide) 4
        have w547 : dt524 81 5 = dt310 81 5 := hF526 81 (by decide) 5
        rcases h523 with ⟨rfl, h523⟩ | ⟨rfl, h523⟩
        · skip
          have hM548 : MW (dt524 80) := h523.2.2.1
          obtain ⟨h523_0, h523_1, h523_2, h523_3, h523_4, h523_5, h523_6⟩ := h523
          have M2549 : MW (dt524 81) := MW_frk M2520 hF526 (by decide)
          have y550 := h523_4 0 (by decide)
          have y551 := h523_4 1 (by decide)
          have y552 := h523_4 2 (by decide)
          have y553 := h523_4 3 (by decide)
          have y554 := h523_4 4 (by decide)
          have y555 := h523_4 5 (by decide)
          have y556 := h523_5 0 (by decide)
          have y557 := h523_5 1 (by decide)
          have y558 := h523_5 2 (by decide)
          have y559 := h523_5 3 (by decide)
          have y560 := h523_5 4 (by decide)
          have y561 := h523_5 5 (by decide)
          refine go_toq PM267 (k := 2) (pc' := 1435) (L' := [some (.inr (.inr (some 3000))), some (.inr (.inr (some 0))), some (.inr (.inr (some 79))), some (.inl i)]) (st' := []) (w' := (SH, dt524)) rfl ?_
          exact K dt524 hI525 hM548 M2549 (by first | omega | (simp only [*]; done) | simp only [*]) (by omega) (by omega) (by omega) (by omega) (by omega) (by omega) (by omega) (by omega) (by omega) (by omega) (by omega) (by omega) (by omega)
        · skip
          have hM562 : MW (dt524 80) := h523.2.2.1
          obtain ⟨h523_0, h523_1, h523_2, h523_3, h523_4, h523_5, h523_6⟩ := h523
          have M2563 : MW (dt524 81) := MW_frk M2520 hF526 (by decide)
          have y564 := h523_4 0 (by decide)
          have y565 := h523_4 1 (by decide)
          have y566 := h523_4 2 (by decide)
          have y567 := h523_4 3 (by decide)
          have y568 := h523_4 4 (by decide)
          have y569 := h523_4 5 (by decide)
          have y570 := h523_5 0 (by decide)
          have y571 := h523_5 1 (by decide)
          have y572 := h523_5 2 (by decide)
          have y573 := h523_5 3 (by decide)
          have y574 := h523_5 4 (by decide)
          have y575 := h523_5 5 (by decide)
          refine go_toq PM267 (k := 2) (pc' := 1435) (L' := [some (.inr (.inr (some 3000))), some (.inr (.inr (some 0))), some (.inr (.inr (some 79))), some (.inl i)]) (st' := []) (w' := (SH, dt524)) rfl ?_
          exact K dt524 hI525 hM562 M2563 (by first | omega | (simp only [*]; done) | simp only [*]) (by omega) (by omega) (by omega) (by omega) (by omega) (by omega) (by omega) (by omega) (by omega) (by omega) (by omega) (by omega) (by omega)
      · skip
        refine go_toq PM267 (k := 2) (pc' := 1405) (L' := [some (.inr (.inr (some 3000))), some (.inr (.inr (some 0))), some (.inr (.inr (some 79))), some (.inl i)]) (st' := [.inl 1, .inr (.inr (some 79))]) (w' := (SH, dt310)) rfl ?_
        refine go_callq PM267 PM247 (Q' := _) rfl rfl rfl rfl (sp_X6_image_1k L xs sio (d + 38) dt310 hI311 hM314   ) ?_
        rintro _ _ ⟨dt577, rfl, hI578, hF579, h576⟩
        refine ⟨rfl, ?_⟩
        have hF580 : Fr [0, 1, 2, 3, 4, 5, 6, 7, 8, 9, 10, 11, 12, 13, 14, 15, 16, 17, 18, 19, 20, 21, 22, 23, 24, 25, 26, 27, 28, 29, 30, 31, 32, 33, 34, 35, 36, 37, 38, 39, 40, 41, 42, 43, 44, 45, 46, 47, 48, 49, 50, 51, 52, 53, 54, 55, 56, 57, 58, 59, 60, 61, 62, 63, 64, 65, 66, 67, 68, 69, 70, 71, 72, 73, 74, 75, 76, 77, 78, 79, 80, 81, 82, 83, 84, 85, 86, 87, 88, 89, 90, 91, 92, 93, 94, 95, 96, 97, 98, 99, 100, 101, 102, 103, 104] dt dt577 := Fr_tr hF313 hF579 (by decide)
        have hM581 : MW (dt577 80) := MW_fr hM314 hF579 (by decide)
        have w582 : dt577 1 0 = dt310 1 0 := hF579 1 (by decide) 0
        have w583 : dt577 7 3 = dt310 7 3 := hF579 7 (by decide) 3
        have w584 : dt577 10 3 = dt310 10 3 := hF579 10 (by decide) 3
        have w585 : dt577 12 3 = dt310 12 3 := hF579 12 (by decide) 3
        have w586 : dt577 14 3 = dt310 14 3 := hF579 14 (by decide) 3
        have w587 : dt577 16 3 = dt310 16 3 := hF579 16 (by decide) 3
        have w588 : dt577 18 0 = dt310 18 0 := hF579 18 (by decide) 0
        have w589 : dt577 24 3 = dt310 24 3 := hF579 24 (by decide) 3
        have w590 : dt577 27 3 = dt310 27 3 := hF579 27 (by decide) 3
        have w591 : dt577 29 3 = dt310 29 3 := hF579 29 (by decide) 3
        have w592 : dt577 31 3 = dt310 31 3 := hF579 31 (by decide) 3
        have w593 : dt577 33 3 = dt310 33 3 := hF579 33 (by decide) 3
        have w594 : dt577 0 2 = dt310 0 2 := hF579 0 (by decide) 2
        have w595 : dt577 35 1 = dt310 35 1 := hF579 35 (by decide) 1
        have w596 : dt577 80 0 = dt310 80 0 := hF579 80 (by decide) 0
        have w597 : dt577 80 1 = dt310 80 1 := hF579 80 (by decide) 1
        have w598 : dt577 80 2 = dt310 80 2 := hF579 80 (by decide) 2
        have w599 : dt577 80 3 = dt310 80 3 := hF579 80 (by decide) 3
        have w600 : dt577 80 4 = dt310 80 4 := hF579 80 (by decide) 4
        have w601 : dt577 80 5 = dt310 80 5 := hF579 80 (by decide) 5
        rcases h576 with ⟨rfl, h576⟩
        have hM602 : MW (dt577 80) := h576.2.1
        obtain ⟨h576_0, h576_1, h576_2, h576_3, h576_4, h576_5⟩ := h576
        have y603 := h576_3 0 (by decide)
        have y604 := h576_3 1 (by decide)
        have y605 := h576_3 2 (by decide)
        have y606 := h576_3 3 (by decide)
        have y607 := h576_3 4 (by decide)
        have y608 := h576_3 5 (by decide)
        have y609 := h576_4 0 (by decide)
        have y610 := h576_4 1 (by decide)
        have y611 := h576_4 2 (by decide)
        have y612 := h576_4 3 (by decide)
        have y613 := h576_4 4 (by decide)
        have y614 := h576_4 5 (by decide)
        refine go_toq PM267 (k := 2) (pc' := 1435) (L' := [some (.inr (.inr (some 3000))), some (.inr (.inr (some 0))), some (.inr (.inr (some 79))), some (.inl i)]) (st' := []) (w' := (SH, dt577)) rfl ?_
        exact K dt577 hI578 hM602 h576_2 (by first | omega | (simp only [*]; done) | simp only [*]) (by omega) (by omega) (by omega) (by omega) (by omega) (by omega) (by omega) (by omega) (by omega) (by omega) (by omega) (by omega) (by omega)
set_option maxRecDepth 20000 in
set_option maxHeartbeats 8000000 in
theorem sp_case32 (L : Nat) (xs : Nat → Int32) (sio : Option Nat) (d : Nat) (Q : Option AV → am_W → Prop) (hLL : L ≤ 3072) (i : Int) (hi : 0 ≤ i ∧ i ≤ 3066) (hil : i ≤ (L : Int) - 6) (dt : Nat → Nat → Int) (hI : InvC dt) (hM : MW (dt 80)) (hM2 : MW (dt 81)) (hk0 : dt 1 0 = dt 80 0) (hk1 : dt 7 3 = dt 80 1) (hk2 : dt 10 3 = dt 80 2) (hk3 : dt 12 3 = dt 80 3) (hk4 : dt 14 3 = dt 80 4) (hk5 : dt 16 3 = dt 80 5) (hk6 : dt 18 0 = dt 81 0) (hk7 : dt 24 3 = dt 81 1) (hk8 : dt 27 3 = dt 81 2) (hk9 : dt 29 3 = dt 81 3) (hk10 : dt 31 3 = dt 81 4) (hk11 : dt 33 3 = dt 81 5) (hk12 : dt 0 2 = dt 79 2) (hk13 : dt 35 1 = dt 79 12) (K : ∀ (dt : Nat → Nat → Int) (hI : InvC dt) (hM : MW (dt 80)) (hM2 : MW (dt 81)) (hk0 : dt 1 0 = dt 80 0) (hk1 : dt 7 3 = dt 80 1) (hk2 : dt 10 3 = dt 80 2) (hk3 : dt 12 3 = dt 80 3) (hk4 : dt 14 3 = dt 80 4) (hk5 : dt 16 3 = dt 80 5) (hk6 : dt 18 0 = dt 81 0) (hk7 : dt 24 3 = dt 81 1) (hk8 : dt 27 3 = dt 81 2) (hk9 : dt 29 3 = dt 81 3) (hk10 : dt 31 3 = dt 81 4) (hk11 : dt 33 3 = dt 81 5) (hk12 : dt 0 2 = dt 79 2) (hk13 : dt 35 1 = dt 79 12), GO (am_XX L xs sio) (d + 39) 267 1435 [some (.inr (.inr (some 3000))), some (.inr (.inr (some 0))), some (.inr (.inr (some 79))), some (.inl i)] [] (SH, dt) Q) : GO (am_XX L xs sio) (d + 39) 267 1412 [some (.inr (.inr (some 3000))), some (.inr (.inr (some 0))), some (.inr (.inr (some 79))), some (.inl i)] [] (SH, dt) Q := by
  have hF : Fr [0, 1, 2, 3, 4, 5, 6, 7, 8, 9, 10, 11, 12, 13, 14, 15, 16, 17, 18, 19, 20, 21, 22, 23, 24, 25, 26, 27, 28, 29, 30, 31, 32, 33, 34, 35, 36, 37, 38, 39, 40, 41, 42, 43, 44, 45, 46, 47, 48, 49, 50, 51, 52, 53, 54, 55, 56, 57, 58, 59, 60, 61, 62, 63, 64, 65, 66, 67, 68, 69, 70, 71, 72, 73, 74, 75, 76, 77, 78, 79, 80, 81, 82, 83, 84, 85, 86, 87, 88, 89, 90, 91, 92, 93, 94, 95, 96, 97, 98, 99, 100, 101, 102, 103, 104] dt dt := Fr_refl
  refine go_toq PM267 (k := 5) (pc' := 1417) (L' := [some (.inr (.inr (some 3000))), some (.inr (.inr (some 0))), some (.inr (.inr (some 79))), some (.inl i)]) (st' := [.inl (i + 1), .inr (.inr (some 3000)), .inr (.inr (some 0))]) (w' := (SH, dt)) rfl ?_
  have r1 := i32_R (xs ((i + 1).toNat))
  refine go_smpq PM267 (L' := [some (.inr (.inr (some 3000))), some (.inr (.inr (some 0))), some (.inr (.inr (some 79))), some (.inl i)]) (st' := [.inl ((xs ((i + 1).toNat)).toInt), .inr (.inr (some 0))]) (w' := (SH, dt)) rfl rfl (s_iald (n := L) (f := fun j => (xs j).toInt) (am_scr hLL) ⟨by omega, by omega⟩) ?_
  refine go_callq PM267 PM99 (Q' := _) rfl rfl rfl rfl (sp_X5_look L xs sio (d + 38) dt hI  ((xs ((i + 1).toNat)).toInt) ⟨by omega, by omega⟩ ) ?_
  rintro _ _ ⟨rfl, h2⟩
  refine ⟨rfl, ?_⟩
  rcases h2 with ⟨rfl, h2⟩ | ⟨rfl, h2⟩ | ⟨rfl, h2⟩ | ⟨rfl, h2⟩ | ⟨rfl, h2⟩ | ⟨rfl, h2⟩ | ⟨rfl, h2⟩ | ⟨rfl, h2⟩ | ⟨rfl, h2⟩
  · skip
    refine go_toq PM267 (k := 6) (pc' := 1427) (L' := [some (.inr (.inr (some 3000))), some (.inr (.inr (some 0))), some (.inr (.inr (some 79))), some (.inl i)]) (st' := [.inl (i + 1), .inr (.inr (some 3000)), .inr (.inr (some 79))]) (w' := (SH, dt)) rfl ?_
    refine go_smpq PM267 (L' := [some (.inr (.inr (some 3000))), some (.inr (.inr (some 0))), some (.inr (.inr (some 79))), some (.inl i)]) (st' := [.inl ((xs ((i + 1).toNat)).toInt), .inr (.inr (some 79))]) (w' := (SH, dt)) rfl rfl (s_iald (n := L) (f := fun j => (xs j).toInt) (am_scr hLL) ⟨by omega, by omega⟩) ?_
    refine go_callq PM267 PM248 (Q' := _) rfl rfl rfl rfl (sp_X6_look L xs sio (d + 38) dt hI  ((xs ((i + 1).toNat)).toInt) ⟨by omega, by omega⟩ ) ?_
    rintro _ _ ⟨rfl, h3⟩
    refine ⟨rfl, ?_⟩
    rcases h3 with ⟨rfl, h3⟩ | ⟨rfl, h3⟩ | ⟨rfl, h3⟩ | ⟨rfl, h3⟩ | ⟨rfl, h3⟩ | ⟨rfl, h3⟩ | ⟨rfl, h3⟩ | ⟨rfl, h3⟩ | ⟨rfl, h3⟩
    · skip
      refine go_toq PM267 (k := 2) (pc' := 1435) (L' := [some (.inr (.inr (some 3000))), some (.inr (.inr (some 0))), some (.inr (.inr (some 79))), some (.inl i)]) (st' := []) (w' := (SH, dt)) rfl ?_
      exact K dt hI hM hM2 (by first | omega | (simp only [*]; done) | simp only [*]) (by omega) (by omega) (by omega) (by omega) (by omega) (by omega) (by omega) (by omega) (by omega) (by omega) (by omega) (by omega) (by omega)
    · skip
      refine go_toq PM267 (k := 2) (pc' := 1435) (L' := [some (.inr (.inr (some 3000))), some (.inr (.inr (some 0))), some (.inr (.inr (some 79))), some (.inl i)]) (st' := []) (w' := (SH, dt)) rfl ?_
      exact K dt hI hM hM2 (by first | omega | (simp only [*]; done) | simp only [*]) (by omega) (by omega) (by omega) (by omega) (by omega) (by omega) (by omega) (by omega) (by omega) (by omega) (by omega) (by omega) (by omega)
    · skip
      refine go_toq PM267 (k := 2) (pc' := 1435) (L' := [some (.inr (.inr (some 3000))), some (.inr (.inr (some 0))), some (.inr (.inr (some 79))), some (.inl i)]) (st' := []) (w' := (SH, dt)) rfl ?_
      exact K dt hI hM hM2 (by first | omega | (simp only [*]; done) | simp only [*]) (by omega) (by omega) (by omega) (by omega) (by omega) (by omega) (by omega) (by omega) (by omega) (by omega) (by omega) (by omega) (by omega)
    · skip
      refine go_toq PM267 (k := 2) (pc' := 1435) (L' := [some (.inr (.inr (some 3000))), some (.inr (.inr (some 0))), some (.inr (.inr (some 79))), some (.inl i)]) (st' := []) (w' := (SH, dt)) rfl ?_
      exact K dt hI hM hM2 (by first | omega | (simp only [*]; done) | simp only [*]) (by omega) (by omega) (by omega) (by omega) (by omega) (by omega) (by omega) (by omega) (by omega) (by omega) (by omega) (by omega) (by omega)
    · skip
      refine go_toq PM267 (k := 2) (pc' := 1435) (L' := [some (.inr (.inr (some 3000))), some (.inr (.inr (some 0))), some (.inr (.inr (some 79))), some (.inl i)]) (st' := []) (w' := (SH, dt)) rfl ?_
      exact K dt hI hM hM2 (by first | omega | (simp only [*]; done) | simp only [*]) (by omega) (by omega) (by omega) (by omega) (by omega) (by omega) (by omega) (by omega) (by omega) (by omega) (by omega) (by omega) (by omega)
    · skip
      refine go_toq PM267 (k := 2) (pc' := 1435) (L' := [some (.inr (.inr (some 3000))), some (.inr (.inr (some 0))), some (.inr (.inr (some 79))), some (.inl i)]) (st' := []) (w' := (SH, dt)) rfl ?_
      exact K dt hI hM hM2 (by first | omega | (simp only [*]; done) | simp only [*]) (by omega) (by omega) (by omega) (by omega) (by omega) (by omega) (by omega) (by omega) (by omega) (by omega) (by omega) (by omega) (by omega)
    · skip
      obtain ⟨h3_0, h3_1⟩ := h3
      refine go_toq PM267 (k := 2) (pc' := 1435) (L' := [some (.inr (.inr (some 3000))), some (.inr (.inr (some 0))), some (.inr (.inr (some 79))), some (.inl i)]) (st' := []) (w' := (SH, dt)) rfl ?_
      exact K dt hI hM hM2 (by first | omega | (simp only [*]; done) | simp only [*]) (by omega) (by omega) (by omega) (by omega) (by omega) (by omega) (by omega) (by omega) (by omega) (by omega) (by omega) (by omega) (by omega)
    · skip
      obtain ⟨h3_0, h3_1⟩ := h3
      refine go_toq PM267 (k := 2) (pc' := 1435) (L' := [some (.inr (.inr (some 3000))), some (.inr (.inr (some 0))), some (.inr (.inr (some 79))), some (.inl i)]) (st' := []) (w' := (SH, dt)) rfl ?_
      exact K dt hI hM hM2 (by first | omega | (simp only [*]; done) | simp only [*]) (by omega) (by omega) (by omega) (by omega) (by omega) (by omega) (by omega) (by omega) (by omega) (by omega) (by omega) (by omega) (by omega)
    · skip
      refine go_toq PM267 (k := 2) (pc' := 1435) (L' := [some (.inr (.inr (some 3000))), some (.inr (.inr (some 0))), some (.inr (.inr (some 79))), some (.inl i)]) (st' := []) (w' := (SH, dt)) rfl ?_
      exact K dt hI hM hM2 (by first | omega | (simp only [*]; done) | simp only [*]) (by omega) (by omega) (by omega) (by omega) (by omega) (by omega) (by omega) (by omega) (by omega) (by omega) (by omega) (by omega) (by omega)
  · skip
    refine go_toq PM267 (k := 6) (pc' := 1427) (L' := [some (.inr (.inr (some 3000))), some (.inr (.inr (some 0))), some (.inr (.inr (some 79))), some (.inl i)]) (st' := [.inl (i + 1), .inr (.inr (some 3000)), .inr (.inr (some 79))]) (w' := (SH, dt)) rfl ?_
    refine go_smpq PM267 (L' := [some (.inr (.inr (some 3000))), some (.inr (.inr (some 0))), some (.inr (.inr (some 79))), some (.inl i)]) (st' := [.inl ((xs ((i + 1).toNat)).toInt), .inr (.inr (some 79))]) (w' := (SH, dt)) rfl rfl (s_iald (n := L) (f := fun j => (xs j).toInt) (am_scr hLL) ⟨by omega, by omega⟩) ?_
    refine go_callq PM267 PM248 (Q' := _) rfl rfl rfl rfl (sp_X6_look L xs sio (d + 38) dt hI  ((xs ((i + 1).toNat)).toInt) ⟨by omega, by omega⟩ ) ?_
    rintro _ _ ⟨rfl, h4⟩
    refine ⟨rfl, ?_⟩
    rcases h4 with ⟨rfl, h4⟩ | ⟨rfl, h4⟩ | ⟨rfl, h4⟩ | ⟨rfl, h4⟩ | ⟨rfl, h4⟩ | ⟨rfl, h4⟩ | ⟨rfl, h4⟩ | ⟨rfl, h4⟩ | ⟨rfl, h4⟩
    · skip
      refine go_toq PM267 (k := 2) (pc' := 1435) (L' := [some (.inr (.inr (some 3000))), some (.inr (.inr (some 0))), some (.inr (.inr (some 79))), some (.inl i)]) (st' := []) (w' := (SH, dt)) rfl ?_
      exact K dt hI hM hM2 (by first | omega | (simp only [*]; done) | simp only [*]) (by omega) (by omega) (by omega) (by omega) (by omega) (by omega) (by omega) (by omega) (by omega) (by omega) (by omega) (by omega) (by omega)
    · skip
      refine go_toq PM267 (k := 2) (pc' := 1435) (L' := [some (.inr (.inr (some 3000))), some (.inr (.inr (some 0))), some (.inr (.inr (some 79))), some (.inl i)]) (st' := []) (w' := (SH, dt)) rfl ?_
      exact K dt hI hM hM2 (by first | omega | (simp only [*]; done) | simp only [*]) (by omega) (by omega) (by omega) (by omega) (by omega) (by omega) (by omega) (by omega) (by omega) (by omega) (by omega) (by omega) (by omega)
    · skip
      refine go_toq PM267 (k := 2) (pc' := 1435) (L' := [some (.inr (.inr (some 3000))), some (.inr (.inr (some 0))), some (.inr (.inr (some 79))), some (.inl i)]) (st' := []) (w' := (SH, dt)) rfl ?_
      exact K dt hI hM hM2 (by first | omega | (simp only [*]; done) | simp only [*]) (by omega) (by omega) (by omega) (by omega) (by omega) (by omega) (by omega) (by omega) (by omega) (by omega) (by omega) (by omega) (by omega)
    · skip
      refine go_toq PM267 (k := 2) (pc' := 1435) (L' := [some (.inr (.inr (some 3000))), some (.inr (.inr (some 0))), some (.inr (.inr (some 79))), some (.inl i)]) (st' := []) (w' := (SH, dt)) rfl ?_
      exact K dt hI hM hM2 (by first | omega | (simp only [*]; done) | simp only [*]) (by omega) (by omega) (by omega) (by omega) (by omega) (by omega) (by omega) (by omega) (by omega) (by omega) (by omega) (by omega) (by omega)
    · skip
      refine go_toq PM267 (k := 2) (pc' := 1435) (L' := [some (.inr (.inr (some 3000))), some (.inr (.inr (some 0))), some (.inr (.inr (some 79))), some (.inl i)]) (st' := []) (w' := (SH, dt)) rfl ?_
      exact K dt hI hM hM2 (by first | omega | (simp only [*]; done) | simp only [*]) (by omega) (by omega) (by omega) (by omega) (by omega) (by omega) (by omega) (by omega) (by omega) (by omega) (by omega) (by omega) (by omega)
    · skip
      refine go_toq PM267 (k := 2) (pc' := 1435) (L' := [some (.inr (.inr (some 3000))), some (.inr (.inr (some 0))), some (.inr (.inr (some 79))), some (.inl i)]) (st' := []) (w' := (SH, dt)) rfl ?_
      exact K dt hI hM hM2 (by first | omega | (simp only [*]; done) | simp only [*]) (by omega) (by omega) (by omega) (by omega) (by omega) (by omega) (by omega) (by omega) (by omega) (by omega) (by omega) (by omega) (by omega)
    · skip
      obtain ⟨h4_0, h4_1⟩ := h4
      refine go_toq PM267 (k := 2) (pc' := 1435) (L' := [some (.inr (.inr (some 3000))), some (.inr (.inr (some 0))), some (.inr (.inr (some 79))), some (.inl i)]) (st' := []) (w' := (SH, dt)) rfl ?_
      exact K dt hI hM hM2 (by first | omega | (simp only [*]; done) | simp only [*]) (by omega) (by omega) (by omega) (by omega) (by omega) (by omega) (by omega) (by omega) (by omega) (by omega) (by omega) (by omega) (by omega)
    · skip
      obtain ⟨h4_0, h4_1⟩ := h4
      refine go_toq PM267 (k := 2) (pc' := 1435) (L' := [some (.inr (.inr (some 3000))), some (.inr (.inr (some 0))), some (.inr (.inr (some 79))), some (.inl i)]) (st' := []) (w' := (SH, dt)) rfl ?_
      exact K dt hI hM hM2 (by first | omega | (simp only [*]; done) | simp only [*]) (by omega) (by omega) (by omega) (by omega) (by omega) (by omega) (by omega) (by omega) (by omega) (by omega) (by omega) (by omega) (by omega)
    · skip
      refine go_toq PM267 (k := 2) (pc' := 1435) (L' := [some (.inr (.inr (some 3000))), some (.inr (.inr (some 0))), some (.inr (.inr (some 79))), some (.inl i)]) (st' := []) (w' := (SH, dt)) rfl ?_
      exact K dt hI hM hM2 (by first | omega | (simp only [*]; done) | simp only [*]) (by omega) (by omega) (by omega) (by omega) (by omega) (by omega) (by omega) (by omega) (by omega) (by omega) (by omega) (by omega) (by omega)
  · skip
    refine go_toq PM267 (k := 6) (pc' := 1427) (L' := [some (.inr (.inr (some 3000))), some (.inr (.inr (some 0))), some (.inr (.inr (some 79))), some (.inl i)]) (st' := [.inl (i + 1), .inr (.inr (some 3000)), .inr (.inr (some 79))]) (w' := (SH, dt)) rfl ?_
    refine go_smpq PM267 (L' := [some (.inr (.inr (some 3000))), some (.inr (.inr (some 0))), some (.inr (.inr (some 79))), some (.inl i)]) (st' := [.inl ((xs ((i + 1).toNat)).toInt), .inr (.inr (some 79))]) (w' := (SH, dt)) rfl rfl (s_iald (n := L) (f := fun j => (xs j).toInt) (am_scr hLL) ⟨by omega, by omega⟩) ?_
    refine go_callq PM267 PM248 (Q' := _) rfl rfl rfl rfl (sp_X6_look L xs sio (d + 38) dt hI  ((xs ((i + 1).toNat)).toInt) ⟨by omega, by omega⟩ ) ?_
    rintro _ _ ⟨rfl, h5⟩
    refine ⟨rfl, ?_⟩
    rcases h5 with ⟨rfl, h5⟩ | ⟨rfl, h5⟩ | ⟨rfl, h5⟩ | ⟨rfl, h5⟩ | ⟨rfl, h5⟩ | ⟨rfl, h5⟩ | ⟨rfl, h5⟩ | ⟨rfl, h5⟩ | ⟨rfl, h5⟩
    · skip
      refine go_toq PM267 (k := 2) (pc' := 1435) (L' := [some (.inr (.inr (some 3000))), some (.inr (.inr (some 0))), some (.inr (.inr (some 79))), some (.inl i)]) (st' := []) (w' := (SH, dt)) rfl ?_
      exact K dt hI hM hM2 (by first | omega | (simp only [*]; done) | simp only [*]) (by omega) (by omega) (by omega) (by omega) (by omega) (by omega) (by omega) (by omega) (by omega) (by omega) (by omega) (by omega) (by omega)
    · skip
      refine go_toq PM267 (k := 2) (pc' := 1435) (L' := [some (.inr (.inr (some 3000))), some (.inr (.inr (some 0))), some (.inr (.inr (some 79))), some (.inl i)]) (st' := []) (w' := (SH, dt)) rfl ?_
      exact K dt hI hM hM2 (by first | omega | (simp only [*]; done) | simp only [*]) (by omega) (by omega) (by omega) (by omega) (by omega) (by omega) (by omega) (by omega) (by omega) (by omega) (by omega) (by omega) (by omega)
    · skip
      refine go_toq PM267 (k := 2) (pc' := 1435) (L' := [some (.inr (.inr (some 3000))), some (.inr (.inr (some 0))), some (.inr (.inr (some 79))), some (.inl i)]) (st' := []) (w' := (SH, dt)) rfl ?_
      exact K dt hI hM hM2 (by first | omega | (simp only [*]; done) | simp only [*]) (by omega) (by omega) (by omega) (by omega) (by omega) (by omega) (by omega) (by omega) (by omega) (by omega) (by omega) (by omega) (by omega)
    · skip
      refine go_toq PM267 (k := 2) (pc' := 1435) (L' := [some (.inr (.inr (some 3000))), some (.inr (.inr (some 0))), some (.inr (.inr (some 79))), some (.inl i)]) (st' := []) (w' := (SH, dt)) rfl ?_
      exact K dt hI hM hM2 (by first | omega | (simp only [*]; done) | simp only [*]) (by omega) (by omega) (by omega) (by omega) (by omega) (by omega) (by omega) (by omega) (by omega) (by omega) (by omega) (by omega) (by omega)
    · skip
      refine go_toq PM267 (k := 2) (pc' := 1435) (L' := [some (.inr (.inr (some 3000))), some (.inr (.inr (some 0))), some (.inr (.inr (some 79))), some (.inl i)]) (st' := []) (w' := (SH, dt)) rfl ?_
      exact K dt hI hM hM2 (by first | omega | (simp only [*]; done) | simp only [*]) (by omega) (by omega) (by omega) (by omega) (by omega) (by omega) (by omega) (by omega) (by omega) (by omega) (by omega) (by omega) (by omega)
    · skip
      refine go_toq PM267 (k := 2) (pc' := 1435) (L' := [some (.inr (.inr (some 3000))), some (.inr (.inr (some 0))), some (.inr (.inr (some 79))), some (.inl i)]) (st' := []) (w' := (SH, dt)) rfl ?_
      exact K dt hI hM hM2 (by first | omega | (simp only [*]; done) | simp only [*]) (by omega) (by omega) (by omega) (by omega) (by omega) (by omega) (by omega) (by omega) (by omega) (by omega) (by omega) (by omega) (by omega)
    · skip
      obtain ⟨h5_0, h5_1⟩ := h5
      refine go_toq PM267 (k := 2) (pc' := 1435) (L' := [some (.inr (.inr (some 3000))), some (.inr (.inr (some 0))), some (.inr (.inr (some 79))), some (.inl i)]) (st' := []) (w' := (SH, dt)) rfl ?_
      exact K dt hI hM hM2 (by first | omega | (simp only [*]; done) | simp only [*]) (by omega) (by omega) (by omega) (by omega) (by omega) (by omega) (by omega) (by omega) (by omega) (by omega) (by omega) (by omega) (by omega)
    · skip
      obtain ⟨h5_0, h5_1⟩ := h5
      refine go_toq PM267 (k := 2) (pc' := 1435) (L' := [some (.inr (.inr (some 3000))), some (.inr (.inr (some 0))), some (.inr (.inr (some 79))), some (.inl i)]) (st' := []) (w' := (SH, dt)) rfl ?_
      exact K dt hI hM hM2 (by first | omega | (simp only [*]; done) | simp only [*]) (by omega) (by omega) (by omega) (by omega) (by omega) (by omega) (by omega) (by omega) (by omega) (by omega) (by omega) (by omega) (by omega)
    · skip
      refine go_toq PM267 (k := 2) (pc' := 1435) (L' := [some (.inr (.inr (some 3000))), some (.inr (.inr (some 0))), some (.inr (.inr (some 79))), some (.inl i)]) (st' := []) (w' := (SH, dt)) rfl ?_
      exact K dt hI hM hM2 (by first | omega | (simp only [*]; done) | simp only [*]) (by omega) (by omega) (by omega) (by omega) (by omega) (by omega) (by omega) (by omega) (by omega) (by omega) (by omega) (by omega) (by omega)
  · skip
    refine go_toq PM267 (k := 6) (pc' := 1427) (L' := [some (.inr (.inr (some 3000))), some (.inr (.inr (some 0))), some (.inr (.inr (some 79))), some (.inl i)]) (st' := [.inl (i + 1), .inr (.inr (some 3000)), .inr (.inr (some 79))]) (w' := (SH, dt)) rfl ?_
    refine go_smpq PM267 (L' := [some (.inr (.inr (some 3000))), some (.inr (.inr (some 0))), some (.inr (.inr (some 79))), some (.inl i)]) (st' := [.inl ((xs ((i + 1).toNat)).toInt), .inr (.inr (some 79))]) (w' := (SH, dt)) rfl rfl (s_iald (n := L) (f := fun j => (xs j).toInt) (am_scr hLL) ⟨by omega, by omega⟩) ?_
    refine go_callq PM267 PM248 (Q' := _) rfl rfl rfl rfl (sp_X6_look L xs sio (d + 38) dt hI  ((xs ((i + 1).toNat)).toInt) ⟨by omega, by omega⟩ ) ?_
    rintro _ _ ⟨rfl, h6⟩
    refine ⟨rfl, ?_⟩
    rcases h6 with ⟨rfl, h6⟩ | ⟨rfl, h6⟩ | ⟨rfl, h6⟩ | ⟨rfl, h6⟩ | ⟨rfl, h6⟩ | ⟨rfl, h6⟩ | ⟨rfl, h6⟩ | ⟨rfl, h6⟩ | ⟨rfl, h6⟩
    · skip
      refine go_toq PM267 (k := 2) (pc' := 1435) (L' := [some (.inr (.inr (some 3000))), some (.inr (.inr (some 0))), some (.inr (.inr (some 79))), some (.inl i)]) (st' := []) (w' := (SH, dt)) rfl ?_
      exact K dt hI hM hM2 (by first | omega | (simp only [*]; done) | simp only [*]) (by omega) (by omega) (by omega) (by omega) (by omega) (by omega) (by omega) (by omega) (by omega) (by omega) (by omega) (by omega) (by omega)
    · skip
      refine go_toq PM267 (k := 2) (pc' := 1435) (L' := [some (.inr (.inr (some 3000))), some (.inr (.inr (some 0))), some (.inr (.inr (some 79))), some (.inl i)]) (st' := []) (w' := (SH, dt)) rfl ?_
      exact K dt hI hM hM2 (by first | omega | (simp only [*]; done) | simp only [*]) (by omega) (by omega) (by omega) (by omega) (by omega) (by omega) (by omega) (by omega) (by omega) (by omega) (by omega) (by omega) (by omega)
    · skip
      refine go_toq PM267 (k := 2) (pc' := 1435) (L' := [some (.inr (.inr (some 3000))), some (.inr (.inr (some 0))), some (.inr (.inr (some 79))), some (.inl i)]) (st' := []) (w' := (SH, dt)) rfl ?_
      exact K dt hI hM hM2 (by first | omega | (simp only [*]; done) | simp only [*]) (by omega) (by omega) (by omega) (by omega) (by omega) (by omega) (by omega) (by omega) (by omega) (by omega) (by omega) (by omega) (by omega)
    · skip
      refine go_toq PM267 (k := 2) (pc' := 1435) (L' := [some (.inr (.inr (some 3000))), some (.inr (.inr (some 0))), some (.inr (.inr (some 79))), some (.inl i)]) (st' := []) (w' := (SH, dt)) rfl ?_
      exact K dt hI hM hM2 (by first | omega | (simp only [*]; done) | simp only [*]) (by omega) (by omega) (by omega) (by omega) (by omega) (by omega) (by omega) (by omega) (by omega) (by omega) (by omega) (by omega) (by omega)
    · skip
      refine go_toq PM267 (k := 2) (pc' := 1435) (L' := [some (.inr (.inr (some 3000))), some (.inr (.inr (some 0))), some (.inr (.inr (some 79))), some (.inl i)]) (st' := []) (w' := (SH, dt)) rfl ?_
      exact K dt hI hM hM2 (by first | omega | (simp only [*]; done) | simp only [*]) (by omega) (by omega) (by omega) (by omega) (by omega) (by omega) (by omega) (by omega) (by omega) (by omega) (by omega) (by omega) (by omega)
    · skip
      refine go_toq PM267 (k := 2) (pc' := 1435) (L' := [some (.inr (.inr (some 3000))), some (.inr (.inr (some 0))), some (.inr (.inr (some 79))), some (.inl i)]) (st' := []) (w' := (SH, dt)) rfl ?_
      exact K dt hI hM hM2 (by first | omega | (simp only [*]; done) | simp only [*]) (by omega) (by omega) (by omega) (by omega) (by omega) (by omega) (by omega) (by omega) (by omega) (by omega) (by omega) (by omega) (by omega)
    · skip
      obtain ⟨h6_0, h6_1⟩ := h6
      refine go_toq PM267 (k := 2) (pc' := 1435) (L' := [some (.inr (.inr (some 3000))), some (.inr (.inr (some 0))), some (.inr (.inr (some 79))), some (.inl i)]) (st' := []) (w' := (SH, dt)) rfl ?_
      exact K dt hI hM hM2 (by first | omega | (simp only [*]; done) | simp only [*]) (by omega) (by omega) (by omega) (by omega) (by omega) (by omega) (by omega) (by omega) (by omega) (by omega) (by omega) (by omega) (by omega)
    · skip
      obtain ⟨h6_0, h6_1⟩ := h6
      refine go_toq PM267 (k := 2) (pc' := 1435) (L' := [some (.inr (.inr (some 3000))), some (.inr (.inr (some 0))), some (.inr (.inr (some 79))), some (.inl i)]) (st' := []) (w' := (SH, dt)) rfl ?_
      exact K dt hI hM hM2 (by first | omega | (simp only [*]; done) | simp only [*]) (by omega) (by omega) (by omega) (by omega) (by omega) (by omega) (by omega) (by omega) (by omega) (by omega) (by omega) (by omega) (by omega)
    · skip
      refine go_toq PM267 (k := 2) (pc' := 1435) (L' := [some (.inr (.inr (some 3000))), some (.inr (.inr (some 0))), some (.inr (.inr (some 79))), some (.inl i)]) (st' := []) (w' := (SH, dt)) rfl ?_
      exact K dt hI hM hM2 (by first | omega | (simp only [*]; done) | simp only [*]) (by omega) (by omega) (by omega) (by omega) (by omega) (by omega) (by omega) (by omega) (by omega) (by omega) (by omega) (by omega) (by omega)
  · skip
    refine go_toq PM267 (k := 6) (pc' := 1427) (L' := [some (.inr (.inr (some 3000))), some (.inr (.inr (some 0))), some (.inr (.inr (some 79))), some (.inl i)]) (st' := [.inl (i + 1), .inr (.inr (some 3000)), .inr (.inr (some 79))]) (w' := (SH, dt)) rfl ?_
    refine go_smpq PM267 (L' := [some (.inr (.inr (some 3000))), some (.inr (.inr (some 0))), some (.inr (.inr (some 79))), some (.inl i)]) (st' := [.inl ((xs ((i + 1).toNat)).toInt), .inr (.inr (some 79))]) (w' := (SH, dt)) rfl rfl (s_iald (n := L) (f := fun j => (xs j).toInt) (am_scr hLL) ⟨by omega, by omega⟩) ?_
    refine go_callq PM267 PM248 (Q' := _) rfl rfl rfl rfl (sp_X6_look L xs sio (d + 38) dt hI  ((xs ((i + 1).toNat)).toInt) ⟨by omega, by omega⟩ ) ?_
    rintro _ _ ⟨rfl, h7⟩
    refine ⟨rfl, ?_⟩
    rcases h7 with ⟨rfl, h7⟩ | ⟨rfl, h7⟩ | ⟨rfl, h7⟩ | ⟨rfl, h7⟩ | ⟨rfl, h7⟩ | ⟨rfl, h7⟩ | ⟨rfl, h7⟩ | ⟨rfl, h7⟩ | ⟨rfl, h7⟩
    · skip
      refine go_toq PM267 (k := 2) (pc' := 1435) (L' := [some (.inr (.inr (some 3000))), some (.inr (.inr (some 0))), some (.inr (.inr (some 79))), some (.inl i)]) (st' := []) (w' := (SH, dt)) rfl ?_
      exact K dt hI hM hM2 (by first | omega | (simp only [*]; done) | simp only [*]) (by omega) (by omega) (by omega) (by omega) (by omega) (by omega) (by omega) (by omega) (by omega) (by omega) (by omega) (by omega) (by omega)
    · skip
      refine go_toq PM267 (k := 2) (pc' := 1435) (L' := [some (.inr (.inr (some 3000))), some (.inr (.inr (some 0))), some (.inr (.inr (some 79))), some (.inl i)]) (st' := []) (w' := (SH, dt)) rfl ?_
      exact K dt hI hM hM2 (by first | omega | (simp only [*]; done) | simp only [*]) (by omega) (by omega) (by omega) (by omega) (by omega) (by omega) (by omega) (by omega) (by omega) (by omega) (by omega) (by omega) (by omega)
    · skip
      refine go_toq PM267 (k := 2) (pc' := 1435) (L' := [some (.inr (.inr (some 3000))), some (.inr (.inr (some 0))), some (.inr (.inr (some 79))), some (.inl i)]) (st' := []) (w' := (SH, dt)) rfl ?_
      exact K dt hI hM hM2 (by first | omega | (simp only [*]; done) | simp only [*]) (by omega) (by omega) (by omega) (by omega) (by omega) (by omega) (by omega) (by omega) (by omega) (by omega) (by omega) (by omega) (by omega)
    · skip
      refine go_toq PM267 (k := 2) (pc' := 1435) (L' := [some (.inr (.inr (some 3000))), some (.inr (.inr (some 0))), some (.inr (.inr (some 79))), some (.inl i)]) (st' := []) (w' := (SH, dt)) rfl ?_
      exact K dt hI hM hM2 (by first | omega | (simp only [*]; done) | simp only [*]) (by omega) (by omega) (by omega) (by omega) (by omega) (by omega) (by omega) (by omega) (by omega) (by omega) (by omega) (by omega) (by omega)
    · skip
      refine go_toq PM267 (k := 2) (pc' := 1435) (L' := [some (.inr (.inr (some 3000))), some (.inr (.inr (some 0))), some (.inr (.inr (some 79))), some (.inl i)]) (st' := []) (w' := (SH, dt)) rfl ?_
      exact K dt hI hM hM2 (by first | omega | (simp only [*]; done) | simp only [*]) (by omega) (by omega) (by omega) (by omega) (by omega) (by omega) (by omega) (by omega) (by omega) (by omega) (by omega) (by omega) (by omega)
    · skip
      refine go_toq PM267 (k := 2) (pc' := 1435) (L' := [some (.inr (.inr (some 3000))), some (.inr (.inr (some 0))), some (.inr (.inr (some 79))), some (.inl i)]) (st' := []) (w' := (SH, dt)) rfl ?_
      exact K dt hI hM hM2 (by first | omega | (simp only [*]; done) | simp only [*]) (by omega) (by omega) (by omega) (by omega) (by omega) (by omega) (by omega) (by omega) (by omega) (by omega) (by omega) (by omega) (by omega)
    · skip
      obtain ⟨h7_0, h7_1⟩ := h7
      refine go_toq PM267 (k := 2) (pc' := 1435) (L' := [some (.inr (.inr (some 3000))), some (.inr (.inr (some 0))), some (.inr (.inr (some 79))), some (.inl i)]) (st' := []) (w' := (SH, dt)) rfl ?_
      exact K dt hI hM hM2 (by first | omega | (simp only [*]; done) | simp only [*]) (by omega) (by omega) (by omega) (by omega) (by omega) (by omega) (by omega) (by omega) (by omega) (by omega) (by omega) (by omega) (by omega)
    · skip
      obtain ⟨h7_0, h7_1⟩ := h7
      refine go_toq PM267 (k := 2) (pc' := 1435) (L' := [some (.inr (.inr (some 3000))), some (.inr (.inr (some 0))), some (.inr (.inr (some 79))), some (.inl i)]) (st' := []) (w' := (SH, dt)) rfl ?_
      exact K dt hI hM hM2 (by first | omega | (simp only [*]; done) | simp only [*]) (by omega) (by omega) (by omega) (by omega) (by omega) (by omega) (by omega) (by omega) (by omega) (by omega) (by omega) (by omega) (by omega)
    · skip
      refine go_toq PM267 (k := 2) (pc' := 1435) (L' := [some (.inr (.inr (some 3000))), some (.inr (.inr (some 0))), some (.inr (.inr (some 79))), some (.inl i)]) (st' := []) (w' := (SH, dt)) rfl ?_
      exact K dt hI hM hM2 (by first | omega | (simp only [*]; done) | simp only [*]) (by omega) (by omega) (by omega) (by omega) (by omega) (by omega) (by omega) (by omega) (by omega) (by omega) (by omega) (by omega) (by omega)
  · skip
    refine go_toq PM267 (k := 6) (pc' := 1427) (L' := [some (.inr (.inr (some 3000))), some (.inr (.inr (some 0))), some (.inr (.inr (some 79))), some (.inl i)]) (st' := [.inl (i + 1), .inr (.inr (some 3000)), .inr (.inr (some 79))]) (w' := (SH, dt)) rfl ?_
    refine go_smpq PM267 (L' := [some (.inr (.inr (some 3000))), some (.inr (.inr (some 0))), some (.inr (.inr (some 79))), some (.inl i)]) (st' := [.inl ((xs ((i + 1).toNat)).toInt), .inr (.inr (some 79))]) (w' := (SH, dt)) rfl rfl (s_iald (n := L) (f := fun j => (xs j).toInt) (am_scr hLL) ⟨by omega, by omega⟩) ?_
    refine go_callq PM267 PM248 (Q' := _) rfl rfl rfl rfl (sp_X6_look L xs sio (d + 38) dt hI  ((xs ((i + 1).toNat)).toInt) ⟨by omega, by omega⟩ ) ?_
    rintro _ _ ⟨rfl, h8⟩
    refine ⟨rfl, ?_⟩
    rcases h8 with ⟨rfl, h8⟩ | ⟨rfl, h8⟩ | ⟨rfl, h8⟩ | ⟨rfl, h8⟩ | ⟨rfl, h8⟩ | ⟨rfl, h8⟩ | ⟨rfl, h8⟩ | ⟨rfl, h8⟩ | ⟨rfl, h8⟩
    · skip
      refine go_toq PM267 (k := 2) (pc' := 1435) (L' := [some (.inr (.inr (some 3000))), some (.inr (.inr (some 0))), some (.inr (.inr (some 79))), some (.inl i)]) (st' := []) (w' := (SH, dt)) rfl ?_
      exact K dt hI hM hM2 (by first | omega | (simp only [*]; done) | simp only [*]) (by omega) (by omega) (by omega) (by omega) (by omega) (by omega) (by omega) (by omega) (by omega) (by omega) (by omega) (by omega) (by omega)
    · skip
      refine go_toq PM267 (k := 2) (pc' := 1435) (L' := [some (.inr (.inr (some 3000))), some (.inr (.inr (some 0))), some (.inr (.inr (some 79))), some (.inl i)]) (st' := []) (w' := (SH, dt)) rfl ?_
      exact K dt hI hM hM2 (by first | omega | (simp only [*]; done) | simp only [*]) (by omega) (by omega) (by omega) (by omega) (by omega) (by omega) (by omega) (by omega) (by omega) (by omega) (by omega) (by omega) (by omega)
    · skip
      refine go_toq PM267 (k := 2) (pc' := 1435) (L' := [some (.inr (.inr (some 3000))), some (.inr (.inr (some 0))), some (.inr (.inr (some 79))), some (.inl i)]) (st' := []) (w' := (SH, dt)) rfl ?_
      exact K dt hI hM hM2 (by first | omega | (simp only [*]; done) | simp only [*]) (by omega) (by omega) (by omega) (by omega) (by omega) (by omega) (by omega) (by omega) (by omega) (by omega) (by omega) (by omega) (by omega)
    · skip
      refine go_toq PM267 (k := 2) (pc' := 1435) (L' := [some (.inr (.inr (some 3000))), some (.inr (.inr (some 0))), some (.inr (.inr (some 79))), some (.inl i)]) (st' := []) (w' := (SH, dt)) rfl ?_
      exact K dt hI hM hM2 (by first | omega | (simp only [*]; done) | simp only [*]) (by omega) (by omega) (by omega) (by omega) (by omega) (by omega) (by omega) (by omega) (by omega) (by omega) (by omega) (by omega) (by omega)
    · skip
      refine go_toq PM267 (k := 2) (pc' := 1435) (L' := [some (.inr (.inr (some 3000))), some (.inr (.inr (some 0))), some (.inr (.inr (some 79))), some (.inl i)]) (st' := []) (w' := (SH, dt)) rfl ?_
      exact K dt hI hM hM2 (by first | omega | (simp only [*]; done) | simp only [*]) (by omega) (by omega) (by omega) (by omega) (by omega) (by omega) (by omega) (by omega) (by omega) (by omega) (by omega) (by omega) (by omega)
    · skip
      refine go_toq PM267 (k := 2) (pc' := 1435) (L' := [some (.inr (.inr (some 3000))), some (.inr (.inr (some 0))), some (.inr (.inr (some 79))), some (.inl i)]) (st' := []) (w' := (SH, dt)) rfl ?_
      exact K dt hI hM hM2 (by first | omega | (simp only [*]; done) | simp only [*]) (by omega) (by omega) (by omega) (by omega) (by omega) (by omega) (by omega) (by omega) (by omega) (by omega) (by omega) (by omega) (by omega)
    · skip
      obtain ⟨h8_0, h8_1⟩ := h8
      refine go_toq PM267 (k := 2) (pc' := 1435) (L' := [some (.inr (.inr (some 3000))), some (.inr (.inr (some 0))), some (.inr (.inr (some 79))), some (.inl i)]) (st' := []) (w' := (SH, dt)) rfl ?_
      exact K dt hI hM hM2 (by first | omega | (simp only [*]; done) | simp only [*]) (by omega) (by omega) (by omega) (by omega) (by omega) (by omega) (by omega) (by omega) (by omega) (by omega) (by omega) (by omega) (by omega)
    · skip
      obtain ⟨h8_0, h8_1⟩ := h8
      refine go_toq PM267 (k := 2) (pc' := 1435) (L' := [some (.inr (.inr (some 3000))), some (.inr (.inr (some 0))), some (.inr (.inr (some 79))), some (.inl i)]) (st' := []) (w' := (SH, dt)) rfl ?_
      exact K dt hI hM hM2 (by first | omega | (simp only [*]; done) | simp only [*]) (by omega) (by omega) (by omega) (by omega) (by omega) (by omega) (by omega) (by omega) (by omega) (by omega) (by omega) (by omega) (by omega)
    · skip
      refine go_toq PM267 (k := 2) (pc' := 1435) (L' := [some (.inr (.inr (some 3000))), some (.inr (.inr (some 0))), some (.inr (.inr (some 79))), some (.inl i)]) (st' := []) (w' := (SH, dt)) rfl ?_
      exact K dt hI hM hM2 (by first | omega | (simp only [*]; done) | simp only [*]) (by omega) (by omega) (by omega) (by omega) (by omega) (by omega) (by omega) (by omega) (by omega) (by omega) (by omega) (by omega) (by omega)
  · skip
    obtain ⟨h2_0, h2_1⟩ := h2
    refine go_toq PM267 (k := 6) (pc' := 1427) (L' := [some (.inr (.inr (some 3000))), some (.inr (.inr (some 0))), some (.inr (.inr (some 79))), some (.inl i)]) (st' := [.inl (i + 1), .inr (.inr (some 3000)), .inr (.inr (some 79))]) (w' := (SH, dt)) rfl ?_
    refine go_smpq PM267 (L' := [some (.inr (.inr (some 3000))), some (.inr (.inr (some 0))), some (.inr (.inr (some 79))), some (.inl i)]) (st' := [.inl ((xs ((i + 1).toNat)).toInt), .inr (.inr (some 79))]) (w' := (SH, dt)) rfl rfl (s_iald (n := L) (f := fun j => (xs j).toInt) (am_scr hLL) ⟨by omega, by omega⟩) ?_
    refine go_callq PM267 PM248 (Q' := _) rfl rfl rfl rfl (sp_X6_look L xs sio (d + 38) dt hI  ((xs ((i + 1).toNat)).toInt) ⟨by omega, by omega⟩ ) ?_
    rintro _ _ ⟨rfl, h9⟩
    refine ⟨rfl, ?_⟩
    rcases h9 with ⟨rfl, h9⟩ | ⟨rfl, h9⟩ | ⟨rfl, h9⟩ | ⟨rfl, h9⟩ | ⟨rfl, h9⟩ | ⟨rfl, h9⟩ | ⟨rfl, h9⟩ | ⟨rfl, h9⟩ | ⟨rfl, h9⟩
    · skip
      refine go_toq PM267 (k := 2) (pc' := 1435) (L' := [some (.inr (.inr (some 3000))), some (.inr (.inr (some 0))), some (.inr (.inr (some 79))), some (.inl i)]) (st' := []) (w' := (SH, dt)) rfl ?_
      exact K dt hI hM hM2 (by first | omega | (simp only [*]; done) | simp only [*]) (by omega) (by omega) (by omega) (by omega) (by omega) (by omega) (by omega) (by omega) (by omega) (by omega) (by omega) (by omega) (by omega)
    · skip
      refine go_toq PM267 (k := 2) (pc' := 1435) (L' := [some (.inr (.inr (some 3000))), some (.inr (.inr (some 0))), some (.inr (.inr (some 79))), some (.inl i)]) (st' := []) (w' := (SH, dt)) rfl ?_
      exact K dt hI hM hM2 (by first | omega | (simp only [*]; done) | simp only [*]) (by omega) (by omega) (by omega) (by omega) (by omega) (by omega) (by omega) (by omega) (by omega) (by omega) (by omega) (by omega) (by omega)
    · skip
      refine go_toq PM267 (k := 2) (pc' := 1435) (L' := [some (.inr (.inr (some 3000))), some (.inr (.inr (some 0))), some (.inr (.inr (some 79))), some (.inl i)]) (st' := []) (w' := (SH, dt)) rfl ?_
      exact K dt hI hM hM2 (by first | omega | (simp only [*]; done) | simp only [*]) (by omega) (by omega) (by omega) (by omega) (by omega) (by omega) (by omega) (by omega) (by omega) (by omega) (by omega) (by omega) (by omega)
    · skip
      refine go_toq PM267 (k := 2) (pc' := 1435) (L' := [some (.inr (.inr (some 3000))), some (.inr (.inr (some 0))), some (.inr (.inr (some 79))), some (.inl i)]) (st' := []) (w' := (SH, dt)) rfl ?_
      exact K dt hI hM hM2 (by first | omega | (simp only [*]; done) | simp only [*]) (by omega) (by omega) (by omega) (by omega) (by omega) (by omega) (by omega) (by omega) (by omega) (by omega) (by omega) (by omega) (by omega)
    · skip
      refine go_toq PM267 (k := 2) (pc' := 1435) (L' := [some (.inr (.inr (some 3000))), some (.inr (.inr (some 0))), some (.inr (.inr (some 79))), some (.inl i)]) (st' := []) (w' := (SH, dt)) rfl ?_
      exact K dt hI hM hM2 (by first | omega | (simp only [*]; done) | simp only [*]) (by omega) (by omega) (by omega) (by omega) (by omega) (by omega) (by omega) (by omega) (by omega) (by omega) (by omega) (by omega) (by omega)
    · skip
      refine go_toq PM267 (k := 2) (pc' := 1435) (L' := [some (.inr (.inr (some 3000))), some (.inr (.inr (some 0))), some (.inr (.inr (some 79))), some (.inl i)]) (st' := []) (w' := (SH, dt)) rfl ?_
      exact K dt hI hM hM2 (by first | omega | (simp only [*]; done) | simp only [*]) (by omega) (by omega) (by omega) (by omega) (by omega) (by omega) (by omega) (by omega) (by omega) (by omega) (by omega) (by omega) (by omega)
    · skip
      obtain ⟨h9_0, h9_1⟩ := h9
      refine go_toq PM267 (k := 2) (pc' := 1435) (L' := [some (.inr (.inr (some 3000))), some (.inr (.inr (some 0))), some (.inr (.inr (some 79))), some (.inl i)]) (st' := []) (w' := (SH, dt)) rfl ?_
      exact K dt hI hM hM2 (by first | omega | (simp only [*]; done) | simp only [*]) (by omega) (by omega) (by omega) (by omega) (by omega) (by omega) (by omega) (by omega) (by omega) (by omega) (by omega) (by omega) (by omega)
    · skip
      obtain ⟨h9_0, h9_1⟩ := h9
      refine go_toq PM267 (k := 2) (pc' := 1435) (L' := [some (.inr (.inr (some 3000))), some (.inr (.inr (some 0))), some (.inr (.inr (some 79))), some (.inl i)]) (st' := []) (w' := (SH, dt)) rfl ?_
      exact K dt hI hM hM2 (by first | omega | (simp only [*]; done) | simp only [*]) (by omega) (by omega) (by omega) (by omega) (by omega) (by omega) (by omega) (by omega) (by omega) (by omega) (by omega) (by omega) (by omega)
    · skip
      refine go_toq PM267 (k := 2) (pc' := 1435) (L' := [some (.inr (.inr (some 3000))), some (.inr (.inr (some 0))), some (.inr (.inr (some 79))), some (.inl i)]) (st' := []) (w' := (SH, dt)) rfl ?_
      exact K dt hI hM hM2 (by first | omega | (simp only [*]; done) | simp only [*]) (by omega) (by omega) (by omega) (by omega) (by omega) (by omega) (by omega) (by omega) (by omega) (by omega) (by omega) (by omega) (by omega)
  · skip
    obtain ⟨h2_0, h2_1⟩ := h2
    refine go_toq PM267 (k := 6) (pc' := 1427) (L' := [some (.inr (.inr (some 3000))), some (.inr (.inr (some 0))), some (.inr (.inr (some 79))), some (.inl i)]) (st' := [.inl (i + 1), .inr (.inr (some 3000)), .inr (.inr (some 79))]) (w' := (SH, dt)) rfl ?_
    refine go_smpq PM267 (L' := [some (.inr (.inr (some 3000))), some (.inr (.inr (some 0))), some (.inr (.inr (some 79))), some (.inl i)]) (st' := [.inl ((xs ((i + 1).toNat)).toInt), .inr (.inr (some 79))]) (w' := (SH, dt)) rfl rfl (s_iald (n := L) (f := fun j => (xs j).toInt) (am_scr hLL) ⟨by omega, by omega⟩) ?_
    refine go_callq PM267 PM248 (Q' := _) rfl rfl rfl rfl (sp_X6_look L xs sio (d + 38) dt hI  ((xs ((i + 1).toNat)).toInt) ⟨by omega, by omega⟩ ) ?_
    rintro _ _ ⟨rfl, h10⟩
    refine ⟨rfl, ?_⟩
    rcases h10 with ⟨rfl, h10⟩ | ⟨rfl, h10⟩ | ⟨rfl, h10⟩ | ⟨rfl, h10⟩ | ⟨rfl, h10⟩ | ⟨rfl, h10⟩ | ⟨rfl, h10⟩ | ⟨rfl, h10⟩ | ⟨rfl, h10⟩
    · skip
      refine go_toq PM267 (k := 2) (pc' := 1435) (L' := [some (.inr (.inr (some 3000))), some (.inr (.inr (some 0))), some (.inr (.inr (some 79))), some (.inl i)]) (st' := []) (w' := (SH, dt)) rfl ?_
      exact K dt hI hM hM2 (by first | omega | (simp only [*]; done) | simp only [*]) (by omega) (by omega) (by omega) (by omega) (by omega) (by omega) (by omega) (by omega) (by omega) (by omega) (by omega) (by omega) (by omega)
    · skip
      refine go_toq PM267 (k := 2) (pc' := 1435) (L' := [some (.inr (.inr (some 3000))), some (.inr (.inr (some 0))), some (.inr (.inr (some 79))), some (.inl i)]) (st' := []) (w' := (SH, dt)) rfl ?_
      exact K dt hI hM hM2 (by first | omega | (simp only [*]; done) | simp only [*]) (by omega) (by omega) (by omega) (by omega) (by omega) (by omega) (by omega) (by omega) (by omega) (by omega) (by omega) (by omega) (by omega)
    · skip
      refine go_toq PM267 (k := 2) (pc' := 1435) (L' := [some (.inr (.inr (some 3000))), some (.inr (.inr (some 0))), some (.inr (.inr (some 79))), some (.inl i)]) (st' := []) (w' := (SH, dt)) rfl ?_
      exact K dt hI hM hM2 (by first | omega | (simp only [*]; done) | simp only [*]) (by omega) (by omega) (by omega) (by omega) (by omega) (by omega) (by omega) (by omega) (by omega) (by omega) (by omega) (by omega) (by omega)
    · skip
      refine go_toq PM267 (k := 2) (pc' := 1435) (L' := [some (.inr (.inr (some 3000))), some (.inr (.inr (some 0))), some (.inr (.inr (some 79))), some (.inl i)]) (st' := []) (w' := (SH, dt)) rfl ?_
      exact K dt hI hM hM2 (by first | omega | (simp only [*]; done) | simp only [*]) (by omega) (by omega) (by omega) (by omega) (by omega) (by omega) (by omega) (by omega) (by omega) (by omega) (by omega) (by omega) (by omega)
    · skip
      refine go_toq PM267 (k := 2) (pc' := 1435) (L' := [some (.inr (.inr (some 3000))), some (.inr (.inr (some 0))), some (.inr (.inr (some 79))), some (.inl i)]) (st' := []) (w' := (SH, dt)) rfl ?_
      exact K dt hI hM hM2 (by first | omega | (simp only [*]; done) | simp only [*]) (by omega) (by omega) (by omega) (by omega) (by omega) (by omega) (by omega) (by omega) (by omega) (by omega) (by omega) (by omega) (by omega)
    · skip
      refine go_toq PM267 (k := 2) (pc' := 1435) (L' := [some (.inr (.inr (some 3000))), some (.inr (.inr (some 0))), some (.inr (.inr (some 79))), some (.inl i)]) (st' := []) (w' := (SH, dt)) rfl ?_
      exact K dt hI hM hM2 (by first | omega | (simp only [*]; done) | simp only [*]) (by omega) (by omega) (by omega) (by omega) (by omega) (by omega) (by omega) (by omega) (by omega) (by omega) (by omega) (by omega) (by omega)
    · skip
      obtain ⟨h10_0, h10_1⟩ := h10
      refine go_toq PM267 (k := 2) (pc' := 1435) (L' := [some (.inr (.inr (some 3000))), some (.inr (.inr (some 0))), some (.inr (.inr (some 79))), some (.inl i)]) (st' := []) (w' := (SH, dt)) rfl ?_
      exact K dt hI hM hM2 (by first | omega | (simp only [*]; done) | simp only [*]) (by omega) (by omega) (by omega) (by omega) (by omega) (by omega) (by omega) (by omega) (by omega) (by omega) (by omega) (by omega) (by omega)
    · skip
      obtain ⟨h10_0, h10_1⟩ := h10
      refine go_toq PM267 (k := 2) (pc' := 1435) (L' := [some (.inr (.inr (some 3000))), some (.inr (.inr (some 0))), some (.inr (.inr (some 79))), some (.inl i)]) (st' := []) (w' := (SH, dt)) rfl ?_
      exact K dt hI hM hM2 (by first | omega | (simp only [*]; done) | simp only [*]) (by omega) (by omega) (by omega) (by omega) (by omega) (by omega) (by omega) (by omega) (by omega) (by omega) (by omega) (by omega) (by omega)
    · skip
      refine go_toq PM267 (k := 2) (pc' := 1435) (L' := [some (.inr (.inr (some 3000))), some (.inr (.inr (some 0))), some (.inr (.inr (some 79))), some (.inl i)]) (st' := []) (w' := (SH, dt)) rfl ?_
      exact K dt hI hM hM2 (by first | omega | (simp only [*]; done) | simp only [*]) (by omega) (by omega) (by omega) (by omega) (by omega) (by omega) (by omega) (by omega) (by omega) (by omega) (by omega) (by omega) (by omega)
  · skip
    refine go_toq PM267 (k := 6) (pc' := 1427) (L' := [some (.inr (.inr (some 3000))), some (.inr (.inr (some 0))), some (.inr (.inr (some 79))), some (.inl i)]) (st' := [.inl (i + 1), .inr (.inr (some 3000)), .inr (.inr (some 79))]) (w' := (SH, dt)) rfl ?_
    refine go_smpq PM267 (L' := [some (.inr (.inr (some 3000))), some (.inr (.inr (some 0))), some (.inr (.inr (some 79))), some (.inl i)]) (st' := [.inl ((xs ((i + 1).toNat)).toInt), .inr (.inr (some 79))]) (w' := (SH, dt)) rfl rfl (s_iald (n := L) (f := fun j => (xs j).toInt) (am_scr hLL) ⟨by omega, by omega⟩) ?_
    refine go_callq PM267 PM248 (Q' := _) rfl rfl rfl rfl (sp_X6_look L xs sio (d + 38) dt hI  ((xs ((i + 1).toNat)).toInt) ⟨by omega, by omega⟩ ) ?_
    rintro _ _ ⟨rfl, h11⟩
    refine ⟨rfl, ?_⟩
    rcases h11 with ⟨rfl, h11⟩ | ⟨rfl, h11⟩ | ⟨rfl, h11⟩ | ⟨rfl, h11⟩ | ⟨rfl, h11⟩ | ⟨rfl, h11⟩ | ⟨rfl, h11⟩ | ⟨rfl, h11⟩ | ⟨rfl, h11⟩
    · skip
      refine go_toq PM267 (k := 2) (pc' := 1435) (L' := [some (.inr (.inr (some 3000))), some (.inr (.inr (some 0))), some (.inr (.inr (some 79))), some (.inl i)]) (st' := []) (w' := (SH, dt)) rfl ?_
      exact K dt hI hM hM2 (by first | omega | (simp only [*]; done) | simp only [*]) (by omega) (by omega) (by omega) (by omega) (by omega) (by omega) (by omega) (by omega) (by omega) (by omega) (by omega) (by omega) (by omega)
    · skip
      refine go_toq PM267 (k := 2) (pc' := 1435) (L' := [some (.inr (.inr (some 3000))), some (.inr (.inr (some 0))), some (.inr (.inr (some 79))), some (.inl i)]) (st' := []) (w' := (SH, dt)) rfl ?_
      exact K dt hI hM hM2 (by first | omega | (simp only [*]; done) | simp only [*]) (by omega) (by omega) (by omega) (by omega) (by omega) (by omega) (by omega) (by omega) (by omega) (by omega) (by omega) (by omega) (by omega)
    · skip
      refine go_toq PM267 (k := 2) (pc' := 1435) (L' := [some (.inr (.inr (some 3000))), some (.inr (.inr (some 0))), some (.inr (.inr (some 79))), some (.inl i)]) (st' := []) (w' := (SH, dt)) rfl ?_
      exact K dt hI hM hM2 (by first | omega | (simp only [*]; done) | simp only [*]) (by omega) (by omega) (by omega) (by omega) (by omega) (by omega) (by omega) (by omega) (by omega) (by omega) (by omega) (by omega) (by omega)
    · skip
      refine go_toq PM267 (k := 2) (pc' := 1435) (L' := [some (.inr (.inr (some 3000))), some (.inr (.inr (some 0))), some (.inr (.inr (some 79))), some (.inl i)]) (st' := []) (w' := (SH, dt)) rfl ?_
      exact K dt hI hM hM2 (by first | omega | (simp only [*]; done) | simp only [*]) (by omega) (by omega) (by omega) (by omega) (by omega) (by omega) (by omega) (by omega) (by omega) (by omega) (by omega) (by omega) (by omega)
    · skip
      refine go_toq PM267 (k := 2) (pc' := 1435) (L' := [some (.inr (.inr (some 3000))), some (.inr (.inr (some 0))), some (.inr (.inr (some 79))), some (.inl i)]) (st' := []) (w' := (SH, dt)) rfl ?_
      exact K dt hI hM hM2 (by first | omega | (simp only [*]; done) | simp only [*]) (by omega) (by omega) (by omega) (by omega) (by omega) (by omega) (by omega) (by omega) (by omega) (by omega) (by omega) (by omega) (by omega)
    · skip
      refine go_toq PM267 (k := 2) (pc' := 1435) (L' := [some (.inr (.inr (some 3000))), some (.inr (.inr (some 0))), some (.inr (.inr (some 79))), some (.inl i)]) (st' := []) (w' := (SH, dt)) rfl ?_
      exact K dt hI hM hM2 (by first | omega | (simp only [*]; done) | simp only [*]) (by omega) (by omega) (by omega) (by omega) (by omega) (by omega) (by omega) (by omega) (by omega) (by omega) (by omega) (by omega) (by omega)
    · skip
      obtain ⟨h11_0, h11_1⟩ := h11
      refine go_toq PM267 (k := 2) (pc' := 1435) (L' := [some (.inr (.inr (some 3000))), some (.inr (.inr (some 0))), some (.inr (.inr (some 79))), some (.inl i)]) (st' := []) (w' := (SH, dt)) rfl ?_
      exact K dt hI hM hM2 (by first | omega | (simp only [*]; done) | simp only [*]) (by omega) (by omega) (by omega) (by omega) (by omega) (by omega) (by omega) (by omega) (by omega) (by omega) (by omega) (by omega) (by omega)
    · skip
      obtain ⟨h11_0, h11_1⟩ := h11
      refine go_toq PM267 (k := 2) (pc' := 1435) (L' := [some (.inr (.inr (some 3000))), some (.inr (.inr (some 0))), some (.inr (.inr (some 79))), some (.inl i)]) (st' := []) (w' := (SH, dt)) rfl ?_
      exact K dt hI hM hM2 (by first | omega | (simp only [*]; done) | simp only [*]) (by omega) (by omega) (by omega) (by omega) (by omega) (by omega) (by omega) (by omega) (by omega) (by omega) (by omega) (by omega) (by omega)
    · skip
      refine go_toq PM267 (k := 2) (pc' := 1435) (L' := [some (.inr (.inr (some 3000))), some (.inr (.inr (some 0))), some (.inr (.inr (some 79))), some (.inl i)]) (st' := []) (w' := (SH, dt)) rfl ?_
      exact K dt hI hM hM2 (by first | omega | (simp only [*]; done) | simp only [*]) (by omega) (by omega) (by omega) (by omega) (by omega) (by omega) (by omega) (by omega) (by omega) (by omega) (by omega) (by omega) (by omega)
