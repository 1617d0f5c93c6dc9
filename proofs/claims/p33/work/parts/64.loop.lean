set_option maxRecDepth 20000 in
set_option maxHeartbeats 8000000 in
theorem sp_case22 (L : Nat) (xs : Nat → Int32) (sio : Option Nat) (d : Nat) (Q : Option AV → am_W → Prop) (hLL : L ≤ 3072) (i : Int) (hi : 0 ≤ i ∧ i ≤ 3066) (hil : i ≤ (L : Int) - 6) (dt : Nat → Nat → Int) (hI : InvC dt) (hM : MW (dt 80)) (hM2 : MW (dt 81)) (hk0 : dt 1 0 = dt 80 0) (hk1 : dt 7 3 = dt 80 1) (hk2 : dt 10 3 = dt 80 2) (hk3 : dt 12 3 = dt 80 3) (hk4 : dt 14 3 = dt 80 4) (hk5 : dt 16 3 = dt 80 5) (hk6 : dt 18 0 = dt 81 0) (hk7 : dt 24 3 = dt 81 1) (hk8 : dt 27 3 = dt 81 2) (hk9 : dt 29 3 = dt 81 3) (hk10 : dt 31 3 = dt 81 4) (hk11 : dt 33 3 = dt 81 5) (hk12 : dt 0 2 = dt 79 2) (hk13 : dt 35 1 = dt 79 12) (K : ∀ (dt : Nat → Nat → Int) (hI : InvC dt) (hM : MW (dt 80)) (hM2 : MW (dt 81)) (hk0 : dt 1 0 = dt 80 0) (hk1 : dt 7 3 = dt 80 1) (hk2 : dt 10 3 = dt 80 2) (hk3 : dt 12 3 = dt 80 3) (hk4 : dt 14 3 = dt 80 4) (hk5 : dt 16 3 = dt 80 5) (hk6 : dt 18 0 = dt 81 0) (hk7 : dt 24 3 = dt 81 1) (hk8 : dt 27 3 = dt 81 2) (hk9 : dt 29 3 = dt 81 3) (hk10 : dt 31 3 = dt 81 4) (hk11 : dt 33 3 = dt 81 5) (hk12 : dt 0 2 = dt 79 2) (hk13 : dt 35 1 = dt 79 12), GO (am_XX L xs sio) (d + 39) 267 1435 [some (.inr (.inr (some 3000))), some (.inr (.inr (some 0))), some (.inr (.inr (some 79))), some (.inl i)] [] (SH, dt) Q) : GO (am_XX L xs sio) (d + 39) 267 1086 [some (.inr (.inr (some 3000))), some (.inr (.inr (some 0))), some (.inr (.inr (some 79))), some (.inl i)] [] (SH, dt) Q := by
  have hF : Fr [0, 1, 2, 3, 4, 5, 6, 7, 8, 9, 10, 11, 12, 13, 14, 15, 16, 17, 18, 19, 20, 21, 22, 23, 24, 25, 26, 27, 28, 29, 30, 31, 32, 33, 34, 35, 36, 37, 38, 39, 40, 41, 42, 43, 44, 45, 46, 47, 48, 49, 50, 51, 52, 53, 54, 55, 56, 57, 58, 59, 60, 61, 62, 63, 64, 65, 66, 67, 68, 69, 70, 71, 72, 73, 74, 75, 76, 77, 78, 79, 80, 81, 82, 83, 84, 85, 86, 87, 88, 89, 90, 91, 92, 93, 94, 95, 96, 97, 98, 99, 100, 101, 102, 103, 104] dt dt := Fr_refl
  refine go_toq PM267 (k := 5) (pc' := 1091) (L' := [some (.inr (.inr (some 3000))), some (.inr (.inr (some 0))), some (.inr (.inr (some 79))), some (.inl i)]) (st' := [.inl (i + 1), .inr (.inr (some 3000)), .inr (.inr (some 0))]) (w' := (SH, dt)) rfl ?_
  have r1 := i32_R (xs ((i + 1).toNat))
  refine go_smpq PM267 (L' := [some (.inr (.inr (some 3000))), some (.inr (.inr (some 0))), some (.inr (.inr (some 79))), some (.inl i)]) (st' := [.inl ((xs ((i + 1).toNat)).toInt), .inr (.inr (some 0))]) (w' := (SH, dt)) rfl rfl (s_iald (n := L) (f := fun j => (xs j).toInt) (am_scr hLL) ⟨by omega, by omega⟩) ?_
  refine go_callq PM267 PM89 (Q' := _) rfl rfl rfl rfl (sp_X5_beside L xs sio (d + 34) dt hI  ((xs ((i + 1).toNat)).toInt) ⟨by omega, by omega⟩ ) ?_
  rintro _ _ ⟨dt3, rfl, hI4, hF5, h2⟩
  refine ⟨rfl, ?_⟩
  have hF6 : Fr [0, 1, 2, 3, 4, 5, 6, 7, 8, 9, 10, 11, 12, 13, 14, 15, 16, 17, 18, 19, 20, 21, 22, 23, 24, 25, 26, 27, 28, 29, 30, 31, 32, 33, 34, 35, 36, 37, 38, 39, 40, 41, 42, 43, 44, 45, 46, 47, 48, 49, 50, 51, 52, 53, 54, 55, 56, 57, 58, 59, 60, 61, 62, 63, 64, 65, 66, 67, 68, 69, 70, 71, 72, 73, 74, 75, 76, 77, 78, 79, 80, 81, 82, 83, 84, 85, 86, 87, 88, 89, 90, 91, 92, 93, 94, 95, 96, 97, 98, 99, 100, 101, 102, 103, 104] dt dt3 := Fr_tr hF hF5 (by decide)
  have hM7 : MW (dt3 80) := MW_fr hM hF5 (by decide)
  have w8 : dt3 1 0 = dt 1 0 := hF5 1 (by decide) 0
  have w9 : dt3 7 3 = dt 7 3 := hF5 7 (by decide) 3
  have w10 : dt3 10 3 = dt 10 3 := hF5 10 (by decide) 3
  have w11 : dt3 12 3 = dt 12 3 := hF5 12 (by decide) 3
  have w12 : dt3 14 3 = dt 14 3 := hF5 14 (by decide) 3
  have w13 : dt3 16 3 = dt 16 3 := hF5 16 (by decide) 3
  have w14 : dt3 18 0 = dt 18 0 := hF5 18 (by decide) 0
  have w15 : dt3 24 3 = dt 24 3 := hF5 24 (by decide) 3
  have w16 : dt3 27 3 = dt 27 3 := hF5 27 (by decide) 3
  have w17 : dt3 29 3 = dt 29 3 := hF5 29 (by decide) 3
  have w18 : dt3 31 3 = dt 31 3 := hF5 31 (by decide) 3
  have w19 : dt3 33 3 = dt 33 3 := hF5 33 (by decide) 3
  have w20 : dt3 0 2 = dt 0 2 := hF5 0 (by decide) 2
  have w21 : dt3 35 1 = dt 35 1 := hF5 35 (by decide) 1
  have w22 : dt3 80 0 = dt 80 0 := hF5 80 (by decide) 0
  have w23 : dt3 80 1 = dt 80 1 := hF5 80 (by decide) 1
  have w24 : dt3 80 2 = dt 80 2 := hF5 80 (by decide) 2
  have w25 : dt3 80 3 = dt 80 3 := hF5 80 (by decide) 3
  have w26 : dt3 80 4 = dt 80 4 := hF5 80 (by decide) 4
  have w27 : dt3 80 5 = dt 80 5 := hF5 80 (by decide) 5
  have w28 : dt3 81 0 = dt 81 0 := hF5 81 (by decide) 0
  have w29 : dt3 81 1 = dt 81 1 := hF5 81 (by decide) 1
  have w30 : dt3 81 2 = dt 81 2 := hF5 81 (by decide) 2
  have w31 : dt3 81 3 = dt 81 3 := hF5 81 (by decide) 3
  have w32 : dt3 81 4 = dt 81 4 := hF5 81 (by decide) 4
  have w33 : dt3 81 5 = dt 81 5 := hF5 81 (by decide) 5
  have w34 : dt3 79 2 = dt 79 2 := hF5 79 (by decide) 2
  have w35 : dt3 79 12 = dt 79 12 := hF5 79 (by decide) 12
  rcases h2 with ⟨v_h2, rfl, h2r, h2⟩
  have M236 : MW (dt3 81) := MW_frk hM2 hF5 (by decide)
  refine go_toq PM267 (k := 6) (pc' := 1101) (L' := [some (.inr (.inr (some 3000))), some (.inr (.inr (some 0))), some (.inr (.inr (some 79))), some (.inl i)]) (st' := [.inl (i + 1), .inr (.inr (some 3000)), .inr (.inr (some 79))]) (w' := (SH, dt3)) rfl ?_
  have r37 := i32_R (xs ((i + 1).toNat))
  refine go_smpq PM267 (L' := [some (.inr (.inr (some 3000))), some (.inr (.inr (some 0))), some (.inr (.inr (some 79))), some (.inl i)]) (st' := [.inl ((xs ((i + 1).toNat)).toInt), .inr (.inr (some 79))]) (w' := (SH, dt3)) rfl rfl (s_iald (n := L) (f := fun j => (xs j).toInt) (am_scr hLL) ⟨by omega, by omega⟩) ?_
  refine go_callq PM267 PM232 (Q' := _) rfl rfl rfl rfl (sp_X6_beside L xs sio (d + 31) dt3 hI4 hM7  ((xs ((i + 1).toNat)).toInt) ⟨by omega, by omega⟩ ) ?_
  rintro _ _ ⟨dt39, rfl, hI40, hF41, h38⟩
  refine ⟨rfl, ?_⟩
  have hF42 : Fr [0, 1, 2, 3, 4, 5, 6, 7, 8, 9, 10, 11, 12, 13, 14, 15, 16, 17, 18, 19, 20, 21, 22, 23, 24, 25, 26, 27, 28, 29, 30, 31, 32, 33, 34, 35, 36, 37, 38, 39, 40, 41, 42, 43, 44, 45, 46, 47, 48, 49, 50, 51, 52, 53, 54, 55, 56, 57, 58, 59, 60, 61, 62, 63, 64, 65, 66, 67, 68, 69, 70, 71, 72, 73, 74, 75, 76, 77, 78, 79, 80, 81, 82, 83, 84, 85, 86, 87, 88, 89, 90, 91, 92, 93, 94, 95, 96, 97, 98, 99, 100, 101, 102, 103, 104] dt dt39 := Fr_tr hF6 hF41 (by decide)
  have hM43 : MW (dt39 80) := MW_fr hM7 hF41 (by decide)
  have w44 : dt39 1 0 = dt3 1 0 := hF41 1 (by decide) 0
  have w45 : dt39 7 3 = dt3 7 3 := hF41 7 (by decide) 3
  have w46 : dt39 10 3 = dt3 10 3 := hF41 10 (by decide) 3
  have w47 : dt39 12 3 = dt3 12 3 := hF41 12 (by decide) 3
  have w48 : dt39 14 3 = dt3 14 3 := hF41 14 (by decide) 3
  have w49 : dt39 16 3 = dt3 16 3 := hF41 16 (by decide) 3
  have w50 : dt39 18 0 = dt3 18 0 := hF41 18 (by decide) 0
  have w51 : dt39 24 3 = dt3 24 3 := hF41 24 (by decide) 3
  have w52 : dt39 27 3 = dt3 27 3 := hF41 27 (by decide) 3
  have w53 : dt39 29 3 = dt3 29 3 := hF41 29 (by decide) 3
  have w54 : dt39 31 3 = dt3 31 3 := hF41 31 (by decide) 3
  have w55 : dt39 33 3 = dt3 33 3 := hF41 33 (by decide) 3
  have w56 : dt39 0 2 = dt3 0 2 := hF41 0 (by decide) 2
  have w57 : dt39 35 1 = dt3 35 1 := hF41 35 (by decide) 1
  have w58 : dt39 80 0 = dt3 80 0 := hF41 80 (by decide) 0
  have w59 : dt39 80 1 = dt3 80 1 := hF41 80 (by decide) 1
  have w60 : dt39 80 2 = dt3 80 2 := hF41 80 (by decide) 2
  have w61 : dt39 80 3 = dt3 80 3 := hF41 80 (by decide) 3
  have w62 : dt39 80 4 = dt3 80 4 := hF41 80 (by decide) 4
  have w63 : dt39 80 5 = dt3 80 5 := hF41 80 (by decide) 5
  have w64 : dt39 81 0 = dt3 81 0 := hF41 81 (by decide) 0
  have w65 : dt39 81 1 = dt3 81 1 := hF41 81 (by decide) 1
  have w66 : dt39 81 2 = dt3 81 2 := hF41 81 (by decide) 2
  have w67 : dt39 81 3 = dt3 81 3 := hF41 81 (by decide) 3
  have w68 : dt39 81 4 = dt3 81 4 := hF41 81 (by decide) 4
  have w69 : dt39 81 5 = dt3 81 5 := hF41 81 (by decide) 5
  have w70 : dt39 79 2 = dt3 79 2 := hF41 79 (by decide) 2
  have w71 : dt39 79 12 = dt3 79 12 := hF41 79 (by decide) 12
  rcases h38 with ⟨v_h38, rfl, h38r, h38⟩
  have M272 : MW (dt39 81) := MW_frk M236 hF41 (by decide)
  refine go_toq PM267 (k := 2) (pc' := 1435) (L' := [some (.inr (.inr (some 3000))), some (.inr (.inr (some 0))), some (.inr (.inr (some 79))), some (.inl i)]) (st' := []) (w' := (SH, dt39)) rfl ?_
  exact K dt39 hI40 hM43 M272 (by first | omega | (simp only [*]; done) | simp only [*]) (by omega) (by omega) (by omega) (by omega) (by omega) (by omega) (by omega) (by omega) (by omega) (by omega) (by omega) (by omega) (by omega)
set_option maxRecDepth 20000 in
set_option maxHeartbeats 8000000 in
theorem sp_case23 (L : Nat) (xs : Nat → Int32) (sio : Option Nat) (d : Nat) (Q : Option AV → am_W → Prop) (hLL : L ≤ 3072) (i : Int) (hi : 0 ≤ i ∧ i ≤ 3066) (hil : i ≤ (L : Int) - 6) (dt : Nat → Nat → Int) (hI : InvC dt) (hM : MW (dt 80)) (hM2 : MW (dt 81)) (hk0 : dt 1 0 = dt 80 0) (hk1 : dt 7 3 = dt 80 1) (hk2 : dt 10 3 = dt 80 2) (hk3 : dt 12 3 = dt 80 3) (hk4 : dt 14 3 = dt 80 4) (hk5 : dt 16 3 = dt 80 5) (hk6 : dt 18 0 = dt 81 0) (hk7 : dt 24 3 = dt 81 1) (hk8 : dt 27 3 = dt 81 2) (hk9 : dt 29 3 = dt 81 3) (hk10 : dt 31 3 = dt 81 4) (hk11 : dt 33 3 = dt 81 5) (hk12 : dt 0 2 = dt 79 2) (hk13 : dt 35 1 = dt 79 12) (K : ∀ (dt : Nat → Nat → Int) (hI : InvC dt) (hM : MW (dt 80)) (hM2 : MW (dt 81)) (hk0 : dt 1 0 = dt 80 0) (hk1 : dt 7 3 = dt 80 1) (hk2 : dt 10 3 = dt 80 2) (hk3 : dt 12 3 = dt 80 3) (hk4 : dt 14 3 = dt 80 4) (hk5 : dt 16 3 = dt 80 5) (hk6 : dt 18 0 = dt 81 0) (hk7 : dt 24 3 = dt 81 1) (hk8 : dt 27 3 = dt 81 2) (hk9 : dt 29 3 = dt 81 3) (hk10 : dt 31 3 = dt 81 4) (hk11 : dt 33 3 = dt 81 5) (hk12 : dt 0 2 = dt 79 2) (hk13 : dt 35 1 = dt 79 12), GO (am_XX L xs sio) (d + 39) 267 1435 [some (.inr (.inr (some 3000))), some (.inr (.inr (some 0))), some (.inr (.inr (some 79))), some (.inl i)] [] (SH, dt) Q) : GO (am_XX L xs sio) (d + 39) 267 1109 [some (.inr (.inr (some 3000))), some (.inr (.inr (some 0))), some (.inr (.inr (some 79))), some (.inl i)] [] (SH, dt) Q := by
  have hF : Fr [0, 1, 2, 3, 4, 5, 6, 7, 8, 9, 10, 11, 12, 13, 14, 15, 16, 17, 18, 19, 20, 21, 22, 23, 24, 25, 26, 27, 28, 29, 30, 31, 32, 33, 34, 35, 36, 37, 38, 39, 40, 41, 42, 43, 44, 45, 46, 47, 48, 49, 50, 51, 52, 53, 54, 55, 56, 57, 58, 59, 60, 61, 62, 63, 64, 65, 66, 67, 68, 69, 70, 71, 72, 73, 74, 75, 76, 77, 78, 79, 80, 81, 82, 83, 84, 85, 86, 87, 88, 89, 90, 91, 92, 93, 94, 95, 96, 97, 98, 99, 100, 101, 102, 103, 104] dt dt := Fr_refl
  refine go_toq PM267 (k := 5) (pc' := 1114) (L' := [some (.inr (.inr (some 3000))), some (.inr (.inr (some 0))), some (.inr (.inr (some 79))), some (.inl i)]) (st' := [.inl (i + 1), .inr (.inr (some 3000)), .inr (.inr (some 0))]) (w' := (SH, dt)) rfl ?_
  have r1 := i32_R (xs ((i + 1).toNat))
  refine go_smpq PM267 (L' := [some (.inr (.inr (some 3000))), some (.inr (.inr (some 0))), some (.inr (.inr (some 79))), some (.inl i)]) (st' := [.inl ((xs ((i + 1).toNat)).toInt), .inr (.inr (some 0))]) (w' := (SH, dt)) rfl rfl (s_iald (n := L) (f := fun j => (xs j).toInt) (am_scr hLL) ⟨by omega, by omega⟩) ?_
  refine go_toq PM267 (k := 4) (pc' := 1119) (L' := [some (.inr (.inr (some 3000))), some (.inr (.inr (some 0))), some (.inr (.inr (some 79))), some (.inl i)]) (st' := [.inl (i + 2), .inr (.inr (some 3000)), .inl ((xs ((i + 1).toNat)).toInt), .inr (.inr (some 0))]) (w' := (SH, dt)) rfl ?_
  have r2 := i32_R (xs ((i + 2).toNat))
  refine go_smpq PM267 (L' := [some (.inr (.inr (some 3000))), some (.inr (.inr (some 0))), some (.inr (.inr (some 79))), some (.inl i)]) (st' := [.inl ((xs ((i + 2).toNat)).toInt), .inl ((xs ((i + 1).toNat)).toInt), .inr (.inr (some 0))]) (w' := (SH, dt)) rfl rfl (s_iald (n := L) (f := fun j => (xs j).toInt) (am_scr hLL) ⟨by omega, by omega⟩) ?_
  refine go_callq PM267 PM90 (Q' := _) rfl rfl rfl rfl (sp_X5_eyes L xs sio (d + 36) dt hI  ((xs ((i + 1).toNat)).toInt) ⟨by omega, by omega⟩ ((xs ((i + 2).toNat)).toInt) ⟨by omega, by omega⟩ ) ?_
  rintro _ _ ⟨dt4, rfl, hI5, hF6, h3⟩
  refine ⟨rfl, ?_⟩
  have hF7 : Fr [0, 1, 2, 3, 4, 5, 6, 7, 8, 9, 10, 11, 12, 13, 14, 15, 16, 17, 18, 19, 20, 21, 22, 23, 24, 25, 26, 27, 28, 29, 30, 31, 32, 33, 34, 35, 36, 37, 38, 39, 40, 41, 42, 43, 44, 45, 46, 47, 48, 49, 50, 51, 52, 53, 54, 55, 56, 57, 58, 59, 60, 61, 62, 63, 64, 65, 66, 67, 68, 69, 70, 71, 72, 73, 74, 75, 76, 77, 78, 79, 80, 81, 82, 83, 84, 85, 86, 87, 88, 89, 90, 91, 92, 93, 94, 95, 96, 97, 98, 99, 100, 101, 102, 103, 104] dt dt4 := Fr_tr hF hF6 (by decide)
  have hM8 : MW (dt4 80) := MW_fr hM hF6 (by decide)
  have w9 : dt4 1 0 = dt 1 0 := hF6 1 (by decide) 0
  have w10 : dt4 7 3 = dt 7 3 := hF6 7 (by decide) 3
  have w11 : dt4 10 3 = dt 10 3 := hF6 10 (by decide) 3
  have w12 : dt4 12 3 = dt 12 3 := hF6 12 (by decide) 3
  have w13 : dt4 16 3 = dt 16 3 := hF6 16 (by decide) 3
  have w14 : dt4 18 0 = dt 18 0 := hF6 18 (by decide) 0
  have w15 : dt4 24 3 = dt 24 3 := hF6 24 (by decide) 3
  have w16 : dt4 27 3 = dt 27 3 := hF6 27 (by decide) 3
  have w17 : dt4 29 3 = dt 29 3 := hF6 29 (by decide) 3
  have w18 : dt4 31 3 = dt 31 3 := hF6 31 (by decide) 3
  have w19 : dt4 33 3 = dt 33 3 := hF6 33 (by decide) 3
  have w20 : dt4 0 2 = dt 0 2 := hF6 0 (by decide) 2
  have w21 : dt4 35 1 = dt 35 1 := hF6 35 (by decide) 1
  have w22 : dt4 80 0 = dt 80 0 := hF6 80 (by decide) 0
  have w23 : dt4 80 1 = dt 80 1 := hF6 80 (by decide) 1
  have w24 : dt4 80 2 = dt 80 2 := hF6 80 (by decide) 2
  have w25 : dt4 80 3 = dt 80 3 := hF6 80 (by decide) 3
  have w26 : dt4 80 4 = dt 80 4 := hF6 80 (by decide) 4
  have w27 : dt4 80 5 = dt 80 5 := hF6 80 (by decide) 5
  have w28 : dt4 81 0 = dt 81 0 := hF6 81 (by decide) 0
  have w29 : dt4 81 1 = dt 81 1 := hF6 81 (by decide) 1
  have w30 : dt4 81 2 = dt 81 2 := hF6 81 (by decide) 2
  have w31 : dt4 81 3 = dt 81 3 := hF6 81 (by decide) 3
  have w32 : dt4 81 4 = dt 81 4 := hF6 81 (by decide) 4
  have w33 : dt4 81 5 = dt 81 5 := hF6 81 (by decide) 5
  have w34 : dt4 79 2 = dt 79 2 := hF6 79 (by decide) 2
  have w35 : dt4 79 12 = dt 79 12 := hF6 79 (by decide) 12
  rcases h3 with ⟨rfl, h3⟩ | ⟨v_h3, rfl, h3r, h3⟩
  · skip
    obtain ⟨h3_0, h3_1⟩ := h3
    have M236 : MW (dt4 81) := MW_frk hM2 hF6 (by decide)
    refine go_toq PM267 (k := 6) (pc' := 1129) (L' := [some (.inr (.inr (some 3000))), some (.inr (.inr (some 0))), some (.inr (.inr (some 79))), some (.inl i)]) (st' := [.inl (i + 1), .inr (.inr (some 3000)), .inr (.inr (some 79))]) (w' := (SH, dt4)) rfl ?_
    have r37 := i32_R (xs ((i + 1).toNat))
    refine go_smpq PM267 (L' := [some (.inr (.inr (some 3000))), some (.inr (.inr (some 0))), some (.inr (.inr (some 79))), some (.inl i)]) (st' := [.inl ((xs ((i + 1).toNat)).toInt), .inr (.inr (some 79))]) (w' := (SH, dt4)) rfl rfl (s_iald (n := L) (f := fun j => (xs j).toInt) (am_scr hLL) ⟨by omega, by omega⟩) ?_
    refine go_toq PM267 (k := 4) (pc' := 1134) (L' := [some (.inr (.inr (some 3000))), some (.inr (.inr (some 0))), some (.inr (.inr (some 79))), some (.inl i)]) (st' := [.inl (i + 2), .inr (.inr (some 3000)), .inl ((xs ((i + 1).toNat)).toInt), .inr (.inr (some 79))]) (w' := (SH, dt4)) rfl ?_
    have r38 := i32_R (xs ((i + 2).toNat))
    refine go_smpq PM267 (L' := [some (.inr (.inr (some 3000))), some (.inr (.inr (some 0))), some (.inr (.inr (some 79))), some (.inl i)]) (st' := [.inl ((xs ((i + 2).toNat)).toInt), .inl ((xs ((i + 1).toNat)).toInt), .inr (.inr (some 79))]) (w' := (SH, dt4)) rfl rfl (s_iald (n := L) (f := fun j => (xs j).toInt) (am_scr hLL) ⟨by omega, by omega⟩) ?_
    refine go_callq PM267 PM233 (Q' := _) rfl rfl rfl rfl (sp_X6_eyes L xs sio (d + 37) dt4 hI5 hM8  ((xs ((i + 1).toNat)).toInt) ⟨by omega, by omega⟩ ((xs ((i + 2).toNat)).toInt) ⟨by omega, by omega⟩ ) ?_
    rintro _ _ ⟨dt40, rfl, hI41, hF42, h39⟩
    refine ⟨rfl, ?_⟩
    have hF43 : Fr [0, 1, 2, 3, 4, 5, 6, 7, 8, 9, 10, 11, 12, 13, 14, 15, 16, 17, 18, 19, 20, 21, 22, 23, 24, 25, 26, 27, 28, 29, 30, 31, 32, 33, 34, 35, 36, 37, 38, 39, 40, 41, 42, 43, 44, 45, 46, 47, 48, 49, 50, 51, 52, 53, 54, 55, 56, 57, 58, 59, 60, 61, 62, 63, 64, 65, 66, 67, 68, 69, 70, 71, 72, 73, 74, 75, 76, 77, 78, 79, 80, 81, 82, 83, 84, 85, 86, 87, 88, 89, 90, 91, 92, 93, 94, 95, 96, 97, 98, 99, 100, 101, 102, 103, 104] dt dt40 := Fr_tr hF7 hF42 (by decide)
    have w44 : dt40 1 0 = dt4 1 0 := hF42 1 (by decide) 0
    have w45 : dt40 7 3 = dt4 7 3 := hF42 7 (by decide) 3
    have w46 : dt40 10 3 = dt4 10 3 := hF42 10 (by decide) 3
    have w47 : dt40 12 3 = dt4 12 3 := hF42 12 (by decide) 3
    have w48 : dt40 14 3 = dt4 14 3 := hF42 14 (by decide) 3
    have w49 : dt40 16 3 = dt4 16 3 := hF42 16 (by decide) 3
    have w50 : dt40 18 0 = dt4 18 0 := hF42 18 (by decide) 0
    have w51 : dt40 24 3 = dt4 24 3 := hF42 24 (by decide) 3
    have w52 : dt40 27 3 = dt4 27 3 := hF42 27 (by decide) 3
    have w53 : dt40 29 3 = dt4 29 3 := hF42 29 (by decide) 3
    have w54 : dt40 31 3 = dt4 31 3 := hF42 31 (by decide) 3
    have w55 : dt40 33 3 = dt4 33 3 := hF42 33 (by decide) 3
    have w56 : dt40 0 2 = dt4 0 2 := hF42 0 (by decide) 2
    have w57 : dt40 35 1 = dt4 35 1 := hF42 35 (by decide) 1
    have w58 : dt40 81 0 = dt4 81 0 := hF42 81 (by decide) 0
    have w59 : dt40 81 1 = dt4 81 1 := hF42 81 (by decide) 1
    have w60 : dt40 81 2 = dt4 81 2 := hF42 81 (by decide) 2
    have w61 : dt40 81 3 = dt4 81 3 := hF42 81 (by decide) 3
    have w62 : dt40 81 4 = dt4 81 4 := hF42 81 (by decide) 4
    have w63 : dt40 81 5 = dt4 81 5 := hF42 81 (by decide) 5
    have w64 : dt40 79 2 = dt4 79 2 := hF42 79 (by decide) 2
    have w65 : dt40 79 12 = dt4 79 12 := hF42 79 (by decide) 12
    rcases h39 with ⟨rfl, h39⟩ | ⟨v_h39, rfl, h39r, h39⟩
    · skip
      have hM66 : MW (dt40 80) := h39.2.1
      obtain ⟨h39_0, h39_1, h39_2, h39_3, h39_4, h39_5, h39_6, h39_7⟩ := h39
      have M267 : MW (dt40 81) := MW_frk M236 hF42 (by decide)
      refine go_toq PM267 (k := 2) (pc' := 1435) (L' := [some (.inr (.inr (some 3000))), some (.inr (.inr (some 0))), some (.inr (.inr (some 79))), some (.inl i)]) (st' := []) (w' := (SH, dt40)) rfl ?_
      exact K dt40 hI41 hM66 M267 (by first | omega | (simp only [*]; done) | simp only [*]) (by omega) (by omega) (by omega) (by omega) (by omega) (by omega) (by omega) (by omega) (by omega) (by omega) (by omega) (by omega) (by omega)
    · skip
      have hM68 : MW (dt40 80) := h39.2.2.1
      obtain ⟨h39_0, h39_1, h39_2, h39_3, h39_4, h39_5, h39_6, h39_7, h39_8⟩ := h39
      have M269 : MW (dt40 81) := MW_frk M236 hF42 (by decide)
      refine go_toq PM267 (k := 2) (pc' := 1435) (L' := [some (.inr (.inr (some 3000))), some (.inr (.inr (some 0))), some (.inr (.inr (some 79))), some (.inl i)]) (st' := []) (w' := (SH, dt40)) rfl ?_
      exact K dt40 hI41 hM68 M269 (by first | omega | (simp only [*]; done) | simp only [*]) (by omega) (by omega) (by omega) (by omega) (by omega) (by omega) (by omega) (by omega) (by omega) (by omega) (by omega) (by omega) (by omega)
  · skip
    obtain ⟨h3_0, h3_1, h3_2⟩ := h3
    have M270 : MW (dt4 81) := MW_frk hM2 hF6 (by decide)
    refine go_toq PM267 (k := 6) (pc' := 1129) (L' := [some (.inr (.inr (some 3000))), some (.inr (.inr (some 0))), some (.inr (.inr (some 79))), some (.inl i)]) (st' := [.inl (i + 1), .inr (.inr (some 3000)), .inr (.inr (some 79))]) (w' := (SH, dt4)) rfl ?_
    have r71 := i32_R (xs ((i + 1).toNat))
    refine go_smpq PM267 (L' := [some (.inr (.inr (some 3000))), some (.inr (.inr (some 0))), some (.inr (.inr (some 79))), some (.inl i)]) (st' := [.inl ((xs ((i + 1).toNat)).toInt), .inr (.inr (some 79))]) (w' := (SH, dt4)) rfl rfl (s_iald (n := L) (f := fun j => (xs j).toInt) (am_scr hLL) ⟨by omega, by omega⟩) ?_
    refine go_toq PM267 (k := 4) (pc' := 1134) (L' := [some (.inr (.inr (some 3000))), some (.inr (.inr (some 0))), some (.inr (.inr (some 79))), some (.inl i)]) (st' := [.inl (i + 2), .inr (.inr (some 3000)), .inl ((xs ((i + 1).toNat)).toInt), .inr (.inr (some 79))]) (w' := (SH, dt4)) rfl ?_
    have r72 := i32_R (xs ((i + 2).toNat))
    refine go_smpq PM267 (L' := [some (.inr (.inr (some 3000))), some (.inr (.inr (some 0))), some (.inr (.inr (some 79))), some (.inl i)]) (st' := [.inl ((xs ((i + 2).toNat)).toInt), .inl ((xs ((i + 1).toNat)).toInt), .inr (.inr (some 79))]) (w' := (SH, dt4)) rfl rfl (s_iald (n := L) (f := fun j => (xs j).toInt) (am_scr hLL) ⟨by omega, by omega⟩) ?_
    refine go_callq PM267 PM233 (Q' := _) rfl rfl rfl rfl (sp_X6_eyes L xs sio (d + 37) dt4 hI5 hM8  ((xs ((i + 1).toNat)).toInt) ⟨by omega, by omega⟩ ((xs ((i + 2).toNat)).toInt) ⟨by omega, by omega⟩ ) ?_
    rintro _ _ ⟨dt74, rfl, hI75, hF76, h73⟩
    refine ⟨rfl, ?_⟩
    have hF77 : Fr [0, 1, 2, 3, 4, 5, 6, 7, 8, 9, 10, 11, 12, 13, 14, 15, 16, 17, 18, 19, 20, 21, 22, 23, 24, 25, 26, 27, 28, 29, 30, 31, 32, 33, 34, 35, 36, 37, 38, 39, 40, 41, 42, 43, 44, 45, 46, 47, 48, 49, 50, 51, 52, 53, 54, 55, 56, 57, 58, 59, 60, 61, 62, 63, 64, 65, 66, 67, 68, 69, 70, 71, 72, 73, 74, 75, 76, 77, 78, 79, 80, 81, 82, 83, 84, 85, 86, 87, 88, 89, 90, 91, 92, 93, 94, 95, 96, 97, 98, 99, 100, 101, 102, 103, 104] dt dt74 := Fr_tr hF7 hF76 (by decide)
    have w78 : dt74 1 0 = dt4 1 0 := hF76 1 (by decide) 0
    have w79 : dt74 7 3 = dt4 7 3 := hF76 7 (by decide) 3
    have w80 : dt74 10 3 = dt4 10 3 := hF76 10 (by decide) 3
    have w81 : dt74 12 3 = dt4 12 3 := hF76 12 (by decide) 3
    have w82 : dt74 14 3 = dt4 14 3 := hF76 14 (by decide) 3
    have w83 : dt74 16 3 = dt4 16 3 := hF76 16 (by decide) 3
    have w84 : dt74 18 0 = dt4 18 0 := hF76 18 (by decide) 0
    have w85 : dt74 24 3 = dt4 24 3 := hF76 24 (by decide) 3
    have w86 : dt74 27 3 = dt4 27 3 := hF76 27 (by decide) 3
    have w87 : dt74 29 3 = dt4 29 3 := hF76 29 (by decide) 3
    have w88 : dt74 31 3 = dt4 31 3 := hF76 31 (by decide) 3
    have w89 : dt74 33 3 = dt4 33 3 := hF76 33 (by decide) 3
    have w90 : dt74 0 2 = dt4 0 2 := hF76 0 (by decide) 2
    have w91 : dt74 35 1 = dt4 35 1 := hF76 35 (by decide) 1
    have w92 : dt74 81 0 = dt4 81 0 := hF76 81 (by decide) 0
    have w93 : dt74 81 1 = dt4 81 1 := hF76 81 (by decide) 1
    have w94 : dt74 81 2 = dt4 81 2 := hF76 81 (by decide) 2
    have w95 : dt74 81 3 = dt4 81 3 := hF76 81 (by decide) 3
    have w96 : dt74 81 4 = dt4 81 4 := hF76 81 (by decide) 4
    have w97 : dt74 81 5 = dt4 81 5 := hF76 81 (by decide) 5
    have w98 : dt74 79 2 = dt4 79 2 := hF76 79 (by decide) 2
    have w99 : dt74 79 12 = dt4 79 12 := hF76 79 (by decide) 12
    rcases h73 with ⟨rfl, h73⟩ | ⟨v_h73, rfl, h73r, h73⟩
    · skip
      have hM100 : MW (dt74 80) := h73.2.1
      obtain ⟨h73_0, h73_1, h73_2, h73_3, h73_4, h73_5, h73_6, h73_7⟩ := h73
      have M2101 : MW (dt74 81) := MW_frk M270 hF76 (by decide)
      refine go_toq PM267 (k := 2) (pc' := 1435) (L' := [some (.inr (.inr (some 3000))), some (.inr (.inr (some 0))), some (.inr (.inr (some 79))), some (.inl i)]) (st' := []) (w' := (SH, dt74)) rfl ?_
      exact K dt74 hI75 hM100 M2101 (by first | omega | (simp only [*]; done) | simp only [*]) (by omega) (by omega) (by omega) (by omega) (by omega) (by omega) (by omega) (by omega) (by omega) (by omega) (by omega) (by omega) (by omega)
    · skip
      have hM102 : MW (dt74 80) := h73.2.2.1
      obtain ⟨h73_0, h73_1, h73_2, h73_3, h73_4, h73_5, h73_6, h73_7, h73_8⟩ := h73
      have M2103 : MW (dt74 81) := MW_frk M270 hF76 (by decide)
      refine go_toq PM267 (k := 2) (pc' := 1435) (L' := [some (.inr (.inr (some 3000))), some (.inr (.inr (some 0))), some (.inr (.inr (some 79))), some (.inl i)]) (st' := []) (w' := (SH, dt74)) rfl ?_
      exact K dt74 hI75 hM102 M2103 (by first | omega | (simp only [*]; done) | simp only [*]) (by omega) (by omega) (by omega) (by omega) (by omega) (by omega) (by omega) (by omega) (by omega) (by omega) (by omega) (by omega) (by omega)
set_option maxRecDepth 20000 in
set_option maxHeartbeats 8000000 in
theorem sp_case24 (L : Nat) (xs : Nat → Int32) (sio : Option Nat) (d : Nat) (Q : Option AV → am_W → Prop) (hLL : L ≤ 3072) (i : Int) (hi : 0 ≤ i ∧ i ≤ 3066) (hil : i ≤ (L : Int) - 6) (dt : Nat → Nat → Int) (hI : InvC dt) (hM : MW (dt 80)) (hM2 : MW (dt 81)) (hk0 : dt 1 0 = dt 80 0) (hk1 : dt 7 3 = dt 80 1) (hk2 : dt 10 3 = dt 80 2) (hk3 : dt 12 3 = dt 80 3) (hk4 : dt 14 3 = dt 80 4) (hk5 : dt 16 3 = dt 80 5) (hk6 : dt 18 0 = dt 81 0) (hk7 : dt 24 3 = dt 81 1) (hk8 : dt 27 3 = dt 81 2) (hk9 : dt 29 3 = dt 81 3) (hk10 : dt 31 3 = dt 81 4) (hk11 : dt 33 3 = dt 81 5) (hk12 : dt 0 2 = dt 79 2) (hk13 : dt 35 1 = dt 79 12) (K : ∀ (dt : Nat → Nat → Int) (hI : InvC dt) (hM : MW (dt 80)) (hM2 : MW (dt 81)) (hk0 : dt 1 0 = dt 80 0) (hk1 : dt 7 3 = dt 80 1) (hk2 : dt 10 3 = dt 80 2) (hk3 : dt 12 3 = dt 80 3) (hk4 : dt 14 3 = dt 80 4) (hk5 : dt 16 3 = dt 80 5) (hk6 : dt 18 0 = dt 81 0) (hk7 : dt 24 3 = dt 81 1) (hk8 : dt 27 3 = dt 81 2) (hk9 : dt 29 3 = dt 81 3) (hk10 : dt 31 3 = dt 81 4) (hk11 : dt 33 3 = dt 81 5) (hk12 : dt 0 2 = dt 79 2) (hk13 : dt 35 1 = dt 79 12), GO (am_XX L xs sio) (d + 39) 267 1435 [some (.inr (.inr (some 3000))), some (.inr (.inr (some 0))), some (.inr (.inr (some 79))), some (.inl i)] [] (SH, dt) Q) : GO (am_XX L xs sio) (d + 39) 267 1142 [some (.inr (.inr (some 3000))), some (.inr (.inr (some 0))), some (.inr (.inr (some 79))), some (.inl i)] [] (SH, dt) Q := by
  have hF : Fr [0, 1, 2, 3, 4, 5, 6, 7, 8, 9, 10, 11, 12, 13, 14, 15, 16, 17, 18, 19, 20, 21, 22, 23, 24, 25, 26, 27, 28, 29, 30, 31, 32, 33, 34, 35, 36, 37, 38, 39, 40, 41, 42, 43, 44, 45, 46, 47, 48, 49, 50, 51, 52, 53, 54, 55, 56, 57, 58, 59, 60, 61, 62, 63, 64, 65, 66, 67, 68, 69, 70, 71, 72, 73, 74, 75, 76, 77, 78, 79, 80, 81, 82, 83, 84, 85, 86, 87, 88, 89, 90, 91, 92, 93, 94, 95, 96, 97, 98, 99, 100, 101, 102, 103, 104] dt dt := Fr_refl
  refine go_toq PM267 (k := 5) (pc' := 1147) (L' := [some (.inr (.inr (some 3000))), some (.inr (.inr (some 0))), some (.inr (.inr (some 79))), some (.inl i)]) (st' := [.inl (i + 1), .inr (.inr (some 3000)), .inr (.inr (some 0))]) (w' := (SH, dt)) rfl ?_
  have r1 := i32_R (xs ((i + 1).toNat))
  refine go_smpq PM267 (L' := [some (.inr (.inr (some 3000))), some (.inr (.inr (some 0))), some (.inr (.inr (some 79))), some (.inl i)]) (st' := [.inl ((xs ((i + 1).toNat)).toInt), .inr (.inr (some 0))]) (w' := (SH, dt)) rfl rfl (s_iald (n := L) (f := fun j => (xs j).toInt) (am_scr hLL) ⟨by omega, by omega⟩) ?_
  refine go_callq PM267 PM91 (Q' := _) rfl rfl rfl rfl (sp_X5_way L xs sio (d + 35) dt hI  ((xs ((i + 1).toNat)).toInt) ⟨by omega, by omega⟩ ) ?_
  rintro _ _ ⟨rfl, h2⟩
  refine ⟨rfl, ?_⟩
  rcases h2 with ⟨v_h2, rfl, h2r, h2⟩
  refine go_toq PM267 (k := 6) (pc' := 1157) (L' := [some (.inr (.inr (some 3000))), some (.inr (.inr (some 0))), some (.inr (.inr (some 79))), some (.inl i)]) (st' := [.inl (i + 1), .inr (.inr (some 3000)), .inr (.inr (some 79))]) (w' := (SH, dt)) rfl ?_
  refine go_smpq PM267 (L' := [some (.inr (.inr (some 3000))), some (.inr (.inr (some 0))), some (.inr (.inr (some 79))), some (.inl i)]) (st' := [.inl ((xs ((i + 1).toNat)).toInt), .inr (.inr (some 79))]) (w' := (SH, dt)) rfl rfl (s_iald (n := L) (f := fun j => (xs j).toInt) (am_scr hLL) ⟨by omega, by omega⟩) ?_
  refine go_callq PM267 PM236 (Q' := _) rfl rfl rfl rfl (sp_X6_way L xs sio (d + 36) dt hI hM  ((xs ((i + 1).toNat)).toInt) ⟨by omega, by omega⟩ ) ?_
  rintro _ _ ⟨dt4, rfl, hI5, hF6, h3⟩
  refine ⟨rfl, ?_⟩
  have hF7 : Fr [0, 1, 2, 3, 4, 5, 6, 7, 8, 9, 10, 11, 12, 13, 14, 15, 16, 17, 18, 19, 20, 21, 22, 23, 24, 25, 26, 27, 28, 29, 30, 31, 32, 33, 34, 35, 36, 37, 38, 39, 40, 41, 42, 43, 44, 45, 46, 47, 48, 49, 50, 51, 52, 53, 54, 55, 56, 57, 58, 59, 60, 61, 62, 63, 64, 65, 66, 67, 68, 69, 70, 71, 72, 73, 74, 75, 76, 77, 78, 79, 80, 81, 82, 83, 84, 85, 86, 87, 88, 89, 90, 91, 92, 93, 94, 95, 96, 97, 98, 99, 100, 101, 102, 103, 104] dt dt4 := Fr_tr hF hF6 (by decide)
  have hM8 : MW (dt4 80) := MW_fr hM hF6 (by decide)
  have w9 : dt4 1 0 = dt 1 0 := hF6 1 (by decide) 0
  have w10 : dt4 7 3 = dt 7 3 := hF6 7 (by decide) 3
  have w11 : dt4 10 3 = dt 10 3 := hF6 10 (by decide) 3
  have w12 : dt4 12 3 = dt 12 3 := hF6 12 (by decide) 3
  have w13 : dt4 14 3 = dt 14 3 := hF6 14 (by decide) 3
  have w14 : dt4 16 3 = dt 16 3 := hF6 16 (by decide) 3
  have w15 : dt4 18 0 = dt 18 0 := hF6 18 (by decide) 0
  have w16 : dt4 24 3 = dt 24 3 := hF6 24 (by decide) 3
  have w17 : dt4 27 3 = dt 27 3 := hF6 27 (by decide) 3
  have w18 : dt4 29 3 = dt 29 3 := hF6 29 (by decide) 3
  have w19 : dt4 31 3 = dt 31 3 := hF6 31 (by decide) 3
  have w20 : dt4 33 3 = dt 33 3 := hF6 33 (by decide) 3
  have w21 : dt4 0 2 = dt 0 2 := hF6 0 (by decide) 2
  have w22 : dt4 35 1 = dt 35 1 := hF6 35 (by decide) 1
  have w23 : dt4 80 0 = dt 80 0 := hF6 80 (by decide) 0
  have w24 : dt4 80 1 = dt 80 1 := hF6 80 (by decide) 1
  have w25 : dt4 80 2 = dt 80 2 := hF6 80 (by decide) 2
  have w26 : dt4 80 3 = dt 80 3 := hF6 80 (by decide) 3
  have w27 : dt4 80 4 = dt 80 4 := hF6 80 (by decide) 4
  have w28 : dt4 80 5 = dt 80 5 := hF6 80 (by decide) 5
  have w29 : dt4 81 0 = dt 81 0 := hF6 81 (by decide) 0
  have w30 : dt4 81 1 = dt 81 1 := hF6 81 (by decide) 1
  have w31 : dt4 81 2 = dt 81 2 := hF6 81 (by decide) 2
  have w32 : dt4 81 3 = dt 81 3 := hF6 81 (by decide) 3
  have w33 : dt4 81 4 = dt 81 4 := hF6 81 (by decide) 4
  have w34 : dt4 81 5 = dt 81 5 := hF6 81 (by decide) 5
  have w35 : dt4 79 2 = dt 79 2 := hF6 79 (by decide) 2
  have w36 : dt4 79 12 = dt 79 12 := hF6 79 (by decide) 12
  rcases h3 with ⟨v_h3, rfl, h3r, h3⟩
  have M237 : MW (dt4 81) := MW_frk hM2 hF6 (by decide)
  refine go_toq PM267 (k := 2) (pc' := 1435) (L' := [some (.inr (.inr (some 3000))), some (.inr (.inr (some 0))), some (.inr (.inr (some 79))), some (.inl i)]) (st' := []) (w' := (SH, dt4)) rfl ?_
  exact K dt4 hI5 hM8 M237 (by first | omega | (simp only [*]; done) | simp only [*]) (by omega) (by omega) (by omega) (by omega) (by omega) (by omega) (by omega) (by omega) (by omega) (by omega) (by omega) (by omega) (by omega)
set_option maxRecDepth 20000 in
set_option maxHeartbeats 8000000 in
theorem sp_case25 (L : Nat) (xs : Nat → Int32) (sio : Option Nat) (d : Nat) (Q : Option AV → am_W → Prop) (hLL : L ≤ 3072) (i : Int) (hi : 0 ≤ i ∧ i ≤ 3066) (hil : i ≤ (L : Int) - 6) (dt : Nat → Nat → Int) (hI : InvC dt) (hM : MW (dt 80)) (hM2 : MW (dt 81)) (hk0 : dt 1 0 = dt 80 0) (hk1 : dt 7 3 = dt 80 1) (hk2 : dt 10 3 = dt 80 2) (hk3 : dt 12 3 = dt 80 3) (hk4 : dt 14 3 = dt 80 4) (hk5 : dt 16 3 = dt 80 5) (hk6 : dt 18 0 = dt 81 0) (hk7 : dt 24 3 = dt 81 1) (hk8 : dt 27 3 = dt 81 2) (hk9 : dt 29 3 = dt 81 3) (hk10 : dt 31 3 = dt 81 4) (hk11 : dt 33 3 = dt 81 5) (hk12 : dt 0 2 = dt 79 2) (hk13 : dt 35 1 = dt 79 12) (K : ∀ (dt : Nat → Nat → Int) (hI : InvC dt) (hM : MW (dt 80)) (hM2 : MW (dt 81)) (hk0 : dt 1 0 = dt 80 0) (hk1 : dt 7 3 = dt 80 1) (hk2 : dt 10 3 = dt 80 2) (hk3 : dt 12 3 = dt 80 3) (hk4 : dt 14 3 = dt 80 4) (hk5 : dt 16 3 = dt 80 5) (hk6 : dt 18 0 = dt 81 0) (hk7 : dt 24 3 = dt 81 1) (hk8 : dt 27 3 = dt 81 2) (hk9 : dt 29 3 = dt 81 3) (hk10 : dt 31 3 = dt 81 4) (hk11 : dt 33 3 = dt 81 5) (hk12 : dt 0 2 = dt 79 2) (hk13 : dt 35 1 = dt 79 12), GO (am_XX L xs sio) (d + 39) 267 1435 [some (.inr (.inr (some 3000))), some (.inr (.inr (some 0))), some (.inr (.inr (some 79))), some (.inl i)] [] (SH, dt) Q) : GO (am_XX L xs sio) (d + 39) 267 1165 [some (.inr (.inr (some 3000))), some (.inr (.inr (some 0))), some (.inr (.inr (some 79))), some (.inl i)] [] (SH, dt) Q := by
  have hF : Fr [0, 1, 2, 3, 4, 5, 6, 7, 8, 9, 10, 11, 12, 13, 14, 15, 16, 17, 18, 19, 20, 21, 22, 23, 24, 25, 26, 27, 28, 29, 30, 31, 32, 33, 34, 35, 36, 37, 38, 39, 40, 41, 42, 43, 44, 45, 46, 47, 48, 49, 50, 51, 52, 53, 54, 55, 56, 57, 58, 59, 60, 61, 62, 63, 64, 65, 66, 67, 68, 69, 70, 71, 72, 73, 74, 75, 76, 77, 78, 79, 80, 81, 82, 83, 84, 85, 86, 87, 88, 89, 90, 91, 92, 93, 94, 95, 96, 97, 98, 99, 100, 101, 102, 103, 104] dt dt := Fr_refl
  refine go_toq PM267 (k := 5) (pc' := 1170) (L' := [some (.inr (.inr (some 3000))), some (.inr (.inr (some 0))), some (.inr (.inr (some 79))), some (.inl i)]) (st' := [.inl (i + 1), .inr (.inr (some 3000)), .inr (.inr (some 0))]) (w' := (SH, dt)) rfl ?_
  have r1 := i32_R (xs ((i + 1).toNat))
  refine go_smpq PM267 (L' := [some (.inr (.inr (some 3000))), some (.inr (.inr (some 0))), some (.inr (.inr (some 79))), some (.inl i)]) (st' := [.inl ((xs ((i + 1).toNat)).toInt), .inr (.inr (some 0))]) (w' := (SH, dt)) rfl rfl (s_iald (n := L) (f := fun j => (xs j).toInt) (am_scr hLL) ⟨by omega, by omega⟩) ?_
  refine go_toq PM267 (k := 4) (pc' := 1175) (L' := [some (.inr (.inr (some 3000))), some (.inr (.inr (some 0))), some (.inr (.inr (some 79))), some (.inl i)]) (st' := [.inl (i + 2), .inr (.inr (some 3000)), .inl ((xs ((i + 1).toNat)).toInt), .inr (.inr (some 0))]) (w' := (SH, dt)) rfl ?_
  have r2 := i32_R (xs ((i + 2).toNat))
  refine go_smpq PM267 (L' := [some (.inr (.inr (some 3000))), some (.inr (.inr (some 0))), some (.inr (.inr (some 79))), some (.inl i)]) (st' := [.inl ((xs ((i + 2).toNat)).toInt), .inl ((xs ((i + 1).toNat)).toInt), .inr (.inr (some 0))]) (w' := (SH, dt)) rfl rfl (s_iald (n := L) (f := fun j => (xs j).toInt) (am_scr hLL) ⟨by omega, by omega⟩) ?_
  refine go_callq PM267 PM92 (Q' := _) rfl rfl rfl rfl (sp_X5_house L xs sio (d + 36) dt hI  ((xs ((i + 1).toNat)).toInt) ⟨by omega, by omega⟩ ((xs ((i + 2).toNat)).toInt) ⟨by omega, by omega⟩ ) ?_
  rintro _ _ ⟨dt4, rfl, hI5, hF6, h3⟩
  refine ⟨rfl, ?_⟩
  have hF7 : Fr [0, 1, 2, 3, 4, 5, 6, 7, 8, 9, 10, 11, 12, 13, 14, 15, 16, 17, 18, 19, 20, 21, 22, 23, 24, 25, 26, 27, 28, 29, 30, 31, 32, 33, 34, 35, 36, 37, 38, 39, 40, 41, 42, 43, 44, 45, 46, 47, 48, 49, 50, 51, 52, 53, 54, 55, 56, 57, 58, 59, 60, 61, 62, 63, 64, 65, 66, 67, 68, 69, 70, 71, 72, 73, 74, 75, 76, 77, 78, 79, 80, 81, 82, 83, 84, 85, 86, 87, 88, 89, 90, 91, 92, 93, 94, 95, 96, 97, 98, 99, 100, 101, 102, 103, 104] dt dt4 := Fr_tr hF hF6 (by decide)
  have hM8 : MW (dt4 80) := MW_fr hM hF6 (by decide)
  have w9 : dt4 1 0 = dt 1 0 := hF6 1 (by decide) 0
  have w10 : dt4 7 3 = dt 7 3 := hF6 7 (by decide) 3
  have w11 : dt4 10 3 = dt 10 3 := hF6 10 (by decide) 3
  have w12 : dt4 12 3 = dt 12 3 := hF6 12 (by decide) 3
  have w13 : dt4 14 3 = dt 14 3 := hF6 14 (by decide) 3
  have w14 : dt4 18 0 = dt 18 0 := hF6 18 (by decide) 0
  have w15 : dt4 24 3 = dt 24 3 := hF6 24 (by decide) 3
  have w16 : dt4 27 3 = dt 27 3 := hF6 27 (by decide) 3
  have w17 : dt4 29 3 = dt 29 3 := hF6 29 (by decide) 3
  have w18 : dt4 31 3 = dt 31 3 := hF6 31 (by decide) 3
  have w19 : dt4 33 3 = dt 33 3 := hF6 33 (by decide) 3
  have w20 : dt4 0 2 = dt 0 2 := hF6 0 (by decide) 2
  have w21 : dt4 35 1 = dt 35 1 := hF6 35 (by decide) 1
  have w22 : dt4 80 0 = dt 80 0 := hF6 80 (by decide) 0
  have w23 : dt4 80 1 = dt 80 1 := hF6 80 (by decide) 1
  have w24 : dt4 80 2 = dt 80 2 := hF6 80 (by decide) 2
  have w25 : dt4 80 3 = dt 80 3 := hF6 80 (by decide) 3
  have w26 : dt4 80 4 = dt 80 4 := hF6 80 (by decide) 4
  have w27 : dt4 80 5 = dt 80 5 := hF6 80 (by decide) 5
  have w28 : dt4 81 0 = dt 81 0 := hF6 81 (by decide) 0
  have w29 : dt4 81 1 = dt 81 1 := hF6 81 (by decide) 1
  have w30 : dt4 81 2 = dt 81 2 := hF6 81 (by decide) 2
  have w31 : dt4 81 3 = dt 81 3 := hF6 81 (by decide) 3
  have w32 : dt4 81 4 = dt 81 4 := hF6 81 (by decide) 4
  have w33 : dt4 81 5 = dt 81 5 := hF6 81 (by decide) 5
  have w34 : dt4 79 2 = dt 79 2 := hF6 79 (by decide) 2
  have w35 : dt4 79 12 = dt 79 12 := hF6 79 (by decide) 12
  rcases h3 with ⟨rfl, h3⟩ | ⟨v_h3, rfl, h3r, h3⟩
  · skip
    obtain ⟨h3_0, h3_1⟩ := h3
    have M236 : MW (dt4 81) := MW_frk hM2 hF6 (by decide)
    refine go_toq PM267 (k := 6) (pc' := 1185) (L' := [some (.inr (.inr (some 3000))), some (.inr (.inr (some 0))), some (.inr (.inr (some 79))), some (.inl i)]) (st' := [.inl (i + 1), .inr (.inr (some 3000)), .inr (.inr (some 79))]) (w' := (SH, dt4)) rfl ?_
    have r37 := i32_R (xs ((i + 1).toNat))
    refine go_smpq PM267 (L' := [some (.inr (.inr (some 3000))), some (.inr (.inr (some 0))), some (.inr (.inr (some 79))), some (.inl i)]) (st' := [.inl ((xs ((i + 1).toNat)).toInt), .inr (.inr (some 79))]) (w' := (SH, dt4)) rfl rfl (s_iald (n := L) (f := fun j => (xs j).toInt) (am_scr hLL) ⟨by omega, by omega⟩) ?_
    refine go_toq PM267 (k := 4) (pc' := 1190) (L' := [some (.inr (.inr (some 3000))), some (.inr (.inr (some 0))), some (.inr (.inr (some 79))), some (.inl i)]) (st' := [.inl (i + 2), .inr (.inr (some 3000)), .inl ((xs ((i + 1).toNat)).toInt), .inr (.inr (some 79))]) (w' := (SH, dt4)) rfl ?_
    have r38 := i32_R (xs ((i + 2).toNat))
    refine go_smpq PM267 (L' := [some (.inr (.inr (some 3000))), some (.inr (.inr (some 0))), some (.inr (.inr (some 79))), some (.inl i)]) (st' := [.inl ((xs ((i + 2).toNat)).toInt), .inl ((xs ((i + 1).toNat)).toInt), .inr (.inr (some 79))]) (w' := (SH, dt4)) rfl rfl (s_iald (n := L) (f := fun j => (xs j).toInt) (am_scr hLL) ⟨by omega, by omega⟩) ?_
    refine go_callq PM267 PM237 (Q' := _) rfl rfl rfl rfl (sp_X6_house L xs sio (d + 37) dt4 hI5 hM8  ((xs ((i + 1).toNat)).toInt) ⟨by omega, by omega⟩ ((xs ((i + 2).toNat)).toInt) ⟨by omega, by omega⟩ ) ?_
    rintro _ _ ⟨dt40, rfl, hI41, hF42, h39⟩
    refine ⟨rfl, ?_⟩
    have hF43 : Fr [0, 1, 2, 3, 4, 5, 6, 7, 8, 9, 10, 11, 12, 13, 14, 15, 16, 17, 18, 19, 20, 21, 22, 23, 24, 25, 26, 27, 28, 29, 30, 31, 32, 33, 34, 35, 36, 37, 38, 39, 40, 41, 42, 43, 44, 45, 46, 47, 48, 49, 50, 51, 52, 53, 54, 55, 56, 57, 58, 59, 60, 61, 62, 63, 64, 65, 66, 67, 68, 69, 70, 71, 72, 73, 74, 75, 76, 77, 78, 79, 80, 81, 82, 83, 84, 85, 86, 87, 88, 89, 90, 91, 92, 93, 94, 95, 96, 97, 98, 99, 100, 101, 102, 103, 104] dt dt40 := Fr_tr hF7 hF42 (by decide)
    have w44 : dt40 1 0 = dt4 1 0 := hF42 1 (by decide) 0
    have w45 : dt40 7 3 = dt4 7 3 := hF42 7 (by decide) 3
    have w46 : dt40 10 3 = dt4 10 3 := hF42 10 (by decide) 3
    have w47 : dt40 12 3 = dt4 12 3 := hF42 12 (by decide) 3
    have w48 : dt40 14 3 = dt4 14 3 := hF42 14 (by decide) 3
    have w49 : dt40 16 3 = dt4 16 3 := hF42 16 (by decide) 3
    have w50 : dt40 18 0 = dt4 18 0 := hF42 18 (by decide) 0
    have w51 : dt40 24 3 = dt4 24 3 := hF42 24 (by decide) 3
    have w52 : dt40 27 3 = dt4 27 3 := hF42 27 (by decide) 3
    have w53 : dt40 29 3 = dt4 29 3 := hF42 29 (by decide) 3
    have w54 : dt40 31 3 = dt4 31 3 := hF42 31 (by decide) 3
    have w55 : dt40 33 3 = dt4 33 3 := hF42 33 (by decide) 3
    have w56 : dt40 0 2 = dt4 0 2 := hF42 0 (by decide) 2
    have w57 : dt40 35 1 = dt4 35 1 := hF42 35 (by decide) 1
    have w58 : dt40 81 0 = dt4 81 0 := hF42 81 (by decide) 0
    have w59 : dt40 81 1 = dt4 81 1 := hF42 81 (by decide) 1
    have w60 : dt40 81 2 = dt4 81 2 := hF42 81 (by decide) 2
    have w61 : dt40 81 3 = dt4 81 3 := hF42 81 (by decide) 3
    have w62 : dt40 81 4 = dt4 81 4 := hF42 81 (by decide) 4
    have w63 : dt40 81 5 = dt4 81 5 := hF42 81 (by decide) 5
    have w64 : dt40 79 2 = dt4 79 2 := hF42 79 (by decide) 2
    have w65 : dt40 79 12 = dt4 79 12 := hF42 79 (by decide) 12
    rcases h39 with ⟨rfl, h39⟩ | ⟨v_h39, rfl, h39r, h39⟩
    · skip
      have hM66 : MW (dt40 80) := h39.2.1
      obtain ⟨h39_0, h39_1, h39_2, h39_3, h39_4, h39_5, h39_6, h39_7⟩ := h39
      have M267 : MW (dt40 81) := MW_frk M236 hF42 (by decide)
      refine go_toq PM267 (k := 2) (pc' := 1435) (L' := [some (.inr (.inr (some 3000))), some (.inr (.inr (some 0))), some (.inr (.inr (some 79))), some (.inl i)]) (st' := []) (w' := (SH, dt40)) rfl ?_
      exact K dt40 hI41 hM66 M267 (by first | omega | (simp only [*]; done) | simp only [*]) (by omega) (by omega) (by omega) (by omega) (by omega) (by omega) (by omega) (by omega) (by omega) (by omega) (by omega) (by omega) (by omega)
    · skip
      have hM68 : MW (dt40 80) := h39.2.2.1
      obtain ⟨h39_0, h39_1, h39_2, h39_3, h39_4, h39_5, h39_6, h39_7, h39_8⟩ := h39
      have M269 : MW (dt40 81) := MW_frk M236 hF42 (by decide)
      refine go_toq PM267 (k := 2) (pc' := 1435) (L' := [some (.inr (.inr (some 3000))), some (.inr (.inr (some 0))), some (.inr (.inr (some 79))), some (.inl i)]) (st' := []) (w' := (SH, dt40)) rfl ?_
      exact K dt40 hI41 hM68 M269 (by first | omega | (simp only [*]; done) | simp only [*]) (by omega) (by omega) (by omega) (by omega) (by omega) (by omega) (by omega) (by omega) (by omega) (by omega) (by omega) (by omega) (by omega)
  · skip
    obtain ⟨h3_0, h3_1, h3_2⟩ := h3
    have M270 : MW (dt4 81) := MW_frk hM2 hF6 (by decide)
    refine go_toq PM267 (k := 6) (pc' := 1185) (L' := [some (.inr (.inr (some 3000))), some (.inr (.inr (some 0))), some (.inr (.inr (some 79))), some (.inl i)]) (st' := [.inl (i + 1), .inr (.inr (some 3000)), .inr (.inr (some 79))]) (w' := (SH, dt4)) rfl ?_
    have r71 := i32_R (xs ((i + 1).toNat))
    refine go_smpq PM267 (L' := [some (.inr (.inr (some 3000))), some (.inr (.inr (some 0))), some (.inr (.inr (some 79))), some (.inl i)]) (st' := [.inl ((xs ((i + 1).toNat)).toInt), .inr (.inr (some 79))]) (w' := (SH, dt4)) rfl rfl (s_iald (n := L) (f := fun j => (xs j).toInt) (am_scr hLL) ⟨by omega, by omega⟩) ?_
    refine go_toq PM267 (k := 4) (pc' := 1190) (L' := [some (.inr (.inr (some 3000))), some (.inr (.inr (some 0))), some (.inr (.inr (some 79))), some (.inl i)]) (st' := [.inl (i + 2), .inr (.inr (some 3000)), .inl ((xs ((i + 1).toNat)).toInt), .inr (.inr (some 79))]) (w' := (SH, dt4)) rfl ?_
    have r72 := i32_R (xs ((i + 2).toNat))
    refine go_smpq PM267 (L' := [some (.inr (.inr (some 3000))), some (.inr (.inr (some 0))), some (.inr (.inr (some 79))), some (.inl i)]) (st' := [.inl ((xs ((i + 2).toNat)).toInt), .inl ((xs ((i + 1).toNat)).toInt), .inr (.inr (some 79))]) (w' := (SH, dt4)) rfl rfl (s_iald (n := L) (f := fun j => (xs j).toInt) (am_scr hLL) ⟨by omega, by omega⟩) ?_
    refine go_callq PM267 PM237 (Q' := _) rfl rfl rfl rfl (sp_X6_house L xs sio (d + 37) dt4 hI5 hM8  ((xs ((i + 1).toNat)).toInt) ⟨by omega, by omega⟩ ((xs ((i + 2).toNat)).toInt) ⟨by omega, by omega⟩ ) ?_
    rintro _ _ ⟨dt74, rfl, hI75, hF76, h73⟩
    refine ⟨rfl, ?_⟩
    have hF77 : Fr [0, 1, 2, 3, 4, 5, 6, 7, 8, 9, 10, 11, 12, 13, 14, 15, 16, 17, 18, 19, 20, 21, 22, 23, 24, 25, 26, 27, 28, 29, 30, 31, 32, 33, 34, 35, 36, 37, 38, 39, 40, 41, 42, 43, 44, 45, 46, 47, 48, 49, 50, 51, 52, 53, 54, 55, 56, 57, 58, 59, 60, 61, 62, 63, 64, 65, 66, 67, 68, 69, 70, 71, 72, 73, 74, 75, 76, 77, 78, 79, 80, 81, 82, 83, 84, 85, 86, 87, 88, 89, 90, 91, 92, 93, 94, 95, 96, 97, 98, 99, 100, 101, 102, 103, 104] dt dt74 := Fr_tr hF7 hF76 (by decide)
    have w78 : dt74 1 0 = dt4 1 0 := hF76 1 (by decide) 0
    have w79 : dt74 7 3 = dt4 7 3 := hF76 7 (by decide) 3
    have w80 : dt74 10 3 = dt4 10 3 := hF76 10 (by decide) 3
    have w81 : dt74 12 3 = dt4 12 3 := hF76 12 (by decide) 3
    have w82 : dt74 14 3 = dt4 14 3 := hF76 14 (by decide) 3
    have w83 : dt74 16 3 = dt4 16 3 := hF76 16 (by decide) 3
    have w84 : dt74 18 0 = dt4 18 0 := hF76 18 (by decide) 0
    have w85 : dt74 24 3 = dt4 24 3 := hF76 24 (by decide) 3
    have w86 : dt74 27 3 = dt4 27 3 := hF76 27 (by decide) 3
    have w87 : dt74 29 3 = dt4 29 3 := hF76 29 (by decide) 3
    have w88 : dt74 31 3 = dt4 31 3 := hF76 31 (by decide) 3
    have w89 : dt74 33 3 = dt4 33 3 := hF76 33 (by decide) 3
    have w90 : dt74 0 2 = dt4 0 2 := hF76 0 (by decide) 2
    have w91 : dt74 35 1 = dt4 35 1 := hF76 35 (by decide) 1
    have w92 : dt74 81 0 = dt4 81 0 := hF76 81 (by decide) 0
    have w93 : dt74 81 1 = dt4 81 1 := hF76 81 (by decide) 1
    have w94 : dt74 81 2 = dt4 81 2 := hF76 81 (by decide) 2
    have w95 : dt74 81 3 = dt4 81 3 := hF76 81 (by decide) 3
    have w96 : dt74 81 4 = dt4 81 4 := hF76 81 (by decide) 4
    have w97 : dt74 81 5 = dt4 81 5 := hF76 81 (by decide) 5
    have w98 : dt74 79 2 = dt4 79 2 := hF76 79 (by decide) 2
    have w99 : dt74 79 12 = dt4 79 12 := hF76 79 (by decide) 12
    rcases h73 with ⟨rfl, h73⟩ | ⟨v_h73, rfl, h73r, h73⟩
    · skip
      have hM100 : MW (dt74 80) := h73.2.1
      obtain ⟨h73_0, h73_1, h73_2, h73_3, h73_4, h73_5, h73_6, h73_7⟩ := h73
      have M2101 : MW (dt74 81) := MW_frk M270 hF76 (by decide)
      refine go_toq PM267 (k := 2) (pc' := 1435) (L' := [some (.inr (.inr (some 3000))), some (.inr (.inr (some 0))), some (.inr (.inr (some 79))), some (.inl i)]) (st' := []) (w' := (SH, dt74)) rfl ?_
      exact K dt74 hI75 hM100 M2101 (by first | omega | (simp only [*]; done) | simp only [*]) (by omega) (by omega) (by omega) (by omega) (by omega) (by omega) (by omega) (by omega) (by omega) (by omega) (by omega) (by omega) (by omega)
    · skip
      have hM102 : MW (dt74 80) := h73.2.2.1
      obtain ⟨h73_0, h73_1, h73_2, h73_3, h73_4, h73_5, h73_6, h73_7, h73_8⟩ := h73
      have M2103 : MW (dt74 81) := MW_frk M270 hF76 (by decide)
      refine go_toq PM267 (k := 2) (pc' := 1435) (L' := [some (.inr (.inr (some 3000))), some (.inr (.inr (some 0))), some (.inr (.inr (some 79))), some (.inl i)]) (st' := []) (w' := (SH, dt74)) rfl ?_
      exact K dt74 hI75 hM102 M2103 (by first | omega | (simp only [*]; done) | simp only [*]) (by omega) (by omega) (by omega) (by omega) (by omega) (by omega) (by omega) (by omega) (by omega) (by omega) (by omega) (by omega) (by omega)
set_option maxRecDepth 20000 in
set_option maxHeartbeats 8000000 in
theorem sp_case26 (L : Nat) (xs : Nat → Int32) (sio : Option Nat) (d : Nat) (Q : Option AV → am_W → Prop) (hLL : L ≤ 3072) (i : Int) (hi : 0 ≤ i ∧ i ≤ 3066) (hil : i ≤ (L : Int) - 6) (dt : Nat → Nat → Int) (hI : InvC dt) (hM : MW (dt 80)) (hM2 : MW (dt 81)) (hk0 : dt 1 0 = dt 80 0) (hk1 : dt 7 3 = dt 80 1) (hk2 : dt 10 3 = dt 80 2) (hk3 : dt 12 3 = dt 80 3) (hk4 : dt 14 3 = dt 80 4) (hk5 : dt 16 3 = dt 80 5) (hk6 : dt 18 0 = dt 81 0) (hk7 : dt 24 3 = dt 81 1) (hk8 : dt 27 3 = dt 81 2) (hk9 : dt 29 3 = dt 81 3) (hk10 : dt 31 3 = dt 81 4) (hk11 : dt 33 3 = dt 81 5) (hk12 : dt 0 2 = dt 79 2) (hk13 : dt 35 1 = dt 79 12) (K : ∀ (dt : Nat → Nat → Int) (hI : InvC dt) (hM : MW (dt 80)) (hM2 : MW (dt 81)) (hk0 : dt 1 0 = dt 80 0) (hk1 : dt 7 3 = dt 80 1) (hk2 : dt 10 3 = dt 80 2) (hk3 : dt 12 3 = dt 80 3) (hk4 : dt 14 3 = dt 80 4) (hk5 : dt 16 3 = dt 80 5) (hk6 : dt 18 0 = dt 81 0) (hk7 : dt 24 3 = dt 81 1) (hk8 : dt 27 3 = dt 81 2) (hk9 : dt 29 3 = dt 81 3) (hk10 : dt 31 3 = dt 81 4) (hk11 : dt 33 3 = dt 81 5) (hk12 : dt 0 2 = dt 79 2) (hk13 : dt 35 1 = dt 79 12), GO (am_XX L xs sio) (d + 39) 267 1435 [some (.inr (.inr (some 3000))), some (.inr (.inr (some 0))), some (.inr (.inr (some 79))), some (.inl i)] [] (SH, dt) Q) : GO (am_XX L xs sio) (d + 39) 267 1198 [some (.inr (.inr (some 3000))), some (.inr (.inr (some 0))), some (.inr (.inr (some 79))), some (.inl i)] [] (SH, dt) Q := by
  have hF : Fr [0, 1, 2, 3, 4, 5, 6, 7, 8, 9, 10, 11, 12, 13, 14, 15, 16, 17, 18, 19, 20, 21, 22, 23, 24, 25, 26, 27, 28, 29, 30, 31, 32, 33, 34, 35, 36, 37, 38, 39, 40, 41, 42, 43, 44, 45, 46, 47, 48, 49, 50, 51, 52, 53, 54, 55, 56, 57, 58, 59, 60, 61, 62, 63, 64, 65, 66, 67, 68, 69, 70, 71, 72, 73, 74, 75, 76, 77, 78, 79, 80, 81, 82, 83, 84, 85, 86, 87, 88, 89, 90, 91, 92, 93, 94, 95, 96, 97, 98, 99, 100, 101, 102, 103, 104] dt dt := Fr_refl
  refine go_toq PM267 (k := 5) (pc' := 1203) (L' := [some (.inr (.inr (some 3000))), some (.inr (.inr (some 0))), some (.inr (.inr (some 79))), some (.inl i)]) (st' := [.inl (i + 1), .inr (.inr (some 3000)), .inr (.inr (some 0))]) (w' := (SH, dt)) rfl ?_
  have r1 := i32_R (xs ((i + 1).toNat))
  refine go_smpq PM267 (L' := [some (.inr (.inr (some 3000))), some (.inr (.inr (some 0))), some (.inr (.inr (some 79))), some (.inl i)]) (st' := [.inl ((xs ((i + 1).toNat)).toInt), .inr (.inr (some 0))]) (w' := (SH, dt)) rfl rfl (s_iald (n := L) (f := fun j => (xs j).toInt) (am_scr hLL) ⟨by omega, by omega⟩) ?_
  refine go_callq PM267 PM93 (Q' := _) rfl rfl rfl rfl (sp_X5_houses L xs sio (d + 34) dt hI  ((xs ((i + 1).toNat)).toInt) ⟨by omega, by omega⟩ ) ?_
  rintro _ _ ⟨rfl, h2⟩
  refine ⟨rfl, ?_⟩
  rcases h2 with ⟨v_h2, rfl, h2r, h2⟩
  refine go_toq PM267 (k := 6) (pc' := 1213) (L' := [some (.inr (.inr (some 3000))), some (.inr (.inr (some 0))), some (.inr (.inr (some 79))), some (.inl i)]) (st' := [.inl (i + 1), .inr (.inr (some 3000)), .inr (.inr (some 79))]) (w' := (SH, dt)) rfl ?_
  refine go_smpq PM267 (L' := [some (.inr (.inr (some 3000))), some (.inr (.inr (some 0))), some (.inr (.inr (some 79))), some (.inl i)]) (st' := [.inl ((xs ((i + 1).toNat)).toInt), .inr (.inr (some 79))]) (w' := (SH, dt)) rfl rfl (s_iald (n := L) (f := fun j => (xs j).toInt) (am_scr hLL) ⟨by omega, by omega⟩) ?_
  refine go_callq PM267 PM239 (Q' := _) rfl rfl rfl rfl (sp_X6_houses L xs sio (d + 37) dt hI hM  ((xs ((i + 1).toNat)).toInt) ⟨by omega, by omega⟩ ) ?_
  rintro _ _ ⟨rfl, h3⟩
  refine ⟨rfl, ?_⟩
  rcases h3 with ⟨v_h3, rfl, h3r, h3⟩
  refine go_toq PM267 (k := 2) (pc' := 1435) (L' := [some (.inr (.inr (some 3000))), some (.inr (.inr (some 0))), some (.inr (.inr (some 79))), some (.inl i)]) (st' := []) (w' := (SH, dt)) rfl ?_
  exact K dt hI hM hM2 (by first | omega | (simp only [*]; done) | simp only [*]) (by omega) (by omega) (by omega) (by omega) (by omega) (by omega) (by omega) (by omega) (by omega) (by omega) (by omega) (by omega) (by omega)
set_option maxRecDepth 20000 in
set_option maxHeartbeats 8000000 in
theorem sp_case27 (L : Nat) (xs : Nat → Int32) (sio : Option Nat) (d : Nat) (Q : Option AV → am_W → Prop) (hLL : L ≤ 3072) (i : Int) (hi : 0 ≤ i ∧ i ≤ 3066) (hil : i ≤ (L : Int) - 6) (dt : Nat → Nat → Int) (hI : InvC dt) (hM : MW (dt 80)) (hM2 : MW (dt 81)) (hk0 : dt 1 0 = dt 80 0) (hk1 : dt 7 3 = dt 80 1) (hk2 : dt 10 3 = dt 80 2) (hk3 : dt 12 3 = dt 80 3) (hk4 : dt 14 3 = dt 80 4) (hk5 : dt 16 3 = dt 80 5) (hk6 : dt 18 0 = dt 81 0) (hk7 : dt 24 3 = dt 81 1) (hk8 : dt 27 3 = dt 81 2) (hk9 : dt 29 3 = dt 81 3) (hk10 : dt 31 3 = dt 81 4) (hk11 : dt 33 3 = dt 81 5) (hk12 : dt 0 2 = dt 79 2) (hk13 : dt 35 1 = dt 79 12) (K : ∀ (dt : Nat → Nat → Int) (hI : InvC dt) (hM : MW (dt 80)) (hM2 : MW (dt 81)) (hk0 : dt 1 0 = dt 80 0) (hk1 : dt 7 3 = dt 80 1) (hk2 : dt 10 3 = dt 80 2) (hk3 : dt 12 3 = dt 80 3) (hk4 : dt 14 3 = dt 80 4) (hk5 : dt 16 3 = dt 80 5) (hk6 : dt 18 0 = dt 81 0) (hk7 : dt 24 3 = dt 81 1) (hk8 : dt 27 3 = dt 81 2) (hk9 : dt 29 3 = dt 81 3) (hk10 : dt 31 3 = dt 81 4) (hk11 : dt 33 3 = dt 81 5) (hk12 : dt 0 2 = dt 79 2) (hk13 : dt 35 1 = dt 79 12), GO (am_XX L xs sio) (d + 39) 267 1435 [some (.inr (.inr (some 3000))), some (.inr (.inr (some 0))), some (.inr (.inr (some 79))), some (.inl i)] [] (SH, dt) Q) : GO (am_XX L xs sio) (d + 39) 267 1221 [some (.inr (.inr (some 3000))), some (.inr (.inr (some 0))), some (.inr (.inr (some 79))), some (.inl i)] [] (SH, dt) Q := by
  have hF : Fr [0, 1, 2, 3, 4, 5, 6, 7, 8, 9, 10, 11, 12, 13, 14, 15, 16, 17, 18, 19, 20, 21, 22, 23, 24, 25, 26, 27, 28, 29, 30, 31, 32, 33, 34, 35, 36, 37, 38, 39, 40, 41, 42, 43, 44, 45, 46, 47, 48, 49, 50, 51, 52, 53, 54, 55, 56, 57, 58, 59, 60, 61, 62, 63, 64, 65, 66, 67, 68, 69, 70, 71, 72, 73, 74, 75, 76, 77, 78, 79, 80, 81, 82, 83, 84, 85, 86, 87, 88, 89, 90, 91, 92, 93, 94, 95, 96, 97, 98, 99, 100, 101, 102, 103, 104] dt dt := Fr_refl
  refine go_toq PM267 (k := 5) (pc' := 1226) (L' := [some (.inr (.inr (some 3000))), some (.inr (.inr (some 0))), some (.inr (.inr (some 79))), some (.inl i)]) (st' := [.inl (i + 1), .inr (.inr (some 3000)), .inr (.inr (some 0))]) (w' := (SH, dt)) rfl ?_
  have r1 := i32_R (xs ((i + 1).toNat))
  refine go_smpq PM267 (L' := [some (.inr (.inr (some 3000))), some (.inr (.inr (some 0))), some (.inr (.inr (some 79))), some (.inl i)]) (st' := [.inl ((xs ((i + 1).toNat)).toInt), .inr (.inr (some 0))]) (w' := (SH, dt)) rfl rfl (s_iald (n := L) (f := fun j => (xs j).toInt) (am_scr hLL) ⟨by omega, by omega⟩) ?_
  refine go_toq PM267 (k := 4) (pc' := 1231) (L' := [some (.inr (.inr (some 3000))), some (.inr (.inr (some 0))), some (.inr (.inr (some 79))), some (.inl i)]) (st' := [.inl (i + 2), .inr (.inr (some 3000)), .inl ((xs ((i + 1).toNat)).toInt), .inr (.inr (some 0))]) (w' := (SH, dt)) rfl ?_
  have r2 := i32_R (xs ((i + 2).toNat))
  refine go_smpq PM267 (L' := [some (.inr (.inr (some 3000))), some (.inr (.inr (some 0))), some (.inr (.inr (some 79))), some (.inl i)]) (st' := [.inl ((xs ((i + 2).toNat)).toInt), .inl ((xs ((i + 1).toNat)).toInt), .inr (.inr (some 0))]) (w' := (SH, dt)) rfl rfl (s_iald (n := L) (f := fun j => (xs j).toInt) (am_scr hLL) ⟨by omega, by omega⟩) ?_
  refine go_callq PM267 PM94 (Q' := _) rfl rfl rfl rfl (sp_X5_sorts L xs sio (d + 33) dt hI  ((xs ((i + 1).toNat)).toInt) ⟨by omega, by omega⟩ ((xs ((i + 2).toNat)).toInt) ⟨by omega, by omega⟩ ) ?_
  rintro _ _ ⟨dt4, rfl, hI5, hF6, h3⟩
  refine ⟨rfl, ?_⟩
  have hF7 : Fr [0, 1, 2, 3, 4, 5, 6, 7, 8, 9, 10, 11, 12, 13, 14, 15, 16, 17, 18, 19, 20, 21, 22, 23, 24, 25, 26, 27, 28, 29, 30, 31, 32, 33, 34, 35, 36, 37, 38, 39, 40, 41, 42, 43, 44, 45, 46, 47, 48, 49, 50, 51, 52, 53, 54, 55, 56, 57, 58, 59, 60, 61, 62, 63, 64, 65, 66, 67, 68, 69, 70, 71, 72, 73, 74, 75, 76, 77, 78, 79, 80, 81, 82, 83, 84, 85, 86, 87, 88, 89, 90, 91, 92, 93, 94, 95, 96, 97, 98, 99, 100, 101, 102, 103, 104] dt dt4 := Fr_tr hF hF6 (by decide)
  have hM8 : MW (dt4 80) := MW_fr hM hF6 (by decide)
  have w9 : dt4 1 0 = dt 1 0 := hF6 1 (by decide) 0
  have w10 : dt4 7 3 = dt 7 3 := hF6 7 (by decide) 3
  have w11 : dt4 10 3 = dt 10 3 := hF6 10 (by decide) 3
  have w12 : dt4 12 3 = dt 12 3 := hF6 12 (by decide) 3
  have w13 : dt4 14 3 = dt 14 3 := hF6 14 (by decide) 3
  have w14 : dt4 16 3 = dt 16 3 := hF6 16 (by decide) 3
  have w15 : dt4 18 0 = dt 18 0 := hF6 18 (by decide) 0
  have w16 : dt4 24 3 = dt 24 3 := hF6 24 (by decide) 3
  have w17 : dt4 27 3 = dt 27 3 := hF6 27 (by decide) 3
  have w18 : dt4 29 3 = dt 29 3 := hF6 29 (by decide) 3
  have w19 : dt4 31 3 = dt 31 3 := hF6 31 (by decide) 3
  have w20 : dt4 33 3 = dt 33 3 := hF6 33 (by decide) 3
  have w21 : dt4 0 2 = dt 0 2 := hF6 0 (by decide) 2
  have w22 : dt4 35 1 = dt 35 1 := hF6 35 (by decide) 1
  have w23 : dt4 80 0 = dt 80 0 := hF6 80 (by decide) 0
  have w24 : dt4 80 1 = dt 80 1 := hF6 80 (by decide) 1
  have w25 : dt4 80 2 = dt 80 2 := hF6 80 (by decide) 2
  have w26 : dt4 80 3 = dt 80 3 := hF6 80 (by decide) 3
  have w27 : dt4 80 4 = dt 80 4 := hF6 80 (by decide) 4
  have w28 : dt4 80 5 = dt 80 5 := hF6 80 (by decide) 5
  have w29 : dt4 81 0 = dt 81 0 := hF6 81 (by decide) 0
  have w30 : dt4 81 1 = dt 81 1 := hF6 81 (by decide) 1
  have w31 : dt4 81 2 = dt 81 2 := hF6 81 (by decide) 2
  have w32 : dt4 81 3 = dt 81 3 := hF6 81 (by decide) 3
  have w33 : dt4 81 4 = dt 81 4 := hF6 81 (by decide) 4
  have w34 : dt4 81 5 = dt 81 5 := hF6 81 (by decide) 5
  have w35 : dt4 79 2 = dt 79 2 := hF6 79 (by decide) 2
  have w36 : dt4 79 12 = dt 79 12 := hF6 79 (by decide) 12
  rcases h3 with ⟨v_h3, rfl, h3r, h3⟩
  have M237 : MW (dt4 81) := MW_frk hM2 hF6 (by decide)
  refine go_toq PM267 (k := 6) (pc' := 1241) (L' := [some (.inr (.inr (some 3000))), some (.inr (.inr (some 0))), some (.inr (.inr (some 79))), some (.inl i)]) (st' := [.inl (i + 1), .inr (.inr (some 3000)), .inr (.inr (some 79))]) (w' := (SH, dt4)) rfl ?_
  have r38 := i32_R (xs ((i + 1).toNat))
  refine go_smpq PM267 (L' := [some (.inr (.inr (some 3000))), some (.inr (.inr (some 0))), some (.inr (.inr (some 79))), some (.inl i)]) (st' := [.inl ((xs ((i + 1).toNat)).toInt), .inr (.inr (some 79))]) (w' := (SH, dt4)) rfl rfl (s_iald (n := L) (f := fun j => (xs j).toInt) (am_scr hLL) ⟨by omega, by omega⟩) ?_
  refine go_toq PM267 (k := 4) (pc' := 1246) (L' := [some (.inr (.inr (some 3000))), some (.inr (.inr (some 0))), some (.inr (.inr (some 79))), some (.inl i)]) (st' := [.inl (i + 2), .inr (.inr (some 3000)), .inl ((xs ((i + 1).toNat)).toInt), .inr (.inr (some 79))]) (w' := (SH, dt4)) rfl ?_
  have r39 := i32_R (xs ((i + 2).toNat))
  refine go_smpq PM267 (L' := [some (.inr (.inr (some 3000))), some (.inr (.inr (some 0))), some (.inr (.inr (some 79))), some (.inl i)]) (st' := [.inl ((xs ((i + 2).toNat)).toInt), .inl ((xs ((i + 1).toNat)).toInt), .inr (.inr (some 79))]) (w' := (SH, dt4)) rfl rfl (s_iald (n := L) (f := fun j => (xs j).toInt) (am_scr hLL) ⟨by omega, by omega⟩) ?_
  refine go_callq PM267 PM240 (Q' := _) rfl rfl rfl rfl (sp_X6_sorts L xs sio (d + 31) dt4 hI5 hM8  ((xs ((i + 1).toNat)).toInt) ⟨by omega, by omega⟩ ((xs ((i + 2).toNat)).toInt) ⟨by omega, by omega⟩ ) ?_
  rintro _ _ ⟨dt41, rfl, hI42, hF43, h40⟩
  refine ⟨rfl, ?_⟩
  have hF44 : Fr [0, 1, 2, 3, 4, 5, 6, 7, 8, 9, 10, 11, 12, 13, 14, 15, 16, 17, 18, 19, 20, 21, 22, 23, 24, 25, 26, 27, 28, 29, 30, 31, 32, 33, 34, 35, 36, 37, 38, 39, 40, 41, 42, 43, 44, 45, 46, 47, 48, 49, 50, 51, 52, 53, 54, 55, 56, 57, 58, 59, 60, 61, 62, 63, 64, 65, 66, 67, 68, 69, 70, 71, 72, 73, 74, 75, 76, 77, 78, 79, 80, 81, 82, 83, 84, 85, 86, 87, 88, 89, 90, 91, 92, 93, 94, 95, 96, 97, 98, 99, 100, 101, 102, 103, 104] dt dt41 := Fr_tr hF7 hF43 (by decide)
  have hM45 : MW (dt41 80) := MW_fr hM8 hF43 (by decide)
  have w46 : dt41 1 0 = dt4 1 0 := hF43 1 (by decide) 0
  have w47 : dt41 7 3 = dt4 7 3 := hF43 7 (by decide) 3
  have w48 : dt41 10 3 = dt4 10 3 := hF43 10 (by decide) 3
  have w49 : dt41 12 3 = dt4 12 3 := hF43 12 (by decide) 3
  have w50 : dt41 14 3 = dt4 14 3 := hF43 14 (by decide) 3
  have w51 : dt41 16 3 = dt4 16 3 := hF43 16 (by decide) 3
  have w52 : dt41 18 0 = dt4 18 0 := hF43 18 (by decide) 0
  have w53 : dt41 24 3 = dt4 24 3 := hF43 24 (by decide) 3
  have w54 : dt41 27 3 = dt4 27 3 := hF43 27 (by decide) 3
  have w55 : dt41 29 3 = dt4 29 3 := hF43 29 (by decide) 3
  have w56 : dt41 31 3 = dt4 31 3 := hF43 31 (by decide) 3
  have w57 : dt41 33 3 = dt4 33 3 := hF43 33 (by decide) 3
  have w58 : dt41 0 2 = dt4 0 2 := hF43 0 (by decide) 2
  have w59 : dt41 35 1 = dt4 35 1 := hF43 35 (by decide) 1
  have w60 : dt41 80 0 = dt4 80 0 := hF43 80 (by decide) 0
  have w61 : dt41 80 1 = dt4 80 1 := hF43 80 (by decide) 1
  have w62 : dt41 80 2 = dt4 80 2 := hF43 80 (by decide) 2
  have w63 : dt41 80 3 = dt4 80 3 := hF43 80 (by decide) 3
  have w64 : dt41 80 4 = dt4 80 4 := hF43 80 (by decide) 4
  have w65 : dt41 80 5 = dt4 80 5 := hF43 80 (by decide) 5
  have w66 : dt41 81 0 = dt4 81 0 := hF43 81 (by decide) 0
  have w67 : dt41 81 1 = dt4 81 1 := hF43 81 (by decide) 1
  have w68 : dt41 81 2 = dt4 81 2 := hF43 81 (by decide) 2
  have w69 : dt41 81 3 = dt4 81 3 := hF43 81 (by decide) 3
  have w70 : dt41 81 4 = dt4 81 4 := hF43 81 (by decide) 4
  have w71 : dt41 81 5 = dt4 81 5 := hF43 81 (by decide) 5
  have w72 : dt41 79 2 = dt4 79 2 := hF43 79 (by decide) 2
  have w73 : dt41 79 12 = dt4 79 12 := hF43 79 (by decide) 12
  rcases h40 with ⟨v_h40, rfl, h40r, h40⟩
  have M274 : MW (dt41 81) := MW_frk M237 hF43 (by decide)
  refine go_toq PM267 (k := 2) (pc' := 1435) (L' := [some (.inr (.inr (some 3000))), some (.inr (.inr (some 0))), some (.inr (.inr (some 79))), some (.inl i)]) (st' := []) (w' := (SH, dt41)) rfl ?_
  exact K dt41 hI42 hM45 M274 (by first | omega | (simp only [*]; done) | simp only [*]) (by omega) (by omega) (by omega) (by omega) (by omega) (by omega) (by omega) (by omega) (by omega) (by omega) (by omega) (by omega) (by omega)
set_option maxRecDepth 20000 in
set_option maxHeartbeats 8000000 in
theorem sp_case28 (L : Nat) (xs : Nat → Int32) (sio : Option Nat) (d : Nat) (Q : Option AV → am_W → Prop) (hLL : L ≤ 3072) (i : Int) (hi : 0 ≤ i ∧ i ≤ 3066) (hil : i ≤ (L : Int) - 6) (dt : Nat → Nat → Int) (hI : InvC dt) (hM : MW (dt 80)) (hM2 : MW (dt 81)) (hk0 : dt 1 0 = dt 80 0) (hk1 : dt 7 3 = dt 80 1) (hk2 : dt 10 3 = dt 80 2) (hk3 : dt 12 3 = dt 80 3) (hk4 : dt 14 3 = dt 80 4) (hk5 : dt 16 3 = dt 80 5) (hk6 : dt 18 0 = dt 81 0) (hk7 : dt 24 3 = dt 81 1) (hk8 : dt 27 3 = dt 81 2) (hk9 : dt 29 3 = dt 81 3) (hk10 : dt 31 3 = dt 81 4) (hk11 : dt 33 3 = dt 81 5) (hk12 : dt 0 2 = dt 79 2) (hk13 : dt 35 1 = dt 79 12) (K : ∀ (dt : Nat → Nat → Int) (hI : InvC dt) (hM : MW (dt 80)) (hM2 : MW (dt 81)) (hk0 : dt 1 0 = dt 80 0) (hk1 : dt 7 3 = dt 80 1) (hk2 : dt 10 3 = dt 80 2) (hk3 : dt 12 3 = dt 80 3) (hk4 : dt 14 3 = dt 80 4) (hk5 : dt 16 3 = dt 80 5) (hk6 : dt 18 0 = dt 81 0) (hk7 : dt 24 3 = dt 81 1) (hk8 : dt 27 3 = dt 81 2) (hk9 : dt 29 3 = dt 81 3) (hk10 : dt 31 3 = dt 81 4) (hk11 : dt 33 3 = dt 81 5) (hk12 : dt 0 2 = dt 79 2) (hk13 : dt 35 1 = dt 79 12), GO (am_XX L xs sio) (d + 39) 267 1435 [some (.inr (.inr (some 3000))), some (.inr (.inr (some 0))), some (.inr (.inr (some 79))), some (.inl i)] [] (SH, dt) Q) : GO (am_XX L xs sio) (d + 39) 267 1254 [some (.inr (.inr (some 3000))), some (.inr (.inr (some 0))), some (.inr (.inr (some 79))), some (.inl i)] [] (SH, dt) Q := by
  have hF : Fr [0, 1, 2, 3, 4, 5, 6, 7, 8, 9, 10, 11, 12, 13, 14, 15, 16, 17, 18, 19, 20, 21, 22, 23, 24, 25, 26, 27, 28, 29, 30, 31, 32, 33, 34, 35, 36, 37, 38, 39, 40, 41, 42, 43, 44, 45, 46, 47, 48, 49, 50, 51, 52, 53, 54, 55, 56, 57, 58, 59, 60, 61, 62, 63, 64, 65, 66, 67, 68, 69, 70, 71, 72, 73, 74, 75, 76, 77, 78, 79, 80, 81, 82, 83, 84, 85, 86, 87, 88, 89, 90, 91, 92, 93, 94, 95, 96, 97, 98, 99, 100, 101, 102, 103, 104] dt dt := Fr_refl
  refine go_toq PM267 (k := 5) (pc' := 1259) (L' := [some (.inr (.inr (some 3000))), some (.inr (.inr (some 0))), some (.inr (.inr (some 79))), some (.inl i)]) (st' := [.inl (i + 1), .inr (.inr (some 3000)), .inr (.inr (some 0))]) (w' := (SH, dt)) rfl ?_
  have r1 := i32_R (xs ((i + 1).toNat))
  refine go_smpq PM267 (L' := [some (.inr (.inr (some 3000))), some (.inr (.inr (some 0))), some (.inr (.inr (some 79))), some (.inl i)]) (st' := [.inl ((xs ((i + 1).toNat)).toInt), .inr (.inr (some 0))]) (w' := (SH, dt)) rfl rfl (s_iald (n := L) (f := fun j => (xs j).toInt) (am_scr hLL) ⟨by omega, by omega⟩) ?_
  refine go_toq PM267 (k := 4) (pc' := 1264) (L' := [some (.inr (.inr (some 3000))), some (.inr (.inr (some 0))), some (.inr (.inr (some 79))), some (.inl i)]) (st' := [.inl (i + 2), .inr (.inr (some 3000)), .inl ((xs ((i + 1).toNat)).toInt), .inr (.inr (some 0))]) (w' := (SH, dt)) rfl ?_
  have r2 := i32_R (xs ((i + 2).toNat))
  refine go_smpq PM267 (L' := [some (.inr (.inr (some 3000))), some (.inr (.inr (some 0))), some (.inr (.inr (some 79))), some (.inl i)]) (st' := [.inl ((xs ((i + 2).toNat)).toInt), .inl ((xs ((i + 1).toNat)).toInt), .inr (.inr (some 0))]) (w' := (SH, dt)) rfl rfl (s_iald (n := L) (f := fun j => (xs j).toInt) (am_scr hLL) ⟨by omega, by omega⟩) ?_
  refine go_callq PM267 PM95 (Q' := _) rfl rfl rfl rfl (sp_X5_curve L xs sio (d + 33) dt hI  ((xs ((i + 1).toNat)).toInt) ⟨by omega, by omega⟩ ((xs ((i + 2).toNat)).toInt) ⟨by omega, by omega⟩ ) ?_
  rintro _ _ ⟨dt4, rfl, hI5, hF6, h3⟩
  refine ⟨rfl, ?_⟩
  have hF7 : Fr [0, 1, 2, 3, 4, 5, 6, 7, 8, 9, 10, 11, 12, 13, 14, 15, 16, 17, 18, 19, 20, 21, 22, 23, 24, 25, 26, 27, 28, 29, 30, 31, 32, 33, 34, 35, 36, 37, 38, 39, 40, 41, 42, 43, 44, 45, 46, 47, 48, 49, 50, 51, 52, 53, 54, 55, 56, 57, 58, 59, 60, 61, 62, 63, 64, 65, 66, 67, 68, 69, 70, 71, 72, 73, 74, 75, 76, 77, 78, 79, 80, 81, 82, 83, 84, 85, 86, 87, 88, 89, 90, 91, 92, 93, 94, 95, 96, 97, 98, 99, 100, 101, 102, 103, 104] dt dt4 := Fr_tr hF hF6 (by decide)
  have hM8 : MW (dt4 80) := MW_fr hM hF6 (by decide)
  have w9 : dt4 1 0 = dt 1 0 := hF6 1 (by decide) 0
  have w10 : dt4 7 3 = dt 7 3 := hF6 7 (by decide) 3
  have w11 : dt4 10 3 = dt 10 3 := hF6 10 (by decide) 3
  have w12 : dt4 12 3 = dt 12 3 := hF6 12 (by decide) 3
  have w13 : dt4 14 3 = dt 14 3 := hF6 14 (by decide) 3
  have w14 : dt4 16 3 = dt 16 3 := hF6 16 (by decide) 3
  have w15 : dt4 18 0 = dt 18 0 := hF6 18 (by decide) 0
  have w16 : dt4 24 3 = dt 24 3 := hF6 24 (by decide) 3
  have w17 : dt4 27 3 = dt 27 3 := hF6 27 (by decide) 3
  have w18 : dt4 29 3 = dt 29 3 := hF6 29 (by decide) 3
  have w19 : dt4 31 3 = dt 31 3 := hF6 31 (by decide) 3
  have w20 : dt4 33 3 = dt 33 3 := hF6 33 (by decide) 3
  have w21 : dt4 0 2 = dt 0 2 := hF6 0 (by decide) 2
  have w22 : dt4 35 1 = dt 35 1 := hF6 35 (by decide) 1
  have w23 : dt4 80 0 = dt 80 0 := hF6 80 (by decide) 0
  have w24 : dt4 80 1 = dt 80 1 := hF6 80 (by decide) 1
  have w25 : dt4 80 2 = dt 80 2 := hF6 80 (by decide) 2
  have w26 : dt4 80 3 = dt 80 3 := hF6 80 (by decide) 3
  have w27 : dt4 80 4 = dt 80 4 := hF6 80 (by decide) 4
  have w28 : dt4 80 5 = dt 80 5 := hF6 80 (by decide) 5
  have w29 : dt4 81 0 = dt 81 0 := hF6 81 (by decide) 0
  have w30 : dt4 81 1 = dt 81 1 := hF6 81 (by decide) 1
  have w31 : dt4 81 2 = dt 81 2 := hF6 81 (by decide) 2
  have w32 : dt4 81 3 = dt 81 3 := hF6 81 (by decide) 3
  have w33 : dt4 81 4 = dt 81 4 := hF6 81 (by decide) 4
  have w34 : dt4 81 5 = dt 81 5 := hF6 81 (by decide) 5
  have w35 : dt4 79 2 = dt 79 2 := hF6 79 (by decide) 2
  have w36 : dt4 79 12 = dt 79 12 := hF6 79 (by decide) 12
  rcases h3 with ⟨v_h3, rfl, h3r, h3⟩
  have M237 : MW (dt4 81) := MW_frk hM2 hF6 (by decide)
  refine go_toq PM267 (k := 6) (pc' := 1274) (L' := [some (.inr (.inr (some 3000))), some (.inr (.inr (some 0))), some (.inr (.inr (some 79))), some (.inl i)]) (st' := [.inl (i + 1), .inr (.inr (some 3000)), .inr (.inr (some 79))]) (w' := (SH, dt4)) rfl ?_
  have r38 := i32_R (xs ((i + 1).toNat))
  refine go_smpq PM267 (L' := [some (.inr (.inr (some 3000))), some (.inr (.inr (some 0))), some (.inr (.inr (some 79))), some (.inl i)]) (st' := [.inl ((xs ((i + 1).toNat)).toInt), .inr (.inr (some 79))]) (w' := (SH, dt4)) rfl rfl (s_iald (n := L) (f := fun j => (xs j).toInt) (am_scr hLL) ⟨by omega, by omega⟩) ?_
  refine go_toq PM267 (k := 4) (pc' := 1279) (L' := [some (.inr (.inr (some 3000))), some (.inr (.inr (some 0))), some (.inr (.inr (some 79))), some (.inl i)]) (st' := [.inl (i + 2), .inr (.inr (some 3000)), .inl ((xs ((i + 1).toNat)).toInt), .inr (.inr (some 79))]) (w' := (SH, dt4)) rfl ?_
  have r39 := i32_R (xs ((i + 2).toNat))
  refine go_smpq PM267 (L' := [some (.inr (.inr (some 3000))), some (.inr (.inr (some 0))), some (.inr (.inr (some 79))), some (.inl i)]) (st' := [.inl ((xs ((i + 2).toNat)).toInt), .inl ((xs ((i + 1).toNat)).toInt), .inr (.inr (some 79))]) (w' := (SH, dt4)) rfl rfl (s_iald (n := L) (f := fun j => (xs j).toInt) (am_scr hLL) ⟨by omega, by omega⟩) ?_
  refine go_callq PM267 PM242 (Q' := _) rfl rfl rfl rfl (sp_X6_curve_k L xs sio (d + 30) dt4 hI5 hM8  ((xs ((i + 1).toNat)).toInt) ⟨by omega, by omega⟩ ((xs ((i + 2).toNat)).toInt) ⟨by omega, by omega⟩ ) ?_
  rintro _ _ ⟨dt41, rfl, hI42, hF43, h40⟩
  refine ⟨rfl, ?_⟩
  have hF44 : Fr [0, 1, 2, 3, 4, 5, 6, 7, 8, 9, 10, 11, 12, 13, 14, 15, 16, 17, 18, 19, 20, 21, 22, 23, 24, 25, 26, 27, 28, 29, 30, 31, 32, 33, 34, 35, 36, 37, 38, 39, 40, 41, 42, 43, 44, 45, 46, 47, 48, 49, 50, 51, 52, 53, 54, 55, 56, 57, 58, 59, 60, 61, 62, 63, 64, 65, 66, 67, 68, 69, 70, 71, 72, 73, 74, 75, 76, 77, 78, 79, 80, 81, 82, 83, 84, 85, 86, 87, 88, 89, 90, 91, 92, 93, 94, 95, 96, 97, 98, 99, 100, 101, 102, 103, 104] dt dt41 := Fr_tr hF7 hF43 (by decide)
  have hM45 : MW (dt41 80) := MW_fr hM8 hF43 (by decide)
  have w46 : dt41 1 0 = dt4 1 0 := hF43 1 (by decide) 0
  have w47 : dt41 7 3 = dt4 7 3 := hF43 7 (by decide) 3
  have w48 : dt41 10 3 = dt4 10 3 := hF43 10 (by decide) 3
  have w49 : dt41 12 3 = dt4 12 3 := hF43 12 (by decide) 3
  have w50 : dt41 14 3 = dt4 14 3 := hF43 14 (by decide) 3
  have w51 : dt41 16 3 = dt4 16 3 := hF43 16 (by decide) 3
  have w52 : dt41 18 0 = dt4 18 0 := hF43 18 (by decide) 0
  have w53 : dt41 24 3 = dt4 24 3 := hF43 24 (by decide) 3
  have w54 : dt41 27 3 = dt4 27 3 := hF43 27 (by decide) 3
  have w55 : dt41 29 3 = dt4 29 3 := hF43 29 (by decide) 3
  have w56 : dt41 31 3 = dt4 31 3 := hF43 31 (by decide) 3
  have w57 : dt41 33 3 = dt4 33 3 := hF43 33 (by decide) 3
  have w58 : dt41 0 2 = dt4 0 2 := hF43 0 (by decide) 2
  have w59 : dt41 35 1 = dt4 35 1 := hF43 35 (by decide) 1
  have w60 : dt41 80 0 = dt4 80 0 := hF43 80 (by decide) 0
  have w61 : dt41 80 1 = dt4 80 1 := hF43 80 (by decide) 1
  have w62 : dt41 80 2 = dt4 80 2 := hF43 80 (by decide) 2
  have w63 : dt41 80 3 = dt4 80 3 := hF43 80 (by decide) 3
  have w64 : dt41 80 4 = dt4 80 4 := hF43 80 (by decide) 4
  have w65 : dt41 80 5 = dt4 80 5 := hF43 80 (by decide) 5
  have w66 : dt41 81 0 = dt4 81 0 := hF43 81 (by decide) 0
  have w67 : dt41 81 1 = dt4 81 1 := hF43 81 (by decide) 1
  have w68 : dt41 81 2 = dt4 81 2 := hF43 81 (by decide) 2
  have w69 : dt41 81 3 = dt4 81 3 := hF43 81 (by decide) 3
  have w70 : dt41 81 4 = dt4 81 4 := hF43 81 (by decide) 4
  have w71 : dt41 81 5 = dt4 81 5 := hF43 81 (by decide) 5
  rcases h40 with ⟨v_h40, rfl, h40r, h40⟩
  obtain ⟨h40_0, h40_1⟩ := h40
  have M272 : MW (dt41 81) := MW_frk M237 hF43 (by decide)
  refine go_toq PM267 (k := 2) (pc' := 1435) (L' := [some (.inr (.inr (some 3000))), some (.inr (.inr (some 0))), some (.inr (.inr (some 79))), some (.inl i)]) (st' := []) (w' := (SH, dt41)) rfl ?_
  exact K dt41 hI42 hM45 M272 (by first | omega | (simp only [*]; done) | simp only [*]) (by omega) (by omega) (by omega) (by omega) (by omega) (by omega) (by omega) (by omega) (by omega) (by omega) (by omega) (by omega) (by omega)
set_option maxRecDepth 20000 in
set_option maxHeartbeats 8000000 in
theorem sp_case29 (L : Nat) (xs : Nat → Int32) (sio : Option Nat) (d : Nat) (Q : Option AV → am_W → Prop) (hLL : L ≤ 3072) (i : Int) (hi : 0 ≤ i ∧ i ≤ 3066) (hil : i ≤ (L : Int) - 6) (dt : Nat → Nat → Int) (hI : InvC dt) (hM : MW (dt 80)) (hM2 : MW (dt 81)) (hk0 : dt 1 0 = dt 80 0) (hk1 : dt 7 3 = dt 80 1) (hk2 : dt 10 3 = dt 80 2) (hk3 : dt 12 3 = dt 80 3) (hk4 : dt 14 3 = dt 80 4) (hk5 : dt 16 3 = dt 80 5) (hk6 : dt 18 0 = dt 81 0) (hk7 : dt 24 3 = dt 81 1) (hk8 : dt 27 3 = dt 81 2) (hk9 : dt 29 3 = dt 81 3) (hk10 : dt 31 3 = dt 81 4) (hk11 : dt 33 3 = dt 81 5) (hk12 : dt 0 2 = dt 79 2) (hk13 : dt 35 1 = dt 79 12) (K : ∀ (dt : Nat → Nat → Int) (hI : InvC dt) (hM : MW (dt 80)) (hM2 : MW (dt 81)) (hk0 : dt 1 0 = dt 80 0) (hk1 : dt 7 3 = dt 80 1) (hk2 : dt 10 3 = dt 80 2) (hk3 : dt 12 3 = dt 80 3) (hk4 : dt 14 3 = dt 80 4) (hk5 : dt 16 3 = dt 80 5) (hk6 : dt 18 0 = dt 81 0) (hk7 : dt 24 3 = dt 81 1) (hk8 : dt 27 3 = dt 81 2) (hk9 : dt 29 3 = dt 81 3) (hk10 : dt 31 3 = dt 81 4) (hk11 : dt 33 3 = dt 81 5) (hk12 : dt 0 2 = dt 79 2) (hk13 : dt 35 1 = dt 79 12), GO (am_XX L xs sio) (d + 39) 267 1435 [some (.inr (.inr (some 3000))), some (.inr (.inr (some 0))), some (.inr (.inr (some 79))), some (.inl i)] [] (SH, dt) Q) : GO (am_XX L xs sio) (d + 39) 267 1287 [some (.inr (.inr (some 3000))), some (.inr (.inr (some 0))), some (.inr (.inr (some 79))), some (.inl i)] [] (SH, dt) Q := by
  have hF : Fr [0, 1, 2, 3, 4, 5, 6, 7, 8, 9, 10, 11, 12, 13, 14, 15, 16, 17, 18, 19, 20, 21, 22, 23, 24, 25, 26, 27, 28, 29, 30, 31, 32, 33, 34, 35, 36, 37, 38, 39, 40, 41, 42, 43, 44, 45, 46, 47, 48, 49, 50, 51, 52, 53, 54, 55, 56, 57, 58, 59, 60, 61, 62, 63, 64, 65, 66, 67, 68, 69, 70, 71, 72, 73, 74, 75, 76, 77, 78, 79, 80, 81, 82, 83, 84, 85, 86, 87, 88, 89, 90, 91, 92, 93, 94, 95, 96, 97, 98, 99, 100, 101, 102, 103, 104] dt dt := Fr_refl
  refine go_toq PM267 (k := 5) (pc' := 1292) (L' := [some (.inr (.inr (some 3000))), some (.inr (.inr (some 0))), some (.inr (.inr (some 79))), some (.inl i)]) (st' := [.inl (i + 1), .inr (.inr (some 3000)), .inr (.inr (some 0))]) (w' := (SH, dt)) rfl ?_
  have r1 := i32_R (xs ((i + 1).toNat))
  refine go_smpq PM267 (L' := [some (.inr (.inr (some 3000))), some (.inr (.inr (some 0))), some (.inr (.inr (some 79))), some (.inl i)]) (st' := [.inl ((xs ((i + 1).toNat)).toInt), .inr (.inr (some 0))]) (w' := (SH, dt)) rfl rfl (s_iald (n := L) (f := fun j => (xs j).toInt) (am_scr hLL) ⟨by omega, by omega⟩) ?_
  refine go_callq PM267 PM96 (Q' := _) rfl rfl rfl rfl (sp_X5_score L xs sio (d + 32) dt hI  ((xs ((i + 1).toNat)).toInt) ⟨by omega, by omega⟩ ) ?_
  rintro _ _ ⟨dt3, rfl, hI4, hF5, h2⟩
  refine ⟨rfl, ?_⟩
  have hF6 : Fr [0, 1, 2, 3, 4, 5, 6, 7, 8, 9, 10, 11, 12, 13, 14, 15, 16, 17, 18, 19, 20, 21, 22, 23, 24, 25, 26, 27, 28, 29, 30, 31, 32, 33, 34, 35, 36, 37, 38, 39, 40, 41, 42, 43, 44, 45, 46, 47, 48, 49, 50, 51, 52, 53, 54, 55, 56, 57, 58, 59, 60, 61, 62, 63, 64, 65, 66, 67, 68, 69, 70, 71, 72, 73, 74, 75, 76, 77, 78, 79, 80, 81, 82, 83, 84, 85, 86, 87, 88, 89, 90, 91, 92, 93, 94, 95, 96, 97, 98, 99, 100, 101, 102, 103, 104] dt dt3 := Fr_tr hF hF5 (by decide)
  have hM7 : MW (dt3 80) := MW_fr hM hF5 (by decide)
  have w8 : dt3 1 0 = dt 1 0 := hF5 1 (by decide) 0
  have w9 : dt3 7 3 = dt 7 3 := hF5 7 (by decide) 3
  have w10 : dt3 10 3 = dt 10 3 := hF5 10 (by decide) 3
  have w11 : dt3 12 3 = dt 12 3 := hF5 12 (by decide) 3
  have w12 : dt3 14 3 = dt 14 3 := hF5 14 (by decide) 3
  have w13 : dt3 16 3 = dt 16 3 := hF5 16 (by decide) 3
  have w14 : dt3 18 0 = dt 18 0 := hF5 18 (by decide) 0
  have w15 : dt3 24 3 = dt 24 3 := hF5 24 (by decide) 3
  have w16 : dt3 27 3 = dt 27 3 := hF5 27 (by decide) 3
  have w17 : dt3 29 3 = dt 29 3 := hF5 29 (by decide) 3
  have w18 : dt3 31 3 = dt 31 3 := hF5 31 (by decide) 3
  have w19 : dt3 33 3 = dt 33 3 := hF5 33 (by decide) 3
  have w20 : dt3 0 2 = dt 0 2 := hF5 0 (by decide) 2
  have w21 : dt3 35 1 = dt 35 1 := hF5 35 (by decide) 1
  have w22 : dt3 80 0 = dt 80 0 := hF5 80 (by decide) 0
  have w23 : dt3 80 1 = dt 80 1 := hF5 80 (by decide) 1
  have w24 : dt3 80 2 = dt 80 2 := hF5 80 (by decide) 2
  have w25 : dt3 80 3 = dt 80 3 := hF5 80 (by decide) 3
  have w26 : dt3 80 4 = dt 80 4 := hF5 80 (by decide) 4
  have w27 : dt3 80 5 = dt 80 5 := hF5 80 (by decide) 5
  have w28 : dt3 81 0 = dt 81 0 := hF5 81 (by decide) 0
  have w29 : dt3 81 1 = dt 81 1 := hF5 81 (by decide) 1
  have w30 : dt3 81 2 = dt 81 2 := hF5 81 (by decide) 2
  have w31 : dt3 81 3 = dt 81 3 := hF5 81 (by decide) 3
  have w32 : dt3 81 4 = dt 81 4 := hF5 81 (by decide) 4
  have w33 : dt3 81 5 = dt 81 5 := hF5 81 (by decide) 5
  have w34 : dt3 79 2 = dt 79 2 := hF5 79 (by decide) 2
  have w35 : dt3 79 12 = dt 79 12 := hF5 79 (by decide) 12
  rcases h2 with ⟨v_h2, rfl, h2r, h2⟩
  have M236 : MW (dt3 81) := MW_frk hM2 hF5 (by decide)
  refine go_toq PM267 (k := 6) (pc' := 1302) (L' := [some (.inr (.inr (some 3000))), some (.inr (.inr (some 0))), some (.inr (.inr (some 79))), some (.inl i)]) (st' := [.inl (i + 1), .inr (.inr (some 3000)), .inr (.inr (some 79))]) (w' := (SH, dt3)) rfl ?_
  have r37 := i32_R (xs ((i + 1).toNat))
  refine go_smpq PM267 (L' := [some (.inr (.inr (some 3000))), some (.inr (.inr (some 0))), some (.inr (.inr (some 79))), some (.inl i)]) (st' := [.inl ((xs ((i + 1).toNat)).toInt), .inr (.inr (some 79))]) (w' := (SH, dt3)) rfl rfl (s_iald (n := L) (f := fun j => (xs j).toInt) (am_scr hLL) ⟨by omega, by omega⟩) ?_
  refine go_callq PM267 PM245 (Q' := _) rfl rfl rfl rfl (sp_X6_score L xs sio (d + 30) dt3 hI4 hM7  ((xs ((i + 1).toNat)).toInt) ⟨by omega, by omega⟩ ) ?_
  rintro _ _ ⟨dt39, rfl, hI40, hF41, h38⟩
  refine ⟨rfl, ?_⟩
  have hF42 : Fr [0, 1, 2, 3, 4, 5, 6, 7, 8, 9, 10, 11, 12, 13, 14, 15, 16, 17, 18, 19, 20, 21, 22, 23, 24, 25, 26, 27, 28, 29, 30, 31, 32, 33, 34, 35, 36, 37, 38, 39, 40, 41, 42, 43, 44, 45, 46, 47, 48, 49, 50, 51, 52, 53, 54, 55, 56, 57, 58, 59, 60, 61, 62, 63, 64, 65, 66, 67, 68, 69, 70, 71, 72, 73, 74, 75, 76, 77, 78, 79, 80, 81, 82, 83, 84, 85, 86, 87, 88, 89, 90, 91, 92, 93, 94, 95, 96, 97, 98, 99, 100, 101, 102, 103, 104] dt dt39 := Fr_tr hF6 hF41 (by decide)
  have hM43 : MW (dt39 80) := MW_fr hM7 hF41 (by decide)
  have w44 : dt39 1 0 = dt3 1 0 := hF41 1 (by decide) 0
  have w45 : dt39 7 3 = dt3 7 3 := hF41 7 (by decide) 3
  have w46 : dt39 10 3 = dt3 10 3 := hF41 10 (by decide) 3
  have w47 : dt39 12 3 = dt3 12 3 := hF41 12 (by decide) 3
  have w48 : dt39 14 3 = dt3 14 3 := hF41 14 (by decide) 3
  have w49 : dt39 16 3 = dt3 16 3 := hF41 16 (by decide) 3
  have w50 : dt39 18 0 = dt3 18 0 := hF41 18 (by decide) 0
  have w51 : dt39 24 3 = dt3 24 3 := hF41 24 (by decide) 3
  have w52 : dt39 27 3 = dt3 27 3 := hF41 27 (by decide) 3
  have w53 : dt39 29 3 = dt3 29 3 := hF41 29 (by decide) 3
  have w54 : dt39 31 3 = dt3 31 3 := hF41 31 (by decide) 3
  have w55 : dt39 33 3 = dt3 33 3 := hF41 33 (by decide) 3
  have w56 : dt39 0 2 = dt3 0 2 := hF41 0 (by decide) 2
  have w57 : dt39 35 1 = dt3 35 1 := hF41 35 (by decide) 1
  have w58 : dt39 80 0 = dt3 80 0 := hF41 80 (by decide) 0
  have w59 : dt39 80 1 = dt3 80 1 := hF41 80 (by decide) 1
  have w60 : dt39 80 2 = dt3 80 2 := hF41 80 (by decide) 2
  have w61 : dt39 80 3 = dt3 80 3 := hF41 80 (by decide) 3
  have w62 : dt39 80 4 = dt3 80 4 := hF41 80 (by decide) 4
  have w63 : dt39 80 5 = dt3 80 5 := hF41 80 (by decide) 5
  have w64 : dt39 81 0 = dt3 81 0 := hF41 81 (by decide) 0
  have w65 : dt39 81 1 = dt3 81 1 := hF41 81 (by decide) 1
  have w66 : dt39 81 2 = dt3 81 2 := hF41 81 (by decide) 2
  have w67 : dt39 81 3 = dt3 81 3 := hF41 81 (by decide) 3
  have w68 : dt39 81 4 = dt3 81 4 := hF41 81 (by decide) 4
  have w69 : dt39 81 5 = dt3 81 5 := hF41 81 (by decide) 5
  have w70 : dt39 79 2 = dt3 79 2 := hF41 79 (by decide) 2
  have w71 : dt39 79 12 = dt3 79 12 := hF41 79 (by decide) 12
  rcases h38 with ⟨v_h38, rfl, h38r, h38⟩
  have M272 : MW (dt39 81) := MW_frk M236 hF41 (by decide)
  refine go_toq PM267 (k := 2) (pc' := 1435) (L' := [some (.inr (.inr (some 3000))), some (.inr (.inr (some 0))), some (.inr (.inr (some 79))), some (.inl i)]) (st' := []) (w' := (SH, dt39)) rfl ?_
  exact K dt39 hI40 hM43 M272 (by first | omega | (simp only [*]; done) | simp only [*]) (by omega) (by omega) (by omega) (by omega) (by omega) (by omega) (by omega) (by omega) (by omega) (by omega) (by omega) (by omega) (by omega)
set_option maxRecDepth 20000 in
set_option maxHeartbeats 8000000 in
theorem sp_case30 (L : Nat) (xs : Nat → Int32) (sio : Option Nat) (d : Nat) (Q : Option AV → am_W → Prop) (hLL : L ≤ 3072) (i : Int) (hi : 0 ≤ i ∧ i ≤ 3066) (hil : i ≤ (L : Int) - 6) (dt : Nat → Nat → Int) (hI : InvC dt) (hM : MW (dt 80)) (hM2 : MW (dt 81)) (hk0 : dt 1 0 = dt 80 0) (hk1 : dt 7 3 = dt 80 1) (hk2 : dt 10 3 = dt 80 2) (hk3 : dt 12 3 = dt 80 3) (hk4 : dt 14 3 = dt 80 4) (hk5 : dt 16 3 = dt 80 5) (hk6 : dt 18 0 = dt 81 0) (hk7 : dt 24 3 = dt 81 1) (hk8 : dt 27 3 = dt 81 2) (hk9 : dt 29 3 = dt 81 3) (hk10 : dt 31 3 = dt 81 4) (hk11 : dt 33 3 = dt 81 5) (hk12 : dt 0 2 = dt 79 2) (hk13 : dt 35 1 = dt 79 12) (K : ∀ (dt : Nat → Nat → Int) (hI : InvC dt) (hM : MW (dt 80)) (hM2 : MW (dt 81)) (hk0 : dt 1 0 = dt 80 0) (hk1 : dt 7 3 = dt 80 1) (hk2 : dt 10 3 = dt 80 2) (hk3 : dt 12 3 = dt 80 3) (hk4 : dt 14 3 = dt 80 4) (hk5 : dt 16 3 = dt 80 5) (hk6 : dt 18 0 = dt 81 0) (hk7 : dt 24 3 = dt 81 1) (hk8 : dt 27 3 = dt 81 2) (hk9 : dt 29 3 = dt 81 3) (hk10 : dt 31 3 = dt 81 4) (hk11 : dt 33 3 = dt 81 5) (hk12 : dt 0 2 = dt 79 2) (hk13 : dt 35 1 = dt 79 12), GO (am_XX L xs sio) (d + 39) 267 1435 [some (.inr (.inr (some 3000))), some (.inr (.inr (some 0))), some (.inr (.inr (some 79))), some (.inl i)] [] (SH, dt) Q) : GO (am_XX L xs sio) (d + 39) 267 1310 [some (.inr (.inr (some 3000))), some (.inr (.inr (some 0))), some (.inr (.inr (some 79))), some (.inl i)] [] (SH, dt) Q := by
  have hF : Fr [0, 1, 2, 3, 4, 5, 6, 7, 8, 9, 10, 11, 12, 13, 14, 15, 16, 17, 18, 19, 20, 21, 22, 23, 24, 25, 26, 27, 28, 29, 30, 31, 32, 33, 34, 35, 36, 37, 38, 39, 40, 41, 42, 43, 44, 45, 46, 47, 48, 49, 50, 51, 52, 53, 54, 55, 56, 57, 58, 59, 60, 61, 62, 63, 64, 65, 66, 67, 68, 69, 70, 71, 72, 73, 74, 75, 76, 77, 78, 79, 80, 81, 82, 83, 84, 85, 86, 87, 88, 89, 90, 91, 92, 93, 94, 95, 96, 97, 98, 99, 100, 101, 102, 103, 104] dt dt := Fr_refl
  refine go_toq PM267 (k := 5) (pc' := 1315) (L' := [some (.inr (.inr (some 3000))), some (.inr (.inr (some 0))), some (.inr (.inr (some 79))), some (.inl i)]) (st' := [.inl (i + 1), .inr (.inr (some 3000)), .inr (.inr (some 0))]) (w' := (SH, dt)) rfl ?_
  have r1 := i32_R (xs ((i + 1).toNat))
  refine go_smpq PM267 (L' := [some (.inr (.inr (some 3000))), some (.inr (.inr (some 0))), some (.inr (.inr (some 79))), some (.inl i)]) (st' := [.inl ((xs ((i + 1).toNat)).toInt), .inr (.inr (some 0))]) (w' := (SH, dt)) rfl rfl (s_iald (n := L) (f := fun j => (xs j).toInt) (am_scr hLL) ⟨by omega, by omega⟩) ?_
  refine go_toq PM267 (k := 4) (pc' := 1320) (L' := [some (.inr (.inr (some 3000))), some (.inr (.inr (some 0))), some (.inr (.inr (some 79))), some (.inl i)]) (st' := [.inl (i + 2), .inr (.inr (some 3000)), .inl ((xs ((i + 1).toNat)).toInt), .inr (.inr (some 0))]) (w' := (SH, dt)) rfl ?_
  have r2 := i32_R (xs ((i + 2).toNat))
  refine go_smpq PM267 (L' := [some (.inr (.inr (some 3000))), some (.inr (.inr (some 0))), some (.inr (.inr (some 79))), some (.inl i)]) (st' := [.inl ((xs ((i + 2).toNat)).toInt), .inl ((xs ((i + 1).toNat)).toInt), .inr (.inr (some 0))]) (w' := (SH, dt)) rfl rfl (s_iald (n := L) (f := fun j => (xs j).toInt) (am_scr hLL) ⟨by omega, by omega⟩) ?_
  refine go_toq PM267 (k := 4) (pc' := 1325) (L' := [some (.inr (.inr (some 3000))), some (.inr (.inr (some 0))), some (.inr (.inr (some 79))), some (.inl i)]) (st' := [.inl (i + 3), .inr (.inr (some 3000)), .inl ((xs ((i + 2).toNat)).toInt), .inl ((xs ((i + 1).toNat)).toInt), .inr (.inr (some 0))]) (w' := (SH, dt)) rfl ?_
  have r3 := i32_R (xs ((i + 3).toNat))
  refine go_smpq PM267 (L' := [some (.inr (.inr (some 3000))), some (.inr (.inr (some 0))), some (.inr (.inr (some 79))), some (.inl i)]) (st' := [.inl ((xs ((i + 3).toNat)).toInt), .inl ((xs ((i + 2).toNat)).toInt), .inl ((xs ((i + 1).toNat)).toInt), .inr (.inr (some 0))]) (w' := (SH, dt)) rfl rfl (s_iald (n := L) (f := fun j => (xs j).toInt) (am_scr hLL) ⟨by omega, by omega⟩) ?_
  refine go_toq PM267 (k := 4) (pc' := 1330) (L' := [some (.inr (.inr (some 3000))), some (.inr (.inr (some 0))), some (.inr (.inr (some 79))), some (.inl i)]) (st' := [.inl (i + 4), .inr (.inr (some 3000)), .inl ((xs ((i + 3).toNat)).toInt), .inl ((xs ((i + 2).toNat)).toInt), .inl ((xs ((i + 1).toNat)).toInt), .inr (.inr (some 0))]) (w' := (SH, dt)) rfl ?_
  have r4 := i32_R (xs ((i + 4).toNat))
  refine go_smpq PM267 (L' := [some (.inr (.inr (some 3000))), some (.inr (.inr (some 0))), some (.inr (.inr (some 79))), some (.inl i)]) (st' := [.inl ((xs ((i + 4).toNat)).toInt), .inl ((xs ((i + 3).toNat)).toInt), .inl ((xs ((i + 2).toNat)).toInt), .inl ((xs ((i + 1).toNat)).toInt), .inr (.inr (some 0))]) (w' := (SH, dt)) rfl rfl (s_iald (n := L) (f := fun j => (xs j).toInt) (am_scr hLL) ⟨by omega, by omega⟩) ?_
  refine go_toq PM267 (k := 4) (pc' := 1335) (L' := [some (.inr (.inr (some 3000))), some (.inr (.inr (some 0))), some (.inr (.inr (some 79))), some (.inl i)]) (st' := [.inl (i + 5), .inr (.inr (some 3000)), .inl ((xs ((i + 4).toNat)).toInt), .inl ((xs ((i + 3).toNat)).toInt), .inl ((xs ((i + 2).toNat)).toInt), .inl ((xs ((i + 1).toNat)).toInt), .inr (.inr (some 0))]) (w' := (SH, dt)) rfl ?_
  have r5 := i32_R (xs ((i + 5).toNat))
  refine go_smpq PM267 (L' := [some (.inr (.inr (some 3000))), some (.inr (.inr (some 0))), some (.inr (.inr (some 79))), some (.inl i)]) (st' := [.inl ((xs ((i + 5).toNat)).toInt), .inl ((xs ((i + 4).toNat)).toInt), .inl ((xs ((i + 3).toNat)).toInt), .inl ((xs ((i + 2).toNat)).toInt), .inl ((xs ((i + 1).toNat)).toInt), .inr (.inr (some 0))]) (w' := (SH, dt)) rfl rfl (s_iald (n := L) (f := fun j => (xs j).toInt) (am_scr hLL) ⟨by omega, by omega⟩) ?_
  refine go_callq PM267 PM97 (Q' := _) rfl rfl rfl rfl (sp_X5_next L xs sio (d + 32) dt hI  ((xs ((i + 1).toNat)).toInt) ⟨by omega, by omega⟩ ((xs ((i + 2).toNat)).toInt) ⟨by omega, by omega⟩ ((xs ((i + 3).toNat)).toInt) ⟨by omega, by omega⟩ ((xs ((i + 4).toNat)).toInt) ⟨by omega, by omega⟩ ((xs ((i + 5).toNat)).toInt) ⟨by omega, by omega⟩ ) ?_
  rintro _ _ ⟨dt7, rfl, hI8, hF9, h6⟩
  refine ⟨rfl, ?_⟩
  have hF10 : Fr [0, 1, 2, 3, 4, 5, 6, 7, 8, 9, 10, 11, 12, 13, 14, 15, 16, 17, 18, 19, 20, 21, 22, 23, 24, 25, 26, 27, 28, 29, 30, 31, 32, 33, 34, 35, 36, 37, 38, 39, 40, 41, 42, 43, 44, 45, 46, 47, 48, 49, 50, 51, 52, 53, 54, 55, 56, 57, 58, 59, 60, 61, 62, 63, 64, 65, 66, 67, 68, 69, 70, 71, 72, 73, 74, 75, 76, 77, 78, 79, 80, 81, 82, 83, 84, 85, 86, 87, 88, 89, 90, 91, 92, 93, 94, 95, 96, 97, 98, 99, 100, 101, 102, 103, 104] dt dt7 := Fr_tr hF hF9 (by decide)
  have hM11 : MW (dt7 80) := MW_fr hM hF9 (by decide)
  have w12 : dt7 1 0 = dt 1 0 := hF9 1 (by decide) 0
  have w13 : dt7 7 3 = dt 7 3 := hF9 7 (by decide) 3
  have w14 : dt7 10 3 = dt 10 3 := hF9 10 (by decide) 3
  have w15 : dt7 12 3 = dt 12 3 := hF9 12 (by decide) 3
  have w16 : dt7 14 3 = dt 14 3 := hF9 14 (by decide) 3
  have w17 : dt7 16 3 = dt 16 3 := hF9 16 (by decide) 3
  have w18 : dt7 18 0 = dt 18 0 := hF9 18 (by decide) 0
  have w19 : dt7 24 3 = dt 24 3 := hF9 24 (by decide) 3
  have w20 : dt7 27 3 = dt 27 3 := hF9 27 (by decide) 3
  have w21 : dt7 29 3 = dt 29 3 := hF9 29 (by decide) 3
  have w22 : dt7 31 3 = dt 31 3 := hF9 31 (by decide) 3
  have w23 : dt7 33 3 = dt 33 3 := hF9 33 (by decide) 3
  have w24 : dt7 0 2 = dt 0 2 := hF9 0 (by decide) 2
  have w25 : dt7 35 1 = dt 35 1 := hF9 35 (by decide) 1
  have w26 : dt7 80 0 = dt 80 0 := hF9 80 (by decide) 0
  have w27 : dt7 80 1 = dt 80 1 := hF9 80 (by decide) 1
  have w28 : dt7 80 2 = dt 80 2 := hF9 80 (by decide) 2
  have w29 : dt7 80 3 = dt 80 3 := hF9 80 (by decide) 3
  have w30 : dt7 80 4 = dt 80 4 := hF9 80 (by decide) 4
  have w31 : dt7 80 5 = dt 80 5 := hF9 80 (by decide) 5
  have w32 : dt7 81 0 = dt 81 0 := hF9 81 (by decide) 0
  have w33 : dt7 81 1 = dt 81 1 := hF9 81 (by decide) 1
  have w34 : dt7 81 2 = dt 81 2 := hF9 81 (by decide) 2
  have w35 : dt7 81 3 = dt 81 3 := hF9 81 (by decide) 3
  have w36 : dt7 81 4 = dt 81 4 := hF9 81 (by decide) 4
  have w37 : dt7 81 5 = dt 81 5 := hF9 81 (by decide) 5
  have w38 : dt7 79 2 = dt 79 2 := hF9 79 (by decide) 2
  have w39 : dt7 79 12 = dt 79 12 := hF9 79 (by decide) 12
  rcases h6 with ⟨v_h6, rfl, h6r, h6⟩
  have M240 : MW (dt7 81) := MW_frk hM2 hF9 (by decide)
  refine go_toq PM267 (k := 6) (pc' := 1345) (L' := [some (.inr (.inr (some 3000))), some (.inr (.inr (some 0))), some (.inr (.inr (some 79))), some (.inl i)]) (st' := [.inl (i + 1), .inr (.inr (some 3000)), .inr (.inr (some 79))]) (w' := (SH, dt7)) rfl ?_
  have r41 := i32_R (xs ((i + 1).toNat))
  refine go_smpq PM267 (L' := [some (.inr (.inr (some 3000))), some (.inr (.inr (some 0))), some (.inr (.inr (some 79))), some (.inl i)]) (st' := [.inl ((xs ((i + 1).toNat)).toInt), .inr (.inr (some 79))]) (w' := (SH, dt7)) rfl rfl (s_iald (n := L) (f := fun j => (xs j).toInt) (am_scr hLL) ⟨by omega, by omega⟩) ?_
  refine go_toq PM267 (k := 4) (pc' := 1350) (L' := [some (.inr (.inr (some 3000))), some (.inr (.inr (some 0))), some (.inr (.inr (some 79))), some (.inl i)]) (st' := [.inl (i + 2), .inr (.inr (some 3000)), .inl ((xs ((i + 1).toNat)).toInt), .inr (.inr (some 79))]) (w' := (SH, dt7)) rfl ?_
  have r42 := i32_R (xs ((i + 2).toNat))
  refine go_smpq PM267 (L' := [some (.inr (.inr (some 3000))), some (.inr (.inr (some 0))), some (.inr (.inr (some 79))), some (.inl i)]) (st' := [.inl ((xs ((i + 2).toNat)).toInt), .inl ((xs ((i + 1).toNat)).toInt), .inr (.inr (some 79))]) (w' := (SH, dt7)) rfl rfl (s_iald (n := L) (f := fun j => (xs j).toInt) (am_scr hLL) ⟨by omega, by omega⟩) ?_
  refine go_toq PM267 (k := 4) (pc' := 1355) (L' := [some (.inr (.inr (some 3000))), some (.inr (.inr (some 0))), some (.inr (.inr (some 79))), some (.inl i)]) (st' := [.inl (i + 3), .inr (.inr (some 3000)), .inl ((xs ((i + 2).toNat)).toInt), .inl ((xs ((i + 1).toNat)).toInt), .inr (.inr (some 79))]) (w' := (SH, dt7)) rfl ?_
  have r43 := i32_R (xs ((i + 3).toNat))
  refine go_smpq PM267 (L' := [some (.inr (.inr (some 3000))), some (.inr (.inr (some 0))), some (.inr (.inr (some 79))), some (.inl i)]) (st' := [.inl ((xs ((i + 3).toNat)).toInt), .inl ((xs ((i + 2).toNat)).toInt), .inl ((xs ((i + 1).toNat)).toInt), .inr (.inr (some 79))]) (w' := (SH, dt7)) rfl rfl (s_iald (n := L) (f := fun j => (xs j).toInt) (am_scr hLL) ⟨by omega, by omega⟩) ?_
  refine go_toq PM267 (k := 4) (pc' := 1360) (L' := [some (.inr (.inr (some 3000))), some (.inr (.inr (some 0))), some (.inr (.inr (some 79))), some (.inl i)]) (st' := [.inl (i + 4), .inr (.inr (some 3000)), .inl ((xs ((i + 3).toNat)).toInt), .inl ((xs ((i + 2).toNat)).toInt), .inl ((xs ((i + 1).toNat)).toInt), .inr (.inr (some 79))]) (w' := (SH, dt7)) rfl ?_
  have r44 := i32_R (xs ((i + 4).toNat))
  refine go_smpq PM267 (L' := [some (.inr (.inr (some 3000))), some (.inr (.inr (some 0))), some (.inr (.inr (some 79))), some (.inl i)]) (st' := [.inl ((xs ((i + 4).toNat)).toInt), .inl ((xs ((i + 3).toNat)).toInt), .inl ((xs ((i + 2).toNat)).toInt), .inl ((xs ((i + 1).toNat)).toInt), .inr (.inr (some 79))]) (w' := (SH, dt7)) rfl rfl (s_iald (n := L) (f := fun j => (xs j).toInt) (am_scr hLL) ⟨by omega, by omega⟩) ?_
  refine go_toq PM267 (k := 4) (pc' := 1365) (L' := [some (.inr (.inr (some 3000))), some (.inr (.inr (some 0))), some (.inr (.inr (some 79))), some (.inl i)]) (st' := [.inl (i + 5), .inr (.inr (some 3000)), .inl ((xs ((i + 4).toNat)).toInt), .inl ((xs ((i + 3).toNat)).toInt), .inl ((xs ((i + 2).toNat)).toInt), .inl ((xs ((i + 1).toNat)).toInt), .inr (.inr (some 79))]) (w' := (SH, dt7)) rfl ?_
  have r45 := i32_R (xs ((i + 5).toNat))
  refine go_smpq PM267 (L' := [some (.inr (.inr (some 3000))), some (.inr (.inr (some 0))), some (.inr (.inr (some 79))), some (.inl i)]) (st' := [.inl ((xs ((i + 5).toNat)).toInt), .inl ((xs ((i + 4).toNat)).toInt), .inl ((xs ((i + 3).toNat)).toInt), .inl ((xs ((i + 2).toNat)).toInt), .inl ((xs ((i + 1).toNat)).toInt), .inr (.inr (some 79))]) (w' := (SH, dt7)) rfl rfl (s_iald (n := L) (f := fun j => (xs j).toInt) (am_scr hLL) ⟨by omega, by omega⟩) ?_
  refine go_callq PM267 PM246 (Q' := _) rfl rfl rfl rfl (sp_X6_next L xs sio (d + 31) dt7 hI8 hM11  ((xs ((i + 1).toNat)).toInt) ⟨by omega, by omega⟩ ((xs ((i + 2).toNat)).toInt) ⟨by omega, by omega⟩ ((xs ((i + 3).toNat)).toInt) ⟨by omega, by omega⟩ ((xs ((i + 4).toNat)).toInt) ⟨by omega, by omega⟩ ((xs ((i + 5).toNat)).toInt) ⟨by omega, by omega⟩ ) ?_
  rintro _ _ ⟨dt47, rfl, hI48, hF49, h46⟩
  refine ⟨rfl, ?_⟩
  have hF50 : Fr [0, 1, 2, 3, 4, 5, 6, 7, 8, 9, 10, 11, 12, 13, 14, 15, 16, 17, 18, 19, 20, 21, 22, 23, 24, 25, 26, 27, 28, 29, 30, 31, 32, 33, 34, 35, 36, 37, 38, 39, 40, 41, 42, 43, 44, 45, 46, 47, 48, 49, 50, 51, 52, 53, 54, 55, 56, 57, 58, 59, 60, 61, 62, 63, 64, 65, 66, 67, 68, 69, 70, 71, 72, 73, 74, 75, 76, 77, 78, 79, 80, 81, 82, 83, 84, 85, 86, 87, 88, 89, 90, 91, 92, 93, 94, 95, 96, 97, 98, 99, 100, 101, 102, 103, 104] dt dt47 := Fr_tr hF10 hF49 (by decide)
  have hM51 : MW (dt47 80) := MW_fr hM11 hF49 (by decide)
  have w52 : dt47 1 0 = dt7 1 0 := hF49 1 (by decide) 0
  have w53 : dt47 7 3 = dt7 7 3 := hF49 7 (by decide) 3
  have w54 : dt47 10 3 = dt7 10 3 := hF49 10 (by decide) 3
  have w55 : dt47 12 3 = dt7 12 3 := hF49 12 (by decide) 3
  have w56 : dt47 14 3 = dt7 14 3 := hF49 14 (by decide) 3
  have w57 : dt47 16 3 = dt7 16 3 := hF49 16 (by decide) 3
  have w58 : dt47 18 0 = dt7 18 0 := hF49 18 (by decide) 0
  have w59 : dt47 24 3 = dt7 24 3 := hF49 24 (by decide) 3
  have w60 : dt47 27 3 = dt7 27 3 := hF49 27 (by decide) 3
  have w61 : dt47 29 3 = dt7 29 3 := hF49 29 (by decide) 3
  have w62 : dt47 31 3 = dt7 31 3 := hF49 31 (by decide) 3
  have w63 : dt47 33 3 = dt7 33 3 := hF49 33 (by decide) 3
  have w64 : dt47 0 2 = dt7 0 2 := hF49 0 (by decide) 2
  have w65 : dt47 35 1 = dt7 35 1 := hF49 35 (by decide) 1
  have w66 : dt47 80 0 = dt7 80 0 := hF49 80 (by decide) 0
  have w67 : dt47 80 1 = dt7 80 1 := hF49 80 (by decide) 1
  have w68 : dt47 80 2 = dt7 80 2 := hF49 80 (by decide) 2
  have w69 : dt47 80 3 = dt7 80 3 := hF49 80 (by decide) 3
  have w70 : dt47 80 4 = dt7 80 4 := hF49 80 (by decide) 4
  have w71 : dt47 80 5 = dt7 80 5 := hF49 80 (by decide) 5
  have w72 : dt47 81 0 = dt7 81 0 := hF49 81 (by decide) 0
  have w73 : dt47 81 1 = dt7 81 1 := hF49 81 (by decide) 1
  have w74 : dt47 81 2 = dt7 81 2 := hF49 81 (by decide) 2
  have w75 : dt47 81 3 = dt7 81 3 := hF49 81 (by decide) 3
  have w76 : dt47 81 4 = dt7 81 4 := hF49 81 (by decide) 4
  have w77 : dt47 81 5 = dt7 81 5 := hF49 81 (by decide) 5
  have w78 : dt47 79 2 = dt7 79 2 := hF49 79 (by decide) 2
  have w79 : dt47 79 12 = dt7 79 12 := hF49 79 (by decide) 12
  rcases h46 with ⟨v_h46, rfl, h46r, h46⟩
  have M280 : MW (dt47 81) := MW_frk M240 hF49 (by decide)
  refine go_toq PM267 (k := 2) (pc' := 1435) (L' := [some (.inr (.inr (some 3000))), some (.inr (.inr (some 0))), some (.inr (.inr (some 79))), some (.inl i)]) (st' := []) (w' := (SH, dt47)) rfl ?_
  exact K dt47 hI48 hM51 M280 (by first | omega | (simp only [*]; done) | simp only [*]) (by omega) (by omega) (by omega) (by omega) (by omega) (by omega) (by omega) (by omega) (by omega) (by omega) (by omega) (by omega) (by omega)
set_option maxRecDepth 20000 in
set_option maxHeartbeats 8000000 in
theorem sp_case31 (L : Nat) (xs : Nat → Int32) (sio : Option Nat) (d : Nat) (Q : Option AV → am_W → Prop) (hLL : L ≤ 3072) (i : Int) (hi : 0 ≤ i ∧ i ≤ 3066) (hil : i ≤ (L : Int) - 6) (dt : Nat → Nat → Int) (hI : InvC dt) (hM : MW (dt 80)) (hM2 : MW (dt 81)) (hk0 : dt 1 0 = dt 80 0) (hk1 : dt 7 3 = dt 80 1) (hk2 : dt 10 3 = dt 80 2) (hk3 : dt 12 3 = dt 80 3) (hk4 : dt 14 3 = dt 80 4) (hk5 : dt 16 3 = dt 80 5) (hk6 : dt 18 0 = dt 81 0) (hk7 : dt 24 3 = dt 81 1) (hk8 : dt 27 3 = dt 81 2) (hk9 : dt 29 3 = dt 81 3) (hk10 : dt 31 3 = dt 81 4) (hk11 : dt 33 3 = dt 81 5) (hk12 : dt 0 2 = dt 79 2) (hk13 : dt 35 1 = dt 79 12) (K : ∀ (dt : Nat → Nat → Int) (hI : InvC dt) (hM : MW (dt 80)) (hM2 : MW (dt 81)) (hk0 : dt 1 0 = dt 80 0) (hk1 : dt 7 3 = dt 80 1) (hk2 : dt 10 3 = dt 80 2) (hk3 : dt 12 3 = dt 80 3) (hk4 : dt 14 3 = dt 80 4) (hk5 : dt 16 3 = dt 80 5) (hk6 : dt 18 0 = dt 81 0) (hk7 : dt 24 3 = dt 81 1) (hk8 : dt 27 3 = dt 81 2) (hk9 : dt 29 3 = dt 81 3) (hk10 : dt 31 3 = dt 81 4) (hk11 : dt 33 3 = dt 81 5) (hk12 : dt 0 2 = dt 79 2) (hk13 : dt 35 1 = dt 79 12), GO (am_XX L xs sio) (d + 39) 267 1435 [some (.inr (.inr (some 3000))), some (.inr (.inr (some 0))), some (.inr (.inr (some 79))), some (.inl i)] [] (SH, dt) Q) : GO (am_XX L xs sio) (d + 39) 267 1373 [some (.inr (.inr (some 3000))), some (.inr (.inr (some 0))), some (.inr (.inr (some 79))), some (.inl i)] [] (SH, dt) Q := by
  have hF : Fr [0, 1, 2, 3, 4, 5, 6, 7, 8, 9, 10, 11, 12, 13, 14, 15, 16, 17, 18, 19, 20, 21, 22, 23, 24, 25, 26, 27, 28, 29, 30, 31, 32, 33, 34, 35, 36, 37, 38, 39, 40, 41, 42, 43, 44, 45, 46, 47, 48, 49, 50, 51, 52, 53, 54, 55, 56, 57, 58, 59, 60, 61, 62, 63, 64, 65, 66, 67, 68, 69, 70, 71, 72, 73, 74, 75, 76, 77, 78, 79, 80, 81, 82, 83, 84, 85, 86, 87, 88, 89, 90, 91, 92, 93, 94, 95, 96, 97, 98, 99, 100, 101, 102, 103, 104] dt dt := Fr_refl
  have r1 : (-2147483648) ≤ dt 1 0 ∧ dt 1 0 ≤ 2147483647 := InvC_get hI 1 0 rfl rfl
  have r2 : 0 ≤ dt 7 3 ∧ dt 7 3 ≤ 12 := InvC_get hI 7 3 rfl rfl
  have r3 : 0 ≤ dt 10 3 ∧ dt 10 3 ≤ 40 := InvC_get hI 10 3 rfl rfl
  have r4 : 0 ≤ dt 12 3 ∧ dt 12 3 ≤ 300 := InvC_get hI 12 3 rfl rfl
  have r5 : 0 ≤ dt 14 3 ∧ dt 14 3 ≤ 40 := InvC_get hI 14 3 rfl rfl
  have r6 : 0 ≤ dt 16 3 ∧ dt 16 3 ≤ 20 := InvC_get hI 16 3 rfl rfl
  have r7 : (-2147483648) ≤ dt 18 0 ∧ dt 18 0 ≤ 2147483647 := InvC_get hI 18 0 rfl rfl
  have r8 : 0 ≤ dt 24 3 ∧ dt 24 3 ≤ 12 := InvC_get hI 24 3 rfl rfl
  have r9 : 0 ≤ dt 27 3 ∧ dt 27 3 ≤ 40 := InvC_get hI 27 3 rfl rfl
  have r10 : 0 ≤ dt 29 3 ∧ dt 29 3 ≤ 300 := InvC_get hI 29 3 rfl rfl
  have r11 : 0 ≤ dt 31 3 ∧ dt 31 3 ≤ 40 := InvC_get hI 31 3 rfl rfl
  have r12 : 0 ≤ dt 33 3 ∧ dt 33 3 ≤ 20 := InvC_get hI 33 3 rfl rfl
  have r13 : 0 ≤ dt 0 2 ∧ dt 0 2 ≤ 1 := InvC_get hI 0 2 rfl rfl
  have r14 : 0 ≤ dt 35 1 ∧ dt 35 1 ≤ 500 := InvC_get hI 35 1 rfl rfl
  have r15 : (-2147483648) ≤ dt 80 0 ∧ dt 80 0 ≤ 2147483647 := InvC_get hI 80 0 rfl rfl
  have r16 : (-2147483648) ≤ dt 80 1 ∧ dt 80 1 ≤ 2147483647 := InvC_get hI 80 1 rfl rfl
  have r17 := MW_n hM
  have r18 : (-2147483648) ≤ dt 80 2 ∧ dt 80 2 ≤ 2147483647 := InvC_get hI 80 2 rfl rfl
  have r19 : (-2147483648) ≤ dt 80 3 ∧ dt 80 3 ≤ 2147483647 := InvC_get hI 80 3 rfl rfl
  have r20 : (-2147483648) ≤ dt 80 4 ∧ dt 80 4 ≤ 2147483647 := InvC_get hI 80 4 rfl rfl
  have r21 : (-2147483648) ≤ dt 80 5 ∧ dt 80 5 ≤ 2147483647 := InvC_get hI 80 5 rfl rfl
  have r22 : (-2147483648) ≤ dt 81 0 ∧ dt 81 0 ≤ 2147483647 := InvC_get hI 81 0 rfl rfl
  have r23 : (-2147483648) ≤ dt 81 1 ∧ dt 81 1 ≤ 2147483647 := InvC_get hI 81 1 rfl rfl
  have r24 : (-2147483648) ≤ dt 81 2 ∧ dt 81 2 ≤ 2147483647 := InvC_get hI 81 2 rfl rfl
  have r25 : (-2147483648) ≤ dt 81 3 ∧ dt 81 3 ≤ 2147483647 := InvC_get hI 81 3 rfl rfl
  have r26 : (-2147483648) ≤ dt 81 4 ∧ dt 81 4 ≤ 2147483647 := InvC_get hI 81 4 rfl rfl
  have r27 : (-2147483648) ≤ dt 81 5 ∧ dt 81 5 ≤ 2147483647 := InvC_get hI 81 5 rfl rfl
  have r28 : 0 ≤ dt 79 2 ∧ dt 79 2 ≤ 1 := InvC_get hI 79 2 rfl rfl
  have r29 : 0 ≤ dt 79 12 ∧ dt 79 12 ≤ 500 := InvC_get hI 79 12 rfl rfl
  refine go_toq PM267 (k := 5) (pc' := 1378) (L' := [some (.inr (.inr (some 3000))), some (.inr (.inr (some 0))), some (.inr (.inr (some 79))), some (.inl i)]) (st' := [.inl (i + 1), .inr (.inr (some 3000)), .inr (.inr (some 0))]) (w' := (SH, dt)) rfl ?_
  have r30 := i32_R (xs ((i + 1).toNat))
  refine go_smpq PM267 (L' := [some (.inr (.inr (some 3000))), some (.inr (.inr (some 0))), some (.inr (.inr (some 79))), some (.inl i)]) (st' := [.inl ((xs ((i + 1).toNat)).toInt), .inr (.inr (some 0))]) (w' := (SH, dt)) rfl rfl (s_iald (n := L) (f := fun j => (xs j).toInt) (am_scr hLL) ⟨by omega, by omega⟩) ?_
  refine go_ifq PM267 (k := 0) (p1 := 1386) (p2 := 1382) (L' := [some (.inr (.inr (some 3000))), some (.inr (.inr (some 0))), some (.inr (.inr (some 79))), some (.inl i)]) (st' := [.inr (.inr (some 0))]) (w' := (SH, dt)) rfl (z_eq (a := (xs ((i + 1).toNat)).toInt) ⟨by omega, by omega⟩) (fun c31 => ?_) (fun c31 => ?_)
  · skip
    refine go_toq PM267 (k := 1) (pc' := 1387) (L' := [some (.inr (.inr (some 3000))), some (.inr (.inr (some 0))), some (.inr (.inr (some 79))), some (.inl i)]) (st' := [.inl 0, .inr (.inr (some 0))]) (w' := (SH, dt)) rfl ?_
    refine go_callq PM267 PM98 (Q' := _) rfl rfl rfl rfl (sp_X5_image L xs sio (d + 35) dt hI  0 ⟨by decide, by decide⟩ ) ?_
    rintro _ _ ⟨dt33, rfl, hI34, hF35, h32⟩
    refine ⟨rfl, ?_⟩
    have hF36 : Fr [0, 1, 2, 3, 4, 5, 6, 7, 8, 9, 10, 11, 12, 13, 14, 15, 16, 17, 18, 19, 20, 21, 22, 23, 24, 25, 26, 27, 28, 29, 30, 31, 32, 33, 34, 35, 36, 37, 38, 39, 40, 41, 42, 43, 44, 45, 46, 47, 48, 49, 50, 51, 52, 53, 54, 55, 56, 57, 58, 59, 60, 61, 62, 63, 64, 65, 66, 67, 68, 69, 70, 71, 72, 73, 74, 75, 76, 77, 78, 79, 80, 81, 82, 83, 84, 85, 86, 87, 88, 89, 90, 91, 92, 93, 94, 95, 96, 97, 98, 99, 100, 101, 102, 103, 104] dt dt33 := Fr_tr hF hF35 (by decide)
    have hM37 : MW (dt33 80) := MW_fr hM hF35 (by decide)
    have w38 : dt33 35 1 = dt 35 1 := hF35 35 (by decide) 1
    have w39 : dt33 80 0 = dt 80 0 := hF35 80 (by decide) 0
    have w40 : dt33 80 1 = dt 80 1 := hF35 80 (by decide) 1
    have w41 : dt33 80 2 = dt 80 2 := hF35 80 (by decide) 2
    have w42 : dt33 80 3 = dt 80 3 := hF35 80 (by decide) 3
    have w43 : dt33 80 4 = dt 80 4 := hF35 80 (by decide) 4
    have w44 : dt33 80 5 = dt 80 5 := hF35 80 (by decide) 5
    have w45 : dt33 81 0 = dt 81 0 := hF35 81 (by decide) 0
    have w46 : dt33 81 1 = dt 81 1 := hF35 81 (by decide) 1
    have w47 : dt33 81 2 = dt 81 2 := hF35 81 (by decide) 2
    have w48 : dt33 81 3 = dt 81 3 := hF35 81 (by decide) 3
    have w49 : dt33 81 4 = dt 81 4 := hF35 81 (by decide) 4
    have w50 : dt33 81 5 = dt 81 5 := hF35 81 (by decide) 5
    have w51 : dt33 79 2 = dt 79 2 := hF35 79 (by decide) 2
    have w52 : dt33 79 12 = dt 79 12 := hF35 79 (by decide) 12
    rcases h32 with ⟨v_h32, rfl, h32r, h32⟩ | ⟨v_h32, rfl, h32r, h32⟩ | ⟨v_h32, rfl, h32r, h32⟩
    · skip
      obtain ⟨h32_0, h32_1, h32_2, h32_3, h32_4, h32_5, h32_6, h32_7, h32_8, h32_9, h32_10, h32_11, h32_12, h32_13, h32_14⟩ := h32
      have M253 : MW (dt33 81) := MW_frk hM2 hF35 (by decide)
      refine go_toq PM267 (k := 5) (pc' := 1395) (L' := [some (.inr (.inr (some 3000))), some (.inr (.inr (some 0))), some (.inr (.inr (some 79))), some (.inl i)]) (st' := [.inl (i + 1), .inr (.inr (some 3000)), .inr (.inr (some 79)), .inl v_h32]) (w' := (SH, dt33)) rfl ?_
      have r54 := i32_R (xs ((i + 1).toNat))
      refine go_smpq PM267 (L' := [some (.inr (.inr (some 3000))), some (.inr (.inr (some 0))), some (.inr (.inr (some 79))), some (.inl i)]) (st' := [.inl ((xs ((i + 1).toNat)).toInt), .inr (.inr (some 79)), .inl v_h32]) (w' := (SH, dt33)) rfl rfl (s_iald (n := L) (f := fun j => (xs j).toInt) (am_scr hLL) ⟨by omega, by omega⟩) ?_
      refine go_ifq PM267 (k := 0) (p1 := 1403) (p2 := 1399) (L' := [some (.inr (.inr (some 3000))), some (.inr (.inr (some 0))), some (.inr (.inr (some 79))), some (.inl i)]) (st' := [.inr (.inr (some 79)), .inl v_h32]) (w' := (SH, dt33)) rfl (z_eq (a := (xs ((i + 1).toNat)).toInt) ⟨by omega, by omega⟩) (fun c55 => ?_) (fun c55 => ?_)
      · skip
        refine go_toq PM267 (k := 1) (pc' := 1404) (L' := [some (.inr (.inr (some 3000))), some (.inr (.inr (some 0))), some (.inr (.inr (some 79))), some (.inl i)]) (st' := [.inl 0, .inr (.inr (some 79)), .inl v_h32]) (w' := (SH, dt33)) rfl ?_
        refine go_callq PM267 PM247 (Q' := _) rfl rfl rfl rfl (sp_X6_image_0k L xs sio (d + 38) dt33 hI34 hM37   (by first | trivial | omega | exact M253)) ?_
        rintro _ _ ⟨dt57, rfl, hI58, hF59, h56⟩
        refine ⟨rfl, ?_⟩
        have hF60 : Fr [0, 1, 2, 3, 4, 5, 6, 7, 8, 9, 10, 11, 12, 13, 14, 15, 16, 17, 18, 19, 20, 21, 22, 23, 24, 25, 26, 27, 28, 29, 30, 31, 32, 33, 34, 35, 36, 37, 38, 39, 40, 41, 42, 43, 44, 45, 46, 47, 48, 49, 50, 51, 52, 53, 54, 55, 56, 57, 58, 59, 60, 61, 62, 63, 64, 65, 66, 67, 68, 69, 70, 71, 72, 73, 74, 75, 76, 77, 78, 79, 80, 81, 82, 83, 84, 85, 86, 87, 88, 89, 90, 91, 92, 93, 94, 95, 96, 97, 98, 99, 100, 101, 102, 103, 104] dt dt57 := Fr_tr hF36 hF59 (by decide)
        have w61 : dt57 1 0 = dt33 1 0 := hF59 1 (by decide) 0
        have w62 : dt57 7 3 = dt33 7 3 := hF59 7 (by decide) 3
        have w63 : dt57 10 3 = dt33 10 3 := hF59 10 (by decide) 3
        have w64 : dt57 12 3 = dt33 12 3 := hF59 12 (by decide) 3
        have w65 : dt57 14 3 = dt33 14 3 := hF59 14 (by decide) 3
        have w66 : dt57 16 3 = dt33 16 3 := hF59 16 (by decide) 3
        have w67 : dt57 18 0 = dt33 18 0 := hF59 18 (by decide) 0
        have w68 : dt57 24 3 = dt33 24 3 := hF59 24 (by decide) 3
        have w69 : dt57 27 3 = dt33 27 3 := hF59 27 (by decide) 3
        have w70 : dt57 29 3 = dt33 29 3 := hF59 29 (by decide) 3
        have w71 : dt57 31 3 = dt33 31 3 := hF59 31 (by decide) 3
        have w72 : dt57 33 3 = dt33 33 3 := hF59 33 (by decide) 3
        have w73 : dt57 0 2 = dt33 0 2 := hF59 0 (by decide) 2
        have w74 : dt57 35 1 = dt33 35 1 := hF59 35 (by decide) 1
        have w75 : dt57 81 0 = dt33 81 0 := hF59 81 (by decide) 0
        have w76 : dt57 81 1 = dt33 81 1 := hF59 81 (by decide) 1
        have w77 : dt57 81 2 = dt33 81 2 := hF59 81 (by decide) 2
        have w78 : dt57 81 3 = dt33 81 3 := hF59 81 (by decide) 3
        have w79 : dt57 81 4 = dt33 81 4 := hF59 81 (by decide) 4
        have w80 : dt57 81 5 = dt33 81 5 := hF59 81 (by decide) 5
        rcases h56 with ⟨rfl, h56⟩ | ⟨rfl, h56⟩
        · skip
          have hM81 : MW (dt57 80) := h56.2.2.1
          obtain ⟨h56_0, h56_1, h56_2, h56_3, h56_4, h56_5, h56_6⟩ := h56
          have M282 : MW (dt57 81) := MW_frk M253 hF59 (by decide)
          have y83 := h56_4 0 (by decide)
          have y84 := h56_4 1 (by decide)
          have y85 := h56_4 2 (by decide)
          have y86 := h56_4 3 (by decide)
          have y87 := h56_4 4 (by decide)
          have y88 := h56_4 5 (by decide)
          have y89 := h56_5 0 (by decide)
          have y90 := h56_5 1 (by decide)
          have y91 := h56_5 2 (by decide)
          have y92 := h56_5 3 (by decide)
          have y93 := h56_5 4 (by decide)
          have y94 := h56_5 5 (by decide)
          refine go_ifq PM267 (k := 0) (p1 := 1435) (p2 := 1410) (L' := [some (.inr (.inr (some 3000))), some (.inr (.inr (some 0))), some (.inr (.inr (some 79))), some (.inl i)]) (st' := []) (w' := (SH, dt57)) rfl (c_eq (a := v_h32) (b := 0) ⟨by omega, by omega⟩ ⟨by decide, by decide⟩) (fun c95 => ?_) (fun c95 => ?_)
          · skip
            exact K dt57 hI58 hM81 M282 (by first | omega | (simp only [*]; done) | simp only [*]) (by omega) (by omega) (by omega) (by omega) (by omega) (by omega) (by omega) (by omega) (by omega) (by omega) (by omega) (by omega) (by omega)
          · skip
            exfalso; omega
        · skip
          have hM96 : MW (dt57 80) := h56.2.2.1
          obtain ⟨h56_0, h56_1, h56_2, h56_3, h56_4, h56_5, h56_6⟩ := h56
          have M297 : MW (dt57 81) := MW_frk M253 hF59 (by decide)
          have y98 := h56_4 0 (by decide)
          have y99 := h56_4 1 (by decide)
          have y100 := h56_4 2 (by decide)
          have y101 := h56_4 3 (by decide)
          have y102 := h56_4 4 (by decide)
          have y103 := h56_4 5 (by decide)
          have y104 := h56_5 0 (by decide)
          have y105 := h56_5 1 (by decide)
          have y106 := h56_5 2 (by decide)
          have y107 := h56_5 3 (by decide)
          have y108 := h56_5 4 (by decide)
          have y109 := h56_5 5 (by decide)
          refine go_ifq PM267 (k := 0) (p1 := 1435) (p2 := 1410) (L' := [some (.inr (.inr (some 3000))), some (.inr (.inr (some 0))), some (.inr (.inr (some 79))), some (.inl i)]) (st' := []) (w' := (SH, dt57)) rfl (c_eq (a := v_h32) (b := 1) ⟨by omega, by omega⟩ ⟨by decide, by decide⟩) (fun c110 => ?_) (fun c110 => ?_)
          · skip
            exact K dt57 hI58 hM96 M297 (by first | omega | (simp only [*]; done) | simp only [*]) (by omega) (by omega) (by omega) (by omega) (by omega) (by omega) (by omega) (by omega) (by omega) (by omega) (by omega) (by omega) (by omega)
          · skip
            exfalso; omega
      · skip
        refine go_toq PM267 (k := 2) (pc' := 1404) (L' := [some (.inr (.inr (some 3000))), some (.inr (.inr (some 0))), some (.inr (.inr (some 79))), some (.inl i)]) (st' := [.inl 1, .inr (.inr (some 79)), .inl v_h32]) (w' := (SH, dt33)) rfl ?_
        refine go_callq PM267 PM247 (Q' := _) rfl rfl rfl rfl (sp_X6_image_1k L xs sio (d + 38) dt33 hI34 hM37   ) ?_
        rintro _ _ ⟨dt112, rfl, hI113, hF114, h111⟩
        refine ⟨rfl, ?_⟩
        have hF115 : Fr [0, 1, 2, 3, 4, 5, 6, 7, 8, 9, 10, 11, 12, 13, 14, 15, 16, 17, 18, 19, 20, 21, 22, 23, 24, 25, 26, 27, 28, 29, 30, 31, 32, 33, 34, 35, 36, 37, 38, 39, 40, 41, 42, 43, 44, 45, 46, 47, 48, 49, 50, 51, 52, 53, 54, 55, 56, 57, 58, 59, 60, 61, 62, 63, 64, 65, 66, 67, 68, 69, 70, 71, 72, 73, 74, 75, 76, 77, 78, 79, 80, 81, 82, 83, 84, 85, 86, 87, 88, 89, 90, 91, 92, 93, 94, 95, 96, 97, 98, 99, 100, 101, 102, 103, 104] dt dt112 := Fr_tr hF36 hF114 (by decide)
        have hM116 : MW (dt112 80) := MW_fr hM37 hF114 (by decide)
        have w117 : dt112 1 0 = dt33 1 0 := hF114 1 (by decide) 0
        have w118 : dt112 7 3 = dt33 7 3 := hF114 7 (by decide) 3
        have w119 : dt112 10 3 = dt33 10 3 := hF114 10 (by decide) 3
        have w120 : dt112 12 3 = dt33 12 3 := hF114 12 (by decide) 3
        have w121 : dt112 14 3 = dt33 14 3 := hF114 14 (by decide) 3
        have w122 : dt112 16 3 = dt33 16 3 := hF114 16 (by decide) 3
        have w123 : dt112 18 0 = dt33 18 0 := hF114 18 (by decide) 0
        have w124 : dt112 24 3 = dt33 24 3 := hF114 24 (by decide) 3
        have w125 : dt112 27 3 = dt33 27 3 := hF114 27 (by decide) 3
        have w126 : dt112 29 3 = dt33 29 3 := hF114 29 (by decide) 3
        have w127 : dt112 31 3 = dt33 31 3 := hF114 31 (by decide) 3
        have w128 : dt112 33 3 = dt33 33 3 := hF114 33 (by decide) 3
        have w129 : dt112 0 2 = dt33 0 2 := hF114 0 (by decide) 2
        have w130 : dt112 35 1 = dt33 35 1 := hF114 35 (by decide) 1
        have w131 : dt112 80 0 = dt33 80 0 := hF114 80 (by decide) 0
        have w132 : dt112 80 1 = dt33 80 1 := hF114 80 (by decide) 1
        have w133 : dt112 80 2 = dt33 80 2 := hF114 80 (by decide) 2
        have w134 : dt112 80 3 = dt33 80 3 := hF114 80 (by decide) 3
        have w135 : dt112 80 4 = dt33 80 4 := hF114 80 (by decide) 4
        have w136 : dt112 80 5 = dt33 80 5 := hF114 80 (by decide) 5
        rcases h111 with ⟨rfl, h111⟩
        have hM137 : MW (dt112 80) := h111.2.1
        obtain ⟨h111_0, h111_1, h111_2, h111_3, h111_4, h111_5⟩ := h111
        have y138 := h111_3 0 (by decide)
        have y139 := h111_3 1 (by decide)
        have y140 := h111_3 2 (by decide)
        have y141 := h111_3 3 (by decide)
        have y142 := h111_3 4 (by decide)
        have y143 := h111_3 5 (by decide)
        have y144 := h111_4 0 (by decide)
        have y145 := h111_4 1 (by decide)
        have y146 := h111_4 2 (by decide)
        have y147 := h111_4 3 (by decide)
        have y148 := h111_4 4 (by decide)
        have y149 := h111_4 5 (by decide)
        refine go_ifq PM267 (k := 0) (p1 := 1435) (p2 := 1410) (L' := [some (.inr (.inr (some 3000))), some (.inr (.inr (some 0))), some (.inr (.inr (some 79))), some (.inl i)]) (st' := []) (w' := (SH, dt112)) rfl (c_eq (a := v_h32) (b := 1) ⟨by omega, by omega⟩ ⟨by decide, by decide⟩) (fun c150 => ?_) (fun c150 => ?_)
        · skip
          exact K dt112 hI113 hM137 h111_2 (by first | omega | (simp only [*]; done) | simp only [*]) (by omega) (by omega) (by omega) (by omega) (by omega) (by omega) (by omega) (by omega) (by omega) (by omega) (by omega) (by omega) (by omega)
        · skip
          exfalso; omega
    · skip
      obtain ⟨h32_0, h32_1, h32_2, h32_3, h32_4, h32_5, h32_6, h32_7, h32_8, h32_9, h32_10, h32_11, h32_12, h32_13, h32_14, h32_15⟩ := h32
      have M2151 : MW (dt33 81) := MW_frk hM2 hF35 (by decide)
      refine go_toq PM267 (k := 5) (pc' := 1395) (L' := [some (.inr (.inr (some 3000))), some (.inr (.inr (some 0))), some (.inr (.inr (some 79))), some (.inl i)]) (st' := [.inl (i + 1), .inr (.inr (some 3000)), .inr (.inr (some 79)), .inl v_h32]) (w' := (SH, dt33)) rfl ?_
      have r152 := i32_R (xs ((i + 1).toNat))
      refine go_smpq PM267 (L' := [some (.inr (.inr (some 3000))), some (.inr (.inr (some 0))), some (.inr (.inr (some 79))), some (.inl i)]) (st' := [.inl ((xs ((i + 1).toNat)).toInt), .inr (.inr (some 79)), .inl v_h32]) (w' := (SH, dt33)) rfl rfl (s_iald (n := L) (f := fun j => (xs j).toInt) (am_scr hLL) ⟨by omega, by omega⟩) ?_
      refine go_ifq PM267 (k := 0) (p1 := 1403) (p2 := 1399) (L' := [some (.inr (.inr (some 3000))), some (.inr (.inr (some 0))), some (.inr (.inr (some 79))), some (.inl i)]) (st' := [.inr (.inr (some 79)), .inl v_h32]) (w' := (SH, dt33)) rfl (z_eq (a := (xs ((i + 1).toNat)).toInt) ⟨by omega, by omega⟩) (fun c153 => ?_) (fun c153 => ?_)
      · skip
        refine go_toq PM267 (k := 1) (pc' := 1404) (L' := [some (.inr (.inr (some 3000))), some (.inr (.inr (some 0))), some (.inr (.inr (some 79))), some (.inl i)]) (st' := [.inl 0, .inr (.inr (some 79)), .inl v_h32]) (w' := (SH, dt33)) rfl ?_
        refine go_callq PM267 PM247 (Q' := _) rfl rfl rfl rfl (sp_X6_image_0k L xs sio (d + 38) dt33 hI34 hM37   (by first | trivial | omega | exact M2151)) ?_
        rintro _ _ ⟨dt155, rfl, hI156, hF157, h154⟩
        refine ⟨rfl, ?_⟩
        have hF158 : Fr [0, 1, 2, 3, 4, 5, 6, 7, 8, 9, 10, 11, 12, 13, 14, 15, 16, 17, 18, 19, 20, 21, 22, 23, 24, 25, 26, 27, 28, 29, 30, 31, 32, 33, 34, 35, 36, 37, 38, 39, 40, 41, 42, 43, 44, 45, 46, 47, 48, 49, 50, 51, 52, 53, 54, 55, 56, 57, 58, 59, 60, 61, 62, 63, 64, 65, 66, 67, 68, 69, 70, 71, 72, 73, 74, 75, 76, 77, 78, 79, 80, 81, 82, 83, 84, 85, 86, 87, 88, 89, 90, 91, 92, 93, 94, 95, 96, 97, 98, 99, 100, 101, 102, 103, 104] dt dt155 := Fr_tr hF36 hF157 (by decide)
        have w159 : dt155 1 0 = dt33 1 0 := hF157 1 (by decide) 0
        have w160 : dt155 7 3 = dt33 7 3 := hF157 7 (by decide) 3
        have w161 : dt155 10 3 = dt33 10 3 := hF157 10 (by decide) 3
        have w162 : dt155 12 3 = dt33 12 3 := hF157 12 (by decide) 3
        have w163 : dt155 14 3 = dt33 14 3 := hF157 14 (by decide) 3
        have w164 : dt155 16 3 = dt33 16 3 := hF157 16 (by decide) 3
        have w165 : dt155 18 0 = dt33 18 0 := hF157 18 (by decide) 0
        have w166 : dt155 24 3 = dt33 24 3 := hF157 24 (by decide) 3
        have w167 : dt155 27 3 = dt33 27 3 := hF157 27 (by decide) 3
        have w168 : dt155 29 3 = dt33 29 3 := hF157 29 (by decide) 3
        have w169 : dt155 31 3 = dt33 31 3 := hF157 31 (by decide) 3
        have w170 : dt155 33 3 = dt33 33 3 := hF157 33 (by decide) 3
        have w171 : dt155 0 2 = dt33 0 2 := hF157 0 (by decide) 2
        have w172 : dt155 35 1 = dt33 35 1 := hF157 35 (by decide) 1
        have w173 : dt155 81 0 = dt33 81 0 := hF157 81 (by decide) 0
        have w174 : dt155 81 1 = dt33 81 1 := hF157 81 (by decide) 1
        have w175 : dt155 81 2 = dt33 81 2 := hF157 81 (by decide) 2
        have w176 : dt155 81 3 = dt33 81 3 := hF157 81 (by decide) 3
        have w177 : dt155 81 4 = dt33 81 4 := hF157 81 (by decide) 4
        have w178 : dt155 81 5 = dt33 81 5 := hF157 81 (by decide) 5
        rcases h154 with ⟨rfl, h154⟩ | ⟨rfl, h154⟩
        · skip
          have hM179 : MW (dt155 80) := h154.2.2.1
          obtain ⟨h154_0, h154_1, h154_2, h154_3, h154_4, h154_5, h154_6⟩ := h154
          have M2180 : MW (dt155 81) := MW_frk M2151 hF157 (by decide)
          have y181 := h154_4 0 (by decide)
          have y182 := h154_4 1 (by decide)
          have y183 := h154_4 2 (by decide)
          have y184 := h154_4 3 (by decide)
          have y185 := h154_4 4 (by decide)
          have y186 := h154_4 5 (by decide)
          have y187 := h154_5 0 (by decide)
          have y188 := h154_5 1 (by decide)
          have y189 := h154_5 2 (by decide)
          have y190 := h154_5 3 (by decide)
          have y191 := h154_5 4 (by decide)
          have y192 := h154_5 5 (by decide)
          refine go_ifq PM267 (k := 0) (p1 := 1435) (p2 := 1410) (L' := [some (.inr (.inr (some 3000))), some (.inr (.inr (some 0))), some (.inr (.inr (some 79))), some (.inl i)]) (st' := []) (w' := (SH, dt155)) rfl (c_eq (a := v_h32) (b := 0) ⟨by omega, by omega⟩ ⟨by decide, by decide⟩) (fun c193 => ?_) (fun c193 => ?_)
          · skip
            exact K dt155 hI156 hM179 M2180 (by first | omega | (simp only [*]; done) | simp only [*]) (by omega) (by omega) (by omega) (by omega) (by omega) (by omega) (by omega) (by omega) (by omega) (by omega) (by omega) (by omega) (by omega)
          · skip
            exfalso; omega
        · skip
          have hM194 : MW (dt155 80) := h154.2.2.1
          obtain ⟨h154_0, h154_1, h154_2, h154_3, h154_4, h154_5, h154_6⟩ := h154
          have M2195 : MW (dt155 81) := MW_frk M2151 hF157 (by decide)
          have y196 := h154_4 0 (by decide)
          have y197 := h154_4 1 (by decide)
          have y198 := h154_4 2 (by decide)
          have y199 := h154_4 3 (by decide)
          have y200 := h154_4 4 (by decide)
          have y201 := h154_4 5 (by decide)
          have y202 := h154_5 0 (by decide)
          have y203 := h154_5 1 (by decide)
          have y204 := h154_5 2 (by decide)
          have y205 := h154_5 3 (by decide)
          have y206 := h154_5 4 (by decide)
          have y207 := h154_5 5 (by decide)
          refine go_ifq PM267 (k := 0) (p1 := 1435) (p2 := 1410) (L' := [some (.inr (.inr (some 3000))), some (.inr (.inr (some 0))), some (.inr (.inr (some 79))), some (.inl i)]) (st' := []) (w' := (SH, dt155)) rfl (c_eq (a := v_h32) (b := 1) ⟨by omega, by omega⟩ ⟨by decide, by decide⟩) (fun c208 => ?_) (fun c208 => ?_)
          · skip
            exact K dt155 hI156 hM194 M2195 (by first | omega | (simp only [*]; done) | simp only [*]) (by omega) (by omega) (by omega) (by omega) (by omega) (by omega) (by omega) (by omega) (by omega) (by omega) (by omega) (by omega) (by omega)
          · skip
            exfalso; omega
      · skip
        refine go_toq PM267 (k := 2) (pc' := 1404) (L' := [some (.inr (.inr (some 3000))), some (.inr (.inr (some 0))), some (.inr (.inr (some 79))), some (.inl i)]) (st' := [.inl 1, .inr (.inr (some 79)), .inl v_h32]) (w' := (SH, dt33)) rfl ?_
        refine go_callq PM267 PM247 (Q' := _) rfl rfl rfl rfl (sp_X6_image_1k L xs sio (d + 38) dt33 hI34 hM37   ) ?_
        rintro _ _ ⟨dt210, rfl, hI211, hF212, h209⟩
        refine ⟨rfl, ?_⟩
        have hF213 : Fr [0, 1, 2, 3, 4, 5, 6, 7, 8, 9, 10, 11, 12, 13, 14, 15, 16, 17, 18, 19, 20, 21, 22, 23, 24, 25, 26, 27, 28, 29, 30, 31, 32, 33, 34, 35, 36, 37, 38, 39, 40, 41, 42, 43, 44, 45, 46, 47, 48, 49, 50, 51, 52, 53, 54, 55, 56, 57, 58, 59, 60, 61, 62, 63, 64, 65, 66, 67, 68, 69, 70, 71, 72, 73, 74, 75, 76, 77, 78, 79, 80, 81, 82, 83, 84, 85, 86, 87, 88, 89, 90, 91, 92, 93, 94, 95, 96, 97, 98, 99, 100, 101, 102, 103, 104] dt dt210 := Fr_tr hF36 hF212 (by decide)
        have hM214 : MW (dt210 80) := MW_fr hM37 hF212 (by decide)
        have w215 : dt210 1 0 = dt33 1 0 := hF212 1 (by decide) 0
        have w216 : dt210 7 3 = dt33 7 3 := hF212 7 (by decide) 3
        have w217 : dt210 10 3 = dt33 10 3 := hF212 10 (by decide) 3
        have w218 : dt210 12 3 = dt33 12 3 := hF212 12 (by decide) 3
        have w219 : dt210 14 3 = dt33 14 3 := hF212 14 (by decide) 3
        have w220 : dt210 16 3 = dt33 16 3 := hF212 16 (by decide) 3
        have w221 : dt210 18 0 = dt33 18 0 := hF212 18 (by decide) 0
        have w222 : dt210 24 3 = dt33 24 3 := hF212 24 (by decide) 3
        have w223 : dt210 27 3 = dt33 27 3 := hF212 27 (by decide) 3
        have w224 : dt210 29 3 = dt33 29 3 := hF212 29 (by decide) 3
        have w225 : dt210 31 3 = dt33 31 3 := hF212 31 (by decide) 3
        have w226 : dt210 33 3 = dt33 33 3 := hF212 33 (by decide) 3
        have w227 : dt210 0 2 = dt33 0 2 := hF212 0 (by decide) 2
        have w228 : dt210 35 1 = dt33 35 1 := hF212 35 (by decide) 1
        have w229 : dt210 80 0 = dt33 80 0 := hF212 80 (by decide) 0
        have w230 : dt210 80 1 = dt33 80 1 := hF212 80 (by decide) 1
        have w231 : dt210 80 2 = dt33 80 2 := hF212 80 (by decide) 2
        have w232 : dt210 80 3 = dt33 80 3 := hF212 80 (by decide) 3
        have w233 : dt210 80 4 = dt33 80 4 := hF212 80 (by decide) 4
        have w234 : dt210 80 5 = dt33 80 5 := hF212 80 (by decide) 5
        rcases h209 with ⟨rfl, h209⟩
        have hM235 : MW (dt210 80) := h209.2.1
        obtain ⟨h209_0, h209_1, h209_2, h209_3, h209_4, h209_5⟩ := h209
        have y236 := h209_3 0 (by decide)
        have y237 := h209_3 1 (by decide)
        have y238 := h209_3 2 (by decide)
        have y239 := h209_3 3 (by decide)
        have y240 := h209_3 4 (by decide)
        have y241 := h209_3 5 (by decide)
        have y242 := h209_4 0 (by decide)
        have y243 := h209_4 1 (by decide)
        have y244 := h209_4 2 (by decide)
        have y245 := h209_4 3 (by decide)
        have y246 := h209_4 4 (by decide)
        have y247 := h209_4 5 (by decide)
        refine go_ifq PM267 (k := 0) (p1 := 1435) (p2 := 1410) (L' := [some (.inr (.inr (some 3000))), some (.inr (.inr (some 0))), some (.inr (.inr (some 79))), some (.inl i)]) (st' := []) (w' := (SH, dt210)) rfl (c_eq (a := v_h32) (b := 1) ⟨by omega, by omega⟩ ⟨by decide, by decide⟩) (fun c248 => ?_) (fun c248 => ?_)
        · skip
          exact K dt210 hI211 hM235 h209_2 (by first | omega | (simp only [*]; done) | simp only [*]) (by omega) (by omega) (by omega) (by omega) (by omega) (by omega) (by omega) (by omega) (by omega) (by omega) (by omega) (by omega) (by omega)
        · skip
          exfalso; omega
    · skip
      obtain ⟨h32_0, h32_1, h32_2, h32_3, h32_4, h32_5, h32_6, h32_7, h32_8, h32_9, h32_10, h32_11, h32_12, h32_13, h32_14, h32_15⟩ := h32
      have M2249 : MW (dt33 81) := MW_frk hM2 hF35 (by decide)
      refine go_toq PM267 (k := 5) (pc' := 1395) (L' := [some (.inr (.inr (some 3000))), some (.inr (.inr (some 0))), some (.inr (.inr (some 79))), some (.inl i)]) (st' := [.inl (i + 1), .inr (.inr (some 3000)), .inr (.inr (some 79)), .inl v_h32]) (w' := (SH, dt33)) rfl ?_
      have r250 := i32_R (xs ((i + 1).toNat))
      refine go_smpq PM267 (L' := [some (.inr (.inr (some 3000))), some (.inr (.inr (some 0))), some (.inr (.inr (some 79))), some (.inl i)]) (st' := [.inl ((xs ((i + 1).toNat)).toInt), .inr (.inr (some 79)), .inl v_h32]) (w' := (SH, dt33)) rfl rfl (s_iald (n := L) (f := fun j => (xs j).toInt) (am_scr hLL) ⟨by omega, by omega⟩) ?_
      refine go_ifq PM267 (k := 0) (p1 := 1403) (p2 := 1399) (L' := [some (.inr (.inr (some 3000))), some (.inr (.inr (some 0))), some (.inr (.inr (some 79))), some (.inl i)]) (st' := [.inr (.inr (some 79)), .inl v_h32]) (w' := (SH, dt33)) rfl (z_eq (a := (xs ((i + 1).toNat)).toInt) ⟨by omega, by omega⟩) (fun c251 => ?_) (fun c251 => ?_)
      · skip
        refine go_toq PM267 (k := 1) (pc' := 1404) (L' := [some (.inr (.inr (some 3000))), some (.inr (.inr (some 0))), some (.inr (.inr (some 79))), some (.inl i)]) (st' := [.inl 0, .inr (.inr (some 79)), .inl v_h32]) (w' := (SH, dt33)) rfl ?_
        refine go_callq PM267 PM247 (Q' := _) rfl rfl rfl rfl (sp_X6_image_0k L xs sio (d + 38) dt33 hI34 hM37   (by first | trivial | omega | exact M2249)) ?_
        rintro _ _ ⟨dt253, rfl, hI254, hF255, h252⟩
        refine ⟨rfl, ?_⟩
        have hF256 : Fr [0, 1, 2, 3, 4, 5, 6, 7, 8, 9, 10, 11, 12, 13, 14, 15, 16, 17, 18, 19, 20, 21, 22, 23, 24, 25, 26, 27, 28, 29, 30, 31, 32, 33, 34, 35, 36, 37, 38, 39, 40, 41, 42, 43, 44, 45, 46, 47, 48, 49, 50, 51, 52, 53, 54, 55, 56, 57, 58, 59, 60, 61, 62, 63, 64, 65, 66, 67, 68, 69, 70, 71, 72, 73, 74, 75, 76, 77, 78, 79, 80, 81, 82, 83, 84, 85, 86, 87, 88, 89, 90, 91, 92, 93, 94, 95, 96, 97, 98, 99, 100, 101, 102, 103, 104] dt dt253 := Fr_tr hF36 hF255 (by decide)
        have w257 : dt253 1 0 = dt33 1 0 := hF255 1 (by decide) 0
        have w258 : dt253 7 3 = dt33 7 3 := hF255 7 (by decide) 3
        have w259 : dt253 10 3 = dt33 10 3 := hF255 10 (by decide) 3
        have w260 : dt253 12 3 = dt33 12 3 := hF255 12 (by decide) 3
        have w261 : dt253 14 3 = dt33 14 3 := hF255 14 (by decide) 3
        have w262 : dt253 16 3 = dt33 16 3 := hF255 16 (by decide) 3
        have w263 : dt253 18 0 = dt33 18 0 := hF255 18 (by decide) 0
        have w264 : dt253 24 3 = dt33 24 3 := hF255 24 (by decide) 3
        have w265 : dt253 27 3 = dt33 27 3 := hF255 27 (by decide) 3
        have w266 : dt253 29 3 = dt33 29 3 := hF255 29 (by decide) 3
        have w267 : dt253 31 3 = dt33 31 3 := hF255 31 (by decide) 3
        have w268 : dt253 33 3 = dt33 33 3 := hF255 33 (by decide) 3
        have w269 : dt253 0 2 = dt33 0 2 := hF255 0 (by decide) 2
        have w270 : dt253 35 1 = dt33 35 1 := hF255 35 (by decide) 1
        have w271 : dt253 81 0 = dt33 81 0 := hF255 81 (by decide) 0
        have w272 : dt253 81 1 = dt33 81 1 := hF255 81 (by decide) 1
        have w273 : dt253 81 2 = dt33 81 2 := hF255 81 (by decide) 2
        have w274 : dt253 81 3 = dt33 81 3 := hF255 81 (by decide) 3
        have w275 : dt253 81 4 = dt33 81 4 := hF255 81 (by decide) 4
        have w276 : dt253 81 5 = dt33 81 5 := hF255 81 (by decide) 5
        rcases h252 with ⟨rfl, h252⟩ | ⟨rfl, h252⟩
        · skip
          have hM277 : MW (dt253 80) := h252.2.2.1
          obtain ⟨h252_0, h252_1, h252_2, h252_3, h252_4, h252_5, h252_6⟩ := h252
          have M2278 : MW (dt253 81) := MW_frk M2249 hF255 (by decide)
          have y279 := h252_4 0 (by decide)
          have y280 := h252_4 1 (by decide)
          have y281 := h252_4 2 (by decide)
          have y282 := h252_4 3 (by decide)
          have y283 := h252_4 4 (by decide)
          have y284 := h252_4 5 (by decide)
          have y285 := h252_5 0 (by decide)
          have y286 := h252_5 1 (by decide)
          have y287 := h252_5 2 (by decide)
          have y288 := h252_5 3 (by decide)
          have y289 := h252_5 4 (by decide)
          have y290 := h252_5 5 (by decide)
          refine go_ifq PM267 (k := 0) (p1 := 1435) (p2 := 1410) (L' := [some (.inr (.inr (some 3000))), some (.inr (.inr (some 0))), some (.inr (.inr (some 79))), some (.inl i)]) (st' := []) (w' := (SH, dt253)) rfl (c_eq (a := v_h32) (b := 0) ⟨by omega, by omega⟩ ⟨by decide, by decide⟩) (fun c291 => ?_) (fun c291 => ?_)
          · skip
            exact K dt253 hI254 hM277 M2278 (by first | omega | (simp only [*]; done) | simp only [*]) (by omega) (by omega) (by omega) (by omega) (by omega) (by omega) (by omega) (by omega) (by omega) (by omega) (by omega) (by omega) (by omega)
          · skip
            exfalso; omega
        · skip
          have hM292 : MW (dt253 80) := h252.2.2.1
          obtain ⟨h252_0, h252_1, h252_2, h252_3, h252_4, h252_5, h252_6⟩ := h252
          have M2293 : MW (dt253 81) := MW_frk M2249 hF255 (by decide)
          have y294 := h252_4 0 (by decide)
          have y295 := h252_4 1 (by decide)
          have y296 := h252_4 2 (by decide)
          have y297 := h252_4 3 (by decide)
          have y298 := h252_4 4 (by decide)
          have y299 := h252_4 5 (by decide)
          have y300 := h252_5 0 (by decide)
          have y301 := h252_5 1 (by decide)
          have y302 := h252_5 2 (by decide)
          have y303 := h252_5 3 (by decide)
          have y304 := h252_5 4 (by decide)
          have y305 := h252_5 5 (by decide)
          refine go_ifq PM267 (k := 0) (p1 := 1435) (p2 := 1410) (L' := [some (.inr (.inr (some 3000))), some (.inr (.inr (some 0))), some (.inr (.inr (some 79))), some (.inl i)]) (st' := []) (w' := (SH, dt253)) rfl (c_eq (a := v_h32) (b := 1) ⟨by omega, by omega⟩ ⟨by decide, by decide⟩) (fun c306 => ?_) (fun c306 => ?_)
          · skip
            exact K dt253 hI254 hM292 M2293 (by first | omega | (simp only [*]; done) | simp only [*]) (by omega) (by omega) (by omega) (by omega) (by omega) (by omega) (by omega) (by omega) (by omega) (by omega) (by omega) (by omega) (by omega)
          · skip
            exfalso; omega
      · skip
        refine go_toq PM267 (k := 2) (pc' := 1404) (L' := [some (.inr (.inr (some 3000))), some (.inr (.inr (some 0))), some (.inr (.inr (some 79))), some (.inl i)]) (st' := [.inl 1, .inr (.inr (some 79)), .inl v_h32]) (w' := (SH, dt33)) rfl ?_
        refine go_callq PM267 PM247 (Q' := _) rfl rfl rfl rfl (sp_X6_image_1k L xs sio (d + 38) dt33 hI34 hM37   ) ?_
        rintro _ _ ⟨dt308, rfl, hI309, hF310, h307⟩
        refine ⟨rfl, ?_⟩
        have hF311 : Fr [0, 1, 2, 3, 4, 5, 6, 7, 8, 9, 10, 11, 12, 13, 14, 15, 16, 17, 18, 19, 20, 21, 22, 23, 24, 25, 26, 27, 28, 29, 30, 31, 32, 33, 34, 35, 36, 37, 38, 39, 40, 41, 42, 43, 44, 45, 46, 47, 48, 49, 50, 51, 52, 53, 54, 55, 56, 57, 58, 59, 60, 61, 62, 63, 64, 65, 66, 67, 68, 69, 70, 71, 72, 73, 74, 75, 76, 77, 78, 79, 80, 81, 82, 83, 84, 85, 86, 87, 88, 89, 90, 91, 92, 93, 94, 95, 96, 97, 98, 99, 100, 101, 102, 103, 104] dt dt308 := Fr_tr hF36 hF310 (by decide)
        have hM312 : MW (dt308 80) := MW_fr hM37 hF310 (by decide)
        have w313 : dt308 1 0 = dt33 1 0 := hF310 1 (by decide) 0
        have w314 : dt308 7 3 = dt33 7 3 := hF310 7 (by decide) 3
        have w315 : dt308 10 3 = dt33 10 3 := hF310 10 (by decide) 3
        have w316 : dt308 12 3 = dt33 12 3 := hF310 12 (by decide) 3
        have w317 : dt308 14 3 = dt33 14 3 := hF310 14 (by decide) 3
        have w318 : dt308 16 3 = dt33 16 3 := hF310 16 (by decide) 3
        have w319 : dt308 18 0 = dt33 18 0 := hF310 18 (by decide) 0
        have w320 : dt308 24 3 = dt33 24 3 := hF310 24 (by decide) 3
        have w321 : dt308 27 3 = dt33 27 3 := hF310 27 (by decide) 3
        have w322 : dt308 29 3 = dt33 29 3 := hF310 29 (by decide) 3
        have w323 : dt308 31 3 = dt33 31 3 := hF310 31 (by decide) 3
        have w324 : dt308 33 3 = dt33 33 3 := hF310 33 (by decide) 3
        have w325 : dt308 0 2 = dt33 0 2 := hF310 0 (by decide) 2
        have w326 : dt308 35 1 = dt33 35 1 := hF310 35 (by decide) 1
        have w327 : dt308 80 0 = dt33 80 0 := hF310 80 (by decide) 0
        have w328 : dt308 80 1 = dt33 80 1 := hF310 80 (by decide) 1
        have w329 : dt308 80 2 = dt33 80 2 := hF310 80 (by decide) 2
        have w330 : dt308 80 3 = dt33 80 3 := hF310 80 (by decide) 3
        have w331 : dt308 80 4 = dt33 80 4 := hF310 80 (by decide) 4
        have w332 : dt308 80 5 = dt33 80 5 := hF310 80 (by decide) 5
        rcases h307 with ⟨rfl, h307⟩
        have hM333 : MW (dt308 80) := h307.2.1
        obtain ⟨h307_0, h307_1, h307_2, h307_3, h307_4, h307_5⟩ := h307
        have y334 := h307_3 0 (by decide)
        have y335 := h307_3 1 (by decide)
        have y336 := h307_3 2 (by decide)
        have y337 := h307_3 3 (by decide)
        have y338 := h307_3 4 (by decide)
        have y339 := h307_3 5 (by decide)
        have y340 := h307_4 0 (by decide)
        have y341 := h307_4 1 (by decide)
        have y342 := h307_4 2 (by decide)
        have y343 := h307_4 3 (by decide)
        have y344 := h307_4 4 (by decide)
        have y345 := h307_4 5 (by decide)
        refine go_ifq PM267 (k := 0) (p1 := 1435) (p2 := 1410) (L' := [some (.inr (.inr (some 3000))), some (.inr (.inr (some 0))), some (.inr (.inr (some 79))), some (.inl i)]) (st' := []) (w' := (SH, dt308)) rfl (c_eq (a := v_h32) (b := 1) ⟨by omega, by omega⟩ ⟨by decide, by decide⟩) (fun c346 => ?_) (fun c346 => ?_)
        · skip
          exact K dt308 hI309 hM333 h307_2 (by first | omega | (simp only [*]; done) | simp only [*]) (by omega) (by omega) (by omega) (by omega) (by omega) (by omega) (by omega) (by omega) (by omega) (by omega) (by omega) (by omega) (by omega)
        · skip
          exfalso; omega
  · skip
    refine go_toq PM267 (k := 2) (pc' := 1387) (L' := [some (.inr (.inr (some 3000))), some (.inr (.inr (some 0))), some (.inr (.inr (some 79))), some (.inl i)]) (st' := [.inl 1, .inr (.inr (some 0))]) (w' := (SH, dt)) rfl ?_
    refine go_callq PM267 PM98 (Q' := _) rfl rfl rfl rfl (sp_X5_image L xs sio (d + 35) dt hI  1 ⟨by decide, by decide⟩ ) ?_
    rintro _ _ ⟨dt348, rfl, hI349, hF350, h347⟩
    refine ⟨rfl, ?_⟩
    have hF351 : Fr [0, 1, 2, 3, 4, 5, 6, 7, 8, 9, 10, 11, 12, 13, 14, 15, 16, 17, 18, 19, 20, 21, 22, 23, 24, 25, 26, 27, 28, 29, 30, 31, 32, 33, 34, 35, 36, 37, 38, 39, 40, 41, 42, 43, 44, 45, 46, 47, 48, 49, 50, 51, 52, 53, 54, 55, 56, 57, 58, 59, 60, 61, 62, 63, 64, 65, 66, 67, 68, 69, 70, 71, 72, 73, 74, 75, 76, 77, 78, 79, 80, 81, 82, 83, 84, 85, 86, 87, 88, 89, 90, 91, 92, 93, 94, 95, 96, 97, 98, 99, 100, 101, 102, 103, 104] dt dt348 := Fr_tr hF hF350 (by decide)
    have hM352 : MW (dt348 80) := MW_fr hM hF350 (by decide)
    have w353 : dt348 35 1 = dt 35 1 := hF350 35 (by decide) 1
    have w354 : dt348 80 0 = dt 80 0 := hF350 80 (by decide) 0
    have w355 : dt348 80 1 = dt 80 1 := hF350 80 (by decide) 1
    have w356 : dt348 80 2 = dt 80 2 := hF350 80 (by decide) 2
    have w357 : dt348 80 3 = dt 80 3 := hF350 80 (by decide) 3
    have w358 : dt348 80 4 = dt 80 4 := hF350 80 (by decide) 4
    have w359 : dt348 80 5 = dt 80 5 := hF350 80 (by decide) 5
    have w360 : dt348 81 0 = dt 81 0 := hF350 81 (by decide) 0
    have w361 : dt348 81 1 = dt 81 1 := hF350 81 (by decide) 1
    have w362 : dt348 81 2 = dt 81 2 := hF350 81 (by decide) 2
    have w363 : dt348 81 3 = dt 81 3 := hF350 81 (by decide) 3
    have w364 : dt348 81 4 = dt 81 4 := hF350 81 (by decide) 4
    have w365 : dt348 81 5 = dt 81 5 := hF350 81 (by decide) 5
    have w366 : dt348 79 2 = dt 79 2 := hF350 79 (by decide) 2
    have w367 : dt348 79 12 = dt 79 12 := hF350 79 (by decide) 12
    rcases h347 with ⟨v_h347, rfl, h347r, h347⟩ | ⟨v_h347, rfl, h347r, h347⟩ | ⟨v_h347, rfl, h347r, h347⟩
    · skip
      obtain ⟨h347_0, h347_1, h347_2, h347_3, h347_4, h347_5, h347_6, h347_7, h347_8, h347_9, h347_10, h347_11, h347_12, h347_13, h347_14⟩ := h347
      have M2368 : MW (dt348 81) := MW_frk hM2 hF350 (by decide)
      refine go_toq PM267 (k := 5) (pc' := 1395) (L' := [some (.inr (.inr (some 3000))), some (.inr (.inr (some 0))), some (.inr (.inr (some 79))), some (.inl i)]) (st' := [.inl (i + 1), .inr (.inr (some 3000)), .inr (.inr (some 79)), .inl v_h347]) (w' := (SH, dt348)) rfl ?_
      have r369 := i32_R (xs ((i + 1).toNat))
      refine go_smpq PM267 (L' := [some (.inr (.inr (some 3000))), some (.inr (.inr (some 0))), some (.inr (.inr (some 79))), some (.inl i)]) (st' := [.inl ((xs ((i + 1).toNat)).toInt), .inr (.inr (some 79)), .inl v_h347]) (w' := (SH, dt348)) rfl rfl (s_iald (n := L) (f := fun j => (xs j).toInt) (am_scr hLL) ⟨by omega, by omega⟩) ?_
      refine go_ifq PM267 (k := 0) (p1 := 1403) (p2 := 1399) (L' := [some (.inr (.inr (some 3000))), some (.inr (.inr (some 0))), some (.inr (.inr (some 79))), some (.inl i)]) (st' := [.inr (.inr (some 79)), .inl v_h347]) (w' := (SH, dt348)) rfl (z_eq (a := (xs ((i + 1).toNat)).toInt) ⟨by omega, by omega⟩) (fun c370 => ?_) (fun c370 => ?_)
      · skip
        refine go_toq PM267 (k := 1) (pc' := 1404) (L' := [some (.inr (.inr (some 3000))), some (.inr (.inr (some 0))), some (.inr (.inr (some 79))), some (.inl i)]) (st' := [.inl 0, .inr (.inr (some 79)), .inl v_h347]) (w' := (SH, dt348)) rfl ?_
        refine go_callq PM267 PM247 (Q' := _) rfl rfl rfl rfl (sp_X6_image_0k L xs sio (d + 38) dt348 hI349 hM352   (by first | trivial | omega | exact M2368)) ?_
        rintro _ _ ⟨dt372, rfl, hI373, hF374, h371⟩
        refine ⟨rfl, ?_⟩
        have hF375 : Fr [0, 1, 2, 3, 4, 5, 6, 7, 8, 9, 10, 11, 12, 13, 14, 15, 16, 17, 18, 19, 20, 21, 22, 23, 24, 25, 26, 27, 28, 29, 30, 31, 32, 33, 34, 35, 36, 37, 38, 39, 40, 41, 42, 43, 44, 45, 46, 47, 48, 49, 50, 51, 52, 53, 54, 55, 56, 57, 58, 59, 60, 61, 62, 63, 64, 65, 66, 67, 68, 69, 70, 71, 72, 73, 74, 75, 76, 77, 78, 79, 80, 81, 82, 83, 84, 85, 86, 87, 88, 89, 90, 91, 92, 93, 94, 95, 96, 97, 98, 99, 100, 101, 102, 103, 104] dt dt372 := Fr_tr hF351 hF374 (by decide)
        have w376 : dt372 1 0 = dt348 1 0 := hF374 1 (by decide) 0
        have w377 : dt372 7 3 = dt348 7 3 := hF374 7 (by decide) 3
        have w378 : dt372 10 3 = dt348 10 3 := hF374 10 (by decide) 3
        have w379 : dt372 12 3 = dt348 12 3 := hF374 12 (by decide) 3
        have w380 : dt372 14 3 = dt348 14 3 := hF374 14 (by decide) 3
        have w381 : dt372 16 3 = dt348 16 3 := hF374 16 (by decide) 3
        have w382 : dt372 18 0 = dt348 18 0 := hF374 18 (by decide) 0
        have w383 : dt372 24 3 = dt348 24 3 := hF374 24 (by decide) 3
        have w384 : dt372 27 3 = dt348 27 3 := hF374 27 (by decide) 3
        have w385 : dt372 29 3 = dt348 29 3 := hF374 29 (by decide) 3
        have w386 : dt372 31 3 = dt348 31 3 := hF374 31 (by decide) 3
        have w387 : dt372 33 3 = dt348 33 3 := hF374 33 (by decide) 3
        have w388 : dt372 0 2 = dt348 0 2 := hF374 0 (by decide) 2
        have w389 : dt372 35 1 = dt348 35 1 := hF374 35 (by decide) 1
        have w390 : dt372 81 0 = dt348 81 0 := hF374 81 (by decide) 0
        have w391 : dt372 81 1 = dt348 81 1 := hF374 81 (by decide) 1
        have w392 : dt372 81 2 = dt348 81 2 := hF374 81 (by decide) 2
        have w393 : dt372 81 3 = dt348 81 3 := hF374 81 (by decide) 3
        have w394 : dt372 81 4 = dt348 81 4 := hF374 81 (by decide) 4
        have w395 : dt372 81 5 = dt348 81 5 := hF374 81 (by decide) 5
        rcases h371 with ⟨rfl, h371⟩ | ⟨rfl, h371⟩
        · skip
          have hM396 : MW (dt372 80) := h371.2.2.1
          obtain ⟨h371_0, h371_1, h371_2, h371_3, h371_4, h371_5, h371_6⟩ := h371
          have M2397 : MW (dt372 81) := MW_frk M2368 hF374 (by decide)
          have y398 := h371_4 0 (by decide)
          have y399 := h371_4 1 (by decide)
          have y400 := h371_4 2 (by decide)
          have y401 := h371_4 3 (by decide)
          have y402 := h371_4 4 (by decide)
          have y403 := h371_4 5 (by decide)
          have y404 := h371_5 0 (by decide)
          have y405 := h371_5 1 (by decide)
          have y406 := h371_5 2 (by decide)
          have y407 := h371_5 3 (by decide)
          have y408 := h371_5 4 (by decide)
          have y409 := h371_5 5 (by decide)
          refine go_ifq PM267 (k := 0) (p1 := 1435) (p2 := 1410) (L' := [some (.inr (.inr (some 3000))), some (.inr (.inr (some 0))), some (.inr (.inr (some 79))), some (.inl i)]) (st' := []) (w' := (SH, dt372)) rfl (c_eq (a := v_h347) (b := 0) ⟨by omega, by omega⟩ ⟨by decide, by decide⟩) (fun c410 => ?_) (fun c410 => ?_)
          · skip
            exact K dt372 hI373 hM396 M2397 (by first | omega | (simp only [*]; done) | simp only [*]) (by omega) (by omega) (by omega) (by omega) (by omega) (by omega) (by omega) (by omega) (by omega) (by omega) (by omega) (by omega) (by omega)
          · skip
            exfalso; omega
        · skip
          have hM411 : MW (dt372 80) := h371.2.2.1
          obtain ⟨h371_0, h371_1, h371_2, h371_3, h371_4, h371_5, h371_6⟩ := h371
          have M2412 : MW (dt372 81) := MW_frk M2368 hF374 (by decide)
          have y413 := h371_4 0 (by decide)
          have y414 := h371_4 1 (by decide)
          have y415 := h371_4 2 (by decide)
          have y416 := h371_4 3 (by decide)
          have y417 := h371_4 4 (by decide)
          have y418 := h371_4 5 (by decide)
          have y419 := h371_5 0 (by decide)
          have y420 := h371_5 1 (by decide)
          have y421 := h371_5 2 (by decide)
          have y422 := h371_5 3 (by decide)
          have y423 := h371_5 4 (by decide)
          have y424 := h371_5 5 (by decide)
          refine go_ifq PM267 (k := 0) (p1 := 1435) (p2 := 1410) (L' := [some (.inr (.inr (some 3000))), some (.inr (.inr (some 0))), some (.inr (.inr (some 79))), some (.inl i)]) (st' := []) (w' := (SH, dt372)) rfl (c_eq (a := v_h347) (b := 1) ⟨by omega, by omega⟩ ⟨by decide, by decide⟩) (fun c425 => ?_) (fun c425 => ?_)
          · skip
            exact K dt372 hI373 hM411 M2412 (by first | omega | (simp only [*]; done) | simp only [*]) (by omega) (by omega) (by omega) (by omega) (by omega) (by omega) (by omega) (by omega) (by omega) (by omega) (by omega) (by omega) (by omega)
          · skip
            exfalso; omega
      · skip
        refine go_toq PM267 (k := 2) (pc' := 1404) (L' := [some (.inr (.inr (some 3000))), some (.inr (.inr (some 0))), some (.inr (.inr (some 79))), some (.inl i)]) (st' := [.inl 1, .inr (.inr (some 79)), .inl v_h347]) (w' := (SH, dt348)) rfl ?_
        refine go_callq PM267 PM247 (Q' := _) rfl rfl rfl rfl (sp_X6_image_1k L xs sio (d + 38) dt348 hI349 hM352   ) ?_
        rintro _ _ ⟨dt427, rfl, hI428, hF429, h426⟩
        refine ⟨rfl, ?_⟩
        have hF430 : Fr [0, 1, 2, 3, 4, 5, 6, 7, 8, 9, 10, 11, 12, 13, 14, 15, 16, 17, 18, 19, 20, 21, 22, 23, 24, 25, 26, 27, 28, 29, 30, 31, 32, 33, 34, 35, 36, 37, 38, 39, 40, 41, 42, 43, 44, 45, 46, 47, 48, 49, 50, 51, 52, 53, 54, 55, 56, 57, 58, 59, 60, 61, 62, 63, 64, 65, 66, 67, 68, 69, 70, 71, 72, 73, 74, 75, 76, 77, 78, 79, 80, 81, 82, 83, 84, 85, 86, 87, 88, 89, 90, 91, 92, 93, 94, 95, 96, 97, 98, 99, 100, 101, 102, 103, 104] dt dt427 := Fr_tr hF351 hF429 (by decide)
        have hM431 : MW (dt427 80) := MW_fr hM352 hF429 (by decide)
        have w432 : dt427 1 0 = dt348 1 0 := hF429 1 (by decide) 0
        have w433 : dt427 7 3 = dt348 7 3 := hF429 7 (by decide) 3
        have w434 : dt427 10 3 = dt348 10 3 := hF429 10 (by decide) 3
        have w435 : dt427 12 3 = dt348 12 3 := hF429 12 (by decide) 3
        have w436 : dt427 14 3 = dt348 14 3 := hF429 14 (by decide) 3
        have w437 : dt427 16 3 = dt348 16 3 := hF429 16 (by decide) 3
        have w438 : dt427 18 0 = dt348 18 0 := hF429 18 (by decide) 0
        have w439 : dt427 24 3 = dt348 24 3 := hF429 24 (by decide) 3
        have w440 : dt427 27 3 = dt348 27 3 := hF429 27 (by decide) 3
        have w441 : dt427 29 3 = dt348 29 3 := hF429 29 (by decide) 3
        have w442 : dt427 31 3 = dt348 31 3 := hF429 31 (by decide) 3
        have w443 : dt427 33 3 = dt348 33 3 := hF429 33 (by decide) 3
        have w444 : dt427 0 2 = dt348 0 2 := hF429 0 (by decide) 2
        have w445 : dt427 35 1 = dt348 35 1 := hF429 35 (by decide) 1
        have w446 : dt427 80 0 = dt348 80 0 := hF429 80 (by decide) 0
        have w447 : dt427 80 1 = dt348 80 1 := hF429 80 (by decide) 1
        have w448 : dt427 80 2 = dt348 80 2 := hF429 80 (by decide) 2
        have w449 : dt427 80 3 = dt348 80 3 := hF429 80 (by decide) 3
        have w450 : dt427 80 4 = dt348 80 4 := hF429 80 (by decide) 4
        have w451 : dt427 80 5 = dt348 80 5 := hF429 80 (by decide) 5
        rcases h426 with ⟨rfl, h426⟩
        have hM452 : MW (dt427 80) := h426.2.1
        obtain ⟨h426_0, h426_1, h426_2, h426_3, h426_4, h426_5⟩ := h426
        have y453 := h426_3 0 (by decide)
        have y454 := h426_3 1 (by decide)
        have y455 := h426_3 2 (by decide)
        have y456 := h426_3 3 (by decide)
        have y457 := h426_3 4 (by decide)
        have y458 := h426_3 5 (by decide)
        have y459 := h426_4 0 (by decide)
        have y460 := h426_4 1 (by decide)
        have y461 := h426_4 2 (by decide)
        have y462 := h426_4 3 (by decide)
        have y463 := h426_4 4 (by decide)
        have y464 := h426_4 5 (by decide)
        refine go_ifq PM267 (k := 0) (p1 := 1435) (p2 := 1410) (L' := [some (.inr (.inr (some 3000))), some (.inr (.inr (some 0))), some (.inr (.inr (some 79))), some (.inl i)]) (st' := []) (w' := (SH, dt427)) rfl (c_eq (a := v_h347) (b := 1) ⟨by omega, by omega⟩ ⟨by decide, by decide⟩) (fun c465 => ?_) (fun c465 => ?_)
        · skip
          exact K dt427 hI428 hM452 h426_2 (by first | omega | (simp only [*]; done) | simp only [*]) (by omega) (by omega) (by omega) (by omega) (by omega) (by omega) (by omega) (by omega) (by omega) (by omega) (by omega) (by omega) (by omega)
        · skip
          exfalso; omega
    · skip
      obtain ⟨h347_0, h347_1, h347_2, h347_3, h347_4, h347_5, h347_6, h347_7, h347_8, h347_9, h347_10, h347_11, h347_12, h347_13, h347_14, h347_15⟩ := h347
      have M2466 : MW (dt348 81) := MW_frk hM2 hF350 (by decide)
      refine go_toq PM267 (k := 5) (pc' := 1395) (L' := [some (.inr (.inr (some 3000))), some (.inr (.inr (some 0))), some (.inr (.inr (some 79))), some (.inl i)]) (st' := [.inl (i + 1), .inr (.inr (some 3000)), .inr (.inr (some 79)), .inl v_h347]) (w' := (SH, dt348)) rfl ?_
      have r467 := i32_R (xs ((i + 1).toNat))
      refine go_smpq PM267 (L' := [some (.inr (.inr (some 3000))), some (.inr (.inr (some 0))), some (.inr (.inr (some 79))), some (.inl i)]) (st' := [.inl ((xs ((i + 1).toNat)).toInt), .inr (.inr (some 79)), .inl v_h347]) (w' := (SH, dt348)) rfl rfl (s_iald (n := L) (f := fun j => (xs j).toInt) (am_scr hLL) ⟨by omega, by omega⟩) ?_
      refine go_ifq PM267 (k := 0) (p1 := 1403) (p2 := 1399) (L' := [some (.inr (.inr (some 3000))), some (.inr (.inr (some 0))), some (.inr (.inr (some 79))), some (.inl i)]) (st' := [.inr (.inr (some 79)), .inl v_h347]) (w' := (SH, dt348)) rfl (z_eq (a := (xs ((i + 1).toNat)).toInt) ⟨by omega, by omega⟩) (fun c468 => ?_) (fun c468 => ?_)
      · skip
        refine go_toq PM267 (k := 1) (pc' := 1404) (L' := [some (.inr (.inr (some 3000))), some (.inr (.inr (some 0))), some (.inr (.inr (some 79))), some (.inl i)]) (st' := [.inl 0, .inr (.inr (some 79)), .inl v_h347]) (w' := (SH, dt348)) rfl ?_
        refine go_callq PM267 PM247 (Q' := _) rfl rfl rfl rfl (sp_X6_image_0k L xs sio (d + 38) dt348 hI349 hM352   (by first | trivial | omega | exact M2466)) ?_
        rintro _ _ ⟨dt470, rfl, hI471, hF472, h469⟩
        refine ⟨rfl, ?_⟩
        have hF473 : Fr [0, 1, 2, 3, 4, 5, 6, 7, 8, 9, 10, 11, 12, 13, 14, 15, 16, 17, 18, 19, 20, 21, 22, 23, 24, 25, 26, 27, 28, 29, 30, 31, 32, 33, 34, 35, 36, 37, 38, 39, 40, 41, 42, 43, 44, 45, 46, 47, 48, 49, 50, 51, 52, 53, 54, 55, 56, 57, 58, 59, 60, 61, 62, 63, 64, 65, 66, 67, 68, 69, 70, 71, 72, 73, 74, 75, 76, 77, 78, 79, 80, 81, 82, 83, 84, 85, 86, 87, 88, 89, 90, 91, 92, 93, 94, 95, 96, 97, 98, 99, 100, 101, 102, 103, 104] dt dt470 := Fr_tr hF351 hF472 (by decide)
        have w474 : dt470 1 0 = dt348 1 0 := hF472 1 (by decide) 0
        have w475 : dt470 7 3 = dt348 7 3 := hF472 7 (by decide) 3
        have w476 : dt470 10 3 = dt348 10 3 := hF472 10 (by decide) 3
        have w477 : dt470 12 3 = dt348 12 3 := hF472 12 (by decide) 3
        have w478 : dt470 14 3 = dt348 14 3 := hF472 14 (by decide) 3
        have w479 : dt470 16 3 = dt348 16 3 := hF472 16 (by decide) 3
        have w480 : dt470 18 0 = dt348 18 0 := hF472 18 (by decide) 0
        have w481 : dt470 24 3 = dt348 24 3 := hF472 24 (by decide) 3
        have w482 : dt470 27 3 = dt348 27 3 := hF472 27 (by decide) 3
        have w483 : dt470 29 3 = dt348 29 3 := hF472 29 (by decide) 3
        have w484 : dt470 31 3 = dt348 31 3 := hF472 31 (by decide) 3
        have w485 : dt470 33 3 = dt348 33 3 := hF472 33 (by decide) 3
        have w486 : dt470 0 2 = dt348 0 2 := hF472 0 (by decide) 2
        have w487 : dt470 35 1 = dt348 35 1 := hF472 35 (by decide) 1
        have w488 : dt470 81 0 = dt348 81 0 := hF472 81 (by decide) 0
        have w489 : dt470 81 1 = dt348 81 1 := hF472 81 (by decide) 1
        have w490 : dt470 81 2 = dt348 81 2 := hF472 81 (by decide) 2
        have w491 : dt470 81 3 = dt348 81 3 := hF472 81 (by decide) 3
        have w492 : dt470 81 4 = dt348 81 4 := hF472 81 (by decide) 4
        have w493 : dt470 81 5 = dt348 81 5 := hF472 81 (by decide) 5
        rcases h469 with ⟨rfl, h469⟩ | ⟨rfl, h469⟩
        · skip
          have hM494 : MW (dt470 80) := h469.2.2.1
          obtain ⟨h469_0, h469_1, h469_2, h469_3, h469_4, h469_5, h469_6⟩ := h469
          have M2495 : MW (dt470 81) := MW_frk M2466 hF472 (by decide)
          have y496 := h469_4 0 (by decide)
          have y497 := h469_4 1 (by decide)
          have y498 := h469_4 2 (by decide)
          have y499 := h469_4 3 (by decide)
          have y500 := h469_4 4 (by decide)
          have y501 := h469_4 5 (by decide)
          have y502 := h469_5 0 (by decide)
          have y503 := h469_5 1 (by decide)
          have y504 := h469_5 2 (by decide)
          have y505 := h469_5 3 (by decide)
          have y506 := h469_5 4 (by decide)
          have y507 := h469_5 5 (by decide)
          refine go_ifq PM267 (k := 0) (p1 := 1435) (p2 := 1410) (L' := [some (.inr (.inr (some 3000))), some (.inr (.inr (some 0))), some (.inr (.inr (some 79))), some (.inl i)]) (st' := []) (w' := (SH, dt470)) rfl (c_eq (a := v_h347) (b := 0) ⟨by omega, by omega⟩ ⟨by decide, by decide⟩) (fun c508 => ?_) (fun c508 => ?_)
          · skip
            exact K dt470 hI471 hM494 M2495 (by first | omega | (simp only [*]; done) | simp only [*]) (by omega) (by omega) (by omega) (by omega) (by omega) (by omega) (by omega) (by omega) (by omega) (by omega) (by omega) (by omega) (by omega)
          · skip
            exfalso; omega
        · skip
          have hM509 : MW (dt470 80) := h469.2.2.1
          obtain ⟨h469_0, h469_1, h469_2, h469_3, h469_4, h469_5, h469_6⟩ := h469
          have M2510 : MW (dt470 81) := MW_frk M2466 hF472 (by decide)
          have y511 := h469_4 0 (by decide)
          have y512 := h469_4 1 (by decide)
          have y513 := h469_4 2 (by decide)
          have y514 := h469_4 3 (by decide)
          have y515 := h469_4 4 (by decide)
          have y516 := h469_4 5 (by decide)
          have y517 := h469_5 0 (by decide)
          have y518 := h469_5 1 (by decide)
          have y519 := h469_5 2 (by decide)
          have y520 := h469_5 3 (by decide)
          have y521 := h469_5 4 (by decide)
          have y522 := h469_5 5 (by decide)
          refine go_ifq PM267 (k := 0) (p1 := 1435) (p2 := 1410) (L' := [some (.inr (.inr (some 3000))), some (.inr (.inr (some 0))), some (.inr (.inr (some 79))), some (.inl i)]) (st' := []) (w' := (SH, dt470)) rfl (c_eq (a := v_h347) (b := 1) ⟨by omega, by omega⟩ ⟨by decide, by decide⟩) (fun c523 => ?_) (fun c523 => ?_)
          · skip
            exact K dt470 hI471 hM509 M2510 (by first | omega | (simp only [*]; done) | simp only [*]) (by omega) (by omega) (by omega) (by omega) (by omega) (by omega) (by omega) (by omega) (by omega) (by omega) (by omega) (by omega) (by omega)
          · skip
            exfalso; omega
      · skip
        refine go_toq PM267 (k := 2) (pc' := 1404) (L' := [some (.inr (.inr (some 3000))), some (.inr (.inr (some 0))), some (.inr (.inr (some 79))), some (.inl i)]) (st' := [.inl 1, .inr (.inr (some 79)), .inl v_h347]) (w' := (SH, dt348)) rfl ?_
        refine go_callq PM267 PM247 (Q' := _) rfl rfl rfl rfl (sp_X6_image_1k L xs sio (d + 38) dt348 hI349 hM352   ) ?_
        rintro _ _ ⟨dt525, rfl, hI526, hF527, h524⟩
        refine ⟨rfl, ?_⟩
        have hF528 : Fr [0, 1, 2, 3, 4, 5, 6, 7, 8, 9, 10, 11, 12, 13, 14, 15, 16, 17, 18, 19, 20, 21, 22, 23, 24, 25, 26, 27, 28, 29, 30, 31, 32, 33, 34, 35, 36, 37, 38, 39, 40, 41, 42, 43, 44, 45, 46, 47, 48, 49, 50, 51, 52, 53, 54, 55, 56, 57, 58, 59, 60, 61, 62, 63, 64, 65, 66, 67, 68, 69, 70, 71, 72, 73, 74, 75, 76, 77, 78, 79, 80, 81, 82, 83, 84, 85, 86, 87, 88, 89, 90, 91, 92, 93, 94, 95, 96, 97, 98, 99, 100, 101, 102, 103, 104] dt dt525 := Fr_tr hF351 hF527 (by decide)
        have hM529 : MW (dt525 80) := MW_fr hM352 hF527 (by decide)
        have w530 : dt525 1 0 = dt348 1 0 := hF527 1 (by decide) 0
        have w531 : dt525 7 3 = dt348 7 3 := hF527 7 (by decide) 3
        have w532 : dt525 10 3 = dt348 10 3 := hF527 10 (by decide) 3
        have w533 : dt525 12 3 = dt348 12 3 := hF527 12 (by decide) 3
        have w534 : dt525 14 3 = dt348 14 3 := hF527 14 (by decide) 3
        have w535 : dt525 16 3 = dt348 16 3 := hF527 16 (by decide) 3
        have w536 : dt525 18 0 = dt348 18 0 := hF527 18 (by decide) 0
        have w537 : dt525 24 3 = dt348 24 3 := hF527 24 (by decide) 3
        have w538 : dt525 27 3 = dt348 27 3 := hF527 27 (by decide) 3
        have w539 : dt525 29 3 = dt348 29 3 := hF527 29 (by decide) 3
        have w540 : dt525 31 3 = dt348 31 3 := hF527 31 (by decide) 3
        have w541 : dt525 33 3 = dt348 33 3 := hF527 33 (by decide) 3
        have w542 : dt525 0 2 = dt348 0 2 := hF527 0 (by decide) 2
        have w543 : dt525 35 1 = dt348 35 1 := hF527 35 (by decide) 1
        have w544 : dt525 80 0 = dt348 80 0 := hF527 80 (by decide) 0
        have w545 : dt525 80 1 = dt348 80 1 := hF527 80 (by decide) 1
        have w546 : dt525 80 2 = dt348 80 2 := hF527 80 (by decide) 2
        have w547 : dt525 80 3 = dt348 80 3 := hF527 80 (by decide) 3
        have w548 : dt525 80 4 = dt348 80 4 := hF527 80 (by decide) 4
        have w549 : dt525 80 5 = dt348 80 5 := hF527 80 (by decide) 5
        rcases h524 with ⟨rfl, h524⟩
        have hM550 : MW (dt525 80) := h524.2.1
        obtain ⟨h524_0, h524_1, h524_2, h524_3, h524_4, h524_5⟩ := h524
        have y551 := h524_3 0 (by decide)
        have y552 := h524_3 1 (by decide)
        have y553 := h524_3 2 (by decide)
        have y554 := h524_3 3 (by decide)
        have y555 := h524_3 4 (by decide)
        have y556 := h524_3 5 (by decide)
        have y557 := h524_4 0 (by decide)
        have y558 := h524_4 1 (by decide)
        have y559 := h524_4 2 (by decide)
        have y560 := h524_4 3 (by decide)
        have y561 := h524_4 4 (by decide)
        have y562 := h524_4 5 (by decide)
        refine go_ifq PM267 (k := 0) (p1 := 1435) (p2 := 1410) (L' := [some (.inr (.inr (some 3000))), some (.inr (.inr (some 0))), some (.inr (.inr (some 79))), some (.inl i)]) (st' := []) (w' := (SH, dt525)) rfl (c_eq (a := v_h347) (b := 1) ⟨by omega, by omega⟩ ⟨by decide, by decide⟩) (fun c563 => ?_) (fun c563 => ?_)
        · skip
          exact K dt525 hI526 hM550 h524_2 (by first | omega | (simp only [*]; done) | simp only [*]) (by omega) (by omega) (by omega) (by omega) (by omega) (by omega) (by omega) (by omega) (by omega) (by omega) (by omega) (by omega) (by omega)
        · skip
          exfalso; omega
    · skip
      obtain ⟨h347_0, h347_1, h347_2, h347_3, h347_4, h347_5, h347_6, h347_7, h347_8, h347_9, h347_10, h347_11, h347_12, h347_13, h347_14, h347_15⟩ := h347
      have M2564 : MW (dt348 81) := MW_frk hM2 hF350 (by decide)
      refine go_toq PM267 (k := 5) (pc' := 1395) (L' := [some (.inr (.inr (some 3000))), some (.inr (.inr (some 0))), some (.inr (.inr (some 79))), some (.inl i)]) (st' := [.inl (i + 1), .inr (.inr (some 3000)), .inr (.inr (some 79)), .inl v_h347]) (w' := (SH, dt348)) rfl ?_
      have r565 := i32_R (xs ((i + 1).toNat))
      refine go_smpq PM267 (L' := [some (.inr (.inr (some 3000))), some (.inr (.inr (some 0))), some (.inr (.inr (some 79))), some (.inl i)]) (st' := [.inl ((xs ((i + 1).toNat)).toInt), .inr (.inr (some 79)), .inl v_h347]) (w' := (SH, dt348)) rfl rfl (s_iald (n := L) (f := fun j => (xs j).toInt) (am_scr hLL) ⟨by omega, by omega⟩) ?_
      refine go_ifq PM267 (k := 0) (p1 := 1403) (p2 := 1399) (L' := [some (.inr (.inr (some 3000))), some (.inr (.inr (some 0))), some (.inr (.inr (some 79))), some (.inl i)]) (st' := [.inr (.inr (some 79)), .inl v_h347]) (w' := (SH, dt348)) rfl (z_eq (a := (xs ((i + 1).toNat)).toInt) ⟨by omega, by omega⟩) (fun c566 => ?_) (fun c566 => ?_)
      · skip
        refine go_toq PM267 (k := 1) (pc' := 1404) (L' := [some (.inr (.inr (some 3000))), some (.inr (.inr (some 0))), some (.inr (.inr (some 79))), some (.inl i)]) (st' := [.inl 0, .inr (.inr (some 79)), .inl v_h347]) (w' := (SH, dt348)) rfl ?_
        refine go_callq PM267 PM247 (Q' := _) rfl rfl rfl rfl (sp_X6_image_0k L xs sio (d + 38) dt348 hI349 hM352   (by first | trivial | omega | exact M2564)) ?_
        rintro _ _ ⟨dt568, rfl, hI569, hF570, h567⟩
        refine ⟨rfl, ?_⟩
        have hF571 : Fr [0, 1, 2, 3, 4, 5, 6, 7, 8, 9, 10, 11, 12, 13, 14, 15, 16, 17, 18, 19, 20, 21, 22, 23, 24, 25, 26, 27, 28, 29, 30, 31, 32, 33, 34, 35, 36, 37, 38, 39, 40, 41, 42, 43, 44, 45, 46, 47, 48, 49, 50, 51, 52, 53, 54, 55, 56, 57, 58, 59, 60, 61, 62, 63, 64, 65, 66, 67, 68, 69, 70, 71, 72, 73, 74, 75, 76, 77, 78, 79, 80, 81, 82, 83, 84, 85, 86, 87, 88, 89, 90, 91, 92, 93, 94, 95, 96, 97, 98, 99, 100, 101, 102, 103, 104] dt dt568 := Fr_tr hF351 hF570 (by decide)
        have w572 : dt568 1 0 = dt348 1 0 := hF570 1 (by decide) 0
        have w573 : dt568 7 3 = dt348 7 3 := hF570 7 (by decide) 3
        have w574 : dt568 10 3 = dt348 10 3 := hF570 10 (by decide) 3
        have w575 : dt568 12 3 = dt348 12 3 := hF570 12 (by decide) 3
        have w576 : dt568 14 3 = dt348 14 3 := hF570 14 (by decide) 3
        have w577 : dt568 16 3 = dt348 16 3 := hF570 16 (by decide) 3
        have w578 : dt568 18 0 = dt348 18 0 := hF570 18 (by decide) 0
        have w579 : dt568 24 3 = dt348 24 3 := hF570 24 (by decide) 3
        have w580 : dt568 27 3 = dt348 27 3 := hF570 27 (by decide) 3
        have w581 : dt568 29 3 = dt348 29 3 := hF570 29 (by decide) 3
        have w582 : dt568 31 3 = dt348 31 3 := hF570 31 (by decide) 3
        have w583 : dt568 33 3 = dt348 33 3 := hF570 33 (by decide) 3
        have w584 : dt568 0 2 = dt348 0 2 := hF570 0 (by decide) 2
        have w585 : dt568 35 1 = dt348 35 1 := hF570 35 (by decide) 1
        have w586 : dt568 81 0 = dt348 81 0 := hF570 81 (by decide) 0
        have w587 : dt568 81 1 = dt348 81 1 := hF570 81 (by decide) 1
        have w588 : dt568 81 2 = dt348 81 2 := hF570 81 (by decide) 2
        have w589 : dt568 81 3 = dt348 81 3 := hF570 81 (by decide) 3
        have w590 : dt568 81 4 = dt348 81 4 := hF570 81 (by decide) 4
        have w591 : dt568 81 5 = dt348 81 5 := hF570 81 (by decide) 5
        rcases h567 with ⟨rfl, h567⟩ | ⟨rfl, h567⟩
        · skip
          have hM592 : MW (dt568 80) := h567.2.2.1
          obtain ⟨h567_0, h567_1, h567_2, h567_3, h567_4, h567_5, h567_6⟩ := h567
          have M2593 : MW (dt568 81) := MW_frk M2564 hF570 (by decide)
          have y594 := h567_4 0 (by decide)
          have y595 := h567_4 1 (by decide)
          have y596 := h567_4 2 (by decide)
          have y597 := h567_4 3 (by decide)
          have y598 := h567_4 4 (by decide)
          have y599 := h567_4 5 (by decide)
          have y600 := h567_5 0 (by decide)
          have y601 := h567_5 1 (by decide)
          have y602 := h567_5 2 (by decide)
          have y603 := h567_5 3 (by decide)
          have y604 := h567_5 4 (by decide)
          have y605 := h567_5 5 (by decide)
          refine go_ifq PM267 (k := 0) (p1 := 1435) (p2 := 1410) (L' := [some (.inr (.inr (some 3000))), some (.inr (.inr (some 0))), some (.inr (.inr (some 79))), some (.inl i)]) (st' := []) (w' := (SH, dt568)) rfl (c_eq (a := v_h347) (b := 0) ⟨by omega, by omega⟩ ⟨by decide, by decide⟩) (fun c606 => ?_) (fun c606 => ?_)
          · skip
            exact K dt568 hI569 hM592 M2593 (by first | omega | (simp only [*]; done) | simp only [*]) (by omega) (by omega) (by omega) (by omega) (by omega) (by omega) (by omega) (by omega) (by omega) (by omega) (by omega) (by omega) (by omega)
          · skip
            exfalso; omega
        · skip
          have hM607 : MW (dt568 80) := h567.2.2.1
          obtain ⟨h567_0, h567_1, h567_2, h567_3, h567_4, h567_5, h567_6⟩ := h567
          have M2608 : MW (dt568 81) := MW_frk M2564 hF570 (by decide)
          have y609 := h567_4 0 (by decide)
          have y610 := h567_4 1 (by decide)
          have y611 := h567_4 2 (by decide)
          have y612 := h567_4 3 (by decide)
          have y613 := h567_4 4 (by decide)
          have y614 := h567_4 5 (by decide)
          have y615 := h567_5 0 (by decide)
          have y616 := h567_5 1 (by decide)
          have y617 := h567_5 2 (by decide)
          have y618 := h567_5 3 (by decide)
          have y619 := h567_5 4 (by decide)
          have y620 := h567_5 5 (by decide)
          refine go_ifq PM267 (k := 0) (p1 := 1435) (p2 := 1410) (L' := [some (.inr (.inr (some 3000))), some (.inr (.inr (some 0))), some (.inr (.inr (some 79))), some (.inl i)]) (st' := []) (w' := (SH, dt568)) rfl (c_eq (a := v_h347) (b := 1) ⟨by omega, by omega⟩ ⟨by decide, by decide⟩) (fun c621 => ?_) (fun c621 => ?_)
          · skip
            exact K dt568 hI569 hM607 M2608 (by first | omega | (simp only [*]; done) | simp only [*]) (by omega) (by omega) (by omega) (by omega) (by omega) (by omega) (by omega) (by omega) (by omega) (by omega) (by omega) (by omega) (by omega)
          · skip
            exfalso; omega
      · skip
        refine go_toq PM267 (k := 2) (pc' := 1404) (L' := [some (.inr (.inr (some 3000))), some (.inr (.inr (some 0))), some (.inr (.inr (some 79))), some (.inl i)]) (st' := [.inl 1, .inr (.inr (some 79)), .inl v_h347]) (w' := (SH, dt348)) rfl ?_
        refine go_callq PM267 PM247 (Q' := _) rfl rfl rfl rfl (sp_X6_image_1k L xs sio (d + 38) dt348 hI349 hM352   ) ?_
        rintro _ _ ⟨dt623, rfl, hI624, hF625, h622⟩
        refine ⟨rfl, ?_⟩
        have hF626 : Fr [0, 1, 2, 3, 4, 5, 6, 7, 8, 9, 10, 11, 12, 13, 14, 15, 16, 17, 18, 19, 20, 21, 22, 23, 24, 25, 26, 27, 28, 29, 30, 31, 32, 33, 34, 35, 36, 37, 38, 39, 40, 41, 42, 43, 44, 45, 46, 47, 48, 49, 50, 51, 52, 53, 54, 55, 56, 57, 58, 59, 60, 61, 62, 63, 64, 65, 66, 67, 68, 69, 70, 71, 72, 73, 74, 75, 76, 77, 78, 79, 80, 81, 82, 83, 84, 85, 86, 87, 88, 89, 90, 91, 92, 93, 94, 95, 96, 97, 98, 99, 100, 101, 102, 103, 104] dt dt623 := Fr_tr hF351 hF625 (by decide)
        have hM627 : MW (dt623 80) := MW_fr hM352 hF625 (by decide)
        have w628 : dt623 1 0 = dt348 1 0 := hF625 1 (by decide) 0
        have w629 : dt623 7 3 = dt348 7 3 := hF625 7 (by decide) 3
        have w630 : dt623 10 3 = dt348 10 3 := hF625 10 (by decide) 3
        have w631 : dt623 12 3 = dt348 12 3 := hF625 12 (by decide) 3
        have w632 : dt623 14 3 = dt348 14 3 := hF625 14 (by decide) 3
        have w633 : dt623 16 3 = dt348 16 3 := hF625 16 (by decide) 3
        have w634 : dt623 18 0 = dt348 18 0 := hF625 18 (by decide) 0
        have w635 : dt623 24 3 = dt348 24 3 := hF625 24 (by decide) 3
        have w636 : dt623 27 3 = dt348 27 3 := hF625 27 (by decide) 3
        have w637 : dt623 29 3 = dt348 29 3 := hF625 29 (by decide) 3
        have w638 : dt623 31 3 = dt348 31 3 := hF625 31 (by decide) 3
        have w639 : dt623 33 3 = dt348 33 3 := hF625 33 (by decide) 3
        have w640 : dt623 0 2 = dt348 0 2 := hF625 0 (by decide) 2
        have w641 : dt623 35 1 = dt348 35 1 := hF625 35 (by decide) 1
        have w642 : dt623 80 0 = dt348 80 0 := hF625 80 (by decide) 0
        have w643 : dt623 80 1 = dt348 80 1 := hF625 80 (by decide) 1
        have w644 : dt623 80 2 = dt348 80 2 := hF625 80 (by decide) 2
        have w645 : dt623 80 3 = dt348 80 3 := hF625 80 (by decide) 3
        have w646 : dt623 80 4 = dt348 80 4 := hF625 80 (by decide) 4
        have w647 : dt623 80 5 = dt348 80 5 := hF625 80 (by decide) 5
        rcases h622 with ⟨rfl, h622⟩
        have hM648 : MW (dt623 80) := h622.2.1
        obtain ⟨h622_0, h622_1, h622_2, h622_3, h622_4, h622_5⟩ := h622
        have y649 := h622_3 0 (by decide)
        have y650 := h622_3 1 (by decide)
        have y651 := h622_3 2 (by decide)
        have y652 := h622_3 3 (by decide)
        have y653 := h622_3 4 (by decide)
        have y654 := h622_3 5 (by decide)
        have y655 := h622_4 0 (by decide)
        have y656 := h622_4 1 (by decide)
        have y657 := h622_4 2 (by decide)
        have y658 := h622_4 3 (by decide)
        have y659 := h622_4 4 (by decide)
        have y660 := h622_4 5 (by decide)
        refine go_ifq PM267 (k := 0) (p1 := 1435) (p2 := 1410) (L' := [some (.inr (.inr (some 3000))), some (.inr (.inr (some 0))), some (.inr (.inr (some 79))), some (.inl i)]) (st' := []) (w' := (SH, dt623)) rfl (c_eq (a := v_h347) (b := 1) ⟨by omega, by omega⟩ ⟨by decide, by decide⟩) (fun c661 => ?_) (fun c661 => ?_)
        · skip
          exact K dt623 hI624 hM648 h622_2 (by first | omega | (simp only [*]; done) | simp only [*]) (by omega) (by omega) (by omega) (by omega) (by omega) (by omega) (by omega) (by omega) (by omega) (by omega) (by omega) (by omega) (by omega)
        · skip
          exfalso; omega
set_option maxRecDepth 20000 in
set_option maxHeartbeats 8000000 in
theorem sp_case32 (L : Nat) (xs : Nat → Int32) (sio : Option Nat) (d : Nat) (Q : Option AV → am_W → Prop) (hLL : L ≤ 3072) (i : Int) (hi : 0 ≤ i ∧ i ≤ 3066) (hil : i ≤ (L : Int) - 6) (dt : Nat → Nat → Int) (hI : InvC dt) (hM : MW (dt 80)) (hM2 : MW (dt 81)) (hk0 : dt 1 0 = dt 80 0) (hk1 : dt 7 3 = dt 80 1) (hk2 : dt 10 3 = dt 80 2) (hk3 : dt 12 3 = dt 80 3) (hk4 : dt 14 3 = dt 80 4) (hk5 : dt 16 3 = dt 80 5) (hk6 : dt 18 0 = dt 81 0) (hk7 : dt 24 3 = dt 81 1) (hk8 : dt 27 3 = dt 81 2) (hk9 : dt 29 3 = dt 81 3) (hk10 : dt 31 3 = dt 81 4) (hk11 : dt 33 3 = dt 81 5) (hk12 : dt 0 2 = dt 79 2) (hk13 : dt 35 1 = dt 79 12) (K : ∀ (dt : Nat → Nat → Int) (hI : InvC dt) (hM : MW (dt 80)) (hM2 : MW (dt 81)) (hk0 : dt 1 0 = dt 80 0) (hk1 : dt 7 3 = dt 80 1) (hk2 : dt 10 3 = dt 80 2) (hk3 : dt 12 3 = dt 80 3) (hk4 : dt 14 3 = dt 80 4) (hk5 : dt 16 3 = dt 80 5) (hk6 : dt 18 0 = dt 81 0) (hk7 : dt 24 3 = dt 81 1) (hk8 : dt 27 3 = dt 81 2) (hk9 : dt 29 3 = dt 81 3) (hk10 : dt 31 3 = dt 81 4) (hk11 : dt 33 3 = dt 81 5) (hk12 : dt 0 2 = dt 79 2) (hk13 : dt 35 1 = dt 79 12), GO (am_XX L xs sio) (d + 39) 267 1435 [some (.inr (.inr (some 3000))), some (.inr (.inr (some 0))), some (.inr (.inr (some 79))), some (.inl i)] [] (SH, dt) Q) : GO (am_XX L xs sio) (d + 39) 267 1412 [some (.inr (.inr (some 3000))), some (.inr (.inr (some 0))), some (.inr (.inr (some 79))), some (.inl i)] [] (SH, dt) Q := by
  have hF : Fr [0, 1, 2, 3, 4, 5, 6, 7, 8, 9, 10, 11, 12, 13, 14, 15, 16, 17, 18, 19, 20, 21, 22, 23, 24, 25, 26, 27, 28, 29, 30, 31, 32, 33, 34, 35, 36, 37, 38, 39, 40, 41, 42, 43, 44, 45, 46, 47, 48, 49, 50, 51, 52, 53, 54, 55, 56, 57, 58, 59, 60, 61, 62, 63, 64, 65, 66, 67, 68, 69, 70, 71, 72, 73, 74, 75, 76, 77, 78, 79, 80, 81, 82, 83, 84, 85, 86, 87, 88, 89, 90, 91, 92, 93, 94, 95, 96, 97, 98, 99, 100, 101, 102, 103, 104] dt dt := Fr_refl
  refine go_toq PM267 (k := 5) (pc' := 1417) (L' := [some (.inr (.inr (some 3000))), some (.inr (.inr (some 0))), some (.inr (.inr (some 79))), some (.inl i)]) (st' := [.inl (i + 1), .inr (.inr (some 3000)), .inr (.inr (some 0))]) (w' := (SH, dt)) rfl ?_
  have r1 := i32_R (xs ((i + 1).toNat))
  refine go_smpq PM267 (L' := [some (.inr (.inr (some 3000))), some (.inr (.inr (some 0))), some (.inr (.inr (some 79))), some (.inl i)]) (st' := [.inl ((xs ((i + 1).toNat)).toInt), .inr (.inr (some 0))]) (w' := (SH, dt)) rfl rfl (s_iald (n := L) (f := fun j => (xs j).toInt) (am_scr hLL) ⟨by omega, by omega⟩) ?_
  refine go_callq PM267 PM99 (Q' := _) rfl rfl rfl rfl (sp_X5_look L xs sio (d + 38) dt hI  ((xs ((i + 1).toNat)).toInt) ⟨by omega, by omega⟩ ) ?_
  rintro _ _ ⟨rfl, h2⟩
  refine ⟨rfl, ?_⟩
  rcases h2 with ⟨rfl, h2⟩ | ⟨rfl, h2⟩ | ⟨rfl, h2⟩ | ⟨rfl, h2⟩ | ⟨rfl, h2⟩ | ⟨rfl, h2⟩ | ⟨rfl, h2⟩ | ⟨rfl, h2⟩ | ⟨rfl, h2⟩
  · skip
    refine go_toq PM267 (k := 6) (pc' := 1427) (L' := [some (.inr (.inr (some 3000))), some (.inr (.inr (some 0))), some (.inr (.inr (some 79))), some (.inl i)]) (st' := [.inl (i + 1), .inr (.inr (some 3000)), .inr (.inr (some 79))]) (w' := (SH, dt)) rfl ?_
    refine go_smpq PM267 (L' := [some (.inr (.inr (some 3000))), some (.inr (.inr (some 0))), some (.inr (.inr (some 79))), some (.inl i)]) (st' := [.inl ((xs ((i + 1).toNat)).toInt), .inr (.inr (some 79))]) (w' := (SH, dt)) rfl rfl (s_iald (n := L) (f := fun j => (xs j).toInt) (am_scr hLL) ⟨by omega, by omega⟩) ?_
    refine go_callq PM267 PM248 (Q' := _) rfl rfl rfl rfl (sp_X6_look L xs sio (d + 38) dt hI  ((xs ((i + 1).toNat)).toInt) ⟨by omega, by omega⟩ ) ?_
    rintro _ _ ⟨rfl, h3⟩
    refine ⟨rfl, ?_⟩
    rcases h3 with ⟨rfl, h3⟩ | ⟨rfl, h3⟩ | ⟨rfl, h3⟩ | ⟨rfl, h3⟩ | ⟨rfl, h3⟩ | ⟨rfl, h3⟩ | ⟨rfl, h3⟩ | ⟨rfl, h3⟩ | ⟨rfl, h3⟩
    · skip
      refine go_toq PM267 (k := 2) (pc' := 1435) (L' := [some (.inr (.inr (some 3000))), some (.inr (.inr (some 0))), some (.inr (.inr (some 79))), some (.inl i)]) (st' := []) (w' := (SH, dt)) rfl ?_
      exact K dt hI hM hM2 (by first | omega | (simp only [*]; done) | simp only [*]) (by omega) (by omega) (by omega) (by omega) (by omega) (by omega) (by omega) (by omega) (by omega) (by omega) (by omega) (by omega) (by omega)
    · skip
      refine go_toq PM267 (k := 2) (pc' := 1435) (L' := [some (.inr (.inr (some 3000))), some (.inr (.inr (some 0))), some (.inr (.inr (some 79))), some (.inl i)]) (st' := []) (w' := (SH, dt)) rfl ?_
      exact K dt hI hM hM2 (by first | omega | (simp only [*]; done) | simp only [*]) (by omega) (by omega) (by omega) (by omega) (by omega) (by omega) (by omega) (by omega) (by omega) (by omega) (by omega) (by omega) (by omega)
    · skip
      refine go_toq PM267 (k := 2) (pc' := 1435) (L' := [some (.inr (.inr (some 3000))), some (.inr (.inr (some 0))), some (.inr (.inr (some 79))), some (.inl i)]) (st' := []) (w' := (SH, dt)) rfl ?_
      exact K dt hI hM hM2 (by first | omega | (simp only [*]; done) | simp only [*]) (by omega) (by omega) (by omega) (by omega) (by omega) (by omega) (by omega) (by omega) (by omega) (by omega) (by omega) (by omega) (by omega)
    · skip
      refine go_toq PM267 (k := 2) (pc' := 1435) (L' := [some (.inr (.inr (some 3000))), some (.inr (.inr (some 0))), some (.inr (.inr (some 79))), some (.inl i)]) (st' := []) (w' := (SH, dt)) rfl ?_
      exact K dt hI hM hM2 (by first | omega | (simp only [*]; done) | simp only [*]) (by omega) (by omega) (by omega) (by omega) (by omega) (by omega) (by omega) (by omega) (by omega) (by omega) (by omega) (by omega) (by omega)
    · skip
      refine go_toq PM267 (k := 2) (pc' := 1435) (L' := [some (.inr (.inr (some 3000))), some (.inr (.inr (some 0))), some (.inr (.inr (some 79))), some (.inl i)]) (st' := []) (w' := (SH, dt)) rfl ?_
      exact K dt hI hM hM2 (by first | omega | (simp only [*]; done) | simp only [*]) (by omega) (by omega) (by omega) (by omega) (by omega) (by omega) (by omega) (by omega) (by omega) (by omega) (by omega) (by omega) (by omega)
    · skip
      refine go_toq PM267 (k := 2) (pc' := 1435) (L' := [some (.inr (.inr (some 3000))), some (.inr (.inr (some 0))), some (.inr (.inr (some 79))), some (.inl i)]) (st' := []) (w' := (SH, dt)) rfl ?_
      exact K dt hI hM hM2 (by first | omega | (simp only [*]; done) | simp only [*]) (by omega) (by omega) (by omega) (by omega) (by omega) (by omega) (by omega) (by omega) (by omega) (by omega) (by omega) (by omega) (by omega)
    · skip
      obtain ⟨h3_0, h3_1⟩ := h3
      refine go_toq PM267 (k := 2) (pc' := 1435) (L' := [some (.inr (.inr (some 3000))), some (.inr (.inr (some 0))), some (.inr (.inr (some 79))), some (.inl i)]) (st' := []) (w' := (SH, dt)) rfl ?_
      exact K dt hI hM hM2 (by first | omega | (simp only [*]; done) | simp only [*]) (by omega) (by omega) (by omega) (by omega) (by omega) (by omega) (by omega) (by omega) (by omega) (by omega) (by omega) (by omega) (by omega)
    · skip
      obtain ⟨h3_0, h3_1⟩ := h3
      refine go_toq PM267 (k := 2) (pc' := 1435) (L' := [some (.inr (.inr (some 3000))), some (.inr (.inr (some 0))), some (.inr (.inr (some 79))), some (.inl i)]) (st' := []) (w' := (SH, dt)) rfl ?_
      exact K dt hI hM hM2 (by first | omega | (simp only [*]; done) | simp only [*]) (by omega) (by omega) (by omega) (by omega) (by omega) (by omega) (by omega) (by omega) (by omega) (by omega) (by omega) (by omega) (by omega)
    · skip
      refine go_toq PM267 (k := 2) (pc' := 1435) (L' := [some (.inr (.inr (some 3000))), some (.inr (.inr (some 0))), some (.inr (.inr (some 79))), some (.inl i)]) (st' := []) (w' := (SH, dt)) rfl ?_
      exact K dt hI hM hM2 (by first | omega | (simp only [*]; done) | simp only [*]) (by omega) (by omega) (by omega) (by omega) (by omega) (by omega) (by omega) (by omega) (by omega) (by omega) (by omega) (by omega) (by omega)
  · skip
    refine go_toq PM267 (k := 6) (pc' := 1427) (L' := [some (.inr (.inr (some 3000))), some (.inr (.inr (some 0))), some (.inr (.inr (some 79))), some (.inl i)]) (st' := [.inl (i + 1), .inr (.inr (some 3000)), .inr (.inr (some 79))]) (w' := (SH, dt)) rfl ?_
    refine go_smpq PM267 (L' := [some (.inr (.inr (some 3000))), some (.inr (.inr (some 0))), some (.inr (.inr (some 79))), some (.inl i)]) (st' := [.inl ((xs ((i + 1).toNat)).toInt), .inr (.inr (some 79))]) (w' := (SH, dt)) rfl rfl (s_iald (n := L) (f := fun j => (xs j).toInt) (am_scr hLL) ⟨by omega, by omega⟩) ?_
    refine go_callq PM267 PM248 (Q' := _) rfl rfl rfl rfl (sp_X6_look L xs sio (d + 38) dt hI  ((xs ((i + 1).toNat)).toInt) ⟨by omega, by omega⟩ ) ?_
    rintro _ _ ⟨rfl, h4⟩
    refine ⟨rfl, ?_⟩
    rcases h4 with ⟨rfl, h4⟩ | ⟨rfl, h4⟩ | ⟨rfl, h4⟩ | ⟨rfl, h4⟩ | ⟨rfl, h4⟩ | ⟨rfl, h4⟩ | ⟨rfl, h4⟩ | ⟨rfl, h4⟩ | ⟨rfl, h4⟩
    · skip
      refine go_toq PM267 (k := 2) (pc' := 1435) (L' := [some (.inr (.inr (some 3000))), some (.inr (.inr (some 0))), some (.inr (.inr (some 79))), some (.inl i)]) (st' := []) (w' := (SH, dt)) rfl ?_
      exact K dt hI hM hM2 (by first | omega | (simp only [*]; done) | simp only [*]) (by omega) (by omega) (by omega) (by omega) (by omega) (by omega) (by omega) (by omega) (by omega) (by omega) (by omega) (by omega) (by omega)
    · skip
      refine go_toq PM267 (k := 2) (pc' := 1435) (L' := [some (.inr (.inr (some 3000))), some (.inr (.inr (some 0))), some (.inr (.inr (some 79))), some (.inl i)]) (st' := []) (w' := (SH, dt)) rfl ?_
      exact K dt hI hM hM2 (by first | omega | (simp only [*]; done) | simp only [*]) (by omega) (by omega) (by omega) (by omega) (by omega) (by omega) (by omega) (by omega) (by omega) (by omega) (by omega) (by omega) (by omega)
    · skip
      refine go_toq PM267 (k := 2) (pc' := 1435) (L' := [some (.inr (.inr (some 3000))), some (.inr (.inr (some 0))), some (.inr (.inr (some 79))), some (.inl i)]) (st' := []) (w' := (SH, dt)) rfl ?_
      exact K dt hI hM hM2 (by first | omega | (simp only [*]; done) | simp only [*]) (by omega) (by omega) (by omega) (by omega) (by omega) (by omega) (by omega) (by omega) (by omega) (by omega) (by omega) (by omega) (by omega)
    · skip
      refine go_toq PM267 (k := 2) (pc' := 1435) (L' := [some (.inr (.inr (some 3000))), some (.inr (.inr (some 0))), some (.inr (.inr (some 79))), some (.inl i)]) (st' := []) (w' := (SH, dt)) rfl ?_
      exact K dt hI hM hM2 (by first | omega | (simp only [*]; done) | simp only [*]) (by omega) (by omega) (by omega) (by omega) (by omega) (by omega) (by omega) (by omega) (by omega) (by omega) (by omega) (by omega) (by omega)
    · skip
      refine go_toq PM267 (k := 2) (pc' := 1435) (L' := [some (.inr (.inr (some 3000))), some (.inr (.inr (some 0))), some (.inr (.inr (some 79))), some (.inl i)]) (st' := []) (w' := (SH, dt)) rfl ?_
      exact K dt hI hM hM2 (by first | omega | (simp only [*]; done) | simp only [*]) (by omega) (by omega) (by omega) (by omega) (by omega) (by omega) (by omega) (by omega) (by omega) (by omega) (by omega) (by omega) (by omega)
    · skip
      refine go_toq PM267 (k := 2) (pc' := 1435) (L' := [some (.inr (.inr (some 3000))), some (.inr (.inr (some 0))), some (.inr (.inr (some 79))), some (.inl i)]) (st' := []) (w' := (SH, dt)) rfl ?_
      exact K dt hI hM hM2 (by first | omega | (simp only [*]; done) | simp only [*]) (by omega) (by omega) (by omega) (by omega) (by omega) (by omega) (by omega) (by omega) (by omega) (by omega) (by omega) (by omega) (by omega)
    · skip
      obtain ⟨h4_0, h4_1⟩ := h4
      refine go_toq PM267 (k := 2) (pc' := 1435) (L' := [some (.inr (.inr (some 3000))), some (.inr (.inr (some 0))), some (.inr (.inr (some 79))), some (.inl i)]) (st' := []) (w' := (SH, dt)) rfl ?_
      exact K dt hI hM hM2 (by first | omega | (simp only [*]; done) | simp only [*]) (by omega) (by omega) (by omega) (by omega) (by omega) (by omega) (by omega) (by omega) (by omega) (by omega) (by omega) (by omega) (by omega)
    · skip
      obtain ⟨h4_0, h4_1⟩ := h4
      refine go_toq PM267 (k := 2) (pc' := 1435) (L' := [some (.inr (.inr (some 3000))), some (.inr (.inr (some 0))), some (.inr (.inr (some 79))), some (.inl i)]) (st' := []) (w' := (SH, dt)) rfl ?_
      exact K dt hI hM hM2 (by first | omega | (simp only [*]; done) | simp only [*]) (by omega) (by omega) (by omega) (by omega) (by omega) (by omega) (by omega) (by omega) (by omega) (by omega) (by omega) (by omega) (by omega)
    · skip
      refine go_toq PM267 (k := 2) (pc' := 1435) (L' := [some (.inr (.inr (some 3000))), some (.inr (.inr (some 0))), some (.inr (.inr (some 79))), some (.inl i)]) (st' := []) (w' := (SH, dt)) rfl ?_
      exact K dt hI hM hM2 (by first | omega | (simp only [*]; done) | simp only [*]) (by omega) (by omega) (by omega) (by omega) (by omega) (by omega) (by omega) (by omega) (by omega) (by omega) (by omega) (by omega) (by omega)
  · skip
    refine go_toq PM267 (k := 6) (pc' := 1427) (L' := [some (.inr (.inr (some 3000))), some (.inr (.inr (some 0))), some (.inr (.inr (some 79))), some (.inl i)]) (st' := [.inl (i + 1), .inr (.inr (some 3000)), .inr (.inr (some 79))]) (w' := (SH, dt)) rfl ?_
    refine go_smpq PM267 (L' := [some (.inr (.inr (some 3000))), some (.inr (.inr (some 0))), some (.inr (.inr (some 79))), some (.inl i)]) (st' := [.inl ((xs ((i + 1).toNat)).toInt), .inr (.inr (some 79))]) (w' := (SH, dt)) rfl rfl (s_iald (n := L) (f := fun j => (xs j).toInt) (am_scr hLL) ⟨by omega, by omega⟩) ?_
    refine go_callq PM267 PM248 (Q' := _) rfl rfl rfl rfl (sp_X6_look L xs sio (d + 38) dt hI  ((xs ((i + 1).toNat)).toInt) ⟨by omega, by omega⟩ ) ?_
    rintro _ _ ⟨rfl, h5⟩
    refine ⟨rfl, ?_⟩
    rcases h5 with ⟨rfl, h5⟩ | ⟨rfl, h5⟩ | ⟨rfl, h5⟩ | ⟨rfl, h5⟩ | ⟨rfl, h5⟩ | ⟨rfl, h5⟩ | ⟨rfl, h5⟩ | ⟨rfl, h5⟩ | ⟨rfl, h5⟩
    · skip
      refine go_toq PM267 (k := 2) (pc' := 1435) (L' := [some (.inr (.inr (some 3000))), some (.inr (.inr (some 0))), some (.inr (.inr (some 79))), some (.inl i)]) (st' := []) (w' := (SH, dt)) rfl ?_
      exact K dt hI hM hM2 (by first | omega | (simp only [*]; done) | simp only [*]) (by omega) (by omega) (by omega) (by omega) (by omega) (by omega) (by omega) (by omega) (by omega) (by omega) (by omega) (by omega) (by omega)
    · skip
      refine go_toq PM267 (k := 2) (pc' := 1435) (L' := [some (.inr (.inr (some 3000))), some (.inr (.inr (some 0))), some (.inr (.inr (some 79))), some (.inl i)]) (st' := []) (w' := (SH, dt)) rfl ?_
      exact K dt hI hM hM2 (by first | omega | (simp only [*]; done) | simp only [*]) (by omega) (by omega) (by omega) (by omega) (by omega) (by omega) (by omega) (by omega) (by omega) (by omega) (by omega) (by omega) (by omega)
    · skip
      refine go_toq PM267 (k := 2) (pc' := 1435) (L' := [some (.inr (.inr (some 3000))), some (.inr (.inr (some 0))), some (.inr (.inr (some 79))), some (.inl i)]) (st' := []) (w' := (SH, dt)) rfl ?_
      exact K dt hI hM hM2 (by first | omega | (simp only [*]; done) | simp only [*]) (by omega) (by omega) (by omega) (by omega) (by omega) (by omega) (by omega) (by omega) (by omega) (by omega) (by omega) (by omega) (by omega)
    · skip
      refine go_toq PM267 (k := 2) (pc' := 1435) (L' := [some (.inr (.inr (some 3000))), some (.inr (.inr (some 0))), some (.inr (.inr (some 79))), some (.inl i)]) (st' := []) (w' := (SH, dt)) rfl ?_
      exact K dt hI hM hM2 (by first | omega | (simp only [*]; done) | simp only [*]) (by omega) (by omega) (by omega) (by omega) (by omega) (by omega) (by omega) (by omega) (by omega) (by omega) (by omega) (by omega) (by omega)
    · skip
      refine go_toq PM267 (k := 2) (pc' := 1435) (L' := [some (.inr (.inr (some 3000))), some (.inr (.inr (some 0))), some (.inr (.inr (some 79))), some (.inl i)]) (st' := []) (w' := (SH, dt)) rfl ?_
      exact K dt hI hM hM2 (by first | omega | (simp only [*]; done) | simp only [*]) (by omega) (by omega) (by omega) (by omega) (by omega) (by omega) (by omega) (by omega) (by omega) (by omega) (by omega) (by omega) (by omega)
    · skip
      refine go_toq PM267 (k := 2) (pc' := 1435) (L' := [some (.inr (.inr (some 3000))), some (.inr (.inr (some 0))), some (.inr (.inr (some 79))), some (.inl i)]) (st' := []) (w' := (SH, dt)) rfl ?_
      exact K dt hI hM hM2 (by first | omega | (simp only [*]; done) | simp only [*]) (by omega) (by omega) (by omega) (by omega) (by omega) (by omega) (by omega) (by omega) (by omega) (by omega) (by omega) (by omega) (by omega)
    · skip
      obtain ⟨h5_0, h5_1⟩ := h5
      refine go_toq PM267 (k := 2) (pc' := 1435) (L' := [some (.inr (.inr (some 3000))), some (.inr (.inr (some 0))), some (.inr (.inr (some 79))), some (.inl i)]) (st' := []) (w' := (SH, dt)) rfl ?_
      exact K dt hI hM hM2 (by first | omega | (simp only [*]; done) | simp only [*]) (by omega) (by omega) (by omega) (by omega) (by omega) (by omega) (by omega) (by omega) (by omega) (by omega) (by omega) (by omega) (by omega)
    · skip
      obtain ⟨h5_0, h5_1⟩ := h5
      refine go_toq PM267 (k := 2) (pc' := 1435) (L' := [some (.inr (.inr (some 3000))), some (.inr (.inr (some 0))), some (.inr (.inr (some 79))), some (.inl i)]) (st' := []) (w' := (SH, dt)) rfl ?_
      exact K dt hI hM hM2 (by first | omega | (simp only [*]; done) | simp only [*]) (by omega) (by omega) (by omega) (by omega) (by omega) (by omega) (by omega) (by omega) (by omega) (by omega) (by omega) (by omega) (by omega)
    · skip
      refine go_toq PM267 (k := 2) (pc' := 1435) (L' := [some (.inr (.inr (some 3000))), some (.inr (.inr (some 0))), some (.inr (.inr (some 79))), some (.inl i)]) (st' := []) (w' := (SH, dt)) rfl ?_
      exact K dt hI hM hM2 (by first | omega | (simp only [*]; done) | simp only [*]) (by omega) (by omega) (by omega) (by omega) (by omega) (by omega) (by omega) (by omega) (by omega) (by omega) (by omega) (by omega) (by omega)
  · skip
    refine go_toq PM267 (k := 6) (pc' := 1427) (L' := [some (.inr (.inr (some 3000))), some (.inr (.inr (some 0))), some (.inr (.inr (some 79))), some (.inl i)]) (st' := [.inl (i + 1), .inr (.inr (some 3000)), .inr (.inr (some 79))]) (w' := (SH, dt)) rfl ?_
    refine go_smpq PM267 (L' := [some (.inr (.inr (some 3000))), some (.inr (.inr (some 0))), some (.inr (.inr (some 79))), some (.inl i)]) (st' := [.inl ((xs ((i + 1).toNat)).toInt), .inr (.inr (some 79))]) (w' := (SH, dt)) rfl rfl (s_iald (n := L) (f := fun j => (xs j).toInt) (am_scr hLL) ⟨by omega, by omega⟩) ?_
    refine go_callq PM267 PM248 (Q' := _) rfl rfl rfl rfl (sp_X6_look L xs sio (d + 38) dt hI  ((xs ((i + 1).toNat)).toInt) ⟨by omega, by omega⟩ ) ?_
    rintro _ _ ⟨rfl, h6⟩
    refine ⟨rfl, ?_⟩
    rcases h6 with ⟨rfl, h6⟩ | ⟨rfl, h6⟩ | ⟨rfl, h6⟩ | ⟨rfl, h6⟩ | ⟨rfl, h6⟩ | ⟨rfl, h6⟩ | ⟨rfl, h6⟩ | ⟨rfl, h6⟩ | ⟨rfl, h6⟩
    · skip
      refine go_toq PM267 (k := 2) (pc' := 1435) (L' := [some (.inr (.inr (some 3000))), some (.inr (.inr (some 0))), some (.inr (.inr (some 79))), some (.inl i)]) (st' := []) (w' := (SH, dt)) rfl ?_
      exact K dt hI hM hM2 (by first | omega | (simp only [*]; done) | simp only [*]) (by omega) (by omega) (by omega) (by omega) (by omega) (by omega) (by omega) (by omega) (by omega) (by omega) (by omega) (by omega) (by omega)
    · skip
      refine go_toq PM267 (k := 2) (pc' := 1435) (L' := [some (.inr (.inr (some 3000))), some (.inr (.inr (some 0))), some (.inr (.inr (some 79))), some (.inl i)]) (st' := []) (w' := (SH, dt)) rfl ?_
      exact K dt hI hM hM2 (by first | omega | (simp only [*]; done) | simp only [*]) (by omega) (by omega) (by omega) (by omega) (by omega) (by omega) (by omega) (by omega) (by omega) (by omega) (by omega) (by omega) (by omega)
    · skip
      refine go_toq PM267 (k := 2) (pc' := 1435) (L' := [some (.inr (.inr (some 3000))), some (.inr (.inr (some 0))), some (.inr (.inr (some 79))), some (.inl i)]) (st' := []) (w' := (SH, dt)) rfl ?_
      exact K dt hI hM hM2 (by first | omega | (simp only [*]; done) | simp only [*]) (by omega) (by omega) (by omega) (by omega) (by omega) (by omega) (by omega) (by omega) (by omega) (by omega) (by omega) (by omega) (by omega)
    · skip
      refine go_toq PM267 (k := 2) (pc' := 1435) (L' := [some (.inr (.inr (some 3000))), some (.inr (.inr (some 0))), some (.inr (.inr (some 79))), some (.inl i)]) (st' := []) (w' := (SH, dt)) rfl ?_
      exact K dt hI hM hM2 (by first | omega | (simp only [*]; done) | simp only [*]) (by omega) (by omega) (by omega) (by omega) (by omega) (by omega) (by omega) (by omega) (by omega) (by omega) (by omega) (by omega) (by omega)
    · skip
      refine go_toq PM267 (k := 2) (pc' := 1435) (L' := [some (.inr (.inr (some 3000))), some (.inr (.inr (some 0))), some (.inr (.inr (some 79))), some (.inl i)]) (st' := []) (w' := (SH, dt)) rfl ?_
      exact K dt hI hM hM2 (by first | omega | (simp only [*]; done) | simp only [*]) (by omega) (by omega) (by omega) (by omega) (by omega) (by omega) (by omega) (by omega) (by omega) (by omega) (by omega) (by omega) (by omega)
    · skip
      refine go_toq PM267 (k := 2) (pc' := 1435) (L' := [some (.inr (.inr (some 3000))), some (.inr (.inr (some 0))), some (.inr (.inr (some 79))), some (.inl i)]) (st' := []) (w' := (SH, dt)) rfl ?_
      exact K dt hI hM hM2 (by first | omega | (simp only [*]; done) | simp only [*]) (by omega) (by omega) (by omega) (by omega) (by omega) (by omega) (by omega) (by omega) (by omega) (by omega) (by omega) (by omega) (by omega)
    · skip
      obtain ⟨h6_0, h6_1⟩ := h6
      refine go_toq PM267 (k := 2) (pc' := 1435) (L' := [some (.inr (.inr (some 3000))), some (.inr (.inr (some 0))), some (.inr (.inr (some 79))), some (.inl i)]) (st' := []) (w' := (SH, dt)) rfl ?_
      exact K dt hI hM hM2 (by first | omega | (simp only [*]; done) | simp only [*]) (by omega) (by omega) (by omega) (by omega) (by omega) (by omega) (by omega) (by omega) (by omega) (by omega) (by omega) (by omega) (by omega)
    · skip
      obtain ⟨h6_0, h6_1⟩ := h6
      refine go_toq PM267 (k := 2) (pc' := 1435) (L' := [some (.inr (.inr (some 3000))), some (.inr (.inr (some 0))), some (.inr (.inr (some 79))), some (.inl i)]) (st' := []) (w' := (SH, dt)) rfl ?_
      exact K dt hI hM hM2 (by first | omega | (simp only [*]; done) | simp only [*]) (by omega) (by omega) (by omega) (by omega) (by omega) (by omega) (by omega) (by omega) (by omega) (by omega) (by omega) (by omega) (by omega)
    · skip
      refine go_toq PM267 (k := 2) (pc' := 1435) (L' := [some (.inr (.inr (some 3000))), some (.inr (.inr (some 0))), some (.inr (.inr (some 79))), some (.inl i)]) (st' := []) (w' := (SH, dt)) rfl ?_
      exact K dt hI hM hM2 (by first | omega | (simp only [*]; done) | simp only [*]) (by omega) (by omega) (by omega) (by omega) (by omega) (by omega) (by omega) (by omega) (by omega) (by omega) (by omega) (by omega) (by omega)
  · skip
    refine go_toq PM267 (k := 6) (pc' := 1427) (L' := [some (.inr (.inr (some 3000))), some (.inr (.inr (some 0))), some (.inr (.inr (some 79))), some (.inl i)]) (st' := [.inl (i + 1), .inr (.inr (some 3000)), .inr (.inr (some 79))]) (w' := (SH, dt)) rfl ?_
    refine go_smpq PM267 (L' := [some (.inr (.inr (some 3000))), some (.inr (.inr (some 0))), some (.inr (.inr (some 79))), some (.inl i)]) (st' := [.inl ((xs ((i + 1).toNat)).toInt), .inr (.inr (some 79))]) (w' := (SH, dt)) rfl rfl (s_iald (n := L) (f := fun j => (xs j).toInt) (am_scr hLL) ⟨by omega, by omega⟩) ?_
    refine go_callq PM267 PM248 (Q' := _) rfl rfl rfl rfl (sp_X6_look L xs sio (d + 38) dt hI  ((xs ((i + 1).toNat)).toInt) ⟨by omega, by omega⟩ ) ?_
    rintro _ _ ⟨rfl, h7⟩
    refine ⟨rfl, ?_⟩
    rcases h7 with ⟨rfl, h7⟩ | ⟨rfl, h7⟩ | ⟨rfl, h7⟩ | ⟨rfl, h7⟩ | ⟨rfl, h7⟩ | ⟨rfl, h7⟩ | ⟨rfl, h7⟩ | ⟨rfl, h7⟩ | ⟨rfl, h7⟩
    · skip
      refine go_toq PM267 (k := 2) (pc' := 1435) (L' := [some (.inr (.inr (some 3000))), some (.inr (.inr (some 0))), some (.inr (.inr (some 79))), some (.inl i)]) (st' := []) (w' := (SH, dt)) rfl ?_
      exact K dt hI hM hM2 (by first | omega | (simp only [*]; done) | simp only [*]) (by omega) (by omega) (by omega) (by omega) (by omega) (by omega) (by omega) (by omega) (by omega) (by omega) (by omega) (by omega) (by omega)
    · skip
      refine go_toq PM267 (k := 2) (pc' := 1435) (L' := [some (.inr (.inr (some 3000))), some (.inr (.inr (some 0))), some (.inr (.inr (some 79))), some (.inl i)]) (st' := []) (w' := (SH, dt)) rfl ?_
      exact K dt hI hM hM2 (by first | omega | (simp only [*]; done) | simp only [*]) (by omega) (by omega) (by omega) (by omega) (by omega) (by omega) (by omega) (by omega) (by omega) (by omega) (by omega) (by omega) (by omega)
    · skip
      refine go_toq PM267 (k := 2) (pc' := 1435) (L' := [some (.inr (.inr (some 3000))), some (.inr (.inr (some 0))), some (.inr (.inr (some 79))), some (.inl i)]) (st' := []) (w' := (SH, dt)) rfl ?_
      exact K dt hI hM hM2 (by first | omega | (simp only [*]; done) | simp only [*]) (by omega) (by omega) (by omega) (by omega) (by omega) (by omega) (by omega) (by omega) (by omega) (by omega) (by omega) (by omega) (by omega)
    · skip
      refine go_toq PM267 (k := 2) (pc' := 1435) (L' := [some (.inr (.inr (some 3000))), some (.inr (.inr (some 0))), some (.inr (.inr (some 79))), some (.inl i)]) (st' := []) (w' := (SH, dt)) rfl ?_
      exact K dt hI hM hM2 (by first | omega | (simp only [*]; done) | simp only [*]) (by omega) (by omega) (by omega) (by omega) (by omega) (by omega) (by omega) (by omega) (by omega) (by omega) (by omega) (by omega) (by omega)
    · skip
      refine go_toq PM267 (k := 2) (pc' := 1435) (L' := [some (.inr (.inr (some 3000))), some (.inr (.inr (some 0))), some (.inr (.inr (some 79))), some (.inl i)]) (st' := []) (w' := (SH, dt)) rfl ?_
      exact K dt hI hM hM2 (by first | omega | (simp only [*]; done) | simp only [*]) (by omega) (by omega) (by omega) (by omega) (by omega) (by omega) (by omega) (by omega) (by omega) (by omega) (by omega) (by omega) (by omega)
    · skip
      refine go_toq PM267 (k := 2) (pc' := 1435) (L' := [some (.inr (.inr (some 3000))), some (.inr (.inr (some 0))), some (.inr (.inr (some 79))), some (.inl i)]) (st' := []) (w' := (SH, dt)) rfl ?_
      exact K dt hI hM hM2 (by first | omega | (simp only [*]; done) | simp only [*]) (by omega) (by omega) (by omega) (by omega) (by omega) (by omega) (by omega) (by omega) (by omega) (by omega) (by omega) (by omega) (by omega)
    · skip
      obtain ⟨h7_0, h7_1⟩ := h7
      refine go_toq PM267 (k := 2) (pc' := 1435) (L' := [some (.inr (.inr (some 3000))), some (.inr (.inr (some 0))), some (.inr (.inr (some 79))), some (.inl i)]) (st' := []) (w' := (SH, dt)) rfl ?_
      exact K dt hI hM hM2 (by first | omega | (simp only [*]; done) | simp only [*]) (by omega) (by omega) (by omega) (by omega) (by omega) (by omega) (by omega) (by omega) (by omega) (by omega) (by omega) (by omega) (by omega)
    · skip
      obtain ⟨h7_0, h7_1⟩ := h7
      refine go_toq PM267 (k := 2) (pc' := 1435) (L' := [some (.inr (.inr (some 3000))), some (.inr (.inr (some 0))), some (.inr (.inr (some 79))), some (.inl i)]) (st' := []) (w' := (SH, dt)) rfl ?_
      exact K dt hI hM hM2 (by first | omega | (simp only [*]; done) | simp only [*]) (by omega) (by omega) (by omega) (by omega) (by omega) (by omega) (by omega) (by omega) (by omega) (by omega) (by omega) (by omega) (by omega)
    · skip
      refine go_toq PM267 (k := 2) (pc' := 1435) (L' := [some (.inr (.inr (some 3000))), some (.inr (.inr (some 0))), some (.inr (.inr (some 79))), some (.inl i)]) (st' := []) (w' := (SH, dt)) rfl ?_
      exact K dt hI hM hM2 (by first | omega | (simp only [*]; done) | simp only [*]) (by omega) (by omega) (by omega) (by omega) (by omega) (by omega) (by omega) (by omega) (by omega) (by omega) (by omega) (by omega) (by omega)
  · skip
    refine go_toq PM267 (k := 6) (pc' := 1427) (L' := [some (.inr (.inr (some 3000))), some (.inr (.inr (some 0))), some (.inr (.inr (some 79))), some (.inl i)]) (st' := [.inl (i + 1), .inr (.inr (some 3000)), .inr (.inr (some 79))]) (w' := (SH, dt)) rfl ?_
    refine go_smpq PM267 (L' := [some (.inr (.inr (some 3000))), some (.inr (.inr (some 0))), some (.inr (.inr (some 79))), some (.inl i)]) (st' := [.inl ((xs ((i + 1).toNat)).toInt), .inr (.inr (some 79))]) (w' := (SH, dt)) rfl rfl (s_iald (n := L) (f := fun j => (xs j).toInt) (am_scr hLL) ⟨by omega, by omega⟩) ?_
    refine go_callq PM267 PM248 (Q' := _) rfl rfl rfl rfl (sp_X6_look L xs sio (d + 38) dt hI  ((xs ((i + 1).toNat)).toInt) ⟨by omega, by omega⟩ ) ?_
    rintro _ _ ⟨rfl, h8⟩
    refine ⟨rfl, ?_⟩
    rcases h8 with ⟨rfl, h8⟩ | ⟨rfl, h8⟩ | ⟨rfl, h8⟩ | ⟨rfl, h8⟩ | ⟨rfl, h8⟩ | ⟨rfl, h8⟩ | ⟨rfl, h8⟩ | ⟨rfl, h8⟩ | ⟨rfl, h8⟩
    · skip
      refine go_toq PM267 (k := 2) (pc' := 1435) (L' := [some (.inr (.inr (some 3000))), some (.inr (.inr (some 0))), some (.inr (.inr (some 79))), some (.inl i)]) (st' := []) (w' := (SH, dt)) rfl ?_
      exact K dt hI hM hM2 (by first | omega | (simp only [*]; done) | simp only [*]) (by omega) (by omega) (by omega) (by omega) (by omega) (by omega) (by omega) (by omega) (by omega) (by omega) (by omega) (by omega) (by omega)
    · skip
      refine go_toq PM267 (k := 2) (pc' := 1435) (L' := [some (.inr (.inr (some 3000))), some (.inr (.inr (some 0))), some (.inr (.inr (some 79))), some (.inl i)]) (st' := []) (w' := (SH, dt)) rfl ?_
      exact K dt hI hM hM2 (by first | omega | (simp only [*]; done) | simp only [*]) (by omega) (by omega) (by omega) (by omega) (by omega) (by omega) (by omega) (by omega) (by omega) (by omega) (by omega) (by omega) (by omega)
    · skip
      refine go_toq PM267 (k := 2) (pc' := 1435) (L' := [some (.inr (.inr (some 3000))), some (.inr (.inr (some 0))), some (.inr (.inr (some 79))), some (.inl i)]) (st' := []) (w' := (SH, dt)) rfl ?_
      exact K dt hI hM hM2 (by first | omega | (simp only [*]; done) | simp only [*]) (by omega) (by omega) (by omega) (by omega) (by omega) (by omega) (by omega) (by omega) (by omega) (by omega) (by omega) (by omega) (by omega)
    · skip
      refine go_toq PM267 (k := 2) (pc' := 1435) (L' := [some (.inr (.inr (some 3000))), some (.inr (.inr (some 0))), some (.inr (.inr (some 79))), some (.inl i)]) (st' := []) (w' := (SH, dt)) rfl ?_
      exact K dt hI hM hM2 (by first | omega | (simp only [*]; done) | simp only [*]) (by omega) (by omega) (by omega) (by omega) (by omega) (by omega) (by omega) (by omega) (by omega) (by omega) (by omega) (by omega) (by omega)
    · skip
      refine go_toq PM267 (k := 2) (pc' := 1435) (L' := [some (.inr (.inr (some 3000))), some (.inr (.inr (some 0))), some (.inr (.inr (some 79))), some (.inl i)]) (st' := []) (w' := (SH, dt)) rfl ?_
      exact K dt hI hM hM2 (by first | omega | (simp only [*]; done) | simp only [*]) (by omega) (by omega) (by omega) (by omega) (by omega) (by omega) (by omega) (by omega) (by omega) (by omega) (by omega) (by omega) (by omega)
    · skip
      refine go_toq PM267 (k := 2) (pc' := 1435) (L' := [some (.inr (.inr (some 3000))), some (.inr (.inr (some 0))), some (.inr (.inr (some 79))), some (.inl i)]) (st' := []) (w' := (SH, dt)) rfl ?_
      exact K dt hI hM hM2 (by first | omega | (simp only [*]; done) | simp only [*]) (by omega) (by omega) (by omega) (by omega) (by omega) (by omega) (by omega) (by omega) (by omega) (by omega) (by omega) (by omega) (by omega)
    · skip
      obtain ⟨h8_0, h8_1⟩ := h8
      refine go_toq PM267 (k := 2) (pc' := 1435) (L' := [some (.inr (.inr (some 3000))), some (.inr (.inr (some 0))), some (.inr (.inr (some 79))), some (.inl i)]) (st' := []) (w' := (SH, dt)) rfl ?_
      exact K dt hI hM hM2 (by first | omega | (simp only [*]; done) | simp only [*]) (by omega) (by omega) (by omega) (by omega) (by omega) (by omega) (by omega) (by omega) (by omega) (by omega) (by omega) (by omega) (by omega)
    · skip
      obtain ⟨h8_0, h8_1⟩ := h8
      refine go_toq PM267 (k := 2) (pc' := 1435) (L' := [some (.inr (.inr (some 3000))), some (.inr (.inr (some 0))), some (.inr (.inr (some 79))), some (.inl i)]) (st' := []) (w' := (SH, dt)) rfl ?_
      exact K dt hI hM hM2 (by first | omega | (simp only [*]; done) | simp only [*]) (by omega) (by omega) (by omega) (by omega) (by omega) (by omega) (by omega) (by omega) (by omega) (by omega) (by omega) (by omega) (by omega)
    · skip
      refine go_toq PM267 (k := 2) (pc' := 1435) (L' := [some (.inr (.inr (some 3000))), some (.inr (.inr (some 0))), some (.inr (.inr (some 79))), some (.inl i)]) (st' := []) (w' := (SH, dt)) rfl ?_
      exact K dt hI hM hM2 (by first | omega | (simp only [*]; done) | simp only [*]) (by omega) (by omega) (by omega) (by omega) (by omega) (by omega) (by omega) (by omega) (by omega) (by omega) (by omega) (by omega) (by omega)
  · skip
    obtain ⟨h2_0, h2_1⟩ := h2
    refine go_toq PM267 (k := 6) (pc' := 1427) (L' := [some (.inr (.inr (some 3000))), some (.inr (.inr (some 0))), some (.inr (.inr (some 79))), some (.inl i)]) (st' := [.inl (i + 1), .inr (.inr (some 3000)), .inr (.inr (some 79))]) (w' := (SH, dt)) rfl ?_
    refine go_smpq PM267 (L' := [some (.inr (.inr (some 3000))), some (.inr (.inr (some 0))), some (.inr (.inr (some 79))), some (.inl i)]) (st' := [.inl ((xs ((i + 1).toNat)).toInt), .inr (.inr (some 79))]) (w' := (SH, dt)) rfl rfl (s_iald (n := L) (f := fun j => (xs j).toInt) (am_scr hLL) ⟨by omega, by omega⟩) ?_
    refine go_callq PM267 PM248 (Q' := _) rfl rfl rfl rfl (sp_X6_look L xs sio (d + 38) dt hI  ((xs ((i + 1).toNat)).toInt) ⟨by omega, by omega⟩ ) ?_
    rintro _ _ ⟨rfl, h9⟩
    refine ⟨rfl, ?_⟩
    rcases h9 with ⟨rfl, h9⟩ | ⟨rfl, h9⟩ | ⟨rfl, h9⟩ | ⟨rfl, h9⟩ | ⟨rfl, h9⟩ | ⟨rfl, h9⟩ | ⟨rfl, h9⟩ | ⟨rfl, h9⟩ | ⟨rfl, h9⟩
    · skip
      refine go_toq PM267 (k := 2) (pc' := 1435) (L' := [some (.inr (.inr (some 3000))), some (.inr (.inr (some 0))), some (.inr (.inr (some 79))), some (.inl i)]) (st' := []) (w' := (SH, dt)) rfl ?_
      exact K dt hI hM hM2 (by first | omega | (simp only [*]; done) | simp only [*]) (by omega) (by omega) (by omega) (by omega) (by omega) (by omega) (by omega) (by omega) (by omega) (by omega) (by omega) (by omega) (by omega)
    · skip
      refine go_toq PM267 (k := 2) (pc' := 1435) (L' := [some (.inr (.inr (some 3000))), some (.inr (.inr (some 0))), some (.inr (.inr (some 79))), some (.inl i)]) (st' := []) (w' := (SH, dt)) rfl ?_
      exact K dt hI hM hM2 (by first | omega | (simp only [*]; done) | simp only [*]) (by omega) (by omega) (by omega) (by omega) (by omega) (by omega) (by omega) (by omega) (by omega) (by omega) (by omega) (by omega) (by omega)
    · skip
      refine go_toq PM267 (k := 2) (pc' := 1435) (L' := [some (.inr (.inr (some 3000))), some (.inr (.inr (some 0))), some (.inr (.inr (some 79))), some (.inl i)]) (st' := []) (w' := (SH, dt)) rfl ?_
      exact K dt hI hM hM2 (by first | omega | (simp only [*]; done) | simp only [*]) (by omega) (by omega) (by omega) (by omega) (by omega) (by omega) (by omega) (by omega) (by omega) (by omega) (by omega) (by omega) (by omega)
    · skip
      refine go_toq PM267 (k := 2) (pc' := 1435) (L' := [some (.inr (.inr (some 3000))), some (.inr (.inr (some 0))), some (.inr (.inr (some 79))), some (.inl i)]) (st' := []) (w' := (SH, dt)) rfl ?_
      exact K dt hI hM hM2 (by first | omega | (simp only [*]; done) | simp only [*]) (by omega) (by omega) (by omega) (by omega) (by omega) (by omega) (by omega) (by omega) (by omega) (by omega) (by omega) (by omega) (by omega)
    · skip
      refine go_toq PM267 (k := 2) (pc' := 1435) (L' := [some (.inr (.inr (some 3000))), some (.inr (.inr (some 0))), some (.inr (.inr (some 79))), some (.inl i)]) (st' := []) (w' := (SH, dt)) rfl ?_
      exact K dt hI hM hM2 (by first | omega | (simp only [*]; done) | simp only [*]) (by omega) (by omega) (by omega) (by omega) (by omega) (by omega) (by omega) (by omega) (by omega) (by omega) (by omega) (by omega) (by omega)
    · skip
      refine go_toq PM267 (k := 2) (pc' := 1435) (L' := [some (.inr (.inr (some 3000))), some (.inr (.inr (some 0))), some (.inr (.inr (some 79))), some (.inl i)]) (st' := []) (w' := (SH, dt)) rfl ?_
      exact K dt hI hM hM2 (by first | omega | (simp only [*]; done) | simp only [*]) (by omega) (by omega) (by omega) (by omega) (by omega) (by omega) (by omega) (by omega) (by omega) (by omega) (by omega) (by omega) (by omega)
    · skip
      obtain ⟨h9_0, h9_1⟩ := h9
      refine go_toq PM267 (k := 2) (pc' := 1435) (L' := [some (.inr (.inr (some 3000))), some (.inr (.inr (some 0))), some (.inr (.inr (some 79))), some (.inl i)]) (st' := []) (w' := (SH, dt)) rfl ?_
      exact K dt hI hM hM2 (by first | omega | (simp only [*]; done) | simp only [*]) (by omega) (by omega) (by omega) (by omega) (by omega) (by omega) (by omega) (by omega) (by omega) (by omega) (by omega) (by omega) (by omega)
    · skip
      obtain ⟨h9_0, h9_1⟩ := h9
      refine go_toq PM267 (k := 2) (pc' := 1435) (L' := [some (.inr (.inr (some 3000))), some (.inr (.inr (some 0))), some (.inr (.inr (some 79))), some (.inl i)]) (st' := []) (w' := (SH, dt)) rfl ?_
      exact K dt hI hM hM2 (by first | omega | (simp only [*]; done) | simp only [*]) (by omega) (by omega) (by omega) (by omega) (by omega) (by omega) (by omega) (by omega) (by omega) (by omega) (by omega) (by omega) (by omega)
    · skip
      refine go_toq PM267 (k := 2) (pc' := 1435) (L' := [some (.inr (.inr (some 3000))), some (.inr (.inr (some 0))), some (.inr (.inr (some 79))), some (.inl i)]) (st' := []) (w' := (SH, dt)) rfl ?_
      exact K dt hI hM hM2 (by first | omega | (simp only [*]; done) | simp only [*]) (by omega) (by omega) (by omega) (by omega) (by omega) (by omega) (by omega) (by omega) (by omega) (by omega) (by omega) (by omega) (by omega)
  · skip
    obtain ⟨h2_0, h2_1⟩ := h2
    refine go_toq PM267 (k := 6) (pc' := 1427) (L' := [some (.inr (.inr (some 3000))), some (.inr (.inr (some 0))), some (.inr (.inr (some 79))), some (.inl i)]) (st' := [.inl (i + 1), .inr (.inr (some 3000)), .inr (.inr (some 79))]) (w' := (SH, dt)) rfl ?_
    refine go_smpq PM267 (L' := [some (.inr (.inr (some 3000))), some (.inr (.inr (some 0))), some (.inr (.inr (some 79))), some (.inl i)]) (st' := [.inl ((xs ((i + 1).toNat)).toInt), .inr (.inr (some 79))]) (w' := (SH, dt)) rfl rfl (s_iald (n := L) (f := fun j => (xs j).toInt) (am_scr hLL) ⟨by omega, by omega⟩) ?_
    refine go_callq PM267 PM248 (Q' := _) rfl rfl rfl rfl (sp_X6_look L xs sio (d + 38) dt hI  ((xs ((i + 1).toNat)).toInt) ⟨by omega, by omega⟩ ) ?_
    rintro _ _ ⟨rfl, h10⟩
    refine ⟨rfl, ?_⟩
    rcases h10 with ⟨rfl, h10⟩ | ⟨rfl, h10⟩ | ⟨rfl, h10⟩ | ⟨rfl, h10⟩ | ⟨rfl, h10⟩ | ⟨rfl, h10⟩ | ⟨rfl, h10⟩ | ⟨rfl, h10⟩ | ⟨rfl, h10⟩
    · skip
      refine go_toq PM267 (k := 2) (pc' := 1435) (L' := [some (.inr (.inr (some 3000))), some (.inr (.inr (some 0))), some (.inr (.inr (some 79))), some (.inl i)]) (st' := []) (w' := (SH, dt)) rfl ?_
      exact K dt hI hM hM2 (by first | omega | (simp only [*]; done) | simp only [*]) (by omega) (by omega) (by omega) (by omega) (by omega) (by omega) (by omega) (by omega) (by omega) (by omega) (by omega) (by omega) (by omega)
    · skip
      refine go_toq PM267 (k := 2) (pc' := 1435) (L' := [some (.inr (.inr (some 3000))), some (.inr (.inr (some 0))), some (.inr (.inr (some 79))), some (.inl i)]) (st' := []) (w' := (SH, dt)) rfl ?_
      exact K dt hI hM hM2 (by first | omega | (simp only [*]; done) | simp only [*]) (by omega) (by omega) (by omega) (by omega) (by omega) (by omega) (by omega) (by omega) (by omega) (by omega) (by omega) (by omega) (by omega)
    · skip
      refine go_toq PM267 (k := 2) (pc' := 1435) (L' := [some (.inr (.inr (some 3000))), some (.inr (.inr (some 0))), some (.inr (.inr (some 79))), some (.inl i)]) (st' := []) (w' := (SH, dt)) rfl ?_
      exact K dt hI hM hM2 (by first | omega | (simp only [*]; done) | simp only [*]) (by omega) (by omega) (by omega) (by omega) (by omega) (by omega) (by omega) (by omega) (by omega) (by omega) (by omega) (by omega) (by omega)
    · skip
      refine go_toq PM267 (k := 2) (pc' := 1435) (L' := [some (.inr (.inr (some 3000))), some (.inr (.inr (some 0))), some (.inr (.inr (some 79))), some (.inl i)]) (st' := []) (w' := (SH, dt)) rfl ?_
      exact K dt hI hM hM2 (by first | omega | (simp only [*]; done) | simp only [*]) (by omega) (by omega) (by omega) (by omega) (by omega) (by omega) (by omega) (by omega) (by omega) (by omega) (by omega) (by omega) (by omega)
    · skip
      refine go_toq PM267 (k := 2) (pc' := 1435) (L' := [some (.inr (.inr (some 3000))), some (.inr (.inr (some 0))), some (.inr (.inr (some 79))), some (.inl i)]) (st' := []) (w' := (SH, dt)) rfl ?_
      exact K dt hI hM hM2 (by first | omega | (simp only [*]; done) | simp only [*]) (by omega) (by omega) (by omega) (by omega) (by omega) (by omega) (by omega) (by omega) (by omega) (by omega) (by omega) (by omega) (by omega)
    · skip
      refine go_toq PM267 (k := 2) (pc' := 1435) (L' := [some (.inr (.inr (some 3000))), some (.inr (.inr (some 0))), some (.inr (.inr (some 79))), some (.inl i)]) (st' := []) (w' := (SH, dt)) rfl ?_
      exact K dt hI hM hM2 (by first | omega | (simp only [*]; done) | simp only [*]) (by omega) (by omega) (by omega) (by omega) (by omega) (by omega) (by omega) (by omega) (by omega) (by omega) (by omega) (by omega) (by omega)
    · skip
      obtain ⟨h10_0, h10_1⟩ := h10
      refine go_toq PM267 (k := 2) (pc' := 1435) (L' := [some (.inr (.inr (some 3000))), some (.inr (.inr (some 0))), some (.inr (.inr (some 79))), some (.inl i)]) (st' := []) (w' := (SH, dt)) rfl ?_
      exact K dt hI hM hM2 (by first | omega | (simp only [*]; done) | simp only [*]) (by omega) (by omega) (by omega) (by omega) (by omega) (by omega) (by omega) (by omega) (by omega) (by omega) (by omega) (by omega) (by omega)
    · skip
      obtain ⟨h10_0, h10_1⟩ := h10
      refine go_toq PM267 (k := 2) (pc' := 1435) (L' := [some (.inr (.inr (some 3000))), some (.inr (.inr (some 0))), some (.inr (.inr (some 79))), some (.inl i)]) (st' := []) (w' := (SH, dt)) rfl ?_
      exact K dt hI hM hM2 (by first | omega | (simp only [*]; done) | simp only [*]) (by omega) (by omega) (by omega) (by omega) (by omega) (by omega) (by omega) (by omega) (by omega) (by omega) (by omega) (by omega) (by omega)
    · skip
      refine go_toq PM267 (k := 2) (pc' := 1435) (L' := [some (.inr (.inr (some 3000))), some (.inr (.inr (some 0))), some (.inr (.inr (some 79))), some (.inl i)]) (st' := []) (w' := (SH, dt)) rfl ?_
      exact K dt hI hM hM2 (by first | omega | (simp only [*]; done) | simp only [*]) (by omega) (by omega) (by omega) (by omega) (by omega) (by omega) (by omega) (by omega) (by omega) (by omega) (by omega) (by omega) (by omega)
  · skip
    refine go_toq PM267 (k := 6) (pc' := 1427) (L' := [some (.inr (.inr (some 3000))), some (.inr (.inr (some 0))), some (.inr (.inr (some 79))), some (.inl i)]) (st' := [.inl (i + 1), .inr (.inr (some 3000)), .inr (.inr (some 79))]) (w' := (SH, dt)) rfl ?_
    refine go_smpq PM267 (L' := [some (.inr (.inr (some 3000))), some (.inr (.inr (some 0))), some (.inr (.inr (some 79))), some (.inl i)]) (st' := [.inl ((xs ((i + 1).toNat)).toInt), .inr (.inr (some 79))]) (w' := (SH, dt)) rfl rfl (s_iald (n := L) (f := fun j => (xs j).toInt) (am_scr hLL) ⟨by omega, by omega⟩) ?_
    refine go_callq PM267 PM248 (Q' := _) rfl rfl rfl rfl (sp_X6_look L xs sio (d + 38) dt hI  ((xs ((i + 1).toNat)).toInt) ⟨by omega, by omega⟩ ) ?_
    rintro _ _ ⟨rfl, h11⟩
    refine ⟨rfl, ?_⟩
    rcases h11 with ⟨rfl, h11⟩ | ⟨rfl, h11⟩ | ⟨rfl, h11⟩ | ⟨rfl, h11⟩ | ⟨rfl, h11⟩ | ⟨rfl, h11⟩ | ⟨rfl, h11⟩ | ⟨rfl, h11⟩ | ⟨rfl, h11⟩
    · skip
      refine go_toq PM267 (k := 2) (pc' := 1435) (L' := [some (.inr (.inr (some 3000))), some (.inr (.inr (some 0))), some (.inr (.inr (some 79))), some (.inl i)]) (st' := []) (w' := (SH, dt)) rfl ?_
      exact K dt hI hM hM2 (by first | omega | (simp only [*]; done) | simp only [*]) (by omega) (by omega) (by omega) (by omega) (by omega) (by omega) (by omega) (by omega) (by omega) (by omega) (by omega) (by omega) (by omega)
    · skip
      refine go_toq PM267 (k := 2) (pc' := 1435) (L' := [some (.inr (.inr (some 3000))), some (.inr (.inr (some 0))), some (.inr (.inr (some 79))), some (.inl i)]) (st' := []) (w' := (SH, dt)) rfl ?_
      exact K dt hI hM hM2 (by first | omega | (simp only [*]; done) | simp only [*]) (by omega) (by omega) (by omega) (by omega) (by omega) (by omega) (by omega) (by omega) (by omega) (by omega) (by omega) (by omega) (by omega)
    · skip
      refine go_toq PM267 (k := 2) (pc' := 1435) (L' := [some (.inr (.inr (some 3000))), some (.inr (.inr (some 0))), some (.inr (.inr (some 79))), some (.inl i)]) (st' := []) (w' := (SH, dt)) rfl ?_
      exact K dt hI hM hM2 (by first | omega | (simp only [*]; done) | simp only [*]) (by omega) (by omega) (by omega) (by omega) (by omega) (by omega) (by omega) (by omega) (by omega) (by omega) (by omega) (by omega) (by omega)
    · skip
      refine go_toq PM267 (k := 2) (pc' := 1435) (L' := [some (.inr (.inr (some 3000))), some (.inr (.inr (some 0))), some (.inr (.inr (some 79))), some (.inl i)]) (st' := []) (w' := (SH, dt)) rfl ?_
      exact K dt hI hM hM2 (by first | omega | (simp only [*]; done) | simp only [*]) (by omega) (by omega) (by omega) (by omega) (by omega) (by omega) (by omega) (by omega) (by omega) (by omega) (by omega) (by omega) (by omega)
    · skip
      refine go_toq PM267 (k := 2) (pc' := 1435) (L' := [some (.inr (.inr (some 3000))), some (.inr (.inr (some 0))), some (.inr (.inr (some 79))), some (.inl i)]) (st' := []) (w' := (SH, dt)) rfl ?_
      exact K dt hI hM hM2 (by first | omega | (simp only [*]; done) | simp only [*]) (by omega) (by omega) (by omega) (by omega) (by omega) (by omega) (by omega) (by omega) (by omega) (by omega) (by omega) (by omega) (by omega)
    · skip
      refine go_toq PM267 (k := 2) (pc' := 1435) (L' := [some (.inr (.inr (some 3000))), some (.inr (.inr (some 0))), some (.inr (.inr (some 79))), some (.inl i)]) (st' := []) (w' := (SH, dt)) rfl ?_
      exact K dt hI hM hM2 (by first | omega | (simp only [*]; done) | simp only [*]) (by omega) (by omega) (by omega) (by omega) (by omega) (by omega) (by omega) (by omega) (by omega) (by omega) (by omega) (by omega) (by omega)
    · skip
      obtain ⟨h11_0, h11_1⟩ := h11
      refine go_toq PM267 (k := 2) (pc' := 1435) (L' := [some (.inr (.inr (some 3000))), some (.inr (.inr (some 0))), some (.inr (.inr (some 79))), some (.inl i)]) (st' := []) (w' := (SH, dt)) rfl ?_
      exact K dt hI hM hM2 (by first | omega | (simp only [*]; done) | simp only [*]) (by omega) (by omega) (by omega) (by omega) (by omega) (by omega) (by omega) (by omega) (by omega) (by omega) (by omega) (by omega) (by omega)
    · skip
      obtain ⟨h11_0, h11_1⟩ := h11
      refine go_toq PM267 (k := 2) (pc' := 1435) (L' := [some (.inr (.inr (some 3000))), some (.inr (.inr (some 0))), some (.inr (.inr (some 79))), some (.inl i)]) (st' := []) (w' := (SH, dt)) rfl ?_
      exact K dt hI hM hM2 (by first | omega | (simp only [*]; done) | simp only [*]) (by omega) (by omega) (by omega) (by omega) (by omega) (by omega) (by omega) (by omega) (by omega) (by omega) (by omega) (by omega) (by omega)
    · skip
      refine go_toq PM267 (k := 2) (pc' := 1435) (L' := [some (.inr (.inr (some 3000))), some (.inr (.inr (some 0))), some (.inr (.inr (some 79))), some (.inl i)]) (st' := []) (w' := (SH, dt)) rfl ?_
      exact K dt hI hM hM2 (by first | omega | (simp only [*]; done) | simp only [*]) (by omega) (by omega) (by omega) (by omega) (by omega) (by omega) (by omega) (by omega) (by omega) (by omega) (by omega) (by omega) (by omega)
