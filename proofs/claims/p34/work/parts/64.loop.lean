set_option maxRecDepth 20000 in
set_option maxHeartbeats 8000000 in
theorem sp_case22 (L : Nat) (xs : Nat → Int32) (sio : Option Nat) (d : Nat) (Q : Option AV → am_W → Prop) (hLL : L ≤ 3072) (i : Int) (hi : 0 ≤ i ∧ i ≤ 3066) (hil : i ≤ (L : Int) - 6) (dt : Nat → Nat → Int) (hI : InvC dt) (hM : MW (dt 80)) (hM2 : MW (dt 81)) (hk0 : dt 1 0 = dt 80 0) (hk1 : dt 7 3 = dt 80 1) (hk2 : dt 10 3 = dt 80 2) (hk3 : dt 12 3 = dt 80 3) (hk4 : dt 14 3 = dt 80 4) (hk5 : dt 16 3 = dt 80 5) (hk6 : dt 18 0 = dt 81 0) (hk7 : dt 24 3 = dt 81 1) (hk8 : dt 27 3 = dt 81 2) (hk9 : dt 29 3 = dt 81 3) (hk10 : dt 31 3 = dt 81 4) (hk11 : dt 33 3 = dt 81 5) (hk12 : dt 0 2 = dt 79 2) (hk13 : dt 35 1 = dt 79 12) (K : ∀ (dt : Nat → Nat → Int) (hI : InvC dt) (hM : MW (dt 80)) (hM2 : MW (dt 81)) (hk0 : dt 1 0 = dt 80 0) (hk1 : dt 7 3 = dt 80 1) (hk2 : dt 10 3 = dt 80 2) (hk3 : dt 12 3 = dt 80 3) (hk4 : dt 14 3 = dt 80 4) (hk5 : dt 16 3 = dt 80 5) (hk6 : dt 18 0 = dt 81 0) (hk7 : dt 24 3 = dt 81 1) (hk8 : dt 27 3 = dt 81 2) (hk9 : dt 29 3 = dt 81 3) (hk10 : dt 31 3 = dt 81 4) (hk11 : dt 33 3 = dt 81 5) (hk12 : dt 0 2 = dt 79 2) (hk13 : dt 35 1 = dt 79 12), GO (am_XX L xs sio) (d + 39) 267 1435 [some (.inr (.inr (some 3000))), some (.inr (.inr (some 0))), some (.inr (.inr (some 79))), some (.inl i)] [] (SH, dt) Q) : GO (am_XX L xs sio) (d + 39) 267 1086 [some (.inr (.inr (some 3000))), some (.inr (.inr (some 0))), some (.inr (.inr (some 79))), some (.inl i)] [] (SH, dt) Q := by
  have hF : Fr [0, 1, 2, 3, 4, 5, 6, 7, 8, 9, 10, 11, 12, 13, 14, 15, 16, 17, 18, 19, 20, 21, 22, 23, 24, 25, 26, 27, 28, 29, 30, 31, 32, 33, 34, 35, 36, 37, 38, 39, 40, 41, 42, 43, 44, 45, 46, 47, 48, 49, 50, 51, 52, 53, 54, 55, 56, 57, 58, 59, 60, 61, 62, 63, 64, 65, 66, 67, 68, 69, 70, 71, 72, 73, 74, 75, 76, 77, 78, 79, 80, 81, 82, 83, 84, 85, 86, 87, 88, 89, 90, 91, 92, 93, 94, 95, 96, 97, 98, 99, 100, 101, 102, 103, 104] dt dt := Fr_refl
  refine go_to (k := 5) (pc' := 1091) (L' := [some (.inr (.inr (some 3000))), some (.inr (.inr (some 0))), some (.inr (.inr (some 79))), some (.inl i)]) (st' := [.inl (i + 1), .inr (.inr (some 3000)), .inr (.inr (some 0))]) (w' := (SH, dt)) (fun _ => rfl) ?_
  have r1 := i32_R (xs ((i + 1).toNat))
  refine go_smp (L' := [some (.inr (.inr (some 3000))), some (.inr (.inr (some 0))), some (.inr (.inr (some 79))), some (.inl i)]) (st' := [.inl ((xs ((i + 1).toNat)).toInt), .inr (.inr (some 0))]) (w' := (SH, dt)) rfl rfl (s_iald (n := L) (f := fun j => (xs j).toInt) (am_scr hLL) ⟨by omega, by omega⟩) ?_
  refine go_call (Q' := _) rfl rfl rfl rfl rfl (sp_X5_beside L xs sio (d + 34) dt hI  ((xs ((i + 1).toNat)).toInt) ⟨by omega, by omega⟩ ) ?_
  rintro _ _ ⟨dt3, rfl, hI4, hF5, h2⟩
  refine ⟨rfl, ?_⟩
  have hF6 : Fr [0, 1, 2, 3, 4, 5, 6, 7, 8, 9, 10, 11, 12, 13, 14, 15, 16, 17, 18, 19, 20, 21, 22, 23, 24, 25, 26, 27, 28, 29, 30, 31, 32, 33, 34, 35, 36, 37, 38, 39, 40, 41, 42, 43, 44, 45, 46, 47, 48, 49, 50, 51, 52, 53, 54, 55, 56, 57, 58, 59, 60, 61, 62, 63, 64, 65, 66, 67, 68, 69, 70, 71, 72, 73, 74, 75, 76, 77, 78, 79, 80, 81, 82, 83, 84, 85, 86, 87, 88, 89, 90, 91, 92, 93, 94, 95, 96, 97, 98, 99, 100, 101, 102, 103, 104] dt dt3 := Fr_tr hF hF5 (by decide)
  have hM7 : MW (dt3 80) := MW_fr hM hF5 (by decide)
  have w8 : dt3 1 0 = dt 1 0 := hF5 1 (by decide) 0
  have w9 : dt3 7 3 = dt 7 3 := hF5 7 (by decide) 3
  have w10 : dt3 10 3 = dt 10 3 := hF5 10 (by decide) 3
  have w11 : dt3 12 3 = dt 12 3 := hF5 12 (by decide) 3
  have w12 : dt3 14 3 = dt 14 3 := hF5 14 (by decide) 3
  have w13 : dt3 16 3 = dt 16 3 := hF5 16 (by decide) 3
  have w14 : dt3 18 0 = dt 18 0 := hF5 18 (by decide) 0
  have w15 : dt3 24 3 = dt 24 3 := hF5 24 (by decide) 3
  have w16 : dt3 27 3 = dt 27 3 := hF5 27 (by decide) 3
  have w17 : dt3 29 3 = dt 29 3 := hF5 29 (by decide) 3
  have w18 : dt3 31 3 = dt 31 3 := hF5 31 (by decide) 3
  have w19 : dt3 33 3 = dt 33 3 := hF5 33 (by decide) 3
  have w20 : dt3 0 2 = dt 0 2 := hF5 0 (by decide) 2
  have w21 : dt3 35 1 = dt 35 1 := hF5 35 (by decide) 1
  have w22 : dt3 80 0 = dt 80 0 := hF5 80 (by decide) 0
  have w23 : dt3 80 1 = dt 80 1 := hF5 80 (by decide) 1
  have w24 : dt3 80 2 = dt 80 2 := hF5 80 (by decide) 2
  have w25 : dt3 80 3 = dt 80 3 := hF5 80 (by decide) 3
  have w26 : dt3 80 4 = dt 80 4 := hF5 80 (by decide) 4
  have w27 : dt3 80 5 = dt 80 5 := hF5 80 (by decide) 5
  have w28 : dt3 81 0 = dt 81 0 := hF5 81 (by decide) 0
  have w29 : dt3 81 1 = dt 81 1 := hF5 81 (by decide) 1
  have w30 : dt3 81 2 = dt 81 2 := hF5 81 (by decide) 2
  have w31 : dt3 81 3 = dt 81 3 := hF5 81 (by decide) 3
  have w32 : dt3 81 4 = dt 81 4 := hF5 81 (by decide) 4
  have w33 : dt3 81 5 = dt 81 5 := hF5 81 (by decide) 5
  have w34 : dt3 79 2 = dt 79 2 := hF5 79 (by decide) 2
  have w35 : dt3 79 12 = dt 79 12 := hF5 79 (by decide) 12
  rcases h2 with ⟨v_h2, rfl, h2r, h2⟩
  have M236 : MW (dt3 81) := MW_frk hM2 hF5 (by decide)
  refine go_to (k := 6) (pc' := 1101) (L' := [some (.inr (.inr (some 3000))), some (.inr (.inr (some 0))), some (.inr (.inr (some 79))), some (.inl i)]) (st' := [.inl (i + 1), .inr (.inr (some 3000)), .inr (.inr (some 79))]) (w' := (SH, dt3)) (fun _ => rfl) ?_
  have r37 := i32_R (xs ((i + 1).toNat))
  refine go_smp (L' := [some (.inr (.inr (some 3000))), some (.inr (.inr (some 0))), some (.inr (.inr (some 79))), some (.inl i)]) (st' := [.inl ((xs ((i + 1).toNat)).toInt), .inr (.inr (some 79))]) (w' := (SH, dt3)) rfl rfl (s_iald (n := L) (f := fun j => (xs j).toInt) (am_scr hLL) ⟨by omega, by omega⟩) ?_
  refine go_call (Q' := _) rfl rfl rfl rfl rfl (sp_X6_beside L xs sio (d + 31) dt3 hI4 hM7  ((xs ((i + 1).toNat)).toInt) ⟨by omega, by omega⟩ ) ?_
  rintro _ _ ⟨dt39, rfl, hI40, hF41, h38⟩
  refine ⟨rfl, ?_⟩
  have hF42 : Fr [0, 1, 2, 3, 4, 5, 6, 7, 8, 9, 10, 11, 12, 13, 14, 15, 16, 17, 18, 19, 20, 21, 22, 23, 24, 25, 26, 27, 28, 29, 30, 31, 32, 33, 34, 35, 36, 37, 38, 39, 40, 41, 42, 43, 44, 45, 46, 47, 48, 49, 50, 51, 52, 53, 54, 55, 56, 57, 58, 59, 60, 61, 62, 63, 64, 65, 66, 67, 68, 69, 70, 71, 72, 73, 74, 75, 76, 77, 78, 79, 80, 81, 82, 83, 84, 85, 86, 87, 88, 89, 90, 91, 92, 93, 94, 95, 96, 97, 98, 99, 100, 101, 102, 103, 104] dt dt39 := Fr_tr hF6 hF41 (by decide)
  have hM43 : MW (dt39 80) := MW_fr hM7 hF41 (by decide)
  have w44 : dt39 1 0 = dt3 1 0 := hF41 1 (by decide) 0
  have w45 : dt39 7 3 = dt3 7 3 := hF41 7 (by decide) 3
  have w46 : dt39 10 3 = dt3 10 3 := hF41 10 (by decide) 3
  have w47 : dt39 12 3 = dt3 12 3 := hF41 12 (by decide) 3
  have w48 : dt39 14 3 = dt3 14 3 := hF41 14 (by decide) 3
  have w49 : dt39 16 3 = dt3 16 3 := hF41 16 (by decide) 3
  have w50 : dt39 18 0 = dt3 18 0 := hF41 18 (by decide) 0
  have w51 : dt39 24 3 = dt3 24 3 := hF41 24 (by decide) 3
  have w52 : dt39 27 3 = dt3 27 3 := hF41 27 (by decide) 3
  have w53 : dt39 29 3 = dt3 29 3 := hF41 29 (by decide) 3
  have w54 : dt39 31 3 = dt3 31 3 := hF41 31 (by decide) 3
  have w55 : dt39 33 3 = dt3 33 3 := hF41 33 (by decide) 3
  have w56 : dt39 0 2 = dt3 0 2 := hF41 0 (by decide) 2
  have w57 : dt39 35 1 = dt3 35 1 := hF41 35 (by decide) 1
  have w58 : dt39 80 0 = dt3 80 0 := hF41 80 (by decide) 0
  have w59 : dt39 80 1 = dt3 80 1 := hF41 80 (by decide) 1
  have w60 : dt39 80 2 = dt3 80 2 := hF41 80 (by decide) 2
  have w61 : dt39 80 3 = dt3 80 3 := hF41 80 (by decide) 3
  have w62 : dt39 80 4 = dt3 80 4 := hF41 80 (by decide) 4
  have w63 : dt39 80 5 = dt3 80 5 := hF41 80 (by decide) 5
  have w64 : dt39 81 0 = dt3 81 0 := hF41 81 (by decide) 0
  have w65 : dt39 81 1 = dt3 81 1 := hF41 81 (by decide) 1
  have w66 : dt39 81 2 = dt3 81 2 := hF41 81 (by decide) 2
  have w67 : dt39 81 3 = dt3 81 3 := hF41 81 (by decide) 3
  have w68 : dt39 81 4 = dt3 81 4 := hF41 81 (by decide) 4
  have w69 : dt39 81 5 = dt3 81 5 := hF41 81 (by decide) 5
  have w70 : dt39 79 2 = dt3 79 2 := hF41 79 (by decide) 2
  have w71 : dt39 79 12 = dt3 79 12 := hF41 79 (by decide) 12
  rcases h38 with ⟨v_h38, rfl, h38r, h38⟩
  have M272 : MW (dt39 81) := MW_frk M236 hF41 (by decide)
  refine go_to (k := 2) (pc' := 1435) (L' := [some (.inr (.inr (some 3000))), some (.inr (.inr (some 0))), some (.inr (.inr (some 79))), some (.inl i)]) (st' := []) (w' := (SH, dt39)) (fun _ => rfl) ?_
  exact K dt39 hI40 hM43 M272 (by first | omega | (simp only [*]; done) | simp only [*]) (by omega) (by omega) (by omega) (by omega) (by omega) (by omega) (by omega) (by omega) (by omega) (by omega) (by omega) (by omega) (by omega)
set_option maxRecDepth 20000 in
set_option maxHeartbeats 8000000 in
theorem sp_case23 (L : Nat) (xs : Nat → Int32) (sio : Option Nat) (d : Nat) (Q : Option AV → am_W → Prop) (hLL : L ≤ 3072) (i : Int) (hi : 0 ≤ i ∧ i ≤ 3066) (hil : i ≤ (L : Int) - 6) (dt : Nat → Nat → Int) (hI : InvC dt) (hM : MW (dt 80)) (hM2 : MW (dt 81)) (hk0 : dt 1 0 = dt 80 0) (hk1 : dt 7 3 = dt 80 1) (hk2 : dt 10 3 = dt 80 2) (hk3 : dt 12 3 = dt 80 3) (hk4 : dt 14 3 = dt 80 4) (hk5 : dt 16 3 = dt 80 5) (hk6 : dt 18 0 = dt 81 0) (hk7 : dt 24 3 = dt 81 1) (hk8 : dt 27 3 = dt 81 2) (hk9 : dt 29 3 = dt 81 3) (hk10 : dt 31 3 = dt 81 4) (hk11 : dt 33 3 = dt 81 5) (hk12 : dt 0 2 = dt 79 2) (hk13 : dt 35 1 = dt 79 12) (K : ∀ (dt : Nat → Nat → Int) (hI : InvC dt) (hM : MW (dt 80)) (hM2 : MW (dt 81)) (hk0 : dt 1 0 = dt 80 0) (hk1 : dt 7 3 = dt 80 1) (hk2 : dt 10 3 = dt 80 2) (hk3 : dt 12 3 = dt 80 3) (hk4 : dt 14 3 = dt 80 4) (hk5 : dt 16 3 = dt 80 5) (hk6 : dt 18 0 = dt 81 0) (hk7 : dt 24 3 = dt 81 1) (hk8 : dt 27 3 = dt 81 2) (hk9 : dt 29 3 = dt 81 3) (hk10 : dt 31 3 = dt 81 4) (hk11 : dt 33 3 = dt 81 5) (hk12 : dt 0 2 = dt 79 2) (hk13 : dt 35 1 = dt 79 12), GO (am_XX L xs sio) (d + 39) 267 1435 [some (.inr (.inr (some 3000))), some (.inr (.inr (some 0))), some (.inr (.inr (some 79))), some (.inl i)] [] (SH, dt) Q) : GO (am_XX L xs sio) (d + 39) 267 1109 [some (.inr (.inr (some 3000))), some (.inr (.inr (some 0))), some (.inr (.inr (some 79))), some (.inl i)] [] (SH, dt) Q := by
  have hF : Fr [0, 1, 2, 3, 4, 5, 6, 7, 8, 9, 10, 11, 12, 13, 14, 15, 16, 17, 18, 19, 20, 21, 22, 23, 24, 25, 26, 27, 28, 29, 30, 31, 32, 33, 34, 35, 36, 37, 38, 39, 40, 41, 42, 43, 44, 45, 46, 47, 48, 49, 50, 51, 52, 53, 54, 55, 56, 57, 58, 59, 60, 61, 62, 63, 64, 65, 66, 67, 68, 69, 70, 71, 72, 73, 74, 75, 76, 77, 78, 79, 80, 81, 82, 83, 84, 85, 86, 87, 88, 89, 90, 91, 92, 93, 94, 95, 96, 97, 98, 99, 100, 101, 102, 103, 104] dt dt := Fr_refl
  refine go_to (k := 5) (pc' := 1114) (L' := [some (.inr (.inr (some 3000))), some (.inr (.inr (some 0))), some (.inr (.inr (some 79))), some (.inl i)]) (st' := [.inl (i + 1), .inr (.inr (some 3000)), .inr (.inr (some 0))]) (w' := (SH, dt)) (fun _ => rfl) ?_
  have r1 := i32_R (xs ((i + 1).toNat))
  refine go_smp (L' := [some (.inr (.inr (some 3000))), some (.inr (.inr (some 0))), some (.inr (.inr (some 79))), some (.inl i)]) (st' := [.inl ((xs ((i + 1).toNat)).toInt), .inr (.inr (some 0))]) (w' := (SH, dt)) rfl rfl (s_iald (n := L) (f := fun j => (xs j).toInt) (am_scr hLL) ⟨by omega, by omega⟩) ?_
  refine go_to (k := 4) (pc' := 1119) (L' := [some (.inr (.inr (some 3000))), some (.inr (.inr (some 0))), some (.inr (.inr (some 79))), some (.inl i)]) (st' := [.inl (i + 2), .inr (.inr (some 3000)), .inl ((xs ((i + 1).toNat)).toInt), .inr (.inr (some 0))]) (w' := (SH, dt)) (fun _ => rfl) ?_
  have r2 := i32_R (xs ((i + 2).toNat))
  refine go_smp (L' := [some (.inr (.inr (some 3000))), some (.inr (.inr (some 0))), some (.inr (.inr (some 79))), some (.inl i)]) (st' := [.inl ((xs ((i + 2).toNat)).toInt), .inl ((xs ((i + 1).toNat)).toInt), .inr (.inr (some 0))]) (w' := (SH, dt)) rfl rfl (s_iald (n := L) (f := fun j => (xs j).toInt) (am_scr hLL) ⟨by omega, by omega⟩) ?_
  refine go_call (Q' := _) rfl rfl rfl rfl rfl (sp_X5_eyes L xs sio (d + 36) dt hI  ((xs ((i + 1).toNat)).toInt) ⟨by omega, by omega⟩ ((xs ((i + 2).toNat)).toInt) ⟨by omega, by omega⟩ ) ?_
  rintro _ _ ⟨dt4, rfl, hI5, hF6, h3⟩
  refine ⟨rfl, ?_⟩
  have hF7 : Fr [0, 1, 2, 3, 4, 5, 6, 7, 8, 9, 10, 11, 12, 13, 14, 15, 16, 17, 18, 19, 20, 21, 22, 23, 24, 25, 26, 27, 28, 29, 30, 31, 32, 33, 34, 35, 36, 37, 38, 39, 40, 41, 42, 43, 44, 45, 46, 47, 48, 49, 50, 51, 52, 53, 54, 55, 56, 57, 58, 59, 60, 61, 62, 63, 64, 65, 66, 67, 68, 69, 70, 71, 72, 73, 74, 75, 76, 77, 78, 79, 80, 81, 82, 83, 84, 85, 86, 87, 88, 89, 90, 91, 92, 93, 94, 95, 96, 97, 98, 99, 100, 101, 102, 103, 104] dt dt4 := Fr_tr hF hF6 (by decide)
  have hM8 : MW (dt4 80) := MW_fr hM hF6 (by decide)
  have w9 : dt4 1 0 = dt 1 0 := hF6 1 (by decide) 0
  have w10 : dt4 7 3 = dt 7 3 := hF6 7 (by decide) 3
  have w11 : dt4 10 3 = dt 10 3 := hF6 10 (by decide) 3
  have w12 : dt4 12 3 = dt 12 3 := hF6 12 (by decide) 3
  have w13 : dt4 16 3 = dt 16 3 := hF6 16 (by decide) 3
  have w14 : dt4 18 0 = dt 18 0 := hF6 18 (by decide) 0
  have w15 : dt4 24 3 = dt 24 3 := hF6 24 (by decide) 3
  have w16 : dt4 27 3 = dt 27 3 := hF6 27 (by decide) 3
  have w17 : dt4 29 3 = dt 29 3 := hF6 29 (by decide) 3
  have w18 : dt4 31 3 = dt 31 3 := hF6 31 (by decide) 3
  have w19 : dt4 33 3 = dt 33 3 := hF6 33 (by decide) 3
  have w20 : dt4 0 2 = dt 0 2 := hF6 0 (by decide) 2
  have w21 : dt4 35 1 = dt 35 1 := hF6 35 (by decide) 1
  have w22 : dt4 80 0 = dt 80 0 := hF6 80 (by decide) 0
  have w23 : dt4 80 1 = dt 80 1 := hF6 80 (by decide) 1
  have w24 : dt4 80 2 = dt 80 2 := hF6 80 (by decide) 2
  have w25 : dt4 80 3 = dt 80 3 := hF6 80 (by decide) 3
  have w26 : dt4 80 4 = dt 80 4 := hF6 80 (by decide) 4
  have w27 : dt4 80 5 = dt 80 5 := hF6 80 (by decide) 5
  have w28 : dt4 81 0 = dt 81 0 := hF6 81 (by decide) 0
  have w29 : dt4 81 1 = dt 81 1 := hF6 81 (by decide) 1
  have w30 : dt4 81 2 = dt 81 2 := hF6 81 (by decide) 2
  have w31 : dt4 81 3 = dt 81 3 := hF6 81 (by decide) 3
  have w32 : dt4 81 4 = dt 81 4 := hF6 81 (by decide) 4
  have w33 : dt4 81 5 = dt 81 5 := hF6 81 (by decide) 5
  have w34 : dt4 79 2 = dt 79 2 := hF6 79 (by decide) 2
  have w35 : dt4 79 12 = dt 79 12 := hF6 79 (by decide) 12
  rcases h3 with ⟨rfl, h3⟩ | ⟨v_h3, rfl, h3r, h3⟩
  · skip
    obtain ⟨h3_0, h3_1⟩ := h3
    have M236 : MW (dt4 81) := MW_frk hM2 hF6 (by decide)
    refine go_to (k := 6) (pc' := 1129) (L' := [some (.inr (.inr (some 3000))), some (.inr (.inr (some 0))), some (.inr (.inr (some 79))), some (.inl i)]) (st' := [.inl (i + 1), .inr (.inr (some 3000)), .inr (.inr (some 79))]) (w' := (SH, dt4)) (fun _ => rfl) ?_
    have r37 := i32_R (xs ((i + 1).toNat))
    refine go_smp (L' := [some (.inr (.inr (some 3000))), some (.inr (.inr (some 0))), some (.inr (.inr (some 79))), some (.inl i)]) (st' := [.inl ((xs ((i + 1).toNat)).toInt), .inr (.inr (some 79))]) (w' := (SH, dt4)) rfl rfl (s_iald (n := L) (f := fun j => (xs j).toInt) (am_scr hLL) ⟨by omega, by omega⟩) ?_
    refine go_to (k := 4) (pc' := 1134) (L' := [some (.inr (.inr (some 3000))), some (.inr (.inr (some 0))), some (.inr (.inr (some 79))), some (.inl i)]) (st' := [.inl (i + 2), .inr (.inr (some 3000)), .inl ((xs ((i + 1).toNat)).toInt), .inr (.inr (some 79))]) (w' := (SH, dt4)) (fun _ => rfl) ?_
    have r38 := i32_R (xs ((i + 2).toNat))
    refine go_smp (L' := [some (.inr (.inr (some 3000))), some (.inr (.inr (some 0))), some (.inr (.inr (some 79))), some (.inl i)]) (st' := [.inl ((xs ((i + 2).toNat)).toInt), .inl ((xs ((i + 1).toNat)).toInt), .inr (.inr (some 79))]) (w' := (SH, dt4)) rfl rfl (s_iald (n := L) (f := fun j => (xs j).toInt) (am_scr hLL) ⟨by omega, by omega⟩) ?_
    refine go_call (Q' := _) rfl rfl rfl rfl rfl (sp_X6_eyes L xs sio (d + 37) dt4 hI5 hM8  ((xs ((i + 1).toNat)).toInt) ⟨by omega, by omega⟩ ((xs ((i + 2).toNat)).toInt) ⟨by omega, by omega⟩ ) ?_
    rintro _ _ ⟨dt40, rfl, hI41, hF42, h39⟩
    refine ⟨rfl, ?_⟩
    have hF43 : Fr [0, 1, 2, 3, 4, 5, 6, 7, 8, 9, 10, 11, 12, 13, 14, 15, 16, 17, 18, 19, 20, 21, 22, 23, 24, 25, 26, 27, 28, 29, 30, 31, 32, 33, 34, 35, 36, 37, 38, 39, 40, 41, 42, 43, 44, 45, 46, 47, 48, 49, 50, 51, 52, 53, 54, 55, 56, 57, 58, 59, 60, 61, 62, 63, 64, 65, 66, 67, 68, 69, 70, 71, 72, 73, 74, 75, 76, 77, 78, 79, 80, 81, 82, 83, 84, 85, 86, 87, 88, 89, 90, 91, 92, 93, 94, 95, 96, 97, 98, 99, 100, 101, 102, 103, 104] dt dt40 := Fr_tr hF7 hF42 (by decide)
    have w44 : dt40 1 0 = dt4 1 0 := hF42 1 (by decide) 0
    have w45 : dt40 7 3 = dt4 7 3 := hF42 7 (by decide) 3
    have w46 : dt40 10 3 = dt4 10 3 := hF42 10 (by decide) 3
    have w47 : dt40 12 3 = dt4 12 3 := hF42 12 (by decide) 3
    have w48 : dt40 14 3 = dt4 14 3 := hF42 14 (by decide) 3
    have w49 : dt40 16 3 = dt4 16 3 := hF42 16 (by decide) 3
    have w50 : dt40 18 0 = dt4 18 0 := hF42 18 (by decide) 0
    have w51 : dt40 24 3 = dt4 24 3 := hF42 24 (by decide) 3
    have w52 : dt40 27 3 = dt4 27 3 := hF42 27 (by decide) 3
    have w53 : dt40 29 3 = dt4 29 3 := hF42 29 (by decide) 3
    have w54 : dt40 31 3 = dt4 31 3 := hF42 31 (by decide) 3
    have w55 : dt40 33 3 = dt4 33 3 := hF42 33 (by decide) 3
    have w56 : dt40 0 2 = dt4 0 2 := hF42 0 (by decide) 2
    have w57 : dt40 35 1 = dt4 35 1 := hF42 35 (by decide) 1
    have w58 : dt40 81 0 = dt4 81 0 := hF42 81 (by decide) 0
    have w59 : dt40 81 1 = dt4 81 1 := hF42 81 (by decide) 1
    have w60 : dt40 81 2 = dt4 81 2 := hF42 81 (by decide) 2
    have w61 : dt40 81 3 = dt4 81 3 := hF42 81 (by decide) 3
    have w62 : dt40 81 4 = dt4 81 4 := hF42 81 (by decide) 4
    have w63 : dt40 81 5 = dt4 81 5 := hF42 81 (by decide) 5
    have w64 : dt40 79 2 = dt4 79 2 := hF42 79 (by decide) 2
    have w65 : dt40 79 12 = dt4 79 12 := hF42 79 (by decide) 12
    rcases h39 with ⟨rfl, h39⟩ | ⟨v_h39, rfl, h39r, h39⟩
    · skip
      have hM66 : MW (dt40 80) := h39.2.1
      obtain ⟨h39_0, h39_1, h39_2, h39_3, h39_4, h39_5, h39_6, h39_7⟩ := h39
      have M267 : MW (dt40 81) := MW_frk M236 hF42 (by decide)
      refine go_to (k := 2) (pc' := 1435) (L' := [some (.inr (.inr (some 3000))), some (.inr (.inr (some 0))), some (.inr (.inr (some 79))), some (.inl i)]) (st' := []) (w' := (SH, dt40)) (fun _ => rfl) ?_
      exact K dt40 hI41 hM66 M267 (by first | omega | (simp only [*]; done) | simp only [*]) (by omega) (by omega) (by omega) (by omega) (by omega) (by omega) (by omega) (by omega) (by omega) (by omega) (by omega) (by omega) (by omega)
    · skip
      have hM68 : MW (dt40 80) := h39.2.2.1
      obtain ⟨h39_0, h39_1, h39_2, h39_3, h39_4, h39_5, h39_6, h39_7, h39_8⟩ := h39
      have M269 : MW (dt40 81) := MW_frk M236 hF42 (by decide)
      refine go_to (k := 2) (pc' := 1435) (L' := [some (.inr (.inr (some 3000))), some (.inr (.inr (some 0))), some (.inr (.inr (some 79))), some (.inl i)]) (st' := []) (w' := (SH, dt40)) (fun _ => rfl) ?_
      exact K dt40 hI41 hM68 M269 (by first | omega | (simp only [*]; done) | simp only [*]) (by omega) (by omega) (by omega) (by omega) (by omega) (by omega) (by omega) (by omega) (by omega) (by omega) (by omega) (by omega) (by omega)
  · skip
    obtain ⟨h3_0, h3_1, h3_2⟩ := h3
    have M270 : MW (dt4 81) := MW_frk hM2 hF6 (by decide)
    refine go_to (k := 6) (pc' := 1129) (L' := [some (.inr (.inr (some 3000))), some (.inr (.inr (some 0))), some (.inr (.inr (some 79))), some (.inl i)]) (st' := [.inl (i + 1), .inr (.inr (some 3000)), .inr (.inr (some 79))]) (w' := (SH, dt4)) (fun _ => rfl) ?_
    have r71 := i32_R (xs ((i + 1).toNat))
    refine go_smp (L' := [some (.inr (.inr (some 3000))), some (.inr (.inr (some 0))), some (.inr (.inr (some 79))), some (.inl i)]) (st' := [.inl ((xs ((i + 1).toNat)).toInt), .inr (.inr (some 79))]) (w' := (SH, dt4)) rfl rfl (s_iald (n := L) (f := fun j => (xs j).toInt) (am_scr hLL) ⟨by omega, by omega⟩) ?_
    refine go_to (k := 4) (pc' := 1134) (L' := [some (.inr (.inr (some 3000))), some (.inr (.inr (some 0))), some (.inr (.inr (some 79))), some (.inl i)]) (st' := [.inl (i + 2), .inr (.inr (some 3000)), .inl ((xs ((i + 1).toNat)).toInt), .inr (.inr (some 79))]) (w' := (SH, dt4)) (fun _ => rfl) ?_
    have r72 := i32_R (xs ((i + 2).toNat))
    refine go_smp (L' := [some (.inr (.inr (some 3000))), some (.inr (.inr (some 0))), some (.inr (.inr (some 79))), some (.inl i)]) (st' := [.inl ((xs ((i + 2).toNat)).toInt), .inl ((xs ((i + 1).toNat)).toInt), .inr (.inr (some 79))]) (w' := (SH, dt4)) rfl rfl (s_iald (n := L) (f := fun j => (xs j).toInt) (am_scr hLL) ⟨by omega, by omega⟩) ?_
    refine go_call (Q' := _) rfl rfl rfl rfl rfl (sp_X6_eyes L xs sio (d + 37) dt4 hI5 hM8  ((xs ((i + 1).toNat)).toInt) ⟨by omega, by omega⟩ ((xs ((i + 2).toNat)).toInt) ⟨by omega, by omega⟩ ) ?_
    rintro _ _ ⟨dt74, rfl, hI75, hF76, h73⟩
    refine ⟨rfl, ?_⟩
    have hF77 : Fr [0, 1, 2, 3, 4, 5, 6, 7, 8, 9, 10, 11, 12, 13, 14, 15, 16, 17, 18, 19, 20, 21, 22, 23, 24, 25, 26, 27, 28, 29, 30, 31, 32, 33, 34, 35, 36, 37, 38, 39, 40, 41, 42, 43, 44, 45, 46, 47, 48, 49, 50, 51, 52, 53, 54, 55, 56, 57, 58, 59, 60, 61, 62, 63, 64, 65, 66, 67, 68, 69, 70, 71, 72, 73, 74, 75, 76, 77, 78, 79, 80, 81, 82, 83, 84, 85, 86, 87, 88, 89, 90, 91, 92, 93, 94, 95, 96, 97, 98, 99, 100, 101, 102, 103, 104] dt dt74 := Fr_tr hF7 hF76 (by decide)
    have w78 : dt74 1 0 = dt4 1 0 := hF76 1 (by decide) 0
    have w79 : dt74 7 3 = dt4 7 3 := hF76 7 (by decide) 3
    have w80 : dt74 10 3 = dt4 10 3 := hF76 10 (by decide) 3
    have w81 : dt74 12 3 = dt4 12 3 := hF76 12 (by decide) 3
    have w82 : dt74 14 3 = dt4 14 3 := hF76 14 (by decide) 3
    have w83 : dt74 16 3 = dt4 16 3 := hF76 16 (by decide) 3
    have w84 : dt74 18 0 = dt4 18 0 := hF76 18 (by decide) 0
    have w85 : dt74 24 3 = dt4 24 3 := hF76 24 (by decide) 3
    have w86 : dt74 27 3 = dt4 27 3 := hF76 27 (by decide) 3
    have w87 : dt74 29 3 = dt4 29 3 := hF76 29 (by decide) 3
    have w88 : dt74 31 3 = dt4 31 3 := hF76 31 (by decide) 3
    have w89 : dt74 33 3 = dt4 33 3 := hF76 33 (by decide) 3
    have w90 : dt74 0 2 = dt4 0 2 := hF76 0 (by decide) 2
    have w91 : dt74 35 1 = dt4 35 1 := hF76 35 (by decide) 1
    have w92 : dt74 81 0 = dt4 81 0 := hF76 81 (by decide) 0
    have w93 : dt74 81 1 = dt4 81 1 := hF76 81 (by decide) 1
    have w94 : dt74 81 2 = dt4 81 2 := hF76 81 (by decide) 2
    have w95 : dt74 81 3 = dt4 81 3 := hF76 81 (by decide) 3
    have w96 : dt74 81 4 = dt4 81 4 := hF76 81 (by decide) 4
    have w97 : dt74 81 5 = dt4 81 5 := hF76 81 (by decide) 5
    have w98 : dt74 79 2 = dt4 79 2 := hF76 79 (by decide) 2
    have w99 : dt74 79 12 = dt4 79 12 := hF76 79 (by decide) 12
    rcases h73 with ⟨rfl, h73⟩ | ⟨v_h73, rfl, h73r, h73⟩
    · skip
      have hM100 : MW (dt74 80) := h73.2.1
      obtain ⟨h73_0, h73_1, h73_2, h73_3, h73_4, h73_5, h73_6, h73_7⟩ := h73
      have M2101 : MW (dt74 81) := MW_frk M270 hF76 (by decide)
      refine go_to (k := 2) (pc' := 1435) (L' := [some (.inr (.inr (some 3000))), some (.inr (.inr (some 0))), some (.inr (.inr (some 79))), some (.inl i)]) (st' := []) (w' := (SH, dt74)) (fun _ => rfl) ?_
      exact K dt74 hI75 hM100 M2101 (by first | omega | (simp only [*]; done) | simp only [*]) (by omega) (by omega) (by omega) (by omega) (by omega) (by omega) (by omega) (by omega) (by omega) (by omega) (by omega) (by omega) (by omega)
    · skip
      have hM102 : MW (dt74 80) := h73.2.2.1
      obtain ⟨h73_0, h73_1, h73_2, h73_3, h73_4, h73_5, h73_6, h73_7, h73_8⟩ := h73
      have M2103 : MW (dt74 81) := MW_frk M270 hF76 (by decide)
      refine go_to (k := 2) (pc' := 1435) (L' := [some (.inr (.inr (some 3000))), some (.inr (.inr (some 0))), some (.inr (.inr (some 79))), some (.inl i)]) (st' := []) (w' := (SH, dt74)) (fun _ => rfl) ?_
      exact K dt74 hI75 hM102 M2103 (by first | omega | (simp only [*]; done) | simp only [*]) (by omega) (by omega) (by omega) (by omega) (by omega) (by omega) (by omega) (by omega) (by omega) (by omega) (by omega) (by omega) (by omega)
set_option maxRecDepth 20000 in
set_option maxHeartbeats 8000000 in
theorem sp_case24 (L : Nat) (xs : Nat → Int32) (sio : Option Nat) (d : Nat) (Q : Option AV → am_W → Prop) (hLL : L ≤ 3072) (i : Int) (hi : 0 ≤ i ∧ i ≤ 3066) (hil : i ≤ (L : Int) - 6) (dt : Nat → Nat → Int) (hI : InvC dt) (hM : MW (dt 80)) (hM2 : MW (dt 81)) (hk0 : dt 1 0 = dt 80 0) (hk1 : dt 7 3 = dt 80 1) (hk2 : dt 10 3 = dt 80 2) (hk3 : dt 12 3 = dt 80 3) (hk4 : dt 14 3 = dt 80 4) (hk5 : dt 16 3 = dt 80 5) (hk6 : dt 18 0 = dt 81 0) (hk7 : dt 24 3 = dt 81 1) (hk8 : dt 27 3 = dt 81 2) (hk9 : dt 29 3 = dt 81 3) (hk10 : dt 31 3 = dt 81 4) (hk11 : dt 33 3 = dt 81 5) (hk12 : dt 0 2 = dt 79 2) (hk13 : dt 35 1 = dt 79 12) (K : ∀ (dt : Nat → Nat → Int) (hI : InvC dt) (hM : MW (dt 80)) (hM2 : MW (dt 81)) (hk0 : dt 1 0 = dt 80 0) (hk1 : dt 7 3 = dt 80 1) (hk2 : dt 10 3 = dt 80 2) (hk3 : dt 12 3 = dt 80 3) (hk4 : dt 14 3 = dt 80 4) (hk5 : dt 16 3 = dt 80 5) (hk6 : dt 18 0 = dt 81 0) (hk7 : dt 24 3 = dt 81 1) (hk8 : dt 27 3 = dt 81 2) (hk9 : dt 29 3 = dt 81 3) (hk10 : dt 31 3 = dt 81 4) (hk11 : dt 33 3 = dt 81 5) (hk12 : dt 0 2 = dt 79 2) (hk13 : dt 35 1 = dt 79 12), GO (am_XX L xs sio) (d + 39) 267 1435 [some (.inr (.inr (some 3000))), some (.inr (.inr (some 0))), some (.inr (.inr (some 79))), some (.inl i)] [] (SH, dt) Q) : GO (am_XX L xs sio) (d + 39) 267 1142 [some (.inr (.inr (some 3000))), some (.inr (.inr (some 0))), some (.inr (.inr (some 79))), some (.inl i)] [] (SH, dt) Q := by
  have hF : Fr [0, 1, 2, 3, 4, 5, 6, 7, 8, 9, 10, 11, 12, 13, 14, 15, 16, 17, 18, 19, 20, 21, 22, 23, 24, 25, 26, 27, 28, 29, 30, 31, 32, 33, 34, 35, 36, 37, 38, 39, 40, 41, 42, 43, 44, 45, 46, 47, 48, 49, 50, 51, 52, 53, 54, 55, 56, 57, 58, 59, 60, 61, 62, 63, 64, 65, 66, 67, 68, 69, 70, 71, 72, 73, 74, 75, 76, 77, 78, 79, 80, 81, 82, 83, 84, 85, 86, 87, 88, 89, 90, 91, 92, 93, 94, 95, 96, 97, 98, 99, 100, 101, 102, 103, 104] dt dt := Fr_refl
  refine go_to (k := 5) (pc' := 1147) (L' := [some (.inr (.inr (some 3000))), some (.inr (.inr (some 0))), some (.inr (.inr (some 79))), some (.inl i)]) (st' := [.inl (i + 1), .inr (.inr (some 3000)), .inr (.inr (some 0))]) (w' := (SH, dt)) (fun _ => rfl) ?_
  have r1 := i32_R (xs ((i + 1).toNat))
  refine go_smp (L' := [some (.inr (.inr (some 3000))), some (.inr (.inr (some 0))), some (.inr (.inr (some 79))), some (.inl i)]) (st' := [.inl ((xs ((i + 1).toNat)).toInt), .inr (.inr (some 0))]) (w' := (SH, dt)) rfl rfl (s_iald (n := L) (f := fun j => (xs j).toInt) (am_scr hLL) ⟨by omega, by omega⟩) ?_
  refine go_call (Q' := _) rfl rfl rfl rfl rfl (sp_X5_way L xs sio (d + 35) dt hI  ((xs ((i + 1).toNat)).toInt) ⟨by omega, by omega⟩ ) ?_
  rintro _ _ ⟨rfl, h2⟩
  refine ⟨rfl, ?_⟩
  rcases h2 with ⟨v_h2, rfl, h2r, h2⟩
  refine go_to (k := 6) (pc' := 1157) (L' := [some (.inr (.inr (some 3000))), some (.inr (.inr (some 0))), some (.inr (.inr (some 79))), some (.inl i)]) (st' := [.inl (i + 1), .inr (.inr (some 3000)), .inr (.inr (some 79))]) (w' := (SH, dt)) (fun _ => rfl) ?_
  refine go_smp (L' := [some (.inr (.inr (some 3000))), some (.inr (.inr (some 0))), some (.inr (.inr (some 79))), some (.inl i)]) (st' := [.inl ((xs ((i + 1).toNat)).toInt), .inr (.inr (some 79))]) (w' := (SH, dt)) rfl rfl (s_iald (n := L) (f := fun j => (xs j).toInt) (am_scr hLL) ⟨by omega, by omega⟩) ?_
  refine go_call (Q' := _) rfl rfl rfl rfl rfl (sp_X6_way L xs sio (d + 36) dt hI hM  ((xs ((i + 1).toNat)).toInt) ⟨by omega, by omega⟩ ) ?_
  rintro _ _ ⟨dt4, rfl, hI5, hF6, h3⟩
  refine ⟨rfl, ?_⟩
  have hF7 : Fr [0, 1, 2, 3, 4, 5, 6, 7, 8, 9, 10, 11, 12, 13, 14, 15, 16, 17, 18, 19, 20, 21, 22, 23, 24, 25, 26, 27, 28, 29, 30, 31, 32, 33, 34, 35, 36, 37, 38, 39, 40, 41, 42, 43, 44, 45, 46, 47, 48, 49, 50, 51, 52, 53, 54, 55, 56, 57, 58, 59, 60, 61, 62, 63, 64, 65, 66, 67, 68, 69, 70, 71, 72, 73, 74, 75, 76, 77, 78, 79, 80, 81, 82, 83, 84, 85, 86, 87, 88, 89, 90, 91, 92, 93, 94, 95, 96, 97, 98, 99, 100, 101, 102, 103, 104] dt dt4 := Fr_tr hF hF6 (by decide)
  have hM8 : MW (dt4 80) := MW_fr hM hF6 (by decide)
  have w9 : dt4 1 0 = dt 1 0 := hF6 1 (by decide) 0
  have w10 : dt4 7 3 = dt 7 3 := hF6 7 (by decide) 3
  have w11 : dt4 10 3 = dt 10 3 := hF6 10 (by decide) 3
  have w12 : dt4 12 3 = dt 12 3 := hF6 12 (by decide) 3
  have w13 : dt4 14 3 = dt 14 3 := hF6 14 (by decide) 3
  have w14 : dt4 16 3 = dt 16 3 := hF6 16 (by decide) 3
  have w15 : dt4 18 0 = dt 18 0 := hF6 18 (by decide) 0
  have w16 : dt4 24 3 = dt 24 3 := hF6 24 (by decide) 3
  have w17 : dt4 27 3 = dt 27 3 := hF6 27 (by decide) 3
  have w18 : dt4 29 3 = dt 29 3 := hF6 29 (by decide) 3
  have w19 : dt4 31 3 = dt 31 3 := hF6 31 (by decide) 3
  have w20 : dt4 33 3 = dt 33 3 := hF6 33 (by decide) 3
  have w21 : dt4 0 2 = dt 0 2 := hF6 0 (by decide) 2
  have w22 : dt4 35 1 = dt 35 1 := hF6 35 (by decide) 1
  have w23 : dt4 80 0 = dt 80 0 := hF6 80 (by decide) 0
  have w24 : dt4 80 1 = dt 80 1 := hF6 80 (by decide) 1
  have w25 : dt4 80 2 = dt 80 2 := hF6 80 (by decide) 2
  have w26 : dt4 80 3 = dt 80 3 := hF6 80 (by decide) 3
  have w27 : dt4 80 4 = dt 80 4 := hF6 80 (by decide) 4
  have w28 : dt4 80 5 = dt 80 5 := hF6 80 (by decide) 5
  have w29 : dt4 81 0 = dt 81 0 := hF6 81 (by decide) 0
  have w30 : dt4 81 1 = dt 81 1 := hF6 81 (by decide) 1
  have w31 : dt4 81 2 = dt 81 2 := hF6 81 (by decide) 2
  have w32 : dt4 81 3 = dt 81 3 := hF6 81 (by decide) 3
  have w33 : dt4 81 4 = dt 81 4 := hF6 81 (by decide) 4
  have w34 : dt4 81 5 = dt 81 5 := hF6 81 (by decide) 5
  have w35 : dt4 79 2 = dt 79 2 := hF6 79 (by decide) 2
  have w36 : dt4 79 12 = dt 79 12 := hF6 79 (by decide) 12
  rcases h3 with ⟨v_h3, rfl, h3r, h3⟩
  have M237 : MW (dt4 81) := MW_frk hM2 hF6 (by decide)
  refine go_to (k := 2) (pc' := 1435) (L' := [some (.inr (.inr (some 3000))), some (.inr (.inr (some 0))), some (.inr (.inr (some 79))), some (.inl i)]) (st' := []) (w' := (SH, dt4)) (fun _ => rfl) ?_
  exact K dt4 hI5 hM8 M237 (by first | omega | (simp only [*]; done) | simp only [*]) (by omega) (by omega) (by omega) (by omega) (by omega) (by omega) (by omega) (by omega) (by omega) (by omega) (by omega) (by omega) (by omega)
set_option maxRecDepth 20000 in
set_option maxHeartbeats 8000000 in
theorem sp_case25 (L : Nat) (xs : Nat → Int32) (sio : Option Nat) (d : Nat) (Q : Option AV → am_W → Prop) (hLL : L ≤ 3072) (i : Int) (hi : 0 ≤ i ∧ i ≤ 3066) (hil : i ≤ (L : Int) - 6) (dt : Nat → Nat → Int) (hI : InvC dt) (hM : MW (dt 80)) (hM2 : MW (dt 81)) (hk0 : dt 1 0 = dt 80 0) (hk1 : dt 7 3 = dt 80 1) (hk2 : dt 10 3 = dt 80 2) (hk3 : dt 12 3 = dt 80 3) (hk4 : dt 14 3 = dt 80 4) (hk5 : dt 16 3 = dt 80 5) (hk6 : dt 18 0 = dt 81 0) (hk7 : dt 24 3 = dt 81 1) (hk8 : dt 27 3 = dt 81 2) (hk9 : dt 29 3 = dt 81 3) (hk10 : dt 31 3 = dt 81 4) (hk11 : dt 33 3 = dt 81 5) (hk12 : dt 0 2 = dt 79 2) (hk13 : dt 35 1 = dt 79 12) (K : ∀ (dt : Nat → Nat → Int) (hI : InvC dt) (hM : MW (dt 80)) (hM2 : MW (dt 81)) (hk0 : dt 1 0 = dt 80 0) (hk1 : dt 7 3 = dt 80 1) (hk2 : dt 10 3 = dt 80 2) (hk3 : dt 12 3 = dt 80 3) (hk4 : dt 14 3 = dt 80 4) (hk5 : dt 16 3 = dt 80 5) (hk6 : dt 18 0 = dt 81 0) (hk7 : dt 24 3 = dt 81 1) (hk8 : dt 27 3 = dt 81 2) (hk9 : dt 29 3 = dt 81 3) (hk10 : dt 31 3 = dt 81 4) (hk11 : dt 33 3 = dt 81 5) (hk12 : dt 0 2 = dt 79 2) (hk13 : dt 35 1 = dt 79 12), GO (am_XX L xs sio) (d + 39) 267 1435 [some (.inr (.inr (some 3000))), some (.inr (.inr (some 0))), some (.inr (.inr (some 79))), some (.inl i)] [] (SH, dt) Q) : GO (am_XX L xs sio) (d + 39) 267 1165 [some (.inr (.inr (some 3000))), some (.inr (.inr (some 0))), some (.inr (.inr (some 79))), some (.inl i)] [] (SH, dt) Q := by
  have hF : Fr [0, 1, 2, 3, 4, 5, 6, 7, 8, 9, 10, 11, 12, 13, 14, 15, 16, 17, 18, 19, 20, 21, 22, 23, 24, 25, 26, 27, 28, 29, 30, 31, 32, 33, 34, 35, 36, 37, 38, 39, 40, 41, 42, 43, 44, 45, 46, 47, 48, 49, 50, 51, 52, 53, 54, 55, 56, 57, 58, 59, 60, 61, 62, 63, 64, 65, 66, 67, 68, 69, 70, 71, 72, 73, 74, 75, 76, 77, 78, 79, 80, 81, 82, 83, 84, 85, 86, 87, 88, 89, 90, 91, 92, 93, 94, 95, 96, 97, 98, 99, 100, 101, 102, 103, 104] dt dt := Fr_refl
  refine go_to (k := 5) (pc' := 1170) (L' := [some (.inr (.inr (some 3000))), some (.inr (.inr (some 0))), some (.inr (.inr (some 79))), some (.inl i)]) (st' := [.inl (i + 1), .inr (.inr (some 3000)), .inr (.inr (some 0))]) (w' := (SH, dt)) (fun _ => rfl) ?_
  have r1 := i32_R (xs ((i + 1).toNat))
  refine go_smp (L' := [some (.inr (.inr (some 3000))), some (.inr (.inr (some 0))), some (.inr (.inr (some 79))), some (.inl i)]) (st' := [.inl ((xs ((i + 1).toNat)).toInt), .inr (.inr (some 0))]) (w' := (SH, dt)) rfl rfl (s_iald (n := L) (f := fun j => (xs j).toInt) (am_scr hLL) ⟨by omega, by omega⟩) ?_
  refine go_to (k := 4) (pc' := 1175) (L' := [some (.inr (.inr (some 3000))), some (.inr (.inr (some 0))), some (.inr (.inr (some 79))), some (.inl i)]) (st' := [.inl (i + 2), .inr (.inr (some 3000)), .inl ((xs ((i + 1).toNat)).toInt), .inr (.inr (some 0))]) (w' := (SH, dt)) (fun _ => rfl) ?_
  have r2 := i32_R (xs ((i + 2).toNat))
  refine go_smp (L' := [some (.inr (.inr (some 3000))), some (.inr (.inr (some 0))), some (.inr (.inr (some 79))), some (.inl i)]) (st' := [.inl ((xs ((i + 2).toNat)).toInt), .inl ((xs ((i + 1).toNat)).toInt), .inr (.inr (some 0))]) (w' := (SH, dt)) rfl rfl (s_iald (n := L) (f := fun j => (xs j).toInt) (am_scr hLL) ⟨by omega, by omega⟩) ?_
  refine go_call (Q' := _) rfl rfl rfl rfl rfl (sp_X5_house L xs sio (d + 36) dt hI  ((xs ((i + 1).toNat)).toInt) ⟨by omega, by omega⟩ ((xs ((i + 2).toNat)).toInt) ⟨by omega, by omega⟩ ) ?_
  rintro _ _ ⟨dt4, rfl, hI5, hF6, h3⟩
  refine ⟨rfl, ?_⟩
  have hF7 : Fr [0, 1, 2, 3, 4, 5, 6, 7, 8, 9, 10, 11, 12, 13, 14, 15, 16, 17, 18, 19, 20, 21, 22, 23, 24, 25, 26, 27, 28, 29, 30, 31, 32, 33, 34, 35, 36, 37, 38, 39, 40, 41, 42, 43, 44, 45, 46, 47, 48, 49, 50, 51, 52, 53, 54, 55, 56, 57, 58, 59, 60, 61, 62, 63, 64, 65, 66, 67, 68, 69, 70, 71, 72, 73, 74, 75, 76, 77, 78, 79, 80, 81, 82, 83, 84, 85, 86, 87, 88, 89, 90, 91, 92, 93, 94, 95, 96, 97, 98, 99, 100, 101, 102, 103, 104] dt dt4 := Fr_tr hF hF6 (by decide)
  have hM8 : MW (dt4 80) := MW_fr hM hF6 (by decide)
  have w9 : dt4 1 0 = dt 1 0 := hF6 1 (by decide) 0
  have w10 : dt4 7 3 = dt 7 3 := hF6 7 (by decide) 3
  have w11 : dt4 10 3 = dt 10 3 := hF6 10 (by decide) 3
  have w12 : dt4 12 3 = dt 12 3 := hF6 12 (by decide) 3
  have w13 : dt4 14 3 = dt 14 3 := hF6 14 (by decide) 3
  have w14 : dt4 18 0 = dt 18 0 := hF6 18 (by decide) 0
  have w15 : dt4 24 3 = dt 24 3 := hF6 24 (by decide) 3
  have w16 : dt4 27 3 = dt 27 3 := hF6 27 (by decide) 3
  have w17 : dt4 29 3 = dt 29 3 := hF6 29 (by decide) 3
  have w18 : dt4 31 3 = dt 31 3 := hF6 31 (by decide) 3
  have w19 : dt4 33 3 = dt 33 3 := hF6 33 (by decide) 3
  have w20 : dt4 0 2 = dt 0 2 := hF6 0 (by decide) 2
  have w21 : dt4 35 1 = dt 35 1 := hF6 35 (by decide) 1
  have w22 : dt4 80 0 = dt 80 0 := hF6 80 (by decide) 0
  have w23 : dt4 80 1 = dt 80 1 := hF6 80 (by decide) 1
  have w24 : dt4 80 2 = dt 80 2 := hF6 80 (by decide) 2
  have w25 : dt4 80 3 = dt 80 3 := hF6 80 (by decide) 3
  have w26 : dt4 80 4 = dt 80 4 := hF6 80 (by decide) 4
  have w27 : dt4 80 5 = dt 80 5 := hF6 80 (by decide) 5
  have w28 : dt4 81 0 = dt 81 0 := hF6 81 (by decide) 0
  have w29 : dt4 81 1 = dt 81 1 := hF6 81 (by decide) 1
  have w30 : dt4 81 2 = dt 81 2 := hF6 81 (by decide) 2
  have w31 : dt4 81 3 = dt 81 3 := hF6 81 (by decide) 3
  have w32 : dt4 81 4 = dt 81 4 := hF6 81 (by decide) 4
  have w33 : dt4 81 5 = dt 81 5 := hF6 81 (by decide) 5
  have w34 : dt4 79 2 = dt 79 2 := hF6 79 (by decide) 2
  have w35 : dt4 79 12 = dt 79 12 := hF6 79 (by decide) 12
  rcases h3 with ⟨rfl, h3⟩ | ⟨v_h3, rfl, h3r, h3⟩
  · skip
    obtain ⟨h3_0, h3_1⟩ := h3
    have M236 : MW (dt4 81) := MW_frk hM2 hF6 (by decide)
    refine go_to (k := 6) (pc' := 1185) (L' := [some (.inr (.inr (some 3000))), some (.inr (.inr (some 0))), some (.inr (.inr (some 79))), some (.inl i)]) (st' := [.inl (i + 1), .inr (.inr (some 3000)), .inr (.inr (some 79))]) (w' := (SH, dt4)) (fun _ => rfl) ?_
    have r37 := i32_R (xs ((i + 1).toNat))
    refine go_smp (L' := [some (.inr (.inr (some 3000))), some (.inr (.inr (some 0))), some (.inr (.inr (some 79))), some (.inl i)]) (st' := [.inl ((xs ((i + 1).toNat)).toInt), .inr (.inr (some 79))]) (w' := (SH, dt4)) rfl rfl (s_iald (n := L) (f := fun j => (xs j).toInt) (am_scr hLL) ⟨by omega, by omega⟩) ?_
    refine go_to (k := 4) (pc' := 1190) (L' := [some (.inr (.inr (some 3000))), some (.inr (.inr (some 0))), some (.inr (.inr (some 79))), some (.inl i)]) (st' := [.inl (i + 2), .inr (.inr (some 3000)), .inl ((xs ((i + 1).toNat)).toInt), .inr (.inr (some 79))]) (w' := (SH, dt4)) (fun _ => rfl) ?_
    have r38 := i32_R (xs ((i + 2).toNat))
    refine go_smp (L' := [some (.inr (.inr (some 3000))), some (.inr (.inr (some 0))), some (.inr (.inr (some 79))), some (.inl i)]) (st' := [.inl ((xs ((i + 2).toNat)).toInt), .inl ((xs ((i + 1).toNat)).toInt), .inr (.inr (some 79))]) (w' := (SH, dt4)) rfl rfl (s_iald (n := L) (f := fun j => (xs j).toInt) (am_scr hLL) ⟨by omega, by omega⟩) ?_
    refine go_call (Q' := _) rfl rfl rfl rfl rfl (sp_X6_house L xs sio (d + 37) dt4 hI5 hM8  ((xs ((i + 1).toNat)).toInt) ⟨by omega, by omega⟩ ((xs ((i + 2).toNat)).toInt) ⟨by omega, by omega⟩ ) ?_
    rintro _ _ ⟨dt40, rfl, hI41, hF42, h39⟩
    refine ⟨rfl, ?_⟩
    have hF43 : Fr [0, 1, 2, 3, 4, 5, 6, 7, 8, 9, 10, 11, 12, 13, 14, 15, 16, 17, 18, 19, 20, 21, 22, 23, 24, 25, 26, 27, 28, 29, 30, 31, 32, 33, 34, 35, 36, 37, 38, 39, 40, 41, 42, 43, 44, 45, 46, 47, 48, 49, 50, 51, 52, 53, 54, 55, 56, 57, 58, 59, 60, 61, 62, 63, 64, 65, 66, 67, 68, 69, 70, 71, 72, 73, 74, 75, 76, 77, 78, 79, 80, 81, 82, 83, 84, 85, 86, 87, 88, 89, 90, 91, 92, 93, 94, 95, 96, 97, 98, 99, 100, 101, 102, 103, 104] dt dt40 := Fr_tr hF7 hF42 (by decide)
    have w44 : dt40 1 0 = dt4 1 0 := hF42 1 (by decide) 0
    have w45 : dt40 7 3 = dt4 7 3 := hF42 7 (by decide) 3
    have w46 : dt40 10 3 = dt4 10 3 := hF42 10 (by decide) 3
    have w47 : dt40 12 3 = dt4 12 3 := hF42 12 (by decide) 3
    have w48 : dt40 14 3 = dt4 14 3 := hF42 14 (by decide) 3
    have w49 : dt40 16 3 = dt4 16 3 := hF42 16 (by decide) 3
    have w50 : dt40 18 0 = dt4 18 0 := hF42 18 (by decide) 0
    have w51 : dt40 24 3 = dt4 24 3 := hF42 24 (by decide) 3
    have w52 : dt40 27 3 = dt4 27 3 := hF42 27 (by decide) 3
    have w53 : dt40 29 3 = dt4 29 3 := hF42 29 (by decide) 3
    have w54 : dt40 31 3 = dt4 31 3 := hF42 31 (by decide) 3
    have w55 : dt40 33 3 = dt4 33 3 := hF42 33 (by decide) 3
    have w56 : dt40 0 2 = dt4 0 2 := hF42 0 (by decide) 2
    have w57 : dt40 35 1 = dt4 35 1 := hF42 35 (by decide) 1
    have w58 : dt40 81 0 = dt4 81 0 := hF42 81 (by decide) 0
    have w59 : dt40 81 1 = dt4 81 1 := hF42 81 (by decide) 1
    have w60 : dt40 81 2 = dt4 81 2 := hF42 81 (by decide) 2
    have w61 : dt40 81 3 = dt4 81 3 := hF42 81 (by decide) 3
    have w62 : dt40 81 4 = dt4 81 4 := hF42 81 (by decide) 4
    have w63 : dt40 81 5 = dt4 81 5 := hF42 81 (by decide) 5
    have w64 : dt40 79 2 = dt4 79 2 := hF42 79 (by decide) 2
    have w65 : dt40 79 12 = dt4 79 12 := hF42 79 (by decide) 12
    rcases h39 with ⟨rfl, h39⟩ | ⟨v_h39, rfl, h39r, h39⟩
    · skip
      have hM66 : MW (dt40 80) := h39.2.1
      obtain ⟨h39_0, h39_1, h39_2, h39_3, h39_4, h39_5, h39_6, h39_7⟩ := h39
      have M267 : MW (dt40 81) := MW_frk M236 hF42 (by decide)
      refine go_to (k := 2) (pc' := 1435) (L' := [some (.inr (.inr (some 3000))), some (.inr (.inr (some 0))), some (.inr (.inr (some 79))), some (.inl i)]) (st' := []) (w' := (SH, dt40)) (fun _ => rfl) ?_
      exact K dt40 hI41 hM66 M267 (by first | omega | (simp only [*]; done) | simp only [*]) (by omega) (by omega) (by omega) (by omega) (by omega) (by omega) (by omega) (by omega) (by omega) (by omega) (by omega) (by omega) (by omega)
    · skip
      have hM68 : MW (dt40 80) := h39.2.2.1
      obtain ⟨h39_0, h39_1, h39_2, h39_3, h39_4, h39_5, h39_6, h39_7, h39_8⟩ := h39
      have M269 : MW (dt40 81) := MW_frk M236 hF42 (by decide)
      refine go_to (k := 2) (pc' := 1435) (L' := [some (.inr (.inr (some 3000))), some (.inr (.inr (some 0))), some (.inr (.inr (some 79))), some (.inl i)]) (st' := []) (w' := (SH, dt40)) (fun _ => rfl) ?_
      exact K dt40 hI41 hM68 M269 (by first | omega | (simp only [*]; done) | simp only [*]) (by omega) (by omega) (by omega) (by omega) (by omega) (by omega) (by omega) (by omega) (by omega) (by omega) (by omega) (by omega) (by omega)
  · skip
    obtain ⟨h3_0, h3_1, h3_2⟩ := h3
    have M270 : MW (dt4 81) := MW_frk hM2 hF6 (by decide)
    refine go_to (k := 6) (pc' := 1185) (L' := [some (.inr (.inr (some 3000))), some (.inr (.inr (some 0))), some (.inr (.inr (some 79))), some (.inl i)]) (st' := [.inl (i + 1), .inr (.inr (some 3000)), .inr (.inr (some 79))]) (w' := (SH, dt4)) (fun _ => rfl) ?_
    have r71 := i32_R (xs ((i + 1).toNat))
    refine go_smp (L' := [some (.inr (.inr (some 3000))), some (.inr (.inr (some 0))), some (.inr (.inr (some 79))), some (.inl i)]) (st' := [.inl ((xs ((i + 1).toNat)).toInt), .inr (.inr (some 79))]) (w' := (SH, dt4)) rfl rfl (s_iald (n := L) (f := fun j => (xs j).toInt) (am_scr hLL) ⟨by omega, by omega⟩) ?_
    refine go_to (k := 4) (pc' := 1190) (L' := [some (.inr (.inr (some 3000))), some (.inr (.inr (some 0))), some (.inr (.inr (some 79))), some (.inl i)]) (st' := [.inl (i + 2), .inr (.inr (some 3000)), .inl ((xs ((i + 1).toNat)).toInt), .inr (.inr (some 79))]) (w' := (SH, dt4)) (fun _ => rfl) ?_
    have r72 := i32_R (xs ((i + 2).toNat))
    refine go_smp (L' := [some (.inr (.inr (some 3000))), some (.inr (.inr (some 0))), some (.inr (.inr (some 79))), some (.inl i)]) (st' := [.inl ((xs ((i + 2).toNat)).toInt), .inl ((xs ((i + 1).toNat)).toInt), .inr (.inr (some 79))]) (w' := (SH, dt4)) rfl rfl (s_iald (n := L) (f := fun j => (xs j).toInt) (am_scr hLL) ⟨by omega, by omega⟩) ?_
    refine go_call (Q' := _) rfl rfl rfl rfl rfl (sp_X6_house L xs sio (d + 37) dt4 hI5 hM8  ((xs ((i + 1).toNat)).toInt) ⟨by omega, by omega⟩ ((xs ((i + 2).toNat)).toInt) ⟨by omega, by omega⟩ ) ?_
    rintro _ _ ⟨dt74, rfl, hI75, hF76, h73⟩
    refine ⟨rfl, ?_⟩
    have hF77 : Fr [0, 1, 2, 3, 4, 5, 6, 7, 8, 9, 10, 11, 12, 13, 14, 15, 16, 17, 18, 19, 20, 21, 22, 23, 24, 25, 26, 27, 28, 29, 30, 31, 32, 33, 34, 35, 36, 37, 38, 39, 40, 41, 42, 43, 44, 45, 46, 47, 48, 49, 50, 51, 52, 53, 54, 55, 56, 57, 58, 59, 60, 61, 62, 63, 64, 65, 66, 67, 68, 69, 70, 71, 72, 73, 74, 75, 76, 77, 78, 79, 80, 81, 82, 83, 84, 85, 86, 87, 88, 89, 90, 91, 92, 93, 94, 95, 96, 97, 98, 99, 100, 101, 102, 103, 104] dt dt74 := Fr_tr hF7 hF76 (by decide)
    have w78 : dt74 1 0 = dt4 1 0 := hF76 1 (by decide) 0
    have w79 : dt74 7 3 = dt4 7 3 := hF76 7 (by decide) 3
    have w80 : dt74 10 3 = dt4 10 3 := hF76 10 (by decide) 3
    have w81 : dt74 12 3 = dt4 12 3 := hF76 12 (by decide) 3
    have w82 : dt74 14 3 = dt4 14 3 := hF76 14 (by decide) 3
    have w83 : dt74 16 3 = dt4 16 3 := hF76 16 (by decide) 3
    have w84 : dt74 18 0 = dt4 18 0 := hF76 18 (by decide) 0
    have w85 : dt74 24 3 = dt4 24 3 := hF76 24 (by decide) 3
    have w86 : dt74 27 3 = dt4 27 3 := hF76 27 (by decide) 3
    have w87 : dt74 29 3 = dt4 29 3 := hF76 29 (by decide) 3
    have w88 : dt74 31 3 = dt4 31 3 := hF76 31 (by decide) 3
    have w89 : dt74 33 3 = dt4 33 3 := hF76 33 (by decide) 3
    have w90 : dt74 0 2 = dt4 0 2 := hF76 0 (by decide) 2
    have w91 : dt74 35 1 = dt4 35 1 := hF76 35 (by decide) 1
    have w92 : dt74 81 0 = dt4 81 0 := hF76 81 (by decide) 0
    have w93 : dt74 81 1 = dt4 81 1 := hF76 81 (by decide) 1
    have w94 : dt74 81 2 = dt4 81 2 := hF76 81 (by decide) 2
    have w95 : dt74 81 3 = dt4 81 3 := hF76 81 (by decide) 3
    have w96 : dt74 81 4 = dt4 81 4 := hF76 81 (by decide) 4
    have w97 : dt74 81 5 = dt4 81 5 := hF76 81 (by decide) 5
    have w98 : dt74 79 2 = dt4 79 2 := hF76 79 (by decide) 2
    have w99 : dt74 79 12 = dt4 79 12 := hF76 79 (by decide) 12
    rcases h73 with ⟨rfl, h73⟩ | ⟨v_h73, rfl, h73r, h73⟩
    · skip
      have hM100 : MW (dt74 80) := h73.2.1
      obtain ⟨h73_0, h73_1, h73_2, h73_3, h73_4, h73_5, h73_6, h73_7⟩ := h73
      have M2101 : MW (dt74 81) := MW_frk M270 hF76 (by decide)
      refine go_to (k := 2) (pc' := 1435) (L' := [some (.inr (.inr (some 3000))), some (.inr (.inr (some 0))), some (.inr (.inr (some 79))), some (.inl i)]) (st' := []) (w' := (SH, dt74)) (fun _ => rfl) ?_
      exact K dt74 hI75 hM100 M2101 (by first | omega | (simp only [*]; done) | simp only [*]) (by omega) (by omega) (by omega) (by omega) (by omega) (by omega) (by omega) (by omega) (by omega) (by omega) (by omega) (by omega) (by omega)
    · skip
      have hM102 : MW (dt74 80) := h73.2.2.1
      obtain ⟨h73_0, h73_1, h73_2, h73_3, h73_4, h73_5, h73_6, h73_7, h73_8⟩ := h73
      have M2103 : MW (dt74 81) := MW_frk M270 hF76 (by decide)
      refine go_to (k := 2) (pc' := 1435) (L' := [some (.inr (.inr (some 3000))), some (.inr (.inr (some 0))), some (.inr (.inr (some 79))), some (.inl i)]) (st' := []) (w' := (SH, dt74)) (fun _ => rfl) ?_
      exact K dt74 hI75 hM102 M2103 (by first | omega | (simp only [*]; done) | simp only [*]) (by omega) (by omega) (by omega) (by omega) (by omega) (by omega) (by omega) (by omega) (by omega) (by omega) (by omega) (by omega) (by omega)
set_option maxRecDepth 20000 in
set_option maxHeartbeats 8000000 in
theorem sp_case26 (L : Nat) (xs : Nat → Int32) (sio : Option Nat) (d : Nat) (Q : Option AV → am_W → Prop) (hLL : L ≤ 3072) (i : Int) (hi : 0 ≤ i ∧ i ≤ 3066) (hil : i ≤ (L : Int) - 6) (dt : Nat → Nat → Int) (hI : InvC dt) (hM : MW (dt 80)) (hM2 : MW (dt 81)) (hk0 : dt 1 0 = dt 80 0) (hk1 : dt 7 3 = dt 80 1) (hk2 : dt 10 3 = dt 80 2) (hk3 : dt 12 3 = dt 80 3) (hk4 : dt 14 3 = dt 80 4) (hk5 : dt 16 3 = dt 80 5) (hk6 : dt 18 0 = dt 81 0) (hk7 : dt 24 3 = dt 81 1) (hk8 : dt 27 3 = dt 81 2) (hk9 : dt 29 3 = dt 81 3) (hk10 : dt 31 3 = dt 81 4) (hk11 : dt 33 3 = dt 81 5) (hk12 : dt 0 2 = dt 79 2) (hk13 : dt 35 1 = dt 79 12) (K : ∀ (dt : Nat → Nat → Int) (hI : InvC dt) (hM : MW (dt 80)) (hM2 : MW (dt 81)) (hk0 : dt 1 0 = dt 80 0) (hk1 : dt 7 3 = dt 80 1) (hk2 : dt 10 3 = dt 80 2) (hk3 : dt 12 3 = dt 80 3) (hk4 : dt 14 3 = dt 80 4) (hk5 : dt 16 3 = dt 80 5) (hk6 : dt 18 0 = dt 81 0) (hk7 : dt 24 3 = dt 81 1) (hk8 : dt 27 3 = dt 81 2) (hk9 : dt 29 3 = dt 81 3) (hk10 : dt 31 3 = dt 81 4) (hk11 : dt 33 3 = dt 81 5) (hk12 : dt 0 2 = dt 79 2) (hk13 : dt 35 1 = dt 79 12), GO (am_XX L xs sio) (d + 39) 267 1435 [some (.inr (.inr (some 3000))), some (.inr (.inr (some 0))), some (.inr (.inr (some 79))), some (.inl i)] [] (SH, dt) Q) : GO (am_XX L xs sio) (d + 39) 267 1198 [some (.inr (.inr (some 3000))), some (.inr (.inr (some 0))), some (.inr (.inr (some 79))), some (.inl i)] [] (SH, dt) Q := by
  have hF : Fr [0, 1, 2, 3, 4, 5, 6, 7, 8, 9, 10, 11, 12, 13, 14, 15, 16, 17, 18, 19, 20, 21, 22, 23, 24, 25, 26, 27, 28, 29, 30, 31, 32, 33, 34, 35, 36, 37, 38, 39, 40, 41, 42, 43, 44, 45, 46, 47, 48, 49, 50, 51, 52, 53, 54, 55, 56, 57, 58, 59, 60, 61, 62, 63, 64, 65, 66, 67, 68, 69, 70, 71, 72, 73, 74, 75, 76, 77, 78, 79, 80, 81, 82, 83, 84, 85, 86, 87, 88, 89, 90, 91, 92, 93, 94, 95, 96, 97, 98, 99, 100, 101, 102, 103, 104] dt dt := Fr_refl
  refine go_to (k := 5) (pc' := 1203) (L' := [some (.inr (.inr (some 3000))), some (.inr (.inr (some 0))), some (.inr (.inr (some 79))), some (.inl i)]) (st' := [.inl (i + 1), .inr (.inr (some 3000)), .inr (.inr (some 0))]) (w' := (SH, dt)) (fun _ => rfl) ?_
  have r1 := i32_R (xs ((i + 1).toNat))
  refine go_smp (L' := [some (.inr (.inr (some 3000))), some (.inr (.inr (some 0))), some (.inr (.inr (some 79))), some (.inl i)]) (st' := [.inl ((xs ((i + 1).toNat)).toInt), .inr (.inr (some 0))]) (w' := (SH, dt)) rfl rfl (s_iald (n := L) (f := fun j => (xs j).toInt) (am_scr hLL) ⟨by omega, by omega⟩) ?_
  refine go_call (Q' := _) rfl rfl rfl rfl rfl (sp_X5_houses L xs sio (d + 34) dt hI  ((xs ((i + 1).toNat)).toInt) ⟨by omega, by omega⟩ ) ?_
  rintro _ _ ⟨rfl, h2⟩
  refine ⟨rfl, ?_⟩
  rcases h2 with ⟨v_h2, rfl, h2r, h2⟩
  refine go_to (k := 6) (pc' := 1213) (L' := [some (.inr (.inr (some 3000))), some (.inr (.inr (some 0))), some (.inr (.inr (some 79))), some (.inl i)]) (st' := [.inl (i + 1), .inr (.inr (some 3000)), .inr (.inr (some 79))]) (w' := (SH, dt)) (fun _ => rfl) ?_
  refine go_smp (L' := [some (.inr (.inr (some 3000))), some (.inr (.inr (some 0))), some (.inr (.inr (some 79))), some (.inl i)]) (st' := [.inl ((xs ((i + 1).toNat)).toInt), .inr (.inr (some 79))]) (w' := (SH, dt)) rfl rfl (s_iald (n := L) (f := fun j => (xs j).toInt) (am_scr hLL) ⟨by omega, by omega⟩) ?_
  refine go_call (Q' := _) rfl rfl rfl rfl rfl (sp_X6_houses L xs sio (d + 37) dt hI hM  ((xs ((i + 1).toNat)).toInt) ⟨by omega, by omega⟩ ) ?_
  rintro _ _ ⟨rfl, h3⟩
  refine ⟨rfl, ?_⟩
  rcases h3 with ⟨v_h3, rfl, h3r, h3⟩
  refine go_to (k := 2) (pc' := 1435) (L' := [some (.inr (.inr (some 3000))), some (.inr (.inr (some 0))), some (.inr (.inr (some 79))), some (.inl i)]) (st' := []) (w' := (SH, dt)) (fun _ => rfl) ?_
  exact K dt hI hM hM2 (by first | omega | (simp only [*]; done) | simp only [*]) (by omega) (by omega) (by omega) (by omega) (by omega) (by omega) (by omega) (by omega) (by omega) (by omega) (by omega) (by omega) (by omega)
set_option maxRecDepth 20000 in
set_option maxHeartbeats 8000000 in
theorem sp_case27 (L : Nat) (xs : Nat → Int32) (sio : Option Nat) (d : Nat) (Q : Option AV → am_W → Prop) (hLL : L ≤ 3072) (i : Int) (hi : 0 ≤ i ∧ i ≤ 3066) (hil : i ≤ (L : Int) - 6) (dt : Nat → Nat → Int) (hI : InvC dt) (hM : MW (dt 80)) (hM2 : MW (dt 81)) (hk0 : dt 1 0 = dt 80 0) (hk1 : dt 7 3 = dt 80 1) (hk2 : dt 10 3 = dt 80 2) (hk3 : dt 12 3 = dt 80 3) (hk4 : dt 14 3 = dt 80 4) (hk5 : dt 16 3 = dt 80 5) (hk6 : dt 18 0 = dt 81 0) (hk7 : dt 24 3 = dt 81 1) (hk8 : dt 27 3 = dt 81 2) (hk9 : dt 29 3 = dt 81 3) (hk10 : dt 31 3 = dt 81 4) (hk11 : dt 33 3 = dt 81 5) (hk12 : dt 0 2 = dt 79 2) (hk13 : dt 35 1 = dt 79 12) (K : ∀ (dt : Nat → Nat → Int) (hI : InvC dt) (hM : MW (dt 80)) (hM2 : MW (dt 81)) (hk0 : dt 1 0 = dt 80 0) (hk1 : dt 7 3 = dt 80 1) (hk2 : dt 10 3 = dt 80 2) (hk3 : dt 12 3 = dt 80 3) (hk4 : dt 14 3 = dt 80 4) (hk5 : dt 16 3 = dt 80 5) (hk6 : dt 18 0 = dt 81 0) (hk7 : dt 24 3 = dt 81 1) (hk8 : dt 27 3 = dt 81 2) (hk9 : dt 29 3 = dt 81 3) (hk10 : dt 31 3 = dt 81 4) (hk11 : dt 33 3 = dt 81 5) (hk12 : dt 0 2 = dt 79 2) (hk13 : dt 35 1 = dt 79 12), GO (am_XX L xs sio) (d + 39) 267 1435 [some (.inr (.inr (some 3000))), some (.inr (.inr (some 0))), some (.inr (.inr (some 79))), some (.inl i)] [] (SH, dt) Q) : GO (am_XX L xs sio) (d + 39) 267 1221 [some (.inr (.inr (some 3000))), some (.inr (.inr (some 0))), some (.inr (.inr (some 79))), some (.inl i)] [] (SH, dt) Q := by
  have hF : Fr [0, 1, 2, 3, 4, 5, 6, 7, 8, 9, 10, 11, 12, 13, 14, 15, 16, 17, 18, 19, 20, 21, 22, 23, 24, 25, 26, 27, 28, 29, 30, 31, 32, 33, 34, 35, 36, 37, 38, 39, 40, 41, 42, 43, 44, 45, 46, 47, 48, 49, 50, 51, 52, 53, 54, 55, 56, 57, 58, 59, 60, 61, 62, 63, 64, 65, 66, 67, 68, 69, 70, 71, 72, 73, 74, 75, 76, 77, 78, 79, 80, 81, 82, 83, 84, 85, 86, 87, 88, 89, 90, 91, 92, 93, 94, 95, 96, 97, 98, 99, 100, 101, 102, 103, 104] dt dt := Fr_refl
  refine go_to (k := 5) (pc' := 1226) (L' := [some (.inr (.inr (some 3000))), some (.inr (.inr (some 0))), some (.inr (.inr (some 79))), some (.inl i)]) (st' := [.inl (i + 1), .inr (.inr (some 3000)), .inr (.inr (some 0))]) (w' := (SH, dt)) (fun _ => rfl) ?_
  have r1 := i32_R (xs ((i + 1).toNat))
  refine go_smp (L' := [some (.inr (.inr (some 3000))), some (.inr (.inr (some 0))), some (.inr (.inr (some 79))), some (.inl i)]) (st' := [.inl ((xs ((i + 1).toNat)).toInt), .inr (.inr (some 0))]) (w' := (SH, dt)) rfl rfl (s_iald (n := L) (f := fun j => (xs j).toInt) (am_scr hLL) ⟨by omega, by omega⟩) ?_
  refine go_to (k := 4) (pc' := 1231) (L' := [some (.inr (.inr (some 3000))), some (.inr (.inr (some 0))), some (.inr (.inr (some 79))), some (.inl i)]) (st' := [.inl (i + 2), .inr (.inr (some 3000)), .inl ((xs ((i + 1).toNat)).toInt), .inr (.inr (some 0))]) (w' := (SH, dt)) (fun _ => rfl) ?_
  have r2 := i32_R (xs ((i + 2).toNat))
  refine go_smp (L' := [some (.inr (.inr (some 3000))), some (.inr (.inr (some 0))), some (.inr (.inr (some 79))), some (.inl i)]) (st' := [.inl ((xs ((i + 2).toNat)).toInt), .inl ((xs ((i + 1).toNat)).toInt), .inr (.inr (some 0))]) (w' := (SH, dt)) rfl rfl (s_iald (n := L) (f := fun j => (xs j).toInt) (am_scr hLL) ⟨by omega, by omega⟩) ?_
  refine go_call (Q' := _) rfl rfl rfl rfl rfl (sp_X5_sorts L xs sio (d + 33) dt hI  ((xs ((i + 1).toNat)).toInt) ⟨by omega, by omega⟩ ((xs ((i + 2).toNat)).toInt) ⟨by omega, by omega⟩ ) ?_
  rintro _ _ ⟨dt4, rfl, hI5, hF6, h3⟩
  refine ⟨rfl, ?_⟩
  have hF7 : Fr [0, 1, 2, 3, 4, 5, 6, 7, 8, 9, 10, 11, 12, 13, 14, 15, 16, 17, 18, 19, 20, 21, 22, 23, 24, 25, 26, 27, 28, 29, 30, 31, 32, 33, 34, 35, 36, 37, 38, 39, 40, 41, 42, 43, 44, 45, 46, 47, 48, 49, 50, 51, 52, 53, 54, 55, 56, 57, 58, 59, 60, 61, 62, 63, 64, 65, 66, 67, 68, 69, 70, 71, 72, 73, 74, 75, 76, 77, 78, 79, 80, 81, 82, 83, 84, 85, 86, 87, 88, 89, 90, 91, 92, 93, 94, 95, 96, 97, 98, 99, 100, 101, 102, 103, 104] dt dt4 := Fr_tr hF hF6 (by decide)
  have hM8 : MW (dt4 80) := MW_fr hM hF6 (by decide)
  have w9 : dt4 1 0 = dt 1 0 := hF6 1 (by decide) 0
  have w10 : dt4 7 3 = dt 7 3 := hF6 7 (by decide) 3
  have w11 : dt4 10 3 = dt 10 3 := hF6 10 (by decide) 3
  have w12 : dt4 12 3 = dt 12 3 := hF6 12 (by decide) 3
  have w13 : dt4 14 3 = dt 14 3 := hF6 14 (by decide) 3
  have w14 : dt4 16 3 = dt 16 3 := hF6 16 (by decide) 3
  have w15 : dt4 18 0 = dt 18 0 := hF6 18 (by decide) 0
  have w16 : dt4 24 3 = dt 24 3 := hF6 24 (by decide) 3
  have w17 : dt4 27 3 = dt 27 3 := hF6 27 (by decide) 3
  have w18 : dt4 29 3 = dt 29 3 := hF6 29 (by decide) 3
  have w19 : dt4 31 3 = dt 31 3 := hF6 31 (by decide) 3
  have w20 : dt4 33 3 = dt 33 3 := hF6 33 (by decide) 3
  have w21 : dt4 0 2 = dt 0 2 := hF6 0 (by decide) 2
  have w22 : dt4 35 1 = dt 35 1 := hF6 35 (by decide) 1
  have w23 : dt4 80 0 = dt 80 0 := hF6 80 (by decide) 0
  have w24 : dt4 80 1 = dt 80 1 := hF6 80 (by decide) 1
  have w25 : dt4 80 2 = dt 80 2 := hF6 80 (by decide) 2
  have w26 : dt4 80 3 = dt 80 3 := hF6 80 (by decide) 3
  have w27 : dt4 80 4 = dt 80 4 := hF6 80 (by decide) 4
  have w28 : dt4 80 5 = dt 80 5 := hF6 80 (by decide) 5
  have w29 : dt4 81 0 = dt 81 0 := hF6 81 (by decide) 0
  have w30 : dt4 81 1 = dt 81 1 := hF6 81 (by decide) 1
  have w31 : dt4 81 2 = dt 81 2 := hF6 81 (by decide) 2
  have w32 : dt4 81 3 = dt 81 3 := hF6 81 (by decide) 3
  have w33 : dt4 81 4 = dt 81 4 := hF6 81 (by decide) 4
  have w34 : dt4 81 5 = dt 81 5 := hF6 81 (by decide) 5
  have w35 : dt4 79 2 = dt 79 2 := hF6 79 (by decide) 2
  have w36 : dt4 79 12 = dt 79 12 := hF6 79 (by decide) 12
  rcases h3 with ⟨v_h3, rfl, h3r, h3⟩
  have M237 : MW (dt4 81) := MW_frk hM2 hF6 (by decide)
  refine go_to (k := 6) (pc' := 1241) (L' := [some (.inr (.inr (some 3000))), some (.inr (.inr (some 0))), some (.inr (.inr (some 79))), some (.inl i)]) (st' := [.inl (i + 1), .inr (.inr (some 3000)), .inr (.inr (some 79))]) (w' := (SH, dt4)) (fun _ => rfl) ?_
  have r38 := i32_R (xs ((i + 1).toNat))
  refine go_smp (L' := [some (.inr (.inr (some 3000))), some (.inr (.inr (some 0))), some (.inr (.inr (some 79))), some (.inl i)]) (st' := [.inl ((xs ((i + 1).toNat)).toInt), .inr (.inr (some 79))]) (w' := (SH, dt4)) rfl rfl (s_iald (n := L) (f := fun j => (xs j).toInt) (am_scr hLL) ⟨by omega, by omega⟩) ?_
  refine go_to (k := 4) (pc' := 1246) (L' := [some (.inr (.inr (some 3000))), some (.inr (.inr (some 0))), some (.inr (.inr (some 79))), some (.inl i)]) (st' := [.inl (i + 2), .inr (.inr (some 3000)), .inl ((xs ((i + 1).toNat)).toInt), .inr (.inr (some 79))]) (w' := (SH, dt4)) (fun _ => rfl) ?_
  have r39 := i32_R (xs ((i + 2).toNat))
  refine go_smp (L' := [some (.inr (.inr (some 3000))), some (.inr (.inr (some 0))), some (.inr (.inr (some 79))), some (.inl i)]) (st' := [.inl ((xs ((i + 2).toNat)).toInt), .inl ((xs ((i + 1).toNat)).toInt), .inr (.inr (some 79))]) (w' := (SH, dt4)) rfl rfl (s_iald (n := L) (f := fun j => (xs j).toInt) (am_scr hLL) ⟨by omega, by omega⟩) ?_
  refine go_call (Q' := _) rfl rfl rfl rfl rfl (sp_X6_sorts L xs sio (d + 31) dt4 hI5 hM8  ((xs ((i + 1).toNat)).toInt) ⟨by omega, by omega⟩ ((xs ((i + 2).toNat)).toInt) ⟨by omega, by omega⟩ ) ?_
  rintro _ _ ⟨dt41, rfl, hI42, hF43, h40⟩
  refine ⟨rfl, ?_⟩
  have hF44 : Fr [0, 1, 2, 3, 4, 5, 6, 7, 8, 9, 10, 11, 12, 13, 14, 15, 16, 17, 18, 19, 20, 21, 22, 23, 24, 25, 26, 27, 28, 29, 30, 31, 32, 33, 34, 35, 36, 37, 38, 39, 40, 41, 42, 43, 44, 45, 46, 47, 48, 49, 50, 51, 52, 53, 54, 55, 56, 57, 58, 59, 60, 61, 62, 63, 64, 65, 66, 67, 68, 69, 70, 71, 72, 73, 74, 75, 76, 77, 78, 79, 80, 81, 82, 83, 84, 85, 86, 87, 88, 89, 90, 91, 92, 93, 94, 95, 96, 97, 98, 99, 100, 101, 102, 103, 104] dt dt41 := Fr_tr hF7 hF43 (by decide)
  have hM45 : MW (dt41 80) := MW_fr hM8 hF43 (by decide)
  have w46 : dt41 1 0 = dt4 1 0 := hF43 1 (by decide) 0
  have w47 : dt41 7 3 = dt4 7 3 := hF43 7 (by decide) 3
  have w48 : dt41 10 3 = dt4 10 3 := hF43 10 (by decide) 3
  have w49 : dt41 12 3 = dt4 12 3 := hF43 12 (by decide) 3
  have w50 : dt41 14 3 = dt4 14 3 := hF43 14 (by decide) 3
  have w51 : dt41 16 3 = dt4 16 3 := hF43 16 (by decide) 3
  have w52 : dt41 18 0 = dt4 18 0 := hF43 18 (by decide) 0
  have w53 : dt41 24 3 = dt4 24 3 := hF43 24 (by decide) 3
  have w54 : dt41 27 3 = dt4 27 3 := hF43 27 (by decide) 3
  have w55 : dt41 29 3 = dt4 29 3 := hF43 29 (by decide) 3
  have w56 : dt41 31 3 = dt4 31 3 := hF43 31 (by decide) 3
  have w57 : dt41 33 3 = dt4 33 3 := hF43 33 (by decide) 3
  have w58 : dt41 0 2 = dt4 0 2 := hF43 0 (by decide) 2
  have w59 : dt41 35 1 = dt4 35 1 := hF43 35 (by decide) 1
  have w60 : dt41 80 0 = dt4 80 0 := hF43 80 (by decide) 0
  have w61 : dt41 80 1 = dt4 80 1 := hF43 80 (by decide) 1
  have w62 : dt41 80 2 = dt4 80 2 := hF43 80 (by decide) 2
  have w63 : dt41 80 3 = dt4 80 3 := hF43 80 (by decide) 3
  have w64 : dt41 80 4 = dt4 80 4 := hF43 80 (by decide) 4
  have w65 : dt41 80 5 = dt4 80 5 := hF43 80 (by decide) 5
  have w66 : dt41 81 0 = dt4 81 0 := hF43 81 (by decide) 0
  have w67 : dt41 81 1 = dt4 81 1 := hF43 81 (by decide) 1
  have w68 : dt41 81 2 = dt4 81 2 := hF43 81 (by decide) 2
  have w69 : dt41 81 3 = dt4 81 3 := hF43 81 (by decide) 3
  have w70 : dt41 81 4 = dt4 81 4 := hF43 81 (by decide) 4
  have w71 : dt41 81 5 = dt4 81 5 := hF43 81 (by decide) 5
  have w72 : dt41 79 2 = dt4 79 2 := hF43 79 (by decide) 2
  have w73 : dt41 79 12 = dt4 79 12 := hF43 79 (by decide) 12
  rcases h40 with ⟨v_h40, rfl, h40r, h40⟩
  have M274 : MW (dt41 81) := MW_frk M237 hF43 (by decide)
  refine go_to (k := 2) (pc' := 1435) (L' := [some (.inr (.inr (some 3000))), some (.inr (.inr (some 0))), some (.inr (.inr (some 79))), some (.inl i)]) (st' := []) (w' := (SH, dt41)) (fun _ => rfl) ?_
  exact K dt41 hI42 hM45 M274 (by first | omega | (simp only [*]; done) | simp only [*]) (by omega) (by omega) (by omega) (by omega) (by omega) (by omega) (by omega) (by omega) (by omega) (by omega) (by omega) (by omega) (by omega)
set_option maxRecDepth 20000 in
set_option maxHeartbeats 8000000 in
theorem sp_case28 (L : Nat) (xs : Nat → Int32) (sio : Option Nat) (d : Nat) (Q : Option AV → am_W → Prop) (hLL : L ≤ 3072) (i : Int) (hi : 0 ≤ i ∧ i ≤ 3066) (hil : i ≤ (L : Int) - 6) (dt : Nat → Nat → Int) (hI : InvC dt) (hM : MW (dt 80)) (hM2 : MW (dt 81)) (hk0 : dt 1 0 = dt 80 0) (hk1 : dt 7 3 = dt 80 1) (hk2 : dt 10 3 = dt 80 2) (hk3 : dt 12 3 = dt 80 3) (hk4 : dt 14 3 = dt 80 4) (hk5 : dt 16 3 = dt 80 5) (hk6 : dt 18 0 = dt 81 0) (hk7 : dt 24 3 = dt 81 1) (hk8 : dt 27 3 = dt 81 2) (hk9 : dt 29 3 = dt 81 3) (hk10 : dt 31 3 = dt 81 4) (hk11 : dt 33 3 = dt 81 5) (hk12 : dt 0 2 = dt 79 2) (hk13 : dt 35 1 = dt 79 12) (K : ∀ (dt : Nat → Nat → Int) (hI : InvC dt) (hM : MW (dt 80)) (hM2 : MW (dt 81)) (hk0 : dt 1 0 = dt 80 0) (hk1 : dt 7 3 = dt 80 1) (hk2 : dt 10 3 = dt 80 2) (hk3 : dt 12 3 = dt 80 3) (hk4 : dt 14 3 = dt 80 4) (hk5 : dt 16 3 = dt 80 5) (hk6 : dt 18 0 = dt 81 0) (hk7 : dt 24 3 = dt 81 1) (hk8 : dt 27 3 = dt 81 2) (hk9 : dt 29 3 = dt 81 3) (hk10 : dt 31 3 = dt 81 4) (hk11 : dt 33 3 = dt 81 5) (hk12 : dt 0 2 = dt 79 2) (hk13 : dt 35 1 = dt 79 12), GO (am_XX L xs sio) (d + 39) 267 1435 [some (.inr (.inr (some 3000))), some (.inr (.inr (some 0))), some (.inr (.inr (some 79))), some (.inl i)] [] (SH, dt) Q) : GO (am_XX L xs sio) (d + 39) 267 1254 [some (.inr (.inr (some 3000))), some (.inr (.inr (some 0))), some (.inr (.inr (some 79))), some (.inl i)] [] (SH, dt) Q := by
  have hF : Fr [0, 1, 2, 3, 4, 5, 6, 7, 8, 9, 10, 11, 12, 13, 14, 15, 16, 17, 18, 19, 20, 21, 22, 23, 24, 25, 26, 27, 28, 29, 30, 31, 32, 33, 34, 35, 36, 37, 38, 39, 40, 41, 42, 43, 44, 45, 46, 47, 48, 49, 50, 51, 52, 53, 54, 55, 56, 57, 58, 59, 60, 61, 62, 63, 64, 65, 66, 67, 68, 69, 70, 71, 72, 73, 74, 75, 76, 77, 78, 79, 80, 81, 82, 83, 84, 85, 86, 87, 88, 89, 90, 91, 92, 93, 94, 95, 96, 97, 98, 99, 100, 101, 102, 103, 104] dt dt := Fr_refl
  refine go_to (k := 5) (pc' := 1259) (L' := [some (.inr (.inr (some 3000))), some (.inr (.inr (some 0))), some (.inr (.inr (some 79))), some (.inl i)]) (st' := [.inl (i + 1), .inr (.inr (some 3000)), .inr (.inr (some 0))]) (w' := (SH, dt)) (fun _ => rfl) ?_
  have r1 := i32_R (xs ((i + 1).toNat))
  refine go_smp (L' := [some (.inr (.inr (some 3000))), some (.inr (.inr (some 0))), some (.inr (.inr (some 79))), some (.inl i)]) (st' := [.inl ((xs ((i + 1).toNat)).toInt), .inr (.inr (some 0))]) (w' := (SH, dt)) rfl rfl (s_iald (n := L) (f := fun j => (xs j).toInt) (am_scr hLL) ⟨by omega, by omega⟩) ?_
  refine go_to (k := 4) (pc' := 1264) (L' := [some (.inr (.inr (some 3000))), some (.inr (.inr (some 0))), some (.inr (.inr (some 79))), some (.inl i)]) (st' := [.inl (i + 2), .inr (.inr (some 3000)), .inl ((xs ((i + 1).toNat)).toInt), .inr (.inr (some 0))]) (w' := (SH, dt)) (fun _ => rfl) ?_
  have r2 := i32_R (xs ((i + 2).toNat))
  refine go_smp (L' := [some (.inr (.inr (some 3000))), some (.inr (.inr (some 0))), some (.inr (.inr (some 79))), some (.inl i)]) (st' := [.inl ((xs ((i + 2).toNat)).toInt), .inl ((xs ((i + 1).toNat)).toInt), .inr (.inr (some 0))]) (w' := (SH, dt)) rfl rfl (s_iald (n := L) (f := fun j => (xs j).toInt) (am_scr hLL) ⟨by omega, by omega⟩) ?_
  refine go_call (Q' := _) rfl rfl rfl rfl rfl (sp_X5_curve L xs sio (d + 33) dt hI  ((xs ((i + 1).toNat)).toInt) ⟨by omega, by omega⟩ ((xs ((i + 2).toNat)).toInt) ⟨by omega, by omega⟩ ) ?_
  rintro _ _ ⟨dt4, rfl, hI5, hF6, h3⟩
  refine ⟨rfl, ?_⟩
  have hF7 : Fr [0, 1, 2, 3, 4, 5, 6, 7, 8, 9, 10, 11, 12, 13, 14, 15, 16, 17, 18, 19, 20, 21, 22, 23, 24, 25, 26, 27, 28, 29, 30, 31, 32, 33, 34, 35, 36, 37, 38, 39, 40, 41, 42, 43, 44, 45, 46, 47, 48, 49, 50, 51, 52, 53, 54, 55, 56, 57, 58, 59, 60, 61, 62, 63, 64, 65, 66, 67, 68, 69, 70, 71, 72, 73, 74, 75, 76, 77, 78, 79, 80, 81, 82, 83, 84, 85, 86, 87, 88, 89, 90, 91, 92, 93, 94, 95, 96, 97, 98, 99, 100, 101, 102, 103, 104] dt dt4 := Fr_tr hF hF6 (by decide)
  have hM8 : MW (dt4 80) := MW_fr hM hF6 (by decide)
  have w9 : dt4 1 0 = dt 1 0 := hF6 1 (by decide) 0
  have w10 : dt4 7 3 = dt 7 3 := hF6 7 (by decide) 3
  have w11 : dt4 10 3 = dt 10 3 := hF6 10 (by decide) 3
  have w12 : dt4 12 3 = dt 12 3 := hF6 12 (by decide) 3
  have w13 : dt4 14 3 = dt 14 3 := hF6 14 (by decide) 3
  have w14 : dt4 16 3 = dt 16 3 := hF6 16 (by decide) 3
  have w15 : dt4 18 0 = dt 18 0 := hF6 18 (by decide) 0
  have w16 : dt4 24 3 = dt 24 3 := hF6 24 (by decide) 3
  have w17 : dt4 27 3 = dt 27 3 := hF6 27 (by decide) 3
  have w18 : dt4 29 3 = dt 29 3 := hF6 29 (by decide) 3
  have w19 : dt4 31 3 = dt 31 3 := hF6 31 (by decide) 3
  have w20 : dt4 33 3 = dt 33 3 := hF6 33 (by decide) 3
  have w21 : dt4 0 2 = dt 0 2 := hF6 0 (by decide) 2
  have w22 : dt4 35 1 = dt 35 1 := hF6 35 (by decide) 1
  have w23 : dt4 80 0 = dt 80 0 := hF6 80 (by decide) 0
  have w24 : dt4 80 1 = dt 80 1 := hF6 80 (by decide) 1
  have w25 : dt4 80 2 = dt 80 2 := hF6 80 (by decide) 2
  have w26 : dt4 80 3 = dt 80 3 := hF6 80 (by decide) 3
  have w27 : dt4 80 4 = dt 80 4 := hF6 80 (by decide) 4
  have w28 : dt4 80 5 = dt 80 5 := hF6 80 (by decide) 5
  have w29 : dt4 81 0 = dt 81 0 := hF6 81 (by decide) 0
  have w30 : dt4 81 1 = dt 81 1 := hF6 81 (by decide) 1
  have w31 : dt4 81 2 = dt 81 2 := hF6 81 (by decide) 2
  have w32 : dt4 81 3 = dt 81 3 := hF6 81 (by decide) 3
  have w33 : dt4 81 4 = dt 81 4 := hF6 81 (by decide) 4
  have w34 : dt4 81 5 = dt 81 5 := hF6 81 (by decide) 5
  have w35 : dt4 79 2 = dt 79 2 := hF6 79 (by decide) 2
  have w36 : dt4 79 12 = dt 79 12 := hF6 79 (by decide) 12
  rcases h3 with ⟨v_h3, rfl, h3r, h3⟩
  have M237 : MW (dt4 81) := MW_frk hM2 hF6 (by decide)
  refine go_to (k := 6) (pc' := 1274) (L' := [some (.inr (.inr (some 3000))), some (.inr (.inr (some 0))), some (.inr (.inr (some 79))), some (.inl i)]) (st' := [.inl (i + 1), .inr (.inr (some 3000)), .inr (.inr (some 79))]) (w' := (SH, dt4)) (fun _ => rfl) ?_
  have r38 := i32_R (xs ((i + 1).toNat))
  refine go_smp (L' := [some (.inr (.inr (some 3000))), some (.inr (.inr (some 0))), some (.inr (.inr (some 79))), some (.inl i)]) (st' := [.inl ((xs ((i + 1).toNat)).toInt), .inr (.inr (some 79))]) (w' := (SH, dt4)) rfl rfl (s_iald (n := L) (f := fun j => (xs j).toInt) (am_scr hLL) ⟨by omega, by omega⟩) ?_
  refine go_to (k := 4) (pc' := 1279) (L' := [some (.inr (.inr (some 3000))), some (.inr (.inr (some 0))), some (.inr (.inr (some 79))), some (.inl i)]) (st' := [.inl (i + 2), .inr (.inr (some 3000)), .inl ((xs ((i + 1).toNat)).toInt), .inr (.inr (some 79))]) (w' := (SH, dt4)) (fun _ => rfl) ?_
  have r39 := i32_R (xs ((i + 2).toNat))
  refine go_smp (L' := [some (.inr (.inr (some 3000))), some (.inr (.inr (some 0))), some (.inr (.inr (some 79))), some (.inl i)]) (st' := [.inl ((xs ((i + 2).toNat)).toInt), .inl ((xs ((i + 1).toNat)).toInt), .inr (.inr (some 79))]) (w' := (SH, dt4)) rfl rfl (s_iald (n := L) (f := fun j => (xs j).toInt) (am_scr hLL) ⟨by omega, by omega⟩) ?_
  refine go_call (Q' := _) rfl rfl rfl rfl rfl (sp_X6_curve_k L xs sio (d + 30) dt4 hI5 hM8  ((xs ((i + 1).toNat)).toInt) ⟨by omega, by omega⟩ ((xs ((i + 2).toNat)).toInt) ⟨by omega, by omega⟩ ) ?_
  rintro _ _ ⟨dt41, rfl, hI42, hF43, h40⟩
  refine ⟨rfl, ?_⟩
  have hF44 : Fr [0, 1, 2, 3, 4, 5, 6, 7, 8, 9, 10, 11, 12, 13, 14, 15, 16, 17, 18, 19, 20, 21, 22, 23, 24, 25, 26, 27, 28, 29, 30, 31, 32, 33, 34, 35, 36, 37, 38, 39, 40, 41, 42, 43, 44, 45, 46, 47, 48, 49, 50, 51, 52, 53, 54, 55, 56, 57, 58, 59, 60, 61, 62, 63, 64, 65, 66, 67, 68, 69, 70, 71, 72, 73, 74, 75, 76, 77, 78, 79, 80, 81, 82, 83, 84, 85, 86, 87, 88, 89, 90, 91, 92, 93, 94, 95, 96, 97, 98, 99, 100, 101, 102, 103, 104] dt dt41 := Fr_tr hF7 hF43 (by decide)
  have hM45 : MW (dt41 80) := MW_fr hM8 hF43 (by decide)
  have w46 : dt41 1 0 = dt4 1 0 := hF43 1 (by decide) 0
  have w47 : dt41 7 3 = dt4 7 3 := hF43 7 (by decide) 3
  have w48 : dt41 10 3 = dt4 10 3 := hF43 10 (by decide) 3
  have w49 : dt41 12 3 = dt4 12 3 := hF43 12 (by decide) 3
  have w50 : dt41 14 3 = dt4 14 3 := hF43 14 (by decide) 3
  have w51 : dt41 16 3 = dt4 16 3 := hF43 16 (by decide) 3
  have w52 : dt41 18 0 = dt4 18 0 := hF43 18 (by decide) 0
  have w53 : dt41 24 3 = dt4 24 3 := hF43 24 (by decide) 3
  have w54 : dt41 27 3 = dt4 27 3 := hF43 27 (by decide) 3
  have w55 : dt41 29 3 = dt4 29 3 := hF43 29 (by decide) 3
  have w56 : dt41 31 3 = dt4 31 3 := hF43 31 (by decide) 3
  have w57 : dt41 33 3 = dt4 33 3 := hF43 33 (by decide) 3
  have w58 : dt41 0 2 = dt4 0 2 := hF43 0 (by decide) 2
  have w59 : dt41 35 1 = dt4 35 1 := hF43 35 (by decide) 1
  have w60 : dt41 80 0 = dt4 80 0 := hF43 80 (by decide) 0
  have w61 : dt41 80 1 = dt4 80 1 := hF43 80 (by decide) 1
  have w62 : dt41 80 2 = dt4 80 2 := hF43 80 (by decide) 2
  have w63 : dt41 80 3 = dt4 80 3 := hF43 80 (by decide) 3
  have w64 : dt41 80 4 = dt4 80 4 := hF43 80 (by decide) 4
  have w65 : dt41 80 5 = dt4 80 5 := hF43 80 (by decide) 5
  have w66 : dt41 81 0 = dt4 81 0 := hF43 81 (by decide) 0
  have w67 : dt41 81 1 = dt4 81 1 := hF43 81 (by decide) 1
  have w68 : dt41 81 2 = dt4 81 2 := hF43 81 (by decide) 2
  have w69 : dt41 81 3 = dt4 81 3 := hF43 81 (by decide) 3
  have w70 : dt41 81 4 = dt4 81 4 := hF43 81 (by decide) 4
  have w71 : dt41 81 5 = dt4 81 5 := hF43 81 (by decide) 5
  rcases h40 with ⟨v_h40, rfl, h40r, h40⟩
  obtain ⟨h40_0, h40_1⟩ := h40
  have M272 : MW (dt41 81) := MW_frk M237 hF43 (by decide)
  refine go_to (k := 2) (pc' := 1435) (L' := [some (.inr (.inr (some 3000))), some (.inr (.inr (some 0))), some (.inr (.inr (some 79))), some (.inl i)]) (st' := []) (w' := (SH, dt41)) (fun _ => rfl) ?_
  exact K dt41 hI42 hM45 M272 (by first | omega | (simp only [*]; done) | simp only [*]) (by omega) (by omega) (by omega) (by omega) (by omega) (by omega) (by omega) (by omega) (by omega) (by omega) (by omega) (by omega) (by omega)
set_option maxRecDepth 20000 in
set_option maxHeartbeats 8000000 in
theorem sp_case29 (L : Nat) (xs : Nat → Int32) (sio : Option Nat) (d : Nat) (Q : Option AV → am_W → Prop) (hLL : L ≤ 3072) (i : Int) (hi : 0 ≤ i ∧ i ≤ 3066) (hil : i ≤ (L : Int) - 6) (dt : Nat → Nat → Int) (hI : InvC dt) (hM : MW (dt 80)) (hM2 : MW (dt 81)) (hk0 : dt 1 0 = dt 80 0) (hk1 : dt 7 3 = dt 80 1) (hk2 : dt 10 3 = dt 80 2) (hk3 : dt 12 3 = dt 80 3) (hk4 : dt 14 3 = dt 80 4) (hk5 : dt 16 3 = dt 80 5) (hk6 : dt 18 0 = dt 81 0) (hk7 : dt 24 3 = dt 81 1) (hk8 : dt 27 3 = dt 81 2) (hk9 : dt 29 3 = dt 81 3) (hk10 : dt 31 3 = dt 81 4) (hk11 : dt 33 3 = dt 81 5) (hk12 : dt 0 2 = dt 79 2) (hk13 : dt 35 1 = dt 79 12) (K : ∀ (dt : Nat → Nat → Int) (hI : InvC dt) (hM : MW (dt 80)) (hM2 : MW (dt 81)) (hk0 : dt 1 0 = dt 80 0) (hk1 : dt 7 3 = dt 80 1) (hk2 : dt 10 3 = dt 80 2) (hk3 : dt 12 3 = dt 80 3) (hk4 : dt 14 3 = dt 80 4) (hk5 : dt 16 3 = dt 80 5) (hk6 : dt 18 0 = dt 81 0) (hk7 : dt 24 3 = dt 81 1) (hk8 : dt 27 3 = dt 81 2) (hk9 : dt 29 3 = dt 81 3) (hk10 : dt 31 3 = dt 81 4) (hk11 : dt 33 3 = dt 81 5) (hk12 : dt 0 2 = dt 79 2) (hk13 : dt 35 1 = dt 79 12), GO (am_XX L xs sio) (d + 39) 267 1435 [some (.inr (.inr (some 3000))), some (.inr (.inr (some 0))), some (.inr (.inr (some 79))), some (.inl i)] [] (SH, dt) Q) : GO (am_XX L xs sio) (d + 39) 267 1287 [some (.inr (.inr (some 3000))), some (.inr (.inr (some 0))), some (.inr (.inr (some 79))), some (.inl i)] [] (SH, dt) Q := by
  have hF : Fr [0, 1, 2, 3, 4, 5, 6, 7, 8, 9, 10, 11, 12, 13, 14, 15, 16, 17, 18, 19, 20, 21, 22, 23, 24, 25, 26, 27, 28, 29, 30, 31, 32, 33, 34, 35, 36, 37, 38, 39, 40, 41, 42, 43, 44, 45, 46, 47, 48, 49, 50, 51, 52, 53, 54, 55, 56, 57, 58, 59, 60, 61, 62, 63, 64, 65, 66, 67, 68, 69, 70, 71, 72, 73, 74, 75, 76, 77, 78, 79, 80, 81, 82, 83, 84, 85, 86, 87, 88, 89, 90, 91, 92, 93, 94, 95, 96, 97, 98, 99, 100, 101, 102, 103, 104] dt dt := Fr_refl
  refine go_to (k := 5) (pc' := 1292) (L' := [some (.inr (.inr (some 3000))), some (.inr (.inr (some 0))), some (.inr (.inr (some 79))), some (.inl i)]) (st' := [.inl (i + 1), .inr (.inr (some 3000)), .inr (.inr (some 0))]) (w' := (SH, dt)) (fun _ => rfl) ?_
  have r1 := i32_R (xs ((i + 1).toNat))
  refine go_smp (L' := [some (.inr (.inr (some 3000))), some (.inr (.inr (some 0))), some (.inr (.inr (some 79))), some (.inl i)]) (st' := [.inl ((xs ((i + 1).toNat)).toInt), .inr (.inr (some 0))]) (w' := (SH, dt)) rfl rfl (s_iald (n := L) (f := fun j => (xs j).toInt) (am_scr hLL) ⟨by omega, by omega⟩) ?_
  refine go_call (Q' := _) rfl rfl rfl rfl rfl (sp_X5_score L xs sio (d + 32) dt hI  ((xs ((i + 1).toNat)).toInt) ⟨by omega, by omega⟩ ) ?_
  rintro _ _ ⟨dt3, rfl, hI4, hF5, h2⟩
  refine ⟨rfl, ?_⟩
  have hF6 : Fr [0, 1, 2, 3, 4, 5, 6, 7, 8, 9, 10, 11, 12, 13, 14, 15, 16, 17, 18, 19, 20, 21, 22, 23, 24, 25, 26, 27, 28, 29, 30, 31, 32, 33, 34, 35, 36, 37, 38, 39, 40, 41, 42, 43, 44, 45, 46, 47, 48, 49, 50, 51, 52, 53, 54, 55, 56, 57, 58, 59, 60, 61, 62, 63, 64, 65, 66, 67, 68, 69, 70, 71, 72, 73, 74, 75, 76, 77, 78, 79, 80, 81, 82, 83, 84, 85, 86, 87, 88, 89, 90, 91, 92, 93, 94, 95, 96, 97, 98, 99, 100, 101, 102, 103, 104] dt dt3 := Fr_tr hF hF5 (by decide)
  have hM7 : MW (dt3 80) := MW_fr hM hF5 (by decide)
  have w8 : dt3 1 0 = dt 1 0 := hF5 1 (by decide) 0
  have w9 : dt3 7 3 = dt 7 3 := hF5 7 (by decide) 3
  have w10 : dt3 10 3 = dt 10 3 := hF5 10 (by decide) 3
  have w11 : dt3 12 3 = dt 12 3 := hF5 12 (by decide) 3
  have w12 : dt3 14 3 = dt 14 3 := hF5 14 (by decide) 3
  have w13 : dt3 16 3 = dt 16 3 := hF5 16 (by decide) 3
  have w14 : dt3 18 0 = dt 18 0 := hF5 18 (by decide) 0
  have w15 : dt3 24 3 = dt 24 3 := hF5 24 (by decide) 3
  have w16 : dt3 27 3 = dt 27 3 := hF5 27 (by decide) 3
  have w17 : dt3 29 3 = dt 29 3 := hF5 29 (by decide) 3
  have w18 : dt3 31 3 = dt 31 3 := hF5 31 (by decide) 3
  have w19 : dt3 33 3 = dt 33 3 := hF5 33 (by decide) 3
  have w20 : dt3 0 2 = dt 0 2 := hF5 0 (by decide) 2
  have w21 : dt3 35 1 = dt 35 1 := hF5 35 (by decide) 1
  have w22 : dt3 80 0 = dt 80 0 := hF5 80 (by decide) 0
  have w23 : dt3 80 1 = dt 80 1 := hF5 80 (by decide) 1
  have w24 : dt3 80 2 = dt 80 2 := hF5 80 (by decide) 2
  have w25 : dt3 80 3 = dt 80 3 := hF5 80 (by decide) 3
  have w26 : dt3 80 4 = dt 80 4 := hF5 80 (by decide) 4
  have w27 : dt3 80 5 = dt 80 5 := hF5 80 (by decide) 5
  have w28 : dt3 81 0 = dt 81 0 := hF5 81 (by decide) 0
  have w29 : dt3 81 1 = dt 81 1 := hF5 81 (by decide) 1
  have w30 : dt3 81 2 = dt 81 2 := hF5 81 (by decide) 2
  have w31 : dt3 81 3 = dt 81 3 := hF5 81 (by decide) 3
  have w32 : dt3 81 4 = dt 81 4 := hF5 81 (by decide) 4
  have w33 : dt3 81 5 = dt 81 5 := hF5 81 (by decide) 5
  have w34 : dt3 79 2 = dt 79 2 := hF5 79 (by decide) 2
  have w35 : dt3 79 12 = dt 79 12 := hF5 79 (by decide) 12
  rcases h2 with ⟨v_h2, rfl, h2r, h2⟩
  have M236 : MW (dt3 81) := MW_frk hM2 hF5 (by decide)
  refine go_to (k := 6) (pc' := 1302) (L' := [some (.inr (.inr (some 3000))), some (.inr (.inr (some 0))), some (.inr (.inr (some 79))), some (.inl i)]) (st' := [.inl (i + 1), .inr (.inr (some 3000)), .inr (.inr (some 79))]) (w' := (SH, dt3)) (fun _ => rfl) ?_
  have r37 := i32_R (xs ((i + 1).toNat))
  refine go_smp (L' := [some (.inr (.inr (some 3000))), some (.inr (.inr (some 0))), some (.inr (.inr (some 79))), some (.inl i)]) (st' := [.inl ((xs ((i + 1).toNat)).toInt), .inr (.inr (some 79))]) (w' := (SH, dt3)) rfl rfl (s_iald (n := L) (f := fun j => (xs j).toInt) (am_scr hLL) ⟨by omega, by omega⟩) ?_
  refine go_call (Q' := _) rfl rfl rfl rfl rfl (sp_X6_score L xs sio (d + 30) dt3 hI4 hM7  ((xs ((i + 1).toNat)).toInt) ⟨by omega, by omega⟩ ) ?_
  rintro _ _ ⟨dt39, rfl, hI40, hF41, h38⟩
  refine ⟨rfl, ?_⟩
  have hF42 : Fr [0, 1, 2, 3, 4, 5, 6, 7, 8, 9, 10, 11, 12, 13, 14, 15, 16, 17, 18, 19, 20, 21, 22, 23, 24, 25, 26, 27, 28, 29, 30, 31, 32, 33, 34, 35, 36, 37, 38, 39, 40, 41, 42, 43, 44, 45, 46, 47, 48, 49, 50, 51, 52, 53, 54, 55, 56, 57, 58, 59, 60, 61, 62, 63, 64, 65, 66, 67, 68, 69, 70, 71, 72, 73, 74, 75, 76, 77, 78, 79, 80, 81, 82, 83, 84, 85, 86, 87, 88, 89, 90, 91, 92, 93, 94, 95, 96, 97, 98, 99, 100, 101, 102, 103, 104] dt dt39 := Fr_tr hF6 hF41 (by decide)
  have hM43 : MW (dt39 80) := MW_fr hM7 hF41 (by decide)
  have w44 : dt39 1 0 = dt3 1 0 := hF41 1 (by decide) 0
  have w45 : dt39 7 3 = dt3 7 3 := hF41 7 (by decide) 3
  have w46 : dt39 10 3 = dt3 10 3 := hF41 10 (by decide) 3
  have w47 : dt39 12 3 = dt3 12 3 := hF41 12 (by decide) 3
  have w48 : dt39 14 3 = dt3 14 3 := hF41 14 (by decide) 3
  have w49 : dt39 16 3 = dt3 16 3 := hF41 16 (by decide) 3
  have w50 : dt39 18 0 = dt3 18 0 := hF41 18 (by decide) 0
  have w51 : dt39 24 3 = dt3 24 3 := hF41 24 (by decide) 3
  have w52 : dt39 27 3 = dt3 27 3 := hF41 27 (by decide) 3
  have w53 : dt39 29 3 = dt3 29 3 := hF41 29 (by decide) 3
  have w54 : dt39 31 3 = dt3 31 3 := hF41 31 (by decide) 3
  have w55 : dt39 33 3 = dt3 33 3 := hF41 33 (by decide) 3
  have w56 : dt39 0 2 = dt3 0 2 := hF41 0 (by decide) 2
  have w57 : dt39 35 1 = dt3 35 1 := hF41 35 (by decide) 1
  have w58 : dt39 80 0 = dt3 80 0 := hF41 80 (by decide) 0
  have w59 : dt39 80 1 = dt3 80 1 := hF41 80 (by decide) 1
  have w60 : dt39 80 2 = dt3 80 2 := hF41 80 (by decide) 2
  have w61 : dt39 80 3 = dt3 80 3 := hF41 80 (by decide) 3
  have w62 : dt39 80 4 = dt3 80 4 := hF41 80 (by decide) 4
  have w63 : dt39 80 5 = dt3 80 5 := hF41 80 (by decide) 5
  have w64 : dt39 81 0 = dt3 81 0 := hF41 81 (by decide) 0
  have w65 : dt39 81 1 = dt3 81 1 := hF41 81 (by decide) 1
  have w66 : dt39 81 2 = dt3 81 2 := hF41 81 (by decide) 2
  have w67 : dt39 81 3 = dt3 81 3 := hF41 81 (by decide) 3
  have w68 : dt39 81 4 = dt3 81 4 := hF41 81 (by decide) 4
  have w69 : dt39 81 5 = dt3 81 5 := hF41 81 (by decide) 5
  have w70 : dt39 79 2 = dt3 79 2 := hF41 79 (by decide) 2
  have w71 : dt39 79 12 = dt3 79 12 := hF41 79 (by decide) 12
  rcases h38 with ⟨v_h38, rfl, h38r, h38⟩
  have M272 : MW (dt39 81) := MW_frk M236 hF41 (by decide)
  refine go_to (k := 2) (pc' := 1435) (L' := [some (.inr (.inr (some 3000))), some (.inr (.inr (some 0))), some (.inr (.inr (some 79))), some (.inl i)]) (st' := []) (w' := (SH, dt39)) (fun _ => rfl) ?_
  exact K dt39 hI40 hM43 M272 (by first | omega | (simp only [*]; done) | simp only [*]) (by omega) (by omega) (by omega) (by omega) (by omega) (by omega) (by omega) (by omega) (by omega) (by omega) (by omega) (by omega) (by omega)
set_option maxRecDepth 20000 in
set_option maxHeartbeats 8000000 in
theorem sp_case30 (L : Nat) (xs : Nat → Int32) (sio : Option Nat) (d : Nat) (Q : Option AV → am_W → Prop) (hLL : L ≤ 3072) (i : Int) (hi : 0 ≤ i ∧ i ≤ 3066) (hil : i ≤ (L : Int) - 6) (dt : Nat → Nat → Int) (hI : InvC dt) (hM : MW (dt 80)) (hM2 : MW (dt 81)) (hk0 : dt 1 0 = dt 80 0) (hk1 : dt 7 3 = dt 80 1) (hk2 : dt 10 3 = dt 80 2) (hk3 : dt 12 3 = dt 80 3) (hk4 : dt 14 3 = dt 80 4) (hk5 : dt 16 3 = dt 80 5) (hk6 : dt 18 0 = dt 81 0) (hk7 : dt 24 3 = dt 81 1) (hk8 : dt 27 3 = dt 81 2) (hk9 : dt 29 3 = dt 81 3) (hk10 : dt 31 3 = dt 81 4) (hk11 : dt 33 3 = dt 81 5) (hk12 : dt 0 2 = dt 79 2) (hk13 : dt 35 1 = dt 79 12) (K : ∀ (dt : Nat → Nat → Int) (hI : InvC dt) (hM : MW (dt 80)) (hM2 : MW (dt 81)) (hk0 : dt 1 0 = dt 80 0) (hk1 : dt 7 3 = dt 80 1) (hk2 : dt 10 3 = dt 80 2) (hk3 : dt 12 3 = dt 80 3) (hk4 : dt 14 3 = dt 80 4) (hk5 : dt 16 3 = dt 80 5) (hk6 : dt 18 0 = dt 81 0) (hk7 : dt 24 3 = dt 81 1) (hk8 : dt 27 3 = dt 81 2) (hk9 : dt 29 3 = dt 81 3) (hk10 : dt 31 3 = dt 81 4) (hk11 : dt 33 3 = dt 81 5) (hk12 : dt 0 2 = dt 79 2) (hk13 : dt 35 1 = dt 79 12), GO (am_XX L xs sio) (d + 39) 267 1435 [some (.inr (.inr (some 3000))), some (.inr (.inr (some 0))), some (.inr (.inr (some 79))), some (.inl i)] [] (SH, dt) Q) : GO (am_XX L xs sio) (d + 39) 267 1310 [some (.inr (.inr (some 3000))), some (.inr (.inr (some 0))), some (.inr (.inr (some 79))), some (.inl i)] [] (SH, dt) Q := by
  have hF : Fr [0, 1, 2, 3, 4, 5, 6, 7, 8, 9, 10, 11, 12, 13, 14, 15, 16, 17, 18, 19, 20, 21, 22, 23, 24, 25, 26, 27, 28, 29, 30, 31, 32, 33, 34, 35, 36, 37, 38, 39, 40, 41, 42, 43, 44, 45, 46, 47, 48, 49, 50, 51, 52, 53, 54, 55, 56, 57, 58, 59, 60, 61, 62, 63, 64, 65, 66, 67, 68, 69, 70, 71, 72, 73, 74, 75, 76, 77, 78, 79, 80, 81, 82, 83, 84, 85, 86, 87, 88, 89, 90, 91, 92, 93, 94, 95, 96, 97, 98, 99, 100, 101, 102, 103, 104] dt dt := Fr_refl
  refine go_to (k := 5) (pc' := 1315) (L' := [some (.inr (.inr (some 3000))), some (.inr (.inr (some 0))), some (.inr (.inr (some 79))), some (.inl i)]) (st' := [.inl (i + 1), .inr (.inr (some 3000)), .inr (.inr (some 0))]) (w' := (SH, dt)) (fun _ => rfl) ?_
  have r1 := i32_R (xs ((i + 1).toNat))
  refine go_smp (L' := [some (.inr (.inr (some 3000))), some (.inr (.inr (some 0))), some (.inr (.inr (some 79))), some (.inl i)]) (st' := [.inl ((xs ((i + 1).toNat)).toInt), .inr (.inr (some 0))]) (w' := (SH, dt)) rfl rfl (s_iald (n := L) (f := fun j => (xs j).toInt) (am_scr hLL) ⟨by omega, by omega⟩) ?_
  refine go_to (k := 4) (pc' := 1320) (L' := [some (.inr (.inr (some 3000))), some (.inr (.inr (some 0))), some (.inr (.inr (some 79))), some (.inl i)]) (st' := [.inl (i + 2), .inr (.inr (some 3000)), .inl ((xs ((i + 1).toNat)).toInt), .inr (.inr (some 0))]) (w' := (SH, dt)) (fun _ => rfl) ?_
  have r2 := i32_R (xs ((i + 2).toNat))
  refine go_smp (L' := [some (.inr (.inr (some 3000))), some (.inr (.inr (some 0))), some (.inr (.inr (some 79))), some (.inl i)]) (st' := [.inl ((xs ((i + 2).toNat)).toInt), .inl ((xs ((i + 1).toNat)).toInt), .inr (.inr (some 0))]) (w' := (SH, dt)) rfl rfl (s_iald (n := L) (f := fun j => (xs j).toInt) (am_scr hLL) ⟨by omega, by omega⟩) ?_
  refine go_to (k := 4) (pc' := 1325) (L' := [some (.inr (.inr (some 3000))), some (.inr (.inr (some 0))), some (.inr (.inr (some 79))), some (.inl i)]) (st' := [.inl (i + 3), .inr (.inr (some 3000)), .inl ((xs ((i + 2).toNat)).toInt), .inl ((xs ((i + 1).toNat)).toInt), .inr (.inr (some 0))]) (w' := (SH, dt)) (fun _ => rfl) ?_
  have r3 := i32_R (xs ((i + 3).toNat))
  refine go_smp (L' := [some (.inr (.inr (some 3000))), some (.inr (.inr (some 0))), some (.inr (.inr (some 79))), some (.inl i)]) (st' := [.inl ((xs ((i + 3).toNat)).toInt), .inl ((xs ((i + 2).toNat)).toInt), .inl ((xs ((i + 1).toNat)).toInt), .inr (.inr (some 0))]) (w' := (SH, dt)) rfl rfl (s_iald (n := L) (f := fun j => (xs j).toInt) (am_scr hLL) ⟨by omega, by omega⟩) ?_
  refine go_to (k := 4) (pc' := 1330) (L' := [some (.inr (.inr (some 3000))), some (.inr (.inr (some 0))), some (.inr (.inr (some 79))), some (.inl i)]) (st' := [.inl (i + 4), .inr (.inr (some 3000)), .inl ((xs ((i + 3).toNat)).toInt), .inl ((xs ((i + 2).toNat)).toInt), .inl ((xs ((i + 1).toNat)).toInt), .inr (.inr (some 0))]) (w' := (SH, dt)) (fun _ => rfl) ?_
  have r4 := i32_R (xs ((i + 4).toNat))
  refine go_smp (L' := [some (.inr (.inr (some 3000))), some (.inr (.inr (some 0))), some (.inr (.inr (some 79))), some (.inl i)]) (st' := [.inl ((xs ((i + 4).toNat)).toInt), .inl ((xs ((i + 3).toNat)).toInt), .inl ((xs ((i + 2).toNat)).toInt), .inl ((xs ((i + 1).toNat)).toInt), .inr (.inr (some 0))]) (w' := (SH, dt)) rfl rfl (s_iald (n := L) (f := fun j => (xs j).toInt) (am_scr hLL) ⟨by omega, by omega⟩) ?_
  refine go_to (k := 4) (pc' := 1335) (L' := [some (.inr (.inr (some 3000))), some (.inr (.inr (some 0))), some (.inr (.inr (some 79))), some (.inl i)]) (st' := [.inl (i + 5), .inr (.inr (some 3000)), .inl ((xs ((i + 4).toNat)).toInt), .inl ((xs ((i + 3).toNat)).toInt), .inl ((xs ((i + 2).toNat)).toInt), .inl ((xs ((i + 1).toNat)).toInt), .inr (.inr (some 0))]) (w' := (SH, dt)) (fun _ => rfl) ?_
  have r5 := i32_R (xs ((i + 5).toNat))
  refine go_smp (L' := [some (.inr (.inr (some 3000))), some (.inr (.inr (some 0))), some (.inr (.inr (some 79))), some (.inl i)]) (st' := [.inl ((xs ((i + 5).toNat)).toInt), .inl ((xs ((i + 4).toNat)).toInt), .inl ((xs ((i + 3).toNat)).toInt), .inl ((xs ((i + 2).toNat)).toInt), .inl ((xs ((i + 1).toNat)).toInt), .inr (.inr (some 0))]) (w' := (SH, dt)) rfl rfl (s_iald (n := L) (f := fun j => (xs j).toInt) (am_scr hLL) ⟨by omega, by omega⟩) ?_
  refine go_call (Q' := _) rfl rfl rfl rfl rfl (sp_X5_next L xs sio (d + 32) dt hI  ((xs ((i + 1).toNat)).toInt) ⟨by omega, by omega⟩ ((xs ((i + 2).toNat)).toInt) ⟨by omega, by omega⟩ ((xs ((i + 3).toNat)).toInt) ⟨by omega, by omega⟩ ((xs ((i + 4).toNat)).toInt) ⟨by omega, by omega⟩ ((xs ((i + 5).toNat)).toInt) ⟨by omega, by omega⟩ ) ?_
  rintro _ _ ⟨dt7, rfl, hI8, hF9, h6⟩
  refine ⟨rfl, ?_⟩
  have hF10 : Fr [0, 1, 2, 3, 4, 5, 6, 7, 8, 9, 10, 11, 12, 13, 14, 15, 16, 17, 18, 19, 20, 21, 22, 23, 24, 25, 26, 27, 28, 29, 30, 31, 32, 33, 34, 35, 36, 37, 38, 39, 40, 41, 42, 43, 44, 45, 46, 47, 48, 49, 50, 51, 52, 53, 54, 55, 56, 57, 58, 59, 60, 61, 62, 63, 64, 65, 66, 67, 68, 69, 70, 71, 72, 73, 74, 75, 76, 77, 78, 79, 80, 81, 82, 83, 84, 85, 86, 87, 88, 89, 90, 91, 92, 93, 94, 95, 96, 97, 98, 99, 100, 101, 102, 103, 104] dt dt7 := Fr_tr hF hF9 (by decide)
  have hM11 : MW (dt7 80) := MW_fr hM hF9 (by decide)
  have w12 : dt7 1 0 = dt 1 0 := hF9 1 (by decide) 0
  have w13 : dt7 7 3 = dt 7 3 := hF9 7 (by decide) 3
  have w14 : dt7 10 3 = dt 10 3 := hF9 10 (by decide) 3
  have w15 : dt7 12 3 = dt 12 3 := hF9 12 (by decide) 3
  have w16 : dt7 14 3 = dt 14 3 := hF9 14 (by decide) 3
  have w17 : dt7 16 3 = dt 16 3 := hF9 16 (by decide) 3
  have w18 : dt7 18 0 = dt 18 0 := hF9 18 (by decide) 0
  have w19 : dt7 24 3 = dt 24 3 := hF9 24 (by decide) 3
  have w20 : dt7 27 3 = dt 27 3 := hF9 27 (by decide) 3
  have w21 : dt7 29 3 = dt 29 3 := hF9 29 (by decide) 3
  have w22 : dt7 31 3 = dt 31 3 := hF9 31 (by decide) 3
  have w23 : dt7 33 3 = dt 33 3 := hF9 33 (by decide) 3
  have w24 : dt7 0 2 = dt 0 2 := hF9 0 (by decide) 2
  have w25 : dt7 35 1 = dt 35 1 := hF9 35 (by decide) 1
  have w26 : dt7 80 0 = dt 80 0 := hF9 80 (by decide) 0
  have w27 : dt7 80 1 = dt 80 1 := hF9 80 (by decide) 1
  have w28 : dt7 80 2 = dt 80 2 := hF9 80 (by decide) 2
  have w29 : dt7 80 3 = dt 80 3 := hF9 80 (by decide) 3
  have w30 : dt7 80 4 = dt 80 4 := hF9 80 (by decide) 4
  have w31 : dt7 80 5 = dt 80 5 := hF9 80 (by decide) 5
  have w32 : dt7 81 0 = dt 81 0 := hF9 81 (by decide) 0
  have w33 : dt7 81 1 = dt 81 1 := hF9 81 (by decide) 1
  have w34 : dt7 81 2 = dt 81 2 := hF9 81 (by decide) 2
  have w35 : dt7 81 3 = dt 81 3 := hF9 81 (by decide) 3
  have w36 : dt7 81 4 = dt 81 4 := hF9 81 (by decide) 4
  have w37 : dt7 81 5 = dt 81 5 := hF9 81 (by decide) 5
  have w38 : dt7 79 2 = dt 79 2 := hF9 79 (by decide) 2
  have w39 : dt7 79 12 = dt 79 12 := hF9 79 (by decide) 12
  rcases h6 with ⟨v_h6, rfl, h6r, h6⟩
  have M240 : MW (dt7 81) := MW_frk hM2 hF9 (by decide)
  refine go_to (k := 6) (pc' := 1345) (L' := [some (.inr (.inr (some 3000))), some (.inr (.inr (some 0))), some (.inr (.inr (some 79))), some (.inl i)]) (st' := [.inl (i + 1), .inr (.inr (some 3000)), .inr (.inr (some 79))]) (w' := (SH, dt7)) (fun _ => rfl) ?_
  have r41 := i32_R (xs ((i + 1).toNat))
  refine go_smp (L' := [some (.inr (.inr (some 3000))), some (.inr (.inr (some 0))), some (.inr (.inr (some 79))), some (.inl i)]) (st' := [.inl ((xs ((i + 1).toNat)).toInt), .inr (.inr (some 79))]) (w' := (SH, dt7)) rfl rfl (s_iald (n := L) (f := fun j => (xs j).toInt) (am_scr hLL) ⟨by omega, by omega⟩) ?_
  refine go_to (k := 4) (pc' := 1350) (L' := [some (.inr (.inr (some 3000))), some (.inr (.inr (some 0))), some (.inr (.inr (some 79))), some (.inl i)]) (st' := [.inl (i + 2), .inr (.inr (some 3000)), .inl ((xs ((i + 1).toNat)).toInt), .inr (.inr (some 79))]) (w' := (SH, dt7)) (fun _ => rfl) ?_
  have r42 := i32_R (xs ((i + 2).toNat))
  refine go_smp (L' := [some (.inr (.inr (some 3000))), some (.inr (.inr (some 0))), some (.inr (.inr (some 79))), some (.inl i)]) (st' := [.inl ((xs ((i + 2).toNat)).toInt), .inl ((xs ((i + 1).toNat)).toInt), .inr (.inr (some 79))]) (w' := (SH, dt7)) rfl rfl (s_iald (n := L) (f := fun j => (xs j).toInt) (am_scr hLL) ⟨by omega, by omega⟩) ?_
  refine go_to (k := 4) (pc' := 1355) (L' := [some (.inr (.inr (some 3000))), some (.inr (.inr (some 0))), some (.inr (.inr (some 79))), some (.inl i)]) (st' := [.inl (i + 3), .inr (.inr (some 3000)), .inl ((xs ((i + 2).toNat)).toInt), .inl ((xs ((i + 1).toNat)).toInt), .inr (.inr (some 79))]) (w' := (SH, dt7)) (fun _ => rfl) ?_
  have r43 := i32_R (xs ((i + 3).toNat))
  refine go_smp (L' := [some (.inr (.inr (some 3000))), some (.inr (.inr (some 0))), some (.inr (.inr (some 79))), some (.inl i)]) (st' := [.inl ((xs ((i + 3).toNat)).toInt), .inl ((xs ((i + 2).toNat)).toInt), .inl ((xs ((i + 1).toNat)).toInt), .inr (.inr (some 79))]) (w' := (SH, dt7)) rfl rfl (s_iald (n := L) (f := fun j => (xs j).toInt) (am_scr hLL) ⟨by omega, by omega⟩) ?_
  refine go_to (k := 4) (pc' := 1360) (L' := [some (.inr (.inr (some 3000))), some (.inr (.inr (some 0))), some (.inr (.inr (some 79))), some (.inl i)]) (st' := [.inl (i + 4), .inr (.inr (some 3000)), .inl ((xs ((i + 3).toNat)).toInt), .inl ((xs ((i + 2).toNat)).toInt), .inl ((xs ((i + 1).toNat)).toInt), .inr (.inr (some 79))]) (w' := (SH, dt7)) (fun _ => rfl) ?_
  have r44 := i32_R (xs ((i + 4).toNat))
  refine go_smp (L' := [some (.inr (.inr (some 3000))), some (.inr (.inr (some 0))), some (.inr (.inr (some 79))), some (.inl i)]) (st' := [.inl ((xs ((i + 4).toNat)).toInt), .inl ((xs ((i + 3).toNat)).toInt), .inl ((xs ((i + 2).toNat)).toInt), .inl ((xs ((i + 1).toNat)).toInt), .inr (.inr (some 79))]) (w' := (SH, dt7)) rfl rfl (s_iald (n := L) (f := fun j => (xs j).toInt) (am_scr hLL) ⟨by omega, by omega⟩) ?_
  refine go_to (k := 4) (pc' := 1365) (L' := [some (.inr (.inr (some 3000))), some (.inr (.inr (some 0))), some (.inr (.inr (some 79))), some (.inl i)]) (st' := [.inl (i + 5), .inr (.inr (some 3000)), .inl ((xs ((i + 4).toNat)).toInt), .inl ((xs ((i + 3).toNat)).toInt), .inl ((xs ((i + 2).toNat)).toInt), .inl ((xs ((i + 1).toNat)).toInt), .inr (.inr (some 79))]) (w' := (SH, dt7)) (fun _ => rfl) ?_
  have r45 := i32_R (xs ((i + 5).toNat))
  refine go_smp (L' := [some (.inr (.inr (some 3000))), some (.inr (.inr (some 0))), some (.inr (.inr (some 79))), some (.inl i)]) (st' := [.inl ((xs ((i + 5).toNat)).toInt), .inl ((xs ((i + 4).toNat)).toInt), .inl ((xs ((i + 3).toNat)).toInt), .inl ((xs ((i + 2).toNat)).toInt), .inl ((xs ((i + 1).toNat)).toInt), .inr (.inr (some 79))]) (w' := (SH, dt7)) rfl rfl (s_iald (n := L) (f := fun j => (xs j).toInt) (am_scr hLL) ⟨by omega, by omega⟩) ?_
  refine go_call (Q' := _) rfl rfl rfl rfl rfl (sp_X6_next L xs sio (d + 31) dt7 hI8 hM11  ((xs ((i + 1).toNat)).toInt) ⟨by omega, by omega⟩ ((xs ((i + 2).toNat)).toInt) ⟨by omega, by omega⟩ ((xs ((i + 3).toNat)).toInt) ⟨by omega, by omega⟩ ((xs ((i + 4).toNat)).toInt) ⟨by omega, by omega⟩ ((xs ((i + 5).toNat)).toInt) ⟨by omega, by omega⟩ ) ?_
  rintro _ _ ⟨dt47, rfl, hI48, hF49, h46⟩
  refine ⟨rfl, ?_⟩
  have hF50 : Fr [0, 1, 2, 3, 4, 5, 6, 7, 8, 9, 10, 11, 12, 13, 14, 15, 16, 17, 18, 19, 20, 21, 22, 23, 24, 25, 26, 27, 28, 29, 30, 31, 32, 33, 34, 35, 36, 37, 38, 39, 40, 41, 42, 43, 44, 45, 46, 47, 48, 49, 50, 51, 52, 53, 54, 55, 56, 57, 58, 59, 60, 61, 62, 63, 64, 65, 66, 67, 68, 69, 70, 71, 72, 73, 74, 75, 76, 77, 78, 79, 80, 81, 82, 83, 84, 85, 86, 87, 88, 89, 90, 91, 92, 93, 94, 95, 96, 97, 98, 99, 100, 101, 102, 103, 104] dt dt47 := Fr_tr hF10 hF49 (by decide)
  have hM51 : MW (dt47 80) := MW_fr hM11 hF49 (by decide)
  have w52 : dt47 1 0 = dt7 1 0 := hF49 1 (by decide) 0
  have w53 : dt47 7 3 = dt7 7 3 := hF49 7 (by decide) 3
  have w54 : dt47 10 3 = dt7 10 3 := hF49 10 (by decide) 3
  have w55 : dt47 12 3 = dt7 12 3 := hF49 12 (by decide) 3
  have w56 : dt47 14 3 = dt7 14 3 := hF49 14 (by decide) 3
  have w57 : dt47 16 3 = dt7 16 3 := hF49 16 (by decide) 3
  have w58 : dt47 18 0 = dt7 18 0 := hF49 18 (by decide) 0
  have w59 : dt47 24 3 = dt7 24 3 := hF49 24 (by decide) 3
  have w60 : dt47 27 3 = dt7 27 3 := hF49 27 (by decide) 3
  have w61 : dt47 29 3 = dt7 29 3 := hF49 29 (by decide) 3
  have w62 : dt47 31 3 = dt7 31 3 := hF49 31 (by decide) 3
  have w63 : dt47 33 3 = dt7 33 3 := hF49 33 (by decide) 3
  have w64 : dt47 0 2 = dt7 0 2 := hF49 0 (by decide) 2
  have w65 : dt47 35 1 = dt7 35 1 := hF49 35 (by decide) 1
  have w66 : dt47 80 0 = dt7 80 0 := hF49 80 (by decide) 0
  have w67 : dt47 80 1 = dt7 80 1 := hF49 80 (by decide) 1
  have w68 : dt47 80 2 = dt7 80 2 := hF49 80 (by decide) 2
  have w69 : dt47 80 3 = dt7 80 3 := hF49 80 (by decide) 3
  have w70 : dt47 80 4 = dt7 80 4 := hF49 80 (by decide) 4
  have w71 : dt47 80 5 = dt7 80 5 := hF49 80 (by decide) 5
  have w72 : dt47 81 0 = dt7 81 0 := hF49 81 (by decide) 0
  have w73 : dt47 81 1 = dt7 81 1 := hF49 81 (by decide) 1
  have w74 : dt47 81 2 = dt7 81 2 := hF49 81 (by decide) 2
  have w75 : dt47 81 3 = dt7 81 3 := hF49 81 (by decide) 3
  have w76 : dt47 81 4 = dt7 81 4 := hF49 81 (by decide) 4
  have w77 : dt47 81 5 = dt7 81 5 := hF49 81 (by decide) 5
  have w78 : dt47 79 2 = dt7 79 2 := hF49 79 (by decide) 2
  have w79 : dt47 79 12 = dt7 79 12 := hF49 79 (by decide) 12
  rcases h46 with ⟨v_h46, rfl, h46r, h46⟩
  have M280 : MW (dt47 81) := MW_frk M240 hF49 (by decide)
  refine go_to (k := 2) (pc' := 1435) (L' := [some (.inr (.inr (some 3000))), some (.inr (.inr (some 0))), some (.inr (.inr (some 79))), some (.inl i)]) (st' := []) (w' := (SH, dt47)) (fun _ => rfl) ?_
  exact K dt47 hI48 hM51 M280 (by first | omega | (simp only [*]; done) | simp only [*]) (by omega) (by omega) (by omega) (by omega) (by omega) (by omega) (by omega) (by omega) (by omega) (by omega) (by omega) (by omega) (by omega)
set_option maxRecDepth 20000 in
set_option maxHeartbeats 8000000 in
theorem sp_case31 (L : Nat) (xs : Nat → Int32) (sio : Option Nat) (d : Nat) (Q : Option AV → am_W → Prop) (hLL : L ≤ 3072) (i : Int) (hi : 0 ≤ i ∧ i ≤ 3066) (hil : i ≤ (L : Int) - 6) (dt : Nat → Nat → Int) (hI : InvC dt) (hM : MW (dt 80)) (hM2 : MW (dt 81)) (hk0 : dt 1 0 = dt 80 0) (hk1 : dt 7 3 = dt 80 1) (hk2 : dt 10 3 = dt 80 2) (hk3 : dt 12 3 = dt 80 3) (hk4 : dt 14 3 = dt 80 4) (hk5 : dt 16 3 = dt 80 5) (hk6 : dt 18 0 = dt 81 0) (hk7 : dt 24 3 = dt 81 1) (hk8 : dt 27 3 = dt 81 2) (hk9 : dt 29 3 = dt 81 3) (hk10 : dt 31 3 = dt 81 4) (hk11 : dt 33 3 = dt 81 5) (hk12 : dt 0 2 = dt 79 2) (hk13 : dt 35 1 = dt 79 12) (K : ∀ (dt : Nat → Nat → Int) (hI : InvC dt) (hM : MW (dt 80)) (hM2 : MW (dt 81)) (hk0 : dt 1 0 = dt 80 0) (hk1 : dt 7 3 = dt 80 1) (hk2 : dt 10 3 = dt 80 2) (hk3 : dt 12 3 = dt 80 3) (hk4 : dt 14 3 = dt 80 4) (hk5 : dt 16 3 = dt 80 5) (hk6 : dt 18 0 = dt 81 0) (hk7 : dt 24 3 = dt 81 1) (hk8 : dt 27 3 = dt 81 2) (hk9 : dt 29 3 = dt 81 3) (hk10 : dt 31 3 = dt 81 4) (hk11 : dt 33 3 = dt 81 5) (hk12 : dt 0 2 = dt 79 2) (hk13 : dt 35 1 = dt 79 12), GO (am_XX L xs sio) (d + 39) 267 1435 [some (.inr (.inr (some 3000))), some (.inr (.inr (some 0))), some (.inr (.inr (some 79))), some (.inl i)] [] (SH, dt) Q) : GO (am_XX L xs sio) (d + 39) 267 1373 [some (.inr (.inr (some 3000))), some (.inr (.inr (some 0))), some (.inr (.inr (some 79))), some (.inl i)] [] (SH, dt) Q := by
  have hF : Fr [0, 1, 2, 3, 4, 5, 6, 7, 8, 9, 10, 11, 12, 13, 14, 15, 16, 17, 18, 19, 20, 21, 22, 23, 24, 25, 26, 27, 28, 29, 30, 31, 32, 33, 34, 35, 36, 37, 38, 39, 40, 41, 42, 43, 44, 45, 46, 47, 48, 49, 50, 51, 52, 53, 54, 55, 56, 57, 58, 59, 60, 61, 62, 63, 64, 65, 66, 67, 68, 69, 70, 71, 72, 73, 74, 75, 76, 77, 78, 79, 80, 81, 82, 83, 84, 85, 86, 87, 88, 89, 90, 91, 92, 93, 94, 95, 96, 97, 98, 99, 100, 101, 102, 103, 104] dt dt := Fr_refl
  refine go_to (k := 5) (pc' := 1378) (L' := [some (.inr (.inr (some 3000))), some (.inr (.inr (some 0))), some (.inr (.inr (some 79))), some (.inl i)]) (st' := [.inl (i + 1), .inr (.inr (some 3000)), .inr (.inr (some 0))]) (w' := (SH, dt)) (fun _ => rfl) ?_
  have r1 := i32_R (xs ((i + 1).toNat))
  refine go_smp (L' := [some (.inr (.inr (some 3000))), some (.inr (.inr (some 0))), some (.inr (.inr (some 79))), some (.inl i)]) (st' := [.inl ((xs ((i + 1).toNat)).toInt), .inr (.inr (some 0))]) (w' := (SH, dt)) rfl rfl (s_iald (n := L) (f := fun j => (xs j).toInt) (am_scr hLL) ⟨by omega, by omega⟩) ?_
  refine go_if (k := 1) (p1 := 1386) (p2 := 1382) (L' := [some (.inr (.inr (some 3000))), some (.inr (.inr (some 0))), some (.inr (.inr (some 79))), some (.inl i)]) (st' := [.inr (.inr (some 0))]) (w' := (SH, dt)) (fun _ => rfl) (z_eq (a := (xs ((i + 1).toNat)).toInt) ⟨by omega, by omega⟩) (fun c2 => ?_) (fun c2 => ?_)
  · skip
    refine go_to (k := 1) (pc' := 1387) (L' := [some (.inr (.inr (some 3000))), some (.inr (.inr (some 0))), some (.inr (.inr (some 79))), some (.inl i)]) (st' := [.inl 0, .inr (.inr (some 0))]) (w' := (SH, dt)) (fun _ => rfl) ?_
    refine go_call (Q' := _) rfl rfl rfl rfl rfl (sp_X5_image L xs sio (d + 35) dt hI  0 ⟨by omega, by omega⟩ ) ?_
    rintro _ _ ⟨dt4, rfl, hI5, hF6, h3⟩
    refine ⟨rfl, ?_⟩
    have hF7 : Fr [0, 1, 2, 3, 4, 5, 6, 7, 8, 9, 10, 11, 12, 13, 14, 15, 16, 17, 18, 19, 20, 21, 22, 23, 24, 25, 26, 27, 28, 29, 30, 31, 32, 33, 34, 35, 36, 37, 38, 39, 40, 41, 42, 43, 44, 45, 46, 47, 48, 49, 50, 51, 52, 53, 54, 55, 56, 57, 58, 59, 60, 61, 62, 63, 64, 65, 66, 67, 68, 69, 70, 71, 72, 73, 74, 75, 76, 77, 78, 79, 80, 81, 82, 83, 84, 85, 86, 87, 88, 89, 90, 91, 92, 93, 94, 95, 96, 97, 98, 99, 100, 101, 102, 103, 104] dt dt4 := Fr_tr hF hF6 (by decide)
    have hM8 : MW (dt4 80) := MW_fr hM hF6 (by decide)
    have w9 : dt4 35 1 = dt 35 1 := hF6 35 (by decide) 1
    have w10 : dt4 80 0 = dt 80 0 := hF6 80 (by decide) 0
    have w11 : dt4 80 1 = dt 80 1 := hF6 80 (by decide) 1
    have w12 : dt4 80 2 = dt 80 2 := hF6 80 (by decide) 2
    have w13 : dt4 80 3 = dt 80 3 := hF6 80 (by decide) 3
    have w14 : dt4 80 4 = dt 80 4 := hF6 80 (by decide) 4
    have w15 : dt4 80 5 = dt 80 5 := hF6 80 (by decide) 5
    have w16 : dt4 81 0 = dt 81 0 := hF6 81 (by decide) 0
    have w17 : dt4 81 1 = dt 81 1 := hF6 81 (by decide) 1
    have w18 : dt4 81 2 = dt 81 2 := hF6 81 (by decide) 2
    have w19 : dt4 81 3 = dt 81 3 := hF6 81 (by decide) 3
    have w20 : dt4 81 4 = dt 81 4 := hF6 81 (by decide) 4
    have w21 : dt4 81 5 = dt 81 5 := hF6 81 (by decide) 5
    have w22 : dt4 79 2 = dt 79 2 := hF6 79 (by decide) 2
    have w23 : dt4 79 12 = dt 79 12 := hF6 79 (by decide) 12
    rcases h3 with ⟨v_h3, rfl, h3r, h3⟩ | ⟨v_h3, rfl, h3r, h3⟩ | ⟨v_h3, rfl, h3r, h3⟩
    · skip
      obtain ⟨h3_0, h3_1, h3_2, h3_3, h3_4, h3_5, h3_6, h3_7, h3_8, h3_9, h3_10, h3_11, h3_12, h3_13, h3_14⟩ := h3
      have M224 : MW (dt4 81) := MW_frk hM2 hF6 (by decide)
      refine go_to (k := 6) (pc' := 1396) (L' := [some (.inr (.inr (some 3000))), some (.inr (.inr (some 0))), some (.inr (.inr (some 79))), some (.inl i)]) (st' := [.inl (i + 1), .inr (.inr (some 3000)), .inr (.inr (some 79))]) (w' := (SH, dt4)) (fun _ => rfl) ?_
      have r25 := i32_R (xs ((i + 1).toNat))
      refine go_smp (L' := [some (.inr (.inr (some 3000))), some (.inr (.inr (some 0))), some (.inr (.inr (some 79))), some (.inl i)]) (st' := [.inl ((xs ((i + 1).toNat)).toInt), .inr (.inr (some 79))]) (w' := (SH, dt4)) rfl rfl (s_iald (n := L) (f := fun j => (xs j).toInt) (am_scr hLL) ⟨by omega, by omega⟩) ?_
      refine go_if (k := 1) (p1 := 1404) (p2 := 1400) (L' := [some (.inr (.inr (some 3000))), some (.inr (.inr (some 0))), some (.inr (.inr (some 79))), some (.inl i)]) (st' := [.inr (.inr (some 79))]) (w' := (SH, dt4)) (fun _ => rfl) (z_eq (a := (xs ((i + 1).toNat)).toInt) ⟨by omega, by omega⟩) (fun c26 => ?_) (fun c26 => ?_)
      · skip
        refine go_to (k := 1) (pc' := 1405) (L' := [some (.inr (.inr (some 3000))), some (.inr (.inr (some 0))), some (.inr (.inr (some 79))), some (.inl i)]) (st' := [.inl 0, .inr (.inr (some 79))]) (w' := (SH, dt4)) (fun _ => rfl) ?_
        refine go_call (Q' := _) rfl rfl rfl rfl rfl (sp_X6_image_0k L xs sio (d + 38) dt4 hI5 hM8   (by first | trivial | omega | exact M224)) ?_
        rintro _ _ ⟨dt28, rfl, hI29, hF30, h27⟩
        refine ⟨rfl, ?_⟩
        have hF31 : Fr [0, 1, 2, 3, 4, 5, 6, 7, 8, 9, 10, 11, 12, 13, 14, 15, 16, 17, 18, 19, 20, 21, 22, 23, 24, 25, 26, 27, 28, 29, 30, 31, 32, 33, 34, 35, 36, 37, 38, 39, 40, 41, 42, 43, 44, 45, 46, 47, 48, 49, 50, 51, 52, 53, 54, 55, 56, 57, 58, 59, 60, 61, 62, 63, 64, 65, 66, 67, 68, 69, 70, 71, 72, 73, 74, 75, 76, 77, 78, 79, 80, 81, 82, 83, 84, 85, 86, 87, 88, 89, 90, 91, 92, 93, 94, 95, 96, 97, 98, 99, 100, 101, 102, 103, 104] dt dt28 := Fr_tr hF7 hF30 (by decide)
        have w32 : dt28 1 0 = dt4 1 0 := hF30 1 (by decide) 0
        have w33 : dt28 7 3 = dt4 7 3 := hF30 7 (by decide) 3
        have w34 : dt28 10 3 = dt4 10 3 := hF30 10 (by decide) 3
        have w35 : dt28 12 3 = dt4 12 3 := hF30 12 (by decide) 3
        have w36 : dt28 14 3 = dt4 14 3 := hF30 14 (by decide) 3
        have w37 : dt28 16 3 = dt4 16 3 := hF30 16 (by decide) 3
        have w38 : dt28 18 0 = dt4 18 0 := hF30 18 (by decide) 0
        have w39 : dt28 24 3 = dt4 24 3 := hF30 24 (by decide) 3
        have w40 : dt28 27 3 = dt4 27 3 := hF30 27 (by decide) 3
        have w41 : dt28 29 3 = dt4 29 3 := hF30 29 (by decide) 3
        have w42 : dt28 31 3 = dt4 31 3 := hF30 31 (by decide) 3
        have w43 : dt28 33 3 = dt4 33 3 := hF30 33 (by decide) 3
        have w44 : dt28 0 2 = dt4 0 2 := hF30 0 (by decide) 2
        have w45 : dt28 35 1 = dt4 35 1 := hF30 35 (by decide) 1
        have w46 : dt28 81 0 = dt4 81 0 := hF30 81 (by decide) 0
        have w47 : dt28 81 1 = dt4 81 1 := hF30 81 (by decide) 1
        have w48 : dt28 81 2 = dt4 81 2 := hF30 81 (by decide) 2
        have w49 : dt28 81 3 = dt4 81 3 := hF30 81 (by decide) 3
        have w50 : dt28 81 4 = dt4 81 4 := hF30 81 (by decide) 4
        have w51 : dt28 81 5 = dt4 81 5 := hF30 81 (by decide) 5
        rcases h27 with ⟨rfl, h27⟩ | ⟨rfl, h27⟩
        · skip
          have hM52 : MW (dt28 80) := h27.2.2.1
          obtain ⟨h27_0, h27_1, h27_2, h27_3, h27_4, h27_5, h27_6⟩ := h27
          have M253 : MW (dt28 81) := MW_frk M224 hF30 (by decide)
          refine go_to (k := 2) (pc' := 1435) (L' := [some (.inr (.inr (some 3000))), some (.inr (.inr (some 0))), some (.inr (.inr (some 79))), some (.inl i)]) (st' := []) (w' := (SH, dt28)) (fun _ => rfl) ?_
          exact K dt28 hI29 hM52 M253 (by first | omega | (simp only [*]; done) | simp only [*]) (by omega) (by omega) (by omega) (by omega) (by omega) (by omega) (by omega) (by omega) (by omega) (by omega) (by omega) (by omega) (by omega)
        · skip
          have hM54 : MW (dt28 80) := h27.2.2.1
          obtain ⟨h27_0, h27_1, h27_2, h27_3, h27_4, h27_5, h27_6⟩ := h27
          have M255 : MW (dt28 81) := MW_frk M224 hF30 (by decide)
          refine go_to (k := 2) (pc' := 1435) (L' := [some (.inr (.inr (some 3000))), some (.inr (.inr (some 0))), some (.inr (.inr (some 79))), some (.inl i)]) (st' := []) (w' := (SH, dt28)) (fun _ => rfl) ?_
          exact K dt28 hI29 hM54 M255 (by first | omega | (simp only [*]; done) | simp only [*]) (by omega) (by omega) (by omega) (by omega) (by omega) (by omega) (by omega) (by omega) (by omega) (by omega) (by omega) (by omega) (by omega)
      · skip
        refine go_to (k := 2) (pc' := 1405) (L' := [some (.inr (.inr (some 3000))), some (.inr (.inr (some 0))), some (.inr (.inr (some 79))), some (.inl i)]) (st' := [.inl 1, .inr (.inr (some 79))]) (w' := (SH, dt4)) (fun _ => rfl) ?_
        refine go_call (Q' := _) rfl rfl rfl rfl rfl (sp_X6_image_1k L xs sio (d + 38) dt4 hI5 hM8   ) ?_
        rintro _ _ ⟨dt57, rfl, hI58, hF59, h56⟩
        refine ⟨rfl, ?_⟩
        have hF60 : Fr [0, 1, 2, 3, 4, 5, 6, 7, 8, 9, 10, 11, 12, 13, 14, 15, 16, 17, 18, 19, 20, 21, 22, 23, 24, 25, 26, 27, 28, 29, 30, 31, 32, 33, 34, 35, 36, 37, 38, 39, 40, 41, 42, 43, 44, 45, 46, 47, 48, 49, 50, 51, 52, 53, 54, 55, 56, 57, 58, 59, 60, 61, 62, 63, 64, 65, 66, 67, 68, 69, 70, 71, 72, 73, 74, 75, 76, 77, 78, 79, 80, 81, 82, 83, 84, 85, 86, 87, 88, 89, 90, 91, 92, 93, 94, 95, 96, 97, 98, 99, 100, 101, 102, 103, 104] dt dt57 := Fr_tr hF7 hF59 (by decide)
        have hM61 : MW (dt57 80) := MW_fr hM8 hF59 (by decide)
        have w62 : dt57 1 0 = dt4 1 0 := hF59 1 (by decide) 0
        have w63 : dt57 7 3 = dt4 7 3 := hF59 7 (by decide) 3
        have w64 : dt57 10 3 = dt4 10 3 := hF59 10 (by decide) 3
        have w65 : dt57 12 3 = dt4 12 3 := hF59 12 (by decide) 3
        have w66 : dt57 14 3 = dt4 14 3 := hF59 14 (by decide) 3
        have w67 : dt57 16 3 = dt4 16 3 := hF59 16 (by decide) 3
        have w68 : dt57 18 0 = dt4 18 0 := hF59 18 (by decide) 0
        have w69 : dt57 24 3 = dt4 24 3 := hF59 24 (by decide) 3
        have w70 : dt57 27 3 = dt4 27 3 := hF59 27 (by decide) 3
        have w71 : dt57 29 3 = dt4 29 3 := hF59 29 (by decide) 3
        have w72 : dt57 31 3 = dt4 31 3 := hF59 31 (by decide) 3
        have w73 : dt57 33 3 = dt4 33 3 := hF59 33 (by decide) 3
        have w74 : dt57 0 2 = dt4 0 2 := hF59 0 (by decide) 2
        have w75 : dt57 35 1 = dt4 35 1 := hF59 35 (by decide) 1
        have w76 : dt57 80 0 = dt4 80 0 := hF59 80 (by decide) 0
        have w77 : dt57 80 1 = dt4 80 1 := hF59 80 (by decide) 1
        have w78 : dt57 80 2 = dt4 80 2 := hF59 80 (by decide) 2
        have w79 : dt57 80 3 = dt4 80 3 := hF59 80 (by decide) 3
        have w80 : dt57 80 4 = dt4 80 4 := hF59 80 (by decide) 4
        have w81 : dt57 80 5 = dt4 80 5 := hF59 80 (by decide) 5
        rcases h56 with ⟨rfl, h56⟩
        have hM82 : MW (dt57 80) := h56.2.1
        obtain ⟨h56_0, h56_1, h56_2, h56_3, h56_4, h56_5⟩ := h56
        have y83 := h56_3 0 (by decide)
        have y84 := h56_3 1 (by decide)
        have y85 := h56_3 2 (by decide)
        have y86 := h56_3 3 (by decide)
        have y87 := h56_3 4 (by decide)
        have y88 := h56_3 5 (by decide)
        have y89 := h56_4 0 (by decide)
        have y90 := h56_4 1 (by decide)
        have y91 := h56_4 2 (by decide)
        have y92 := h56_4 3 (by decide)
        have y93 := h56_4 4 (by decide)
        have y94 := h56_4 5 (by decide)
        refine go_to (k := 2) (pc' := 1435) (L' := [some (.inr (.inr (some 3000))), some (.inr (.inr (some 0))), some (.inr (.inr (some 79))), some (.inl i)]) (st' := []) (w' := (SH, dt57)) (fun _ => rfl) ?_
        exact K dt57 hI58 hM82 h56_2 (by first | omega | (simp only [*]; done) | simp only [*]) (by omega) (by omega) (by omega) (by omega) (by omega) (by omega) (by omega) (by omega) (by omega) (by omega) (by omega) (by omega) (by omega)
    · skip
      obtain ⟨h3_0, h3_1, h3_2, h3_3, h3_4, h3_5, h3_6, h3_7, h3_8, h3_9, h3_10, h3_11, h3_12, h3_13, h3_14, h3_15⟩ := h3
      have M295 : MW (dt4 81) := MW_frk hM2 hF6 (by decide)
      refine go_to (k := 6) (pc' := 1396) (L' := [some (.inr (.inr (some 3000))), some (.inr (.inr (some 0))), some (.inr (.inr (some 79))), some (.inl i)]) (st' := [.inl (i + 1), .inr (.inr (some 3000)), .inr (.inr (some 79))]) (w' := (SH, dt4)) (fun _ => rfl) ?_
      have r96 := i32_R (xs ((i + 1).toNat))
      refine go_smp (L' := [some (.inr (.inr (some 3000))), some (.inr (.inr (some 0))), some (.inr (.inr (some 79))), some (.inl i)]) (st' := [.inl ((xs ((i + 1).toNat)).toInt), .inr (.inr (some 79))]) (w' := (SH, dt4)) rfl rfl (s_iald (n := L) (f := fun j => (xs j).toInt) (am_scr hLL) ⟨by omega, by omega⟩) ?_
      refine go_if (k := 1) (p1 := 1404) (p2 := 1400) (L' := [some (.inr (.inr (some 3000))), some (.inr (.inr (some 0))), some (.inr (.inr (some 79))), some (.inl i)]) (st' := [.inr (.inr (some 79))]) (w' := (SH, dt4)) (fun _ => rfl) (z_eq (a := (xs ((i + 1).toNat)).toInt) ⟨by omega, by omega⟩) (fun c97 => ?_) (fun c97 => ?_)
      · skip
        refine go_to (k := 1) (pc' := 1405) (L' := [some (.inr (.inr (some 3000))), some (.inr (.inr (some 0))), some (.inr (.inr (some 79))), some (.inl i)]) (st' := [.inl 0, .inr (.inr (some 79))]) (w' := (SH, dt4)) (fun _ => rfl) ?_
        refine go_call (Q' := _) rfl rfl rfl rfl rfl (sp_X6_image_0k L xs sio (d + 38) dt4 hI5 hM8   (by first | trivial | omega | exact M295)) ?_
        rintro _ _ ⟨dt99, rfl, hI100, hF101, h98⟩
        refine ⟨rfl, ?_⟩
        have hF102 : Fr [0, 1, 2, 3, 4, 5, 6, 7, 8, 9, 10, 11, 12, 13, 14, 15, 16, 17, 18, 19, 20, 21, 22, 23, 24, 25, 26, 27, 28, 29, 30, 31, 32, 33, 34, 35, 36, 37, 38, 39, 40, 41, 42, 43, 44, 45, 46, 47, 48, 49, 50, 51, 52, 53, 54, 55, 56, 57, 58, 59, 60, 61, 62, 63, 64, 65, 66, 67, 68, 69, 70, 71, 72, 73, 74, 75, 76, 77, 78, 79, 80, 81, 82, 83, 84, 85, 86, 87, 88, 89, 90, 91, 92, 93, 94, 95, 96, 97, 98, 99, 100, 101, 102, 103, 104] dt dt99 := Fr_tr hF7 hF101 (by decide)
        have w103 : dt99 1 0 = dt4 1 0 := hF101 1 (by decide) 0
        have w104 : dt99 7 3 = dt4 7 3 := hF101 7 (by decide) 3
        have w105 : dt99 10 3 = dt4 10 3 := hF101 10 (by decide) 3
        have w106 : dt99 12 3 = dt4 12 3 := hF101 12 (by decide) 3
        have w107 : dt99 14 3 = dt4 14 3 := hF101 14 (by decide) 3
        have w108 : dt99 16 3 = dt4 16 3 := hF101 16 (by decide) 3
        have w109 : dt99 18 0 = dt4 18 0 := hF101 18 (by decide) 0
        have w110 : dt99 24 3 = dt4 24 3 := hF101 24 (by decide) 3
        have w111 : dt99 27 3 = dt4 27 3 := hF101 27 (by decide) 3
        have w112 : dt99 29 3 = dt4 29 3 := hF101 29 (by decide) 3
        have w113 : dt99 31 3 = dt4 31 3 := hF101 31 (by decide) 3
        have w114 : dt99 33 3 = dt4 33 3 := hF101 33 (by decide) 3
        have w115 : dt99 0 2 = dt4 0 2 := hF101 0 (by decide) 2
        have w116 : dt99 35 1 = dt4 35 1 := hF101 35 (by decide) 1
        have w117 : dt99 81 0 = dt4 81 0 := hF101 81 (by decide) 0
        have w118 : dt99 81 1 = dt4 81 1 := hF101 81 (by decide) 1
        have w119 : dt99 81 2 = dt4 81 2 := hF101 81 (by decide) 2
        have w120 : dt99 81 3 = dt4 81 3 := hF101 81 (by decide) 3
        have w121 : dt99 81 4 = dt4 81 4 := hF101 81 (by decide) 4
        have w122 : dt99 81 5 = dt4 81 5 := hF101 81 (by decide) 5
        rcases h98 with ⟨rfl, h98⟩ | ⟨rfl, h98⟩
        · skip
          have hM123 : MW (dt99 80) := h98.2.2.1
          obtain ⟨h98_0, h98_1, h98_2, h98_3, h98_4, h98_5, h98_6⟩ := h98
          have M2124 : MW (dt99 81) := MW_frk M295 hF101 (by decide)
          refine go_to (k := 2) (pc' := 1435) (L' := [some (.inr (.inr (some 3000))), some (.inr (.inr (some 0))), some (.inr (.inr (some 79))), some (.inl i)]) (st' := []) (w' := (SH, dt99)) (fun _ => rfl) ?_
          exact K dt99 hI100 hM123 M2124 (by first | omega | (simp only [*]; done) | simp only [*]) (by omega) (by omega) (by omega) (by omega) (by omega) (by omega) (by omega) (by omega) (by omega) (by omega) (by omega) (by omega) (by omega)
        · skip
          have hM125 : MW (dt99 80) := h98.2.2.1
          obtain ⟨h98_0, h98_1, h98_2, h98_3, h98_4, h98_5, h98_6⟩ := h98
          have M2126 : MW (dt99 81) := MW_frk M295 hF101 (by decide)
          refine go_to (k := 2) (pc' := 1435) (L' := [some (.inr (.inr (some 3000))), some (.inr (.inr (some 0))), some (.inr (.inr (some 79))), some (.inl i)]) (st' := []) (w' := (SH, dt99)) (fun _ => rfl) ?_
          exact K dt99 hI100 hM125 M2126 (by first | omega | (simp only [*]; done) | simp only [*]) (by omega) (by omega) (by omega) (by omega) (by omega) (by omega) (by omega) (by omega) (by omega) (by omega) (by omega) (by omega) (by omega)
      · skip
        refine go_to (k := 2) (pc' := 1405) (L' := [some (.inr (.inr (some 3000))), some (.inr (.inr (some 0))), some (.inr (.inr (some 79))), some (.inl i)]) (st' := [.inl 1, .inr (.inr (some 79))]) (w' := (SH, dt4)) (fun _ => rfl) ?_
        refine go_call (Q' := _) rfl rfl rfl rfl rfl (sp_X6_image_1k L xs sio (d + 38) dt4 hI5 hM8   ) ?_
        rintro _ _ ⟨dt128, rfl, hI129, hF130, h127⟩
        refine ⟨rfl, ?_⟩
        have hF131 : Fr [0, 1, 2, 3, 4, 5, 6, 7, 8, 9, 10, 11, 12, 13, 14, 15, 16, 17, 18, 19, 20, 21, 22, 23, 24, 25, 26, 27, 28, 29, 30, 31, 32, 33, 34, 35, 36, 37, 38, 39, 40, 41, 42, 43, 44, 45, 46, 47, 48, 49, 50, 51, 52, 53, 54, 55, 56, 57, 58, 59, 60, 61, 62, 63, 64, 65, 66, 67, 68, 69, 70, 71, 72, 73, 74, 75, 76, 77, 78, 79, 80, 81, 82, 83, 84, 85, 86, 87, 88, 89, 90, 91, 92, 93, 94, 95, 96, 97, 98, 99, 100, 101, 102, 103, 104] dt dt128 := Fr_tr hF7 hF130 (by decide)
        have hM132 : MW (dt128 80) := MW_fr hM8 hF130 (by decide)
        have w133 : dt128 1 0 = dt4 1 0 := hF130 1 (by decide) 0
        have w134 : dt128 7 3 = dt4 7 3 := hF130 7 (by decide) 3
        have w135 : dt128 10 3 = dt4 10 3 := hF130 10 (by decide) 3
        have w136 : dt128 12 3 = dt4 12 3 := hF130 12 (by decide) 3
        have w137 : dt128 14 3 = dt4 14 3 := hF130 14 (by decide) 3
        have w138 : dt128 16 3 = dt4 16 3 := hF130 16 (by decide) 3
        have w139 : dt128 18 0 = dt4 18 0 := hF130 18 (by decide) 0
        have w140 : dt128 24 3 = dt4 24 3 := hF130 24 (by decide) 3
        have w141 : dt128 27 3 = dt4 27 3 := hF130 27 (by decide) 3
        have w142 : dt128 29 3 = dt4 29 3 := hF130 29 (by decide) 3
        have w143 : dt128 31 3 = dt4 31 3 := hF130 31 (by decide) 3
        have w144 : dt128 33 3 = dt4 33 3 := hF130 33 (by decide) 3
        have w145 : dt128 0 2 = dt4 0 2 := hF130 0 (by decide) 2
        have w146 : dt128 35 1 = dt4 35 1 := hF130 35 (by decide) 1
        have w147 : dt128 80 0 = dt4 80 0 := hF130 80 (by decide) 0
        have w148 : dt128 80 1 = dt4 80 1 := hF130 80 (by decide) 1
        have w149 : dt128 80 2 = dt4 80 2 := hF130 80 (by decide) 2
        have w150 : dt128 80 3 = dt4 80 3 := hF130 80 (by decide) 3
        have w151 : dt128 80 4 = dt4 80 4 := hF130 80 (by decide) 4
        have w152 : dt128 80 5 = dt4 80 5 := hF130 80 (by decide) 5
        rcases h127 with ⟨rfl, h127⟩
        have hM153 : MW (dt128 80) := h127.2.1
        obtain ⟨h127_0, h127_1, h127_2, h127_3, h127_4, h127_5⟩ := h127
        have y154 := h127_3 0 (by decide)
        have y155 := h127_3 1 (by decide)
        have y156 := h127_3 2 (by decide)
        have y157 := h127_3 3 (by decide)
        have y158 := h127_3 4 (by decide)
        have y159 := h127_3 5 (by decide)
        have y160 := h127_4 0 (by decide)
        have y161 := h127_4 1 (by decide)
        have y162 := h127_4 2 (by decide)
        have y163 := h127_4 3 (by decide)
        have y164 := h127_4 4 (by decide)
        have y165 := h127_4 5 (by decide)
        refine go_to (k := 2) (pc' := 1435) (L' := [some (.inr (.inr (some 3000))), some (.inr (.inr (some 0))), some (.inr (.inr (some 79))), some (.inl i)]) (st' := []) (w' := (SH, dt128)) (fun _ => rfl) ?_
        exact K dt128 hI129 hM153 h127_2 (by first | omega | (simp only [*]; done) | simp only [*]) (by omega) (by omega) (by omega) (by omega) (by omega) (by omega) (by omega) (by omega) (by omega) (by omega) (by omega) (by omega) (by omega)
    · skip
      obtain ⟨h3_0, h3_1, h3_2, h3_3, h3_4, h3_5, h3_6, h3_7, h3_8, h3_9, h3_10, h3_11, h3_12, h3_13, h3_14, h3_15⟩ := h3
      have M2166 : MW (dt4 81) := MW_frk hM2 hF6 (by decide)
      refine go_to (k := 6) (pc' := 1396) (L' := [some (.inr (.inr (some 3000))), some (.inr (.inr (some 0))), some (.inr (.inr (some 79))), some (.inl i)]) (st' := [.inl (i + 1), .inr (.inr (some 3000)), .inr (.inr (some 79))]) (w' := (SH, dt4)) (fun _ => rfl) ?_
      have r167 := i32_R (xs ((i + 1).toNat))
      refine go_smp (L' := [some (.inr (.inr (some 3000))), some (.inr (.inr (some 0))), some (.inr (.inr (some 79))), some (.inl i)]) (st' := [.inl ((xs ((i + 1).toNat)).toInt), .inr (.inr (some 79))]) (w' := (SH, dt4)) rfl rfl (s_iald (n := L) (f := fun j => (xs j).toInt) (am_scr hLL) ⟨by omega, by omega⟩) ?_
      refine go_if (k := 1) (p1 := 1404) (p2 := 1400) (L' := [some (.inr (.inr (some 3000))), some (.inr (.inr (some 0))), some (.inr (.inr (some 79))), some (.inl i)]) (st' := [.inr (.inr (some 79))]) (w' := (SH, dt4)) (fun _ => rfl) (z_eq (a := (xs ((i + 1).toNat)).toInt) ⟨by omega, by omega⟩) (fun c168 => ?_) (fun c168 => ?_)
      · skip
        refine go_to (k := 1) (pc' := 1405) (L' := [some (.inr (.inr (some 3000))), some (.inr (.inr (some 0))), some (.inr (.inr (some 79))), some (.inl i)]) (st' := [.inl 0, .inr (.inr (some 79))]) (w' := (SH, dt4)) (fun _ => rfl) ?_
        refine go_call (Q' := _) rfl rfl rfl rfl rfl (sp_X6_image_0k L xs sio (d + 38) dt4 hI5 hM8   (by first | trivial | omega | exact M2166)) ?_
        rintro _ _ ⟨dt170, rfl, hI171, hF172, h169⟩
        refine ⟨rfl, ?_⟩
        have hF173 : Fr [0, 1, 2, 3, 4, 5, 6, 7, 8, 9, 10, 11, 12, 13, 14, 15, 16, 17, 18, 19, 20, 21, 22, 23, 24, 25, 26, 27, 28, 29, 30, 31, 32, 33, 34, 35, 36, 37, 38, 39, 40, 41, 42, 43, 44, 45, 46, 47, 48, 49, 50, 51, 52, 53, 54, 55, 56, 57, 58, 59, 60, 61, 62, 63, 64, 65, 66, 67, 68, 69, 70, 71, 72, 73, 74, 75, 76, 77, 78, 79, 80, 81, 82, 83, 84, 85, 86, 87, 88, 89, 90, 91, 92, 93, 94, 95, 96, 97, 98, 99, 100, 101, 102, 103, 104] dt dt170 := Fr_tr hF7 hF172 (by decide)
        have w174 : dt170 1 0 = dt4 1 0 := hF172 1 (by decide) 0
        have w175 : dt170 7 3 = dt4 7 3 := hF172 7 (by decide) 3
        have w176 : dt170 10 3 = dt4 10 3 := hF172 10 (by decide) 3
        have w177 : dt170 12 3 = dt4 12 3 := hF172 12 (by decide) 3
        have w178 : dt170 14 3 = dt4 14 3 := hF172 14 (by decide) 3
        have w179 : dt170 16 3 = dt4 16 3 := hF172 16 (by decide) 3
        have w180 : dt170 18 0 = dt4 18 0 := hF172 18 (by decide) 0
        have w181 : dt170 24 3 = dt4 24 3 := hF172 24 (by decide) 3
        have w182 : dt170 27 3 = dt4 27 3 := hF172 27 (by decide) 3
        have w183 : dt170 29 3 = dt4 29 3 := hF172 29 (by decide) 3
        have w184 : dt170 31 3 = dt4 31 3 := hF172 31 (by decide) 3
        have w185 : dt170 33 3 = dt4 33 3 := hF172 33 (by decide) 3
        have w186 : dt170 0 2 = dt4 0 2 := hF172 0 (by decide) 2
        have w187 : dt170 35 1 = dt4 35 1 := hF172 35 (by decide) 1
        have w188 : dt170 81 0 = dt4 81 0 := hF172 81 (by decide) 0
        have w189 : dt170 81 1 = dt4 81 1 := hF172 81 (by decide) 1
        have w190 : dt170 81 2 = dt4 81 2 := hF172 81 (by decide) 2
        have w191 : dt170 81 3 = dt4 81 3 := hF172 81 (by decide) 3
        have w192 : dt170 81 4 = dt4 81 4 := hF172 81 (by decide) 4
        have w193 : dt170 81 5 = dt4 81 5 := hF172 81 (by decide) 5
        rcases h169 with ⟨rfl, h169⟩ | ⟨rfl, h169⟩
        · skip
          have hM194 : MW (dt170 80) := h169.2.2.1
          obtain ⟨h169_0, h169_1, h169_2, h169_3, h169_4, h169_5, h169_6⟩ := h169
          have M2195 : MW (dt170 81) := MW_frk M2166 hF172 (by decide)
          refine go_to (k := 2) (pc' := 1435) (L' := [some (.inr (.inr (some 3000))), some (.inr (.inr (some 0))), some (.inr (.inr (some 79))), some (.inl i)]) (st' := []) (w' := (SH, dt170)) (fun _ => rfl) ?_
          exact K dt170 hI171 hM194 M2195 (by first | omega | (simp only [*]; done) | simp only [*]) (by omega) (by omega) (by omega) (by omega) (by omega) (by omega) (by omega) (by omega) (by omega) (by omega) (by omega) (by omega) (by omega)
        · skip
          have hM196 : MW (dt170 80) := h169.2.2.1
          obtain ⟨h169_0, h169_1, h169_2, h169_3, h169_4, h169_5, h169_6⟩ := h169
          have M2197 : MW (dt170 81) := MW_frk M2166 hF172 (by decide)
          refine go_to (k := 2) (pc' := 1435) (L' := [some (.inr (.inr (some 3000))), some (.inr (.inr (some 0))), some (.inr (.inr (some 79))), some (.inl i)]) (st' := []) (w' := (SH, dt170)) (fun _ => rfl) ?_
          exact K dt170 hI171 hM196 M2197 (by first | omega | (simp only [*]; done) | simp only [*]) (by omega) (by omega) (by omega) (by omega) (by omega) (by omega) (by omega) (by omega) (by omega) (by omega) (by omega) (by omega) (by omega)
      · skip
        refine go_to (k := 2) (pc' := 1405) (L' := [some (.inr (.inr (some 3000))), some (.inr (.inr (some 0))), some (.inr (.inr (some 79))), some (.inl i)]) (st' := [.inl 1, .inr (.inr (some 79))]) (w' := (SH, dt4)) (fun _ => rfl) ?_
        refine go_call (Q' := _) rfl rfl rfl rfl rfl (sp_X6_image_1k L xs sio (d + 38) dt4 hI5 hM8   ) ?_
        rintro _ _ ⟨dt199, rfl, hI200, hF201, h198⟩
        refine ⟨rfl, ?_⟩
        have hF202 : Fr [0, 1, 2, 3, 4, 5, 6, 7, 8, 9, 10, 11, 12, 13, 14, 15, 16, 17, 18, 19, 20, 21, 22, 23, 24, 25, 26, 27, 28, 29, 30, 31, 32, 33, 34, 35, 36, 37, 38, 39, 40, 41, 42, 43, 44, 45, 46, 47, 48, 49, 50, 51, 52, 53, 54, 55, 56, 57, 58, 59, 60, 61, 62, 63, 64, 65, 66, 67, 68, 69, 70, 71, 72, 73, 74, 75, 76, 77, 78, 79, 80, 81, 82, 83, 84, 85, 86, 87, 88, 89, 90, 91, 92, 93, 94, 95, 96, 97, 98, 99, 100, 101, 102, 103, 104] dt dt199 := Fr_tr hF7 hF201 (by decide)
        have hM203 : MW (dt199 80) := MW_fr hM8 hF201 (by decide)
        have w204 : dt199 1 0 = dt4 1 0 := hF201 1 (by decide) 0
        have w205 : dt199 7 3 = dt4 7 3 := hF201 7 (by decide) 3
        have w206 : dt199 10 3 = dt4 10 3 := hF201 10 (by decide) 3
        have w207 : dt199 12 3 = dt4 12 3 := hF201 12 (by decide) 3
        have w208 : dt199 14 3 = dt4 14 3 := hF201 14 (by decide) 3
        have w209 : dt199 16 3 = dt4 16 3 := hF201 16 (by decide) 3
        have w210 : dt199 18 0 = dt4 18 0 := hF201 18 (by decide) 0
        have w211 : dt199 24 3 = dt4 24 3 := hF201 24 (by decide) 3
        have w212 : dt199 27 3 = dt4 27 3 := hF201 27 (by decide) 3
        have w213 : dt199 29 3 = dt4 29 3 := hF201 29 (by decide) 3
        have w214 : dt199 31 3 = dt4 31 3 := hF201 31 (by decide) 3
        have w215 : dt199 33 3 = dt4 33 3 := hF201 33 (by decide) 3
        have w216 : dt199 0 2 = dt4 0 2 := hF201 0 (by decide) 2
        have w217 : dt199 35 1 = dt4 35 1 := hF201 35 (by decide) 1
        have w218 : dt199 80 0 = dt4 80 0 := hF201 80 (by decide) 0
        have w219 : dt199 80 1 = dt4 80 1 := hF201 80 (by decide) 1
        have w220 : dt199 80 2 = dt4 80 2 := hF201 80 (by decide) 2
        have w221 : dt199 80 3 = dt4 80 3 := hF201 80 (by decide) 3
        have w222 : dt199 80 4 = dt4 80 4 := hF201 80 (by decide) 4
        have w223 : dt199 80 5 = dt4 80 5 := hF201 80 (by decide) 5
        rcases h198 with ⟨rfl, h198⟩
        have hM224 : MW (dt199 80) := h198.2.1
        obtain ⟨h198_0, h198_1, h198_2, h198_3, h198_4, h198_5⟩ := h198
        have y225 := h198_3 0 (by decide)
        have y226 := h198_3 1 (by decide)
        have y227 := h198_3 2 (by decide)
        have y228 := h198_3 3 (by decide)
        have y229 := h198_3 4 (by decide)
        have y230 := h198_3 5 (by decide)
        have y231 := h198_4 0 (by decide)
        have y232 := h198_4 1 (by decide)
        have y233 := h198_4 2 (by decide)
        have y234 := h198_4 3 (by decide)
        have y235 := h198_4 4 (by decide)
        have y236 := h198_4 5 (by decide)
        refine go_to (k := 2) (pc' := 1435) (L' := [some (.inr (.inr (some 3000))), some (.inr (.inr (some 0))), some (.inr (.inr (some 79))), some (.inl i)]) (st' := []) (w' := (SH, dt199)) (fun _ => rfl) ?_
        exact K dt199 hI200 hM224 h198_2 (by first | omega | (simp only [*]; done) | simp only [*]) (by omega) (by omega) (by omega) (by omega) (by omega) (by omega) (by omega) (by omega) (by omega) (by omega) (by omega) (by omega) (by omega)
  · skip
    refine go_to (k := 2) (pc' := 1387) (L' := [some (.inr (.inr (some 3000))), some (.inr (.inr (some 0))), some (.inr (.inr (some 79))), some (.inl i)]) (st' := [.inl 1, .inr (.inr (some 0))]) (w' := (SH, dt)) (fun _ => rfl) ?_
    refine go_call (Q' := _) rfl rfl rfl rfl rfl (sp_X5_image L xs sio (d + 35) dt hI  1 ⟨by omega, by omega⟩ ) ?_
    rintro _ _ ⟨dt238, rfl, hI239, hF240, h237⟩
    refine ⟨rfl, ?_⟩
    have hF241 : Fr [0, 1, 2, 3, 4, 5, 6, 7, 8, 9, 10, 11, 12, 13, 14, 15, 16, 17, 18, 19, 20, 21, 22, 23, 24, 25, 26, 27, 28, 29, 30, 31, 32, 33, 34, 35, 36, 37, 38, 39, 40, 41, 42, 43, 44, 45, 46, 47, 48, 49, 50, 51, 52, 53, 54, 55, 56, 57, 58, 59, 60, 61, 62, 63, 64, 65, 66, 67, 68, 69, 70, 71, 72, 73, 74, 75, 76, 77, 78, 79, 80, 81, 82, 83, 84, 85, 86, 87, 88, 89, 90, 91, 92, 93, 94, 95, 96, 97, 98, 99, 100, 101, 102, 103, 104] dt dt238 := Fr_tr hF hF240 (by decide)
    have hM242 : MW (dt238 80) := MW_fr hM hF240 (by decide)
    have w243 : dt238 35 1 = dt 35 1 := hF240 35 (by decide) 1
    have w244 : dt238 80 0 = dt 80 0 := hF240 80 (by decide) 0
    have w245 : dt238 80 1 = dt 80 1 := hF240 80 (by decide) 1
    have w246 : dt238 80 2 = dt 80 2 := hF240 80 (by decide) 2
    have w247 : dt238 80 3 = dt 80 3 := hF240 80 (by decide) 3
    have w248 : dt238 80 4 = dt 80 4 := hF240 80 (by decide) 4
    have w249 : dt238 80 5 = dt 80 5 := hF240 80 (by decide) 5
    have w250 : dt238 81 0 = dt 81 0 := hF240 81 (by decide) 0
    have w251 : dt238 81 1 = dt 81 1 := hF240 81 (by decide) 1
    have w252 : dt238 81 2 = dt 81 2 := hF240 81 (by decide) 2
    have w253 : dt238 81 3 = dt 81 3 := hF240 81 (by decide) 3
    have w254 : dt238 81 4 = dt 81 4 := hF240 81 (by decide) 4
    have w255 : dt238 81 5 = dt 81 5 := hF240 81 (by decide) 5
    have w256 : dt238 79 2 = dt 79 2 := hF240 79 (by decide) 2
    have w257 : dt238 79 12 = dt 79 12 := hF240 79 (by decide) 12
    rcases h237 with ⟨v_h237, rfl, h237r, h237⟩ | ⟨v_h237, rfl, h237r, h237⟩ | ⟨v_h237, rfl, h237r, h237⟩
    · skip
      obtain ⟨h237_0, h237_1, h237_2, h237_3, h237_4, h237_5, h237_6, h237_7, h237_8, h237_9, h237_10, h237_11, h237_12, h237_13, h237_14⟩ := h237
      have M2258 : MW (dt238 81) := MW_frk hM2 hF240 (by decide)
      refine go_to (k := 6) (pc' := 1396) (L' := [some (.inr (.inr (some 3000))), some (.inr (.inr (some 0))), some (.inr (.inr (some 79))), some (.inl i)]) (st' := [.inl (i + 1), .inr (.inr (some 3000)), .inr (.inr (some 79))]) (w' := (SH, dt238)) (fun _ => rfl) ?_
      have r259 := i32_R (xs ((i + 1).toNat))
      refine go_smp (L' := [some (.inr (.inr (some 3000))), some (.inr (.inr (some 0))), some (.inr (.inr (some 79))), some (.inl i)]) (st' := [.inl ((xs ((i + 1).toNat)).toInt), .inr (.inr (some 79))]) (w' := (SH, dt238)) rfl rfl (s_iald (n := L) (f := fun j => (xs j).toInt) (am_scr hLL) ⟨by omega, by omega⟩) ?_
      refine go_if (k := 1) (p1 := 1404) (p2 := 1400) (L' := [some (.inr (.inr (some 3000))), some (.inr (.inr (some 0))), some (.inr (.inr (some 79))), some (.inl i)]) (st' := [.inr (.inr (some 79))]) (w' := (SH, dt238)) (fun _ => rfl) (z_eq (a := (xs ((i + 1).toNat)).toInt) ⟨by omega, by omega⟩) (fun c260 => ?_) (fun c260 => ?_)
      · skip
        refine go_to (k := 1) (pc' := 1405) (L' := [some (.inr (.inr (some 3000))), some (.inr (.inr (some 0))), some (.inr (.inr (some 79))), some (.inl i)]) (st' := [.inl 0, .inr (.inr (some 79))]) (w' := (SH, dt238)) (fun _ => rfl) ?_
        refine go_call (Q' := _) rfl rfl rfl rfl rfl (sp_X6_image_0k L xs sio (d + 38) dt238 hI239 hM242   (by first | trivial | omega | exact M2258)) ?_
        rintro _ _ ⟨dt262, rfl, hI263, hF264, h261⟩
        refine ⟨rfl, ?_⟩
        have hF265 : Fr [0, 1, 2, 3, 4, 5, 6, 7, 8, 9, 10, 11, 12, 13, 14, 15, 16, 17, 18, 19, 20, 21, 22, 23, 24, 25, 26, 27, 28, 29, 30, 31, 32, 33, 34, 35, 36, 37, 38, 39, 40, 41, 42, 43, 44, 45, 46, 47, 48, 49, 50, 51, 52, 53, 54, 55, 56, 57, 58, 59, 60, 61, 62, 63, 64, 65, 66, 67, 68, 69, 70, 71, 72, 73, 74, 75, 76, 77, 78, 79, 80, 81, 82, 83, 84, 85, 86, 87, 88, 89, 90, 91, 92, 93, 94, 95, 96, 97, 98, 99, 100, 101, 102, 103, 104] dt dt262 := Fr_tr hF241 hF264 (by decide)
        have w266 : dt262 1 0 = dt238 1 0 := hF264 1 (by decide) 0
        have w267 : dt262 7 3 = dt238 7 3 := hF264 7 (by decide) 3
        have w268 : dt262 10 3 = dt238 10 3 := hF264 10 (by decide) 3
        have w269 : dt262 12 3 = dt238 12 3 := hF264 12 (by decide) 3
        have w270 : dt262 14 3 = dt238 14 3 := hF264 14 (by decide) 3
        have w271 : dt262 16 3 = dt238 16 3 := hF264 16 (by decide) 3
        have w272 : dt262 18 0 = dt238 18 0 := hF264 18 (by decide) 0
        have w273 : dt262 24 3 = dt238 24 3 := hF264 24 (by decide) 3
        have w274 : dt262 27 3 = dt238 27 3 := hF264 27 (by decide) 3
        have w275 : dt262 29 3 = dt238 29 3 := hF264 29 (by decide) 3
        have w276 : dt262 31 3 = dt238 31 3 := hF264 31 (by decide) 3
        have w277 : dt262 33 3 = dt238 33 3 := hF264 33 (by decide) 3
        have w278 : dt262 0 2 = dt238 0 2 := hF264 0 (by decide) 2
        have w279 : dt262 35 1 = dt238 35 1 := hF264 35 (by decide) 1
        have w280 : dt262 81 0 = dt238 81 0 := hF264 81 (by decide) 0
        have w281 : dt262 81 1 = dt238 81 1 := hF264 81 (by decide) 1
        have w282 : dt262 81 2 = dt238 81 2 := hF264 81 (by decide) 2
        have w283 : dt262 81 3 = dt238 81 3 := hF264 81 (by decide) 3
        have w284 : dt262 81 4 = dt238 81 4 := hF264 81 (by decide) 4
        have w285 : dt262 81 5 = dt238 81 5 := hF264 81 (by decide) 5
        rcases h261 with ⟨rfl, h261⟩ | ⟨rfl, h261⟩
        · skip
          have hM286 : MW (dt262 80) := h261.2.2.1
          obtain ⟨h261_0, h261_1, h261_2, h261_3, h261_4, h261_5, h261_6⟩ := h261
          have M2287 : MW (dt262 81) := MW_frk M2258 hF264 (by decide)
          refine go_to (k := 2) (pc' := 1435) (L' := [some (.inr (.inr (some 3000))), some (.inr (.inr (some 0))), some (.inr (.inr (some 79))), some (.inl i)]) (st' := []) (w' := (SH, dt262)) (fun _ => rfl) ?_
          exact K dt262 hI263 hM286 M2287 (by first | omega | (simp only [*]; done) | simp only [*]) (by omega) (by omega) (by omega) (by omega) (by omega) (by omega) (by omega) (by omega) (by omega) (by omega) (by omega) (by omega) (by omega)
        · skip
          have hM288 : MW (dt262 80) := h261.2.2.1
          obtain ⟨h261_0, h261_1, h261_2, h261_3, h261_4, h261_5, h261_6⟩ := h261
          have M2289 : MW (dt262 81) := MW_frk M2258 hF264 (by decide)
          refine go_to (k := 2) (pc' := 1435) (L' := [some (.inr (.inr (some 3000))), some (.inr (.inr (some 0))), some (.inr (.inr (some 79))), some (.inl i)]) (st' := []) (w' := (SH, dt262)) (fun _ => rfl) ?_
          exact K dt262 hI263 hM288 M2289 (by first | omega | (simp only [*]; done) | simp only [*]) (by omega) (by omega) (by omega) (by omega) (by omega) (by omega) (by omega) (by omega) (by omega) (by omega) (by omega) (by omega) (by omega)
      · skip
        refine go_to (k := 2) (pc' := 1405) (L' := [some (.inr (.inr (some 3000))), some (.inr (.inr (some 0))), some (.inr (.inr (some 79))), some (.inl i)]) (st' := [.inl 1, .inr (.inr (some 79))]) (w' := (SH, dt238)) (fun _ => rfl) ?_
        refine go_call (Q' := _) rfl rfl rfl rfl rfl (sp_X6_image_1k L xs sio (d + 38) dt238 hI239 hM242   ) ?_
        rintro _ _ ⟨dt291, rfl, hI292, hF293, h290⟩
        refine ⟨rfl, ?_⟩
        have hF294 : Fr [0, 1, 2, 3, 4, 5, 6, 7, 8, 9, 10, 11, 12, 13, 14, 15, 16, 17, 18, 19, 20, 21, 22, 23, 24, 25, 26, 27, 28, 29, 30, 31, 32, 33, 34, 35, 36, 37, 38, 39, 40, 41, 42, 43, 44, 45, 46, 47, 48, 49, 50, 51, 52, 53, 54, 55, 56, 57, 58, 59, 60, 61, 62, 63, 64, 65, 66, 67, 68, 69, 70, 71, 72, 73, 74, 75, 76, 77, 78, 79, 80, 81, 82, 83, 84, 85, 86, 87, 88, 89, 90, 91, 92, 93, 94, 95, 96, 97, 98, 99, 100, 101, 102, 103, 104] dt dt291 := Fr_tr hF241 hF293 (by decide)
        have hM295 : MW (dt291 80) := MW_fr hM242 hF293 (by decide)
        have w296 : dt291 1 0 = dt238 1 0 := hF293 1 (by decide) 0
        have w297 : dt291 7 3 = dt238 7 3 := hF293 7 (by decide) 3
        have w298 : dt291 10 3 = dt238 10 3 := hF293 10 (by decide) 3
        have w299 : dt291 12 3 = dt238 12 3 := hF293 12 (by decide) 3
        have w300 : dt291 14 3 = dt238 14 3 := hF293 14 (by decide) 3
        have w301 : dt291 16 3 = dt238 16 3 := hF293 16 (by decide) 3
        have w302 : dt291 18 0 = dt238 18 0 := hF293 18 (by decide) 0
        have w303 : dt291 24 3 = dt238 24 3 := hF293 24 (by decide) 3
        have w304 : dt291 27 3 = dt238 27 3 := hF293 27 (by decide) 3
        have w305 : dt291 29 3 = dt238 29 3 := hF293 29 (by decide) 3
        have w306 : dt291 31 3 = dt238 31 3 := hF293 31 (by decide) 3
        have w307 : dt291 33 3 = dt238 33 3 := hF293 33 (by decide) 3
        have w308 : dt291 0 2 = dt238 0 2 := hF293 0 (by decide) 2
        have w309 : dt291 35 1 = dt238 35 1 := hF293 35 (by decide) 1
        have w310 : dt291 80 0 = dt238 80 0 := hF293 80 (by decide) 0
        have w311 : dt291 80 1 = dt238 80 1 := hF293 80 (by decide) 1
        have w312 : dt291 80 2 = dt238 80 2 := hF293 80 (by decide) 2
        have w313 : dt291 80 3 = dt238 80 3 := hF293 80 (by decide) 3
        have w314 : dt291 80 4 = dt238 80 4 := hF293 80 (by decide) 4
        have w315 : dt291 80 5 = dt238 80 5 := hF293 80 (by decide) 5
        rcases h290 with ⟨rfl, h290⟩
        have hM316 : MW (dt291 80) := h290.2.1
        obtain ⟨h290_0, h290_1, h290_2, h290_3, h290_4, h290_5⟩ := h290
        have y317 := h290_3 0 (by decide)
        have y318 := h290_3 1 (by decide)
        have y319 := h290_3 2 (by decide)
        have y320 := h290_3 3 (by decide)
        have y321 := h290_3 4 (by decide)
        have y322 := h290_3 5 (by decide)
        have y323 := h290_4 0 (by decide)
        have y324 := h290_4 1 (by decide)
        have y325 := h290_4 2 (by decide)
        have y326 := h290_4 3 (by decide)
        have y327 := h290_4 4 (by decide)
        have y328 := h290_4 5 (by decide)
        refine go_to (k := 2) (pc' := 1435) (L' := [some (.inr (.inr (some 3000))), some (.inr (.inr (some 0))), some (.inr (.inr (some 79))), some (.inl i)]) (st' := []) (w' := (SH, dt291)) (fun _ => rfl) ?_
        exact K dt291 hI292 hM316 h290_2 (by first | omega | (simp only [*]; done) | simp only [*]) (by omega) (by omega) (by omega) (by omega) (by omega) (by omega) (by omega) (by omega) (by omega) (by omega) (by omega) (by omega) (by omega)
    · skip
      obtain ⟨h237_0, h237_1, h237_2, h237_3, h237_4, h237_5, h237_6, h237_7, h237_8, h237_9, h237_10, h237_11, h237_12, h237_13, h237_14, h237_15⟩ := h237
      have M2329 : MW (dt238 81) := MW_frk hM2 hF240 (by decide)
      refine go_to (k := 6) (pc' := 1396) (L' := [some (.inr (.inr (some 3000))), some (.inr (.inr (some 0))), some (.inr (.inr (some 79))), some (.inl i)]) (st' := [.inl (i + 1), .inr (.inr (some 3000)), .inr (.inr (some 79))]) (w' := (SH, dt238)) (fun _ => rfl) ?_
      have r330 := i32_R (xs ((i + 1).toNat))
      refine go_smp (L' := [some (.inr (.inr (some 3000))), some (.inr (.inr (some 0))), some (.inr (.inr (some 79))), some (.inl i)]) (st' := [.inl ((xs ((i + 1).toNat)).toInt), .inr (.inr (some 79))]) (w' := (SH, dt238)) rfl rfl (s_iald (n := L) (f := fun j => (xs j).toInt) (am_scr hLL) ⟨by omega, by omega⟩) ?_
      refine go_if (k := 1) (p1 := 1404) (p2 := 1400) (L' := [some (.inr (.inr (some 3000))), some (.inr (.inr (some 0))), some (.inr (.inr (some 79))), some (.inl i)]) (st' := [.inr (.inr (some 79))]) (w' := (SH, dt238)) (fun _ => rfl) (z_eq (a := (xs ((i + 1).toNat)).toInt) ⟨by omega, by omega⟩) (fun c331 => ?_) (fun c331 => ?_)
      · skip
        refine go_to (k := 1) (pc' := 1405) (L' := [some (.inr (.inr (some 3000))), some (.inr (.inr (some 0))), some (.inr (.inr (some 79))), some (.inl i)]) (st' := [.inl 0, .inr (.inr (some 79))]) (w' := (SH, dt238)) (fun _ => rfl) ?_
        refine go_call (Q' := _) rfl rfl rfl rfl rfl (sp_X6_image_0k L xs sio (d + 38) dt238 hI239 hM242   (by first | trivial | omega | exact M2329)) ?_
        rintro _ _ ⟨dt333, rfl, hI334, hF335, h332⟩
        refine ⟨rfl, ?_⟩
        have hF336 : Fr [0, 1, 2, 3, 4, 5, 6, 7, 8, 9, 10, 11, 12, 13, 14, 15, 16, 17, 18, 19, 20, 21, 22, 23, 24, 25, 26, 27, 28, 29, 30, 31, 32, 33, 34, 35, 36, 37, 38, 39, 40, 41, 42, 43, 44, 45, 46, 47, 48, 49, 50, 51, 52, 53, 54, 55, 56, 57, 58, 59, 60, 61, 62, 63, 64, 65, 66, 67, 68, 69, 70, 71, 72, 73, 74, 75, 76, 77, 78, 79, 80, 81, 82, 83, 84, 85, 86, 87, 88, 89, 90, 91, 92, 93, 94, 95, 96, 97, 98, 99, 100, 101, 102, 103, 104] dt dt333 := Fr_tr hF241 hF335 (by decide)
        have w337 : dt333 1 0 = dt238 1 0 := hF335 1 (by decide) 0
        have w338 : dt333 7 3 = dt238 7 3 := hF335 7 (by decide) 3
        have w339 : dt333 10 3 = dt238 10 3 := hF335 10 (by decide) 3
        have w340 : dt333 12 3 = dt238 12 3 := hF335 12 (by decide) 3
        have w341 : dt333 14 3 = dt238 14 3 := hF335 14 (by decide) 3
        have w342 : dt333 16 3 = dt238 16 3 := hF335 16 (by decide) 3
        have w343 : dt333 18 0 = dt238 18 0 := hF335 18 (by decide) 0
        have w344 : dt333 24 3 = dt238 24 3 := hF335 24 (by decide) 3
        have w345 : dt333 27 3 = dt238 27 3 := hF335 27 (by decide) 3
        have w346 : dt333 29 3 = dt238 29 3 := hF335 29 (by decide) 3
        have w347 : dt333 31 3 = dt238 31 3 := hF335 31 (by decide) 3
        have w348 : dt333 33 3 = dt238 33 3 := hF335 33 (by decide) 3
        have w349 : dt333 0 2 = dt238 0 2 := hF335 0 (by decide) 2
        have w350 : dt333 35 1 = dt238 35 1 := hF335 35 (by decide) 1
        have w351 : dt333 81 0 = dt238 81 0 := hF335 81 (by decide) 0
        have w352 : dt333 81 1 = dt238 81 1 := hF335 81 (by decide) 1
        have w353 : dt333 81 2 = dt238 81 2 := hF335 81 (by decide) 2
        have w354 : dt333 81 3 = dt238 81 3 := hF335 81 (by decide) 3
        have w355 : dt333 81 4 = dt238 81 4 := hF335 81 (by decide) 4
        have w356 : dt333 81 5 = dt238 81 5 := hF335 81 (by decide) 5
        rcases h332 with ⟨rfl, h332⟩ | ⟨rfl, h332⟩
        · skip
          have hM357 : MW (dt333 80) := h332.2.2.1
          obtain ⟨h332_0, h332_1, h332_2, h332_3, h332_4, h332_5, h332_6⟩ := h332
          have M2358 : MW (dt333 81) := MW_frk M2329 hF335 (by decide)
          refine go_to (k := 2) (pc' := 1435) (L' := [some (.inr (.inr (some 3000))), some (.inr (.inr (some 0))), some (.inr (.inr (some 79))), some (.inl i)]) (st' := []) (w' := (SH, dt333)) (fun _ => rfl) ?_
          exact K dt333 hI334 hM357 M2358 (by first | omega | (simp only [*]; done) | simp only [*]) (by omega) (by omega) (by omega) (by omega) (by omega) (by omega) (by omega) (by omega) (by omega) (by omega) (by omega) (by omega) (by omega)
        · skip
          have hM359 : MW (dt333 80) := h332.2.2.1
          obtain ⟨h332_0, h332_1, h332_2, h332_3, h332_4, h332_5, h332_6⟩ := h332
          have M2360 : MW (dt333 81) := MW_frk M2329 hF335 (by decide)
          refine go_to (k := 2) (pc' := 1435) (L' := [some (.inr (.inr (some 3000))), some (.inr (.inr (some 0))), some (.inr (.inr (some 79))), some (.inl i)]) (st' := []) (w' := (SH, dt333)) (fun _ => rfl) ?_
          exact K dt333 hI334 hM359 M2360 (by first | omega | (simp only [*]; done) | simp only [*]) (by omega) (by omega) (by omega) (by omega) (by omega) (by omega) (by omega) (by omega) (by omega) (by omega) (by omega) (by omega) (by omega)
      · skip
        refine go_to (k := 2) (pc' := 1405) (L' := [some (.inr (.inr (some 3000))), some (.inr (.inr (some 0))), some (.inr (.inr (some 79))), some (.inl i)]) (st' := [.inl 1, .inr (.inr (some 79))]) (w' := (SH, dt238)) (fun _ => rfl) ?_
        refine go_call (Q' := _) rfl rfl rfl rfl rfl (sp_X6_image_1k L xs sio (d + 38) dt238 hI239 hM242   ) ?_
        rintro _ _ ⟨dt362, rfl, hI363, hF364, h361⟩
        refine ⟨rfl, ?_⟩
        have hF365 : Fr [0, 1, 2, 3, 4, 5, 6, 7, 8, 9, 10, 11, 12, 13, 14, 15, 16, 17, 18, 19, 20, 21, 22, 23, 24, 25, 26, 27, 28, 29, 30, 31, 32, 33, 34, 35, 36, 37, 38, 39, 40, 41, 42, 43, 44, 45, 46, 47, 48, 49, 50, 51, 52, 53, 54, 55, 56, 57, 58, 59, 60, 61, 62, 63, 64, 65, 66, 67, 68, 69, 70, 71, 72, 73, 74, 75, 76, 77, 78, 79, 80, 81, 82, 83, 84, 85, 86, 87, 88, 89, 90, 91, 92, 93, 94, 95, 96, 97, 98, 99, 100, 101, 102, 103, 104] dt dt362 := Fr_tr hF241 hF364 (by decide)
        have hM366 : MW (dt362 80) := MW_fr hM242 hF364 (by decide)
        have w367 : dt362 1 0 = dt238 1 0 := hF364 1 (by decide) 0
        have w368 : dt362 7 3 = dt238 7 3 := hF364 7 (by decide) 3
        have w369 : dt362 10 3 = dt238 10 3 := hF364 10 (by decide) 3
        have w370 : dt362 12 3 = dt238 12 3 := hF364 12 (by decide) 3
        have w371 : dt362 14 3 = dt238 14 3 := hF364 14 (by decide) 3
        have w372 : dt362 16 3 = dt238 16 3 := hF364 16 (by decide) 3
        have w373 : dt362 18 0 = dt238 18 0 := hF364 18 (by decide) 0
        have w374 : dt362 24 3 = dt238 24 3 := hF364 24 (by decide) 3
        have w375 : dt362 27 3 = dt238 27 3 := hF364 27 (by decide) 3
        have w376 : dt362 29 3 = dt238 29 3 := hF364 29 (by decide) 3
        have w377 : dt362 31 3 = dt238 31 3 := hF364 31 (by decide) 3
        have w378 : dt362 33 3 = dt238 33 3 := hF364 33 (by decide) 3
        have w379 : dt362 0 2 = dt238 0 2 := hF364 0 (by decide) 2
        have w380 : dt362 35 1 = dt238 35 1 := hF364 35 (by decide) 1
        have w381 : dt362 80 0 = dt238 80 0 := hF364 80 (by decide) 0
        have w382 : dt362 80 1 = dt238 80 1 := hF364 80 (by decide) 1
        have w383 : dt362 80 2 = dt238 80 2 := hF364 80 (by decide) 2
        have w384 : dt362 80 3 = dt238 80 3 := hF364 80 (by decide) 3
        have w385 : dt362 80 4 = dt238 80 4 := hF364 80 (by decide) 4
        have w386 : dt362 80 5 = dt238 80 5 := hF364 80 (by decide) 5
        rcases h361 with ⟨rfl, h361⟩
        have hM387 : MW (dt362 80) := h361.2.1
        obtain ⟨h361_0, h361_1, h361_2, h361_3, h361_4, h361_5⟩ := h361
        have y388 := h361_3 0 (by decide)
        have y389 := h361_3 1 (by decide)
        have y390 := h361_3 2 (by decide)
        have y391 := h361_3 3 (by decide)
        have y392 := h361_3 4 (by decide)
        have y393 := h361_3 5 (by decide)
        have y394 := h361_4 0 (by decide)
        have y395 := h361_4 1 (by decide)
        have y396 := h361_4 2 (by decide)
        have y397 := h361_4 3 (by decide)
        have y398 := h361_4 4 (by decide)
        have y399 := h361_4 5 (by decide)
        refine go_to (k := 2) (pc' := 1435) (L' := [some (.inr (.inr (some 3000))), some (.inr (.inr (some 0))), some (.inr (.inr (some 79))), some (.inl i)]) (st' := []) (w' := (SH, dt362)) (fun _ => rfl) ?_
        exact K dt362 hI363 hM387 h361_2 (by first | omega | (simp only [*]; done) | simp only [*]) (by omega) (by omega) (by omega) (by omega) (by omega) (by omega) (by omega) (by omega) (by omega) (by omega) (by omega) (by omega) (by omega)
    · skip
      obtain ⟨h237_0, h237_1, h237_2, h237_3, h237_4, h237_5, h237_6, h237_7, h237_8, h237_9, h237_10, h237_11, h237_12, h237_13, h237_14, h237_15⟩ := h237
      have M2400 : MW (dt238 81) := MW_frk hM2 hF240 (by decide)
      refine go_to (k := 6) (pc' := 1396) (L' := [some (.inr (.inr (some 3000))), some (.inr (.inr (some 0))), some (.inr (.inr (some 79))), some (.inl i)]) (st' := [.inl (i + 1), .inr (.inr (some 3000)), .inr (.inr (some 79))]) (w' := (SH, dt238)) (fun _ => rfl) ?_
      have r401 := i32_R (xs ((i + 1).toNat))
      refine go_smp (L' := [some (.inr (.inr (some 3000))), some (.inr (.inr (some 0))), some (.inr (.inr (some 79))), some (.inl i)]) (st' := [.inl ((xs ((i + 1).toNat)).toInt), .inr (.inr (some 79))]) (w' := (SH, dt238)) rfl rfl (s_iald (n := L) (f := fun j => (xs j).toInt) (am_scr hLL) ⟨by omega, by omega⟩) ?_
      refine go_if (k := 1) (p1 := 1404) (p2 := 1400) (L' := [some (.inr (.inr (some 3000))), some (.inr (.inr (some 0))), some (.inr (.inr (some 79))), some (.inl i)]) (st' := [.inr (.inr (some 79))]) (w' := (SH, dt238)) (fun _ => rfl) (z_eq (a := (xs ((i + 1).toNat)).toInt) ⟨by omega, by omega⟩) (fun c402 => ?_) (fun c402 => ?_)
      · skip
        refine go_to (k := 1) (pc' := 1405) (L' := [some (.inr (.inr (some 3000))), some (.inr (.inr (some 0))), some (.inr (.inr (some 79))), some (.inl i)]) (st' := [.inl 0, .inr (.inr (some 79))]) (w' := (SH, dt238)) (fun _ => rfl) ?_
        refine go_call (Q' := _) rfl rfl rfl rfl rfl (sp_X6_image_0k L xs sio (d + 38) dt238 hI239 hM242   (by first | trivial | omega | exact M2400)) ?_
        rintro _ _ ⟨dt404, rfl, hI405, hF406, h403⟩
        refine ⟨rfl, ?_⟩
        have hF407 : Fr [0, 1, 2, 3, 4, 5, 6, 7, 8, 9, 10, 11, 12, 13, 14, 15, 16, 17, 18, 19, 20, 21, 22, 23, 24, 25, 26, 27, 28, 29, 30, 31, 32, 33, 34, 35, 36, 37, 38, 39, 40, 41, 42, 43, 44, 45, 46, 47, 48, 49, 50, 51, 52, 53, 54, 55, 56, 57, 58, 59, 60, 61, 62, 63, 64, 65, 66, 67, 68, 69, 70, 71, 72, 73, 74, 75, 76, 77, 78, 79, 80, 81, 82, 83, 84, 85, 86, 87, 88, 89, 90, 91, 92, 93, 94, 95, 96, 97, 98, 99, 100, 101, 102, 103, 104] dt dt404 := Fr_tr hF241 hF406 (by decide)
        have w408 : dt404 1 0 = dt238 1 0 := hF406 1 (by decide) 0
        have w409 : dt404 7 3 = dt238 7 3 := hF406 7 (by decide) 3
        have w410 : dt404 10 3 = dt238 10 3 := hF406 10 (by decide) 3
        have w411 : dt404 12 3 = dt238 12 3 := hF406 12 (by decide) 3
        have w412 : dt404 14 3 = dt238 14 3 := hF406 14 (by decide) 3
        have w413 : dt404 16 3 = dt238 16 3 := hF406 16 (by decide) 3
        have w414 : dt404 18 0 = dt238 18 0 := hF406 18 (by decide) 0
        have w415 : dt404 24 3 = dt238 24 3 := hF406 24 (by decide) 3
        have w416 : dt404 27 3 = dt238 27 3 := hF406 27 (by decide) 3
        have w417 : dt404 29 3 = dt238 29 3 := hF406 29 (by decide) 3
        have w418 : dt404 31 3 = dt238 31 3 := hF406 31 (by decide) 3
        have w419 : dt404 33 3 = dt238 33 3 := hF406 33 (by decide) 3
        have w420 : dt404 0 2 = dt238 0 2 := hF406 0 (by decide) 2
        have w421 : dt404 35 1 = dt238 35 1 := hF406 35 (by decide) 1
        have w422 : dt404 81 0 = dt238 81 0 := hF406 81 (by decide) 0
        have w423 : dt404 81 1 = dt238 81 1 := hF406 81 (by decide) 1
        have w424 : dt404 81 2 = dt238 81 2 := hF406 81 (by decide) 2
        have w425 : dt404 81 3 = dt238 81 3 := hF406 81 (by decide) 3
        have w426 : dt404 81 4 = dt238 81 4 := hF406 81 (by decide) 4
        have w427 : dt404 81 5 = dt238 81 5 := hF406 81 (by decide) 5
        rcases h403 with ⟨rfl, h403⟩ | ⟨rfl, h403⟩
        · skip
          have hM428 : MW (dt404 80) := h403.2.2.1
          obtain ⟨h403_0, h403_1, h403_2, h403_3, h403_4, h403_5, h403_6⟩ := h403
          have M2429 : MW (dt404 81) := MW_frk M2400 hF406 (by decide)
          refine go_to (k := 2) (pc' := 1435) (L' := [some (.inr (.inr (some 3000))), some (.inr (.inr (some 0))), some (.inr (.inr (some 79))), some (.inl i)]) (st' := []) (w' := (SH, dt404)) (fun _ => rfl) ?_
          exact K dt404 hI405 hM428 M2429 (by first | omega | (simp only [*]; done) | simp only [*]) (by omega) (by omega) (by omega) (by omega) (by omega) (by omega) (by omega) (by omega) (by omega) (by omega) (by omega) (by omega) (by omega)
        · skip
          have hM430 : MW (dt404 80) := h403.2.2.1
          obtain ⟨h403_0, h403_1, h403_2, h403_3, h403_4, h403_5, h403_6⟩ := h403
          have M2431 : MW (dt404 81) := MW_frk M2400 hF406 (by decide)
          refine go_to (k := 2) (pc' := 1435) (L' := [some (.inr (.inr (some 3000))), some (.inr (.inr (some 0))), some (.inr (.inr (some 79))), some (.inl i)]) (st' := []) (w' := (SH, dt404)) (fun _ => rfl) ?_
          exact K dt404 hI405 hM430 M2431 (by first | omega | (simp only [*]; done) | simp only [*]) (by omega) (by omega) (by omega) (by omega) (by omega) (by omega) (by omega) (by omega) (by omega) (by omega) (by omega) (by omega) (by omega)
      · skip
        refine go_to (k := 2) (pc' := 1405) (L' := [some (.inr (.inr (some 3000))), some (.inr (.inr (some 0))), some (.inr (.inr (some 79))), some (.inl i)]) (st' := [.inl 1, .inr (.inr (some 79))]) (w' := (SH, dt238)) (fun _ => rfl) ?_
        refine go_call (Q' := _) rfl rfl rfl rfl rfl (sp_X6_image_1k L xs sio (d + 38) dt238 hI239 hM242   ) ?_
        rintro _ _ ⟨dt433, rfl, hI434, hF435, h432⟩
        refine ⟨rfl, ?_⟩
        have hF436 : Fr [0, 1, 2, 3, 4, 5, 6, 7, 8, 9, 10, 11, 12, 13, 14, 15, 16, 17, 18, 19, 20, 21, 22, 23, 24, 25, 26, 27, 28, 29, 30, 31, 32, 33, 34, 35, 36, 37, 38, 39, 40, 41, 42, 43, 44, 45, 46, 47, 48, 49, 50, 51, 52, 53, 54, 55, 56, 57, 58, 59, 60, 61, 62, 63, 64, 65, 66, 67, 68, 69, 70, 71, 72, 73, 74, 75, 76, 77, 78, 79, 80, 81, 82, 83, 84, 85, 86, 87, 88, 89, 90, 91, 92, 93, 94, 95, 96, 97, 98, 99, 100, 101, 102, 103, 104] dt dt433 := Fr_tr hF241 hF435 (by decide)
        have hM437 : MW (dt433 80) := MW_fr hM242 hF435 (by decide)
        have w438 : dt433 1 0 = dt238 1 0 := hF435 1 (by decide) 0
        have w439 : dt433 7 3 = dt238 7 3 := hF435 7 (by decide) 3
        have w440 : dt433 10 3 = dt238 10 3 := hF435 10 (by decide) 3
        have w441 : dt433 12 3 = dt238 12 3 := hF435 12 (by decide) 3
        have w442 : dt433 14 3 = dt238 14 3 := hF435 14 (by decide) 3
        have w443 : dt433 16 3 = dt238 16 3 := hF435 16 (by decide) 3
        have w444 : dt433 18 0 = dt238 18 0 := hF435 18 (by decide) 0
        have w445 : dt433 24 3 = dt238 24 3 := hF435 24 (by decide) 3
        have w446 : dt433 27 3 = dt238 27 3 := hF435 27 (by decide) 3
        have w447 : dt433 29 3 = dt238 29 3 := hF435 29 (by decide) 3
        have w448 : dt433 31 3 = dt238 31 3 := hF435 31 (by decide) 3
        have w449 : dt433 33 3 = dt238 33 3 := hF435 33 (by decide) 3
        have w450 : dt433 0 2 = dt238 0 2 := hF435 0 (by decide) 2
        have w451 : dt433 35 1 = dt238 35 1 := hF435 35 (by decide) 1
        have w452 : dt433 80 0 = dt238 80 0 := hF435 80 (by decide) 0
        have w453 : dt433 80 1 = dt238 80 1 := hF435 80 (by decide) 1
        have w454 : dt433 80 2 = dt238 80 2 := hF435 80 (by decide) 2
        have w455 : dt433 80 3 = dt238 80 3 := hF435 80 (by decide) 3
        have w456 : dt433 80 4 = dt238 80 4 := hF435 80 (by decide) 4
        have w457 : dt433 80 5 = dt238 80 5 := hF435 80 (by decide) 5
        rcases h432 with ⟨rfl, h432⟩
        have hM458 : MW (dt433 80) := h432.2.1
        obtain ⟨h432_0, h432_1, h432_2, h432_3, h432_4, h432_5⟩ := h432
        have y459 := h432_3 0 (by decide)
        have y460 := h432_3 1 (by decide)
        have y461 := h432_3 2 (by decide)
        have y462 := h432_3 3 (by decide)
        have y463 := h432_3 4 (by decide)
        have y464 := h432_3 5 (by decide)
        have y465 := h432_4 0 (by decide)
        have y466 := h432_4 1 (by decide)
        have y467 := h432_4 2 (by decide)
        have y468 := h432_4 3 (by decide)
        have y469 := h432_4 4 (by decide)
        have y470 := h432_4 5 (by decide)
        refine go_to (k := 2) (pc' := 1435) (L' := [some (.inr (.inr (some 3000))), some (.inr (.inr (some 0))), some (.inr (.inr (some 79))), some (.inl i)]) (st' := []) (w' := (SH, dt433)) (fun _ => rfl) ?_
        exact K dt433 hI434 hM458 h432_2 (by first | omega | (simp only [*]; done) | simp only [*]) (by omega) (by omega) (by omega) (by omega) (by omega) (by omega) (by omega) (by omega) (by omega) (by omega) (by omega) (by omega) (by omega)
set_option maxRecDepth 20000 in
set_option maxHeartbeats 8000000 in
theorem sp_case32 (L : Nat) (xs : Nat → Int32) (sio : Option Nat) (d : Nat) (Q : Option AV → am_W → Prop) (hLL : L ≤ 3072) (i : Int) (hi : 0 ≤ i ∧ i ≤ 3066) (hil : i ≤ (L : Int) - 6) (dt : Nat → Nat → Int) (hI : InvC dt) (hM : MW (dt 80)) (hM2 : MW (dt 81)) (hk0 : dt 1 0 = dt 80 0) (hk1 : dt 7 3 = dt 80 1) (hk2 : dt 10 3 = dt 80 2) (hk3 : dt 12 3 = dt 80 3) (hk4 : dt 14 3 = dt 80 4) (hk5 : dt 16 3 = dt 80 5) (hk6 : dt 18 0 = dt 81 0) (hk7 : dt 24 3 = dt 81 1) (hk8 : dt 27 3 = dt 81 2) (hk9 : dt 29 3 = dt 81 3) (hk10 : dt 31 3 = dt 81 4) (hk11 : dt 33 3 = dt 81 5) (hk12 : dt 0 2 = dt 79 2) (hk13 : dt 35 1 = dt 79 12) (K : ∀ (dt : Nat → Nat → Int) (hI : InvC dt) (hM : MW (dt 80)) (hM2 : MW (dt 81)) (hk0 : dt 1 0 = dt 80 0) (hk1 : dt 7 3 = dt 80 1) (hk2 : dt 10 3 = dt 80 2) (hk3 : dt 12 3 = dt 80 3) (hk4 : dt 14 3 = dt 80 4) (hk5 : dt 16 3 = dt 80 5) (hk6 : dt 18 0 = dt 81 0) (hk7 : dt 24 3 = dt 81 1) (hk8 : dt 27 3 = dt 81 2) (hk9 : dt 29 3 = dt 81 3) (hk10 : dt 31 3 = dt 81 4) (hk11 : dt 33 3 = dt 81 5) (hk12 : dt 0 2 = dt 79 2) (hk13 : dt 35 1 = dt 79 12), GO (am_XX L xs sio) (d + 39) 267 1435 [some (.inr (.inr (some 3000))), some (.inr (.inr (some 0))), some (.inr (.inr (some 79))), some (.inl i)] [] (SH, dt) Q) : GO (am_XX L xs sio) (d + 39) 267 1412 [some (.inr (.inr (some 3000))), some (.inr (.inr (some 0))), some (.inr (.inr (some 79))), some (.inl i)] [] (SH, dt) Q := by
  have hF : Fr [0, 1, 2, 3, 4, 5, 6, 7, 8, 9, 10, 11, 12, 13, 14, 15, 16, 17, 18, 19, 20, 21, 22, 23, 24, 25, 26, 27, 28, 29, 30, 31, 32, 33, 34, 35, 36, 37, 38, 39, 40, 41, 42, 43, 44, 45, 46, 47, 48, 49, 50, 51, 52, 53, 54, 55, 56, 57, 58, 59, 60, 61, 62, 63, 64, 65, 66, 67, 68, 69, 70, 71, 72, 73, 74, 75, 76, 77, 78, 79, 80, 81, 82, 83, 84, 85, 86, 87, 88, 89, 90, 91, 92, 93, 94, 95, 96, 97, 98, 99, 100, 101, 102, 103, 104] dt dt := Fr_refl
  refine go_to (k := 5) (pc' := 1417) (L' := [some (.inr (.inr (some 3000))), some (.inr (.inr (some 0))), some (.inr (.inr (some 79))), some (.inl i)]) (st' := [.inl (i + 1), .inr (.inr (some 3000)), .inr (.inr (some 0))]) (w' := (SH, dt)) (fun _ => rfl) ?_
  have r1 := i32_R (xs ((i + 1).toNat))
  refine go_smp (L' := [some (.inr (.inr (some 3000))), some (.inr (.inr (some 0))), some (.inr (.inr (some 79))), some (.inl i)]) (st' := [.inl ((xs ((i + 1).toNat)).toInt), .inr (.inr (some 0))]) (w' := (SH, dt)) rfl rfl (s_iald (n := L) (f := fun j => (xs j).toInt) (am_scr hLL) ⟨by omega, by omega⟩) ?_
  refine go_call (Q' := _) rfl rfl rfl rfl rfl (sp_X5_look L xs sio (d + 38) dt hI  ((xs ((i + 1).toNat)).toInt) ⟨by omega, by omega⟩ ) ?_
  rintro _ _ ⟨rfl, h2⟩
  refine ⟨rfl, ?_⟩
  rcases h2 with ⟨rfl, h2⟩ | ⟨rfl, h2⟩ | ⟨rfl, h2⟩ | ⟨rfl, h2⟩ | ⟨rfl, h2⟩ | ⟨rfl, h2⟩ | ⟨rfl, h2⟩ | ⟨rfl, h2⟩ | ⟨rfl, h2⟩
  · skip
    refine go_to (k := 5) (pc' := 1426) (L' := [some (.inr (.inr (some 3000))), some (.inr (.inr (some 0))), some (.inr (.inr (some 79))), some (.inl i)]) (st' := [.inl (i + 1), .inr (.inr (some 3000)), .inr (.inr (some 79)), .inl (dt 7 3)]) (w' := (SH, dt)) (fun _ => rfl) ?_
    refine go_smp (L' := [some (.inr (.inr (some 3000))), some (.inr (.inr (some 0))), some (.inr (.inr (some 79))), some (.inl i)]) (st' := [.inl ((xs ((i + 1).toNat)).toInt), .inr (.inr (some 79)), .inl (dt 7 3)]) (w' := (SH, dt)) rfl rfl (s_iald (n := L) (f := fun j => (xs j).toInt) (am_scr hLL) ⟨by omega, by omega⟩) ?_
    refine go_call (Q' := _) rfl rfl rfl rfl rfl (sp_X6_look L xs sio (d + 38) dt hI  ((xs ((i + 1).toNat)).toInt) ⟨by omega, by omega⟩ ) ?_
    rintro _ _ ⟨rfl, h3⟩
    refine ⟨rfl, ?_⟩
    rcases h3 with ⟨rfl, h3⟩ | ⟨rfl, h3⟩ | ⟨rfl, h3⟩ | ⟨rfl, h3⟩ | ⟨rfl, h3⟩ | ⟨rfl, h3⟩ | ⟨rfl, h3⟩ | ⟨rfl, h3⟩ | ⟨rfl, h3⟩
    · skip
      refine go_if (k := 1) (p1 := 1435) (p2 := 1433) (L' := [some (.inr (.inr (some 3000))), some (.inr (.inr (some 0))), some (.inr (.inr (some 79))), some (.inl i)]) (st' := []) (w' := (SH, dt)) (fun _ => rfl) (c_eq (a := dt 7 3) (b := dt 80 1) ⟨by omega, by omega⟩ ⟨by omega, by omega⟩) (fun c4 => ?_) (fun c4 => ?_)
      · skip
        exact K dt hI hM hM2 (by first | omega | (simp only [*]; done) | simp only [*]) (by omega) (by omega) (by omega) (by omega) (by omega) (by omega) (by omega) (by omega) (by omega) (by omega) (by omega) (by omega) (by omega)
      · skip
        exfalso; omega
    · skip
      refine go_if (k := 1) (p1 := 1435) (p2 := 1433) (L' := [some (.inr (.inr (some 3000))), some (.inr (.inr (some 0))), some (.inr (.inr (some 79))), some (.inl i)]) (st' := []) (w' := (SH, dt)) (fun _ => rfl) (c_eq (a := dt 7 3) (b := dt 80 2) ⟨by omega, by omega⟩ ⟨by omega, by omega⟩) (fun c5 => ?_) (fun c5 => ?_)
      · skip
        exact K dt hI hM hM2 (by first | omega | (simp only [*]; done) | simp only [*]) (by omega) (by omega) (by omega) (by omega) (by omega) (by omega) (by omega) (by omega) (by omega) (by omega) (by omega) (by omega) (by omega)
      · skip
        exfalso; omega
    · skip
      refine go_if (k := 1) (p1 := 1435) (p2 := 1433) (L' := [some (.inr (.inr (some 3000))), some (.inr (.inr (some 0))), some (.inr (.inr (some 79))), some (.inl i)]) (st' := []) (w' := (SH, dt)) (fun _ => rfl) (c_eq (a := dt 7 3) (b := dt 80 3) ⟨by omega, by omega⟩ ⟨by omega, by omega⟩) (fun c6 => ?_) (fun c6 => ?_)
      · skip
        exact K dt hI hM hM2 (by first | omega | (simp only [*]; done) | simp only [*]) (by omega) (by omega) (by omega) (by omega) (by omega) (by omega) (by omega) (by omega) (by omega) (by omega) (by omega) (by omega) (by omega)
      · skip
        exfalso; omega
    · skip
      refine go_if (k := 1) (p1 := 1435) (p2 := 1433) (L' := [some (.inr (.inr (some 3000))), some (.inr (.inr (some 0))), some (.inr (.inr (some 79))), some (.inl i)]) (st' := []) (w' := (SH, dt)) (fun _ => rfl) (c_eq (a := dt 7 3) (b := dt 80 4) ⟨by omega, by omega⟩ ⟨by omega, by omega⟩) (fun c7 => ?_) (fun c7 => ?_)
      · skip
        exact K dt hI hM hM2 (by first | omega | (simp only [*]; done) | simp only [*]) (by omega) (by omega) (by omega) (by omega) (by omega) (by omega) (by omega) (by omega) (by omega) (by omega) (by omega) (by omega) (by omega)
      · skip
        exfalso; omega
    · skip
      refine go_if (k := 1) (p1 := 1435) (p2 := 1433) (L' := [some (.inr (.inr (some 3000))), some (.inr (.inr (some 0))), some (.inr (.inr (some 79))), some (.inl i)]) (st' := []) (w' := (SH, dt)) (fun _ => rfl) (c_eq (a := dt 7 3) (b := dt 80 5) ⟨by omega, by omega⟩ ⟨by omega, by omega⟩) (fun c8 => ?_) (fun c8 => ?_)
      · skip
        exact K dt hI hM hM2 (by first | omega | (simp only [*]; done) | simp only [*]) (by omega) (by omega) (by omega) (by omega) (by omega) (by omega) (by omega) (by omega) (by omega) (by omega) (by omega) (by omega) (by omega)
      · skip
        exfalso; omega
    · skip
      refine go_if (k := 1) (p1 := 1435) (p2 := 1433) (L' := [some (.inr (.inr (some 3000))), some (.inr (.inr (some 0))), some (.inr (.inr (some 79))), some (.inl i)]) (st' := []) (w' := (SH, dt)) (fun _ => rfl) (c_eq (a := dt 7 3) (b := dt 80 0) ⟨by omega, by omega⟩ ⟨by omega, by omega⟩) (fun c9 => ?_) (fun c9 => ?_)
      · skip
        exact K dt hI hM hM2 (by first | omega | (simp only [*]; done) | simp only [*]) (by omega) (by omega) (by omega) (by omega) (by omega) (by omega) (by omega) (by omega) (by omega) (by omega) (by omega) (by omega) (by omega)
      · skip
        exfalso; omega
    · skip
      obtain ⟨h3_0, h3_1⟩ := h3
      refine go_if (k := 1) (p1 := 1435) (p2 := 1433) (L' := [some (.inr (.inr (some 3000))), some (.inr (.inr (some 0))), some (.inr (.inr (some 79))), some (.inl i)]) (st' := []) (w' := (SH, dt)) (fun _ => rfl) (c_eq (a := dt 7 3) (b := 1) ⟨by omega, by omega⟩ ⟨by omega, by omega⟩) (fun c10 => ?_) (fun c10 => ?_)
      · skip
        exact K dt hI hM hM2 (by first | omega | (simp only [*]; done) | simp only [*]) (by omega) (by omega) (by omega) (by omega) (by omega) (by omega) (by omega) (by omega) (by omega) (by omega) (by omega) (by omega) (by omega)
      · skip
        exfalso; omega
    · skip
      obtain ⟨h3_0, h3_1⟩ := h3
      refine go_if (k := 1) (p1 := 1435) (p2 := 1433) (L' := [some (.inr (.inr (some 3000))), some (.inr (.inr (some 0))), some (.inr (.inr (some 79))), some (.inl i)]) (st' := []) (w' := (SH, dt)) (fun _ => rfl) (c_eq (a := dt 7 3) (b := 0) ⟨by omega, by omega⟩ ⟨by omega, by omega⟩) (fun c11 => ?_) (fun c11 => ?_)
      · skip
        exact K dt hI hM hM2 (by first | omega | (simp only [*]; done) | simp only [*]) (by omega) (by omega) (by omega) (by omega) (by omega) (by omega) (by omega) (by omega) (by omega) (by omega) (by omega) (by omega) (by omega)
      · skip
        exfalso; omega
    · skip
      refine go_if (k := 1) (p1 := 1435) (p2 := 1433) (L' := [some (.inr (.inr (some 3000))), some (.inr (.inr (some 0))), some (.inr (.inr (some 79))), some (.inl i)]) (st' := []) (w' := (SH, dt)) (fun _ => rfl) (c_eq (a := dt 7 3) (b := (-1)) ⟨by omega, by omega⟩ ⟨by omega, by omega⟩) (fun c12 => ?_) (fun c12 => ?_)
      · skip
        exact K dt hI hM hM2 (by first | omega | (simp only [*]; done) | simp only [*]) (by omega) (by omega) (by omega) (by omega) (by omega) (by omega) (by omega) (by omega) (by omega) (by omega) (by omega) (by omega) (by omega)
      · skip
        exfalso; omega
  · skip
    refine go_to (k := 5) (pc' := 1426) (L' := [some (.inr (.inr (some 3000))), some (.inr (.inr (some 0))), some (.inr (.inr (some 79))), some (.inl i)]) (st' := [.inl (i + 1), .inr (.inr (some 3000)), .inr (.inr (some 79)), .inl (dt 10 3)]) (w' := (SH, dt)) (fun _ => rfl) ?_
    refine go_smp (L' := [some (.inr (.inr (some 3000))), some (.inr (.inr (some 0))), some (.inr (.inr (some 79))), some (.inl i)]) (st' := [.inl ((xs ((i + 1).toNat)).toInt), .inr (.inr (some 79)), .inl (dt 10 3)]) (w' := (SH, dt)) rfl rfl (s_iald (n := L) (f := fun j => (xs j).toInt) (am_scr hLL) ⟨by omega, by omega⟩) ?_
    refine go_call (Q' := _) rfl rfl rfl rfl rfl (sp_X6_look L xs sio (d + 38) dt hI  ((xs ((i + 1).toNat)).toInt) ⟨by omega, by omega⟩ ) ?_
    rintro _ _ ⟨rfl, h13⟩
    refine ⟨rfl, ?_⟩
    rcases h13 with ⟨rfl, h13⟩ | ⟨rfl, h13⟩ | ⟨rfl, h13⟩ | ⟨rfl, h13⟩ | ⟨rfl, h13⟩ | ⟨rfl, h13⟩ | ⟨rfl, h13⟩ | ⟨rfl, h13⟩ | ⟨rfl, h13⟩
    · skip
      refine go_if (k := 1) (p1 := 1435) (p2 := 1433) (L' := [some (.inr (.inr (some 3000))), some (.inr (.inr (some 0))), some (.inr (.inr (some 79))), some (.inl i)]) (st' := []) (w' := (SH, dt)) (fun _ => rfl) (c_eq (a := dt 10 3) (b := dt 80 1) ⟨by omega, by omega⟩ ⟨by omega, by omega⟩) (fun c14 => ?_) (fun c14 => ?_)
      · skip
        exact K dt hI hM hM2 (by first | omega | (simp only [*]; done) | simp only [*]) (by omega) (by omega) (by omega) (by omega) (by omega) (by omega) (by omega) (by omega) (by omega) (by omega) (by omega) (by omega) (by omega)
      · skip
        exfalso; omega
    · skip
      refine go_if (k := 1) (p1 := 1435) (p2 := 1433) (L' := [some (.inr (.inr (some 3000))), some (.inr (.inr (some 0))), some (.inr (.inr (some 79))), some (.inl i)]) (st' := []) (w' := (SH, dt)) (fun _ => rfl) (c_eq (a := dt 10 3) (b := dt 80 2) ⟨by omega, by omega⟩ ⟨by omega, by omega⟩) (fun c15 => ?_) (fun c15 => ?_)
      · skip
        exact K dt hI hM hM2 (by first | omega | (simp only [*]; done) | simp only [*]) (by omega) (by omega) (by omega) (by omega) (by omega) (by omega) (by omega) (by omega) (by omega) (by omega) (by omega) (by omega) (by omega)
      · skip
        exfalso; omega
    · skip
      refine go_if (k := 1) (p1 := 1435) (p2 := 1433) (L' := [some (.inr (.inr (some 3000))), some (.inr (.inr (some 0))), some (.inr (.inr (some 79))), some (.inl i)]) (st' := []) (w' := (SH, dt)) (fun _ => rfl) (c_eq (a := dt 10 3) (b := dt 80 3) ⟨by omega, by omega⟩ ⟨by omega, by omega⟩) (fun c16 => ?_) (fun c16 => ?_)
      · skip
        exact K dt hI hM hM2 (by first | omega | (simp only [*]; done) | simp only [*]) (by omega) (by omega) (by omega) (by omega) (by omega) (by omega) (by omega) (by omega) (by omega) (by omega) (by omega) (by omega) (by omega)
      · skip
        exfalso; omega
    · skip
      refine go_if (k := 1) (p1 := 1435) (p2 := 1433) (L' := [some (.inr (.inr (some 3000))), some (.inr (.inr (some 0))), some (.inr (.inr (some 79))), some (.inl i)]) (st' := []) (w' := (SH, dt)) (fun _ => rfl) (c_eq (a := dt 10 3) (b := dt 80 4) ⟨by omega, by omega⟩ ⟨by omega, by omega⟩) (fun c17 => ?_) (fun c17 => ?_)
      · skip
        exact K dt hI hM hM2 (by first | omega | (simp only [*]; done) | simp only [*]) (by omega) (by omega) (by omega) (by omega) (by omega) (by omega) (by omega) (by omega) (by omega) (by omega) (by omega) (by omega) (by omega)
      · skip
        exfalso; omega
    · skip
      refine go_if (k := 1) (p1 := 1435) (p2 := 1433) (L' := [some (.inr (.inr (some 3000))), some (.inr (.inr (some 0))), some (.inr (.inr (some 79))), some (.inl i)]) (st' := []) (w' := (SH, dt)) (fun _ => rfl) (c_eq (a := dt 10 3) (b := dt 80 5) ⟨by omega, by omega⟩ ⟨by omega, by omega⟩) (fun c18 => ?_) (fun c18 => ?_)
      · skip
        exact K dt hI hM hM2 (by first | omega | (simp only [*]; done) | simp only [*]) (by omega) (by omega) (by omega) (by omega) (by omega) (by omega) (by omega) (by omega) (by omega) (by omega) (by omega) (by omega) (by omega)
      · skip
        exfalso; omega
    · skip
      refine go_if (k := 1) (p1 := 1435) (p2 := 1433) (L' := [some (.inr (.inr (some 3000))), some (.inr (.inr (some 0))), some (.inr (.inr (some 79))), some (.inl i)]) (st' := []) (w' := (SH, dt)) (fun _ => rfl) (c_eq (a := dt 10 3) (b := dt 80 0) ⟨by omega, by omega⟩ ⟨by omega, by omega⟩) (fun c19 => ?_) (fun c19 => ?_)
      · skip
        exact K dt hI hM hM2 (by first | omega | (simp only [*]; done) | simp only [*]) (by omega) (by omega) (by omega) (by omega) (by omega) (by omega) (by omega) (by omega) (by omega) (by omega) (by omega) (by omega) (by omega)
      · skip
        exfalso; omega
    · skip
      obtain ⟨h13_0, h13_1⟩ := h13
      refine go_if (k := 1) (p1 := 1435) (p2 := 1433) (L' := [some (.inr (.inr (some 3000))), some (.inr (.inr (some 0))), some (.inr (.inr (some 79))), some (.inl i)]) (st' := []) (w' := (SH, dt)) (fun _ => rfl) (c_eq (a := dt 10 3) (b := 1) ⟨by omega, by omega⟩ ⟨by omega, by omega⟩) (fun c20 => ?_) (fun c20 => ?_)
      · skip
        exact K dt hI hM hM2 (by first | omega | (simp only [*]; done) | simp only [*]) (by omega) (by omega) (by omega) (by omega) (by omega) (by omega) (by omega) (by omega) (by omega) (by omega) (by omega) (by omega) (by omega)
      · skip
        exfalso; omega
    · skip
      obtain ⟨h13_0, h13_1⟩ := h13
      refine go_if (k := 1) (p1 := 1435) (p2 := 1433) (L' := [some (.inr (.inr (some 3000))), some (.inr (.inr (some 0))), some (.inr (.inr (some 79))), some (.inl i)]) (st' := []) (w' := (SH, dt)) (fun _ => rfl) (c_eq (a := dt 10 3) (b := 0) ⟨by omega, by omega⟩ ⟨by omega, by omega⟩) (fun c21 => ?_) (fun c21 => ?_)
      · skip
        exact K dt hI hM hM2 (by first | omega | (simp only [*]; done) | simp only [*]) (by omega) (by omega) (by omega) (by omega) (by omega) (by omega) (by omega) (by omega) (by omega) (by omega) (by omega) (by omega) (by omega)
      · skip
        exfalso; omega
    · skip
      refine go_if (k := 1) (p1 := 1435) (p2 := 1433) (L' := [some (.inr (.inr (some 3000))), some (.inr (.inr (some 0))), some (.inr (.inr (some 79))), some (.inl i)]) (st' := []) (w' := (SH, dt)) (fun _ => rfl) (c_eq (a := dt 10 3) (b := (-1)) ⟨by omega, by omega⟩ ⟨by omega, by omega⟩) (fun c22 => ?_) (fun c22 => ?_)
      · skip
        exact K dt hI hM hM2 (by first | omega | (simp only [*]; done) | simp only [*]) (by omega) (by omega) (by omega) (by omega) (by omega) (by omega) (by omega) (by omega) (by omega) (by omega) (by omega) (by omega) (by omega)
      · skip
        exfalso; omega
  · skip
    refine go_to (k := 5) (pc' := 1426) (L' := [some (.inr (.inr (some 3000))), some (.inr (.inr (some 0))), some (.inr (.inr (some 79))), some (.inl i)]) (st' := [.inl (i + 1), .inr (.inr (some 3000)), .inr (.inr (some 79)), .inl (dt 12 3)]) (w' := (SH, dt)) (fun _ => rfl) ?_
    refine go_smp (L' := [some (.inr (.inr (some 3000))), some (.inr (.inr (some 0))), some (.inr (.inr (some 79))), some (.inl i)]) (st' := [.inl ((xs ((i + 1).toNat)).toInt), .inr (.inr (some 79)), .inl (dt 12 3)]) (w' := (SH, dt)) rfl rfl (s_iald (n := L) (f := fun j => (xs j).toInt) (am_scr hLL) ⟨by omega, by omega⟩) ?_
    refine go_call (Q' := _) rfl rfl rfl rfl rfl (sp_X6_look L xs sio (d + 38) dt hI  ((xs ((i + 1).toNat)).toInt) ⟨by omega, by omega⟩ ) ?_
    rintro _ _ ⟨rfl, h23⟩
    refine ⟨rfl, ?_⟩
    rcases h23 with ⟨rfl, h23⟩ | ⟨rfl, h23⟩ | ⟨rfl, h23⟩ | ⟨rfl, h23⟩ | ⟨rfl, h23⟩ | ⟨rfl, h23⟩ | ⟨rfl, h23⟩ | ⟨rfl, h23⟩ | ⟨rfl, h23⟩
    · skip
      refine go_if (k := 1) (p1 := 1435) (p2 := 1433) (L' := [some (.inr (.inr (some 3000))), some (.inr (.inr (some 0))), some (.inr (.inr (some 79))), some (.inl i)]) (st' := []) (w' := (SH, dt)) (fun _ => rfl) (c_eq (a := dt 12 3) (b := dt 80 1) ⟨by omega, by omega⟩ ⟨by omega, by omega⟩) (fun c24 => ?_) (fun c24 => ?_)
      · skip
        exact K dt hI hM hM2 (by first | omega | (simp only [*]; done) | simp only [*]) (by omega) (by omega) (by omega) (by omega) (by omega) (by omega) (by omega) (by omega) (by omega) (by omega) (by omega) (by omega) (by omega)
      · skip
        exfalso; omega
    · skip
      refine go_if (k := 1) (p1 := 1435) (p2 := 1433) (L' := [some (.inr (.inr (some 3000))), some (.inr (.inr (some 0))), some (.inr (.inr (some 79))), some (.inl i)]) (st' := []) (w' := (SH, dt)) (fun _ => rfl) (c_eq (a := dt 12 3) (b := dt 80 2) ⟨by omega, by omega⟩ ⟨by omega, by omega⟩) (fun c25 => ?_) (fun c25 => ?_)
      · skip
        exact K dt hI hM hM2 (by first | omega | (simp only [*]; done) | simp only [*]) (by omega) (by omega) (by omega) (by omega) (by omega) (by omega) (by omega) (by omega) (by omega) (by omega) (by omega) (by omega) (by omega)
      · skip
        exfalso; omega
    · skip
      refine go_if (k := 1) (p1 := 1435) (p2 := 1433) (L' := [some (.inr (.inr (some 3000))), some (.inr (.inr (some 0))), some (.inr (.inr (some 79))), some (.inl i)]) (st' := []) (w' := (SH, dt)) (fun _ => rfl) (c_eq (a := dt 12 3) (b := dt 80 3) ⟨by omega, by omega⟩ ⟨by omega, by omega⟩) (fun c26 => ?_) (fun c26 => ?_)
      · skip
        exact K dt hI hM hM2 (by first | omega | (simp only [*]; done) | simp only [*]) (by omega) (by omega) (by omega) (by omega) (by omega) (by omega) (by omega) (by omega) (by omega) (by omega) (by omega) (by omega) (by omega)
      · skip
        exfalso; omega
    · skip
      refine go_if (k := 1) (p1 := 1435) (p2 := 1433) (L' := [some (.inr (.inr (some 3000))), some (.inr (.inr (some 0))), some (.inr (.inr (some 79))), some (.inl i)]) (st' := []) (w' := (SH, dt)) (fun _ => rfl) (c_eq (a := dt 12 3) (b := dt 80 4) ⟨by omega, by omega⟩ ⟨by omega, by omega⟩) (fun c27 => ?_) (fun c27 => ?_)
      · skip
        exact K dt hI hM hM2 (by first | omega | (simp only [*]; done) | simp only [*]) (by omega) (by omega) (by omega) (by omega) (by omega) (by omega) (by omega) (by omega) (by omega) (by omega) (by omega) (by omega) (by omega)
      · skip
        exfalso; omega
    · skip
      refine go_if (k := 1) (p1 := 1435) (p2 := 1433) (L' := [some (.inr (.inr (some 3000))), some (.inr (.inr (some 0))), some (.inr (.inr (some 79))), some (.inl i)]) (st' := []) (w' := (SH, dt)) (fun _ => rfl) (c_eq (a := dt 12 3) (b := dt 80 5) ⟨by omega, by omega⟩ ⟨by omega, by omega⟩) (fun c28 => ?_) (fun c28 => ?_)
      · skip
        exact K dt hI hM hM2 (by first | omega | (simp only [*]; done) | simp only [*]) (by omega) (by omega) (by omega) (by omega) (by omega) (by omega) (by omega) (by omega) (by omega) (by omega) (by omega) (by omega) (by omega)
      · skip
        exfalso; omega
    · skip
      refine go_if (k := 1) (p1 := 1435) (p2 := 1433) (L' := [some (.inr (.inr (some 3000))), some (.inr (.inr (some 0))), some (.inr (.inr (some 79))), some (.inl i)]) (st' := []) (w' := (SH, dt)) (fun _ => rfl) (c_eq (a := dt 12 3) (b := dt 80 0) ⟨by omega, by omega⟩ ⟨by omega, by omega⟩) (fun c29 => ?_) (fun c29 => ?_)
      · skip
        exact K dt hI hM hM2 (by first | omega | (simp only [*]; done) | simp only [*]) (by omega) (by omega) (by omega) (by omega) (by omega) (by omega) (by omega) (by omega) (by omega) (by omega) (by omega) (by omega) (by omega)
      · skip
        exfalso; omega
    · skip
      obtain ⟨h23_0, h23_1⟩ := h23
      refine go_if (k := 1) (p1 := 1435) (p2 := 1433) (L' := [some (.inr (.inr (some 3000))), some (.inr (.inr (some 0))), some (.inr (.inr (some 79))), some (.inl i)]) (st' := []) (w' := (SH, dt)) (fun _ => rfl) (c_eq (a := dt 12 3) (b := 1) ⟨by omega, by omega⟩ ⟨by omega, by omega⟩) (fun c30 => ?_) (fun c30 => ?_)
      · skip
        exact K dt hI hM hM2 (by first | omega | (simp only [*]; done) | simp only [*]) (by omega) (by omega) (by omega) (by omega) (by omega) (by omega) (by omega) (by omega) (by omega) (by omega) (by omega) (by omega) (by omega)
      · skip
        exfalso; omega
    · skip
      obtain ⟨h23_0, h23_1⟩ := h23
      refine go_if (k := 1) (p1 := 1435) (p2 := 1433) (L' := [some (.inr (.inr (some 3000))), some (.inr (.inr (some 0))), some (.inr (.inr (some 79))), some (.inl i)]) (st' := []) (w' := (SH, dt)) (fun _ => rfl) (c_eq (a := dt 12 3) (b := 0) ⟨by omega, by omega⟩ ⟨by omega, by omega⟩) (fun c31 => ?_) (fun c31 => ?_)
      · skip
        exact K dt hI hM hM2 (by first | omega | (simp only [*]; done) | simp only [*]) (by omega) (by omega) (by omega) (by omega) (by omega) (by omega) (by omega) (by omega) (by omega) (by omega) (by omega) (by omega) (by omega)
      · skip
        exfalso; omega
    · skip
      refine go_if (k := 1) (p1 := 1435) (p2 := 1433) (L' := [some (.inr (.inr (some 3000))), some (.inr (.inr (some 0))), some (.inr (.inr (some 79))), some (.inl i)]) (st' := []) (w' := (SH, dt)) (fun _ => rfl) (c_eq (a := dt 12 3) (b := (-1)) ⟨by omega, by omega⟩ ⟨by omega, by omega⟩) (fun c32 => ?_) (fun c32 => ?_)
      · skip
        exact K dt hI hM hM2 (by first | omega | (simp only [*]; done) | simp only [*]) (by omega) (by omega) (by omega) (by omega) (by omega) (by omega) (by omega) (by omega) (by omega) (by omega) (by omega) (by omega) (by omega)
      · skip
        exfalso; omega
  · skip
    refine go_to (k := 5) (pc' := 1426) (L' := [some (.inr (.inr (some 3000))), some (.inr (.inr (some 0))), some (.inr (.inr (some 79))), some (.inl i)]) (st' := [.inl (i + 1), .inr (.inr (some 3000)), .inr (.inr (some 79)), .inl (dt 14 3)]) (w' := (SH, dt)) (fun _ => rfl) ?_
    refine go_smp (L' := [some (.inr (.inr (some 3000))), some (.inr (.inr (some 0))), some (.inr (.inr (some 79))), some (.inl i)]) (st' := [.inl ((xs ((i + 1).toNat)).toInt), .inr (.inr (some 79)), .inl (dt 14 3)]) (w' := (SH, dt)) rfl rfl (s_iald (n := L) (f := fun j => (xs j).toInt) (am_scr hLL) ⟨by omega, by omega⟩) ?_
    refine go_call (Q' := _) rfl rfl rfl rfl rfl (sp_X6_look L xs sio (d + 38) dt hI  ((xs ((i + 1).toNat)).toInt) ⟨by omega, by omega⟩ ) ?_
    rintro _ _ ⟨rfl, h33⟩
    refine ⟨rfl, ?_⟩
    rcases h33 with ⟨rfl, h33⟩ | ⟨rfl, h33⟩ | ⟨rfl, h33⟩ | ⟨rfl, h33⟩ | ⟨rfl, h33⟩ | ⟨rfl, h33⟩ | ⟨rfl, h33⟩ | ⟨rfl, h33⟩ | ⟨rfl, h33⟩
    · skip
      refine go_if (k := 1) (p1 := 1435) (p2 := 1433) (L' := [some (.inr (.inr (some 3000))), some (.inr (.inr (some 0))), some (.inr (.inr (some 79))), some (.inl i)]) (st' := []) (w' := (SH, dt)) (fun _ => rfl) (c_eq (a := dt 14 3) (b := dt 80 1) ⟨by omega, by omega⟩ ⟨by omega, by omega⟩) (fun c34 => ?_) (fun c34 => ?_)
      · skip
        exact K dt hI hM hM2 (by first | omega | (simp only [*]; done) | simp only [*]) (by omega) (by omega) (by omega) (by omega) (by omega) (by omega) (by omega) (by omega) (by omega) (by omega) (by omega) (by omega) (by omega)
      · skip
        exfalso; omega
    · skip
      refine go_if (k := 1) (p1 := 1435) (p2 := 1433) (L' := [some (.inr (.inr (some 3000))), some (.inr (.inr (some 0))), some (.inr (.inr (some 79))), some (.inl i)]) (st' := []) (w' := (SH, dt)) (fun _ => rfl) (c_eq (a := dt 14 3) (b := dt 80 2) ⟨by omega, by omega⟩ ⟨by omega, by omega⟩) (fun c35 => ?_) (fun c35 => ?_)
      · skip
        exact K dt hI hM hM2 (by first | omega | (simp only [*]; done) | simp only [*]) (by omega) (by omega) (by omega) (by omega) (by omega) (by omega) (by omega) (by omega) (by omega) (by omega) (by omega) (by omega) (by omega)
      · skip
        exfalso; omega
    · skip
      refine go_if (k := 1) (p1 := 1435) (p2 := 1433) (L' := [some (.inr (.inr (some 3000))), some (.inr (.inr (some 0))), some (.inr (.inr (some 79))), some (.inl i)]) (st' := []) (w' := (SH, dt)) (fun _ => rfl) (c_eq (a := dt 14 3) (b := dt 80 3) ⟨by omega, by omega⟩ ⟨by omega, by omega⟩) (fun c36 => ?_) (fun c36 => ?_)
      · skip
        exact K dt hI hM hM2 (by first | omega | (simp only [*]; done) | simp only [*]) (by omega) (by omega) (by omega) (by omega) (by omega) (by omega) (by omega) (by omega) (by omega) (by omega) (by omega) (by omega) (by omega)
      · skip
        exfalso; omega
    · skip
      refine go_if (k := 1) (p1 := 1435) (p2 := 1433) (L' := [some (.inr (.inr (some 3000))), some (.inr (.inr (some 0))), some (.inr (.inr (some 79))), some (.inl i)]) (st' := []) (w' := (SH, dt)) (fun _ => rfl) (c_eq (a := dt 14 3) (b := dt 80 4) ⟨by omega, by omega⟩ ⟨by omega, by omega⟩) (fun c37 => ?_) (fun c37 => ?_)
      · skip
        exact K dt hI hM hM2 (by first | omega | (simp only [*]; done) | simp only [*]) (by omega) (by omega) (by omega) (by omega) (by omega) (by omega) (by omega) (by omega) (by omega) (by omega) (by omega) (by omega) (by omega)
      · skip
        exfalso; omega
    · skip
      refine go_if (k := 1) (p1 := 1435) (p2 := 1433) (L' := [some (.inr (.inr (some 3000))), some (.inr (.inr (some 0))), some (.inr (.inr (some 79))), some (.inl i)]) (st' := []) (w' := (SH, dt)) (fun _ => rfl) (c_eq (a := dt 14 3) (b := dt 80 5) ⟨by omega, by omega⟩ ⟨by omega, by omega⟩) (fun c38 => ?_) (fun c38 => ?_)
      · skip
        exact K dt hI hM hM2 (by first | omega | (simp only [*]; done) | simp only [*]) (by omega) (by omega) (by omega) (by omega) (by omega) (by omega) (by omega) (by omega) (by omega) (by omega) (by omega) (by omega) (by omega)
      · skip
        exfalso; omega
    · skip
      refine go_if (k := 1) (p1 := 1435) (p2 := 1433) (L' := [some (.inr (.inr (some 3000))), some (.inr (.inr (some 0))), some (.inr (.inr (some 79))), some (.inl i)]) (st' := []) (w' := (SH, dt)) (fun _ => rfl) (c_eq (a := dt 14 3) (b := dt 80 0) ⟨by omega, by omega⟩ ⟨by omega, by omega⟩) (fun c39 => ?_) (fun c39 => ?_)
      · skip
        exact K dt hI hM hM2 (by first | omega | (simp only [*]; done) | simp only [*]) (by omega) (by omega) (by omega) (by omega) (by omega) (by omega) (by omega) (by omega) (by omega) (by omega) (by omega) (by omega) (by omega)
      · skip
        exfalso; omega
    · skip
      obtain ⟨h33_0, h33_1⟩ := h33
      refine go_if (k := 1) (p1 := 1435) (p2 := 1433) (L' := [some (.inr (.inr (some 3000))), some (.inr (.inr (some 0))), some (.inr (.inr (some 79))), some (.inl i)]) (st' := []) (w' := (SH, dt)) (fun _ => rfl) (c_eq (a := dt 14 3) (b := 1) ⟨by omega, by omega⟩ ⟨by omega, by omega⟩) (fun c40 => ?_) (fun c40 => ?_)
      · skip
        exact K dt hI hM hM2 (by first | omega | (simp only [*]; done) | simp only [*]) (by omega) (by omega) (by omega) (by omega) (by omega) (by omega) (by omega) (by omega) (by omega) (by omega) (by omega) (by omega) (by omega)
      · skip
        exfalso; omega
    · skip
      obtain ⟨h33_0, h33_1⟩ := h33
      refine go_if (k := 1) (p1 := 1435) (p2 := 1433) (L' := [some (.inr (.inr (some 3000))), some (.inr (.inr (some 0))), some (.inr (.inr (some 79))), some (.inl i)]) (st' := []) (w' := (SH, dt)) (fun _ => rfl) (c_eq (a := dt 14 3) (b := 0) ⟨by omega, by omega⟩ ⟨by omega, by omega⟩) (fun c41 => ?_) (fun c41 => ?_)
      · skip
        exact K dt hI hM hM2 (by first | omega | (simp only [*]; done) | simp only [*]) (by omega) (by omega) (by omega) (by omega) (by omega) (by omega) (by omega) (by omega) (by omega) (by omega) (by omega) (by omega) (by omega)
      · skip
        exfalso; omega
    · skip
      refine go_if (k := 1) (p1 := 1435) (p2 := 1433) (L' := [some (.inr (.inr (some 3000))), some (.inr (.inr (some 0))), some (.inr (.inr (some 79))), some (.inl i)]) (st' := []) (w' := (SH, dt)) (fun _ => rfl) (c_eq (a := dt 14 3) (b := (-1)) ⟨by omega, by omega⟩ ⟨by omega, by omega⟩) (fun c42 => ?_) (fun c42 => ?_)
      · skip
        exact K dt hI hM hM2 (by first | omega | (simp only [*]; done) | simp only [*]) (by omega) (by omega) (by omega) (by omega) (by omega) (by omega) (by omega) (by omega) (by omega) (by omega) (by omega) (by omega) (by omega)
      · skip
        exfalso; omega
  · skip
    refine go_to (k := 5) (pc' := 1426) (L' := [some (.inr (.inr (some 3000))), some (.inr (.inr (some 0))), some (.inr (.inr (some 79))), some (.inl i)]) (st' := [.inl (i + 1), .inr (.inr (some 3000)), .inr (.inr (some 79)), .inl (dt 16 3)]) (w' := (SH, dt)) (fun _ => rfl) ?_
    refine go_smp (L' := [some (.inr (.inr (some 3000))), some (.inr (.inr (some 0))), some (.inr (.inr (some 79))), some (.inl i)]) (st' := [.inl ((xs ((i + 1).toNat)).toInt), .inr (.inr (some 79)), .inl (dt 16 3)]) (w' := (SH, dt)) rfl rfl (s_iald (n := L) (f := fun j => (xs j).toInt) (am_scr hLL) ⟨by omega, by omega⟩) ?_
    refine go_call (Q' := _) rfl rfl rfl rfl rfl (sp_X6_look L xs sio (d + 38) dt hI  ((xs ((i + 1).toNat)).toInt) ⟨by omega, by omega⟩ ) ?_
    rintro _ _ ⟨rfl, h43⟩
    refine ⟨rfl, ?_⟩
    rcases h43 with ⟨rfl, h43⟩ | ⟨rfl, h43⟩ | ⟨rfl, h43⟩ | ⟨rfl, h43⟩ | ⟨rfl, h43⟩ | ⟨rfl, h43⟩ | ⟨rfl, h43⟩ | ⟨rfl, h43⟩ | ⟨rfl, h43⟩
    · skip
      refine go_if (k := 1) (p1 := 1435) (p2 := 1433) (L' := [some (.inr (.inr (some 3000))), some (.inr (.inr (some 0))), some (.inr (.inr (some 79))), some (.inl i)]) (st' := []) (w' := (SH, dt)) (fun _ => rfl) (c_eq (a := dt 16 3) (b := dt 80 1) ⟨by omega, by omega⟩ ⟨by omega, by omega⟩) (fun c44 => ?_) (fun c44 => ?_)
      · skip
        exact K dt hI hM hM2 (by first | omega | (simp only [*]; done) | simp only [*]) (by omega) (by omega) (by omega) (by omega) (by omega) (by omega) (by omega) (by omega) (by omega) (by omega) (by omega) (by omega) (by omega)
      · skip
        exfalso; omega
    · skip
      refine go_if (k := 1) (p1 := 1435) (p2 := 1433) (L' := [some (.inr (.inr (some 3000))), some (.inr (.inr (some 0))), some (.inr (.inr (some 79))), some (.inl i)]) (st' := []) (w' := (SH, dt)) (fun _ => rfl) (c_eq (a := dt 16 3) (b := dt 80 2) ⟨by omega, by omega⟩ ⟨by omega, by omega⟩) (fun c45 => ?_) (fun c45 => ?_)
      · skip
        exact K dt hI hM hM2 (by first | omega | (simp only [*]; done) | simp only [*]) (by omega) (by omega) (by omega) (by omega) (by omega) (by omega) (by omega) (by omega) (by omega) (by omega) (by omega) (by omega) (by omega)
      · skip
        exfalso; omega
    · skip
      refine go_if (k := 1) (p1 := 1435) (p2 := 1433) (L' := [some (.inr (.inr (some 3000))), some (.inr (.inr (some 0))), some (.inr (.inr (some 79))), some (.inl i)]) (st' := []) (w' := (SH, dt)) (fun _ => rfl) (c_eq (a := dt 16 3) (b := dt 80 3) ⟨by omega, by omega⟩ ⟨by omega, by omega⟩) (fun c46 => ?_) (fun c46 => ?_)
      · skip
        exact K dt hI hM hM2 (by first | omega | (simp only [*]; done) | simp only [*]) (by omega) (by omega) (by omega) (by omega) (by omega) (by omega) (by omega) (by omega) (by omega) (by omega) (by omega) (by omega) (by omega)
      · skip
        exfalso; omega
    · skip
      refine go_if (k := 1) (p1 := 1435) (p2 := 1433) (L' := [some (.inr (.inr (some 3000))), some (.inr (.inr (some 0))), some (.inr (.inr (some 79))), some (.inl i)]) (st' := []) (w' := (SH, dt)) (fun _ => rfl) (c_eq (a := dt 16 3) (b := dt 80 4) ⟨by omega, by omega⟩ ⟨by omega, by omega⟩) (fun c47 => ?_) (fun c47 => ?_)
      · skip
        exact K dt hI hM hM2 (by first | omega | (simp only [*]; done) | simp only [*]) (by omega) (by omega) (by omega) (by omega) (by omega) (by omega) (by omega) (by omega) (by omega) (by omega) (by omega) (by omega) (by omega)
      · skip
        exfalso; omega
    · skip
      refine go_if (k := 1) (p1 := 1435) (p2 := 1433) (L' := [some (.inr (.inr (some 3000))), some (.inr (.inr (some 0))), some (.inr (.inr (some 79))), some (.inl i)]) (st' := []) (w' := (SH, dt)) (fun _ => rfl) (c_eq (a := dt 16 3) (b := dt 80 5) ⟨by omega, by omega⟩ ⟨by omega, by omega⟩) (fun c48 => ?_) (fun c48 => ?_)
      · skip
        exact K dt hI hM hM2 (by first | omega | (simp only [*]; done) | simp only [*]) (by omega) (by omega) (by omega) (by omega) (by omega) (by omega) (by omega) (by omega) (by omega) (by omega) (by omega) (by omega) (by omega)
      · skip
        exfalso; omega
    · skip
      refine go_if (k := 1) (p1 := 1435) (p2 := 1433) (L' := [some (.inr (.inr (some 3000))), some (.inr (.inr (some 0))), some (.inr (.inr (some 79))), some (.inl i)]) (st' := []) (w' := (SH, dt)) (fun _ => rfl) (c_eq (a := dt 16 3) (b := dt 80 0) ⟨by omega, by omega⟩ ⟨by omega, by omega⟩) (fun c49 => ?_) (fun c49 => ?_)
      · skip
        exact K dt hI hM hM2 (by first | omega | (simp only [*]; done) | simp only [*]) (by omega) (by omega) (by omega) (by omega) (by omega) (by omega) (by omega) (by omega) (by omega) (by omega) (by omega) (by omega) (by omega)
      · skip
        exfalso; omega
    · skip
      obtain ⟨h43_0, h43_1⟩ := h43
      refine go_if (k := 1) (p1 := 1435) (p2 := 1433) (L' := [some (.inr (.inr (some 3000))), some (.inr (.inr (some 0))), some (.inr (.inr (some 79))), some (.inl i)]) (st' := []) (w' := (SH, dt)) (fun _ => rfl) (c_eq (a := dt 16 3) (b := 1) ⟨by omega, by omega⟩ ⟨by omega, by omega⟩) (fun c50 => ?_) (fun c50 => ?_)
      · skip
        exact K dt hI hM hM2 (by first | omega | (simp only [*]; done) | simp only [*]) (by omega) (by omega) (by omega) (by omega) (by omega) (by omega) (by omega) (by omega) (by omega) (by omega) (by omega) (by omega) (by omega)
      · skip
        exfalso; omega
    · skip
      obtain ⟨h43_0, h43_1⟩ := h43
      refine go_if (k := 1) (p1 := 1435) (p2 := 1433) (L' := [some (.inr (.inr (some 3000))), some (.inr (.inr (some 0))), some (.inr (.inr (some 79))), some (.inl i)]) (st' := []) (w' := (SH, dt)) (fun _ => rfl) (c_eq (a := dt 16 3) (b := 0) ⟨by omega, by omega⟩ ⟨by omega, by omega⟩) (fun c51 => ?_) (fun c51 => ?_)
      · skip
        exact K dt hI hM hM2 (by first | omega | (simp only [*]; done) | simp only [*]) (by omega) (by omega) (by omega) (by omega) (by omega) (by omega) (by omega) (by omega) (by omega) (by omega) (by omega) (by omega) (by omega)
      · skip
        exfalso; omega
    · skip
      refine go_if (k := 1) (p1 := 1435) (p2 := 1433) (L' := [some (.inr (.inr (some 3000))), some (.inr (.inr (some 0))), some (.inr (.inr (some 79))), some (.inl i)]) (st' := []) (w' := (SH, dt)) (fun _ => rfl) (c_eq (a := dt 16 3) (b := (-1)) ⟨by omega, by omega⟩ ⟨by omega, by omega⟩) (fun c52 => ?_) (fun c52 => ?_)
      · skip
        exact K dt hI hM hM2 (by first | omega | (simp only [*]; done) | simp only [*]) (by omega) (by omega) (by omega) (by omega) (by omega) (by omega) (by omega) (by omega) (by omega) (by omega) (by omega) (by omega) (by omega)
      · skip
        exfalso; omega
  · skip
    refine go_to (k := 5) (pc' := 1426) (L' := [some (.inr (.inr (some 3000))), some (.inr (.inr (some 0))), some (.inr (.inr (some 79))), some (.inl i)]) (st' := [.inl (i + 1), .inr (.inr (some 3000)), .inr (.inr (some 79)), .inl (dt 1 0)]) (w' := (SH, dt)) (fun _ => rfl) ?_
    refine go_smp (L' := [some (.inr (.inr (some 3000))), some (.inr (.inr (some 0))), some (.inr (.inr (some 79))), some (.inl i)]) (st' := [.inl ((xs ((i + 1).toNat)).toInt), .inr (.inr (some 79)), .inl (dt 1 0)]) (w' := (SH, dt)) rfl rfl (s_iald (n := L) (f := fun j => (xs j).toInt) (am_scr hLL) ⟨by omega, by omega⟩) ?_
    refine go_call (Q' := _) rfl rfl rfl rfl rfl (sp_X6_look L xs sio (d + 38) dt hI  ((xs ((i + 1).toNat)).toInt) ⟨by omega, by omega⟩ ) ?_
    rintro _ _ ⟨rfl, h53⟩
    refine ⟨rfl, ?_⟩
    rcases h53 with ⟨rfl, h53⟩ | ⟨rfl, h53⟩ | ⟨rfl, h53⟩ | ⟨rfl, h53⟩ | ⟨rfl, h53⟩ | ⟨rfl, h53⟩ | ⟨rfl, h53⟩ | ⟨rfl, h53⟩ | ⟨rfl, h53⟩
    · skip
      refine go_if (k := 1) (p1 := 1435) (p2 := 1433) (L' := [some (.inr (.inr (some 3000))), some (.inr (.inr (some 0))), some (.inr (.inr (some 79))), some (.inl i)]) (st' := []) (w' := (SH, dt)) (fun _ => rfl) (c_eq (a := dt 1 0) (b := dt 80 1) ⟨by omega, by omega⟩ ⟨by omega, by omega⟩) (fun c54 => ?_) (fun c54 => ?_)
      · skip
        exact K dt hI hM hM2 (by first | omega | (simp only [*]; done) | simp only [*]) (by omega) (by omega) (by omega) (by omega) (by omega) (by omega) (by omega) (by omega) (by omega) (by omega) (by omega) (by omega) (by omega)
      · skip
        exfalso; omega
    · skip
      refine go_if (k := 1) (p1 := 1435) (p2 := 1433) (L' := [some (.inr (.inr (some 3000))), some (.inr (.inr (some 0))), some (.inr (.inr (some 79))), some (.inl i)]) (st' := []) (w' := (SH, dt)) (fun _ => rfl) (c_eq (a := dt 1 0) (b := dt 80 2) ⟨by omega, by omega⟩ ⟨by omega, by omega⟩) (fun c55 => ?_) (fun c55 => ?_)
      · skip
        exact K dt hI hM hM2 (by first | omega | (simp only [*]; done) | simp only [*]) (by omega) (by omega) (by omega) (by omega) (by omega) (by omega) (by omega) (by omega) (by omega) (by omega) (by omega) (by omega) (by omega)
      · skip
        exfalso; omega
    · skip
      refine go_if (k := 1) (p1 := 1435) (p2 := 1433) (L' := [some (.inr (.inr (some 3000))), some (.inr (.inr (some 0))), some (.inr (.inr (some 79))), some (.inl i)]) (st' := []) (w' := (SH, dt)) (fun _ => rfl) (c_eq (a := dt 1 0) (b := dt 80 3) ⟨by omega, by omega⟩ ⟨by omega, by omega⟩) (fun c56 => ?_) (fun c56 => ?_)
      · skip
        exact K dt hI hM hM2 (by first | omega | (simp only [*]; done) | simp only [*]) (by omega) (by omega) (by omega) (by omega) (by omega) (by omega) (by omega) (by omega) (by omega) (by omega) (by omega) (by omega) (by omega)
      · skip
        exfalso; omega
    · skip
      refine go_if (k := 1) (p1 := 1435) (p2 := 1433) (L' := [some (.inr (.inr (some 3000))), some (.inr (.inr (some 0))), some (.inr (.inr (some 79))), some (.inl i)]) (st' := []) (w' := (SH, dt)) (fun _ => rfl) (c_eq (a := dt 1 0) (b := dt 80 4) ⟨by omega, by omega⟩ ⟨by omega, by omega⟩) (fun c57 => ?_) (fun c57 => ?_)
      · skip
        exact K dt hI hM hM2 (by first | omega | (simp only [*]; done) | simp only [*]) (by omega) (by omega) (by omega) (by omega) (by omega) (by omega) (by omega) (by omega) (by omega) (by omega) (by omega) (by omega) (by omega)
      · skip
        exfalso; omega
    · skip
      refine go_if (k := 1) (p1 := 1435) (p2 := 1433) (L' := [some (.inr (.inr (some 3000))), some (.inr (.inr (some 0))), some (.inr (.inr (some 79))), some (.inl i)]) (st' := []) (w' := (SH, dt)) (fun _ => rfl) (c_eq (a := dt 1 0) (b := dt 80 5) ⟨by omega, by omega⟩ ⟨by omega, by omega⟩) (fun c58 => ?_) (fun c58 => ?_)
      · skip
        exact K dt hI hM hM2 (by first | omega | (simp only [*]; done) | simp only [*]) (by omega) (by omega) (by omega) (by omega) (by omega) (by omega) (by omega) (by omega) (by omega) (by omega) (by omega) (by omega) (by omega)
      · skip
        exfalso; omega
    · skip
      refine go_if (k := 1) (p1 := 1435) (p2 := 1433) (L' := [some (.inr (.inr (some 3000))), some (.inr (.inr (some 0))), some (.inr (.inr (some 79))), some (.inl i)]) (st' := []) (w' := (SH, dt)) (fun _ => rfl) (c_eq (a := dt 1 0) (b := dt 80 0) ⟨by omega, by omega⟩ ⟨by omega, by omega⟩) (fun c59 => ?_) (fun c59 => ?_)
      · skip
        exact K dt hI hM hM2 (by first | omega | (simp only [*]; done) | simp only [*]) (by omega) (by omega) (by omega) (by omega) (by omega) (by omega) (by omega) (by omega) (by omega) (by omega) (by omega) (by omega) (by omega)
      · skip
        exfalso; omega
    · skip
      obtain ⟨h53_0, h53_1⟩ := h53
      refine go_if (k := 1) (p1 := 1435) (p2 := 1433) (L' := [some (.inr (.inr (some 3000))), some (.inr (.inr (some 0))), some (.inr (.inr (some 79))), some (.inl i)]) (st' := []) (w' := (SH, dt)) (fun _ => rfl) (c_eq (a := dt 1 0) (b := 1) ⟨by omega, by omega⟩ ⟨by omega, by omega⟩) (fun c60 => ?_) (fun c60 => ?_)
      · skip
        exact K dt hI hM hM2 (by first | omega | (simp only [*]; done) | simp only [*]) (by omega) (by omega) (by omega) (by omega) (by omega) (by omega) (by omega) (by omega) (by omega) (by omega) (by omega) (by omega) (by omega)
      · skip
        exfalso; omega
    · skip
      obtain ⟨h53_0, h53_1⟩ := h53
      refine go_if (k := 1) (p1 := 1435) (p2 := 1433) (L' := [some (.inr (.inr (some 3000))), some (.inr (.inr (some 0))), some (.inr (.inr (some 79))), some (.inl i)]) (st' := []) (w' := (SH, dt)) (fun _ => rfl) (c_eq (a := dt 1 0) (b := 0) ⟨by omega, by omega⟩ ⟨by omega, by omega⟩) (fun c61 => ?_) (fun c61 => ?_)
      · skip
        exact K dt hI hM hM2 (by first | omega | (simp only [*]; done) | simp only [*]) (by omega) (by omega) (by omega) (by omega) (by omega) (by omega) (by omega) (by omega) (by omega) (by omega) (by omega) (by omega) (by omega)
      · skip
        exfalso; omega
    · skip
      refine go_if (k := 1) (p1 := 1435) (p2 := 1433) (L' := [some (.inr (.inr (some 3000))), some (.inr (.inr (some 0))), some (.inr (.inr (some 79))), some (.inl i)]) (st' := []) (w' := (SH, dt)) (fun _ => rfl) (c_eq (a := dt 1 0) (b := (-1)) ⟨by omega, by omega⟩ ⟨by omega, by omega⟩) (fun c62 => ?_) (fun c62 => ?_)
      · skip
        exact K dt hI hM hM2 (by first | omega | (simp only [*]; done) | simp only [*]) (by omega) (by omega) (by omega) (by omega) (by omega) (by omega) (by omega) (by omega) (by omega) (by omega) (by omega) (by omega) (by omega)
      · skip
        exfalso; omega
  · skip
    obtain ⟨h2_0, h2_1⟩ := h2
    refine go_to (k := 5) (pc' := 1426) (L' := [some (.inr (.inr (some 3000))), some (.inr (.inr (some 0))), some (.inr (.inr (some 79))), some (.inl i)]) (st' := [.inl (i + 1), .inr (.inr (some 3000)), .inr (.inr (some 79)), .inl 1]) (w' := (SH, dt)) (fun _ => rfl) ?_
    refine go_smp (L' := [some (.inr (.inr (some 3000))), some (.inr (.inr (some 0))), some (.inr (.inr (some 79))), some (.inl i)]) (st' := [.inl ((xs ((i + 1).toNat)).toInt), .inr (.inr (some 79)), .inl 1]) (w' := (SH, dt)) rfl rfl (s_iald (n := L) (f := fun j => (xs j).toInt) (am_scr hLL) ⟨by omega, by omega⟩) ?_
    refine go_call (Q' := _) rfl rfl rfl rfl rfl (sp_X6_look L xs sio (d + 38) dt hI  ((xs ((i + 1).toNat)).toInt) ⟨by omega, by omega⟩ ) ?_
    rintro _ _ ⟨rfl, h63⟩
    refine ⟨rfl, ?_⟩
    rcases h63 with ⟨rfl, h63⟩ | ⟨rfl, h63⟩ | ⟨rfl, h63⟩ | ⟨rfl, h63⟩ | ⟨rfl, h63⟩ | ⟨rfl, h63⟩ | ⟨rfl, h63⟩ | ⟨rfl, h63⟩ | ⟨rfl, h63⟩
    · skip
      refine go_if (k := 1) (p1 := 1435) (p2 := 1433) (L' := [some (.inr (.inr (some 3000))), some (.inr (.inr (some 0))), some (.inr (.inr (some 79))), some (.inl i)]) (st' := []) (w' := (SH, dt)) (fun _ => rfl) (c_eq (a := 1) (b := dt 80 1) ⟨by omega, by omega⟩ ⟨by omega, by omega⟩) (fun c64 => ?_) (fun c64 => ?_)
      · skip
        exact K dt hI hM hM2 (by first | omega | (simp only [*]; done) | simp only [*]) (by omega) (by omega) (by omega) (by omega) (by omega) (by omega) (by omega) (by omega) (by omega) (by omega) (by omega) (by omega) (by omega)
      · skip
        exfalso; omega
    · skip
      refine go_if (k := 1) (p1 := 1435) (p2 := 1433) (L' := [some (.inr (.inr (some 3000))), some (.inr (.inr (some 0))), some (.inr (.inr (some 79))), some (.inl i)]) (st' := []) (w' := (SH, dt)) (fun _ => rfl) (c_eq (a := 1) (b := dt 80 2) ⟨by omega, by omega⟩ ⟨by omega, by omega⟩) (fun c65 => ?_) (fun c65 => ?_)
      · skip
        exact K dt hI hM hM2 (by first | omega | (simp only [*]; done) | simp only [*]) (by omega) (by omega) (by omega) (by omega) (by omega) (by omega) (by omega) (by omega) (by omega) (by omega) (by omega) (by omega) (by omega)
      · skip
        exfalso; omega
    · skip
      refine go_if (k := 1) (p1 := 1435) (p2 := 1433) (L' := [some (.inr (.inr (some 3000))), some (.inr (.inr (some 0))), some (.inr (.inr (some 79))), some (.inl i)]) (st' := []) (w' := (SH, dt)) (fun _ => rfl) (c_eq (a := 1) (b := dt 80 3) ⟨by omega, by omega⟩ ⟨by omega, by omega⟩) (fun c66 => ?_) (fun c66 => ?_)
      · skip
        exact K dt hI hM hM2 (by first | omega | (simp only [*]; done) | simp only [*]) (by omega) (by omega) (by omega) (by omega) (by omega) (by omega) (by omega) (by omega) (by omega) (by omega) (by omega) (by omega) (by omega)
      · skip
        exfalso; omega
    · skip
      refine go_if (k := 1) (p1 := 1435) (p2 := 1433) (L' := [some (.inr (.inr (some 3000))), some (.inr (.inr (some 0))), some (.inr (.inr (some 79))), some (.inl i)]) (st' := []) (w' := (SH, dt)) (fun _ => rfl) (c_eq (a := 1) (b := dt 80 4) ⟨by omega, by omega⟩ ⟨by omega, by omega⟩) (fun c67 => ?_) (fun c67 => ?_)
      · skip
        exact K dt hI hM hM2 (by first | omega | (simp only [*]; done) | simp only [*]) (by omega) (by omega) (by omega) (by omega) (by omega) (by omega) (by omega) (by omega) (by omega) (by omega) (by omega) (by omega) (by omega)
      · skip
        exfalso; omega
    · skip
      refine go_if (k := 1) (p1 := 1435) (p2 := 1433) (L' := [some (.inr (.inr (some 3000))), some (.inr (.inr (some 0))), some (.inr (.inr (some 79))), some (.inl i)]) (st' := []) (w' := (SH, dt)) (fun _ => rfl) (c_eq (a := 1) (b := dt 80 5) ⟨by omega, by omega⟩ ⟨by omega, by omega⟩) (fun c68 => ?_) (fun c68 => ?_)
      · skip
        exact K dt hI hM hM2 (by first | omega | (simp only [*]; done) | simp only [*]) (by omega) (by omega) (by omega) (by omega) (by omega) (by omega) (by omega) (by omega) (by omega) (by omega) (by omega) (by omega) (by omega)
      · skip
        exfalso; omega
    · skip
      refine go_if (k := 1) (p1 := 1435) (p2 := 1433) (L' := [some (.inr (.inr (some 3000))), some (.inr (.inr (some 0))), some (.inr (.inr (some 79))), some (.inl i)]) (st' := []) (w' := (SH, dt)) (fun _ => rfl) (c_eq (a := 1) (b := dt 80 0) ⟨by omega, by omega⟩ ⟨by omega, by omega⟩) (fun c69 => ?_) (fun c69 => ?_)
      · skip
        exact K dt hI hM hM2 (by first | omega | (simp only [*]; done) | simp only [*]) (by omega) (by omega) (by omega) (by omega) (by omega) (by omega) (by omega) (by omega) (by omega) (by omega) (by omega) (by omega) (by omega)
      · skip
        exfalso; omega
    · skip
      obtain ⟨h63_0, h63_1⟩ := h63
      refine go_to (k := 1) (pc' := 1435) (L' := [some (.inr (.inr (some 3000))), some (.inr (.inr (some 0))), some (.inr (.inr (some 79))), some (.inl i)]) (st' := []) (w' := (SH, dt)) (fun _ => rfl) ?_
      exact K dt hI hM hM2 (by first | omega | (simp only [*]; done) | simp only [*]) (by omega) (by omega) (by omega) (by omega) (by omega) (by omega) (by omega) (by omega) (by omega) (by omega) (by omega) (by omega) (by omega)
    · skip
      obtain ⟨h63_0, h63_1⟩ := h63
      exfalso; omega
    · skip
      exfalso; omega
  · skip
    obtain ⟨h2_0, h2_1⟩ := h2
    refine go_to (k := 5) (pc' := 1426) (L' := [some (.inr (.inr (some 3000))), some (.inr (.inr (some 0))), some (.inr (.inr (some 79))), some (.inl i)]) (st' := [.inl (i + 1), .inr (.inr (some 3000)), .inr (.inr (some 79)), .inl 0]) (w' := (SH, dt)) (fun _ => rfl) ?_
    refine go_smp (L' := [some (.inr (.inr (some 3000))), some (.inr (.inr (some 0))), some (.inr (.inr (some 79))), some (.inl i)]) (st' := [.inl ((xs ((i + 1).toNat)).toInt), .inr (.inr (some 79)), .inl 0]) (w' := (SH, dt)) rfl rfl (s_iald (n := L) (f := fun j => (xs j).toInt) (am_scr hLL) ⟨by omega, by omega⟩) ?_
    refine go_call (Q' := _) rfl rfl rfl rfl rfl (sp_X6_look L xs sio (d + 38) dt hI  ((xs ((i + 1).toNat)).toInt) ⟨by omega, by omega⟩ ) ?_
    rintro _ _ ⟨rfl, h70⟩
    refine ⟨rfl, ?_⟩
    rcases h70 with ⟨rfl, h70⟩ | ⟨rfl, h70⟩ | ⟨rfl, h70⟩ | ⟨rfl, h70⟩ | ⟨rfl, h70⟩ | ⟨rfl, h70⟩ | ⟨rfl, h70⟩ | ⟨rfl, h70⟩ | ⟨rfl, h70⟩
    · skip
      refine go_if (k := 1) (p1 := 1435) (p2 := 1433) (L' := [some (.inr (.inr (some 3000))), some (.inr (.inr (some 0))), some (.inr (.inr (some 79))), some (.inl i)]) (st' := []) (w' := (SH, dt)) (fun _ => rfl) (c_eq (a := 0) (b := dt 80 1) ⟨by omega, by omega⟩ ⟨by omega, by omega⟩) (fun c71 => ?_) (fun c71 => ?_)
      · skip
        exact K dt hI hM hM2 (by first | omega | (simp only [*]; done) | simp only [*]) (by omega) (by omega) (by omega) (by omega) (by omega) (by omega) (by omega) (by omega) (by omega) (by omega) (by omega) (by omega) (by omega)
      · skip
        exfalso; omega
    · skip
      refine go_if (k := 1) (p1 := 1435) (p2 := 1433) (L' := [some (.inr (.inr (some 3000))), some (.inr (.inr (some 0))), some (.inr (.inr (some 79))), some (.inl i)]) (st' := []) (w' := (SH, dt)) (fun _ => rfl) (c_eq (a := 0) (b := dt 80 2) ⟨by omega, by omega⟩ ⟨by omega, by omega⟩) (fun c72 => ?_) (fun c72 => ?_)
      · skip
        exact K dt hI hM hM2 (by first | omega | (simp only [*]; done) | simp only [*]) (by omega) (by omega) (by omega) (by omega) (by omega) (by omega) (by omega) (by omega) (by omega) (by omega) (by omega) (by omega) (by omega)
      · skip
        exfalso; omega
    · skip
      refine go_if (k := 1) (p1 := 1435) (p2 := 1433) (L' := [some (.inr (.inr (some 3000))), some (.inr (.inr (some 0))), some (.inr (.inr (some 79))), some (.inl i)]) (st' := []) (w' := (SH, dt)) (fun _ => rfl) (c_eq (a := 0) (b := dt 80 3) ⟨by omega, by omega⟩ ⟨by omega, by omega⟩) (fun c73 => ?_) (fun c73 => ?_)
      · skip
        exact K dt hI hM hM2 (by first | omega | (simp only [*]; done) | simp only [*]) (by omega) (by omega) (by omega) (by omega) (by omega) (by omega) (by omega) (by omega) (by omega) (by omega) (by omega) (by omega) (by omega)
      · skip
        exfalso; omega
    · skip
      refine go_if (k := 1) (p1 := 1435) (p2 := 1433) (L' := [some (.inr (.inr (some 3000))), some (.inr (.inr (some 0))), some (.inr (.inr (some 79))), some (.inl i)]) (st' := []) (w' := (SH, dt)) (fun _ => rfl) (c_eq (a := 0) (b := dt 80 4) ⟨by omega, by omega⟩ ⟨by omega, by omega⟩) (fun c74 => ?_) (fun c74 => ?_)
      · skip
        exact K dt hI hM hM2 (by first | omega | (simp only [*]; done) | simp only [*]) (by omega) (by omega) (by omega) (by omega) (by omega) (by omega) (by omega) (by omega) (by omega) (by omega) (by omega) (by omega) (by omega)
      · skip
        exfalso; omega
    · skip
      refine go_if (k := 1) (p1 := 1435) (p2 := 1433) (L' := [some (.inr (.inr (some 3000))), some (.inr (.inr (some 0))), some (.inr (.inr (some 79))), some (.inl i)]) (st' := []) (w' := (SH, dt)) (fun _ => rfl) (c_eq (a := 0) (b := dt 80 5) ⟨by omega, by omega⟩ ⟨by omega, by omega⟩) (fun c75 => ?_) (fun c75 => ?_)
      · skip
        exact K dt hI hM hM2 (by first | omega | (simp only [*]; done) | simp only [*]) (by omega) (by omega) (by omega) (by omega) (by omega) (by omega) (by omega) (by omega) (by omega) (by omega) (by omega) (by omega) (by omega)
      · skip
        exfalso; omega
    · skip
      refine go_if (k := 1) (p1 := 1435) (p2 := 1433) (L' := [some (.inr (.inr (some 3000))), some (.inr (.inr (some 0))), some (.inr (.inr (some 79))), some (.inl i)]) (st' := []) (w' := (SH, dt)) (fun _ => rfl) (c_eq (a := 0) (b := dt 80 0) ⟨by omega, by omega⟩ ⟨by omega, by omega⟩) (fun c76 => ?_) (fun c76 => ?_)
      · skip
        exact K dt hI hM hM2 (by first | omega | (simp only [*]; done) | simp only [*]) (by omega) (by omega) (by omega) (by omega) (by omega) (by omega) (by omega) (by omega) (by omega) (by omega) (by omega) (by omega) (by omega)
      · skip
        exfalso; omega
    · skip
      obtain ⟨h70_0, h70_1⟩ := h70
      exfalso; omega
    · skip
      obtain ⟨h70_0, h70_1⟩ := h70
      refine go_to (k := 1) (pc' := 1435) (L' := [some (.inr (.inr (some 3000))), some (.inr (.inr (some 0))), some (.inr (.inr (some 79))), some (.inl i)]) (st' := []) (w' := (SH, dt)) (fun _ => rfl) ?_
      exact K dt hI hM hM2 (by first | omega | (simp only [*]; done) | simp only [*]) (by omega) (by omega) (by omega) (by omega) (by omega) (by omega) (by omega) (by omega) (by omega) (by omega) (by omega) (by omega) (by omega)
    · skip
      exfalso; omega
  · skip
    refine go_to (k := 5) (pc' := 1426) (L' := [some (.inr (.inr (some 3000))), some (.inr (.inr (some 0))), some (.inr (.inr (some 79))), some (.inl i)]) (st' := [.inl (i + 1), .inr (.inr (some 3000)), .inr (.inr (some 79)), .inl (-1)]) (w' := (SH, dt)) (fun _ => rfl) ?_
    refine go_smp (L' := [some (.inr (.inr (some 3000))), some (.inr (.inr (some 0))), some (.inr (.inr (some 79))), some (.inl i)]) (st' := [.inl ((xs ((i + 1).toNat)).toInt), .inr (.inr (some 79)), .inl (-1)]) (w' := (SH, dt)) rfl rfl (s_iald (n := L) (f := fun j => (xs j).toInt) (am_scr hLL) ⟨by omega, by omega⟩) ?_
    refine go_call (Q' := _) rfl rfl rfl rfl rfl (sp_X6_look L xs sio (d + 38) dt hI  ((xs ((i + 1).toNat)).toInt) ⟨by omega, by omega⟩ ) ?_
    rintro _ _ ⟨rfl, h77⟩
    refine ⟨rfl, ?_⟩
    rcases h77 with ⟨rfl, h77⟩ | ⟨rfl, h77⟩ | ⟨rfl, h77⟩ | ⟨rfl, h77⟩ | ⟨rfl, h77⟩ | ⟨rfl, h77⟩ | ⟨rfl, h77⟩ | ⟨rfl, h77⟩ | ⟨rfl, h77⟩
    · skip
      refine go_if (k := 1) (p1 := 1435) (p2 := 1433) (L' := [some (.inr (.inr (some 3000))), some (.inr (.inr (some 0))), some (.inr (.inr (some 79))), some (.inl i)]) (st' := []) (w' := (SH, dt)) (fun _ => rfl) (c_eq (a := (-1)) (b := dt 80 1) ⟨by omega, by omega⟩ ⟨by omega, by omega⟩) (fun c78 => ?_) (fun c78 => ?_)
      · skip
        exact K dt hI hM hM2 (by first | omega | (simp only [*]; done) | simp only [*]) (by omega) (by omega) (by omega) (by omega) (by omega) (by omega) (by omega) (by omega) (by omega) (by omega) (by omega) (by omega) (by omega)
      · skip
        exfalso; omega
    · skip
      refine go_if (k := 1) (p1 := 1435) (p2 := 1433) (L' := [some (.inr (.inr (some 3000))), some (.inr (.inr (some 0))), some (.inr (.inr (some 79))), some (.inl i)]) (st' := []) (w' := (SH, dt)) (fun _ => rfl) (c_eq (a := (-1)) (b := dt 80 2) ⟨by omega, by omega⟩ ⟨by omega, by omega⟩) (fun c79 => ?_) (fun c79 => ?_)
      · skip
        exact K dt hI hM hM2 (by first | omega | (simp only [*]; done) | simp only [*]) (by omega) (by omega) (by omega) (by omega) (by omega) (by omega) (by omega) (by omega) (by omega) (by omega) (by omega) (by omega) (by omega)
      · skip
        exfalso; omega
    · skip
      refine go_if (k := 1) (p1 := 1435) (p2 := 1433) (L' := [some (.inr (.inr (some 3000))), some (.inr (.inr (some 0))), some (.inr (.inr (some 79))), some (.inl i)]) (st' := []) (w' := (SH, dt)) (fun _ => rfl) (c_eq (a := (-1)) (b := dt 80 3) ⟨by omega, by omega⟩ ⟨by omega, by omega⟩) (fun c80 => ?_) (fun c80 => ?_)
      · skip
        exact K dt hI hM hM2 (by first | omega | (simp only [*]; done) | simp only [*]) (by omega) (by omega) (by omega) (by omega) (by omega) (by omega) (by omega) (by omega) (by omega) (by omega) (by omega) (by omega) (by omega)
      · skip
        exfalso; omega
    · skip
      refine go_if (k := 1) (p1 := 1435) (p2 := 1433) (L' := [some (.inr (.inr (some 3000))), some (.inr (.inr (some 0))), some (.inr (.inr (some 79))), some (.inl i)]) (st' := []) (w' := (SH, dt)) (fun _ => rfl) (c_eq (a := (-1)) (b := dt 80 4) ⟨by omega, by omega⟩ ⟨by omega, by omega⟩) (fun c81 => ?_) (fun c81 => ?_)
      · skip
        exact K dt hI hM hM2 (by first | omega | (simp only [*]; done) | simp only [*]) (by omega) (by omega) (by omega) (by omega) (by omega) (by omega) (by omega) (by omega) (by omega) (by omega) (by omega) (by omega) (by omega)
      · skip
        exfalso; omega
    · skip
      refine go_if (k := 1) (p1 := 1435) (p2 := 1433) (L' := [some (.inr (.inr (some 3000))), some (.inr (.inr (some 0))), some (.inr (.inr (some 79))), some (.inl i)]) (st' := []) (w' := (SH, dt)) (fun _ => rfl) (c_eq (a := (-1)) (b := dt 80 5) ⟨by omega, by omega⟩ ⟨by omega, by omega⟩) (fun c82 => ?_) (fun c82 => ?_)
      · skip
        exact K dt hI hM hM2 (by first | omega | (simp only [*]; done) | simp only [*]) (by omega) (by omega) (by omega) (by omega) (by omega) (by omega) (by omega) (by omega) (by omega) (by omega) (by omega) (by omega) (by omega)
      · skip
        exfalso; omega
    · skip
      refine go_if (k := 1) (p1 := 1435) (p2 := 1433) (L' := [some (.inr (.inr (some 3000))), some (.inr (.inr (some 0))), some (.inr (.inr (some 79))), some (.inl i)]) (st' := []) (w' := (SH, dt)) (fun _ => rfl) (c_eq (a := (-1)) (b := dt 80 0) ⟨by omega, by omega⟩ ⟨by omega, by omega⟩) (fun c83 => ?_) (fun c83 => ?_)
      · skip
        exact K dt hI hM hM2 (by first | omega | (simp only [*]; done) | simp only [*]) (by omega) (by omega) (by omega) (by omega) (by omega) (by omega) (by omega) (by omega) (by omega) (by omega) (by omega) (by omega) (by omega)
      · skip
        exfalso; omega
    · skip
      obtain ⟨h77_0, h77_1⟩ := h77
      exfalso; omega
    · skip
      obtain ⟨h77_0, h77_1⟩ := h77
      exfalso; omega
    · skip
      refine go_to (k := 1) (pc' := 1435) (L' := [some (.inr (.inr (some 3000))), some (.inr (.inr (some 0))), some (.inr (.inr (some 79))), some (.inl i)]) (st' := []) (w' := (SH, dt)) (fun _ => rfl) ?_
      exact K dt hI hM hM2 (by first | omega | (simp only [*]; done) | simp only [*]) (by omega) (by omega) (by omega) (by omega) (by omega) (by omega) (by omega) (by omega) (by omega) (by omega) (by omega) (by omega) (by omega)
