set_option maxRecDepth 20000 in
set_option maxHeartbeats 8000000 in
theorem sp_case22 (L : Nat) (xs : Nat → Int32) (sio : Option Nat) (d : Nat) (Q : Option AV → am_W → Prop) (hLL : L ≤ 3072) (i : Int) (hi : 0 ≤ i ∧ i ≤ 3066) (hil : i ≤ (L : Int) - 6) (dt : Nat → Nat → Int) (hI : InvC dt) (hM : MW (dt 80)) (hM2 : MW (dt 81)) (hk0 : dt 1 0 = dt 80 0) (hk1 : dt 7 3 = dt 80 1) (hk2 : dt 10 3 = dt 80 2) (hk3 : dt 12 3 = dt 80 3) (hk4 : dt 14 3 = dt 80 4) (hk5 : dt 16 3 = dt 80 5) (hk6 : dt 18 0 = dt 81 0) (hk7 : dt 24 3 = dt 81 1) (hk8 : dt 27 3 = dt 81 2) (hk9 : dt 29 3 = dt 81 3) (hk10 : dt 31 3 = dt 81 4) (hk11 : dt 33 3 = dt 81 5) (hk12 : dt 0 2 = dt 79 2) (hk13 : dt 35 1 = dt 79 12) (hd0 : RW2 (dt 15) (dt 80) (dt 80 4) 7340) (hd1 : RW2 (dt 32) (dt 81) (dt 81 4) 7340) (hd2 : RW2 (dt 17) (dt 80) (dt 80 5) 7420) (hd3 : RW2 (dt 34) (dt 81) (dt 81 5) 7420) (K : ∀ (dt : Nat → Nat → Int) (hI : InvC dt) (hM : MW (dt 80)) (hM2 : MW (dt 81)) (hk0 : dt 1 0 = dt 80 0) (hk1 : dt 7 3 = dt 80 1) (hk2 : dt 10 3 = dt 80 2) (hk3 : dt 12 3 = dt 80 3) (hk4 : dt 14 3 = dt 80 4) (hk5 : dt 16 3 = dt 80 5) (hk6 : dt 18 0 = dt 81 0) (hk7 : dt 24 3 = dt 81 1) (hk8 : dt 27 3 = dt 81 2) (hk9 : dt 29 3 = dt 81 3) (hk10 : dt 31 3 = dt 81 4) (hk11 : dt 33 3 = dt 81 5) (hk12 : dt 0 2 = dt 79 2) (hk13 : dt 35 1 = dt 79 12) (hd0 : RW2 (dt 15) (dt 80) (dt 80 4) 7340) (hd1 : RW2 (dt 32) (dt 81) (dt 81 4) 7340) (hd2 : RW2 (dt 17) (dt 80) (dt 80 5) 7420) (hd3 : RW2 (dt 34) (dt 81) (dt 81 5) 7420), GO (am_XX L xs sio) (d + 39) 267 1435 [some (.inr (.inr (some 3000))), some (.inr (.inr (some 0))), some (.inr (.inr (some 79))), some (.inl i)] [] (SH, dt) Q) : GO (am_XX L xs sio) (d + 39) 267 1086 [some (.inr (.inr (some 3000))), some (.inr (.inr (some 0))), some (.inr (.inr (some 79))), some (.inl i)] [] (SH, dt) Q := by
  have hF : Fr [0, 1, 2, 3, 4, 5, 6, 7, 8, 9, 10, 11, 12, 13, 14, 15, 16, 17, 18, 19, 20, 21, 22, 23, 24, 25, 26, 27, 28, 29, 30, 31, 32, 33, 34, 35, 36, 37, 38, 39, 40, 41, 42, 43, 44, 45, 46, 47, 48, 49, 50, 51, 52, 53, 54, 55, 56, 57, 58, 59, 60, 61, 62, 63, 64, 65, 66, 67, 68, 69, 70, 71, 72, 73, 74, 75, 76, 77, 78, 79, 80, 81, 82, 83, 84, 85, 86, 87, 88, 89, 90, 91, 92, 93, 94, 95, 96, 97, 98, 99, 100, 101, 102, 103, 104] dt dt := Fr_refl
  have hmn := MW_n hM
  have hmn2 := MW_n hM2
  refine go_toq PM267 (k := 5) (pc' := 1091) (L' := [some (.inr (.inr (some 3000))), some (.inr (.inr (some 0))), some (.inr (.inr (some 79))), some (.inl i)]) (st' := [.inl (i + 1), .inr (.inr (some 3000)), .inr (.inr (some 0))]) (w' := (SH, dt)) rfl ?_
  have r1 := i32_R (xs ((i + 1).toNat))
  refine go_smpq PM267 (L' := [some (.inr (.inr (some 3000))), some (.inr (.inr (some 0))), some (.inr (.inr (some 79))), some (.inl i)]) (st' := [.inl ((xs ((i + 1).toNat)).toInt), .inr (.inr (some 0))]) (w' := (SH, dt)) rfl rfl (s_iald (n := L) (f := fun j => (xs j).toInt) (am_scr hLL) ⟨by omega, by omega⟩) ?_
  refine go_callq PM267 PM89 (Q' := _) rfl rfl rfl rfl (sp_X5_beside L xs sio (d + 34) dt hI  ((xs ((i + 1).toNat)).toInt) ⟨by omega, by omega⟩ ) ?_
  rintro _ _ ⟨dt3, rfl, hI4, hF5, h2⟩
  refine ⟨rfl, ?_⟩
  have hF6 : Fr [0, 1, 2, 3, 4, 5, 6, 7, 8, 9, 10, 11, 12, 13, 14, 15, 16, 17, 18, 19, 20, 21, 22, 23, 24, 25, 26, 27, 28, 29, 30, 31, 32, 33, 34, 35, 36, 37, 38, 39, 40, 41, 42, 43, 44, 45, 46, 47, 48, 49, 50, 51, 52, 53, 54, 55, 56, 57, 58, 59, 60, 61, 62, 63, 64, 65, 66, 67, 68, 69, 70, 71, 72, 73, 74, 75, 76, 77, 78, 79, 80, 81, 82, 83, 84, 85, 86, 87, 88, 89, 90, 91, 92, 93, 94, 95, 96, 97, 98, 99, 100, 101, 102, 103, 104] dt dt3 := Fr_tr hF hF5 (by decide)
  have hM7 : MW (dt3 80) := MW_fr hM hF5 (by decide)
  have w8 : dt3 1 0 = dt 1 0 := hF5 1 (by decide) 0
  have w9 : dt3 7 3 = dt 7 3 := hF5 7 (by decide) 3
  have w10 : dt3 10 3 = dt 10 3 := hF5 10 (by decide) 3
  have w11 : dt3 12 3 = dt 12 3 := hF5 12 (by decide) 3
  have w12 : dt3 14 3 = dt 14 3 := hF5 14 (by decide) 3
  have w13 : dt3 16 3 = dt 16 3 := hF5 16 (by decide) 3
  have w14 : dt3 18 0 = dt 18 0 := hF5 18 (by decide) 0
  have w15 : dt3 24 3 = dt 24 3 := hF5 24 (by decide) 3
  have w16 : dt3 27 3 = dt 27 3 := hF5 27 (by decide) 3
  have w17 : dt3 29 3 = dt 29 3 := hF5 29 (by decide) 3
  have w18 : dt3 31 3 = dt 31 3 := hF5 31 (by decide) 3
  have w19 : dt3 33 3 = dt 33 3 := hF5 33 (by decide) 3
  have w20 : dt3 0 2 = dt 0 2 := hF5 0 (by decide) 2
  have w21 : dt3 35 1 = dt 35 1 := hF5 35 (by decide) 1
  have w22 : dt3 80 0 = dt 80 0 := hF5 80 (by decide) 0
  have w23 : dt3 80 1 = dt 80 1 := hF5 80 (by decide) 1
  have w24 : dt3 80 2 = dt 80 2 := hF5 80 (by decide) 2
  have w25 : dt3 80 3 = dt 80 3 := hF5 80 (by decide) 3
  have w26 : dt3 80 4 = dt 80 4 := hF5 80 (by decide) 4
  have w27 : dt3 80 5 = dt 80 5 := hF5 80 (by decide) 5
  have w28 : dt3 81 0 = dt 81 0 := hF5 81 (by decide) 0
  have w29 : dt3 81 1 = dt 81 1 := hF5 81 (by decide) 1
  have w30 : dt3 81 2 = dt 81 2 := hF5 81 (by decide) 2
  have w31 : dt3 81 3 = dt 81 3 := hF5 81 (by decide) 3
  have w32 : dt3 81 4 = dt 81 4 := hF5 81 (by decide) 4
  have w33 : dt3 81 5 = dt 81 5 := hF5 81 (by decide) 5
  have w34 : dt3 79 2 = dt 79 2 := hF5 79 (by decide) 2
  have w35 : dt3 79 12 = dt 79 12 := hF5 79 (by decide) 12
  rcases h2 with ⟨v_h2, rfl, h2r, h2⟩
  have M236 : MW (dt3 81) := MW_frk hM2 hF5 (by decide)
  have C37 : ∀ j : Nat, dt3 15 j = dt 15 j := fun j => (hF5 15 (by decide) j).trans ((fun _ => rfl) j)
  have C38 : ∀ j : Nat, dt3 17 j = dt 17 j := fun j => (hF5 17 (by decide) j).trans ((fun _ => rfl) j)
  have C39 : ∀ j : Nat, dt3 32 j = dt 32 j := fun j => (hF5 32 (by decide) j).trans ((fun _ => rfl) j)
  have C40 : ∀ j : Nat, dt3 34 j = dt 34 j := fun j => (hF5 34 (by decide) j).trans ((fun _ => rfl) j)
  have F41 : ∀ j : Nat, 7340 ≤ j → dt3 81 j = dt 81 j := fun j hj => (hF5 81 (by decide) j).trans ((fun _ _ => rfl) j hj)
  have F42 : ∀ j : Nat, 7340 ≤ j → dt3 80 j = dt 80 j := fun j hj => (hF5 80 (by decide) j).trans ((fun _ _ => rfl) j hj)
  have F43 : ∀ j : Nat, dt3 80 j = dt 80 j := fun j => (hF5 80 (by decide) j).trans ((fun _ => rfl) j)
  have F44 : ∀ j : Nat, dt3 81 j = dt 81 j := fun j => (hF5 81 (by decide) j).trans ((fun _ => rfl) j)
  refine go_toq PM267 (k := 6) (pc' := 1101) (L' := [some (.inr (.inr (some 3000))), some (.inr (.inr (some 0))), some (.inr (.inr (some 79))), some (.inl i)]) (st' := [.inl (i + 1), .inr (.inr (some 3000)), .inr (.inr (some 79))]) (w' := (SH, dt3)) rfl ?_
  have r45 := i32_R (xs ((i + 1).toNat))
  refine go_smpq PM267 (L' := [some (.inr (.inr (some 3000))), some (.inr (.inr (some 0))), some (.inr (.inr (some 79))), some (.inl i)]) (st' := [.inl ((xs ((i + 1).toNat)).toInt), .inr (.inr (some 79))]) (w' := (SH, dt3)) rfl rfl (s_iald (n := L) (f := fun j => (xs j).toInt) (am_scr hLL) ⟨by omega, by omega⟩) ?_
  refine go_callq PM267 PM232 (Q' := _) rfl rfl rfl rfl (sp_X6_beside L xs sio (d + 31) dt3 hI4 hM7  ((xs ((i + 1).toNat)).toInt) ⟨by omega, by omega⟩ ) ?_
  rintro _ _ ⟨dt47, rfl, hI48, hF49, h46⟩
  refine ⟨rfl, ?_⟩
  have hF50 : Fr [0, 1, 2, 3, 4, 5, 6, 7, 8, 9, 10, 11, 12, 13, 14, 15, 16, 17, 18, 19, 20, 21, 22, 23, 24, 25, 26, 27, 28, 29, 30, 31, 32, 33, 34, 35, 36, 37, 38, 39, 40, 41, 42, 43, 44, 45, 46, 47, 48, 49, 50, 51, 52, 53, 54, 55, 56, 57, 58, 59, 60, 61, 62, 63, 64, 65, 66, 67, 68, 69, 70, 71, 72, 73, 74, 75, 76, 77, 78, 79, 80, 81, 82, 83, 84, 85, 86, 87, 88, 89, 90, 91, 92, 93, 94, 95, 96, 97, 98, 99, 100, 101, 102, 103, 104] dt dt47 := Fr_tr hF6 hF49 (by decide)
  have hM51 : MW (dt47 80) := MW_fr hM7 hF49 (by decide)
  have w52 : dt47 1 0 = dt3 1 0 := hF49 1 (by decide) 0
  have w53 : dt47 7 3 = dt3 7 3 := hF49 7 (by decide) 3
  have w54 : dt47 10 3 = dt3 10 3 := hF49 10 (by decide) 3
  have w55 : dt47 12 3 = dt3 12 3 := hF49 12 (by decide) 3
  have w56 : dt47 14 3 = dt3 14 3 := hF49 14 (by decide) 3
  have w57 : dt47 16 3 = dt3 16 3 := hF49 16 (by decide) 3
  have w58 : dt47 18 0 = dt3 18 0 := hF49 18 (by decide) 0
  have w59 : dt47 24 3 = dt3 24 3 := hF49 24 (by decide) 3
  have w60 : dt47 27 3 = dt3 27 3 := hF49 27 (by decide) 3
  have w61 : dt47 29 3 = dt3 29 3 := hF49 29 (by decide) 3
  have w62 : dt47 31 3 = dt3 31 3 := hF49 31 (by decide) 3
  have w63 : dt47 33 3 = dt3 33 3 := hF49 33 (by decide) 3
  have w64 : dt47 0 2 = dt3 0 2 := hF49 0 (by decide) 2
  have w65 : dt47 35 1 = dt3 35 1 := hF49 35 (by decide) 1
  have w66 : dt47 80 0 = dt3 80 0 := hF49 80 (by decide) 0
  have w67 : dt47 80 1 = dt3 80 1 := hF49 80 (by decide) 1
  have w68 : dt47 80 2 = dt3 80 2 := hF49 80 (by decide) 2
  have w69 : dt47 80 3 = dt3 80 3 := hF49 80 (by decide) 3
  have w70 : dt47 80 4 = dt3 80 4 := hF49 80 (by decide) 4
  have w71 : dt47 80 5 = dt3 80 5 := hF49 80 (by decide) 5
  have w72 : dt47 81 0 = dt3 81 0 := hF49 81 (by decide) 0
  have w73 : dt47 81 1 = dt3 81 1 := hF49 81 (by decide) 1
  have w74 : dt47 81 2 = dt3 81 2 := hF49 81 (by decide) 2
  have w75 : dt47 81 3 = dt3 81 3 := hF49 81 (by decide) 3
  have w76 : dt47 81 4 = dt3 81 4 := hF49 81 (by decide) 4
  have w77 : dt47 81 5 = dt3 81 5 := hF49 81 (by decide) 5
  have w78 : dt47 79 2 = dt3 79 2 := hF49 79 (by decide) 2
  have w79 : dt47 79 12 = dt3 79 12 := hF49 79 (by decide) 12
  rcases h46 with ⟨v_h46, rfl, h46r, h46⟩
  have M280 : MW (dt47 81) := MW_frk M236 hF49 (by decide)
  have C81 : ∀ j : Nat, dt47 15 j = dt 15 j := fun j => (hF49 15 (by decide) j).trans (C37 j)
  have C82 : ∀ j : Nat, dt47 17 j = dt 17 j := fun j => (hF49 17 (by decide) j).trans (C38 j)
  have C83 : ∀ j : Nat, dt47 32 j = dt 32 j := fun j => (hF49 32 (by decide) j).trans (C39 j)
  have C84 : ∀ j : Nat, dt47 34 j = dt 34 j := fun j => (hF49 34 (by decide) j).trans (C40 j)
  have F85 : ∀ j : Nat, 7340 ≤ j → dt47 81 j = dt 81 j := fun j hj => (hF49 81 (by decide) j).trans (F41 j hj)
  have F86 : ∀ j : Nat, 7340 ≤ j → dt47 80 j = dt 80 j := fun j hj => (hF49 80 (by decide) j).trans (F42 j hj)
  have F87 : ∀ j : Nat, dt47 80 j = dt 80 j := fun j => (hF49 80 (by decide) j).trans (F43 j)
  have F88 : ∀ j : Nat, dt47 81 j = dt 81 j := fun j => (hF49 81 (by decide) j).trans (F44 j)
  refine go_toq PM267 (k := 2) (pc' := 1435) (L' := [some (.inr (.inr (some 3000))), some (.inr (.inr (some 0))), some (.inr (.inr (some 79))), some (.inl i)]) (st' := []) (w' := (SH, dt47)) rfl ?_
  exact K dt47 hI48 hM51 M280 (by first | omega | (simp only [*]; done) | simp only [*]) (by omega) (by omega) (by omega) (by omega) (by omega) (by omega) (by omega) (by omega) (by omega) (by omega) (by omega) (by omega) (by omega) (by first | exact hI | exact RW2_k hd0 C81 F86 (by decide) (by omega) | (exfalso; omega)) (by first | exact hI | exact RW2_k hd1 C83 F85 (by decide) (by omega) | (exfalso; omega)) (by first | exact hI | exact RW2_k hd2 C82 F86 (by decide) (by omega) | (exfalso; omega)) (by first | exact hI | exact RW2_k hd3 C84 F85 (by decide) (by omega) | (exfalso; omega))
set_option maxRecDepth 20000 in
set_option maxHeartbeats 8000000 in
theorem sp_case23 (L : Nat) (xs : Nat → Int32) (sio : Option Nat) (d : Nat) (Q : Option AV → am_W → Prop) (hLL : L ≤ 3072) (i : Int) (hi : 0 ≤ i ∧ i ≤ 3066) (hil : i ≤ (L : Int) - 6) (dt : Nat → Nat → Int) (hI : InvC dt) (hM : MW (dt 80)) (hM2 : MW (dt 81)) (hk0 : dt 1 0 = dt 80 0) (hk1 : dt 7 3 = dt 80 1) (hk2 : dt 10 3 = dt 80 2) (hk3 : dt 12 3 = dt 80 3) (hk4 : dt 14 3 = dt 80 4) (hk5 : dt 16 3 = dt 80 5) (hk6 : dt 18 0 = dt 81 0) (hk7 : dt 24 3 = dt 81 1) (hk8 : dt 27 3 = dt 81 2) (hk9 : dt 29 3 = dt 81 3) (hk10 : dt 31 3 = dt 81 4) (hk11 : dt 33 3 = dt 81 5) (hk12 : dt 0 2 = dt 79 2) (hk13 : dt 35 1 = dt 79 12) (hd0 : RW2 (dt 15) (dt 80) (dt 80 4) 7340) (hd1 : RW2 (dt 32) (dt 81) (dt 81 4) 7340) (hd2 : RW2 (dt 17) (dt 80) (dt 80 5) 7420) (hd3 : RW2 (dt 34) (dt 81) (dt 81 5) 7420) (K : ∀ (dt : Nat → Nat → Int) (hI : InvC dt) (hM : MW (dt 80)) (hM2 : MW (dt 81)) (hk0 : dt 1 0 = dt 80 0) (hk1 : dt 7 3 = dt 80 1) (hk2 : dt 10 3 = dt 80 2) (hk3 : dt 12 3 = dt 80 3) (hk4 : dt 14 3 = dt 80 4) (hk5 : dt 16 3 = dt 80 5) (hk6 : dt 18 0 = dt 81 0) (hk7 : dt 24 3 = dt 81 1) (hk8 : dt 27 3 = dt 81 2) (hk9 : dt 29 3 = dt 81 3) (hk10 : dt 31 3 = dt 81 4) (hk11 : dt 33 3 = dt 81 5) (hk12 : dt 0 2 = dt 79 2) (hk13 : dt 35 1 = dt 79 12) (hd0 : RW2 (dt 15) (dt 80) (dt 80 4) 7340) (hd1 : RW2 (dt 32) (dt 81) (dt 81 4) 7340) (hd2 : RW2 (dt 17) (dt 80) (dt 80 5) 7420) (hd3 : RW2 (dt 34) (dt 81) (dt 81 5) 7420), GO (am_XX L xs sio) (d + 39) 267 1435 [some (.inr (.inr (some 3000))), some (.inr (.inr (some 0))), some (.inr (.inr (some 79))), some (.inl i)] [] (SH, dt) Q) : GO (am_XX L xs sio) (d + 39) 267 1109 [some (.inr (.inr (some 3000))), some (.inr (.inr (some 0))), some (.inr (.inr (some 79))), some (.inl i)] [] (SH, dt) Q := by
  have hF : Fr [0, 1, 2, 3, 4, 5, 6, 7, 8, 9, 10, 11, 12, 13, 14, 15, 16, 17, 18, 19, 20, 21, 22, 23, 24, 25, 26, 27, 28, 29, 30, 31, 32, 33, 34, 35, 36, 37, 38, 39, 40, 41, 42, 43, 44, 45, 46, 47, 48, 49, 50, 51, 52, 53, 54, 55, 56, 57, 58, 59, 60, 61, 62, 63, 64, 65, 66, 67, 68, 69, 70, 71, 72, 73, 74, 75, 76, 77, 78, 79, 80, 81, 82, 83, 84, 85, 86, 87, 88, 89, 90, 91, 92, 93, 94, 95, 96, 97, 98, 99, 100, 101, 102, 103, 104] dt dt := Fr_refl
  have hmn := MW_n hM
  have hmn2 := MW_n hM2
  refine go_toq PM267 (k := 5) (pc' := 1114) (L' := [some (.inr (.inr (some 3000))), some (.inr (.inr (some 0))), some (.inr (.inr (some 79))), some (.inl i)]) (st' := [.inl (i + 1), .inr (.inr (some 3000)), .inr (.inr (some 0))]) (w' := (SH, dt)) rfl ?_
  have r1 := i32_R (xs ((i + 1).toNat))
  refine go_smpq PM267 (L' := [some (.inr (.inr (some 3000))), some (.inr (.inr (some 0))), some (.inr (.inr (some 79))), some (.inl i)]) (st' := [.inl ((xs ((i + 1).toNat)).toInt), .inr (.inr (some 0))]) (w' := (SH, dt)) rfl rfl (s_iald (n := L) (f := fun j => (xs j).toInt) (am_scr hLL) ⟨by omega, by omega⟩) ?_
  refine go_toq PM267 (k := 4) (pc' := 1119) (L' := [some (.inr (.inr (some 3000))), some (.inr (.inr (some 0))), some (.inr (.inr (some 79))), some (.inl i)]) (st' := [.inl (i + 2), .inr (.inr (some 3000)), .inl ((xs ((i + 1).toNat)).toInt), .inr (.inr (some 0))]) (w' := (SH, dt)) rfl ?_
  have r2 := i32_R (xs ((i + 2).toNat))
  refine go_smpq PM267 (L' := [some (.inr (.inr (some 3000))), some (.inr (.inr (some 0))), some (.inr (.inr (some 79))), some (.inl i)]) (st' := [.inl ((xs ((i + 2).toNat)).toInt), .inl ((xs ((i + 1).toNat)).toInt), .inr (.inr (some 0))]) (w' := (SH, dt)) rfl rfl (s_iald (n := L) (f := fun j => (xs j).toInt) (am_scr hLL) ⟨by omega, by omega⟩) ?_
  refine go_callq PM267 PM90 (Q' := _) rfl rfl rfl rfl (sp_X5_eyes_f L xs sio (d + 36) dt hI  ((xs ((i + 1).toNat)).toInt) ⟨by omega, by omega⟩ ((xs ((i + 2).toNat)).toInt) ⟨by omega, by omega⟩ ) ?_
  rintro _ _ ⟨dt4, rfl, hI5, hF6, h3⟩
  refine ⟨rfl, ?_⟩
  have hF7 : Fr [0, 1, 2, 3, 4, 5, 6, 7, 8, 9, 10, 11, 12, 13, 14, 15, 16, 17, 18, 19, 20, 21, 22, 23, 24, 25, 26, 27, 28, 29, 30, 31, 32, 33, 34, 35, 36, 37, 38, 39, 40, 41, 42, 43, 44, 45, 46, 47, 48, 49, 50, 51, 52, 53, 54, 55, 56, 57, 58, 59, 60, 61, 62, 63, 64, 65, 66, 67, 68, 69, 70, 71, 72, 73, 74, 75, 76, 77, 78, 79, 80, 81, 82, 83, 84, 85, 86, 87, 88, 89, 90, 91, 92, 93, 94, 95, 96, 97, 98, 99, 100, 101, 102, 103, 104] dt dt4 := Fr_tr hF hF6 (by decide)
  have hM8 : MW (dt4 80) := MW_fr hM hF6 (by decide)
  have w9 : dt4 1 0 = dt 1 0 := hF6 1 (by decide) 0
  have w10 : dt4 7 3 = dt 7 3 := hF6 7 (by decide) 3
  have w11 : dt4 10 3 = dt 10 3 := hF6 10 (by decide) 3
  have w12 : dt4 12 3 = dt 12 3 := hF6 12 (by decide) 3
  have w13 : dt4 16 3 = dt 16 3 := hF6 16 (by decide) 3
  have w14 : dt4 18 0 = dt 18 0 := hF6 18 (by decide) 0
  have w15 : dt4 24 3 = dt 24 3 := hF6 24 (by decide) 3
  have w16 : dt4 27 3 = dt 27 3 := hF6 27 (by decide) 3
  have w17 : dt4 29 3 = dt 29 3 := hF6 29 (by decide) 3
  have w18 : dt4 31 3 = dt 31 3 := hF6 31 (by decide) 3
  have w19 : dt4 33 3 = dt 33 3 := hF6 33 (by decide) 3
  have w20 : dt4 0 2 = dt 0 2 := hF6 0 (by decide) 2
  have w21 : dt4 35 1 = dt 35 1 := hF6 35 (by decide) 1
  have w22 : dt4 80 0 = dt 80 0 := hF6 80 (by decide) 0
  have w23 : dt4 80 1 = dt 80 1 := hF6 80 (by decide) 1
  have w24 : dt4 80 2 = dt 80 2 := hF6 80 (by decide) 2
  have w25 : dt4 80 3 = dt 80 3 := hF6 80 (by decide) 3
  have w26 : dt4 80 4 = dt 80 4 := hF6 80 (by decide) 4
  have w27 : dt4 80 5 = dt 80 5 := hF6 80 (by decide) 5
  have w28 : dt4 81 0 = dt 81 0 := hF6 81 (by decide) 0
  have w29 : dt4 81 1 = dt 81 1 := hF6 81 (by decide) 1
  have w30 : dt4 81 2 = dt 81 2 := hF6 81 (by decide) 2
  have w31 : dt4 81 3 = dt 81 3 := hF6 81 (by decide) 3
  have w32 : dt4 81 4 = dt 81 4 := hF6 81 (by decide) 4
  have w33 : dt4 81 5 = dt 81 5 := hF6 81 (by decide) 5
  have w34 : dt4 79 2 = dt 79 2 := hF6 79 (by decide) 2
  have w35 : dt4 79 12 = dt 79 12 := hF6 79 (by decide) 12
  rcases h3 with ⟨rfl, h3⟩ | ⟨v_h3, rfl, h3r, h3⟩
  · skip
    obtain ⟨h3_0, h3_1, h3_2⟩ := h3
    replace h3_0 := hid h3_0
    have M236 : MW (dt4 81) := MW_frk hM2 hF6 (by decide)
    have C37 : ∀ j : Nat, dt4 15 j = dt 15 j := fun j => (h3_2 j).trans ((fun _ => rfl) j)
    have C38 : ∀ j : Nat, dt4 17 j = dt 17 j := fun j => (hF6 17 (by decide) j).trans ((fun _ => rfl) j)
    have C39 : ∀ j : Nat, dt4 32 j = dt 32 j := fun j => (hF6 32 (by decide) j).trans ((fun _ => rfl) j)
    have C40 : ∀ j : Nat, dt4 34 j = dt 34 j := fun j => (hF6 34 (by decide) j).trans ((fun _ => rfl) j)
    have F41 : ∀ j : Nat, 7340 ≤ j → dt4 81 j = dt 81 j := fun j hj => (hF6 81 (by decide) j).trans ((fun _ _ => rfl) j hj)
    have F42 : ∀ j : Nat, 7340 ≤ j → dt4 80 j = dt 80 j := fun j hj => (hF6 80 (by decide) j).trans ((fun _ _ => rfl) j hj)
    have F43 : ∀ j : Nat, dt4 80 j = dt 80 j := fun j => (hF6 80 (by decide) j).trans ((fun _ => rfl) j)
    have F44 : ∀ j : Nat, dt4 81 j = dt 81 j := fun j => (hF6 81 (by decide) j).trans ((fun _ => rfl) j)
    refine go_toq PM267 (k := 6) (pc' := 1129) (L' := [some (.inr (.inr (some 3000))), some (.inr (.inr (some 0))), some (.inr (.inr (some 79))), some (.inl i)]) (st' := [.inl (i + 1), .inr (.inr (some 3000)), .inr (.inr (some 79))]) (w' := (SH, dt4)) rfl ?_
    have r45 := i32_R (xs ((i + 1).toNat))
    refine go_smpq PM267 (L' := [some (.inr (.inr (some 3000))), some (.inr (.inr (some 0))), some (.inr (.inr (some 79))), some (.inl i)]) (st' := [.inl ((xs ((i + 1).toNat)).toInt), .inr (.inr (some 79))]) (w' := (SH, dt4)) rfl rfl (s_iald (n := L) (f := fun j => (xs j).toInt) (am_scr hLL) ⟨by (first | omega | (have z0_ := unhid h3_0; omega)), by (first | omega | (have z0_ := unhid h3_0; omega))⟩) ?_
    refine go_toq PM267 (k := 4) (pc' := 1134) (L' := [some (.inr (.inr (some 3000))), some (.inr (.inr (some 0))), some (.inr (.inr (some 79))), some (.inl i)]) (st' := [.inl (i + 2), .inr (.inr (some 3000)), .inl ((xs ((i + 1).toNat)).toInt), .inr (.inr (some 79))]) (w' := (SH, dt4)) rfl ?_
    have r46 := i32_R (xs ((i + 2).toNat))
    refine go_smpq PM267 (L' := [some (.inr (.inr (some 3000))), some (.inr (.inr (some 0))), some (.inr (.inr (some 79))), some (.inl i)]) (st' := [.inl ((xs ((i + 2).toNat)).toInt), .inl ((xs ((i + 1).toNat)).toInt), .inr (.inr (some 79))]) (w' := (SH, dt4)) rfl rfl (s_iald (n := L) (f := fun j => (xs j).toInt) (am_scr hLL) ⟨by (first | omega | (have z0_ := unhid h3_0; omega)), by (first | omega | (have z0_ := unhid h3_0; omega))⟩) ?_
    refine go_callq PM267 PM233 (Q' := _) rfl rfl rfl rfl (sp_X6_eyes_u L xs sio (d + 37) dt4 hI5 hM8  ((xs ((i + 1).toNat)).toInt) ⟨by (first | omega | (have z0_ := unhid h3_0; omega)), by (first | omega | (have z0_ := unhid h3_0; omega))⟩ ((xs ((i + 2).toNat)).toInt) ⟨by (first | omega | (have z0_ := unhid h3_0; omega)), by (first | omega | (have z0_ := unhid h3_0; omega))⟩ ) ?_
    rintro _ _ ⟨dt48, rfl, hI49, hF50, h47⟩
    refine ⟨rfl, ?_⟩
    have hF51 : Fr [0, 1, 2, 3, 4, 5, 6, 7, 8, 9, 10, 11, 12, 13, 14, 15, 16, 17, 18, 19, 20, 21, 22, 23, 24, 25, 26, 27, 28, 29, 30, 31, 32, 33, 34, 35, 36, 37, 38, 39, 40, 41, 42, 43, 44, 45, 46, 47, 48, 49, 50, 51, 52, 53, 54, 55, 56, 57, 58, 59, 60, 61, 62, 63, 64, 65, 66, 67, 68, 69, 70, 71, 72, 73, 74, 75, 76, 77, 78, 79, 80, 81, 82, 83, 84, 85, 86, 87, 88, 89, 90, 91, 92, 93, 94, 95, 96, 97, 98, 99, 100, 101, 102, 103, 104] dt dt48 := Fr_tr hF7 hF50 (by decide)
    have w52 : dt48 1 0 = dt4 1 0 := hF50 1 (by decide) 0
    have w53 : dt48 7 3 = dt4 7 3 := hF50 7 (by decide) 3
    have w54 : dt48 10 3 = dt4 10 3 := hF50 10 (by decide) 3
    have w55 : dt48 12 3 = dt4 12 3 := hF50 12 (by decide) 3
    have w56 : dt48 14 3 = dt4 14 3 := hF50 14 (by decide) 3
    have w57 : dt48 16 3 = dt4 16 3 := hF50 16 (by decide) 3
    have w58 : dt48 18 0 = dt4 18 0 := hF50 18 (by decide) 0
    have w59 : dt48 24 3 = dt4 24 3 := hF50 24 (by decide) 3
    have w60 : dt48 27 3 = dt4 27 3 := hF50 27 (by decide) 3
    have w61 : dt48 29 3 = dt4 29 3 := hF50 29 (by decide) 3
    have w62 : dt48 31 3 = dt4 31 3 := hF50 31 (by decide) 3
    have w63 : dt48 33 3 = dt4 33 3 := hF50 33 (by decide) 3
    have w64 : dt48 0 2 = dt4 0 2 := hF50 0 (by decide) 2
    have w65 : dt48 35 1 = dt4 35 1 := hF50 35 (by decide) 1
    have w66 : dt48 81 0 = dt4 81 0 := hF50 81 (by decide) 0
    have w67 : dt48 81 1 = dt4 81 1 := hF50 81 (by decide) 1
    have w68 : dt48 81 2 = dt4 81 2 := hF50 81 (by decide) 2
    have w69 : dt48 81 3 = dt4 81 3 := hF50 81 (by decide) 3
    have w70 : dt48 81 4 = dt4 81 4 := hF50 81 (by decide) 4
    have w71 : dt48 81 5 = dt4 81 5 := hF50 81 (by decide) 5
    have w72 : dt48 79 2 = dt4 79 2 := hF50 79 (by decide) 2
    have w73 : dt48 79 12 = dt4 79 12 := hF50 79 (by decide) 12
    rcases h47 with ⟨rfl, h47⟩ | ⟨v_h47, rfl, h47r, h47⟩
    · skip
      have hM74 : MW (dt48 80) := h47.2.1
      obtain ⟨h47_0, h47_1, h47_2, h47_3, h47_4, h47_5, h47_6, h47_7, h47_8⟩ := h47
      replace h47_0 := hid h47_0
      have M275 : MW (dt48 81) := MW_frk M236 hF50 (by decide)
      have C76 : ∀ j : Nat, dt48 15 j = dt 15 j := fun j => (hF50 15 (by decide) j).trans (C37 j)
      have C77 : ∀ j : Nat, dt48 17 j = dt 17 j := fun j => (hF50 17 (by decide) j).trans (C38 j)
      have C78 : ∀ j : Nat, dt48 32 j = dt 32 j := fun j => (hF50 32 (by decide) j).trans (C39 j)
      have C79 : ∀ j : Nat, dt48 34 j = dt 34 j := fun j => (hF50 34 (by decide) j).trans (C40 j)
      have F80 : ∀ j : Nat, 7340 ≤ j → dt48 81 j = dt 81 j := fun j hj => (hF50 81 (by decide) j).trans (F41 j hj)
      have F81 : ∀ j : Nat, 7340 ≤ j → dt48 80 j = dt 80 j := fun j hj => (h47_8 j hj).trans (F42 j hj)
      have F82 : ∀ j : Nat, dt48 81 j = dt 81 j := fun j => (hF50 81 (by decide) j).trans (F44 j)
      refine go_toq PM267 (k := 2) (pc' := 1435) (L' := [some (.inr (.inr (some 3000))), some (.inr (.inr (some 0))), some (.inr (.inr (some 79))), some (.inl i)]) (st' := []) (w' := (SH, dt48)) rfl ?_
      exact K dt48 hI49 hM74 M275 (by first | (first | omega | (have z0_ := unhid h3_0; have z1_ := unhid h47_0; omega)) | (simp only [*]; done) | simp only [*]) (by (first | omega | (have z0_ := unhid h3_0; have z1_ := unhid h47_0; omega))) (by (first | omega | (have z0_ := unhid h3_0; have z1_ := unhid h47_0; omega))) (by (first | omega | (have z0_ := unhid h3_0; have z1_ := unhid h47_0; omega))) (by (first | omega | (have z0_ := unhid h3_0; have z1_ := unhid h47_0; omega))) (by (first | omega | (have z0_ := unhid h3_0; have z1_ := unhid h47_0; omega))) (by (first | omega | (have z0_ := unhid h3_0; have z1_ := unhid h47_0; omega))) (by (first | omega | (have z0_ := unhid h3_0; have z1_ := unhid h47_0; omega))) (by (first | omega | (have z0_ := unhid h3_0; have z1_ := unhid h47_0; omega))) (by (first | omega | (have z0_ := unhid h3_0; have z1_ := unhid h47_0; omega))) (by (first | omega | (have z0_ := unhid h3_0; have z1_ := unhid h47_0; omega))) (by (first | omega | (have z0_ := unhid h3_0; have z1_ := unhid h47_0; omega))) (by (first | omega | (have z0_ := unhid h3_0; have z1_ := unhid h47_0; omega))) (by (first | omega | (have z0_ := unhid h3_0; have z1_ := unhid h47_0; omega))) (by first | exact hI | exact RW2_k hd0 C76 F81 (by decide) (by (first | omega | (have z0_ := unhid h3_0; have z1_ := unhid h47_0; omega))) | (exfalso; (first | omega | (have z0_ := unhid h3_0; have z1_ := unhid h47_0; omega)))) (by first | exact hI | exact RW2_k hd1 C78 F80 (by decide) (by (first | omega | (have z0_ := unhid h3_0; have z1_ := unhid h47_0; omega))) | (exfalso; (first | omega | (have z0_ := unhid h3_0; have z1_ := unhid h47_0; omega)))) (by first | exact hI | exact RW2_k hd2 C77 F81 (by decide) (by (first | omega | (have z0_ := unhid h3_0; have z1_ := unhid h47_0; omega))) | (exfalso; (first | omega | (have z0_ := unhid h3_0; have z1_ := unhid h47_0; omega)))) (by first | exact hI | exact RW2_k hd3 C79 F80 (by decide) (by (first | omega | (have z0_ := unhid h3_0; have z1_ := unhid h47_0; omega))) | (exfalso; (first | omega | (have z0_ := unhid h3_0; have z1_ := unhid h47_0; omega))))
    · skip
      have hM83 : MW (dt48 80) := h47.2.2.1
      obtain ⟨h47_0, h47_1, h47_2, h47_3, h47_4, h47_5, h47_6, h47_7, h47_8, h47_9, h47_10, h47_11, h47_12⟩ := h47
      have M284 : MW (dt48 81) := MW_frk M236 hF50 (by decide)
      have C85 : ∀ j : Nat, dt48 15 j = dt 15 j := fun j => (hF50 15 (by decide) j).trans (C37 j)
      have C86 : ∀ j : Nat, dt48 17 j = dt 17 j := fun j => (hF50 17 (by decide) j).trans (C38 j)
      have C87 : ∀ j : Nat, dt48 32 j = dt 32 j := fun j => (hF50 32 (by decide) j).trans (C39 j)
      have C88 : ∀ j : Nat, dt48 34 j = dt 34 j := fun j => (hF50 34 (by decide) j).trans (C40 j)
      have F89 : ∀ j : Nat, 7340 ≤ j → dt48 81 j = dt 81 j := fun j hj => (hF50 81 (by decide) j).trans (F41 j hj)
      have E90 : RW2 (dt 15) (dt4 80) (dt4 80 4) 7340 := RW2_k hd0 (fun _ => rfl) F42 (by decide) (by (first | omega | (have z0_ := unhid h3_0; omega)))
      have E91 : RW2 (dt48 15) (dt48 80) (dt48 80 4) 7340 := by exfalso; (first | omega | (have z0_ := unhid h3_0; omega))
      have E92 : RW2 (dt48 17) (dt48 80) (dt48 80 5) 7420 := by intro j hj; rw [C86 j, h47_12 _ (by (first | omega | (have z0_ := unhid h3_0; omega))), F42 _ (by (first | omega | (have z0_ := unhid h3_0; omega)))]; exact hd2 j (by (first | omega | (have z0_ := unhid h3_0; omega)))
      have F93 : ∀ j : Nat, dt48 81 j = dt 81 j := fun j => (hF50 81 (by decide) j).trans (F44 j)
      refine go_toq PM267 (k := 2) (pc' := 1435) (L' := [some (.inr (.inr (some 3000))), some (.inr (.inr (some 0))), some (.inr (.inr (some 79))), some (.inl i)]) (st' := []) (w' := (SH, dt48)) rfl ?_
      exact K dt48 hI49 hM83 M284 (by first | (first | omega | (have z0_ := unhid h3_0; omega)) | (simp only [*]; done) | simp only [*]) (by (first | omega | (have z0_ := unhid h3_0; omega))) (by (first | omega | (have z0_ := unhid h3_0; omega))) (by (first | omega | (have z0_ := unhid h3_0; omega))) (by (first | omega | (have z0_ := unhid h3_0; omega))) (by (first | omega | (have z0_ := unhid h3_0; omega))) (by (first | omega | (have z0_ := unhid h3_0; omega))) (by (first | omega | (have z0_ := unhid h3_0; omega))) (by (first | omega | (have z0_ := unhid h3_0; omega))) (by (first | omega | (have z0_ := unhid h3_0; omega))) (by (first | omega | (have z0_ := unhid h3_0; omega))) (by (first | omega | (have z0_ := unhid h3_0; omega))) (by (first | omega | (have z0_ := unhid h3_0; omega))) (by (first | omega | (have z0_ := unhid h3_0; omega))) (by first | exact E91 | exact RW2_k hd0 C85 hI (by decide) (by (first | omega | (have z0_ := unhid h3_0; omega))) | (exfalso; (first | omega | (have z0_ := unhid h3_0; omega)))) (by first | exact hI | exact RW2_k hd1 C87 F89 (by decide) (by (first | omega | (have z0_ := unhid h3_0; omega))) | (exfalso; (first | omega | (have z0_ := unhid h3_0; omega)))) (by first | exact E92 | exact RW2_k hd2 C86 hI (by decide) (by (first | omega | (have z0_ := unhid h3_0; omega))) | (exfalso; (first | omega | (have z0_ := unhid h3_0; omega)))) (by first | exact hI | exact RW2_k hd3 C88 F89 (by decide) (by (first | omega | (have z0_ := unhid h3_0; omega))) | (exfalso; (first | omega | (have z0_ := unhid h3_0; omega))))
  · skip
    obtain ⟨h3_0, h3_1, h3_2, h3_3, h3_4, h3_5⟩ := h3
    have M294 : MW (dt4 81) := MW_frk hM2 hF6 (by decide)
    have C95 : ∀ j : Nat, dt4 17 j = dt 17 j := fun j => (hF6 17 (by decide) j).trans ((fun _ => rfl) j)
    have C96 : ∀ j : Nat, dt4 32 j = dt 32 j := fun j => (hF6 32 (by decide) j).trans ((fun _ => rfl) j)
    have C97 : ∀ j : Nat, dt4 34 j = dt 34 j := fun j => (hF6 34 (by decide) j).trans ((fun _ => rfl) j)
    have F98 : ∀ j : Nat, 7340 ≤ j → dt4 81 j = dt 81 j := fun j hj => (hF6 81 (by decide) j).trans ((fun _ _ => rfl) j hj)
    have F99 : ∀ j : Nat, 7340 ≤ j → dt4 80 j = dt 80 j := fun j hj => (hF6 80 (by decide) j).trans ((fun _ _ => rfl) j hj)
    have F100 : ∀ j : Nat, dt4 80 j = dt 80 j := fun j => (hF6 80 (by decide) j).trans ((fun _ => rfl) j)
    have F101 : ∀ j : Nat, dt4 81 j = dt 81 j := fun j => (hF6 81 (by decide) j).trans ((fun _ => rfl) j)
    refine go_toq PM267 (k := 6) (pc' := 1129) (L' := [some (.inr (.inr (some 3000))), some (.inr (.inr (some 0))), some (.inr (.inr (some 79))), some (.inl i)]) (st' := [.inl (i + 1), .inr (.inr (some 3000)), .inr (.inr (some 79))]) (w' := (SH, dt4)) rfl ?_
    have r102 := i32_R (xs ((i + 1).toNat))
    refine go_smpq PM267 (L' := [some (.inr (.inr (some 3000))), some (.inr (.inr (some 0))), some (.inr (.inr (some 79))), some (.inl i)]) (st' := [.inl ((xs ((i + 1).toNat)).toInt), .inr (.inr (some 79))]) (w' := (SH, dt4)) rfl rfl (s_iald (n := L) (f := fun j => (xs j).toInt) (am_scr hLL) ⟨by omega, by omega⟩) ?_
    refine go_toq PM267 (k := 4) (pc' := 1134) (L' := [some (.inr (.inr (some 3000))), some (.inr (.inr (some 0))), some (.inr (.inr (some 79))), some (.inl i)]) (st' := [.inl (i + 2), .inr (.inr (some 3000)), .inl ((xs ((i + 1).toNat)).toInt), .inr (.inr (some 79))]) (w' := (SH, dt4)) rfl ?_
    have r103 := i32_R (xs ((i + 2).toNat))
    refine go_smpq PM267 (L' := [some (.inr (.inr (some 3000))), some (.inr (.inr (some 0))), some (.inr (.inr (some 79))), some (.inl i)]) (st' := [.inl ((xs ((i + 2).toNat)).toInt), .inl ((xs ((i + 1).toNat)).toInt), .inr (.inr (some 79))]) (w' := (SH, dt4)) rfl rfl (s_iald (n := L) (f := fun j => (xs j).toInt) (am_scr hLL) ⟨by omega, by omega⟩) ?_
    refine go_callq PM267 PM233 (Q' := _) rfl rfl rfl rfl (sp_X6_eyes_u L xs sio (d + 37) dt4 hI5 hM8  ((xs ((i + 1).toNat)).toInt) ⟨by omega, by omega⟩ ((xs ((i + 2).toNat)).toInt) ⟨by omega, by omega⟩ ) ?_
    rintro _ _ ⟨dt105, rfl, hI106, hF107, h104⟩
    refine ⟨rfl, ?_⟩
    have hF108 : Fr [0, 1, 2, 3, 4, 5, 6, 7, 8, 9, 10, 11, 12, 13, 14, 15, 16, 17, 18, 19, 20, 21, 22, 23, 24, 25, 26, 27, 28, 29, 30, 31, 32, 33, 34, 35, 36, 37, 38, 39, 40, 41, 42, 43, 44, 45, 46, 47, 48, 49, 50, 51, 52, 53, 54, 55, 56, 57, 58, 59, 60, 61, 62, 63, 64, 65, 66, 67, 68, 69, 70, 71, 72, 73, 74, 75, 76, 77, 78, 79, 80, 81, 82, 83, 84, 85, 86, 87, 88, 89, 90, 91, 92, 93, 94, 95, 96, 97, 98, 99, 100, 101, 102, 103, 104] dt dt105 := Fr_tr hF7 hF107 (by decide)
    have w109 : dt105 1 0 = dt4 1 0 := hF107 1 (by decide) 0
    have w110 : dt105 7 3 = dt4 7 3 := hF107 7 (by decide) 3
    have w111 : dt105 10 3 = dt4 10 3 := hF107 10 (by decide) 3
    have w112 : dt105 12 3 = dt4 12 3 := hF107 12 (by decide) 3
    have w113 : dt105 14 3 = dt4 14 3 := hF107 14 (by decide) 3
    have w114 : dt105 16 3 = dt4 16 3 := hF107 16 (by decide) 3
    have w115 : dt105 18 0 = dt4 18 0 := hF107 18 (by decide) 0
    have w116 : dt105 24 3 = dt4 24 3 := hF107 24 (by decide) 3
    have w117 : dt105 27 3 = dt4 27 3 := hF107 27 (by decide) 3
    have w118 : dt105 29 3 = dt4 29 3 := hF107 29 (by decide) 3
    have w119 : dt105 31 3 = dt4 31 3 := hF107 31 (by decide) 3
    have w120 : dt105 33 3 = dt4 33 3 := hF107 33 (by decide) 3
    have w121 : dt105 0 2 = dt4 0 2 := hF107 0 (by decide) 2
    have w122 : dt105 35 1 = dt4 35 1 := hF107 35 (by decide) 1
    have w123 : dt105 81 0 = dt4 81 0 := hF107 81 (by decide) 0
    have w124 : dt105 81 1 = dt4 81 1 := hF107 81 (by decide) 1
    have w125 : dt105 81 2 = dt4 81 2 := hF107 81 (by decide) 2
    have w126 : dt105 81 3 = dt4 81 3 := hF107 81 (by decide) 3
    have w127 : dt105 81 4 = dt4 81 4 := hF107 81 (by decide) 4
    have w128 : dt105 81 5 = dt4 81 5 := hF107 81 (by decide) 5
    have w129 : dt105 79 2 = dt4 79 2 := hF107 79 (by decide) 2
    have w130 : dt105 79 12 = dt4 79 12 := hF107 79 (by decide) 12
    rcases h104 with ⟨rfl, h104⟩ | ⟨v_h104, rfl, h104r, h104⟩
    · skip
      have hM131 : MW (dt105 80) := h104.2.1
      obtain ⟨h104_0, h104_1, h104_2, h104_3, h104_4, h104_5, h104_6, h104_7, h104_8⟩ := h104
      replace h104_0 := hid h104_0
      have M2132 : MW (dt105 81) := MW_frk M294 hF107 (by decide)
      have C133 : ∀ j : Nat, (j : Int) < 2 * dt 14 3 → dt105 15 j = dt 15 j := fun j hj => (hF107 15 (by decide) j).trans (h3_3 j hj)
      have C134 := (hF107 15 (by decide) _).trans h3_4
      have C135 := (hF107 15 (by decide) _).trans h3_5
      have C136 : ∀ j : Nat, dt105 17 j = dt 17 j := fun j => (hF107 17 (by decide) j).trans (C95 j)
      have C137 : ∀ j : Nat, dt105 32 j = dt 32 j := fun j => (hF107 32 (by decide) j).trans (C96 j)
      have C138 : ∀ j : Nat, dt105 34 j = dt 34 j := fun j => (hF107 34 (by decide) j).trans (C97 j)
      have F139 : ∀ j : Nat, 7340 ≤ j → dt105 81 j = dt 81 j := fun j hj => (hF107 81 (by decide) j).trans (F98 j hj)
      have F140 : ∀ j : Nat, 7340 ≤ j → dt105 80 j = dt 80 j := fun j hj => (h104_8 j hj).trans (F99 j hj)
      have F141 : ∀ j : Nat, dt105 81 j = dt 81 j := fun j => (hF107 81 (by decide) j).trans (F101 j)
      refine go_toq PM267 (k := 2) (pc' := 1435) (L' := [some (.inr (.inr (some 3000))), some (.inr (.inr (some 0))), some (.inr (.inr (some 79))), some (.inl i)]) (st' := []) (w' := (SH, dt105)) rfl ?_
      exact K dt105 hI106 hM131 M2132 (by first | (first | omega | (have z0_ := unhid h104_0; omega)) | (simp only [*]; done) | simp only [*]) (by (first | omega | (have z0_ := unhid h104_0; omega))) (by (first | omega | (have z0_ := unhid h104_0; omega))) (by (first | omega | (have z0_ := unhid h104_0; omega))) (by (first | omega | (have z0_ := unhid h104_0; omega))) (by (first | omega | (have z0_ := unhid h104_0; omega))) (by (first | omega | (have z0_ := unhid h104_0; omega))) (by (first | omega | (have z0_ := unhid h104_0; omega))) (by (first | omega | (have z0_ := unhid h104_0; omega))) (by (first | omega | (have z0_ := unhid h104_0; omega))) (by (first | omega | (have z0_ := unhid h104_0; omega))) (by (first | omega | (have z0_ := unhid h104_0; omega))) (by (first | omega | (have z0_ := unhid h104_0; omega))) (by (first | omega | (have z0_ := unhid h104_0; omega))) (by first | exact hI | exact RW2_k hd0 hI F140 (by decide) (by (first | omega | (have z0_ := unhid h104_0; omega))) | (exfalso; (first | omega | (have z0_ := unhid h104_0; omega)))) (by first | exact hI | exact RW2_k hd1 C137 F139 (by decide) (by (first | omega | (have z0_ := unhid h104_0; omega))) | (exfalso; (first | omega | (have z0_ := unhid h104_0; omega)))) (by first | exact hI | exact RW2_k hd2 C136 F140 (by decide) (by (first | omega | (have z0_ := unhid h104_0; omega))) | (exfalso; (first | omega | (have z0_ := unhid h104_0; omega)))) (by first | exact hI | exact RW2_k hd3 C138 F139 (by decide) (by (first | omega | (have z0_ := unhid h104_0; omega))) | (exfalso; (first | omega | (have z0_ := unhid h104_0; omega))))
    · skip
      have hM142 : MW (dt105 80) := h104.2.2.1
      obtain ⟨h104_0, h104_1, h104_2, h104_3, h104_4, h104_5, h104_6, h104_7, h104_8, h104_9, h104_10, h104_11, h104_12⟩ := h104
      have M2143 : MW (dt105 81) := MW_frk M294 hF107 (by decide)
      have C144 : ∀ j : Nat, (j : Int) < 2 * dt 14 3 → dt105 15 j = dt 15 j := fun j hj => (hF107 15 (by decide) j).trans (h3_3 j hj)
      have C145 := (hF107 15 (by decide) _).trans h3_4
      have C146 := (hF107 15 (by decide) _).trans h3_5
      have C147 : ∀ j : Nat, dt105 17 j = dt 17 j := fun j => (hF107 17 (by decide) j).trans (C95 j)
      have C148 : ∀ j : Nat, dt105 32 j = dt 32 j := fun j => (hF107 32 (by decide) j).trans (C96 j)
      have C149 : ∀ j : Nat, dt105 34 j = dt 34 j := fun j => (hF107 34 (by decide) j).trans (C97 j)
      have F150 : ∀ j : Nat, 7340 ≤ j → dt105 81 j = dt 81 j := fun j hj => (hF107 81 (by decide) j).trans (F98 j hj)
      have E151 : RW2 (dt 15) (dt4 80) (dt4 80 4) 7340 := RW2_k hd0 (fun _ => rfl) F99 (by decide) (by omega)
      have E152 : RW2 (dt105 15) (dt105 80) (dt105 80 4) 7340 := RW2_a (m := dt 14 3) E151 (by omega) (by omega) C144 C145 C146 h104_9 h104_10 h104_11 rfl rfl (by omega)
      have E153 : RW2 (dt105 17) (dt105 80) (dt105 80 5) 7420 := by intro j hj; rw [C147 j, h104_12 _ (by omega), F99 _ (by omega)]; exact hd2 j (by omega)
      have F154 : ∀ j : Nat, dt105 81 j = dt 81 j := fun j => (hF107 81 (by decide) j).trans (F101 j)
      refine go_toq PM267 (k := 2) (pc' := 1435) (L' := [some (.inr (.inr (some 3000))), some (.inr (.inr (some 0))), some (.inr (.inr (some 79))), some (.inl i)]) (st' := []) (w' := (SH, dt105)) rfl ?_
      exact K dt105 hI106 hM142 M2143 (by first | omega | (simp only [*]; done) | simp only [*]) (by omega) (by omega) (by omega) (by omega) (by omega) (by omega) (by omega) (by omega) (by omega) (by omega) (by omega) (by omega) (by omega) (by first | exact E152 | exact RW2_k hd0 hI hI (by decide) (by omega) | (exfalso; omega)) (by first | exact hI | exact RW2_k hd1 C148 F150 (by decide) (by omega) | (exfalso; omega)) (by first | exact E153 | exact RW2_k hd2 C147 hI (by decide) (by omega) | (exfalso; omega)) (by first | exact hI | exact RW2_k hd3 C149 F150 (by decide) (by omega) | (exfalso; omega))
set_option maxRecDepth 20000 in
set_option maxHeartbeats 8000000 in
theorem sp_case24 (L : Nat) (xs : Nat → Int32) (sio : Option Nat) (d : Nat) (Q : Option AV → am_W → Prop) (hLL : L ≤ 3072) (i : Int) (hi : 0 ≤ i ∧ i ≤ 3066) (hil : i ≤ (L : Int) - 6) (dt : Nat → Nat → Int) (hI : InvC dt) (hM : MW (dt 80)) (hM2 : MW (dt 81)) (hk0 : dt 1 0 = dt 80 0) (hk1 : dt 7 3 = dt 80 1) (hk2 : dt 10 3 = dt 80 2) (hk3 : dt 12 3 = dt 80 3) (hk4 : dt 14 3 = dt 80 4) (hk5 : dt 16 3 = dt 80 5) (hk6 : dt 18 0 = dt 81 0) (hk7 : dt 24 3 = dt 81 1) (hk8 : dt 27 3 = dt 81 2) (hk9 : dt 29 3 = dt 81 3) (hk10 : dt 31 3 = dt 81 4) (hk11 : dt 33 3 = dt 81 5) (hk12 : dt 0 2 = dt 79 2) (hk13 : dt 35 1 = dt 79 12) (hd0 : RW2 (dt 15) (dt 80) (dt 80 4) 7340) (hd1 : RW2 (dt 32) (dt 81) (dt 81 4) 7340) (hd2 : RW2 (dt 17) (dt 80) (dt 80 5) 7420) (hd3 : RW2 (dt 34) (dt 81) (dt 81 5) 7420) (K : ∀ (dt : Nat → Nat → Int) (hI : InvC dt) (hM : MW (dt 80)) (hM2 : MW (dt 81)) (hk0 : dt 1 0 = dt 80 0) (hk1 : dt 7 3 = dt 80 1) (hk2 : dt 10 3 = dt 80 2) (hk3 : dt 12 3 = dt 80 3) (hk4 : dt 14 3 = dt 80 4) (hk5 : dt 16 3 = dt 80 5) (hk6 : dt 18 0 = dt 81 0) (hk7 : dt 24 3 = dt 81 1) (hk8 : dt 27 3 = dt 81 2) (hk9 : dt 29 3 = dt 81 3) (hk10 : dt 31 3 = dt 81 4) (hk11 : dt 33 3 = dt 81 5) (hk12 : dt 0 2 = dt 79 2) (hk13 : dt 35 1 = dt 79 12) (hd0 : RW2 (dt 15) (dt 80) (dt 80 4) 7340) (hd1 : RW2 (dt 32) (dt 81) (dt 81 4) 7340) (hd2 : RW2 (dt 17) (dt 80) (dt 80 5) 7420) (hd3 : RW2 (dt 34) (dt 81) (dt 81 5) 7420), GO (am_XX L xs sio) (d + 39) 267 1435 [some (.inr (.inr (some 3000))), some (.inr (.inr (some 0))), some (.inr (.inr (some 79))), some (.inl i)] [] (SH, dt) Q) : GO (am_XX L xs sio) (d + 39) 267 1142 [some (.inr (.inr (some 3000))), some (.inr (.inr (some 0))), some (.inr (.inr (some 79))), some (.inl i)] [] (SH, dt) Q := by
  have hF : Fr [0, 1, 2, 3, 4, 5, 6, 7, 8, 9, 10, 11, 12, 13, 14, 15, 16, 17, 18, 19, 20, 21, 22, 23, 24, 25, 26, 27, 28, 29, 30, 31, 32, 33, 34, 35, 36, 37, 38, 39, 40, 41, 42, 43, 44, 45, 46, 47, 48, 49, 50, 51, 52, 53, 54, 55, 56, 57, 58, 59, 60, 61, 62, 63, 64, 65, 66, 67, 68, 69, 70, 71, 72, 73, 74, 75, 76, 77, 78, 79, 80, 81, 82, 83, 84, 85, 86, 87, 88, 89, 90, 91, 92, 93, 94, 95, 96, 97, 98, 99, 100, 101, 102, 103, 104] dt dt := Fr_refl
  have hmn := MW_n hM
  have hmn2 := MW_n hM2
  refine go_toq PM267 (k := 5) (pc' := 1147) (L' := [some (.inr (.inr (some 3000))), some (.inr (.inr (some 0))), some (.inr (.inr (some 79))), some (.inl i)]) (st' := [.inl (i + 1), .inr (.inr (some 3000)), .inr (.inr (some 0))]) (w' := (SH, dt)) rfl ?_
  have r1 := i32_R (xs ((i + 1).toNat))
  refine go_smpq PM267 (L' := [some (.inr (.inr (some 3000))), some (.inr (.inr (some 0))), some (.inr (.inr (some 79))), some (.inl i)]) (st' := [.inl ((xs ((i + 1).toNat)).toInt), .inr (.inr (some 0))]) (w' := (SH, dt)) rfl rfl (s_iald (n := L) (f := fun j => (xs j).toInt) (am_scr hLL) ⟨by omega, by omega⟩) ?_
  refine go_callq PM267 PM91 (Q' := _) rfl rfl rfl rfl (sp_X5_way L xs sio (d + 35) dt hI  ((xs ((i + 1).toNat)).toInt) ⟨by omega, by omega⟩ ) ?_
  rintro _ _ ⟨rfl, h2⟩
  refine ⟨rfl, ?_⟩
  rcases h2 with ⟨v_h2, rfl, h2r, h2⟩
  refine go_toq PM267 (k := 6) (pc' := 1157) (L' := [some (.inr (.inr (some 3000))), some (.inr (.inr (some 0))), some (.inr (.inr (some 79))), some (.inl i)]) (st' := [.inl (i + 1), .inr (.inr (some 3000)), .inr (.inr (some 79))]) (w' := (SH, dt)) rfl ?_
  refine go_smpq PM267 (L' := [some (.inr (.inr (some 3000))), some (.inr (.inr (some 0))), some (.inr (.inr (some 79))), some (.inl i)]) (st' := [.inl ((xs ((i + 1).toNat)).toInt), .inr (.inr (some 79))]) (w' := (SH, dt)) rfl rfl (s_iald (n := L) (f := fun j => (xs j).toInt) (am_scr hLL) ⟨by omega, by omega⟩) ?_
  refine go_callq PM267 PM236 (Q' := _) rfl rfl rfl rfl (sp_X6_way L xs sio (d + 36) dt hI hM  ((xs ((i + 1).toNat)).toInt) ⟨by omega, by omega⟩ ) ?_
  rintro _ _ ⟨dt4, rfl, hI5, hF6, h3⟩
  refine ⟨rfl, ?_⟩
  have hF7 : Fr [0, 1, 2, 3, 4, 5, 6, 7, 8, 9, 10, 11, 12, 13, 14, 15, 16, 17, 18, 19, 20, 21, 22, 23, 24, 25, 26, 27, 28, 29, 30, 31, 32, 33, 34, 35, 36, 37, 38, 39, 40, 41, 42, 43, 44, 45, 46, 47, 48, 49, 50, 51, 52, 53, 54, 55, 56, 57, 58, 59, 60, 61, 62, 63, 64, 65, 66, 67, 68, 69, 70, 71, 72, 73, 74, 75, 76, 77, 78, 79, 80, 81, 82, 83, 84, 85, 86, 87, 88, 89, 90, 91, 92, 93, 94, 95, 96, 97, 98, 99, 100, 101, 102, 103, 104] dt dt4 := Fr_tr hF hF6 (by decide)
  have hM8 : MW (dt4 80) := MW_fr hM hF6 (by decide)
  have w9 : dt4 1 0 = dt 1 0 := hF6 1 (by decide) 0
  have w10 : dt4 7 3 = dt 7 3 := hF6 7 (by decide) 3
  have w11 : dt4 10 3 = dt 10 3 := hF6 10 (by decide) 3
  have w12 : dt4 12 3 = dt 12 3 := hF6 12 (by decide) 3
  have w13 : dt4 14 3 = dt 14 3 := hF6 14 (by decide) 3
  have w14 : dt4 16 3 = dt 16 3 := hF6 16 (by decide) 3
  have w15 : dt4 18 0 = dt 18 0 := hF6 18 (by decide) 0
  have w16 : dt4 24 3 = dt 24 3 := hF6 24 (by decide) 3
  have w17 : dt4 27 3 = dt 27 3 := hF6 27 (by decide) 3
  have w18 : dt4 29 3 = dt 29 3 := hF6 29 (by decide) 3
  have w19 : dt4 31 3 = dt 31 3 := hF6 31 (by decide) 3
  have w20 : dt4 33 3 = dt 33 3 := hF6 33 (by decide) 3
  have w21 : dt4 0 2 = dt 0 2 := hF6 0 (by decide) 2
  have w22 : dt4 35 1 = dt 35 1 := hF6 35 (by decide) 1
  have w23 : dt4 80 0 = dt 80 0 := hF6 80 (by decide) 0
  have w24 : dt4 80 1 = dt 80 1 := hF6 80 (by decide) 1
  have w25 : dt4 80 2 = dt 80 2 := hF6 80 (by decide) 2
  have w26 : dt4 80 3 = dt 80 3 := hF6 80 (by decide) 3
  have w27 : dt4 80 4 = dt 80 4 := hF6 80 (by decide) 4
  have w28 : dt4 80 5 = dt 80 5 := hF6 80 (by decide) 5
  have w29 : dt4 81 0 = dt 81 0 := hF6 81 (by decide) 0
  have w30 : dt4 81 1 = dt 81 1 := hF6 81 (by decide) 1
  have w31 : dt4 81 2 = dt 81 2 := hF6 81 (by decide) 2
  have w32 : dt4 81 3 = dt 81 3 := hF6 81 (by decide) 3
  have w33 : dt4 81 4 = dt 81 4 := hF6 81 (by decide) 4
  have w34 : dt4 81 5 = dt 81 5 := hF6 81 (by decide) 5
  have w35 : dt4 79 2 = dt 79 2 := hF6 79 (by decide) 2
  have w36 : dt4 79 12 = dt 79 12 := hF6 79 (by decide) 12
  rcases h3 with ⟨v_h3, rfl, h3r, h3⟩
  have M237 : MW (dt4 81) := MW_frk hM2 hF6 (by decide)
  have C38 : ∀ j : Nat, dt4 15 j = dt 15 j := fun j => (hF6 15 (by decide) j).trans ((fun _ => rfl) j)
  have C39 : ∀ j : Nat, dt4 17 j = dt 17 j := fun j => (hF6 17 (by decide) j).trans ((fun _ => rfl) j)
  have C40 : ∀ j : Nat, dt4 32 j = dt 32 j := fun j => (hF6 32 (by decide) j).trans ((fun _ => rfl) j)
  have C41 : ∀ j : Nat, dt4 34 j = dt 34 j := fun j => (hF6 34 (by decide) j).trans ((fun _ => rfl) j)
  have F42 : ∀ j : Nat, 7340 ≤ j → dt4 81 j = dt 81 j := fun j hj => (hF6 81 (by decide) j).trans ((fun _ _ => rfl) j hj)
  have F43 : ∀ j : Nat, 7340 ≤ j → dt4 80 j = dt 80 j := fun j hj => (hF6 80 (by decide) j).trans ((fun _ _ => rfl) j hj)
  have F44 : ∀ j : Nat, dt4 80 j = dt 80 j := fun j => (hF6 80 (by decide) j).trans ((fun _ => rfl) j)
  have F45 : ∀ j : Nat, dt4 81 j = dt 81 j := fun j => (hF6 81 (by decide) j).trans ((fun _ => rfl) j)
  refine go_toq PM267 (k := 2) (pc' := 1435) (L' := [some (.inr (.inr (some 3000))), some (.inr (.inr (some 0))), some (.inr (.inr (some 79))), some (.inl i)]) (st' := []) (w' := (SH, dt4)) rfl ?_
  exact K dt4 hI5 hM8 M237 (by first | omega | (simp only [*]; done) | simp only [*]) (by omega) (by omega) (by omega) (by omega) (by omega) (by omega) (by omega) (by omega) (by omega) (by omega) (by omega) (by omega) (by omega) (by first | exact hI | exact RW2_k hd0 C38 F43 (by decide) (by omega) | (exfalso; omega)) (by first | exact hI | exact RW2_k hd1 C40 F42 (by decide) (by omega) | (exfalso; omega)) (by first | exact hI | exact RW2_k hd2 C39 F43 (by decide) (by omega) | (exfalso; omega)) (by first | exact hI | exact RW2_k hd3 C41 F42 (by decide) (by omega) | (exfalso; omega))
set_option maxRecDepth 20000 in
set_option maxHeartbeats 8000000 in
theorem sp_case25 (L : Nat) (xs : Nat → Int32) (sio : Option Nat) (d : Nat) (Q : Option AV → am_W → Prop) (hLL : L ≤ 3072) (i : Int) (hi : 0 ≤ i ∧ i ≤ 3066) (hil : i ≤ (L : Int) - 6) (dt : Nat → Nat → Int) (hI : InvC dt) (hM : MW (dt 80)) (hM2 : MW (dt 81)) (hk0 : dt 1 0 = dt 80 0) (hk1 : dt 7 3 = dt 80 1) (hk2 : dt 10 3 = dt 80 2) (hk3 : dt 12 3 = dt 80 3) (hk4 : dt 14 3 = dt 80 4) (hk5 : dt 16 3 = dt 80 5) (hk6 : dt 18 0 = dt 81 0) (hk7 : dt 24 3 = dt 81 1) (hk8 : dt 27 3 = dt 81 2) (hk9 : dt 29 3 = dt 81 3) (hk10 : dt 31 3 = dt 81 4) (hk11 : dt 33 3 = dt 81 5) (hk12 : dt 0 2 = dt 79 2) (hk13 : dt 35 1 = dt 79 12) (hd0 : RW2 (dt 15) (dt 80) (dt 80 4) 7340) (hd1 : RW2 (dt 32) (dt 81) (dt 81 4) 7340) (hd2 : RW2 (dt 17) (dt 80) (dt 80 5) 7420) (hd3 : RW2 (dt 34) (dt 81) (dt 81 5) 7420) (K : ∀ (dt : Nat → Nat → Int) (hI : InvC dt) (hM : MW (dt 80)) (hM2 : MW (dt 81)) (hk0 : dt 1 0 = dt 80 0) (hk1 : dt 7 3 = dt 80 1) (hk2 : dt 10 3 = dt 80 2) (hk3 : dt 12 3 = dt 80 3) (hk4 : dt 14 3 = dt 80 4) (hk5 : dt 16 3 = dt 80 5) (hk6 : dt 18 0 = dt 81 0) (hk7 : dt 24 3 = dt 81 1) (hk8 : dt 27 3 = dt 81 2) (hk9 : dt 29 3 = dt 81 3) (hk10 : dt 31 3 = dt 81 4) (hk11 : dt 33 3 = dt 81 5) (hk12 : dt 0 2 = dt 79 2) (hk13 : dt 35 1 = dt 79 12) (hd0 : RW2 (dt 15) (dt 80) (dt 80 4) 7340) (hd1 : RW2 (dt 32) (dt 81) (dt 81 4) 7340) (hd2 : RW2 (dt 17) (dt 80) (dt 80 5) 7420) (hd3 : RW2 (dt 34) (dt 81) (dt 81 5) 7420), GO (am_XX L xs sio) (d + 39) 267 1435 [some (.inr (.inr (some 3000))), some (.inr (.inr (some 0))), some (.inr (.inr (some 79))), some (.inl i)] [] (SH, dt) Q) : GO (am_XX L xs sio) (d + 39) 267 1165 [some (.inr (.inr (some 3000))), some (.inr (.inr (some 0))), some (.inr (.inr (some 79))), some (.inl i)] [] (SH, dt) Q := by
  have hF : Fr [0, 1, 2, 3, 4, 5, 6, 7, 8, 9, 10, 11, 12, 13, 14, 15, 16, 17, 18, 19, 20, 21, 22, 23, 24, 25, 26, 27, 28, 29, 30, 31, 32, 33, 34, 35, 36, 37, 38, 39, 40, 41, 42, 43, 44, 45, 46, 47, 48, 49, 50, 51, 52, 53, 54, 55, 56, 57, 58, 59, 60, 61, 62, 63, 64, 65, 66, 67, 68, 69, 70, 71, 72, 73, 74, 75, 76, 77, 78, 79, 80, 81, 82, 83, 84, 85, 86, 87, 88, 89, 90, 91, 92, 93, 94, 95, 96, 97, 98, 99, 100, 101, 102, 103, 104] dt dt := Fr_refl
  have hmn := MW_n hM
  have hmn2 := MW_n hM2
  refine go_toq PM267 (k := 5) (pc' := 1170) (L' := [some (.inr (.inr (some 3000))), some (.inr (.inr (some 0))), some (.inr (.inr (some 79))), some (.inl i)]) (st' := [.inl (i + 1), .inr (.inr (some 3000)), .inr (.inr (some 0))]) (w' := (SH, dt)) rfl ?_
  have r1 := i32_R (xs ((i + 1).toNat))
  refine go_smpq PM267 (L' := [some (.inr (.inr (some 3000))), some (.inr (.inr (some 0))), some (.inr (.inr (some 79))), some (.inl i)]) (st' := [.inl ((xs ((i + 1).toNat)).toInt), .inr (.inr (some 0))]) (w' := (SH, dt)) rfl rfl (s_iald (n := L) (f := fun j => (xs j).toInt) (am_scr hLL) ⟨by omega, by omega⟩) ?_
  refine go_toq PM267 (k := 4) (pc' := 1175) (L' := [some (.inr (.inr (some 3000))), some (.inr (.inr (some 0))), some (.inr (.inr (some 79))), some (.inl i)]) (st' := [.inl (i + 2), .inr (.inr (some 3000)), .inl ((xs ((i + 1).toNat)).toInt), .inr (.inr (some 0))]) (w' := (SH, dt)) rfl ?_
  have r2 := i32_R (xs ((i + 2).toNat))
  refine go_smpq PM267 (L' := [some (.inr (.inr (some 3000))), some (.inr (.inr (some 0))), some (.inr (.inr (some 79))), some (.inl i)]) (st' := [.inl ((xs ((i + 2).toNat)).toInt), .inl ((xs ((i + 1).toNat)).toInt), .inr (.inr (some 0))]) (w' := (SH, dt)) rfl rfl (s_iald (n := L) (f := fun j => (xs j).toInt) (am_scr hLL) ⟨by omega, by omega⟩) ?_
  refine go_callq PM267 PM92 (Q' := _) rfl rfl rfl rfl (sp_X5_house_f L xs sio (d + 36) dt hI  ((xs ((i + 1).toNat)).toInt) ⟨by omega, by omega⟩ ((xs ((i + 2).toNat)).toInt) ⟨by omega, by omega⟩ ) ?_
  rintro _ _ ⟨dt4, rfl, hI5, hF6, h3⟩
  refine ⟨rfl, ?_⟩
  have hF7 : Fr [0, 1, 2, 3, 4, 5, 6, 7, 8, 9, 10, 11, 12, 13, 14, 15, 16, 17, 18, 19, 20, 21, 22, 23, 24, 25, 26, 27, 28, 29, 30, 31, 32, 33, 34, 35, 36, 37, 38, 39, 40, 41, 42, 43, 44, 45, 46, 47, 48, 49, 50, 51, 52, 53, 54, 55, 56, 57, 58, 59, 60, 61, 62, 63, 64, 65, 66, 67, 68, 69, 70, 71, 72, 73, 74, 75, 76, 77, 78, 79, 80, 81, 82, 83, 84, 85, 86, 87, 88, 89, 90, 91, 92, 93, 94, 95, 96, 97, 98, 99, 100, 101, 102, 103, 104] dt dt4 := Fr_tr hF hF6 (by decide)
  have hM8 : MW (dt4 80) := MW_fr hM hF6 (by decide)
  have w9 : dt4 1 0 = dt 1 0 := hF6 1 (by decide) 0
  have w10 : dt4 7 3 = dt 7 3 := hF6 7 (by decide) 3
  have w11 : dt4 10 3 = dt 10 3 := hF6 10 (by decide) 3
  have w12 : dt4 12 3 = dt 12 3 := hF6 12 (by decide) 3
  have w13 : dt4 14 3 = dt 14 3 := hF6 14 (by decide) 3
  have w14 : dt4 18 0 = dt 18 0 := hF6 18 (by decide) 0
  have w15 : dt4 24 3 = dt 24 3 := hF6 24 (by decide) 3
  have w16 : dt4 27 3 = dt 27 3 := hF6 27 (by decide) 3
  have w17 : dt4 29 3 = dt 29 3 := hF6 29 (by decide) 3
  have w18 : dt4 31 3 = dt 31 3 := hF6 31 (by decide) 3
  have w19 : dt4 33 3 = dt 33 3 := hF6 33 (by decide) 3
  have w20 : dt4 0 2 = dt 0 2 := hF6 0 (by decide) 2
  have w21 : dt4 35 1 = dt 35 1 := hF6 35 (by decide) 1
  have w22 : dt4 80 0 = dt 80 0 := hF6 80 (by decide) 0
  have w23 : dt4 80 1 = dt 80 1 := hF6 80 (by decide) 1
  have w24 : dt4 80 2 = dt 80 2 := hF6 80 (by decide) 2
  have w25 : dt4 80 3 = dt 80 3 := hF6 80 (by decide) 3
  have w26 : dt4 80 4 = dt 80 4 := hF6 80 (by decide) 4
  have w27 : dt4 80 5 = dt 80 5 := hF6 80 (by decide) 5
  have w28 : dt4 81 0 = dt 81 0 := hF6 81 (by decide) 0
  have w29 : dt4 81 1 = dt 81 1 := hF6 81 (by decide) 1
  have w30 : dt4 81 2 = dt 81 2 := hF6 81 (by decide) 2
  have w31 : dt4 81 3 = dt 81 3 := hF6 81 (by decide) 3
  have w32 : dt4 81 4 = dt 81 4 := hF6 81 (by decide) 4
  have w33 : dt4 81 5 = dt 81 5 := hF6 81 (by decide) 5
  have w34 : dt4 79 2 = dt 79 2 := hF6 79 (by decide) 2
  have w35 : dt4 79 12 = dt 79 12 := hF6 79 (by decide) 12
  rcases h3 with ⟨rfl, h3⟩ | ⟨v_h3, rfl, h3r, h3⟩
  · skip
    obtain ⟨h3_0, h3_1, h3_2⟩ := h3
    replace h3_0 := hid h3_0
    have M236 : MW (dt4 81) := MW_frk hM2 hF6 (by decide)
    have C37 : ∀ j : Nat, dt4 15 j = dt 15 j := fun j => (hF6 15 (by decide) j).trans ((fun _ => rfl) j)
    have C38 : ∀ j : Nat, dt4 17 j = dt 17 j := fun j => (h3_2 j).trans ((fun _ => rfl) j)
    have C39 : ∀ j : Nat, dt4 32 j = dt 32 j := fun j => (hF6 32 (by decide) j).trans ((fun _ => rfl) j)
    have C40 : ∀ j : Nat, dt4 34 j = dt 34 j := fun j => (hF6 34 (by decide) j).trans ((fun _ => rfl) j)
    have F41 : ∀ j : Nat, 7340 ≤ j → dt4 81 j = dt 81 j := fun j hj => (hF6 81 (by decide) j).trans ((fun _ _ => rfl) j hj)
    have F42 : ∀ j : Nat, 7340 ≤ j → dt4 80 j = dt 80 j := fun j hj => (hF6 80 (by decide) j).trans ((fun _ _ => rfl) j hj)
    have F43 : ∀ j : Nat, dt4 80 j = dt 80 j := fun j => (hF6 80 (by decide) j).trans ((fun _ => rfl) j)
    have F44 : ∀ j : Nat, dt4 81 j = dt 81 j := fun j => (hF6 81 (by decide) j).trans ((fun _ => rfl) j)
    refine go_toq PM267 (k := 6) (pc' := 1185) (L' := [some (.inr (.inr (some 3000))), some (.inr (.inr (some 0))), some (.inr (.inr (some 79))), some (.inl i)]) (st' := [.inl (i + 1), .inr (.inr (some 3000)), .inr (.inr (some 79))]) (w' := (SH, dt4)) rfl ?_
    have r45 := i32_R (xs ((i + 1).toNat))
    refine go_smpq PM267 (L' := [some (.inr (.inr (some 3000))), some (.inr (.inr (some 0))), some (.inr (.inr (some 79))), some (.inl i)]) (st' := [.inl ((xs ((i + 1).toNat)).toInt), .inr (.inr (some 79))]) (w' := (SH, dt4)) rfl rfl (s_iald (n := L) (f := fun j => (xs j).toInt) (am_scr hLL) ⟨by (first | omega | (have z0_ := unhid h3_0; omega)), by (first | omega | (have z0_ := unhid h3_0; omega))⟩) ?_
    refine go_toq PM267 (k := 4) (pc' := 1190) (L' := [some (.inr (.inr (some 3000))), some (.inr (.inr (some 0))), some (.inr (.inr (some 79))), some (.inl i)]) (st' := [.inl (i + 2), .inr (.inr (some 3000)), .inl ((xs ((i + 1).toNat)).toInt), .inr (.inr (some 79))]) (w' := (SH, dt4)) rfl ?_
    have r46 := i32_R (xs ((i + 2).toNat))
    refine go_smpq PM267 (L' := [some (.inr (.inr (some 3000))), some (.inr (.inr (some 0))), some (.inr (.inr (some 79))), some (.inl i)]) (st' := [.inl ((xs ((i + 2).toNat)).toInt), .inl ((xs ((i + 1).toNat)).toInt), .inr (.inr (some 79))]) (w' := (SH, dt4)) rfl rfl (s_iald (n := L) (f := fun j => (xs j).toInt) (am_scr hLL) ⟨by (first | omega | (have z0_ := unhid h3_0; omega)), by (first | omega | (have z0_ := unhid h3_0; omega))⟩) ?_
    refine go_callq PM267 PM237 (Q' := _) rfl rfl rfl rfl (sp_X6_house_u L xs sio (d + 37) dt4 hI5 hM8  ((xs ((i + 1).toNat)).toInt) ⟨by (first | omega | (have z0_ := unhid h3_0; omega)), by (first | omega | (have z0_ := unhid h3_0; omega))⟩ ((xs ((i + 2).toNat)).toInt) ⟨by (first | omega | (have z0_ := unhid h3_0; omega)), by (first | omega | (have z0_ := unhid h3_0; omega))⟩ ) ?_
    rintro _ _ ⟨dt48, rfl, hI49, hF50, h47⟩
    refine ⟨rfl, ?_⟩
    have hF51 : Fr [0, 1, 2, 3, 4, 5, 6, 7, 8, 9, 10, 11, 12, 13, 14, 15, 16, 17, 18, 19, 20, 21, 22, 23, 24, 25, 26, 27, 28, 29, 30, 31, 32, 33, 34, 35, 36, 37, 38, 39, 40, 41, 42, 43, 44, 45, 46, 47, 48, 49, 50, 51, 52, 53, 54, 55, 56, 57, 58, 59, 60, 61, 62, 63, 64, 65, 66, 67, 68, 69, 70, 71, 72, 73, 74, 75, 76, 77, 78, 79, 80, 81, 82, 83, 84, 85, 86, 87, 88, 89, 90, 91, 92, 93, 94, 95, 96, 97, 98, 99, 100, 101, 102, 103, 104] dt dt48 := Fr_tr hF7 hF50 (by decide)
    have w52 : dt48 1 0 = dt4 1 0 := hF50 1 (by decide) 0
    have w53 : dt48 7 3 = dt4 7 3 := hF50 7 (by decide) 3
    have w54 : dt48 10 3 = dt4 10 3 := hF50 10 (by decide) 3
    have w55 : dt48 12 3 = dt4 12 3 := hF50 12 (by decide) 3
    have w56 : dt48 14 3 = dt4 14 3 := hF50 14 (by decide) 3
    have w57 : dt48 16 3 = dt4 16 3 := hF50 16 (by decide) 3
    have w58 : dt48 18 0 = dt4 18 0 := hF50 18 (by decide) 0
    have w59 : dt48 24 3 = dt4 24 3 := hF50 24 (by decide) 3
    have w60 : dt48 27 3 = dt4 27 3 := hF50 27 (by decide) 3
    have w61 : dt48 29 3 = dt4 29 3 := hF50 29 (by decide) 3
    have w62 : dt48 31 3 = dt4 31 3 := hF50 31 (by decide) 3
    have w63 : dt48 33 3 = dt4 33 3 := hF50 33 (by decide) 3
    have w64 : dt48 0 2 = dt4 0 2 := hF50 0 (by decide) 2
    have w65 : dt48 35 1 = dt4 35 1 := hF50 35 (by decide) 1
    have w66 : dt48 81 0 = dt4 81 0 := hF50 81 (by decide) 0
    have w67 : dt48 81 1 = dt4 81 1 := hF50 81 (by decide) 1
    have w68 : dt48 81 2 = dt4 81 2 := hF50 81 (by decide) 2
    have w69 : dt48 81 3 = dt4 81 3 := hF50 81 (by decide) 3
    have w70 : dt48 81 4 = dt4 81 4 := hF50 81 (by decide) 4
    have w71 : dt48 81 5 = dt4 81 5 := hF50 81 (by decide) 5
    have w72 : dt48 79 2 = dt4 79 2 := hF50 79 (by decide) 2
    have w73 : dt48 79 12 = dt4 79 12 := hF50 79 (by decide) 12
    rcases h47 with ⟨rfl, h47⟩ | ⟨v_h47, rfl, h47r, h47⟩
    · skip
      have hM74 : MW (dt48 80) := h47.2.1
      obtain ⟨h47_0, h47_1, h47_2, h47_3, h47_4, h47_5, h47_6, h47_7, h47_8⟩ := h47
      replace h47_0 := hid h47_0
      have M275 : MW (dt48 81) := MW_frk M236 hF50 (by decide)
      have C76 : ∀ j : Nat, dt48 15 j = dt 15 j := fun j => (hF50 15 (by decide) j).trans (C37 j)
      have C77 : ∀ j : Nat, dt48 17 j = dt 17 j := fun j => (hF50 17 (by decide) j).trans (C38 j)
      have C78 : ∀ j : Nat, dt48 32 j = dt 32 j := fun j => (hF50 32 (by decide) j).trans (C39 j)
      have C79 : ∀ j : Nat, dt48 34 j = dt 34 j := fun j => (hF50 34 (by decide) j).trans (C40 j)
      have F80 : ∀ j : Nat, 7340 ≤ j → dt48 81 j = dt 81 j := fun j hj => (hF50 81 (by decide) j).trans (F41 j hj)
      have F81 : ∀ j : Nat, 7340 ≤ j → dt48 80 j = dt 80 j := fun j hj => (h47_8 j hj).trans (F42 j hj)
      have F82 : ∀ j : Nat, dt48 81 j = dt 81 j := fun j => (hF50 81 (by decide) j).trans (F44 j)
      refine go_toq PM267 (k := 2) (pc' := 1435) (L' := [some (.inr (.inr (some 3000))), some (.inr (.inr (some 0))), some (.inr (.inr (some 79))), some (.inl i)]) (st' := []) (w' := (SH, dt48)) rfl ?_
      exact K dt48 hI49 hM74 M275 (by first | (first | omega | (have z0_ := unhid h3_0; have z1_ := unhid h47_0; omega)) | (simp only [*]; done) | simp only [*]) (by (first | omega | (have z0_ := unhid h3_0; have z1_ := unhid h47_0; omega))) (by (first | omega | (have z0_ := unhid h3_0; have z1_ := unhid h47_0; omega))) (by (first | omega | (have z0_ := unhid h3_0; have z1_ := unhid h47_0; omega))) (by (first | omega | (have z0_ := unhid h3_0; have z1_ := unhid h47_0; omega))) (by (first | omega | (have z0_ := unhid h3_0; have z1_ := unhid h47_0; omega))) (by (first | omega | (have z0_ := unhid h3_0; have z1_ := unhid h47_0; omega))) (by (first | omega | (have z0_ := unhid h3_0; have z1_ := unhid h47_0; omega))) (by (first | omega | (have z0_ := unhid h3_0; have z1_ := unhid h47_0; omega))) (by (first | omega | (have z0_ := unhid h3_0; have z1_ := unhid h47_0; omega))) (by (first | omega | (have z0_ := unhid h3_0; have z1_ := unhid h47_0; omega))) (by (first | omega | (have z0_ := unhid h3_0; have z1_ := unhid h47_0; omega))) (by (first | omega | (have z0_ := unhid h3_0; have z1_ := unhid h47_0; omega))) (by (first | omega | (have z0_ := unhid h3_0; have z1_ := unhid h47_0; omega))) (by first | exact hI | exact RW2_k hd0 C76 F81 (by decide) (by (first | omega | (have z0_ := unhid h3_0; have z1_ := unhid h47_0; omega))) | (exfalso; (first | omega | (have z0_ := unhid h3_0; have z1_ := unhid h47_0; omega)))) (by first | exact hI | exact RW2_k hd1 C78 F80 (by decide) (by (first | omega | (have z0_ := unhid h3_0; have z1_ := unhid h47_0; omega))) | (exfalso; (first | omega | (have z0_ := unhid h3_0; have z1_ := unhid h47_0; omega)))) (by first | exact hI | exact RW2_k hd2 C77 F81 (by decide) (by (first | omega | (have z0_ := unhid h3_0; have z1_ := unhid h47_0; omega))) | (exfalso; (first | omega | (have z0_ := unhid h3_0; have z1_ := unhid h47_0; omega)))) (by first | exact hI | exact RW2_k hd3 C79 F80 (by decide) (by (first | omega | (have z0_ := unhid h3_0; have z1_ := unhid h47_0; omega))) | (exfalso; (first | omega | (have z0_ := unhid h3_0; have z1_ := unhid h47_0; omega))))
    · skip
      have hM83 : MW (dt48 80) := h47.2.2.1
      obtain ⟨h47_0, h47_1, h47_2, h47_3, h47_4, h47_5, h47_6, h47_7, h47_8, h47_9, h47_10, h47_11, h47_12⟩ := h47
      have M284 : MW (dt48 81) := MW_frk M236 hF50 (by decide)
      have C85 : ∀ j : Nat, dt48 15 j = dt 15 j := fun j => (hF50 15 (by decide) j).trans (C37 j)
      have C86 : ∀ j : Nat, dt48 17 j = dt 17 j := fun j => (hF50 17 (by decide) j).trans (C38 j)
      have C87 : ∀ j : Nat, dt48 32 j = dt 32 j := fun j => (hF50 32 (by decide) j).trans (C39 j)
      have C88 : ∀ j : Nat, dt48 34 j = dt 34 j := fun j => (hF50 34 (by decide) j).trans (C40 j)
      have F89 : ∀ j : Nat, 7340 ≤ j → dt48 81 j = dt 81 j := fun j hj => (hF50 81 (by decide) j).trans (F41 j hj)
      have E90 : RW2 (dt 17) (dt4 80) (dt4 80 5) 7420 := RW2_k hd2 (fun _ => rfl) F42 (by decide) (by (first | omega | (have z0_ := unhid h3_0; omega)))
      have E91 : RW2 (dt48 17) (dt48 80) (dt48 80 5) 7420 := by exfalso; (first | omega | (have z0_ := unhid h3_0; omega))
      have E92 : RW2 (dt48 15) (dt48 80) (dt48 80 4) 7340 := by intro j hj; rw [C85 j, h47_12 _ (by (first | omega | (have z0_ := unhid h3_0; omega))) (by (first | omega | (have z0_ := unhid h3_0; omega))), F42 _ (by (first | omega | (have z0_ := unhid h3_0; omega)))]; exact hd0 j (by (first | omega | (have z0_ := unhid h3_0; omega)))
      have F93 : ∀ j : Nat, dt48 81 j = dt 81 j := fun j => (hF50 81 (by decide) j).trans (F44 j)
      refine go_toq PM267 (k := 2) (pc' := 1435) (L' := [some (.inr (.inr (some 3000))), some (.inr (.inr (some 0))), some (.inr (.inr (some 79))), some (.inl i)]) (st' := []) (w' := (SH, dt48)) rfl ?_
      exact K dt48 hI49 hM83 M284 (by first | (first | omega | (have z0_ := unhid h3_0; omega)) | (simp only [*]; done) | simp only [*]) (by (first | omega | (have z0_ := unhid h3_0; omega))) (by (first | omega | (have z0_ := unhid h3_0; omega))) (by (first | omega | (have z0_ := unhid h3_0; omega))) (by (first | omega | (have z0_ := unhid h3_0; omega))) (by (first | omega | (have z0_ := unhid h3_0; omega))) (by (first | omega | (have z0_ := unhid h3_0; omega))) (by (first | omega | (have z0_ := unhid h3_0; omega))) (by (first | omega | (have z0_ := unhid h3_0; omega))) (by (first | omega | (have z0_ := unhid h3_0; omega))) (by (first | omega | (have z0_ := unhid h3_0; omega))) (by (first | omega | (have z0_ := unhid h3_0; omega))) (by (first | omega | (have z0_ := unhid h3_0; omega))) (by (first | omega | (have z0_ := unhid h3_0; omega))) (by first | exact E92 | exact RW2_k hd0 C85 hI (by decide) (by (first | omega | (have z0_ := unhid h3_0; omega))) | (exfalso; (first | omega | (have z0_ := unhid h3_0; omega)))) (by first | exact hI | exact RW2_k hd1 C87 F89 (by decide) (by (first | omega | (have z0_ := unhid h3_0; omega))) | (exfalso; (first | omega | (have z0_ := unhid h3_0; omega)))) (by first | exact E91 | exact RW2_k hd2 C86 hI (by decide) (by (first | omega | (have z0_ := unhid h3_0; omega))) | (exfalso; (first | omega | (have z0_ := unhid h3_0; omega)))) (by first | exact hI | exact RW2_k hd3 C88 F89 (by decide) (by (first | omega | (have z0_ := unhid h3_0; omega))) | (exfalso; (first | omega | (have z0_ := unhid h3_0; omega))))
  · skip
    obtain ⟨h3_0, h3_1, h3_2, h3_3, h3_4, h3_5⟩ := h3
    have M294 : MW (dt4 81) := MW_frk hM2 hF6 (by decide)
    have C95 : ∀ j : Nat, dt4 15 j = dt 15 j := fun j => (hF6 15 (by decide) j).trans ((fun _ => rfl) j)
    have C96 : ∀ j : Nat, dt4 32 j = dt 32 j := fun j => (hF6 32 (by decide) j).trans ((fun _ => rfl) j)
    have C97 : ∀ j : Nat, dt4 34 j = dt 34 j := fun j => (hF6 34 (by decide) j).trans ((fun _ => rfl) j)
    have F98 : ∀ j : Nat, 7340 ≤ j → dt4 81 j = dt 81 j := fun j hj => (hF6 81 (by decide) j).trans ((fun _ _ => rfl) j hj)
    have F99 : ∀ j : Nat, 7340 ≤ j → dt4 80 j = dt 80 j := fun j hj => (hF6 80 (by decide) j).trans ((fun _ _ => rfl) j hj)
    have F100 : ∀ j : Nat, dt4 80 j = dt 80 j := fun j => (hF6 80 (by decide) j).trans ((fun _ => rfl) j)
    have F101 : ∀ j : Nat, dt4 81 j = dt 81 j := fun j => (hF6 81 (by decide) j).trans ((fun _ => rfl) j)
    refine go_toq PM267 (k := 6) (pc' := 1185) (L' := [some (.inr (.inr (some 3000))), some (.inr (.inr (some 0))), some (.inr (.inr (some 79))), some (.inl i)]) (st' := [.inl (i + 1), .inr (.inr (some 3000)), .inr (.inr (some 79))]) (w' := (SH, dt4)) rfl ?_
    have r102 := i32_R (xs ((i + 1).toNat))
    refine go_smpq PM267 (L' := [some (.inr (.inr (some 3000))), some (.inr (.inr (some 0))), some (.inr (.inr (some 79))), some (.inl i)]) (st' := [.inl ((xs ((i + 1).toNat)).toInt), .inr (.inr (some 79))]) (w' := (SH, dt4)) rfl rfl (s_iald (n := L) (f := fun j => (xs j).toInt) (am_scr hLL) ⟨by omega, by omega⟩) ?_
    refine go_toq PM267 (k := 4) (pc' := 1190) (L' := [some (.inr (.inr (some 3000))), some (.inr (.inr (some 0))), some (.inr (.inr (some 79))), some (.inl i)]) (st' := [.inl (i + 2), .inr (.inr (some 3000)), .inl ((xs ((i + 1).toNat)).toInt), .inr (.inr (some 79))]) (w' := (SH, dt4)) rfl ?_
    have r103 := i32_R (xs ((i + 2).toNat))
    refine go_smpq PM267 (L' := [some (.inr (.inr (some 3000))), some (.inr (.inr (some 0))), some (.inr (.inr (some 79))), some (.inl i)]) (st' := [.inl ((xs ((i + 2).toNat)).toInt), .inl ((xs ((i + 1).toNat)).toInt), .inr (.inr (some 79))]) (w' := (SH, dt4)) rfl rfl (s_iald (n := L) (f := fun j => (xs j).toInt) (am_scr hLL) ⟨by omega, by omega⟩) ?_
    refine go_callq PM267 PM237 (Q' := _) rfl rfl rfl rfl (sp_X6_house_u L xs sio (d + 37) dt4 hI5 hM8  ((xs ((i + 1).toNat)).toInt) ⟨by omega, by omega⟩ ((xs ((i + 2).toNat)).toInt) ⟨by omega, by omega⟩ ) ?_
    rintro _ _ ⟨dt105, rfl, hI106, hF107, h104⟩
    refine ⟨rfl, ?_⟩
    have hF108 : Fr [0, 1, 2, 3, 4, 5, 6, 7, 8, 9, 10, 11, 12, 13, 14, 15, 16, 17, 18, 19, 20, 21, 22, 23, 24, 25, 26, 27, 28, 29, 30, 31, 32, 33, 34, 35, 36, 37, 38, 39, 40, 41, 42, 43, 44, 45, 46, 47, 48, 49, 50, 51, 52, 53, 54, 55, 56, 57, 58, 59, 60, 61, 62, 63, 64, 65, 66, 67, 68, 69, 70, 71, 72, 73, 74, 75, 76, 77, 78, 79, 80, 81, 82, 83, 84, 85, 86, 87, 88, 89, 90, 91, 92, 93, 94, 95, 96, 97, 98, 99, 100, 101, 102, 103, 104] dt dt105 := Fr_tr hF7 hF107 (by decide)
    have w109 : dt105 1 0 = dt4 1 0 := hF107 1 (by decide) 0
    have w110 : dt105 7 3 = dt4 7 3 := hF107 7 (by decide) 3
    have w111 : dt105 10 3 = dt4 10 3 := hF107 10 (by decide) 3
    have w112 : dt105 12 3 = dt4 12 3 := hF107 12 (by decide) 3
    have w113 : dt105 14 3 = dt4 14 3 := hF107 14 (by decide) 3
    have w114 : dt105 16 3 = dt4 16 3 := hF107 16 (by decide) 3
    have w115 : dt105 18 0 = dt4 18 0 := hF107 18 (by decide) 0
    have w116 : dt105 24 3 = dt4 24 3 := hF107 24 (by decide) 3
    have w117 : dt105 27 3 = dt4 27 3 := hF107 27 (by decide) 3
    have w118 : dt105 29 3 = dt4 29 3 := hF107 29 (by decide) 3
    have w119 : dt105 31 3 = dt4 31 3 := hF107 31 (by decide) 3
    have w120 : dt105 33 3 = dt4 33 3 := hF107 33 (by decide) 3
    have w121 : dt105 0 2 = dt4 0 2 := hF107 0 (by decide) 2
    have w122 : dt105 35 1 = dt4 35 1 := hF107 35 (by decide) 1
    have w123 : dt105 81 0 = dt4 81 0 := hF107 81 (by decide) 0
    have w124 : dt105 81 1 = dt4 81 1 := hF107 81 (by decide) 1
    have w125 : dt105 81 2 = dt4 81 2 := hF107 81 (by decide) 2
    have w126 : dt105 81 3 = dt4 81 3 := hF107 81 (by decide) 3
    have w127 : dt105 81 4 = dt4 81 4 := hF107 81 (by decide) 4
    have w128 : dt105 81 5 = dt4 81 5 := hF107 81 (by decide) 5
    have w129 : dt105 79 2 = dt4 79 2 := hF107 79 (by decide) 2
    have w130 : dt105 79 12 = dt4 79 12 := hF107 79 (by decide) 12
    rcases h104 with ⟨rfl, h104⟩ | ⟨v_h104, rfl, h104r, h104⟩
    · skip
      have hM131 : MW (dt105 80) := h104.2.1
      obtain ⟨h104_0, h104_1, h104_2, h104_3, h104_4, h104_5, h104_6, h104_7, h104_8⟩ := h104
      replace h104_0 := hid h104_0
      have M2132 : MW (dt105 81) := MW_frk M294 hF107 (by decide)
      have C133 : ∀ j : Nat, dt105 15 j = dt 15 j := fun j => (hF107 15 (by decide) j).trans (C95 j)
      have C134 : ∀ j : Nat, (j : Int) < 2 * dt 16 3 → dt105 17 j = dt 17 j := fun j hj => (hF107 17 (by decide) j).trans (h3_3 j hj)
      have C135 := (hF107 17 (by decide) _).trans h3_4
      have C136 := (hF107 17 (by decide) _).trans h3_5
      have C137 : ∀ j : Nat, dt105 32 j = dt 32 j := fun j => (hF107 32 (by decide) j).trans (C96 j)
      have C138 : ∀ j : Nat, dt105 34 j = dt 34 j := fun j => (hF107 34 (by decide) j).trans (C97 j)
      have F139 : ∀ j : Nat, 7340 ≤ j → dt105 81 j = dt 81 j := fun j hj => (hF107 81 (by decide) j).trans (F98 j hj)
      have F140 : ∀ j : Nat, 7340 ≤ j → dt105 80 j = dt 80 j := fun j hj => (h104_8 j hj).trans (F99 j hj)
      have F141 : ∀ j : Nat, dt105 81 j = dt 81 j := fun j => (hF107 81 (by decide) j).trans (F101 j)
      refine go_toq PM267 (k := 2) (pc' := 1435) (L' := [some (.inr (.inr (some 3000))), some (.inr (.inr (some 0))), some (.inr (.inr (some 79))), some (.inl i)]) (st' := []) (w' := (SH, dt105)) rfl ?_
      exact K dt105 hI106 hM131 M2132 (by first | (first | omega | (have z0_ := unhid h104_0; omega)) | (simp only [*]; done) | simp only [*]) (by (first | omega | (have z0_ := unhid h104_0; omega))) (by (first | omega | (have z0_ := unhid h104_0; omega))) (by (first | omega | (have z0_ := unhid h104_0; omega))) (by (first | omega | (have z0_ := unhid h104_0; omega))) (by (first | omega | (have z0_ := unhid h104_0; omega))) (by (first | omega | (have z0_ := unhid h104_0; omega))) (by (first | omega | (have z0_ := unhid h104_0; omega))) (by (first | omega | (have z0_ := unhid h104_0; omega))) (by (first | omega | (have z0_ := unhid h104_0; omega))) (by (first | omega | (have z0_ := unhid h104_0; omega))) (by (first | omega | (have z0_ := unhid h104_0; omega))) (by (first | omega | (have z0_ := unhid h104_0; omega))) (by (first | omega | (have z0_ := unhid h104_0; omega))) (by first | exact hI | exact RW2_k hd0 C133 F140 (by decide) (by (first | omega | (have z0_ := unhid h104_0; omega))) | (exfalso; (first | omega | (have z0_ := unhid h104_0; omega)))) (by first | exact hI | exact RW2_k hd1 C137 F139 (by decide) (by (first | omega | (have z0_ := unhid h104_0; omega))) | (exfalso; (first | omega | (have z0_ := unhid h104_0; omega)))) (by first | exact hI | exact RW2_k hd2 hI F140 (by decide) (by (first | omega | (have z0_ := unhid h104_0; omega))) | (exfalso; (first | omega | (have z0_ := unhid h104_0; omega)))) (by first | exact hI | exact RW2_k hd3 C138 F139 (by decide) (by (first | omega | (have z0_ := unhid h104_0; omega))) | (exfalso; (first | omega | (have z0_ := unhid h104_0; omega))))
    · skip
      have hM142 : MW (dt105 80) := h104.2.2.1
      obtain ⟨h104_0, h104_1, h104_2, h104_3, h104_4, h104_5, h104_6, h104_7, h104_8, h104_9, h104_10, h104_11, h104_12⟩ := h104
      have M2143 : MW (dt105 81) := MW_frk M294 hF107 (by decide)
      have C144 : ∀ j : Nat, dt105 15 j = dt 15 j := fun j => (hF107 15 (by decide) j).trans (C95 j)
      have C145 : ∀ j : Nat, (j : Int) < 2 * dt 16 3 → dt105 17 j = dt 17 j := fun j hj => (hF107 17 (by decide) j).trans (h3_3 j hj)
      have C146 := (hF107 17 (by decide) _).trans h3_4
      have C147 := (hF107 17 (by decide) _).trans h3_5
      have C148 : ∀ j : Nat, dt105 32 j = dt 32 j := fun j => (hF107 32 (by decide) j).trans (C96 j)
      have C149 : ∀ j : Nat, dt105 34 j = dt 34 j := fun j => (hF107 34 (by decide) j).trans (C97 j)
      have F150 : ∀ j : Nat, 7340 ≤ j → dt105 81 j = dt 81 j := fun j hj => (hF107 81 (by decide) j).trans (F98 j hj)
      have E151 : RW2 (dt 17) (dt4 80) (dt4 80 5) 7420 := RW2_k hd2 (fun _ => rfl) F99 (by decide) (by omega)
      have E152 : RW2 (dt105 17) (dt105 80) (dt105 80 5) 7420 := RW2_a (m := dt 16 3) E151 (by omega) (by omega) C145 C146 C147 h104_9 h104_10 h104_11 rfl rfl (by omega)
      have E153 : RW2 (dt105 15) (dt105 80) (dt105 80 4) 7340 := by intro j hj; rw [C144 j, h104_12 _ (by omega) (by omega), F99 _ (by omega)]; exact hd0 j (by omega)
      have F154 : ∀ j : Nat, dt105 81 j = dt 81 j := fun j => (hF107 81 (by decide) j).trans (F101 j)
      refine go_toq PM267 (k := 2) (pc' := 1435) (L' := [some (.inr (.inr (some 3000))), some (.inr (.inr (some 0))), some (.inr (.inr (some 79))), some (.inl i)]) (st' := []) (w' := (SH, dt105)) rfl ?_
      exact K dt105 hI106 hM142 M2143 (by first | omega | (simp only [*]; done) | simp only [*]) (by omega) (by omega) (by omega) (by omega) (by omega) (by omega) (by omega) (by omega) (by omega) (by omega) (by omega) (by omega) (by omega) (by first | exact E153 | exact RW2_k hd0 C144 hI (by decide) (by omega) | (exfalso; omega)) (by first | exact hI | exact RW2_k hd1 C148 F150 (by decide) (by omega) | (exfalso; omega)) (by first | exact E152 | exact RW2_k hd2 hI hI (by decide) (by omega) | (exfalso; omega)) (by first | exact hI | exact RW2_k hd3 C149 F150 (by decide) (by omega) | (exfalso; omega))
set_option maxRecDepth 20000 in
set_option maxHeartbeats 8000000 in
theorem sp_case26 (L : Nat) (xs : Nat → Int32) (sio : Option Nat) (d : Nat) (Q : Option AV → am_W → Prop) (hLL : L ≤ 3072) (i : Int) (hi : 0 ≤ i ∧ i ≤ 3066) (hil : i ≤ (L : Int) - 6) (dt : Nat → Nat → Int) (hI : InvC dt) (hM : MW (dt 80)) (hM2 : MW (dt 81)) (hk0 : dt 1 0 = dt 80 0) (hk1 : dt 7 3 = dt 80 1) (hk2 : dt 10 3 = dt 80 2) (hk3 : dt 12 3 = dt 80 3) (hk4 : dt 14 3 = dt 80 4) (hk5 : dt 16 3 = dt 80 5) (hk6 : dt 18 0 = dt 81 0) (hk7 : dt 24 3 = dt 81 1) (hk8 : dt 27 3 = dt 81 2) (hk9 : dt 29 3 = dt 81 3) (hk10 : dt 31 3 = dt 81 4) (hk11 : dt 33 3 = dt 81 5) (hk12 : dt 0 2 = dt 79 2) (hk13 : dt 35 1 = dt 79 12) (hd0 : RW2 (dt 15) (dt 80) (dt 80 4) 7340) (hd1 : RW2 (dt 32) (dt 81) (dt 81 4) 7340) (hd2 : RW2 (dt 17) (dt 80) (dt 80 5) 7420) (hd3 : RW2 (dt 34) (dt 81) (dt 81 5) 7420) (K : ∀ (dt : Nat → Nat → Int) (hI : InvC dt) (hM : MW (dt 80)) (hM2 : MW (dt 81)) (hk0 : dt 1 0 = dt 80 0) (hk1 : dt 7 3 = dt 80 1) (hk2 : dt 10 3 = dt 80 2) (hk3 : dt 12 3 = dt 80 3) (hk4 : dt 14 3 = dt 80 4) (hk5 : dt 16 3 = dt 80 5) (hk6 : dt 18 0 = dt 81 0) (hk7 : dt 24 3 = dt 81 1) (hk8 : dt 27 3 = dt 81 2) (hk9 : dt 29 3 = dt 81 3) (hk10 : dt 31 3 = dt 81 4) (hk11 : dt 33 3 = dt 81 5) (hk12 : dt 0 2 = dt 79 2) (hk13 : dt 35 1 = dt 79 12) (hd0 : RW2 (dt 15) (dt 80) (dt 80 4) 7340) (hd1 : RW2 (dt 32) (dt 81) (dt 81 4) 7340) (hd2 : RW2 (dt 17) (dt 80) (dt 80 5) 7420) (hd3 : RW2 (dt 34) (dt 81) (dt 81 5) 7420), GO (am_XX L xs sio) (d + 39) 267 1435 [some (.inr (.inr (some 3000))), some (.inr (.inr (some 0))), some (.inr (.inr (some 79))), some (.inl i)] [] (SH, dt) Q) : GO (am_XX L xs sio) (d + 39) 267 1198 [some (.inr (.inr (some 3000))), some (.inr (.inr (some 0))), some (.inr (.inr (some 79))), some (.inl i)] [] (SH, dt) Q := by
  have hF : Fr [0, 1, 2, 3, 4, 5, 6, 7, 8, 9, 10, 11, 12, 13, 14, 15, 16, 17, 18, 19, 20, 21, 22, 23, 24, 25, 26, 27, 28, 29, 30, 31, 32, 33, 34, 35, 36, 37, 38, 39, 40, 41, 42, 43, 44, 45, 46, 47, 48, 49, 50, 51, 52, 53, 54, 55, 56, 57, 58, 59, 60, 61, 62, 63, 64, 65, 66, 67, 68, 69, 70, 71, 72, 73, 74, 75, 76, 77, 78, 79, 80, 81, 82, 83, 84, 85, 86, 87, 88, 89, 90, 91, 92, 93, 94, 95, 96, 97, 98, 99, 100, 101, 102, 103, 104] dt dt := Fr_refl
  have hmn := MW_n hM
  have hmn2 := MW_n hM2
  have r1 : (-2147483648) ≤ dt 1 0 ∧ dt 1 0 ≤ 2147483647 := InvC_get hI 1 0 rfl rfl
  have r2 : 0 ≤ dt 7 3 ∧ dt 7 3 ≤ 12 := InvC_get hI 7 3 rfl rfl
  have r3 : 0 ≤ dt 10 3 ∧ dt 10 3 ≤ 40 := InvC_get hI 10 3 rfl rfl
  have r4 : 0 ≤ dt 12 3 ∧ dt 12 3 ≤ 300 := InvC_get hI 12 3 rfl rfl
  have r5 : 0 ≤ dt 14 3 ∧ dt 14 3 ≤ 40 := InvC_get hI 14 3 rfl rfl
  have r6 : 0 ≤ dt 16 3 ∧ dt 16 3 ≤ 20 := InvC_get hI 16 3 rfl rfl
  have r7 : (-2147483648) ≤ dt 18 0 ∧ dt 18 0 ≤ 2147483647 := InvC_get hI 18 0 rfl rfl
  have r8 : 0 ≤ dt 24 3 ∧ dt 24 3 ≤ 12 := InvC_get hI 24 3 rfl rfl
  have r9 : 0 ≤ dt 27 3 ∧ dt 27 3 ≤ 40 := InvC_get hI 27 3 rfl rfl
  have r10 : 0 ≤ dt 29 3 ∧ dt 29 3 ≤ 300 := InvC_get hI 29 3 rfl rfl
  have r11 : 0 ≤ dt 31 3 ∧ dt 31 3 ≤ 40 := InvC_get hI 31 3 rfl rfl
  have r12 : 0 ≤ dt 33 3 ∧ dt 33 3 ≤ 20 := InvC_get hI 33 3 rfl rfl
  have r13 : 0 ≤ dt 0 2 ∧ dt 0 2 ≤ 1 := InvC_get hI 0 2 rfl rfl
  have r14 : 0 ≤ dt 35 1 ∧ dt 35 1 ≤ 500 := InvC_get hI 35 1 rfl rfl
  have r15 : (-2147483648) ≤ dt 80 0 ∧ dt 80 0 ≤ 2147483647 := InvC_get hI 80 0 rfl rfl
  have r16 : (-2147483648) ≤ dt 80 1 ∧ dt 80 1 ≤ 2147483647 := InvC_get hI 80 1 rfl rfl
  have r17 := MW_n hM
  have r18 : (-2147483648) ≤ dt 80 2 ∧ dt 80 2 ≤ 2147483647 := InvC_get hI 80 2 rfl rfl
  have r19 : (-2147483648) ≤ dt 80 3 ∧ dt 80 3 ≤ 2147483647 := InvC_get hI 80 3 rfl rfl
  have r20 : (-2147483648) ≤ dt 80 4 ∧ dt 80 4 ≤ 2147483647 := InvC_get hI 80 4 rfl rfl
  have r21 : (-2147483648) ≤ dt 80 5 ∧ dt 80 5 ≤ 2147483647 := InvC_get hI 80 5 rfl rfl
  have r22 : (-2147483648) ≤ dt 81 0 ∧ dt 81 0 ≤ 2147483647 := InvC_get hI 81 0 rfl rfl
  have r23 : (-2147483648) ≤ dt 81 1 ∧ dt 81 1 ≤ 2147483647 := InvC_get hI 81 1 rfl rfl
  have r24 : (-2147483648) ≤ dt 81 2 ∧ dt 81 2 ≤ 2147483647 := InvC_get hI 81 2 rfl rfl
  have r25 : (-2147483648) ≤ dt 81 3 ∧ dt 81 3 ≤ 2147483647 := InvC_get hI 81 3 rfl rfl
  have r26 : (-2147483648) ≤ dt 81 4 ∧ dt 81 4 ≤ 2147483647 := InvC_get hI 81 4 rfl rfl
  have r27 : (-2147483648) ≤ dt 81 5 ∧ dt 81 5 ≤ 2147483647 := InvC_get hI 81 5 rfl rfl
  have r28 : 0 ≤ dt 79 2 ∧ dt 79 2 ≤ 1 := InvC_get hI 79 2 rfl rfl
  have r29 : 0 ≤ dt 79 12 ∧ dt 79 12 ≤ 500 := InvC_get hI 79 12 rfl rfl
  refine go_toq PM267 (k := 5) (pc' := 1203) (L' := [some (.inr (.inr (some 3000))), some (.inr (.inr (some 0))), some (.inr (.inr (some 79))), some (.inl i)]) (st' := [.inl (i + 1), .inr (.inr (some 3000)), .inr (.inr (some 0))]) (w' := (SH, dt)) rfl ?_
  have r30 := i32_R (xs ((i + 1).toNat))
  refine go_smpq PM267 (L' := [some (.inr (.inr (some 3000))), some (.inr (.inr (some 0))), some (.inr (.inr (some 79))), some (.inl i)]) (st' := [.inl ((xs ((i + 1).toNat)).toInt), .inr (.inr (some 0))]) (w' := (SH, dt)) rfl rfl (s_iald (n := L) (f := fun j => (xs j).toInt) (am_scr hLL) ⟨by omega, by omega⟩) ?_
  refine go_callq PM267 PM93 (Q' := _) rfl rfl rfl rfl (sp_X5_houses_f L xs sio (d + 34) dt hI  ((xs ((i + 1).toNat)).toInt) ⟨by omega, by omega⟩ (by first | exact True.intro | with_reducible assumption | rfl | omega | trivial | exact hM2 | exact RB_e hd0 hM (by omega) (by omega) | exact RB_h hd2 hM (by omega))) ?_
  rintro _ _ ⟨rfl, h31⟩
  refine ⟨rfl, ?_⟩
  rcases h31 with ⟨v_h31, rfl, h31r, h31⟩
  refine go_toq PM267 (k := 5) (pc' := 1212) (L' := [some (.inr (.inr (some 3000))), some (.inr (.inr (some 0))), some (.inr (.inr (some 79))), some (.inl i)]) (st' := [.inl (i + 1), .inr (.inr (some 3000)), .inr (.inr (some 79)), .inl v_h31]) (w' := (SH, dt)) rfl ?_
  refine go_smpq PM267 (L' := [some (.inr (.inr (some 3000))), some (.inr (.inr (some 0))), some (.inr (.inr (some 79))), some (.inl i)]) (st' := [.inl ((xs ((i + 1).toNat)).toInt), .inr (.inr (some 79)), .inl v_h31]) (w' := (SH, dt)) rfl rfl (s_iald (n := L) (f := fun j => (xs j).toInt) (am_scr hLL) ⟨by omega, by omega⟩) ?_
  refine go_callq PM267 PM239 (Q' := _) rfl rfl rfl rfl (sp_X6_houses_f L xs sio (d + 37) dt hI hM  ((xs ((i + 1).toNat)).toInt) ⟨by omega, by omega⟩ ) ?_
  rintro _ _ ⟨rfl, h32⟩
  refine ⟨rfl, ?_⟩
  rcases h32 with ⟨v_h32, rfl, h32r, h32⟩
  have yq33 : _ := HS_con hd2 (by omega) (m := dt 16 3) (k := ((xs ((i + 1).toNat)).toInt)) (by omega)
  have yw34 : wr v_h31 = wr v_h32 := congrArg wr (by omega)
  have r36 := wr_RR v_h31
  have r37 := wr_RR v_h32
  refine go_ifq PM267 (k := 0) (p1 := 1435) (p2 := 1219) (L' := [some (.inr (.inr (some 3000))), some (.inr (.inr (some 0))), some (.inr (.inr (some 79))), some (.inl i)]) (st' := []) (w' := (SH, dt)) rfl (u_eq (a := wr v_h31) (b := wr v_h32)) (fun c35 => ?_) (fun c35 => ?_)
  · skip
    exact K dt hI hM hM2 (by first | omega | (simp only [*]; done) | simp only [*]) (by omega) (by omega) (by omega) (by omega) (by omega) (by omega) (by omega) (by omega) (by omega) (by omega) (by omega) (by omega) (by omega) (by first | exact hI | exact RW2_k hd0 (fun _ => rfl) (fun _ _ => rfl) (by decide) (by omega) | (exfalso; omega)) (by first | exact hI | exact RW2_k hd1 (fun _ => rfl) (fun _ _ => rfl) (by decide) (by omega) | (exfalso; omega)) (by first | exact hI | exact RW2_k hd2 (fun _ => rfl) (fun _ _ => rfl) (by decide) (by omega) | (exfalso; omega)) (by first | exact hI | exact RW2_k hd3 (fun _ => rfl) (fun _ _ => rfl) (by decide) (by omega) | (exfalso; omega))
  · skip
    exfalso; omega
set_option maxRecDepth 20000 in
set_option maxHeartbeats 8000000 in
theorem sp_case27 (L : Nat) (xs : Nat → Int32) (sio : Option Nat) (d : Nat) (Q : Option AV → am_W → Prop) (hLL : L ≤ 3072) (i : Int) (hi : 0 ≤ i ∧ i ≤ 3066) (hil : i ≤ (L : Int) - 6) (dt : Nat → Nat → Int) (hI : InvC dt) (hM : MW (dt 80)) (hM2 : MW (dt 81)) (hk0 : dt 1 0 = dt 80 0) (hk1 : dt 7 3 = dt 80 1) (hk2 : dt 10 3 = dt 80 2) (hk3 : dt 12 3 = dt 80 3) (hk4 : dt 14 3 = dt 80 4) (hk5 : dt 16 3 = dt 80 5) (hk6 : dt 18 0 = dt 81 0) (hk7 : dt 24 3 = dt 81 1) (hk8 : dt 27 3 = dt 81 2) (hk9 : dt 29 3 = dt 81 3) (hk10 : dt 31 3 = dt 81 4) (hk11 : dt 33 3 = dt 81 5) (hk12 : dt 0 2 = dt 79 2) (hk13 : dt 35 1 = dt 79 12) (hd0 : RW2 (dt 15) (dt 80) (dt 80 4) 7340) (hd1 : RW2 (dt 32) (dt 81) (dt 81 4) 7340) (hd2 : RW2 (dt 17) (dt 80) (dt 80 5) 7420) (hd3 : RW2 (dt 34) (dt 81) (dt 81 5) 7420) (K : ∀ (dt : Nat → Nat → Int) (hI : InvC dt) (hM : MW (dt 80)) (hM2 : MW (dt 81)) (hk0 : dt 1 0 = dt 80 0) (hk1 : dt 7 3 = dt 80 1) (hk2 : dt 10 3 = dt 80 2) (hk3 : dt 12 3 = dt 80 3) (hk4 : dt 14 3 = dt 80 4) (hk5 : dt 16 3 = dt 80 5) (hk6 : dt 18 0 = dt 81 0) (hk7 : dt 24 3 = dt 81 1) (hk8 : dt 27 3 = dt 81 2) (hk9 : dt 29 3 = dt 81 3) (hk10 : dt 31 3 = dt 81 4) (hk11 : dt 33 3 = dt 81 5) (hk12 : dt 0 2 = dt 79 2) (hk13 : dt 35 1 = dt 79 12) (hd0 : RW2 (dt 15) (dt 80) (dt 80 4) 7340) (hd1 : RW2 (dt 32) (dt 81) (dt 81 4) 7340) (hd2 : RW2 (dt 17) (dt 80) (dt 80 5) 7420) (hd3 : RW2 (dt 34) (dt 81) (dt 81 5) 7420), GO (am_XX L xs sio) (d + 39) 267 1435 [some (.inr (.inr (some 3000))), some (.inr (.inr (some 0))), some (.inr (.inr (some 79))), some (.inl i)] [] (SH, dt) Q) : GO (am_XX L xs sio) (d + 39) 267 1221 [some (.inr (.inr (some 3000))), some (.inr (.inr (some 0))), some (.inr (.inr (some 79))), some (.inl i)] [] (SH, dt) Q := by
  have hF : Fr [0, 1, 2, 3, 4, 5, 6, 7, 8, 9, 10, 11, 12, 13, 14, 15, 16, 17, 18, 19, 20, 21, 22, 23, 24, 25, 26, 27, 28, 29, 30, 31, 32, 33, 34, 35, 36, 37, 38, 39, 40, 41, 42, 43, 44, 45, 46, 47, 48, 49, 50, 51, 52, 53, 54, 55, 56, 57, 58, 59, 60, 61, 62, 63, 64, 65, 66, 67, 68, 69, 70, 71, 72, 73, 74, 75, 76, 77, 78, 79, 80, 81, 82, 83, 84, 85, 86, 87, 88, 89, 90, 91, 92, 93, 94, 95, 96, 97, 98, 99, 100, 101, 102, 103, 104] dt dt := Fr_refl
  have hmn := MW_n hM
  have hmn2 := MW_n hM2
  refine go_toq PM267 (k := 5) (pc' := 1226) (L' := [some (.inr (.inr (some 3000))), some (.inr (.inr (some 0))), some (.inr (.inr (some 79))), some (.inl i)]) (st' := [.inl (i + 1), .inr (.inr (some 3000)), .inr (.inr (some 0))]) (w' := (SH, dt)) rfl ?_
  have r1 := i32_R (xs ((i + 1).toNat))
  refine go_smpq PM267 (L' := [some (.inr (.inr (some 3000))), some (.inr (.inr (some 0))), some (.inr (.inr (some 79))), some (.inl i)]) (st' := [.inl ((xs ((i + 1).toNat)).toInt), .inr (.inr (some 0))]) (w' := (SH, dt)) rfl rfl (s_iald (n := L) (f := fun j => (xs j).toInt) (am_scr hLL) ⟨by omega, by omega⟩) ?_
  refine go_toq PM267 (k := 4) (pc' := 1231) (L' := [some (.inr (.inr (some 3000))), some (.inr (.inr (some 0))), some (.inr (.inr (some 79))), some (.inl i)]) (st' := [.inl (i + 2), .inr (.inr (some 3000)), .inl ((xs ((i + 1).toNat)).toInt), .inr (.inr (some 0))]) (w' := (SH, dt)) rfl ?_
  have r2 := i32_R (xs ((i + 2).toNat))
  refine go_smpq PM267 (L' := [some (.inr (.inr (some 3000))), some (.inr (.inr (some 0))), some (.inr (.inr (some 79))), some (.inl i)]) (st' := [.inl ((xs ((i + 2).toNat)).toInt), .inl ((xs ((i + 1).toNat)).toInt), .inr (.inr (some 0))]) (w' := (SH, dt)) rfl rfl (s_iald (n := L) (f := fun j => (xs j).toInt) (am_scr hLL) ⟨by omega, by omega⟩) ?_
  refine go_callq PM267 PM94 (Q' := _) rfl rfl rfl rfl (sp_X5_sorts L xs sio (d + 33) dt hI  ((xs ((i + 1).toNat)).toInt) ⟨by omega, by omega⟩ ((xs ((i + 2).toNat)).toInt) ⟨by omega, by omega⟩ ) ?_
  rintro _ _ ⟨dt4, rfl, hI5, hF6, h3⟩
  refine ⟨rfl, ?_⟩
  have hF7 : Fr [0, 1, 2, 3, 4, 5, 6, 7, 8, 9, 10, 11, 12, 13, 14, 15, 16, 17, 18, 19, 20, 21, 22, 23, 24, 25, 26, 27, 28, 29, 30, 31, 32, 33, 34, 35, 36, 37, 38, 39, 40, 41, 42, 43, 44, 45, 46, 47, 48, 49, 50, 51, 52, 53, 54, 55, 56, 57, 58, 59, 60, 61, 62, 63, 64, 65, 66, 67, 68, 69, 70, 71, 72, 73, 74, 75, 76, 77, 78, 79, 80, 81, 82, 83, 84, 85, 86, 87, 88, 89, 90, 91, 92, 93, 94, 95, 96, 97, 98, 99, 100, 101, 102, 103, 104] dt dt4 := Fr_tr hF hF6 (by decide)
  have hM8 : MW (dt4 80) := MW_fr hM hF6 (by decide)
  have w9 : dt4 1 0 = dt 1 0 := hF6 1 (by decide) 0
  have w10 : dt4 7 3 = dt 7 3 := hF6 7 (by decide) 3
  have w11 : dt4 10 3 = dt 10 3 := hF6 10 (by decide) 3
  have w12 : dt4 12 3 = dt 12 3 := hF6 12 (by decide) 3
  have w13 : dt4 14 3 = dt 14 3 := hF6 14 (by decide) 3
  have w14 : dt4 16 3 = dt 16 3 := hF6 16 (by decide) 3
  have w15 : dt4 18 0 = dt 18 0 := hF6 18 (by decide) 0
  have w16 : dt4 24 3 = dt 24 3 := hF6 24 (by decide) 3
  have w17 : dt4 27 3 = dt 27 3 := hF6 27 (by decide) 3
  have w18 : dt4 29 3 = dt 29 3 := hF6 29 (by decide) 3
  have w19 : dt4 31 3 = dt 31 3 := hF6 31 (by decide) 3
  have w20 : dt4 33 3 = dt 33 3 := hF6 33 (by decide) 3
  have w21 : dt4 0 2 = dt 0 2 := hF6 0 (by decide) 2
  have w22 : dt4 35 1 = dt 35 1 := hF6 35 (by decide) 1
  have w23 : dt4 80 0 = dt 80 0 := hF6 80 (by decide) 0
  have w24 : dt4 80 1 = dt 80 1 := hF6 80 (by decide) 1
  have w25 : dt4 80 2 = dt 80 2 := hF6 80 (by decide) 2
  have w26 : dt4 80 3 = dt 80 3 := hF6 80 (by decide) 3
  have w27 : dt4 80 4 = dt 80 4 := hF6 80 (by decide) 4
  have w28 : dt4 80 5 = dt 80 5 := hF6 80 (by decide) 5
  have w29 : dt4 81 0 = dt 81 0 := hF6 81 (by decide) 0
  have w30 : dt4 81 1 = dt 81 1 := hF6 81 (by decide) 1
  have w31 : dt4 81 2 = dt 81 2 := hF6 81 (by decide) 2
  have w32 : dt4 81 3 = dt 81 3 := hF6 81 (by decide) 3
  have w33 : dt4 81 4 = dt 81 4 := hF6 81 (by decide) 4
  have w34 : dt4 81 5 = dt 81 5 := hF6 81 (by decide) 5
  have w35 : dt4 79 2 = dt 79 2 := hF6 79 (by decide) 2
  have w36 : dt4 79 12 = dt 79 12 := hF6 79 (by decide) 12
  rcases h3 with ⟨v_h3, rfl, h3r, h3⟩
  have M237 : MW (dt4 81) := MW_frk hM2 hF6 (by decide)
  have C38 : ∀ j : Nat, dt4 15 j = dt 15 j := fun j => (hF6 15 (by decide) j).trans ((fun _ => rfl) j)
  have C39 : ∀ j : Nat, dt4 17 j = dt 17 j := fun j => (hF6 17 (by decide) j).trans ((fun _ => rfl) j)
  have C40 : ∀ j : Nat, dt4 32 j = dt 32 j := fun j => (hF6 32 (by decide) j).trans ((fun _ => rfl) j)
  have C41 : ∀ j : Nat, dt4 34 j = dt 34 j := fun j => (hF6 34 (by decide) j).trans ((fun _ => rfl) j)
  have F42 : ∀ j : Nat, 7340 ≤ j → dt4 81 j = dt 81 j := fun j hj => (hF6 81 (by decide) j).trans ((fun _ _ => rfl) j hj)
  have F43 : ∀ j : Nat, 7340 ≤ j → dt4 80 j = dt 80 j := fun j hj => (hF6 80 (by decide) j).trans ((fun _ _ => rfl) j hj)
  have F44 : ∀ j : Nat, dt4 80 j = dt 80 j := fun j => (hF6 80 (by decide) j).trans ((fun _ => rfl) j)
  have F45 : ∀ j : Nat, dt4 81 j = dt 81 j := fun j => (hF6 81 (by decide) j).trans ((fun _ => rfl) j)
  refine go_toq PM267 (k := 6) (pc' := 1241) (L' := [some (.inr (.inr (some 3000))), some (.inr (.inr (some 0))), some (.inr (.inr (some 79))), some (.inl i)]) (st' := [.inl (i + 1), .inr (.inr (some 3000)), .inr (.inr (some 79))]) (w' := (SH, dt4)) rfl ?_
  have r46 := i32_R (xs ((i + 1).toNat))
  refine go_smpq PM267 (L' := [some (.inr (.inr (some 3000))), some (.inr (.inr (some 0))), some (.inr (.inr (some 79))), some (.inl i)]) (st' := [.inl ((xs ((i + 1).toNat)).toInt), .inr (.inr (some 79))]) (w' := (SH, dt4)) rfl rfl (s_iald (n := L) (f := fun j => (xs j).toInt) (am_scr hLL) ⟨by omega, by omega⟩) ?_
  refine go_toq PM267 (k := 4) (pc' := 1246) (L' := [some (.inr (.inr (some 3000))), some (.inr (.inr (some 0))), some (.inr (.inr (some 79))), some (.inl i)]) (st' := [.inl (i + 2), .inr (.inr (some 3000)), .inl ((xs ((i + 1).toNat)).toInt), .inr (.inr (some 79))]) (w' := (SH, dt4)) rfl ?_
  have r47 := i32_R (xs ((i + 2).toNat))
  refine go_smpq PM267 (L' := [some (.inr (.inr (some 3000))), some (.inr (.inr (some 0))), some (.inr (.inr (some 79))), some (.inl i)]) (st' := [.inl ((xs ((i + 2).toNat)).toInt), .inl ((xs ((i + 1).toNat)).toInt), .inr (.inr (some 79))]) (w' := (SH, dt4)) rfl rfl (s_iald (n := L) (f := fun j => (xs j).toInt) (am_scr hLL) ⟨by omega, by omega⟩) ?_
  refine go_callq PM267 PM240 (Q' := _) rfl rfl rfl rfl (sp_X6_sorts L xs sio (d + 31) dt4 hI5 hM8  ((xs ((i + 1).toNat)).toInt) ⟨by omega, by omega⟩ ((xs ((i + 2).toNat)).toInt) ⟨by omega, by omega⟩ ) ?_
  rintro _ _ ⟨dt49, rfl, hI50, hF51, h48⟩
  refine ⟨rfl, ?_⟩
  have hF52 : Fr [0, 1, 2, 3, 4, 5, 6, 7, 8, 9, 10, 11, 12, 13, 14, 15, 16, 17, 18, 19, 20, 21, 22, 23, 24, 25, 26, 27, 28, 29, 30, 31, 32, 33, 34, 35, 36, 37, 38, 39, 40, 41, 42, 43, 44, 45, 46, 47, 48, 49, 50, 51, 52, 53, 54, 55, 56, 57, 58, 59, 60, 61, 62, 63, 64, 65, 66, 67, 68, 69, 70, 71, 72, 73, 74, 75, 76, 77, 78, 79, 80, 81, 82, 83, 84, 85, 86, 87, 88, 89, 90, 91, 92, 93, 94, 95, 96, 97, 98, 99, 100, 101, 102, 103, 104] dt dt49 := Fr_tr hF7 hF51 (by decide)
  have hM53 : MW (dt49 80) := MW_fr hM8 hF51 (by decide)
  have w54 : dt49 1 0 = dt4 1 0 := hF51 1 (by decide) 0
  have w55 : dt49 7 3 = dt4 7 3 := hF51 7 (by decide) 3
  have w56 : dt49 10 3 = dt4 10 3 := hF51 10 (by decide) 3
  have w57 : dt49 12 3 = dt4 12 3 := hF51 12 (by decide) 3
  have w58 : dt49 14 3 = dt4 14 3 := hF51 14 (by decide) 3
  have w59 : dt49 16 3 = dt4 16 3 := hF51 16 (by decide) 3
  have w60 : dt49 18 0 = dt4 18 0 := hF51 18 (by decide) 0
  have w61 : dt49 24 3 = dt4 24 3 := hF51 24 (by decide) 3
  have w62 : dt49 27 3 = dt4 27 3 := hF51 27 (by decide) 3
  have w63 : dt49 29 3 = dt4 29 3 := hF51 29 (by decide) 3
  have w64 : dt49 31 3 = dt4 31 3 := hF51 31 (by decide) 3
  have w65 : dt49 33 3 = dt4 33 3 := hF51 33 (by decide) 3
  have w66 : dt49 0 2 = dt4 0 2 := hF51 0 (by decide) 2
  have w67 : dt49 35 1 = dt4 35 1 := hF51 35 (by decide) 1
  have w68 : dt49 80 0 = dt4 80 0 := hF51 80 (by decide) 0
  have w69 : dt49 80 1 = dt4 80 1 := hF51 80 (by decide) 1
  have w70 : dt49 80 2 = dt4 80 2 := hF51 80 (by decide) 2
  have w71 : dt49 80 3 = dt4 80 3 := hF51 80 (by decide) 3
  have w72 : dt49 80 4 = dt4 80 4 := hF51 80 (by decide) 4
  have w73 : dt49 80 5 = dt4 80 5 := hF51 80 (by decide) 5
  have w74 : dt49 81 0 = dt4 81 0 := hF51 81 (by decide) 0
  have w75 : dt49 81 1 = dt4 81 1 := hF51 81 (by decide) 1
  have w76 : dt49 81 2 = dt4 81 2 := hF51 81 (by decide) 2
  have w77 : dt49 81 3 = dt4 81 3 := hF51 81 (by decide) 3
  have w78 : dt49 81 4 = dt4 81 4 := hF51 81 (by decide) 4
  have w79 : dt49 81 5 = dt4 81 5 := hF51 81 (by decide) 5
  have w80 : dt49 79 2 = dt4 79 2 := hF51 79 (by decide) 2
  have w81 : dt49 79 12 = dt4 79 12 := hF51 79 (by decide) 12
  rcases h48 with ⟨v_h48, rfl, h48r, h48⟩
  have M282 : MW (dt49 81) := MW_frk M237 hF51 (by decide)
  have C83 : ∀ j : Nat, dt49 15 j = dt 15 j := fun j => (hF51 15 (by decide) j).trans (C38 j)
  have C84 : ∀ j : Nat, dt49 17 j = dt 17 j := fun j => (hF51 17 (by decide) j).trans (C39 j)
  have C85 : ∀ j : Nat, dt49 32 j = dt 32 j := fun j => (hF51 32 (by decide) j).trans (C40 j)
  have C86 : ∀ j : Nat, dt49 34 j = dt 34 j := fun j => (hF51 34 (by decide) j).trans (C41 j)
  have F87 : ∀ j : Nat, 7340 ≤ j → dt49 81 j = dt 81 j := fun j hj => (hF51 81 (by decide) j).trans (F42 j hj)
  have F88 : ∀ j : Nat, 7340 ≤ j → dt49 80 j = dt 80 j := fun j hj => (hF51 80 (by decide) j).trans (F43 j hj)
  have F89 : ∀ j : Nat, dt49 80 j = dt 80 j := fun j => (hF51 80 (by decide) j).trans (F44 j)
  have F90 : ∀ j : Nat, dt49 81 j = dt 81 j := fun j => (hF51 81 (by decide) j).trans (F45 j)
  refine go_toq PM267 (k := 2) (pc' := 1435) (L' := [some (.inr (.inr (some 3000))), some (.inr (.inr (some 0))), some (.inr (.inr (some 79))), some (.inl i)]) (st' := []) (w' := (SH, dt49)) rfl ?_
  exact K dt49 hI50 hM53 M282 (by first | omega | (simp only [*]; done) | simp only [*]) (by omega) (by omega) (by omega) (by omega) (by omega) (by omega) (by omega) (by omega) (by omega) (by omega) (by omega) (by omega) (by omega) (by first | exact hI | exact RW2_k hd0 C83 F88 (by decide) (by omega) | (exfalso; omega)) (by first | exact hI | exact RW2_k hd1 C85 F87 (by decide) (by omega) | (exfalso; omega)) (by first | exact hI | exact RW2_k hd2 C84 F88 (by decide) (by omega) | (exfalso; omega)) (by first | exact hI | exact RW2_k hd3 C86 F87 (by decide) (by omega) | (exfalso; omega))
set_option maxRecDepth 20000 in
set_option maxHeartbeats 8000000 in
theorem sp_case28 (L : Nat) (xs : Nat → Int32) (sio : Option Nat) (d : Nat) (Q : Option AV → am_W → Prop) (hLL : L ≤ 3072) (i : Int) (hi : 0 ≤ i ∧ i ≤ 3066) (hil : i ≤ (L : Int) - 6) (dt : Nat → Nat → Int) (hI : InvC dt) (hM : MW (dt 80)) (hM2 : MW (dt 81)) (hk0 : dt 1 0 = dt 80 0) (hk1 : dt 7 3 = dt 80 1) (hk2 : dt 10 3 = dt 80 2) (hk3 : dt 12 3 = dt 80 3) (hk4 : dt 14 3 = dt 80 4) (hk5 : dt 16 3 = dt 80 5) (hk6 : dt 18 0 = dt 81 0) (hk7 : dt 24 3 = dt 81 1) (hk8 : dt 27 3 = dt 81 2) (hk9 : dt 29 3 = dt 81 3) (hk10 : dt 31 3 = dt 81 4) (hk11 : dt 33 3 = dt 81 5) (hk12 : dt 0 2 = dt 79 2) (hk13 : dt 35 1 = dt 79 12) (hd0 : RW2 (dt 15) (dt 80) (dt 80 4) 7340) (hd1 : RW2 (dt 32) (dt 81) (dt 81 4) 7340) (hd2 : RW2 (dt 17) (dt 80) (dt 80 5) 7420) (hd3 : RW2 (dt 34) (dt 81) (dt 81 5) 7420) (K : ∀ (dt : Nat → Nat → Int) (hI : InvC dt) (hM : MW (dt 80)) (hM2 : MW (dt 81)) (hk0 : dt 1 0 = dt 80 0) (hk1 : dt 7 3 = dt 80 1) (hk2 : dt 10 3 = dt 80 2) (hk3 : dt 12 3 = dt 80 3) (hk4 : dt 14 3 = dt 80 4) (hk5 : dt 16 3 = dt 80 5) (hk6 : dt 18 0 = dt 81 0) (hk7 : dt 24 3 = dt 81 1) (hk8 : dt 27 3 = dt 81 2) (hk9 : dt 29 3 = dt 81 3) (hk10 : dt 31 3 = dt 81 4) (hk11 : dt 33 3 = dt 81 5) (hk12 : dt 0 2 = dt 79 2) (hk13 : dt 35 1 = dt 79 12) (hd0 : RW2 (dt 15) (dt 80) (dt 80 4) 7340) (hd1 : RW2 (dt 32) (dt 81) (dt 81 4) 7340) (hd2 : RW2 (dt 17) (dt 80) (dt 80 5) 7420) (hd3 : RW2 (dt 34) (dt 81) (dt 81 5) 7420), GO (am_XX L xs sio) (d + 39) 267 1435 [some (.inr (.inr (some 3000))), some (.inr (.inr (some 0))), some (.inr (.inr (some 79))), some (.inl i)] [] (SH, dt) Q) : GO (am_XX L xs sio) (d + 39) 267 1254 [some (.inr (.inr (some 3000))), some (.inr (.inr (some 0))), some (.inr (.inr (some 79))), some (.inl i)] [] (SH, dt) Q := by
  have hF : Fr [0, 1, 2, 3, 4, 5, 6, 7, 8, 9, 10, 11, 12, 13, 14, 15, 16, 17, 18, 19, 20, 21, 22, 23, 24, 25, 26, 27, 28, 29, 30, 31, 32, 33, 34, 35, 36, 37, 38, 39, 40, 41, 42, 43, 44, 45, 46, 47, 48, 49, 50, 51, 52, 53, 54, 55, 56, 57, 58, 59, 60, 61, 62, 63, 64, 65, 66, 67, 68, 69, 70, 71, 72, 73, 74, 75, 76, 77, 78, 79, 80, 81, 82, 83, 84, 85, 86, 87, 88, 89, 90, 91, 92, 93, 94, 95, 96, 97, 98, 99, 100, 101, 102, 103, 104] dt dt := Fr_refl
  have hmn := MW_n hM
  have hmn2 := MW_n hM2
  refine go_toq PM267 (k := 5) (pc' := 1259) (L' := [some (.inr (.inr (some 3000))), some (.inr (.inr (some 0))), some (.inr (.inr (some 79))), some (.inl i)]) (st' := [.inl (i + 1), .inr (.inr (some 3000)), .inr (.inr (some 0))]) (w' := (SH, dt)) rfl ?_
  have r1 := i32_R (xs ((i + 1).toNat))
  refine go_smpq PM267 (L' := [some (.inr (.inr (some 3000))), some (.inr (.inr (some 0))), some (.inr (.inr (some 79))), some (.inl i)]) (st' := [.inl ((xs ((i + 1).toNat)).toInt), .inr (.inr (some 0))]) (w' := (SH, dt)) rfl rfl (s_iald (n := L) (f := fun j => (xs j).toInt) (am_scr hLL) ⟨by omega, by omega⟩) ?_
  refine go_toq PM267 (k := 4) (pc' := 1264) (L' := [some (.inr (.inr (some 3000))), some (.inr (.inr (some 0))), some (.inr (.inr (some 79))), some (.inl i)]) (st' := [.inl (i + 2), .inr (.inr (some 3000)), .inl ((xs ((i + 1).toNat)).toInt), .inr (.inr (some 0))]) (w' := (SH, dt)) rfl ?_
  have r2 := i32_R (xs ((i + 2).toNat))
  refine go_smpq PM267 (L' := [some (.inr (.inr (some 3000))), some (.inr (.inr (some 0))), some (.inr (.inr (some 79))), some (.inl i)]) (st' := [.inl ((xs ((i + 2).toNat)).toInt), .inl ((xs ((i + 1).toNat)).toInt), .inr (.inr (some 0))]) (w' := (SH, dt)) rfl rfl (s_iald (n := L) (f := fun j => (xs j).toInt) (am_scr hLL) ⟨by omega, by omega⟩) ?_
  refine go_callq PM267 PM95 (Q' := _) rfl rfl rfl rfl (sp_X5_curve L xs sio (d + 33) dt hI  ((xs ((i + 1).toNat)).toInt) ⟨by omega, by omega⟩ ((xs ((i + 2).toNat)).toInt) ⟨by omega, by omega⟩ ) ?_
  rintro _ _ ⟨dt4, rfl, hI5, hF6, h3⟩
  refine ⟨rfl, ?_⟩
  have hF7 : Fr [0, 1, 2, 3, 4, 5, 6, 7, 8, 9, 10, 11, 12, 13, 14, 15, 16, 17, 18, 19, 20, 21, 22, 23, 24, 25, 26, 27, 28, 29, 30, 31, 32, 33, 34, 35, 36, 37, 38, 39, 40, 41, 42, 43, 44, 45, 46, 47, 48, 49, 50, 51, 52, 53, 54, 55, 56, 57, 58, 59, 60, 61, 62, 63, 64, 65, 66, 67, 68, 69, 70, 71, 72, 73, 74, 75, 76, 77, 78, 79, 80, 81, 82, 83, 84, 85, 86, 87, 88, 89, 90, 91, 92, 93, 94, 95, 96, 97, 98, 99, 100, 101, 102, 103, 104] dt dt4 := Fr_tr hF hF6 (by decide)
  have hM8 : MW (dt4 80) := MW_fr hM hF6 (by decide)
  have w9 : dt4 1 0 = dt 1 0 := hF6 1 (by decide) 0
  have w10 : dt4 7 3 = dt 7 3 := hF6 7 (by decide) 3
  have w11 : dt4 10 3 = dt 10 3 := hF6 10 (by decide) 3
  have w12 : dt4 12 3 = dt 12 3 := hF6 12 (by decide) 3
  have w13 : dt4 14 3 = dt 14 3 := hF6 14 (by decide) 3
  have w14 : dt4 16 3 = dt 16 3 := hF6 16 (by decide) 3
  have w15 : dt4 18 0 = dt 18 0 := hF6 18 (by decide) 0
  have w16 : dt4 24 3 = dt 24 3 := hF6 24 (by decide) 3
  have w17 : dt4 27 3 = dt 27 3 := hF6 27 (by decide) 3
  have w18 : dt4 29 3 = dt 29 3 := hF6 29 (by decide) 3
  have w19 : dt4 31 3 = dt 31 3 := hF6 31 (by decide) 3
  have w20 : dt4 33 3 = dt 33 3 := hF6 33 (by decide) 3
  have w21 : dt4 0 2 = dt 0 2 := hF6 0 (by decide) 2
  have w22 : dt4 35 1 = dt 35 1 := hF6 35 (by decide) 1
  have w23 : dt4 80 0 = dt 80 0 := hF6 80 (by decide) 0
  have w24 : dt4 80 1 = dt 80 1 := hF6 80 (by decide) 1
  have w25 : dt4 80 2 = dt 80 2 := hF6 80 (by decide) 2
  have w26 : dt4 80 3 = dt 80 3 := hF6 80 (by decide) 3
  have w27 : dt4 80 4 = dt 80 4 := hF6 80 (by decide) 4
  have w28 : dt4 80 5 = dt 80 5 := hF6 80 (by decide) 5
  have w29 : dt4 81 0 = dt 81 0 := hF6 81 (by decide) 0
  have w30 : dt4 81 1 = dt 81 1 := hF6 81 (by decide) 1
  have w31 : dt4 81 2 = dt 81 2 := hF6 81 (by decide) 2
  have w32 : dt4 81 3 = dt 81 3 := hF6 81 (by decide) 3
  have w33 : dt4 81 4 = dt 81 4 := hF6 81 (by decide) 4
  have w34 : dt4 81 5 = dt 81 5 := hF6 81 (by decide) 5
  have w35 : dt4 79 2 = dt 79 2 := hF6 79 (by decide) 2
  have w36 : dt4 79 12 = dt 79 12 := hF6 79 (by decide) 12
  rcases h3 with ⟨v_h3, rfl, h3r, h3⟩
  have M237 : MW (dt4 81) := MW_frk hM2 hF6 (by decide)
  have C38 : ∀ j : Nat, dt4 15 j = dt 15 j := fun j => (hF6 15 (by decide) j).trans ((fun _ => rfl) j)
  have C39 : ∀ j : Nat, dt4 17 j = dt 17 j := fun j => (hF6 17 (by decide) j).trans ((fun _ => rfl) j)
  have C40 : ∀ j : Nat, dt4 32 j = dt 32 j := fun j => (hF6 32 (by decide) j).trans ((fun _ => rfl) j)
  have C41 : ∀ j : Nat, dt4 34 j = dt 34 j := fun j => (hF6 34 (by decide) j).trans ((fun _ => rfl) j)
  have F42 : ∀ j : Nat, 7340 ≤ j → dt4 81 j = dt 81 j := fun j hj => (hF6 81 (by decide) j).trans ((fun _ _ => rfl) j hj)
  have F43 : ∀ j : Nat, 7340 ≤ j → dt4 80 j = dt 80 j := fun j hj => (hF6 80 (by decide) j).trans ((fun _ _ => rfl) j hj)
  have F44 : ∀ j : Nat, dt4 80 j = dt 80 j := fun j => (hF6 80 (by decide) j).trans ((fun _ => rfl) j)
  have F45 : ∀ j : Nat, dt4 81 j = dt 81 j := fun j => (hF6 81 (by decide) j).trans ((fun _ => rfl) j)
  refine go_toq PM267 (k := 6) (pc' := 1274) (L' := [some (.inr (.inr (some 3000))), some (.inr (.inr (some 0))), some (.inr (.inr (some 79))), some (.inl i)]) (st' := [.inl (i + 1), .inr (.inr (some 3000)), .inr (.inr (some 79))]) (w' := (SH, dt4)) rfl ?_
  have r46 := i32_R (xs ((i + 1).toNat))
  refine go_smpq PM267 (L' := [some (.inr (.inr (some 3000))), some (.inr (.inr (some 0))), some (.inr (.inr (some 79))), some (.inl i)]) (st' := [.inl ((xs ((i + 1).toNat)).toInt), .inr (.inr (some 79))]) (w' := (SH, dt4)) rfl rfl (s_iald (n := L) (f := fun j => (xs j).toInt) (am_scr hLL) ⟨by omega, by omega⟩) ?_
  refine go_toq PM267 (k := 4) (pc' := 1279) (L' := [some (.inr (.inr (some 3000))), some (.inr (.inr (some 0))), some (.inr (.inr (some 79))), some (.inl i)]) (st' := [.inl (i + 2), .inr (.inr (some 3000)), .inl ((xs ((i + 1).toNat)).toInt), .inr (.inr (some 79))]) (w' := (SH, dt4)) rfl ?_
  have r47 := i32_R (xs ((i + 2).toNat))
  refine go_smpq PM267 (L' := [some (.inr (.inr (some 3000))), some (.inr (.inr (some 0))), some (.inr (.inr (some 79))), some (.inl i)]) (st' := [.inl ((xs ((i + 2).toNat)).toInt), .inl ((xs ((i + 1).toNat)).toInt), .inr (.inr (some 79))]) (w' := (SH, dt4)) rfl rfl (s_iald (n := L) (f := fun j => (xs j).toInt) (am_scr hLL) ⟨by omega, by omega⟩) ?_
  refine go_callq PM267 PM242 (Q' := _) rfl rfl rfl rfl (sp_X6_curve_k L xs sio (d + 30) dt4 hI5 hM8  ((xs ((i + 1).toNat)).toInt) ⟨by omega, by omega⟩ ((xs ((i + 2).toNat)).toInt) ⟨by omega, by omega⟩ ) ?_
  rintro _ _ ⟨dt49, rfl, hI50, hF51, h48⟩
  refine ⟨rfl, ?_⟩
  have hF52 : Fr [0, 1, 2, 3, 4, 5, 6, 7, 8, 9, 10, 11, 12, 13, 14, 15, 16, 17, 18, 19, 20, 21, 22, 23, 24, 25, 26, 27, 28, 29, 30, 31, 32, 33, 34, 35, 36, 37, 38, 39, 40, 41, 42, 43, 44, 45, 46, 47, 48, 49, 50, 51, 52, 53, 54, 55, 56, 57, 58, 59, 60, 61, 62, 63, 64, 65, 66, 67, 68, 69, 70, 71, 72, 73, 74, 75, 76, 77, 78, 79, 80, 81, 82, 83, 84, 85, 86, 87, 88, 89, 90, 91, 92, 93, 94, 95, 96, 97, 98, 99, 100, 101, 102, 103, 104] dt dt49 := Fr_tr hF7 hF51 (by decide)
  have hM53 : MW (dt49 80) := MW_fr hM8 hF51 (by decide)
  have w54 : dt49 1 0 = dt4 1 0 := hF51 1 (by decide) 0
  have w55 : dt49 7 3 = dt4 7 3 := hF51 7 (by decide) 3
  have w56 : dt49 10 3 = dt4 10 3 := hF51 10 (by decide) 3
  have w57 : dt49 12 3 = dt4 12 3 := hF51 12 (by decide) 3
  have w58 : dt49 14 3 = dt4 14 3 := hF51 14 (by decide) 3
  have w59 : dt49 16 3 = dt4 16 3 := hF51 16 (by decide) 3
  have w60 : dt49 18 0 = dt4 18 0 := hF51 18 (by decide) 0
  have w61 : dt49 24 3 = dt4 24 3 := hF51 24 (by decide) 3
  have w62 : dt49 27 3 = dt4 27 3 := hF51 27 (by decide) 3
  have w63 : dt49 29 3 = dt4 29 3 := hF51 29 (by decide) 3
  have w64 : dt49 31 3 = dt4 31 3 := hF51 31 (by decide) 3
  have w65 : dt49 33 3 = dt4 33 3 := hF51 33 (by decide) 3
  have w66 : dt49 0 2 = dt4 0 2 := hF51 0 (by decide) 2
  have w67 : dt49 35 1 = dt4 35 1 := hF51 35 (by decide) 1
  have w68 : dt49 80 0 = dt4 80 0 := hF51 80 (by decide) 0
  have w69 : dt49 80 1 = dt4 80 1 := hF51 80 (by decide) 1
  have w70 : dt49 80 2 = dt4 80 2 := hF51 80 (by decide) 2
  have w71 : dt49 80 3 = dt4 80 3 := hF51 80 (by decide) 3
  have w72 : dt49 80 4 = dt4 80 4 := hF51 80 (by decide) 4
  have w73 : dt49 80 5 = dt4 80 5 := hF51 80 (by decide) 5
  have w74 : dt49 81 0 = dt4 81 0 := hF51 81 (by decide) 0
  have w75 : dt49 81 1 = dt4 81 1 := hF51 81 (by decide) 1
  have w76 : dt49 81 2 = dt4 81 2 := hF51 81 (by decide) 2
  have w77 : dt49 81 3 = dt4 81 3 := hF51 81 (by decide) 3
  have w78 : dt49 81 4 = dt4 81 4 := hF51 81 (by decide) 4
  have w79 : dt49 81 5 = dt4 81 5 := hF51 81 (by decide) 5
  rcases h48 with ⟨v_h48, rfl, h48r, h48⟩
  obtain ⟨h48_0, h48_1⟩ := h48
  have M280 : MW (dt49 81) := MW_frk M237 hF51 (by decide)
  have C81 : ∀ j : Nat, dt49 15 j = dt 15 j := fun j => (hF51 15 (by decide) j).trans (C38 j)
  have C82 : ∀ j : Nat, dt49 17 j = dt 17 j := fun j => (hF51 17 (by decide) j).trans (C39 j)
  have C83 : ∀ j : Nat, dt49 32 j = dt 32 j := fun j => (hF51 32 (by decide) j).trans (C40 j)
  have C84 : ∀ j : Nat, dt49 34 j = dt 34 j := fun j => (hF51 34 (by decide) j).trans (C41 j)
  have F85 : ∀ j : Nat, 7340 ≤ j → dt49 81 j = dt 81 j := fun j hj => (hF51 81 (by decide) j).trans (F42 j hj)
  have F86 : ∀ j : Nat, 7340 ≤ j → dt49 80 j = dt 80 j := fun j hj => (hF51 80 (by decide) j).trans (F43 j hj)
  have F87 : ∀ j : Nat, dt49 80 j = dt 80 j := fun j => (hF51 80 (by decide) j).trans (F44 j)
  have F88 : ∀ j : Nat, dt49 81 j = dt 81 j := fun j => (hF51 81 (by decide) j).trans (F45 j)
  refine go_toq PM267 (k := 2) (pc' := 1435) (L' := [some (.inr (.inr (some 3000))), some (.inr (.inr (some 0))), some (.inr (.inr (some 79))), some (.inl i)]) (st' := []) (w' := (SH, dt49)) rfl ?_
  exact K dt49 hI50 hM53 M280 (by first | omega | (simp only [*]; done) | simp only [*]) (by omega) (by omega) (by omega) (by omega) (by omega) (by omega) (by omega) (by omega) (by omega) (by omega) (by omega) (by omega) (by omega) (by first | exact hI | exact RW2_k hd0 C81 F86 (by decide) (by omega) | (exfalso; omega)) (by first | exact hI | exact RW2_k hd1 C83 F85 (by decide) (by omega) | (exfalso; omega)) (by first | exact hI | exact RW2_k hd2 C82 F86 (by decide) (by omega) | (exfalso; omega)) (by first | exact hI | exact RW2_k hd3 C84 F85 (by decide) (by omega) | (exfalso; omega))
set_option maxRecDepth 20000 in
set_option maxHeartbeats 8000000 in
theorem sp_case29 (L : Nat) (xs : Nat → Int32) (sio : Option Nat) (d : Nat) (Q : Option AV → am_W → Prop) (hLL : L ≤ 3072) (i : Int) (hi : 0 ≤ i ∧ i ≤ 3066) (hil : i ≤ (L : Int) - 6) (dt : Nat → Nat → Int) (hI : InvC dt) (hM : MW (dt 80)) (hM2 : MW (dt 81)) (hk0 : dt 1 0 = dt 80 0) (hk1 : dt 7 3 = dt 80 1) (hk2 : dt 10 3 = dt 80 2) (hk3 : dt 12 3 = dt 80 3) (hk4 : dt 14 3 = dt 80 4) (hk5 : dt 16 3 = dt 80 5) (hk6 : dt 18 0 = dt 81 0) (hk7 : dt 24 3 = dt 81 1) (hk8 : dt 27 3 = dt 81 2) (hk9 : dt 29 3 = dt 81 3) (hk10 : dt 31 3 = dt 81 4) (hk11 : dt 33 3 = dt 81 5) (hk12 : dt 0 2 = dt 79 2) (hk13 : dt 35 1 = dt 79 12) (hd0 : RW2 (dt 15) (dt 80) (dt 80 4) 7340) (hd1 : RW2 (dt 32) (dt 81) (dt 81 4) 7340) (hd2 : RW2 (dt 17) (dt 80) (dt 80 5) 7420) (hd3 : RW2 (dt 34) (dt 81) (dt 81 5) 7420) (K : ∀ (dt : Nat → Nat → Int) (hI : InvC dt) (hM : MW (dt 80)) (hM2 : MW (dt 81)) (hk0 : dt 1 0 = dt 80 0) (hk1 : dt 7 3 = dt 80 1) (hk2 : dt 10 3 = dt 80 2) (hk3 : dt 12 3 = dt 80 3) (hk4 : dt 14 3 = dt 80 4) (hk5 : dt 16 3 = dt 80 5) (hk6 : dt 18 0 = dt 81 0) (hk7 : dt 24 3 = dt 81 1) (hk8 : dt 27 3 = dt 81 2) (hk9 : dt 29 3 = dt 81 3) (hk10 : dt 31 3 = dt 81 4) (hk11 : dt 33 3 = dt 81 5) (hk12 : dt 0 2 = dt 79 2) (hk13 : dt 35 1 = dt 79 12) (hd0 : RW2 (dt 15) (dt 80) (dt 80 4) 7340) (hd1 : RW2 (dt 32) (dt 81) (dt 81 4) 7340) (hd2 : RW2 (dt 17) (dt 80) (dt 80 5) 7420) (hd3 : RW2 (dt 34) (dt 81) (dt 81 5) 7420), GO (am_XX L xs sio) (d + 39) 267 1435 [some (.inr (.inr (some 3000))), some (.inr (.inr (some 0))), some (.inr (.inr (some 79))), some (.inl i)] [] (SH, dt) Q) : GO (am_XX L xs sio) (d + 39) 267 1287 [some (.inr (.inr (some 3000))), some (.inr (.inr (some 0))), some (.inr (.inr (some 79))), some (.inl i)] [] (SH, dt) Q := by
  have hF : Fr [0, 1, 2, 3, 4, 5, 6, 7, 8, 9, 10, 11, 12, 13, 14, 15, 16, 17, 18, 19, 20, 21, 22, 23, 24, 25, 26, 27, 28, 29, 30, 31, 32, 33, 34, 35, 36, 37, 38, 39, 40, 41, 42, 43, 44, 45, 46, 47, 48, 49, 50, 51, 52, 53, 54, 55, 56, 57, 58, 59, 60, 61, 62, 63, 64, 65, 66, 67, 68, 69, 70, 71, 72, 73, 74, 75, 76, 77, 78, 79, 80, 81, 82, 83, 84, 85, 86, 87, 88, 89, 90, 91, 92, 93, 94, 95, 96, 97, 98, 99, 100, 101, 102, 103, 104] dt dt := Fr_refl
  have hmn := MW_n hM
  have hmn2 := MW_n hM2
  refine go_toq PM267 (k := 5) (pc' := 1292) (L' := [some (.inr (.inr (some 3000))), some (.inr (.inr (some 0))), some (.inr (.inr (some 79))), some (.inl i)]) (st' := [.inl (i + 1), .inr (.inr (some 3000)), .inr (.inr (some 0))]) (w' := (SH, dt)) rfl ?_
  have r1 := i32_R (xs ((i + 1).toNat))
  refine go_smpq PM267 (L' := [some (.inr (.inr (some 3000))), some (.inr (.inr (some 0))), some (.inr (.inr (some 79))), some (.inl i)]) (st' := [.inl ((xs ((i + 1).toNat)).toInt), .inr (.inr (some 0))]) (w' := (SH, dt)) rfl rfl (s_iald (n := L) (f := fun j => (xs j).toInt) (am_scr hLL) ⟨by omega, by omega⟩) ?_
  refine go_callq PM267 PM96 (Q' := _) rfl rfl rfl rfl (sp_X5_score L xs sio (d + 32) dt hI  ((xs ((i + 1).toNat)).toInt) ⟨by omega, by omega⟩ ) ?_
  rintro _ _ ⟨dt3, rfl, hI4, hF5, h2⟩
  refine ⟨rfl, ?_⟩
  have hF6 : Fr [0, 1, 2, 3, 4, 5, 6, 7, 8, 9, 10, 11, 12, 13, 14, 15, 16, 17, 18, 19, 20, 21, 22, 23, 24, 25, 26, 27, 28, 29, 30, 31, 32, 33, 34, 35, 36, 37, 38, 39, 40, 41, 42, 43, 44, 45, 46, 47, 48, 49, 50, 51, 52, 53, 54, 55, 56, 57, 58, 59, 60, 61, 62, 63, 64, 65, 66, 67, 68, 69, 70, 71, 72, 73, 74, 75, 76, 77, 78, 79, 80, 81, 82, 83, 84, 85, 86, 87, 88, 89, 90, 91, 92, 93, 94, 95, 96, 97, 98, 99, 100, 101, 102, 103, 104] dt dt3 := Fr_tr hF hF5 (by decide)
  have hM7 : MW (dt3 80) := MW_fr hM hF5 (by decide)
  have w8 : dt3 1 0 = dt 1 0 := hF5 1 (by decide) 0
  have w9 : dt3 7 3 = dt 7 3 := hF5 7 (by decide) 3
  have w10 : dt3 10 3 = dt 10 3 := hF5 10 (by decide) 3
  have w11 : dt3 12 3 = dt 12 3 := hF5 12 (by decide) 3
  have w12 : dt3 14 3 = dt 14 3 := hF5 14 (by decide) 3
  have w13 : dt3 16 3 = dt 16 3 := hF5 16 (by decide) 3
  have w14 : dt3 18 0 = dt 18 0 := hF5 18 (by decide) 0
  have w15 : dt3 24 3 = dt 24 3 := hF5 24 (by decide) 3
  have w16 : dt3 27 3 = dt 27 3 := hF5 27 (by decide) 3
  have w17 : dt3 29 3 = dt 29 3 := hF5 29 (by decide) 3
  have w18 : dt3 31 3 = dt 31 3 := hF5 31 (by decide) 3
  have w19 : dt3 33 3 = dt 33 3 := hF5 33 (by decide) 3
  have w20 : dt3 0 2 = dt 0 2 := hF5 0 (by decide) 2
  have w21 : dt3 35 1 = dt 35 1 := hF5 35 (by decide) 1
  have w22 : dt3 80 0 = dt 80 0 := hF5 80 (by decide) 0
  have w23 : dt3 80 1 = dt 80 1 := hF5 80 (by decide) 1
  have w24 : dt3 80 2 = dt 80 2 := hF5 80 (by decide) 2
  have w25 : dt3 80 3 = dt 80 3 := hF5 80 (by decide) 3
  have w26 : dt3 80 4 = dt 80 4 := hF5 80 (by decide) 4
  have w27 : dt3 80 5 = dt 80 5 := hF5 80 (by decide) 5
  have w28 : dt3 81 0 = dt 81 0 := hF5 81 (by decide) 0
  have w29 : dt3 81 1 = dt 81 1 := hF5 81 (by decide) 1
  have w30 : dt3 81 2 = dt 81 2 := hF5 81 (by decide) 2
  have w31 : dt3 81 3 = dt 81 3 := hF5 81 (by decide) 3
  have w32 : dt3 81 4 = dt 81 4 := hF5 81 (by decide) 4
  have w33 : dt3 81 5 = dt 81 5 := hF5 81 (by decide) 5
  have w34 : dt3 79 2 = dt 79 2 := hF5 79 (by decide) 2
  have w35 : dt3 79 12 = dt 79 12 := hF5 79 (by decide) 12
  rcases h2 with ⟨v_h2, rfl, h2r, h2⟩
  have M236 : MW (dt3 81) := MW_frk hM2 hF5 (by decide)
  have C37 : ∀ j : Nat, dt3 15 j = dt 15 j := fun j => (hF5 15 (by decide) j).trans ((fun _ => rfl) j)
  have C38 : ∀ j : Nat, dt3 17 j = dt 17 j := fun j => (hF5 17 (by decide) j).trans ((fun _ => rfl) j)
  have C39 : ∀ j : Nat, dt3 32 j = dt 32 j := fun j => (hF5 32 (by decide) j).trans ((fun _ => rfl) j)
  have C40 : ∀ j : Nat, dt3 34 j = dt 34 j := fun j => (hF5 34 (by decide) j).trans ((fun _ => rfl) j)
  have F41 : ∀ j : Nat, 7340 ≤ j → dt3 81 j = dt 81 j := fun j hj => (hF5 81 (by decide) j).trans ((fun _ _ => rfl) j hj)
  have F42 : ∀ j : Nat, 7340 ≤ j → dt3 80 j = dt 80 j := fun j hj => (hF5 80 (by decide) j).trans ((fun _ _ => rfl) j hj)
  have F43 : ∀ j : Nat, dt3 80 j = dt 80 j := fun j => (hF5 80 (by decide) j).trans ((fun _ => rfl) j)
  have F44 : ∀ j : Nat, dt3 81 j = dt 81 j := fun j => (hF5 81 (by decide) j).trans ((fun _ => rfl) j)
  refine go_toq PM267 (k := 6) (pc' := 1302) (L' := [some (.inr (.inr (some 3000))), some (.inr (.inr (some 0))), some (.inr (.inr (some 79))), some (.inl i)]) (st' := [.inl (i + 1), .inr (.inr (some 3000)), .inr (.inr (some 79))]) (w' := (SH, dt3)) rfl ?_
  have r45 := i32_R (xs ((i + 1).toNat))
  refine go_smpq PM267 (L' := [some (.inr (.inr (some 3000))), some (.inr (.inr (some 0))), some (.inr (.inr (some 79))), some (.inl i)]) (st' := [.inl ((xs ((i + 1).toNat)).toInt), .inr (.inr (some 79))]) (w' := (SH, dt3)) rfl rfl (s_iald (n := L) (f := fun j => (xs j).toInt) (am_scr hLL) ⟨by omega, by omega⟩) ?_
  refine go_callq PM267 PM245 (Q' := _) rfl rfl rfl rfl (sp_X6_score L xs sio (d + 30) dt3 hI4 hM7  ((xs ((i + 1).toNat)).toInt) ⟨by omega, by omega⟩ ) ?_
  rintro _ _ ⟨dt47, rfl, hI48, hF49, h46⟩
  refine ⟨rfl, ?_⟩
  have hF50 : Fr [0, 1, 2, 3, 4, 5, 6, 7, 8, 9, 10, 11, 12, 13, 14, 15, 16, 17, 18, 19, 20, 21, 22, 23, 24, 25, 26, 27, 28, 29, 30, 31, 32, 33, 34, 35, 36, 37, 38, 39, 40, 41, 42, 43, 44, 45, 46, 47, 48, 49, 50, 51, 52, 53, 54, 55, 56, 57, 58, 59, 60, 61, 62, 63, 64, 65, 66, 67, 68, 69, 70, 71, 72, 73, 74, 75, 76, 77, 78, 79, 80, 81, 82, 83, 84, 85, 86, 87, 88, 89, 90, 91, 92, 93, 94, 95, 96, 97, 98, 99, 100, 101, 102, 103, 104] dt dt47 := Fr_tr hF6 hF49 (by decide)
  have hM51 : MW (dt47 80) := MW_fr hM7 hF49 (by decide)
  have w52 : dt47 1 0 = dt3 1 0 := hF49 1 (by decide) 0
  have w53 : dt47 7 3 = dt3 7 3 := hF49 7 (by decide) 3
  have w54 : dt47 10 3 = dt3 10 3 := hF49 10 (by decide) 3
  have w55 : dt47 12 3 = dt3 12 3 := hF49 12 (by decide) 3
  have w56 : dt47 14 3 = dt3 14 3 := hF49 14 (by decide) 3
  have w57 : dt47 16 3 = dt3 16 3 := hF49 16 (by decide) 3
  have w58 : dt47 18 0 = dt3 18 0 := hF49 18 (by decide) 0
  have w59 : dt47 24 3 = dt3 24 3 := hF49 24 (by decide) 3
  have w60 : dt47 27 3 = dt3 27 3 := hF49 27 (by decide) 3
  have w61 : dt47 29 3 = dt3 29 3 := hF49 29 (by decide) 3
  have w62 : dt47 31 3 = dt3 31 3 := hF49 31 (by decide) 3
  have w63 : dt47 33 3 = dt3 33 3 := hF49 33 (by decide) 3
  have w64 : dt47 0 2 = dt3 0 2 := hF49 0 (by decide) 2
  have w65 : dt47 35 1 = dt3 35 1 := hF49 35 (by decide) 1
  have w66 : dt47 80 0 = dt3 80 0 := hF49 80 (by decide) 0
  have w67 : dt47 80 1 = dt3 80 1 := hF49 80 (by decide) 1
  have w68 : dt47 80 2 = dt3 80 2 := hF49 80 (by decide) 2
  have w69 : dt47 80 3 = dt3 80 3 := hF49 80 (by decide) 3
  have w70 : dt47 80 4 = dt3 80 4 := hF49 80 (by decide) 4
  have w71 : dt47 80 5 = dt3 80 5 := hF49 80 (by decide) 5
  have w72 : dt47 81 0 = dt3 81 0 := hF49 81 (by decide) 0
  have w73 : dt47 81 1 = dt3 81 1 := hF49 81 (by decide) 1
  have w74 : dt47 81 2 = dt3 81 2 := hF49 81 (by decide) 2
  have w75 : dt47 81 3 = dt3 81 3 := hF49 81 (by decide) 3
  have w76 : dt47 81 4 = dt3 81 4 := hF49 81 (by decide) 4
  have w77 : dt47 81 5 = dt3 81 5 := hF49 81 (by decide) 5
  have w78 : dt47 79 2 = dt3 79 2 := hF49 79 (by decide) 2
  have w79 : dt47 79 12 = dt3 79 12 := hF49 79 (by decide) 12
  rcases h46 with ⟨v_h46, rfl, h46r, h46⟩
  have M280 : MW (dt47 81) := MW_frk M236 hF49 (by decide)
  have C81 : ∀ j : Nat, dt47 15 j = dt 15 j := fun j => (hF49 15 (by decide) j).trans (C37 j)
  have C82 : ∀ j : Nat, dt47 17 j = dt 17 j := fun j => (hF49 17 (by decide) j).trans (C38 j)
  have C83 : ∀ j : Nat, dt47 32 j = dt 32 j := fun j => (hF49 32 (by decide) j).trans (C39 j)
  have C84 : ∀ j : Nat, dt47 34 j = dt 34 j := fun j => (hF49 34 (by decide) j).trans (C40 j)
  have F85 : ∀ j : Nat, 7340 ≤ j → dt47 81 j = dt 81 j := fun j hj => (hF49 81 (by decide) j).trans (F41 j hj)
  have F86 : ∀ j : Nat, 7340 ≤ j → dt47 80 j = dt 80 j := fun j hj => (hF49 80 (by decide) j).trans (F42 j hj)
  have F87 : ∀ j : Nat, dt47 80 j = dt 80 j := fun j => (hF49 80 (by decide) j).trans (F43 j)
  have F88 : ∀ j : Nat, dt47 81 j = dt 81 j := fun j => (hF49 81 (by decide) j).trans (F44 j)
  refine go_toq PM267 (k := 2) (pc' := 1435) (L' := [some (.inr (.inr (some 3000))), some (.inr (.inr (some 0))), some (.inr (.inr (some 79))), some (.inl i)]) (st' := []) (w' := (SH, dt47)) rfl ?_
  exact K dt47 hI48 hM51 M280 (by first | omega | (simp only [*]; done) | simp only [*]) (by omega) (by omega) (by omega) (by omega) (by omega) (by omega) (by omega) (by omega) (by omega) (by omega) (by omega) (by omega) (by omega) (by first | exact hI | exact RW2_k hd0 C81 F86 (by decide) (by omega) | (exfalso; omega)) (by first | exact hI | exact RW2_k hd1 C83 F85 (by decide) (by omega) | (exfalso; omega)) (by first | exact hI | exact RW2_k hd2 C82 F86 (by decide) (by omega) | (exfalso; omega)) (by first | exact hI | exact RW2_k hd3 C84 F85 (by decide) (by omega) | (exfalso; omega))
set_option maxRecDepth 20000 in
set_option maxHeartbeats 8000000 in
theorem sp_case30 (L : Nat) (xs : Nat → Int32) (sio : Option Nat) (d : Nat) (Q : Option AV → am_W → Prop) (hLL : L ≤ 3072) (i : Int) (hi : 0 ≤ i ∧ i ≤ 3066) (hil : i ≤ (L : Int) - 6) (dt : Nat → Nat → Int) (hI : InvC dt) (hM : MW (dt 80)) (hM2 : MW (dt 81)) (hk0 : dt 1 0 = dt 80 0) (hk1 : dt 7 3 = dt 80 1) (hk2 : dt 10 3 = dt 80 2) (hk3 : dt 12 3 = dt 80 3) (hk4 : dt 14 3 = dt 80 4) (hk5 : dt 16 3 = dt 80 5) (hk6 : dt 18 0 = dt 81 0) (hk7 : dt 24 3 = dt 81 1) (hk8 : dt 27 3 = dt 81 2) (hk9 : dt 29 3 = dt 81 3) (hk10 : dt 31 3 = dt 81 4) (hk11 : dt 33 3 = dt 81 5) (hk12 : dt 0 2 = dt 79 2) (hk13 : dt 35 1 = dt 79 12) (hd0 : RW2 (dt 15) (dt 80) (dt 80 4) 7340) (hd1 : RW2 (dt 32) (dt 81) (dt 81 4) 7340) (hd2 : RW2 (dt 17) (dt 80) (dt 80 5) 7420) (hd3 : RW2 (dt 34) (dt 81) (dt 81 5) 7420) (K : ∀ (dt : Nat → Nat → Int) (hI : InvC dt) (hM : MW (dt 80)) (hM2 : MW (dt 81)) (hk0 : dt 1 0 = dt 80 0) (hk1 : dt 7 3 = dt 80 1) (hk2 : dt 10 3 = dt 80 2) (hk3 : dt 12 3 = dt 80 3) (hk4 : dt 14 3 = dt 80 4) (hk5 : dt 16 3 = dt 80 5) (hk6 : dt 18 0 = dt 81 0) (hk7 : dt 24 3 = dt 81 1) (hk8 : dt 27 3 = dt 81 2) (hk9 : dt 29 3 = dt 81 3) (hk10 : dt 31 3 = dt 81 4) (hk11 : dt 33 3 = dt 81 5) (hk12 : dt 0 2 = dt 79 2) (hk13 : dt 35 1 = dt 79 12) (hd0 : RW2 (dt 15) (dt 80) (dt 80 4) 7340) (hd1 : RW2 (dt 32) (dt 81) (dt 81 4) 7340) (hd2 : RW2 (dt 17) (dt 80) (dt 80 5) 7420) (hd3 : RW2 (dt 34) (dt 81) (dt 81 5) 7420), GO (am_XX L xs sio) (d + 39) 267 1435 [some (.inr (.inr (some 3000))), some (.inr (.inr (some 0))), some (.inr (.inr (some 79))), some (.inl i)] [] (SH, dt) Q) : GO (am_XX L xs sio) (d + 39) 267 1310 [some (.inr (.inr (some 3000))), some (.inr (.inr (some 0))), some (.inr (.inr (some 79))), some (.inl i)] [] (SH, dt) Q := by
  have hF : Fr [0, 1, 2, 3, 4, 5, 6, 7, 8, 9, 10, 11, 12, 13, 14, 15, 16, 17, 18, 19, 20, 21, 22, 23, 24, 25, 26, 27, 28, 29, 30, 31, 32, 33, 34, 35, 36, 37, 38, 39, 40, 41, 42, 43, 44, 45, 46, 47, 48, 49, 50, 51, 52, 53, 54, 55, 56, 57, 58, 59, 60, 61, 62, 63, 64, 65, 66, 67, 68, 69, 70, 71, 72, 73, 74, 75, 76, 77, 78, 79, 80, 81, 82, 83, 84, 85, 86, 87, 88, 89, 90, 91, 92, 93, 94, 95, 96, 97, 98, 99, 100, 101, 102, 103, 104] dt dt := Fr_refl
  have hmn := MW_n hM
  have hmn2 := MW_n hM2
  refine go_toq PM267 (k := 5) (pc' := 1315) (L' := [some (.inr (.inr (some 3000))), some (.inr (.inr (some 0))), some (.inr (.inr (some 79))), some (.inl i)]) (st' := [.inl (i + 1), .inr (.inr (some 3000)), .inr (.inr (some 0))]) (w' := (SH, dt)) rfl ?_
  have r1 := i32_R (xs ((i + 1).toNat))
  refine go_smpq PM267 (L' := [some (.inr (.inr (some 3000))), some (.inr (.inr (some 0))), some (.inr (.inr (some 79))), some (.inl i)]) (st' := [.inl ((xs ((i + 1).toNat)).toInt), .inr (.inr (some 0))]) (w' := (SH, dt)) rfl rfl (s_iald (n := L) (f := fun j => (xs j).toInt) (am_scr hLL) ⟨by omega, by omega⟩) ?_
  refine go_toq PM267 (k := 4) (pc' := 1320) (L' := [some (.inr (.inr (some 3000))), some (.inr (.inr (some 0))), some (.inr (.inr (some 79))), some (.inl i)]) (st' := [.inl (i + 2), .inr (.inr (some 3000)), .inl ((xs ((i + 1).toNat)).toInt), .inr (.inr (some 0))]) (w' := (SH, dt)) rfl ?_
  have r2 := i32_R (xs ((i + 2).toNat))
  refine go_smpq PM267 (L' := [some (.inr (.inr (some 3000))), some (.inr (.inr (some 0))), some (.inr (.inr (some 79))), some (.inl i)]) (st' := [.inl ((xs ((i + 2).toNat)).toInt), .inl ((xs ((i + 1).toNat)).toInt), .inr (.inr (some 0))]) (w' := (SH, dt)) rfl rfl (s_iald (n := L) (f := fun j => (xs j).toInt) (am_scr hLL) ⟨by omega, by omega⟩) ?_
  refine go_toq PM267 (k := 4) (pc' := 1325) (L' := [some (.inr (.inr (some 3000))), some (.inr (.inr (some 0))), some (.inr (.inr (some 79))), some (.inl i)]) (st' := [.inl (i + 3), .inr (.inr (some 3000)), .inl ((xs ((i + 2).toNat)).toInt), .inl ((xs ((i + 1).toNat)).toInt), .inr (.inr (some 0))]) (w' := (SH, dt)) rfl ?_
  have r3 := i32_R (xs ((i + 3).toNat))
  refine go_smpq PM267 (L' := [some (.inr (.inr (some 3000))), some (.inr (.inr (some 0))), some (.inr (.inr (some 79))), some (.inl i)]) (st' := [.inl ((xs ((i + 3).toNat)).toInt), .inl ((xs ((i + 2).toNat)).toInt), .inl ((xs ((i + 1).toNat)).toInt), .inr (.inr (some 0))]) (w' := (SH, dt)) rfl rfl (s_iald (n := L) (f := fun j => (xs j).toInt) (am_scr hLL) ⟨by omega, by omega⟩) ?_
  refine go_toq PM267 (k := 4) (pc' := 1330) (L' := [some (.inr (.inr (some 3000))), some (.inr (.inr (some 0))), some (.inr (.inr (some 79))), some (.inl i)]) (st' := [.inl (i + 4), .inr (.inr (some 3000)), .inl ((xs ((i + 3).toNat)).toInt), .inl ((xs ((i + 2).toNat)).toInt), .inl ((xs ((i + 1).toNat)).toInt), .inr (.inr (some 0))]) (w' := (SH, dt)) rfl ?_
  have r4 := i32_R (xs ((i + 4).toNat))
  refine go_smpq PM267 (L' := [some (.inr (.inr (some 3000))), some (.inr (.inr (some 0))), some (.inr (.inr (some 79))), some (.inl i)]) (st' := [.inl ((xs ((i + 4).toNat)).toInt), .inl ((xs ((i + 3).toNat)).toInt), .inl ((xs ((i + 2).toNat)).toInt), .inl ((xs ((i + 1).toNat)).toInt), .inr (.inr (some 0))]) (w' := (SH, dt)) rfl rfl (s_iald (n := L) (f := fun j => (xs j).toInt) (am_scr hLL) ⟨by omega, by omega⟩) ?_
  refine go_toq PM267 (k := 4) (pc' := 1335) (L' := [some (.inr (.inr (some 3000))), some (.inr (.inr (some 0))), some (.inr (.inr (some 79))), some (.inl i)]) (st' := [.inl (i + 5), .inr (.inr (some 3000)), .inl ((xs ((i + 4).toNat)).toInt), .inl ((xs ((i + 3).toNat)).toInt), .inl ((xs ((i + 2).toNat)).toInt), .inl ((xs ((i + 1).toNat)).toInt), .inr (.inr (some 0))]) (w' := (SH, dt)) rfl ?_
  have r5 := i32_R (xs ((i + 5).toNat))
  refine go_smpq PM267 (L' := [some (.inr (.inr (some 3000))), some (.inr (.inr (some 0))), some (.inr (.inr (some 79))), some (.inl i)]) (st' := [.inl ((xs ((i + 5).toNat)).toInt), .inl ((xs ((i + 4).toNat)).toInt), .inl ((xs ((i + 3).toNat)).toInt), .inl ((xs ((i + 2).toNat)).toInt), .inl ((xs ((i + 1).toNat)).toInt), .inr (.inr (some 0))]) (w' := (SH, dt)) rfl rfl (s_iald (n := L) (f := fun j => (xs j).toInt) (am_scr hLL) ⟨by omega, by omega⟩) ?_
  refine go_callq PM267 PM97 (Q' := _) rfl rfl rfl rfl (sp_X5_next L xs sio (d + 32) dt hI  ((xs ((i + 1).toNat)).toInt) ⟨by omega, by omega⟩ ((xs ((i + 2).toNat)).toInt) ⟨by omega, by omega⟩ ((xs ((i + 3).toNat)).toInt) ⟨by omega, by omega⟩ ((xs ((i + 4).toNat)).toInt) ⟨by omega, by omega⟩ ((xs ((i + 5).toNat)).toInt) ⟨by omega, by omega⟩ ) ?_
  rintro _ _ ⟨dt7, rfl, hI8, hF9, h6⟩
  refine ⟨rfl, ?_⟩
  have hF10 : Fr [0, 1, 2, 3, 4, 5, 6, 7, 8, 9, 10, 11, 12, 13, 14, 15, 16, 17, 18, 19, 20, 21, 22, 23, 24, 25, 26, 27, 28, 29, 30, 31, 32, 33, 34, 35, 36, 37, 38, 39, 40, 41, 42, 43, 44, 45, 46, 47, 48, 49, 50, 51, 52, 53, 54, 55, 56, 57, 58, 59, 60, 61, 62, 63, 64, 65, 66, 67, 68, 69, 70, 71, 72, 73, 74, 75, 76, 77, 78, 79, 80, 81, 82, 83, 84, 85, 86, 87, 88, 89, 90, 91, 92, 93, 94, 95, 96, 97, 98, 99, 100, 101, 102, 103, 104] dt dt7 := Fr_tr hF hF9 (by decide)
  have hM11 : MW (dt7 80) := MW_fr hM hF9 (by decide)
  have w12 : dt7 1 0 = dt 1 0 := hF9 1 (by decide) 0
  have w13 : dt7 7 3 = dt 7 3 := hF9 7 (by decide) 3
  have w14 : dt7 10 3 = dt 10 3 := hF9 10 (by decide) 3
  have w15 : dt7 12 3 = dt 12 3 := hF9 12 (by decide) 3
  have w16 : dt7 14 3 = dt 14 3 := hF9 14 (by decide) 3
  have w17 : dt7 16 3 = dt 16 3 := hF9 16 (by decide) 3
  have w18 : dt7 18 0 = dt 18 0 := hF9 18 (by decide) 0
  have w19 : dt7 24 3 = dt 24 3 := hF9 24 (by decide) 3
  have w20 : dt7 27 3 = dt 27 3 := hF9 27 (by decide) 3
  have w21 : dt7 29 3 = dt 29 3 := hF9 29 (by decide) 3
  have w22 : dt7 31 3 = dt 31 3 := hF9 31 (by decide) 3
  have w23 : dt7 33 3 = dt 33 3 := hF9 33 (by decide) 3
  have w24 : dt7 0 2 = dt 0 2 := hF9 0 (by decide) 2
  have w25 : dt7 35 1 = dt 35 1 := hF9 35 (by decide) 1
  have w26 : dt7 80 0 = dt 80 0 := hF9 80 (by decide) 0
  have w27 : dt7 80 1 = dt 80 1 := hF9 80 (by decide) 1
  have w28 : dt7 80 2 = dt 80 2 := hF9 80 (by decide) 2
  have w29 : dt7 80 3 = dt 80 3 := hF9 80 (by decide) 3
  have w30 : dt7 80 4 = dt 80 4 := hF9 80 (by decide) 4
  have w31 : dt7 80 5 = dt 80 5 := hF9 80 (by decide) 5
  have w32 : dt7 81 0 = dt 81 0 := hF9 81 (by decide) 0
  have w33 : dt7 81 1 = dt 81 1 := hF9 81 (by decide) 1
  have w34 : dt7 81 2 = dt 81 2 := hF9 81 (by decide) 2
  have w35 : dt7 81 3 = dt 81 3 := hF9 81 (by decide) 3
  have w36 : dt7 81 4 = dt 81 4 := hF9 81 (by decide) 4
  have w37 : dt7 81 5 = dt 81 5 := hF9 81 (by decide) 5
  have w38 : dt7 79 2 = dt 79 2 := hF9 79 (by decide) 2
  have w39 : dt7 79 12 = dt 79 12 := hF9 79 (by decide) 12
  rcases h6 with ⟨v_h6, rfl, h6r, h6⟩
  have M240 : MW (dt7 81) := MW_frk hM2 hF9 (by decide)
  have C41 : ∀ j : Nat, dt7 15 j = dt 15 j := fun j => (hF9 15 (by decide) j).trans ((fun _ => rfl) j)
  have C42 : ∀ j : Nat, dt7 17 j = dt 17 j := fun j => (hF9 17 (by decide) j).trans ((fun _ => rfl) j)
  have C43 : ∀ j : Nat, dt7 32 j = dt 32 j := fun j => (hF9 32 (by decide) j).trans ((fun _ => rfl) j)
  have C44 : ∀ j : Nat, dt7 34 j = dt 34 j := fun j => (hF9 34 (by decide) j).trans ((fun _ => rfl) j)
  have F45 : ∀ j : Nat, 7340 ≤ j → dt7 81 j = dt 81 j := fun j hj => (hF9 81 (by decide) j).trans ((fun _ _ => rfl) j hj)
  have F46 : ∀ j : Nat, 7340 ≤ j → dt7 80 j = dt 80 j := fun j hj => (hF9 80 (by decide) j).trans ((fun _ _ => rfl) j hj)
  have F47 : ∀ j : Nat, dt7 80 j = dt 80 j := fun j => (hF9 80 (by decide) j).trans ((fun _ => rfl) j)
  have F48 : ∀ j : Nat, dt7 81 j = dt 81 j := fun j => (hF9 81 (by decide) j).trans ((fun _ => rfl) j)
  refine go_toq PM267 (k := 6) (pc' := 1345) (L' := [some (.inr (.inr (some 3000))), some (.inr (.inr (some 0))), some (.inr (.inr (some 79))), some (.inl i)]) (st' := [.inl (i + 1), .inr (.inr (some 3000)), .inr (.inr (some 79))]) (w' := (SH, dt7)) rfl ?_
  have r49 := i32_R (xs ((i + 1).toNat))
  refine go_smpq PM267 (L' := [some (.inr (.inr (some 3000))), some (.inr (.inr (some 0))), some (.inr (.inr (some 79))), some (.inl i)]) (st' := [.inl ((xs ((i + 1).toNat)).toInt), .inr (.inr (some 79))]) (w' := (SH, dt7)) rfl rfl (s_iald (n := L) (f := fun j => (xs j).toInt) (am_scr hLL) ⟨by omega, by omega⟩) ?_
  refine go_toq PM267 (k := 4) (pc' := 1350) (L' := [some (.inr (.inr (some 3000))), some (.inr (.inr (some 0))), some (.inr (.inr (some 79))), some (.inl i)]) (st' := [.inl (i + 2), .inr (.inr (some 3000)), .inl ((xs ((i + 1).toNat)).toInt), .inr (.inr (some 79))]) (w' := (SH, dt7)) rfl ?_
  have r50 := i32_R (xs ((i + 2).toNat))
  refine go_smpq PM267 (L' := [some (.inr (.inr (some 3000))), some (.inr (.inr (some 0))), some (.inr (.inr (some 79))), some (.inl i)]) (st' := [.inl ((xs ((i + 2).toNat)).toInt), .inl ((xs ((i + 1).toNat)).toInt), .inr (.inr (some 79))]) (w' := (SH, dt7)) rfl rfl (s_iald (n := L) (f := fun j => (xs j).toInt) (am_scr hLL) ⟨by omega, by omega⟩) ?_
  refine go_toq PM267 (k := 4) (pc' := 1355) (L' := [some (.inr (.inr (some 3000))), some (.inr (.inr (some 0))), some (.inr (.inr (some 79))), some (.inl i)]) (st' := [.inl (i + 3), .inr (.inr (some 3000)), .inl ((xs ((i + 2).toNat)).toInt), .inl ((xs ((i + 1).toNat)).toInt), .inr (.inr (some 79))]) (w' := (SH, dt7)) rfl ?_
  have r51 := i32_R (xs ((i + 3).toNat))
  refine go_smpq PM267 (L' := [some (.inr (.inr (some 3000))), some (.inr (.inr (some 0))), some (.inr (.inr (some 79))), some (.inl i)]) (st' := [.inl ((xs ((i + 3).toNat)).toInt), .inl ((xs ((i + 2).toNat)).toInt), .inl ((xs ((i + 1).toNat)).toInt), .inr (.inr (some 79))]) (w' := (SH, dt7)) rfl rfl (s_iald (n := L) (f := fun j => (xs j).toInt) (am_scr hLL) ⟨by omega, by omega⟩) ?_
  refine go_toq PM267 (k := 4) (pc' := 1360) (L' := [some (.inr (.inr (some 3000))), some (.inr (.inr (some 0))), some (.inr (.inr (some 79))), some (.inl i)]) (st' := [.inl (i + 4), .inr (.inr (some 3000)), .inl ((xs ((i + 3).toNat)).toInt), .inl ((xs ((i + 2).toNat)).toInt), .inl ((xs ((i + 1).toNat)).toInt), .inr (.inr (some 79))]) (w' := (SH, dt7)) rfl ?_
  have r52 := i32_R (xs ((i + 4).toNat))
  refine go_smpq PM267 (L' := [some (.inr (.inr (some 3000))), some (.inr (.inr (some 0))), some (.inr (.inr (some 79))), some (.inl i)]) (st' := [.inl ((xs ((i + 4).toNat)).toInt), .inl ((xs ((i + 3).toNat)).toInt), .inl ((xs ((i + 2).toNat)).toInt), .inl ((xs ((i + 1).toNat)).toInt), .inr (.inr (some 79))]) (w' := (SH, dt7)) rfl rfl (s_iald (n := L) (f := fun j => (xs j).toInt) (am_scr hLL) ⟨by omega, by omega⟩) ?_
  refine go_toq PM267 (k := 4) (pc' := 1365) (L' := [some (.inr (.inr (some 3000))), some (.inr (.inr (some 0))), some (.inr (.inr (some 79))), some (.inl i)]) (st' := [.inl (i + 5), .inr (.inr (some 3000)), .inl ((xs ((i + 4).toNat)).toInt), .inl ((xs ((i + 3).toNat)).toInt), .inl ((xs ((i + 2).toNat)).toInt), .inl ((xs ((i + 1).toNat)).toInt), .inr (.inr (some 79))]) (w' := (SH, dt7)) rfl ?_
  have r53 := i32_R (xs ((i + 5).toNat))
  refine go_smpq PM267 (L' := [some (.inr (.inr (some 3000))), some (.inr (.inr (some 0))), some (.inr (.inr (some 79))), some (.inl i)]) (st' := [.inl ((xs ((i + 5).toNat)).toInt), .inl ((xs ((i + 4).toNat)).toInt), .inl ((xs ((i + 3).toNat)).toInt), .inl ((xs ((i + 2).toNat)).toInt), .inl ((xs ((i + 1).toNat)).toInt), .inr (.inr (some 79))]) (w' := (SH, dt7)) rfl rfl (s_iald (n := L) (f := fun j => (xs j).toInt) (am_scr hLL) ⟨by omega, by omega⟩) ?_
  refine go_callq PM267 PM246 (Q' := _) rfl rfl rfl rfl (sp_X6_next L xs sio (d + 31) dt7 hI8 hM11  ((xs ((i + 1).toNat)).toInt) ⟨by omega, by omega⟩ ((xs ((i + 2).toNat)).toInt) ⟨by omega, by omega⟩ ((xs ((i + 3).toNat)).toInt) ⟨by omega, by omega⟩ ((xs ((i + 4).toNat)).toInt) ⟨by omega, by omega⟩ ((xs ((i + 5).toNat)).toInt) ⟨by omega, by omega⟩ ) ?_
  rintro _ _ ⟨dt55, rfl, hI56, hF57, h54⟩
  refine ⟨rfl, ?_⟩
  have hF58 : Fr [0, 1, 2, 3, 4, 5, 6, 7, 8, 9, 10, 11, 12, 13, 14, 15, 16, 17, 18, 19, 20, 21, 22, 23, 24, 25, 26, 27, 28, 29, 30, 31, 32, 33, 34, 35, 36, 37, 38, 39, 40, 41, 42, 43, 44, 45, 46, 47, 48, 49, 50, 51, 52, 53, 54, 55, 56, 57, 58, 59, 60, 61, 62, 63, 64, 65, 66, 67, 68, 69, 70, 71, 72, 73, 74, 75, 76, 77, 78, 79, 80, 81, 82, 83, 84, 85, 86, 87, 88, 89, 90, 91, 92, 93, 94, 95, 96, 97, 98, 99, 100, 101, 102, 103, 104] dt dt55 := Fr_tr hF10 hF57 (by decide)
  have hM59 : MW (dt55 80) := MW_fr hM11 hF57 (by decide)
  have w60 : dt55 1 0 = dt7 1 0 := hF57 1 (by decide) 0
  have w61 : dt55 7 3 = dt7 7 3 := hF57 7 (by decide) 3
  have w62 : dt55 10 3 = dt7 10 3 := hF57 10 (by decide) 3
  have w63 : dt55 12 3 = dt7 12 3 := hF57 12 (by decide) 3
  have w64 : dt55 14 3 = dt7 14 3 := hF57 14 (by decide) 3
  have w65 : dt55 16 3 = dt7 16 3 := hF57 16 (by decide) 3
  have w66 : dt55 18 0 = dt7 18 0 := hF57 18 (by decide) 0
  have w67 : dt55 24 3 = dt7 24 3 := hF57 24 (by decide) 3
  have w68 : dt55 27 3 = dt7 27 3 := hF57 27 (by decide) 3
  have w69 : dt55 29 3 = dt7 29 3 := hF57 29 (by decide) 3
  have w70 : dt55 31 3 = dt7 31 3 := hF57 31 (by decide) 3
  have w71 : dt55 33 3 = dt7 33 3 := hF57 33 (by decide) 3
  have w72 : dt55 0 2 = dt7 0 2 := hF57 0 (by decide) 2
  have w73 : dt55 35 1 = dt7 35 1 := hF57 35 (by decide) 1
  have w74 : dt55 80 0 = dt7 80 0 := hF57 80 (by decide) 0
  have w75 : dt55 80 1 = dt7 80 1 := hF57 80 (by decide) 1
  have w76 : dt55 80 2 = dt7 80 2 := hF57 80 (by decide) 2
  have w77 : dt55 80 3 = dt7 80 3 := hF57 80 (by decide) 3
  have w78 : dt55 80 4 = dt7 80 4 := hF57 80 (by decide) 4
  have w79 : dt55 80 5 = dt7 80 5 := hF57 80 (by decide) 5
  have w80 : dt55 81 0 = dt7 81 0 := hF57 81 (by decide) 0
  have w81 : dt55 81 1 = dt7 81 1 := hF57 81 (by decide) 1
  have w82 : dt55 81 2 = dt7 81 2 := hF57 81 (by decide) 2
  have w83 : dt55 81 3 = dt7 81 3 := hF57 81 (by decide) 3
  have w84 : dt55 81 4 = dt7 81 4 := hF57 81 (by decide) 4
  have w85 : dt55 81 5 = dt7 81 5 := hF57 81 (by decide) 5
  have w86 : dt55 79 2 = dt7 79 2 := hF57 79 (by decide) 2
  have w87 : dt55 79 12 = dt7 79 12 := hF57 79 (by decide) 12
  rcases h54 with ⟨v_h54, rfl, h54r, h54⟩
  have M288 : MW (dt55 81) := MW_frk M240 hF57 (by decide)
  have C89 : ∀ j : Nat, dt55 15 j = dt 15 j := fun j => (hF57 15 (by decide) j).trans (C41 j)
  have C90 : ∀ j : Nat, dt55 17 j = dt 17 j := fun j => (hF57 17 (by decide) j).trans (C42 j)
  have C91 : ∀ j : Nat, dt55 32 j = dt 32 j := fun j => (hF57 32 (by decide) j).trans (C43 j)
  have C92 : ∀ j : Nat, dt55 34 j = dt 34 j := fun j => (hF57 34 (by decide) j).trans (C44 j)
  have F93 : ∀ j : Nat, 7340 ≤ j → dt55 81 j = dt 81 j := fun j hj => (hF57 81 (by decide) j).trans (F45 j hj)
  have F94 : ∀ j : Nat, 7340 ≤ j → dt55 80 j = dt 80 j := fun j hj => (hF57 80 (by decide) j).trans (F46 j hj)
  have F95 : ∀ j : Nat, dt55 80 j = dt 80 j := fun j => (hF57 80 (by decide) j).trans (F47 j)
  have F96 : ∀ j : Nat, dt55 81 j = dt 81 j := fun j => (hF57 81 (by decide) j).trans (F48 j)
  refine go_toq PM267 (k := 2) (pc' := 1435) (L' := [some (.inr (.inr (some 3000))), some (.inr (.inr (some 0))), some (.inr (.inr (some 79))), some (.inl i)]) (st' := []) (w' := (SH, dt55)) rfl ?_
  exact K dt55 hI56 hM59 M288 (by first | omega | (simp only [*]; done) | simp only [*]) (by omega) (by omega) (by omega) (by omega) (by omega) (by omega) (by omega) (by omega) (by omega) (by omega) (by omega) (by omega) (by omega) (by first | exact hI | exact RW2_k hd0 C89 F94 (by decide) (by omega) | (exfalso; omega)) (by first | exact hI | exact RW2_k hd1 C91 F93 (by decide) (by omega) | (exfalso; omega)) (by first | exact hI | exact RW2_k hd2 C90 F94 (by decide) (by omega) | (exfalso; omega)) (by first | exact hI | exact RW2_k hd3 C92 F93 (by decide) (by omega) | (exfalso; omega))
set_option maxRecDepth 20000 in
set_option maxHeartbeats 8000000 in
theorem sp_case31 (L : Nat) (xs : Nat → Int32) (sio : Option Nat) (d : Nat) (Q : Option AV → am_W → Prop) (hLL : L ≤ 3072) (i : Int) (hi : 0 ≤ i ∧ i ≤ 3066) (hil : i ≤ (L : Int) - 6) (dt : Nat → Nat → Int) (hI : InvC dt) (hM : MW (dt 80)) (hM2 : MW (dt 81)) (hk0 : dt 1 0 = dt 80 0) (hk1 : dt 7 3 = dt 80 1) (hk2 : dt 10 3 = dt 80 2) (hk3 : dt 12 3 = dt 80 3) (hk4 : dt 14 3 = dt 80 4) (hk5 : dt 16 3 = dt 80 5) (hk6 : dt 18 0 = dt 81 0) (hk7 : dt 24 3 = dt 81 1) (hk8 : dt 27 3 = dt 81 2) (hk9 : dt 29 3 = dt 81 3) (hk10 : dt 31 3 = dt 81 4) (hk11 : dt 33 3 = dt 81 5) (hk12 : dt 0 2 = dt 79 2) (hk13 : dt 35 1 = dt 79 12) (hd0 : RW2 (dt 15) (dt 80) (dt 80 4) 7340) (hd1 : RW2 (dt 32) (dt 81) (dt 81 4) 7340) (hd2 : RW2 (dt 17) (dt 80) (dt 80 5) 7420) (hd3 : RW2 (dt 34) (dt 81) (dt 81 5) 7420) (K : ∀ (dt : Nat → Nat → Int) (hI : InvC dt) (hM : MW (dt 80)) (hM2 : MW (dt 81)) (hk0 : dt 1 0 = dt 80 0) (hk1 : dt 7 3 = dt 80 1) (hk2 : dt 10 3 = dt 80 2) (hk3 : dt 12 3 = dt 80 3) (hk4 : dt 14 3 = dt 80 4) (hk5 : dt 16 3 = dt 80 5) (hk6 : dt 18 0 = dt 81 0) (hk7 : dt 24 3 = dt 81 1) (hk8 : dt 27 3 = dt 81 2) (hk9 : dt 29 3 = dt 81 3) (hk10 : dt 31 3 = dt 81 4) (hk11 : dt 33 3 = dt 81 5) (hk12 : dt 0 2 = dt 79 2) (hk13 : dt 35 1 = dt 79 12) (hd0 : RW2 (dt 15) (dt 80) (dt 80 4) 7340) (hd1 : RW2 (dt 32) (dt 81) (dt 81 4) 7340) (hd2 : RW2 (dt 17) (dt 80) (dt 80 5) 7420) (hd3 : RW2 (dt 34) (dt 81) (dt 81 5) 7420), GO (am_XX L xs sio) (d + 39) 267 1435 [some (.inr (.inr (some 3000))), some (.inr (.inr (some 0))), some (.inr (.inr (some 79))), some (.inl i)] [] (SH, dt) Q) : GO (am_XX L xs sio) (d + 39) 267 1373 [some (.inr (.inr (some 3000))), some (.inr (.inr (some 0))), some (.inr (.inr (some 79))), some (.inl i)] [] (SH, dt) Q := by
  have hF : Fr [0, 1, 2, 3, 4, 5, 6, 7, 8, 9, 10, 11, 12, 13, 14, 15, 16, 17, 18, 19, 20, 21, 22, 23, 24, 25, 26, 27, 28, 29, 30, 31, 32, 33, 34, 35, 36, 37, 38, 39, 40, 41, 42, 43, 44, 45, 46, 47, 48, 49, 50, 51, 52, 53, 54, 55, 56, 57, 58, 59, 60, 61, 62, 63, 64, 65, 66, 67, 68, 69, 70, 71, 72, 73, 74, 75, 76, 77, 78, 79, 80, 81, 82, 83, 84, 85, 86, 87, 88, 89, 90, 91, 92, 93, 94, 95, 96, 97, 98, 99, 100, 101, 102, 103, 104] dt dt := Fr_refl
  have hmn := MW_n hM
  have hmn2 := MW_n hM2
  refine go_toq PM267 (k := 5) (pc' := 1378) (L' := [some (.inr (.inr (some 3000))), some (.inr (.inr (some 0))), some (.inr (.inr (some 79))), some (.inl i)]) (st' := [.inl (i + 1), .inr (.inr (some 3000)), .inr (.inr (some 0))]) (w' := (SH, dt)) rfl ?_
  have r1 := i32_R (xs ((i + 1).toNat))
  refine go_smpq PM267 (L' := [some (.inr (.inr (some 3000))), some (.inr (.inr (some 0))), some (.inr (.inr (some 79))), some (.inl i)]) (st' := [.inl ((xs ((i + 1).toNat)).toInt), .inr (.inr (some 0))]) (w' := (SH, dt)) rfl rfl (s_iald (n := L) (f := fun j => (xs j).toInt) (am_scr hLL) ⟨by omega, by omega⟩) ?_
  refine go_ifq PM267 (k := 0) (p1 := 1386) (p2 := 1382) (L' := [some (.inr (.inr (some 3000))), some (.inr (.inr (some 0))), some (.inr (.inr (some 79))), some (.inl i)]) (st' := [.inr (.inr (some 0))]) (w' := (SH, dt)) rfl (z_eq (a := (xs ((i + 1).toNat)).toInt) ⟨by omega, by omega⟩) (fun c2 => ?_) (fun c2 => ?_)
  · skip
    refine go_toq PM267 (k := 1) (pc' := 1387) (L' := [some (.inr (.inr (some 3000))), some (.inr (.inr (some 0))), some (.inr (.inr (some 79))), some (.inl i)]) (st' := [.inl 0, .inr (.inr (some 0))]) (w' := (SH, dt)) rfl ?_
    refine go_callq PM267 PM98 (Q' := _) rfl rfl rfl rfl (sp_X5_image_0f L xs sio (d + 35) dt hI   ) ?_
    rintro _ _ ⟨dt4, rfl, hI5, hF6, h3⟩
    refine ⟨rfl, ?_⟩
    have hF7 : Fr [0, 1, 2, 3, 4, 5, 6, 7, 8, 9, 10, 11, 12, 13, 14, 15, 16, 17, 18, 19, 20, 21, 22, 23, 24, 25, 26, 27, 28, 29, 30, 31, 32, 33, 34, 35, 36, 37, 38, 39, 40, 41, 42, 43, 44, 45, 46, 47, 48, 49, 50, 51, 52, 53, 54, 55, 56, 57, 58, 59, 60, 61, 62, 63, 64, 65, 66, 67, 68, 69, 70, 71, 72, 73, 74, 75, 76, 77, 78, 79, 80, 81, 82, 83, 84, 85, 86, 87, 88, 89, 90, 91, 92, 93, 94, 95, 96, 97, 98, 99, 100, 101, 102, 103, 104] dt dt4 := Fr_tr hF hF6 (by decide)
    have hM8 : MW (dt4 80) := MW_fr hM hF6 (by decide)
    have w9 : dt4 18 0 = dt 18 0 := hF6 18 (by decide) 0
    have w10 : dt4 24 3 = dt 24 3 := hF6 24 (by decide) 3
    have w11 : dt4 27 3 = dt 27 3 := hF6 27 (by decide) 3
    have w12 : dt4 29 3 = dt 29 3 := hF6 29 (by decide) 3
    have w13 : dt4 31 3 = dt 31 3 := hF6 31 (by decide) 3
    have w14 : dt4 33 3 = dt 33 3 := hF6 33 (by decide) 3
    have w15 : dt4 0 2 = dt 0 2 := hF6 0 (by decide) 2
    have w16 : dt4 35 1 = dt 35 1 := hF6 35 (by decide) 1
    have w17 : dt4 80 0 = dt 80 0 := hF6 80 (by decide) 0
    have w18 : dt4 80 1 = dt 80 1 := hF6 80 (by decide) 1
    have w19 : dt4 80 2 = dt 80 2 := hF6 80 (by decide) 2
    have w20 : dt4 80 3 = dt 80 3 := hF6 80 (by decide) 3
    have w21 : dt4 80 4 = dt 80 4 := hF6 80 (by decide) 4
    have w22 : dt4 80 5 = dt 80 5 := hF6 80 (by decide) 5
    have w23 : dt4 81 0 = dt 81 0 := hF6 81 (by decide) 0
    have w24 : dt4 81 1 = dt 81 1 := hF6 81 (by decide) 1
    have w25 : dt4 81 2 = dt 81 2 := hF6 81 (by decide) 2
    have w26 : dt4 81 3 = dt 81 3 := hF6 81 (by decide) 3
    have w27 : dt4 81 4 = dt 81 4 := hF6 81 (by decide) 4
    have w28 : dt4 81 5 = dt 81 5 := hF6 81 (by decide) 5
    have w29 : dt4 79 2 = dt 79 2 := hF6 79 (by decide) 2
    have w30 : dt4 79 12 = dt 79 12 := hF6 79 (by decide) 12
    rcases h3 with ⟨v_h3, rfl, h3r, h3⟩ | ⟨v_h3, rfl, h3r, h3⟩
    · skip
      obtain ⟨h3_0, h3_1, h3_2, h3_3, h3_4, h3_5, h3_6, h3_7, h3_8, h3_9, h3_10, h3_11, h3_12, h3_13, h3_14, h3_15, h3_16, h3_17, h3_18⟩ := h3
      have M231 : MW (dt4 81) := MW_frk hM2 hF6 (by decide)
      have C32 : ∀ j : Nat, dt4 32 j = dt 32 j := fun j => (hF6 32 (by decide) j).trans ((fun _ => rfl) j)
      have C33 : ∀ j : Nat, dt4 34 j = dt 34 j := fun j => (hF6 34 (by decide) j).trans ((fun _ => rfl) j)
      have F34 : ∀ j : Nat, 7340 ≤ j → dt4 81 j = dt 81 j := fun j hj => (hF6 81 (by decide) j).trans ((fun _ _ => rfl) j hj)
      have F35 : ∀ j : Nat, 7340 ≤ j → dt4 80 j = dt 80 j := fun j hj => (hF6 80 (by decide) j).trans ((fun _ _ => rfl) j hj)
      have F36 : ∀ j : Nat, dt4 80 j = dt 80 j := fun j => (hF6 80 (by decide) j).trans ((fun _ => rfl) j)
      have F37 : ∀ j : Nat, dt4 81 j = dt 81 j := fun j => (hF6 81 (by decide) j).trans ((fun _ => rfl) j)
      refine go_toq PM267 (k := 6) (pc' := 1396) (L' := [some (.inr (.inr (some 3000))), some (.inr (.inr (some 0))), some (.inr (.inr (some 79))), some (.inl i)]) (st' := [.inl (i + 1), .inr (.inr (some 3000)), .inr (.inr (some 79))]) (w' := (SH, dt4)) rfl ?_
      have r38 := i32_R (xs ((i + 1).toNat))
      refine go_smpq PM267 (L' := [some (.inr (.inr (some 3000))), some (.inr (.inr (some 0))), some (.inr (.inr (some 79))), some (.inl i)]) (st' := [.inl ((xs ((i + 1).toNat)).toInt), .inr (.inr (some 79))]) (w' := (SH, dt4)) rfl rfl (s_iald (n := L) (f := fun j => (xs j).toInt) (am_scr hLL) ⟨by omega, by omega⟩) ?_
      refine go_ifq PM267 (k := 0) (p1 := 1404) (p2 := 1400) (L' := [some (.inr (.inr (some 3000))), some (.inr (.inr (some 0))), some (.inr (.inr (some 79))), some (.inl i)]) (st' := [.inr (.inr (some 79))]) (w' := (SH, dt4)) rfl (z_eq (a := (xs ((i + 1).toNat)).toInt) ⟨by omega, by omega⟩) (fun c39 => ?_) (fun c39 => ?_)
      · skip
        refine go_toq PM267 (k := 1) (pc' := 1405) (L' := [some (.inr (.inr (some 3000))), some (.inr (.inr (some 0))), some (.inr (.inr (some 79))), some (.inl i)]) (st' := [.inl 0, .inr (.inr (some 79))]) (w' := (SH, dt4)) rfl ?_
        refine go_callq PM267 PM247 (Q' := _) rfl rfl rfl rfl (sp_X6_image_0u L xs sio (d + 38) dt4 hI5 hM8   (by first | exact True.intro | with_reducible assumption | rfl | omega | trivial | exact M231 | exact RB_e hd0 hM (by omega) (by omega) | exact RB_h hd2 hM (by omega))) ?_
        rintro _ _ ⟨dt41, rfl, hI42, hF43, h40⟩
        refine ⟨rfl, ?_⟩
        have hF44 : Fr [0, 1, 2, 3, 4, 5, 6, 7, 8, 9, 10, 11, 12, 13, 14, 15, 16, 17, 18, 19, 20, 21, 22, 23, 24, 25, 26, 27, 28, 29, 30, 31, 32, 33, 34, 35, 36, 37, 38, 39, 40, 41, 42, 43, 44, 45, 46, 47, 48, 49, 50, 51, 52, 53, 54, 55, 56, 57, 58, 59, 60, 61, 62, 63, 64, 65, 66, 67, 68, 69, 70, 71, 72, 73, 74, 75, 76, 77, 78, 79, 80, 81, 82, 83, 84, 85, 86, 87, 88, 89, 90, 91, 92, 93, 94, 95, 96, 97, 98, 99, 100, 101, 102, 103, 104] dt dt41 := Fr_tr hF7 hF43 (by decide)
        have w45 : dt41 1 0 = dt4 1 0 := hF43 1 (by decide) 0
        have w46 : dt41 7 3 = dt4 7 3 := hF43 7 (by decide) 3
        have w47 : dt41 10 3 = dt4 10 3 := hF43 10 (by decide) 3
        have w48 : dt41 12 3 = dt4 12 3 := hF43 12 (by decide) 3
        have w49 : dt41 14 3 = dt4 14 3 := hF43 14 (by decide) 3
        have w50 : dt41 16 3 = dt4 16 3 := hF43 16 (by decide) 3
        have w51 : dt41 18 0 = dt4 18 0 := hF43 18 (by decide) 0
        have w52 : dt41 24 3 = dt4 24 3 := hF43 24 (by decide) 3
        have w53 : dt41 27 3 = dt4 27 3 := hF43 27 (by decide) 3
        have w54 : dt41 29 3 = dt4 29 3 := hF43 29 (by decide) 3
        have w55 : dt41 31 3 = dt4 31 3 := hF43 31 (by decide) 3
        have w56 : dt41 33 3 = dt4 33 3 := hF43 33 (by decide) 3
        have w57 : dt41 0 2 = dt4 0 2 := hF43 0 (by decide) 2
        have w58 : dt41 35 1 = dt4 35 1 := hF43 35 (by decide) 1
        have w59 : dt41 81 0 = dt4 81 0 := hF43 81 (by decide) 0
        have w60 : dt41 81 1 = dt4 81 1 := hF43 81 (by decide) 1
        have w61 : dt41 81 2 = dt4 81 2 := hF43 81 (by decide) 2
        have w62 : dt41 81 3 = dt4 81 3 := hF43 81 (by decide) 3
        have w63 : dt41 81 4 = dt4 81 4 := hF43 81 (by decide) 4
        have w64 : dt41 81 5 = dt4 81 5 := hF43 81 (by decide) 5
        rcases h40 with ⟨rfl, h40⟩ | ⟨rfl, h40⟩
        · skip
          have hM65 : MW (dt41 80) := h40.2.2.1
          obtain ⟨h40_0, h40_1, h40_2, h40_3, h40_4, h40_5, h40_6, h40_7, h40_8⟩ := h40
          have M266 : MW (dt41 81) := MW_frk M231 hF43 (by decide)
          have y67 := h40_4 0 (by decide)
          have y68 := h40_4 1 (by decide)
          have y69 := h40_4 2 (by decide)
          have y70 := h40_4 3 (by decide)
          have y71 := h40_4 4 (by decide)
          have y72 := h40_4 5 (by decide)
          have y73 := h40_5 0 (by decide)
          have y74 := h40_5 1 (by decide)
          have y75 := h40_5 2 (by decide)
          have y76 := h40_5 3 (by decide)
          have y77 := h40_5 4 (by decide)
          have y78 := h40_5 5 (by decide)
          have C79 : ∀ j : Nat, j < 80 → dt41 15 j = dt 32 j := fun j hj => (hF43 15 (by decide) j).trans (h3_15 j hj)
          have C80 : ∀ j : Nat, j < 40 → dt41 17 j = dt 34 j := fun j hj => (hF43 17 (by decide) j).trans (h3_16 j hj)
          have C81 : ∀ j : Nat, dt41 32 j = dt 32 j := fun j => (hF43 32 (by decide) j).trans (C32 j)
          have C82 : ∀ j : Nat, dt41 34 j = dt 34 j := fun j => (hF43 34 (by decide) j).trans (C33 j)
          have F83 : ∀ j : Nat, 7340 ≤ j → dt41 81 j = dt 81 j := fun j hj => (hF43 81 (by decide) j).trans (F34 j hj)
          have F84 : ∀ j : Nat, j < 7460 → dt41 80 j = dt 80 j := fun j hj => (h40_6 j hj).trans (F36 j)
          have F85 : ∀ j : Nat, j < 7460 → dt41 81 j = dt 81 j := fun j hj => (h40_7 j hj).trans (F37 j)
          have E86 : RW2 (dt41 15) (dt41 80) (dt41 80 4) 7340 := by first | exact RW2_i hd1 C79 F84 (by omega) (by decide) (by omega) | (exfalso; omega)
          have E87 : RW2 (dt41 32) (dt41 81) (dt41 81 4) 7340 := by first | exact RW2_i hd1 (fun (j : Nat) (_ : j < 80) => C81 j) F85 (by omega) (by decide) (by omega) | (exfalso; omega)
          have E88 : RW2 (dt41 17) (dt41 80) (dt41 80 5) 7420 := by first | exact RW2_i hd3 C80 F84 (by omega) (by decide) (by omega) | (exfalso; omega)
          have E89 : RW2 (dt41 34) (dt41 81) (dt41 81 5) 7420 := by first | exact RW2_i hd3 (fun (j : Nat) (_ : j < 40) => C82 j) F85 (by omega) (by decide) (by omega) | (exfalso; omega)
          have F90 : ∀ j : Nat, dt41 81 j = dt 81 j := fun j => (hF43 81 (by decide) j).trans (F37 j)
          refine go_toq PM267 (k := 2) (pc' := 1435) (L' := [some (.inr (.inr (some 3000))), some (.inr (.inr (some 0))), some (.inr (.inr (some 79))), some (.inl i)]) (st' := []) (w' := (SH, dt41)) rfl ?_
          exact K dt41 hI42 hM65 M266 (by first | omega | (simp only [*]; done) | simp only [*]) (by omega) (by omega) (by omega) (by omega) (by omega) (by omega) (by omega) (by omega) (by omega) (by omega) (by omega) (by omega) (by omega) (by first | exact E86 | exact RW2_k hd0 hI F35 (by decide) (by omega) | (exfalso; omega)) (by first | exact E87 | exact RW2_k hd1 C81 F83 (by decide) (by omega) | (exfalso; omega)) (by first | exact E88 | exact RW2_k hd2 hI F35 (by decide) (by omega) | (exfalso; omega)) (by first | exact E89 | exact RW2_k hd3 C82 F83 (by decide) (by omega) | (exfalso; omega))
        · skip
          have hM91 : MW (dt41 80) := h40.2.2.1
          obtain ⟨h40_0, h40_1, h40_2, h40_3, h40_4, h40_5, h40_6, h40_7, h40_8⟩ := h40
          replace h40_0 := hid h40_0
          have M292 : MW (dt41 81) := MW_frk M231 hF43 (by decide)
          have y93 := h40_4 0 (by decide)
          have y94 := h40_4 1 (by decide)
          have y95 := h40_4 2 (by decide)
          have y96 := h40_4 3 (by decide)
          have y97 := h40_4 4 (by decide)
          have y98 := h40_4 5 (by decide)
          have y99 := h40_5 0 (by decide)
          have y100 := h40_5 1 (by decide)
          have y101 := h40_5 2 (by decide)
          have y102 := h40_5 3 (by decide)
          have y103 := h40_5 4 (by decide)
          have y104 := h40_5 5 (by decide)
          have C105 : ∀ j : Nat, j < 80 → dt41 15 j = dt 32 j := fun j hj => (hF43 15 (by decide) j).trans (h3_15 j hj)
          have C106 : ∀ j : Nat, j < 40 → dt41 17 j = dt 34 j := fun j hj => (hF43 17 (by decide) j).trans (h3_16 j hj)
          have C107 : ∀ j : Nat, dt41 32 j = dt 32 j := fun j => (hF43 32 (by decide) j).trans (C32 j)
          have C108 : ∀ j : Nat, dt41 34 j = dt 34 j := fun j => (hF43 34 (by decide) j).trans (C33 j)
          have F109 : ∀ j : Nat, 7340 ≤ j → dt41 81 j = dt 81 j := fun j hj => (hF43 81 (by decide) j).trans (F34 j hj)
          have F110 : ∀ j : Nat, j < 7460 → dt41 80 j = dt 81 j := fun j hj => (h40_6 j hj).trans (F37 j)
          have F111 : ∀ j : Nat, j < 7460 → dt41 81 j = dt 81 j := fun j hj => (h40_7 j hj).trans (F37 j)
          have E112 : RW2 (dt41 15) (dt41 80) (dt41 80 4) 7340 := by first | exact RW2_i hd1 C105 F110 (by (first | omega | (have z0_ := unhid h40_0; omega))) (by decide) (by (first | omega | (have z0_ := unhid h40_0; omega))) | (exfalso; (first | omega | (have z0_ := unhid h40_0; omega)))
          have E113 : RW2 (dt41 32) (dt41 81) (dt41 81 4) 7340 := by first | exact RW2_i hd1 (fun (j : Nat) (_ : j < 80) => C107 j) F111 (by (first | omega | (have z0_ := unhid h40_0; omega))) (by decide) (by (first | omega | (have z0_ := unhid h40_0; omega))) | (exfalso; (first | omega | (have z0_ := unhid h40_0; omega)))
          have E114 : RW2 (dt41 17) (dt41 80) (dt41 80 5) 7420 := by first | exact RW2_i hd3 C106 F110 (by (first | omega | (have z0_ := unhid h40_0; omega))) (by decide) (by (first | omega | (have z0_ := unhid h40_0; omega))) | (exfalso; (first | omega | (have z0_ := unhid h40_0; omega)))
          have E115 : RW2 (dt41 34) (dt41 81) (dt41 81 5) 7420 := by first | exact RW2_i hd3 (fun (j : Nat) (_ : j < 40) => C108 j) F111 (by (first | omega | (have z0_ := unhid h40_0; omega))) (by decide) (by (first | omega | (have z0_ := unhid h40_0; omega))) | (exfalso; (first | omega | (have z0_ := unhid h40_0; omega)))
          have F116 : ∀ j : Nat, dt41 81 j = dt 81 j := fun j => (hF43 81 (by decide) j).trans (F37 j)
          refine go_toq PM267 (k := 2) (pc' := 1435) (L' := [some (.inr (.inr (some 3000))), some (.inr (.inr (some 0))), some (.inr (.inr (some 79))), some (.inl i)]) (st' := []) (w' := (SH, dt41)) rfl ?_
          exact K dt41 hI42 hM91 M292 (by first | (first | omega | (have z0_ := unhid h40_0; omega)) | (simp only [*]; done) | simp only [*]) (by (first | omega | (have z0_ := unhid h40_0; omega))) (by (first | omega | (have z0_ := unhid h40_0; omega))) (by (first | omega | (have z0_ := unhid h40_0; omega))) (by (first | omega | (have z0_ := unhid h40_0; omega))) (by (first | omega | (have z0_ := unhid h40_0; omega))) (by (first | omega | (have z0_ := unhid h40_0; omega))) (by (first | omega | (have z0_ := unhid h40_0; omega))) (by (first | omega | (have z0_ := unhid h40_0; omega))) (by (first | omega | (have z0_ := unhid h40_0; omega))) (by (first | omega | (have z0_ := unhid h40_0; omega))) (by (first | omega | (have z0_ := unhid h40_0; omega))) (by (first | omega | (have z0_ := unhid h40_0; omega))) (by (first | omega | (have z0_ := unhid h40_0; omega))) (by first | exact E112 | exact RW2_k hd0 hI F35 (by decide) (by (first | omega | (have z0_ := unhid h40_0; omega))) | (exfalso; (first | omega | (have z0_ := unhid h40_0; omega)))) (by first | exact E113 | exact RW2_k hd1 C107 F109 (by decide) (by (first | omega | (have z0_ := unhid h40_0; omega))) | (exfalso; (first | omega | (have z0_ := unhid h40_0; omega)))) (by first | exact E114 | exact RW2_k hd2 hI F35 (by decide) (by (first | omega | (have z0_ := unhid h40_0; omega))) | (exfalso; (first | omega | (have z0_ := unhid h40_0; omega)))) (by first | exact E115 | exact RW2_k hd3 C108 F109 (by decide) (by (first | omega | (have z0_ := unhid h40_0; omega))) | (exfalso; (first | omega | (have z0_ := unhid h40_0; omega))))
      · skip
        replace c39 := hid c39
        refine go_toq PM267 (k := 2) (pc' := 1405) (L' := [some (.inr (.inr (some 3000))), some (.inr (.inr (some 0))), some (.inr (.inr (some 79))), some (.inl i)]) (st' := [.inl 1, .inr (.inr (some 79))]) (w' := (SH, dt4)) rfl ?_
        refine go_callq PM267 PM247 (Q' := _) rfl rfl rfl rfl (sp_X6_image_1u L xs sio (d + 38) dt4 hI5 hM8   ) ?_
        rintro _ _ ⟨dt118, rfl, hI119, hF120, h117⟩
        refine ⟨rfl, ?_⟩
        have hF121 : Fr [0, 1, 2, 3, 4, 5, 6, 7, 8, 9, 10, 11, 12, 13, 14, 15, 16, 17, 18, 19, 20, 21, 22, 23, 24, 25, 26, 27, 28, 29, 30, 31, 32, 33, 34, 35, 36, 37, 38, 39, 40, 41, 42, 43, 44, 45, 46, 47, 48, 49, 50, 51, 52, 53, 54, 55, 56, 57, 58, 59, 60, 61, 62, 63, 64, 65, 66, 67, 68, 69, 70, 71, 72, 73, 74, 75, 76, 77, 78, 79, 80, 81, 82, 83, 84, 85, 86, 87, 88, 89, 90, 91, 92, 93, 94, 95, 96, 97, 98, 99, 100, 101, 102, 103, 104] dt dt118 := Fr_tr hF7 hF120 (by decide)
        have hM122 : MW (dt118 80) := MW_fr hM8 hF120 (by decide)
        have w123 : dt118 1 0 = dt4 1 0 := hF120 1 (by decide) 0
        have w124 : dt118 7 3 = dt4 7 3 := hF120 7 (by decide) 3
        have w125 : dt118 10 3 = dt4 10 3 := hF120 10 (by decide) 3
        have w126 : dt118 12 3 = dt4 12 3 := hF120 12 (by decide) 3
        have w127 : dt118 14 3 = dt4 14 3 := hF120 14 (by decide) 3
        have w128 : dt118 16 3 = dt4 16 3 := hF120 16 (by decide) 3
        have w129 : dt118 18 0 = dt4 18 0 := hF120 18 (by decide) 0
        have w130 : dt118 24 3 = dt4 24 3 := hF120 24 (by decide) 3
        have w131 : dt118 27 3 = dt4 27 3 := hF120 27 (by decide) 3
        have w132 : dt118 29 3 = dt4 29 3 := hF120 29 (by decide) 3
        have w133 : dt118 31 3 = dt4 31 3 := hF120 31 (by decide) 3
        have w134 : dt118 33 3 = dt4 33 3 := hF120 33 (by decide) 3
        have w135 : dt118 0 2 = dt4 0 2 := hF120 0 (by decide) 2
        have w136 : dt118 35 1 = dt4 35 1 := hF120 35 (by decide) 1
        have w137 : dt118 80 0 = dt4 80 0 := hF120 80 (by decide) 0
        have w138 : dt118 80 1 = dt4 80 1 := hF120 80 (by decide) 1
        have w139 : dt118 80 2 = dt4 80 2 := hF120 80 (by decide) 2
        have w140 : dt118 80 3 = dt4 80 3 := hF120 80 (by decide) 3
        have w141 : dt118 80 4 = dt4 80 4 := hF120 80 (by decide) 4
        have w142 : dt118 80 5 = dt4 80 5 := hF120 80 (by decide) 5
        rcases h117 with ⟨rfl, h117⟩
        have hM143 : MW (dt118 80) := h117.2.1
        obtain ⟨h117_0, h117_1, h117_2, h117_3, h117_4, h117_5, h117_6, h117_7⟩ := h117
        have y144 := h117_3 0 (by decide)
        have y145 := h117_3 1 (by decide)
        have y146 := h117_3 2 (by decide)
        have y147 := h117_3 3 (by decide)
        have y148 := h117_3 4 (by decide)
        have y149 := h117_3 5 (by decide)
        have y150 := h117_4 0 (by decide)
        have y151 := h117_4 1 (by decide)
        have y152 := h117_4 2 (by decide)
        have y153 := h117_4 3 (by decide)
        have y154 := h117_4 4 (by decide)
        have y155 := h117_4 5 (by decide)
        have C156 : ∀ j : Nat, j < 80 → dt118 15 j = dt 32 j := fun j hj => (hF120 15 (by decide) j).trans (h3_15 j hj)
        have C157 : ∀ j : Nat, j < 40 → dt118 17 j = dt 34 j := fun j hj => (hF120 17 (by decide) j).trans (h3_16 j hj)
        have C158 : ∀ j : Nat, dt118 32 j = dt 32 j := fun j => (hF120 32 (by decide) j).trans (C32 j)
        have C159 : ∀ j : Nat, dt118 34 j = dt 34 j := fun j => (hF120 34 (by decide) j).trans (C33 j)
        have F160 : ∀ j : Nat, j < 7460 → dt118 80 j = dt 80 j := fun j hj => (h117_5 j hj).trans (F36 j)
        have F161 : ∀ j : Nat, j < 7460 → dt118 81 j = dt 80 j := fun j hj => (h117_6 j hj).trans (F36 j)
        have E162 : RW2 (dt118 15) (dt118 80) (dt118 80 4) 7340 := by first | exact RW2_i hd1 C156 F160 (by (first | omega | (have z0_ := unhid c39; omega))) (by decide) (by (first | omega | (have z0_ := unhid c39; omega))) | (exfalso; (first | omega | (have z0_ := unhid c39; omega)))
        have E163 : RW2 (dt118 32) (dt118 81) (dt118 81 4) 7340 := by first | exact RW2_i hd1 (fun (j : Nat) (_ : j < 80) => C158 j) F161 (by (first | omega | (have z0_ := unhid c39; omega))) (by decide) (by (first | omega | (have z0_ := unhid c39; omega))) | (exfalso; (first | omega | (have z0_ := unhid c39; omega)))
        have E164 : RW2 (dt118 17) (dt118 80) (dt118 80 5) 7420 := by first | exact RW2_i hd3 C157 F160 (by (first | omega | (have z0_ := unhid c39; omega))) (by decide) (by (first | omega | (have z0_ := unhid c39; omega))) | (exfalso; (first | omega | (have z0_ := unhid c39; omega)))
        have E165 : RW2 (dt118 34) (dt118 81) (dt118 81 5) 7420 := by first | exact RW2_i hd3 (fun (j : Nat) (_ : j < 40) => C159 j) F161 (by (first | omega | (have z0_ := unhid c39; omega))) (by decide) (by (first | omega | (have z0_ := unhid c39; omega))) | (exfalso; (first | omega | (have z0_ := unhid c39; omega)))
        have F166 : ∀ j : Nat, dt118 80 j = dt 80 j := fun j => (hF120 80 (by decide) j).trans (F36 j)
        refine go_toq PM267 (k := 2) (pc' := 1435) (L' := [some (.inr (.inr (some 3000))), some (.inr (.inr (some 0))), some (.inr (.inr (some 79))), some (.inl i)]) (st' := []) (w' := (SH, dt118)) rfl ?_
        exact K dt118 hI119 hM143 h117_2 (by first | (first | omega | (have z0_ := unhid c39; omega)) | (simp only [*]; done) | simp only [*]) (by (first | omega | (have z0_ := unhid c39; omega))) (by (first | omega | (have z0_ := unhid c39; omega))) (by (first | omega | (have z0_ := unhid c39; omega))) (by (first | omega | (have z0_ := unhid c39; omega))) (by (first | omega | (have z0_ := unhid c39; omega))) (by (first | omega | (have z0_ := unhid c39; omega))) (by (first | omega | (have z0_ := unhid c39; omega))) (by (first | omega | (have z0_ := unhid c39; omega))) (by (first | omega | (have z0_ := unhid c39; omega))) (by (first | omega | (have z0_ := unhid c39; omega))) (by (first | omega | (have z0_ := unhid c39; omega))) (by (first | omega | (have z0_ := unhid c39; omega))) (by (first | omega | (have z0_ := unhid c39; omega))) (by first | exact E162 | exact RW2_k hd0 hI F35 (by decide) (by (first | omega | (have z0_ := unhid c39; omega))) | (exfalso; (first | omega | (have z0_ := unhid c39; omega)))) (by first | exact E163 | exact RW2_k hd1 C158 F34 (by decide) (by (first | omega | (have z0_ := unhid c39; omega))) | (exfalso; (first | omega | (have z0_ := unhid c39; omega)))) (by first | exact E164 | exact RW2_k hd2 hI F35 (by decide) (by (first | omega | (have z0_ := unhid c39; omega))) | (exfalso; (first | omega | (have z0_ := unhid c39; omega)))) (by first | exact E165 | exact RW2_k hd3 C159 F34 (by decide) (by (first | omega | (have z0_ := unhid c39; omega))) | (exfalso; (first | omega | (have z0_ := unhid c39; omega))))
    · skip
      obtain ⟨h3_0, h3_1, h3_2, h3_3, h3_4, h3_5, h3_6, h3_7, h3_8, h3_9, h3_10, h3_11, h3_12, h3_13, h3_14, h3_15, h3_16, h3_17, h3_18⟩ := h3
      have M2167 : MW (dt4 81) := MW_frk hM2 hF6 (by decide)
      have C168 : ∀ j : Nat, dt4 32 j = dt 32 j := fun j => (hF6 32 (by decide) j).trans ((fun _ => rfl) j)
      have C169 : ∀ j : Nat, dt4 34 j = dt 34 j := fun j => (hF6 34 (by decide) j).trans ((fun _ => rfl) j)
      have F170 : ∀ j : Nat, 7340 ≤ j → dt4 81 j = dt 81 j := fun j hj => (hF6 81 (by decide) j).trans ((fun _ _ => rfl) j hj)
      have F171 : ∀ j : Nat, 7340 ≤ j → dt4 80 j = dt 80 j := fun j hj => (hF6 80 (by decide) j).trans ((fun _ _ => rfl) j hj)
      have F172 : ∀ j : Nat, dt4 80 j = dt 80 j := fun j => (hF6 80 (by decide) j).trans ((fun _ => rfl) j)
      have F173 : ∀ j : Nat, dt4 81 j = dt 81 j := fun j => (hF6 81 (by decide) j).trans ((fun _ => rfl) j)
      refine go_toq PM267 (k := 6) (pc' := 1396) (L' := [some (.inr (.inr (some 3000))), some (.inr (.inr (some 0))), some (.inr (.inr (some 79))), some (.inl i)]) (st' := [.inl (i + 1), .inr (.inr (some 3000)), .inr (.inr (some 79))]) (w' := (SH, dt4)) rfl ?_
      have r174 := i32_R (xs ((i + 1).toNat))
      refine go_smpq PM267 (L' := [some (.inr (.inr (some 3000))), some (.inr (.inr (some 0))), some (.inr (.inr (some 79))), some (.inl i)]) (st' := [.inl ((xs ((i + 1).toNat)).toInt), .inr (.inr (some 79))]) (w' := (SH, dt4)) rfl rfl (s_iald (n := L) (f := fun j => (xs j).toInt) (am_scr hLL) ⟨by omega, by omega⟩) ?_
      refine go_ifq PM267 (k := 0) (p1 := 1404) (p2 := 1400) (L' := [some (.inr (.inr (some 3000))), some (.inr (.inr (some 0))), some (.inr (.inr (some 79))), some (.inl i)]) (st' := [.inr (.inr (some 79))]) (w' := (SH, dt4)) rfl (z_eq (a := (xs ((i + 1).toNat)).toInt) ⟨by omega, by omega⟩) (fun c175 => ?_) (fun c175 => ?_)
      · skip
        refine go_toq PM267 (k := 1) (pc' := 1405) (L' := [some (.inr (.inr (some 3000))), some (.inr (.inr (some 0))), some (.inr (.inr (some 79))), some (.inl i)]) (st' := [.inl 0, .inr (.inr (some 79))]) (w' := (SH, dt4)) rfl ?_
        refine go_callq PM267 PM247 (Q' := _) rfl rfl rfl rfl (sp_X6_image_0u L xs sio (d + 38) dt4 hI5 hM8   (by first | exact True.intro | with_reducible assumption | rfl | omega | trivial | exact M2167 | exact RB_e hd0 hM (by omega) (by omega) | exact RB_h hd2 hM (by omega))) ?_
        rintro _ _ ⟨dt177, rfl, hI178, hF179, h176⟩
        refine ⟨rfl, ?_⟩
        have hF180 : Fr [0, 1, 2, 3, 4, 5, 6, 7, 8, 9, 10, 11, 12, 13, 14, 15, 16, 17, 18, 19, 20, 21, 22, 23, 24, 25, 26, 27, 28, 29, 30, 31, 32, 33, 34, 35, 36, 37, 38, 39, 40, 41, 42, 43, 44, 45, 46, 47, 48, 49, 50, 51, 52, 53, 54, 55, 56, 57, 58, 59, 60, 61, 62, 63, 64, 65, 66, 67, 68, 69, 70, 71, 72, 73, 74, 75, 76, 77, 78, 79, 80, 81, 82, 83, 84, 85, 86, 87, 88, 89, 90, 91, 92, 93, 94, 95, 96, 97, 98, 99, 100, 101, 102, 103, 104] dt dt177 := Fr_tr hF7 hF179 (by decide)
        have w181 : dt177 1 0 = dt4 1 0 := hF179 1 (by decide) 0
        have w182 : dt177 7 3 = dt4 7 3 := hF179 7 (by decide) 3
        have w183 : dt177 10 3 = dt4 10 3 := hF179 10 (by decide) 3
        have w184 : dt177 12 3 = dt4 12 3 := hF179 12 (by decide) 3
        have w185 : dt177 14 3 = dt4 14 3 := hF179 14 (by decide) 3
        have w186 : dt177 16 3 = dt4 16 3 := hF179 16 (by decide) 3
        have w187 : dt177 18 0 = dt4 18 0 := hF179 18 (by decide) 0
        have w188 : dt177 24 3 = dt4 24 3 := hF179 24 (by decide) 3
        have w189 : dt177 27 3 = dt4 27 3 := hF179 27 (by decide) 3
        have w190 : dt177 29 3 = dt4 29 3 := hF179 29 (by decide) 3
        have w191 : dt177 31 3 = dt4 31 3 := hF179 31 (by decide) 3
        have w192 : dt177 33 3 = dt4 33 3 := hF179 33 (by decide) 3
        have w193 : dt177 0 2 = dt4 0 2 := hF179 0 (by decide) 2
        have w194 : dt177 35 1 = dt4 35 1 := hF179 35 (by decide) 1
        have w195 : dt177 81 0 = dt4 81 0 := hF179 81 (by decide) 0
        have w196 : dt177 81 1 = dt4 81 1 := hF179 81 (by decide) 1
        have w197 : dt177 81 2 = dt4 81 2 := hF179 81 (by decide) 2
        have w198 : dt177 81 3 = dt4 81 3 := hF179 81 (by decide) 3
        have w199 : dt177 81 4 = dt4 81 4 := hF179 81 (by decide) 4
        have w200 : dt177 81 5 = dt4 81 5 := hF179 81 (by decide) 5
        rcases h176 with ⟨rfl, h176⟩ | ⟨rfl, h176⟩
        · skip
          have hM201 : MW (dt177 80) := h176.2.2.1
          obtain ⟨h176_0, h176_1, h176_2, h176_3, h176_4, h176_5, h176_6, h176_7, h176_8⟩ := h176
          have M2202 : MW (dt177 81) := MW_frk M2167 hF179 (by decide)
          have y203 := h176_4 0 (by decide)
          have y204 := h176_4 1 (by decide)
          have y205 := h176_4 2 (by decide)
          have y206 := h176_4 3 (by decide)
          have y207 := h176_4 4 (by decide)
          have y208 := h176_4 5 (by decide)
          have y209 := h176_5 0 (by decide)
          have y210 := h176_5 1 (by decide)
          have y211 := h176_5 2 (by decide)
          have y212 := h176_5 3 (by decide)
          have y213 := h176_5 4 (by decide)
          have y214 := h176_5 5 (by decide)
          have C215 : ∀ j : Nat, j < 80 → dt177 15 j = dt 15 j := fun j hj => (hF179 15 (by decide) j).trans (h3_15 j hj)
          have C216 : ∀ j : Nat, j < 40 → dt177 17 j = dt 17 j := fun j hj => (hF179 17 (by decide) j).trans (h3_16 j hj)
          have C217 : ∀ j : Nat, dt177 32 j = dt 32 j := fun j => (hF179 32 (by decide) j).trans (C168 j)
          have C218 : ∀ j : Nat, dt177 34 j = dt 34 j := fun j => (hF179 34 (by decide) j).trans (C169 j)
          have F219 : ∀ j : Nat, 7340 ≤ j → dt177 81 j = dt 81 j := fun j hj => (hF179 81 (by decide) j).trans (F170 j hj)
          have F220 : ∀ j : Nat, j < 7460 → dt177 80 j = dt 80 j := fun j hj => (h176_6 j hj).trans (F172 j)
          have F221 : ∀ j : Nat, j < 7460 → dt177 81 j = dt 81 j := fun j hj => (h176_7 j hj).trans (F173 j)
          have E222 : RW2 (dt177 15) (dt177 80) (dt177 80 4) 7340 := by first | exact RW2_i hd0 C215 F220 (by omega) (by decide) (by omega) | (exfalso; omega)
          have E223 : RW2 (dt177 32) (dt177 81) (dt177 81 4) 7340 := by first | exact RW2_i hd1 (fun (j : Nat) (_ : j < 80) => C217 j) F221 (by omega) (by decide) (by omega) | (exfalso; omega)
          have E224 : RW2 (dt177 17) (dt177 80) (dt177 80 5) 7420 := by first | exact RW2_i hd2 C216 F220 (by omega) (by decide) (by omega) | (exfalso; omega)
          have E225 : RW2 (dt177 34) (dt177 81) (dt177 81 5) 7420 := by first | exact RW2_i hd3 (fun (j : Nat) (_ : j < 40) => C218 j) F221 (by omega) (by decide) (by omega) | (exfalso; omega)
          have F226 : ∀ j : Nat, dt177 81 j = dt 81 j := fun j => (hF179 81 (by decide) j).trans (F173 j)
          refine go_toq PM267 (k := 2) (pc' := 1435) (L' := [some (.inr (.inr (some 3000))), some (.inr (.inr (some 0))), some (.inr (.inr (some 79))), some (.inl i)]) (st' := []) (w' := (SH, dt177)) rfl ?_
          exact K dt177 hI178 hM201 M2202 (by first | omega | (simp only [*]; done) | simp only [*]) (by omega) (by omega) (by omega) (by omega) (by omega) (by omega) (by omega) (by omega) (by omega) (by omega) (by omega) (by omega) (by omega) (by first | exact E222 | exact RW2_k hd0 hI F171 (by decide) (by omega) | (exfalso; omega)) (by first | exact E223 | exact RW2_k hd1 C217 F219 (by decide) (by omega) | (exfalso; omega)) (by first | exact E224 | exact RW2_k hd2 hI F171 (by decide) (by omega) | (exfalso; omega)) (by first | exact E225 | exact RW2_k hd3 C218 F219 (by decide) (by omega) | (exfalso; omega))
        · skip
          have hM227 : MW (dt177 80) := h176.2.2.1
          obtain ⟨h176_0, h176_1, h176_2, h176_3, h176_4, h176_5, h176_6, h176_7, h176_8⟩ := h176
          replace h176_0 := hid h176_0
          have M2228 : MW (dt177 81) := MW_frk M2167 hF179 (by decide)
          have y229 := h176_4 0 (by decide)
          have y230 := h176_4 1 (by decide)
          have y231 := h176_4 2 (by decide)
          have y232 := h176_4 3 (by decide)
          have y233 := h176_4 4 (by decide)
          have y234 := h176_4 5 (by decide)
          have y235 := h176_5 0 (by decide)
          have y236 := h176_5 1 (by decide)
          have y237 := h176_5 2 (by decide)
          have y238 := h176_5 3 (by decide)
          have y239 := h176_5 4 (by decide)
          have y240 := h176_5 5 (by decide)
          have C241 : ∀ j : Nat, j < 80 → dt177 15 j = dt 15 j := fun j hj => (hF179 15 (by decide) j).trans (h3_15 j hj)
          have C242 : ∀ j : Nat, j < 40 → dt177 17 j = dt 17 j := fun j hj => (hF179 17 (by decide) j).trans (h3_16 j hj)
          have C243 : ∀ j : Nat, dt177 32 j = dt 32 j := fun j => (hF179 32 (by decide) j).trans (C168 j)
          have C244 : ∀ j : Nat, dt177 34 j = dt 34 j := fun j => (hF179 34 (by decide) j).trans (C169 j)
          have F245 : ∀ j : Nat, 7340 ≤ j → dt177 81 j = dt 81 j := fun j hj => (hF179 81 (by decide) j).trans (F170 j hj)
          have F246 : ∀ j : Nat, j < 7460 → dt177 80 j = dt 81 j := fun j hj => (h176_6 j hj).trans (F173 j)
          have F247 : ∀ j : Nat, j < 7460 → dt177 81 j = dt 81 j := fun j hj => (h176_7 j hj).trans (F173 j)
          have E248 : RW2 (dt177 15) (dt177 80) (dt177 80 4) 7340 := by first | exact RW2_i hd0 C241 F246 (by (first | omega | (have z0_ := unhid h176_0; omega))) (by decide) (by (first | omega | (have z0_ := unhid h176_0; omega))) | (exfalso; (first | omega | (have z0_ := unhid h176_0; omega)))
          have E249 : RW2 (dt177 32) (dt177 81) (dt177 81 4) 7340 := by first | exact RW2_i hd1 (fun (j : Nat) (_ : j < 80) => C243 j) F247 (by (first | omega | (have z0_ := unhid h176_0; omega))) (by decide) (by (first | omega | (have z0_ := unhid h176_0; omega))) | (exfalso; (first | omega | (have z0_ := unhid h176_0; omega)))
          have E250 : RW2 (dt177 17) (dt177 80) (dt177 80 5) 7420 := by first | exact RW2_i hd2 C242 F246 (by (first | omega | (have z0_ := unhid h176_0; omega))) (by decide) (by (first | omega | (have z0_ := unhid h176_0; omega))) | (exfalso; (first | omega | (have z0_ := unhid h176_0; omega)))
          have E251 : RW2 (dt177 34) (dt177 81) (dt177 81 5) 7420 := by first | exact RW2_i hd3 (fun (j : Nat) (_ : j < 40) => C244 j) F247 (by (first | omega | (have z0_ := unhid h176_0; omega))) (by decide) (by (first | omega | (have z0_ := unhid h176_0; omega))) | (exfalso; (first | omega | (have z0_ := unhid h176_0; omega)))
          have F252 : ∀ j : Nat, dt177 81 j = dt 81 j := fun j => (hF179 81 (by decide) j).trans (F173 j)
          refine go_toq PM267 (k := 2) (pc' := 1435) (L' := [some (.inr (.inr (some 3000))), some (.inr (.inr (some 0))), some (.inr (.inr (some 79))), some (.inl i)]) (st' := []) (w' := (SH, dt177)) rfl ?_
          exact K dt177 hI178 hM227 M2228 (by first | (first | omega | (have z0_ := unhid h176_0; omega)) | (simp only [*]; done) | simp only [*]) (by (first | omega | (have z0_ := unhid h176_0; omega))) (by (first | omega | (have z0_ := unhid h176_0; omega))) (by (first | omega | (have z0_ := unhid h176_0; omega))) (by (first | omega | (have z0_ := unhid h176_0; omega))) (by (first | omega | (have z0_ := unhid h176_0; omega))) (by (first | omega | (have z0_ := unhid h176_0; omega))) (by (first | omega | (have z0_ := unhid h176_0; omega))) (by (first | omega | (have z0_ := unhid h176_0; omega))) (by (first | omega | (have z0_ := unhid h176_0; omega))) (by (first | omega | (have z0_ := unhid h176_0; omega))) (by (first | omega | (have z0_ := unhid h176_0; omega))) (by (first | omega | (have z0_ := unhid h176_0; omega))) (by (first | omega | (have z0_ := unhid h176_0; omega))) (by first | exact E248 | exact RW2_k hd0 hI F171 (by decide) (by (first | omega | (have z0_ := unhid h176_0; omega))) | (exfalso; (first | omega | (have z0_ := unhid h176_0; omega)))) (by first | exact E249 | exact RW2_k hd1 C243 F245 (by decide) (by (first | omega | (have z0_ := unhid h176_0; omega))) | (exfalso; (first | omega | (have z0_ := unhid h176_0; omega)))) (by first | exact E250 | exact RW2_k hd2 hI F171 (by decide) (by (first | omega | (have z0_ := unhid h176_0; omega))) | (exfalso; (first | omega | (have z0_ := unhid h176_0; omega)))) (by first | exact E251 | exact RW2_k hd3 C244 F245 (by decide) (by (first | omega | (have z0_ := unhid h176_0; omega))) | (exfalso; (first | omega | (have z0_ := unhid h176_0; omega))))
      · skip
        replace c175 := hid c175
        refine go_toq PM267 (k := 2) (pc' := 1405) (L' := [some (.inr (.inr (some 3000))), some (.inr (.inr (some 0))), some (.inr (.inr (some 79))), some (.inl i)]) (st' := [.inl 1, .inr (.inr (some 79))]) (w' := (SH, dt4)) rfl ?_
        refine go_callq PM267 PM247 (Q' := _) rfl rfl rfl rfl (sp_X6_image_1u L xs sio (d + 38) dt4 hI5 hM8   ) ?_
        rintro _ _ ⟨dt254, rfl, hI255, hF256, h253⟩
        refine ⟨rfl, ?_⟩
        have hF257 : Fr [0, 1, 2, 3, 4, 5, 6, 7, 8, 9, 10, 11, 12, 13, 14, 15, 16, 17, 18, 19, 20, 21, 22, 23, 24, 25, 26, 27, 28, 29, 30, 31, 32, 33, 34, 35, 36, 37, 38, 39, 40, 41, 42, 43, 44, 45, 46, 47, 48, 49, 50, 51, 52, 53, 54, 55, 56, 57, 58, 59, 60, 61, 62, 63, 64, 65, 66, 67, 68, 69, 70, 71, 72, 73, 74, 75, 76, 77, 78, 79, 80, 81, 82, 83, 84, 85, 86, 87, 88, 89, 90, 91, 92, 93, 94, 95, 96, 97, 98, 99, 100, 101, 102, 103, 104] dt dt254 := Fr_tr hF7 hF256 (by decide)
        have hM258 : MW (dt254 80) := MW_fr hM8 hF256 (by decide)
        have w259 : dt254 1 0 = dt4 1 0 := hF256 1 (by decide) 0
        have w260 : dt254 7 3 = dt4 7 3 := hF256 7 (by decide) 3
        have w261 : dt254 10 3 = dt4 10 3 := hF256 10 (by decide) 3
        have w262 : dt254 12 3 = dt4 12 3 := hF256 12 (by decide) 3
        have w263 : dt254 14 3 = dt4 14 3 := hF256 14 (by decide) 3
        have w264 : dt254 16 3 = dt4 16 3 := hF256 16 (by decide) 3
        have w265 : dt254 18 0 = dt4 18 0 := hF256 18 (by decide) 0
        have w266 : dt254 24 3 = dt4 24 3 := hF256 24 (by decide) 3
        have w267 : dt254 27 3 = dt4 27 3 := hF256 27 (by decide) 3
        have w268 : dt254 29 3 = dt4 29 3 := hF256 29 (by decide) 3
        have w269 : dt254 31 3 = dt4 31 3 := hF256 31 (by decide) 3
        have w270 : dt254 33 3 = dt4 33 3 := hF256 33 (by decide) 3
        have w271 : dt254 0 2 = dt4 0 2 := hF256 0 (by decide) 2
        have w272 : dt254 35 1 = dt4 35 1 := hF256 35 (by decide) 1
        have w273 : dt254 80 0 = dt4 80 0 := hF256 80 (by decide) 0
        have w274 : dt254 80 1 = dt4 80 1 := hF256 80 (by decide) 1
        have w275 : dt254 80 2 = dt4 80 2 := hF256 80 (by decide) 2
        have w276 : dt254 80 3 = dt4 80 3 := hF256 80 (by decide) 3
        have w277 : dt254 80 4 = dt4 80 4 := hF256 80 (by decide) 4
        have w278 : dt254 80 5 = dt4 80 5 := hF256 80 (by decide) 5
        rcases h253 with ⟨rfl, h253⟩
        have hM279 : MW (dt254 80) := h253.2.1
        obtain ⟨h253_0, h253_1, h253_2, h253_3, h253_4, h253_5, h253_6, h253_7⟩ := h253
        have y280 := h253_3 0 (by decide)
        have y281 := h253_3 1 (by decide)
        have y282 := h253_3 2 (by decide)
        have y283 := h253_3 3 (by decide)
        have y284 := h253_3 4 (by decide)
        have y285 := h253_3 5 (by decide)
        have y286 := h253_4 0 (by decide)
        have y287 := h253_4 1 (by decide)
        have y288 := h253_4 2 (by decide)
        have y289 := h253_4 3 (by decide)
        have y290 := h253_4 4 (by decide)
        have y291 := h253_4 5 (by decide)
        have C292 : ∀ j : Nat, j < 80 → dt254 15 j = dt 15 j := fun j hj => (hF256 15 (by decide) j).trans (h3_15 j hj)
        have C293 : ∀ j : Nat, j < 40 → dt254 17 j = dt 17 j := fun j hj => (hF256 17 (by decide) j).trans (h3_16 j hj)
        have C294 : ∀ j : Nat, dt254 32 j = dt 32 j := fun j => (hF256 32 (by decide) j).trans (C168 j)
        have C295 : ∀ j : Nat, dt254 34 j = dt 34 j := fun j => (hF256 34 (by decide) j).trans (C169 j)
        have F296 : ∀ j : Nat, j < 7460 → dt254 80 j = dt 80 j := fun j hj => (h253_5 j hj).trans (F172 j)
        have F297 : ∀ j : Nat, j < 7460 → dt254 81 j = dt 80 j := fun j hj => (h253_6 j hj).trans (F172 j)
        have E298 : RW2 (dt254 15) (dt254 80) (dt254 80 4) 7340 := by first | exact RW2_i hd0 C292 F296 (by (first | omega | (have z0_ := unhid c175; omega))) (by decide) (by (first | omega | (have z0_ := unhid c175; omega))) | (exfalso; (first | omega | (have z0_ := unhid c175; omega)))
        have E299 : RW2 (dt254 32) (dt254 81) (dt254 81 4) 7340 := by first | exact RW2_i hd1 (fun (j : Nat) (_ : j < 80) => C294 j) F297 (by (first | omega | (have z0_ := unhid c175; omega))) (by decide) (by (first | omega | (have z0_ := unhid c175; omega))) | (exfalso; (first | omega | (have z0_ := unhid c175; omega)))
        have E300 : RW2 (dt254 17) (dt254 80) (dt254 80 5) 7420 := by first | exact RW2_i hd2 C293 F296 (by (first | omega | (have z0_ := unhid c175; omega))) (by decide) (by (first | omega | (have z0_ := unhid c175; omega))) | (exfalso; (first | omega | (have z0_ := unhid c175; omega)))
        have E301 : RW2 (dt254 34) (dt254 81) (dt254 81 5) 7420 := by first | exact RW2_i hd3 (fun (j : Nat) (_ : j < 40) => C295 j) F297 (by (first | omega | (have z0_ := unhid c175; omega))) (by decide) (by (first | omega | (have z0_ := unhid c175; omega))) | (exfalso; (first | omega | (have z0_ := unhid c175; omega)))
        have F302 : ∀ j : Nat, dt254 80 j = dt 80 j := fun j => (hF256 80 (by decide) j).trans (F172 j)
        refine go_toq PM267 (k := 2) (pc' := 1435) (L' := [some (.inr (.inr (some 3000))), some (.inr (.inr (some 0))), some (.inr (.inr (some 79))), some (.inl i)]) (st' := []) (w' := (SH, dt254)) rfl ?_
        exact K dt254 hI255 hM279 h253_2 (by first | (first | omega | (have z0_ := unhid c175; omega)) | (simp only [*]; done) | simp only [*]) (by (first | omega | (have z0_ := unhid c175; omega))) (by (first | omega | (have z0_ := unhid c175; omega))) (by (first | omega | (have z0_ := unhid c175; omega))) (by (first | omega | (have z0_ := unhid c175; omega))) (by (first | omega | (have z0_ := unhid c175; omega))) (by (first | omega | (have z0_ := unhid c175; omega))) (by (first | omega | (have z0_ := unhid c175; omega))) (by (first | omega | (have z0_ := unhid c175; omega))) (by (first | omega | (have z0_ := unhid c175; omega))) (by (first | omega | (have z0_ := unhid c175; omega))) (by (first | omega | (have z0_ := unhid c175; omega))) (by (first | omega | (have z0_ := unhid c175; omega))) (by (first | omega | (have z0_ := unhid c175; omega))) (by first | exact E298 | exact RW2_k hd0 hI F171 (by decide) (by (first | omega | (have z0_ := unhid c175; omega))) | (exfalso; (first | omega | (have z0_ := unhid c175; omega)))) (by first | exact E299 | exact RW2_k hd1 C294 F170 (by decide) (by (first | omega | (have z0_ := unhid c175; omega))) | (exfalso; (first | omega | (have z0_ := unhid c175; omega)))) (by first | exact E300 | exact RW2_k hd2 hI F171 (by decide) (by (first | omega | (have z0_ := unhid c175; omega))) | (exfalso; (first | omega | (have z0_ := unhid c175; omega)))) (by first | exact E301 | exact RW2_k hd3 C295 F170 (by decide) (by (first | omega | (have z0_ := unhid c175; omega))) | (exfalso; (first | omega | (have z0_ := unhid c175; omega))))
  · skip
    replace c2 := hid c2
    refine go_toq PM267 (k := 2) (pc' := 1387) (L' := [some (.inr (.inr (some 3000))), some (.inr (.inr (some 0))), some (.inr (.inr (some 79))), some (.inl i)]) (st' := [.inl 1, .inr (.inr (some 0))]) (w' := (SH, dt)) rfl ?_
    refine go_callq PM267 PM98 (Q' := _) rfl rfl rfl rfl (sp_X5_image_1f L xs sio (d + 35) dt hI   ) ?_
    rintro _ _ ⟨dt304, rfl, hI305, hF306, h303⟩
    refine ⟨rfl, ?_⟩
    have hF307 : Fr [0, 1, 2, 3, 4, 5, 6, 7, 8, 9, 10, 11, 12, 13, 14, 15, 16, 17, 18, 19, 20, 21, 22, 23, 24, 25, 26, 27, 28, 29, 30, 31, 32, 33, 34, 35, 36, 37, 38, 39, 40, 41, 42, 43, 44, 45, 46, 47, 48, 49, 50, 51, 52, 53, 54, 55, 56, 57, 58, 59, 60, 61, 62, 63, 64, 65, 66, 67, 68, 69, 70, 71, 72, 73, 74, 75, 76, 77, 78, 79, 80, 81, 82, 83, 84, 85, 86, 87, 88, 89, 90, 91, 92, 93, 94, 95, 96, 97, 98, 99, 100, 101, 102, 103, 104] dt dt304 := Fr_tr hF hF306 (by decide)
    have hM308 : MW (dt304 80) := MW_fr hM hF306 (by decide)
    have w309 : dt304 1 0 = dt 1 0 := hF306 1 (by decide) 0
    have w310 : dt304 7 3 = dt 7 3 := hF306 7 (by decide) 3
    have w311 : dt304 10 3 = dt 10 3 := hF306 10 (by decide) 3
    have w312 : dt304 12 3 = dt 12 3 := hF306 12 (by decide) 3
    have w313 : dt304 14 3 = dt 14 3 := hF306 14 (by decide) 3
    have w314 : dt304 16 3 = dt 16 3 := hF306 16 (by decide) 3
    have w315 : dt304 35 1 = dt 35 1 := hF306 35 (by decide) 1
    have w316 : dt304 80 0 = dt 80 0 := hF306 80 (by decide) 0
    have w317 : dt304 80 1 = dt 80 1 := hF306 80 (by decide) 1
    have w318 : dt304 80 2 = dt 80 2 := hF306 80 (by decide) 2
    have w319 : dt304 80 3 = dt 80 3 := hF306 80 (by decide) 3
    have w320 : dt304 80 4 = dt 80 4 := hF306 80 (by decide) 4
    have w321 : dt304 80 5 = dt 80 5 := hF306 80 (by decide) 5
    have w322 : dt304 81 0 = dt 81 0 := hF306 81 (by decide) 0
    have w323 : dt304 81 1 = dt 81 1 := hF306 81 (by decide) 1
    have w324 : dt304 81 2 = dt 81 2 := hF306 81 (by decide) 2
    have w325 : dt304 81 3 = dt 81 3 := hF306 81 (by decide) 3
    have w326 : dt304 81 4 = dt 81 4 := hF306 81 (by decide) 4
    have w327 : dt304 81 5 = dt 81 5 := hF306 81 (by decide) 5
    have w328 : dt304 79 2 = dt 79 2 := hF306 79 (by decide) 2
    have w329 : dt304 79 12 = dt 79 12 := hF306 79 (by decide) 12
    rcases h303 with ⟨v_h303, rfl, h303r, h303⟩
    obtain ⟨h303_0, h303_1, h303_2, h303_3, h303_4, h303_5, h303_6, h303_7, h303_8, h303_9, h303_10, h303_11, h303_12, h303_13, h303_14, h303_15, h303_16, h303_17⟩ := h303
    have M2330 : MW (dt304 81) := MW_frk hM2 hF306 (by decide)
    have C331 : ∀ j : Nat, dt304 15 j = dt 15 j := fun j => (hF306 15 (by decide) j).trans ((fun _ => rfl) j)
    have C332 : ∀ j : Nat, dt304 17 j = dt 17 j := fun j => (hF306 17 (by decide) j).trans ((fun _ => rfl) j)
    have F333 : ∀ j : Nat, 7340 ≤ j → dt304 81 j = dt 81 j := fun j hj => (hF306 81 (by decide) j).trans ((fun _ _ => rfl) j hj)
    have F334 : ∀ j : Nat, 7340 ≤ j → dt304 80 j = dt 80 j := fun j hj => (hF306 80 (by decide) j).trans ((fun _ _ => rfl) j hj)
    have F335 : ∀ j : Nat, dt304 80 j = dt 80 j := fun j => (hF306 80 (by decide) j).trans ((fun _ => rfl) j)
    have F336 : ∀ j : Nat, dt304 81 j = dt 81 j := fun j => (hF306 81 (by decide) j).trans ((fun _ => rfl) j)
    refine go_toq PM267 (k := 6) (pc' := 1396) (L' := [some (.inr (.inr (some 3000))), some (.inr (.inr (some 0))), some (.inr (.inr (some 79))), some (.inl i)]) (st' := [.inl (i + 1), .inr (.inr (some 3000)), .inr (.inr (some 79))]) (w' := (SH, dt304)) rfl ?_
    have r337 := i32_R (xs ((i + 1).toNat))
    refine go_smpq PM267 (L' := [some (.inr (.inr (some 3000))), some (.inr (.inr (some 0))), some (.inr (.inr (some 79))), some (.inl i)]) (st' := [.inl ((xs ((i + 1).toNat)).toInt), .inr (.inr (some 79))]) (w' := (SH, dt304)) rfl rfl (s_iald (n := L) (f := fun j => (xs j).toInt) (am_scr hLL) ⟨by (first | omega | (have z0_ := unhid c2; omega)), by (first | omega | (have z0_ := unhid c2; omega))⟩) ?_
    refine go_ifq PM267 (k := 0) (p1 := 1404) (p2 := 1400) (L' := [some (.inr (.inr (some 3000))), some (.inr (.inr (some 0))), some (.inr (.inr (some 79))), some (.inl i)]) (st' := [.inr (.inr (some 79))]) (w' := (SH, dt304)) rfl (z_eq (a := (xs ((i + 1).toNat)).toInt) ⟨by (first | omega | (have z0_ := unhid c2; omega)), by (first | omega | (have z0_ := unhid c2; omega))⟩) (fun c338 => ?_) (fun c338 => ?_)
    · skip
      refine go_toq PM267 (k := 1) (pc' := 1405) (L' := [some (.inr (.inr (some 3000))), some (.inr (.inr (some 0))), some (.inr (.inr (some 79))), some (.inl i)]) (st' := [.inl 0, .inr (.inr (some 79))]) (w' := (SH, dt304)) rfl ?_
      refine go_callq PM267 PM247 (Q' := _) rfl rfl rfl rfl (sp_X6_image_0u L xs sio (d + 38) dt304 hI305 hM308   (by first | exact True.intro | with_reducible assumption | exact unhid (by with_reducible assumption) | rfl | (first | omega | (have z0_ := unhid c2; omega)) | trivial | exact M2330 | exact RB_e hd0 hM (by (first | omega | (have z0_ := unhid c2; omega))) (by (first | omega | (have z0_ := unhid c2; omega))) | exact RB_h hd2 hM (by (first | omega | (have z0_ := unhid c2; omega))))) ?_
      rintro _ _ ⟨dt340, rfl, hI341, hF342, h339⟩
      refine ⟨rfl, ?_⟩
      have hF343 : Fr [0, 1, 2, 3, 4, 5, 6, 7, 8, 9, 10, 11, 12, 13, 14, 15, 16, 17, 18, 19, 20, 21, 22, 23, 24, 25, 26, 27, 28, 29, 30, 31, 32, 33, 34, 35, 36, 37, 38, 39, 40, 41, 42, 43, 44, 45, 46, 47, 48, 49, 50, 51, 52, 53, 54, 55, 56, 57, 58, 59, 60, 61, 62, 63, 64, 65, 66, 67, 68, 69, 70, 71, 72, 73, 74, 75, 76, 77, 78, 79, 80, 81, 82, 83, 84, 85, 86, 87, 88, 89, 90, 91, 92, 93, 94, 95, 96, 97, 98, 99, 100, 101, 102, 103, 104] dt dt340 := Fr_tr hF307 hF342 (by decide)
      have w344 : dt340 1 0 = dt304 1 0 := hF342 1 (by decide) 0
      have w345 : dt340 7 3 = dt304 7 3 := hF342 7 (by decide) 3
      have w346 : dt340 10 3 = dt304 10 3 := hF342 10 (by decide) 3
      have w347 : dt340 12 3 = dt304 12 3 := hF342 12 (by decide) 3
      have w348 : dt340 14 3 = dt304 14 3 := hF342 14 (by decide) 3
      have w349 : dt340 16 3 = dt304 16 3 := hF342 16 (by decide) 3
      have w350 : dt340 18 0 = dt304 18 0 := hF342 18 (by decide) 0
      have w351 : dt340 24 3 = dt304 24 3 := hF342 24 (by decide) 3
      have w352 : dt340 27 3 = dt304 27 3 := hF342 27 (by decide) 3
      have w353 : dt340 29 3 = dt304 29 3 := hF342 29 (by decide) 3
      have w354 : dt340 31 3 = dt304 31 3 := hF342 31 (by decide) 3
      have w355 : dt340 33 3 = dt304 33 3 := hF342 33 (by decide) 3
      have w356 : dt340 0 2 = dt304 0 2 := hF342 0 (by decide) 2
      have w357 : dt340 35 1 = dt304 35 1 := hF342 35 (by decide) 1
      have w358 : dt340 81 0 = dt304 81 0 := hF342 81 (by decide) 0
      have w359 : dt340 81 1 = dt304 81 1 := hF342 81 (by decide) 1
      have w360 : dt340 81 2 = dt304 81 2 := hF342 81 (by decide) 2
      have w361 : dt340 81 3 = dt304 81 3 := hF342 81 (by decide) 3
      have w362 : dt340 81 4 = dt304 81 4 := hF342 81 (by decide) 4
      have w363 : dt340 81 5 = dt304 81 5 := hF342 81 (by decide) 5
      rcases h339 with ⟨rfl, h339⟩ | ⟨rfl, h339⟩
      · skip
        have hM364 : MW (dt340 80) := h339.2.2.1
        obtain ⟨h339_0, h339_1, h339_2, h339_3, h339_4, h339_5, h339_6, h339_7, h339_8⟩ := h339
        have M2365 : MW (dt340 81) := MW_frk M2330 hF342 (by decide)
        have y366 := h339_4 0 (by decide)
        have y367 := h339_4 1 (by decide)
        have y368 := h339_4 2 (by decide)
        have y369 := h339_4 3 (by decide)
        have y370 := h339_4 4 (by decide)
        have y371 := h339_4 5 (by decide)
        have y372 := h339_5 0 (by decide)
        have y373 := h339_5 1 (by decide)
        have y374 := h339_5 2 (by decide)
        have y375 := h339_5 3 (by decide)
        have y376 := h339_5 4 (by decide)
        have y377 := h339_5 5 (by decide)
        have C378 : ∀ j : Nat, dt340 15 j = dt 15 j := fun j => (hF342 15 (by decide) j).trans (C331 j)
        have C379 : ∀ j : Nat, dt340 17 j = dt 17 j := fun j => (hF342 17 (by decide) j).trans (C332 j)
        have C380 : ∀ j : Nat, j < 80 → dt340 32 j = dt 15 j := fun j hj => (hF342 32 (by decide) j).trans (h303_16 j hj)
        have C381 : ∀ j : Nat, j < 40 → dt340 34 j = dt 17 j := fun j hj => (hF342 34 (by decide) j).trans (h303_17 j hj)
        have F382 : ∀ j : Nat, 7340 ≤ j → dt340 81 j = dt 81 j := fun j hj => (hF342 81 (by decide) j).trans (F333 j hj)
        have F383 : ∀ j : Nat, j < 7460 → dt340 80 j = dt 80 j := fun j hj => (h339_6 j hj).trans (F335 j)
        have F384 : ∀ j : Nat, j < 7460 → dt340 81 j = dt 81 j := fun j hj => (h339_7 j hj).trans (F336 j)
        have E385 : RW2 (dt340 15) (dt340 80) (dt340 80 4) 7340 := by first | exact RW2_i hd0 (fun (j : Nat) (_ : j < 80) => C378 j) F383 (by (first | omega | (have z0_ := unhid c2; omega))) (by decide) (by (first | omega | (have z0_ := unhid c2; omega))) | (exfalso; (first | omega | (have z0_ := unhid c2; omega)))
        have E386 : RW2 (dt340 32) (dt340 81) (dt340 81 4) 7340 := by first | exact RW2_i hd0 C380 F384 (by (first | omega | (have z0_ := unhid c2; omega))) (by decide) (by (first | omega | (have z0_ := unhid c2; omega))) | (exfalso; (first | omega | (have z0_ := unhid c2; omega)))
        have E387 : RW2 (dt340 17) (dt340 80) (dt340 80 5) 7420 := by first | exact RW2_i hd2 (fun (j : Nat) (_ : j < 40) => C379 j) F383 (by (first | omega | (have z0_ := unhid c2; omega))) (by decide) (by (first | omega | (have z0_ := unhid c2; omega))) | (exfalso; (first | omega | (have z0_ := unhid c2; omega)))
        have E388 : RW2 (dt340 34) (dt340 81) (dt340 81 5) 7420 := by first | exact RW2_i hd2 C381 F384 (by (first | omega | (have z0_ := unhid c2; omega))) (by decide) (by (first | omega | (have z0_ := unhid c2; omega))) | (exfalso; (first | omega | (have z0_ := unhid c2; omega)))
        have F389 : ∀ j : Nat, dt340 81 j = dt 81 j := fun j => (hF342 81 (by decide) j).trans (F336 j)
        refine go_toq PM267 (k := 2) (pc' := 1435) (L' := [some (.inr (.inr (some 3000))), some (.inr (.inr (some 0))), some (.inr (.inr (some 79))), some (.inl i)]) (st' := []) (w' := (SH, dt340)) rfl ?_
        exact K dt340 hI341 hM364 M2365 (by first | (first | omega | (have z0_ := unhid c2; omega)) | (simp only [*]; done) | simp only [*]) (by (first | omega | (have z0_ := unhid c2; omega))) (by (first | omega | (have z0_ := unhid c2; omega))) (by (first | omega | (have z0_ := unhid c2; omega))) (by (first | omega | (have z0_ := unhid c2; omega))) (by (first | omega | (have z0_ := unhid c2; omega))) (by (first | omega | (have z0_ := unhid c2; omega))) (by (first | omega | (have z0_ := unhid c2; omega))) (by (first | omega | (have z0_ := unhid c2; omega))) (by (first | omega | (have z0_ := unhid c2; omega))) (by (first | omega | (have z0_ := unhid c2; omega))) (by (first | omega | (have z0_ := unhid c2; omega))) (by (first | omega | (have z0_ := unhid c2; omega))) (by (first | omega | (have z0_ := unhid c2; omega))) (by first | exact E385 | exact RW2_k hd0 C378 F334 (by decide) (by (first | omega | (have z0_ := unhid c2; omega))) | (exfalso; (first | omega | (have z0_ := unhid c2; omega)))) (by first | exact E386 | exact RW2_k hd1 hI F382 (by decide) (by (first | omega | (have z0_ := unhid c2; omega))) | (exfalso; (first | omega | (have z0_ := unhid c2; omega)))) (by first | exact E387 | exact RW2_k hd2 C379 F334 (by decide) (by (first | omega | (have z0_ := unhid c2; omega))) | (exfalso; (first | omega | (have z0_ := unhid c2; omega)))) (by first | exact E388 | exact RW2_k hd3 hI F382 (by decide) (by (first | omega | (have z0_ := unhid c2; omega))) | (exfalso; (first | omega | (have z0_ := unhid c2; omega))))
      · skip
        have hM390 : MW (dt340 80) := h339.2.2.1
        obtain ⟨h339_0, h339_1, h339_2, h339_3, h339_4, h339_5, h339_6, h339_7, h339_8⟩ := h339
        replace h339_0 := hid h339_0
        have M2391 : MW (dt340 81) := MW_frk M2330 hF342 (by decide)
        have y392 := h339_4 0 (by decide)
        have y393 := h339_4 1 (by decide)
        have y394 := h339_4 2 (by decide)
        have y395 := h339_4 3 (by decide)
        have y396 := h339_4 4 (by decide)
        have y397 := h339_4 5 (by decide)
        have y398 := h339_5 0 (by decide)
        have y399 := h339_5 1 (by decide)
        have y400 := h339_5 2 (by decide)
        have y401 := h339_5 3 (by decide)
        have y402 := h339_5 4 (by decide)
        have y403 := h339_5 5 (by decide)
        have C404 : ∀ j : Nat, dt340 15 j = dt 15 j := fun j => (hF342 15 (by decide) j).trans (C331 j)
        have C405 : ∀ j : Nat, dt340 17 j = dt 17 j := fun j => (hF342 17 (by decide) j).trans (C332 j)
        have C406 : ∀ j : Nat, j < 80 → dt340 32 j = dt 15 j := fun j hj => (hF342 32 (by decide) j).trans (h303_16 j hj)
        have C407 : ∀ j : Nat, j < 40 → dt340 34 j = dt 17 j := fun j hj => (hF342 34 (by decide) j).trans (h303_17 j hj)
        have F408 : ∀ j : Nat, 7340 ≤ j → dt340 81 j = dt 81 j := fun j hj => (hF342 81 (by decide) j).trans (F333 j hj)
        have F409 : ∀ j : Nat, j < 7460 → dt340 80 j = dt 81 j := fun j hj => (h339_6 j hj).trans (F336 j)
        have F410 : ∀ j : Nat, j < 7460 → dt340 81 j = dt 81 j := fun j hj => (h339_7 j hj).trans (F336 j)
        have E411 : RW2 (dt340 15) (dt340 80) (dt340 80 4) 7340 := by first | exact RW2_i hd0 (fun (j : Nat) (_ : j < 80) => C404 j) F409 (by (first | omega | (have z0_ := unhid c2; have z1_ := unhid h339_0; omega))) (by decide) (by (first | omega | (have z0_ := unhid c2; have z1_ := unhid h339_0; omega))) | (exfalso; (first | omega | (have z0_ := unhid c2; have z1_ := unhid h339_0; omega)))
        have E412 : RW2 (dt340 32) (dt340 81) (dt340 81 4) 7340 := by first | exact RW2_i hd0 C406 F410 (by (first | omega | (have z0_ := unhid c2; have z1_ := unhid h339_0; omega))) (by decide) (by (first | omega | (have z0_ := unhid c2; have z1_ := unhid h339_0; omega))) | (exfalso; (first | omega | (have z0_ := unhid c2; have z1_ := unhid h339_0; omega)))
        have E413 : RW2 (dt340 17) (dt340 80) (dt340 80 5) 7420 := by first | exact RW2_i hd2 (fun (j : Nat) (_ : j < 40) => C405 j) F409 (by (first | omega | (have z0_ := unhid c2; have z1_ := unhid h339_0; omega))) (by decide) (by (first | omega | (have z0_ := unhid c2; have z1_ := unhid h339_0; omega))) | (exfalso; (first | omega | (have z0_ := unhid c2; have z1_ := unhid h339_0; omega)))
        have E414 : RW2 (dt340 34) (dt340 81) (dt340 81 5) 7420 := by first | exact RW2_i hd2 C407 F410 (by (first | omega | (have z0_ := unhid c2; have z1_ := unhid h339_0; omega))) (by decide) (by (first | omega | (have z0_ := unhid c2; have z1_ := unhid h339_0; omega))) | (exfalso; (first | omega | (have z0_ := unhid c2; have z1_ := unhid h339_0; omega)))
        have F415 : ∀ j : Nat, dt340 81 j = dt 81 j := fun j => (hF342 81 (by decide) j).trans (F336 j)
        refine go_toq PM267 (k := 2) (pc' := 1435) (L' := [some (.inr (.inr (some 3000))), some (.inr (.inr (some 0))), some (.inr (.inr (some 79))), some (.inl i)]) (st' := []) (w' := (SH, dt340)) rfl ?_
        exact K dt340 hI341 hM390 M2391 (by first | (first | omega | (have z0_ := unhid c2; have z1_ := unhid h339_0; omega)) | (simp only [*]; done) | simp only [*]) (by (first | omega | (have z0_ := unhid c2; have z1_ := unhid h339_0; omega))) (by (first | omega | (have z0_ := unhid c2; have z1_ := unhid h339_0; omega))) (by (first | omega | (have z0_ := unhid c2; have z1_ := unhid h339_0; omega))) (by (first | omega | (have z0_ := unhid c2; have z1_ := unhid h339_0; omega))) (by (first | omega | (have z0_ := unhid c2; have z1_ := unhid h339_0; omega))) (by (first | omega | (have z0_ := unhid c2; have z1_ := unhid h339_0; omega))) (by (first | omega | (have z0_ := unhid c2; have z1_ := unhid h339_0; omega))) (by (first | omega | (have z0_ := unhid c2; have z1_ := unhid h339_0; omega))) (by (first | omega | (have z0_ := unhid c2; have z1_ := unhid h339_0; omega))) (by (first | omega | (have z0_ := unhid c2; have z1_ := unhid h339_0; omega))) (by (first | omega | (have z0_ := unhid c2; have z1_ := unhid h339_0; omega))) (by (first | omega | (have z0_ := unhid c2; have z1_ := unhid h339_0; omega))) (by (first | omega | (have z0_ := unhid c2; have z1_ := unhid h339_0; omega))) (by first | exact E411 | exact RW2_k hd0 C404 F334 (by decide) (by (first | omega | (have z0_ := unhid c2; have z1_ := unhid h339_0; omega))) | (exfalso; (first | omega | (have z0_ := unhid c2; have z1_ := unhid h339_0; omega)))) (by first | exact E412 | exact RW2_k hd1 hI F408 (by decide) (by (first | omega | (have z0_ := unhid c2; have z1_ := unhid h339_0; omega))) | (exfalso; (first | omega | (have z0_ := unhid c2; have z1_ := unhid h339_0; omega)))) (by first | exact E413 | exact RW2_k hd2 C405 F334 (by decide) (by (first | omega | (have z0_ := unhid c2; have z1_ := unhid h339_0; omega))) | (exfalso; (first | omega | (have z0_ := unhid c2; have z1_ := unhid h339_0; omega)))) (by first | exact E414 | exact RW2_k hd3 hI F408 (by decide) (by (first | omega | (have z0_ := unhid c2; have z1_ := unhid h339_0; omega))) | (exfalso; (first | omega | (have z0_ := unhid c2; have z1_ := unhid h339_0; omega))))
    · skip
      replace c338 := hid c338
      refine go_toq PM267 (k := 2) (pc' := 1405) (L' := [some (.inr (.inr (some 3000))), some (.inr (.inr (some 0))), some (.inr (.inr (some 79))), some (.inl i)]) (st' := [.inl 1, .inr (.inr (some 79))]) (w' := (SH, dt304)) rfl ?_
      refine go_callq PM267 PM247 (Q' := _) rfl rfl rfl rfl (sp_X6_image_1u L xs sio (d + 38) dt304 hI305 hM308   ) ?_
      rintro _ _ ⟨dt417, rfl, hI418, hF419, h416⟩
      refine ⟨rfl, ?_⟩
      have hF420 : Fr [0, 1, 2, 3, 4, 5, 6, 7, 8, 9, 10, 11, 12, 13, 14, 15, 16, 17, 18, 19, 20, 21, 22, 23, 24, 25, 26, 27, 28, 29, 30, 31, 32, 33, 34, 35, 36, 37, 38, 39, 40, 41, 42, 43, 44, 45, 46, 47, 48, 49, 50, 51, 52, 53, 54, 55, 56, 57, 58, 59, 60, 61, 62, 63, 64, 65, 66, 67, 68, 69, 70, 71, 72, 73, 74, 75, 76, 77, 78, 79, 80, 81, 82, 83, 84, 85, 86, 87, 88, 89, 90, 91, 92, 93, 94, 95, 96, 97, 98, 99, 100, 101, 102, 103, 104] dt dt417 := Fr_tr hF307 hF419 (by decide)
      have hM421 : MW (dt417 80) := MW_fr hM308 hF419 (by decide)
      have w422 : dt417 1 0 = dt304 1 0 := hF419 1 (by decide) 0
      have w423 : dt417 7 3 = dt304 7 3 := hF419 7 (by decide) 3
      have w424 : dt417 10 3 = dt304 10 3 := hF419 10 (by decide) 3
      have w425 : dt417 12 3 = dt304 12 3 := hF419 12 (by decide) 3
      have w426 : dt417 14 3 = dt304 14 3 := hF419 14 (by decide) 3
      have w427 : dt417 16 3 = dt304 16 3 := hF419 16 (by decide) 3
      have w428 : dt417 18 0 = dt304 18 0 := hF419 18 (by decide) 0
      have w429 : dt417 24 3 = dt304 24 3 := hF419 24 (by decide) 3
      have w430 : dt417 27 3 = dt304 27 3 := hF419 27 (by decide) 3
      have w431 : dt417 29 3 = dt304 29 3 := hF419 29 (by decide) 3
      have w432 : dt417 31 3 = dt304 31 3 := hF419 31 (by decide) 3
      have w433 : dt417 33 3 = dt304 33 3 := hF419 33 (by decide) 3
      have w434 : dt417 0 2 = dt304 0 2 := hF419 0 (by decide) 2
      have w435 : dt417 35 1 = dt304 35 1 := hF419 35 (by decide) 1
      have w436 : dt417 80 0 = dt304 80 0 := hF419 80 (by decide) 0
      have w437 : dt417 80 1 = dt304 80 1 := hF419 80 (by decide) 1
      have w438 : dt417 80 2 = dt304 80 2 := hF419 80 (by decide) 2
      have w439 : dt417 80 3 = dt304 80 3 := hF419 80 (by decide) 3
      have w440 : dt417 80 4 = dt304 80 4 := hF419 80 (by decide) 4
      have w441 : dt417 80 5 = dt304 80 5 := hF419 80 (by decide) 5
      rcases h416 with ⟨rfl, h416⟩
      have hM442 : MW (dt417 80) := h416.2.1
      obtain ⟨h416_0, h416_1, h416_2, h416_3, h416_4, h416_5, h416_6, h416_7⟩ := h416
      have y443 := h416_3 0 (by decide)
      have y444 := h416_3 1 (by decide)
      have y445 := h416_3 2 (by decide)
      have y446 := h416_3 3 (by decide)
      have y447 := h416_3 4 (by decide)
      have y448 := h416_3 5 (by decide)
      have y449 := h416_4 0 (by decide)
      have y450 := h416_4 1 (by decide)
      have y451 := h416_4 2 (by decide)
      have y452 := h416_4 3 (by decide)
      have y453 := h416_4 4 (by decide)
      have y454 := h416_4 5 (by decide)
      have C455 : ∀ j : Nat, dt417 15 j = dt 15 j := fun j => (hF419 15 (by decide) j).trans (C331 j)
      have C456 : ∀ j : Nat, dt417 17 j = dt 17 j := fun j => (hF419 17 (by decide) j).trans (C332 j)
      have C457 : ∀ j : Nat, j < 80 → dt417 32 j = dt 15 j := fun j hj => (hF419 32 (by decide) j).trans (h303_16 j hj)
      have C458 : ∀ j : Nat, j < 40 → dt417 34 j = dt 17 j := fun j hj => (hF419 34 (by decide) j).trans (h303_17 j hj)
      have F459 : ∀ j : Nat, j < 7460 → dt417 80 j = dt 80 j := fun j hj => (h416_5 j hj).trans (F335 j)
      have F460 : ∀ j : Nat, j < 7460 → dt417 81 j = dt 80 j := fun j hj => (h416_6 j hj).trans (F335 j)
      have E461 : RW2 (dt417 15) (dt417 80) (dt417 80 4) 7340 := by first | exact RW2_i hd0 (fun (j : Nat) (_ : j < 80) => C455 j) F459 (by (first | omega | (have z0_ := unhid c2; have z1_ := unhid c338; omega))) (by decide) (by (first | omega | (have z0_ := unhid c2; have z1_ := unhid c338; omega))) | (exfalso; (first | omega | (have z0_ := unhid c2; have z1_ := unhid c338; omega)))
      have E462 : RW2 (dt417 32) (dt417 81) (dt417 81 4) 7340 := by first | exact RW2_i hd0 C457 F460 (by (first | omega | (have z0_ := unhid c2; have z1_ := unhid c338; omega))) (by decide) (by (first | omega | (have z0_ := unhid c2; have z1_ := unhid c338; omega))) | (exfalso; (first | omega | (have z0_ := unhid c2; have z1_ := unhid c338; omega)))
      have E463 : RW2 (dt417 17) (dt417 80) (dt417 80 5) 7420 := by first | exact RW2_i hd2 (fun (j : Nat) (_ : j < 40) => C456 j) F459 (by (first | omega | (have z0_ := unhid c2; have z1_ := unhid c338; omega))) (by decide) (by (first | omega | (have z0_ := unhid c2; have z1_ := unhid c338; omega))) | (exfalso; (first | omega | (have z0_ := unhid c2; have z1_ := unhid c338; omega)))
      have E464 : RW2 (dt417 34) (dt417 81) (dt417 81 5) 7420 := by first | exact RW2_i hd2 C458 F460 (by (first | omega | (have z0_ := unhid c2; have z1_ := unhid c338; omega))) (by decide) (by (first | omega | (have z0_ := unhid c2; have z1_ := unhid c338; omega))) | (exfalso; (first | omega | (have z0_ := unhid c2; have z1_ := unhid c338; omega)))
      have F465 : ∀ j : Nat, dt417 80 j = dt 80 j := fun j => (hF419 80 (by decide) j).trans (F335 j)
      refine go_toq PM267 (k := 2) (pc' := 1435) (L' := [some (.inr (.inr (some 3000))), some (.inr (.inr (some 0))), some (.inr (.inr (some 79))), some (.inl i)]) (st' := []) (w' := (SH, dt417)) rfl ?_
      exact K dt417 hI418 hM442 h416_2 (by first | (first | omega | (have z0_ := unhid c2; have z1_ := unhid c338; omega)) | (simp only [*]; done) | simp only [*]) (by (first | omega | (have z0_ := unhid c2; have z1_ := unhid c338; omega))) (by (first | omega | (have z0_ := unhid c2; have z1_ := unhid c338; omega))) (by (first | omega | (have z0_ := unhid c2; have z1_ := unhid c338; omega))) (by (first | omega | (have z0_ := unhid c2; have z1_ := unhid c338; omega))) (by (first | omega | (have z0_ := unhid c2; have z1_ := unhid c338; omega))) (by (first | omega | (have z0_ := unhid c2; have z1_ := unhid c338; omega))) (by (first | omega | (have z0_ := unhid c2; have z1_ := unhid c338; omega))) (by (first | omega | (have z0_ := unhid c2; have z1_ := unhid c338; omega))) (by (first | omega | (have z0_ := unhid c2; have z1_ := unhid c338; omega))) (by (first | omega | (have z0_ := unhid c2; have z1_ := unhid c338; omega))) (by (first | omega | (have z0_ := unhid c2; have z1_ := unhid c338; omega))) (by (first | omega | (have z0_ := unhid c2; have z1_ := unhid c338; omega))) (by (first | omega | (have z0_ := unhid c2; have z1_ := unhid c338; omega))) (by first | exact E461 | exact RW2_k hd0 C455 F334 (by decide) (by (first | omega | (have z0_ := unhid c2; have z1_ := unhid c338; omega))) | (exfalso; (first | omega | (have z0_ := unhid c2; have z1_ := unhid c338; omega)))) (by first | exact E462 | exact RW2_k hd1 hI F333 (by decide) (by (first | omega | (have z0_ := unhid c2; have z1_ := unhid c338; omega))) | (exfalso; (first | omega | (have z0_ := unhid c2; have z1_ := unhid c338; omega)))) (by first | exact E463 | exact RW2_k hd2 C456 F334 (by decide) (by (first | omega | (have z0_ := unhid c2; have z1_ := unhid c338; omega))) | (exfalso; (first | omega | (have z0_ := unhid c2; have z1_ := unhid c338; omega)))) (by first | exact E464 | exact RW2_k hd3 hI F333 (by decide) (by (first | omega | (have z0_ := unhid c2; have z1_ := unhid c338; omega))) | (exfalso; (first | omega | (have z0_ := unhid c2; have z1_ := unhid c338; omega))))
set_option maxRecDepth 20000 in
set_option maxHeartbeats 8000000 in
theorem sp_case32 (L : Nat) (xs : Nat → Int32) (sio : Option Nat) (d : Nat) (Q : Option AV → am_W → Prop) (hLL : L ≤ 3072) (i : Int) (hi : 0 ≤ i ∧ i ≤ 3066) (hil : i ≤ (L : Int) - 6) (dt : Nat → Nat → Int) (hI : InvC dt) (hM : MW (dt 80)) (hM2 : MW (dt 81)) (hk0 : dt 1 0 = dt 80 0) (hk1 : dt 7 3 = dt 80 1) (hk2 : dt 10 3 = dt 80 2) (hk3 : dt 12 3 = dt 80 3) (hk4 : dt 14 3 = dt 80 4) (hk5 : dt 16 3 = dt 80 5) (hk6 : dt 18 0 = dt 81 0) (hk7 : dt 24 3 = dt 81 1) (hk8 : dt 27 3 = dt 81 2) (hk9 : dt 29 3 = dt 81 3) (hk10 : dt 31 3 = dt 81 4) (hk11 : dt 33 3 = dt 81 5) (hk12 : dt 0 2 = dt 79 2) (hk13 : dt 35 1 = dt 79 12) (hd0 : RW2 (dt 15) (dt 80) (dt 80 4) 7340) (hd1 : RW2 (dt 32) (dt 81) (dt 81 4) 7340) (hd2 : RW2 (dt 17) (dt 80) (dt 80 5) 7420) (hd3 : RW2 (dt 34) (dt 81) (dt 81 5) 7420) (K : ∀ (dt : Nat → Nat → Int) (hI : InvC dt) (hM : MW (dt 80)) (hM2 : MW (dt 81)) (hk0 : dt 1 0 = dt 80 0) (hk1 : dt 7 3 = dt 80 1) (hk2 : dt 10 3 = dt 80 2) (hk3 : dt 12 3 = dt 80 3) (hk4 : dt 14 3 = dt 80 4) (hk5 : dt 16 3 = dt 80 5) (hk6 : dt 18 0 = dt 81 0) (hk7 : dt 24 3 = dt 81 1) (hk8 : dt 27 3 = dt 81 2) (hk9 : dt 29 3 = dt 81 3) (hk10 : dt 31 3 = dt 81 4) (hk11 : dt 33 3 = dt 81 5) (hk12 : dt 0 2 = dt 79 2) (hk13 : dt 35 1 = dt 79 12) (hd0 : RW2 (dt 15) (dt 80) (dt 80 4) 7340) (hd1 : RW2 (dt 32) (dt 81) (dt 81 4) 7340) (hd2 : RW2 (dt 17) (dt 80) (dt 80 5) 7420) (hd3 : RW2 (dt 34) (dt 81) (dt 81 5) 7420), GO (am_XX L xs sio) (d + 39) 267 1435 [some (.inr (.inr (some 3000))), some (.inr (.inr (some 0))), some (.inr (.inr (some 79))), some (.inl i)] [] (SH, dt) Q) : GO (am_XX L xs sio) (d + 39) 267 1412 [some (.inr (.inr (some 3000))), some (.inr (.inr (some 0))), some (.inr (.inr (some 79))), some (.inl i)] [] (SH, dt) Q := by
  have hF : Fr [0, 1, 2, 3, 4, 5, 6, 7, 8, 9, 10, 11, 12, 13, 14, 15, 16, 17, 18, 19, 20, 21, 22, 23, 24, 25, 26, 27, 28, 29, 30, 31, 32, 33, 34, 35, 36, 37, 38, 39, 40, 41, 42, 43, 44, 45, 46, 47, 48, 49, 50, 51, 52, 53, 54, 55, 56, 57, 58, 59, 60, 61, 62, 63, 64, 65, 66, 67, 68, 69, 70, 71, 72, 73, 74, 75, 76, 77, 78, 79, 80, 81, 82, 83, 84, 85, 86, 87, 88, 89, 90, 91, 92, 93, 94, 95, 96, 97, 98, 99, 100, 101, 102, 103, 104] dt dt := Fr_refl
  have hmn := MW_n hM
  have hmn2 := MW_n hM2
  refine go_toq PM267 (k := 5) (pc' := 1417) (L' := [some (.inr (.inr (some 3000))), some (.inr (.inr (some 0))), some (.inr (.inr (some 79))), some (.inl i)]) (st' := [.inl (i + 1), .inr (.inr (some 3000)), .inr (.inr (some 0))]) (w' := (SH, dt)) rfl ?_
  have r1 := i32_R (xs ((i + 1).toNat))
  refine go_smpq PM267 (L' := [some (.inr (.inr (some 3000))), some (.inr (.inr (some 0))), some (.inr (.inr (some 79))), some (.inl i)]) (st' := [.inl ((xs ((i + 1).toNat)).toInt), .inr (.inr (some 0))]) (w' := (SH, dt)) rfl rfl (s_iald (n := L) (f := fun j => (xs j).toInt) (am_scr hLL) ⟨by omega, by omega⟩) ?_
  refine go_callq PM267 PM99 (Q' := _) rfl rfl rfl rfl (sp_X5_look L xs sio (d + 38) dt hI  ((xs ((i + 1).toNat)).toInt) ⟨by omega, by omega⟩ ) ?_
  rintro _ _ ⟨rfl, h2⟩
  refine ⟨rfl, ?_⟩
  rcases h2 with ⟨rfl, h2⟩ | ⟨rfl, h2⟩ | ⟨rfl, h2⟩ | ⟨rfl, h2⟩ | ⟨rfl, h2⟩ | ⟨rfl, h2⟩ | ⟨rfl, h2⟩ | ⟨rfl, h2⟩ | ⟨rfl, h2⟩
  · skip
    refine go_toq PM267 (k := 6) (pc' := 1427) (L' := [some (.inr (.inr (some 3000))), some (.inr (.inr (some 0))), some (.inr (.inr (some 79))), some (.inl i)]) (st' := [.inl (i + 1), .inr (.inr (some 3000)), .inr (.inr (some 79))]) (w' := (SH, dt)) rfl ?_
    refine go_smpq PM267 (L' := [some (.inr (.inr (some 3000))), some (.inr (.inr (some 0))), some (.inr (.inr (some 79))), some (.inl i)]) (st' := [.inl ((xs ((i + 1).toNat)).toInt), .inr (.inr (some 79))]) (w' := (SH, dt)) rfl rfl (s_iald (n := L) (f := fun j => (xs j).toInt) (am_scr hLL) ⟨by omega, by omega⟩) ?_
    refine go_callq PM267 PM248 (Q' := _) rfl rfl rfl rfl (sp_X6_look L xs sio (d + 38) dt hI  ((xs ((i + 1).toNat)).toInt) ⟨by omega, by omega⟩ ) ?_
    rintro _ _ ⟨rfl, h3⟩
    refine ⟨rfl, ?_⟩
    rcases h3 with ⟨rfl, h3⟩ | ⟨rfl, h3⟩ | ⟨rfl, h3⟩ | ⟨rfl, h3⟩ | ⟨rfl, h3⟩ | ⟨rfl, h3⟩ | ⟨rfl, h3⟩ | ⟨rfl, h3⟩ | ⟨rfl, h3⟩
    · skip
      refine go_toq PM267 (k := 2) (pc' := 1435) (L' := [some (.inr (.inr (some 3000))), some (.inr (.inr (some 0))), some (.inr (.inr (some 79))), some (.inl i)]) (st' := []) (w' := (SH, dt)) rfl ?_
      exact K dt hI hM hM2 (by first | omega | (simp only [*]; done) | simp only [*]) (by omega) (by omega) (by omega) (by omega) (by omega) (by omega) (by omega) (by omega) (by omega) (by omega) (by omega) (by omega) (by omega) (by first | exact hI | exact RW2_k hd0 (fun _ => rfl) (fun _ _ => rfl) (by decide) (by omega) | (exfalso; omega)) (by first | exact hI | exact RW2_k hd1 (fun _ => rfl) (fun _ _ => rfl) (by decide) (by omega) | (exfalso; omega)) (by first | exact hI | exact RW2_k hd2 (fun _ => rfl) (fun _ _ => rfl) (by decide) (by omega) | (exfalso; omega)) (by first | exact hI | exact RW2_k hd3 (fun _ => rfl) (fun _ _ => rfl) (by decide) (by omega) | (exfalso; omega))
    · skip
      refine go_toq PM267 (k := 2) (pc' := 1435) (L' := [some (.inr (.inr (some 3000))), some (.inr (.inr (some 0))), some (.inr (.inr (some 79))), some (.inl i)]) (st' := []) (w' := (SH, dt)) rfl ?_
      exact K dt hI hM hM2 (by first | omega | (simp only [*]; done) | simp only [*]) (by omega) (by omega) (by omega) (by omega) (by omega) (by omega) (by omega) (by omega) (by omega) (by omega) (by omega) (by omega) (by omega) (by first | exact hI | exact RW2_k hd0 (fun _ => rfl) (fun _ _ => rfl) (by decide) (by omega) | (exfalso; omega)) (by first | exact hI | exact RW2_k hd1 (fun _ => rfl) (fun _ _ => rfl) (by decide) (by omega) | (exfalso; omega)) (by first | exact hI | exact RW2_k hd2 (fun _ => rfl) (fun _ _ => rfl) (by decide) (by omega) | (exfalso; omega)) (by first | exact hI | exact RW2_k hd3 (fun _ => rfl) (fun _ _ => rfl) (by decide) (by omega) | (exfalso; omega))
    · skip
      refine go_toq PM267 (k := 2) (pc' := 1435) (L' := [some (.inr (.inr (some 3000))), some (.inr (.inr (some 0))), some (.inr (.inr (some 79))), some (.inl i)]) (st' := []) (w' := (SH, dt)) rfl ?_
      exact K dt hI hM hM2 (by first | omega | (simp only [*]; done) | simp only [*]) (by omega) (by omega) (by omega) (by omega) (by omega) (by omega) (by omega) (by omega) (by omega) (by omega) (by omega) (by omega) (by omega) (by first | exact hI | exact RW2_k hd0 (fun _ => rfl) (fun _ _ => rfl) (by decide) (by omega) | (exfalso; omega)) (by first | exact hI | exact RW2_k hd1 (fun _ => rfl) (fun _ _ => rfl) (by decide) (by omega) | (exfalso; omega)) (by first | exact hI | exact RW2_k hd2 (fun _ => rfl) (fun _ _ => rfl) (by decide) (by omega) | (exfalso; omega)) (by first | exact hI | exact RW2_k hd3 (fun _ => rfl) (fun _ _ => rfl) (by decide) (by omega) | (exfalso; omega))
    · skip
      refine go_toq PM267 (k := 2) (pc' := 1435) (L' := [some (.inr (.inr (some 3000))), some (.inr (.inr (some 0))), some (.inr (.inr (some 79))), some (.inl i)]) (st' := []) (w' := (SH, dt)) rfl ?_
      exact K dt hI hM hM2 (by first | omega | (simp only [*]; done) | simp only [*]) (by omega) (by omega) (by omega) (by omega) (by omega) (by omega) (by omega) (by omega) (by omega) (by omega) (by omega) (by omega) (by omega) (by first | exact hI | exact RW2_k hd0 (fun _ => rfl) (fun _ _ => rfl) (by decide) (by omega) | (exfalso; omega)) (by first | exact hI | exact RW2_k hd1 (fun _ => rfl) (fun _ _ => rfl) (by decide) (by omega) | (exfalso; omega)) (by first | exact hI | exact RW2_k hd2 (fun _ => rfl) (fun _ _ => rfl) (by decide) (by omega) | (exfalso; omega)) (by first | exact hI | exact RW2_k hd3 (fun _ => rfl) (fun _ _ => rfl) (by decide) (by omega) | (exfalso; omega))
    · skip
      refine go_toq PM267 (k := 2) (pc' := 1435) (L' := [some (.inr (.inr (some 3000))), some (.inr (.inr (some 0))), some (.inr (.inr (some 79))), some (.inl i)]) (st' := []) (w' := (SH, dt)) rfl ?_
      exact K dt hI hM hM2 (by first | omega | (simp only [*]; done) | simp only [*]) (by omega) (by omega) (by omega) (by omega) (by omega) (by omega) (by omega) (by omega) (by omega) (by omega) (by omega) (by omega) (by omega) (by first | exact hI | exact RW2_k hd0 (fun _ => rfl) (fun _ _ => rfl) (by decide) (by omega) | (exfalso; omega)) (by first | exact hI | exact RW2_k hd1 (fun _ => rfl) (fun _ _ => rfl) (by decide) (by omega) | (exfalso; omega)) (by first | exact hI | exact RW2_k hd2 (fun _ => rfl) (fun _ _ => rfl) (by decide) (by omega) | (exfalso; omega)) (by first | exact hI | exact RW2_k hd3 (fun _ => rfl) (fun _ _ => rfl) (by decide) (by omega) | (exfalso; omega))
    · skip
      refine go_toq PM267 (k := 2) (pc' := 1435) (L' := [some (.inr (.inr (some 3000))), some (.inr (.inr (some 0))), some (.inr (.inr (some 79))), some (.inl i)]) (st' := []) (w' := (SH, dt)) rfl ?_
      exact K dt hI hM hM2 (by first | omega | (simp only [*]; done) | simp only [*]) (by omega) (by omega) (by omega) (by omega) (by omega) (by omega) (by omega) (by omega) (by omega) (by omega) (by omega) (by omega) (by omega) (by first | exact hI | exact RW2_k hd0 (fun _ => rfl) (fun _ _ => rfl) (by decide) (by omega) | (exfalso; omega)) (by first | exact hI | exact RW2_k hd1 (fun _ => rfl) (fun _ _ => rfl) (by decide) (by omega) | (exfalso; omega)) (by first | exact hI | exact RW2_k hd2 (fun _ => rfl) (fun _ _ => rfl) (by decide) (by omega) | (exfalso; omega)) (by first | exact hI | exact RW2_k hd3 (fun _ => rfl) (fun _ _ => rfl) (by decide) (by omega) | (exfalso; omega))
    · skip
      obtain ⟨h3_0, h3_1⟩ := h3
      replace h3_1 := hid h3_1
      refine go_toq PM267 (k := 2) (pc' := 1435) (L' := [some (.inr (.inr (some 3000))), some (.inr (.inr (some 0))), some (.inr (.inr (some 79))), some (.inl i)]) (st' := []) (w' := (SH, dt)) rfl ?_
      exact K dt hI hM hM2 (by first | (first | omega | (have z0_ := unhid h3_1; omega)) | (simp only [*]; done) | simp only [*]) (by (first | omega | (have z0_ := unhid h3_1; omega))) (by (first | omega | (have z0_ := unhid h3_1; omega))) (by (first | omega | (have z0_ := unhid h3_1; omega))) (by (first | omega | (have z0_ := unhid h3_1; omega))) (by (first | omega | (have z0_ := unhid h3_1; omega))) (by (first | omega | (have z0_ := unhid h3_1; omega))) (by (first | omega | (have z0_ := unhid h3_1; omega))) (by (first | omega | (have z0_ := unhid h3_1; omega))) (by (first | omega | (have z0_ := unhid h3_1; omega))) (by (first | omega | (have z0_ := unhid h3_1; omega))) (by (first | omega | (have z0_ := unhid h3_1; omega))) (by (first | omega | (have z0_ := unhid h3_1; omega))) (by (first | omega | (have z0_ := unhid h3_1; omega))) (by first | exact hI | exact RW2_k hd0 (fun _ => rfl) (fun _ _ => rfl) (by decide) (by (first | omega | (have z0_ := unhid h3_1; omega))) | (exfalso; (first | omega | (have z0_ := unhid h3_1; omega)))) (by first | exact hI | exact RW2_k hd1 (fun _ => rfl) (fun _ _ => rfl) (by decide) (by (first | omega | (have z0_ := unhid h3_1; omega))) | (exfalso; (first | omega | (have z0_ := unhid h3_1; omega)))) (by first | exact hI | exact RW2_k hd2 (fun _ => rfl) (fun _ _ => rfl) (by decide) (by (first | omega | (have z0_ := unhid h3_1; omega))) | (exfalso; (first | omega | (have z0_ := unhid h3_1; omega)))) (by first | exact hI | exact RW2_k hd3 (fun _ => rfl) (fun _ _ => rfl) (by decide) (by (first | omega | (have z0_ := unhid h3_1; omega))) | (exfalso; (first | omega | (have z0_ := unhid h3_1; omega))))
    · skip
      obtain ⟨h3_0, h3_1⟩ := h3
      refine go_toq PM267 (k := 2) (pc' := 1435) (L' := [some (.inr (.inr (some 3000))), some (.inr (.inr (some 0))), some (.inr (.inr (some 79))), some (.inl i)]) (st' := []) (w' := (SH, dt)) rfl ?_
      exact K dt hI hM hM2 (by first | omega | (simp only [*]; done) | simp only [*]) (by omega) (by omega) (by omega) (by omega) (by omega) (by omega) (by omega) (by omega) (by omega) (by omega) (by omega) (by omega) (by omega) (by first | exact hI | exact RW2_k hd0 (fun _ => rfl) (fun _ _ => rfl) (by decide) (by omega) | (exfalso; omega)) (by first | exact hI | exact RW2_k hd1 (fun _ => rfl) (fun _ _ => rfl) (by decide) (by omega) | (exfalso; omega)) (by first | exact hI | exact RW2_k hd2 (fun _ => rfl) (fun _ _ => rfl) (by decide) (by omega) | (exfalso; omega)) (by first | exact hI | exact RW2_k hd3 (fun _ => rfl) (fun _ _ => rfl) (by decide) (by omega) | (exfalso; omega))
    · skip
      refine go_toq PM267 (k := 2) (pc' := 1435) (L' := [some (.inr (.inr (some 3000))), some (.inr (.inr (some 0))), some (.inr (.inr (some 79))), some (.inl i)]) (st' := []) (w' := (SH, dt)) rfl ?_
      exact K dt hI hM hM2 (by first | omega | (simp only [*]; done) | simp only [*]) (by omega) (by omega) (by omega) (by omega) (by omega) (by omega) (by omega) (by omega) (by omega) (by omega) (by omega) (by omega) (by omega) (by first | exact hI | exact RW2_k hd0 (fun _ => rfl) (fun _ _ => rfl) (by decide) (by omega) | (exfalso; omega)) (by first | exact hI | exact RW2_k hd1 (fun _ => rfl) (fun _ _ => rfl) (by decide) (by omega) | (exfalso; omega)) (by first | exact hI | exact RW2_k hd2 (fun _ => rfl) (fun _ _ => rfl) (by decide) (by omega) | (exfalso; omega)) (by first | exact hI | exact RW2_k hd3 (fun _ => rfl) (fun _ _ => rfl) (by decide) (by omega) | (exfalso; omega))
  · skip
    refine go_toq PM267 (k := 6) (pc' := 1427) (L' := [some (.inr (.inr (some 3000))), some (.inr (.inr (some 0))), some (.inr (.inr (some 79))), some (.inl i)]) (st' := [.inl (i + 1), .inr (.inr (some 3000)), .inr (.inr (some 79))]) (w' := (SH, dt)) rfl ?_
    refine go_smpq PM267 (L' := [some (.inr (.inr (some 3000))), some (.inr (.inr (some 0))), some (.inr (.inr (some 79))), some (.inl i)]) (st' := [.inl ((xs ((i + 1).toNat)).toInt), .inr (.inr (some 79))]) (w' := (SH, dt)) rfl rfl (s_iald (n := L) (f := fun j => (xs j).toInt) (am_scr hLL) ⟨by omega, by omega⟩) ?_
    refine go_callq PM267 PM248 (Q' := _) rfl rfl rfl rfl (sp_X6_look L xs sio (d + 38) dt hI  ((xs ((i + 1).toNat)).toInt) ⟨by omega, by omega⟩ ) ?_
    rintro _ _ ⟨rfl, h4⟩
    refine ⟨rfl, ?_⟩
    rcases h4 with ⟨rfl, h4⟩ | ⟨rfl, h4⟩ | ⟨rfl, h4⟩ | ⟨rfl, h4⟩ | ⟨rfl, h4⟩ | ⟨rfl, h4⟩ | ⟨rfl, h4⟩ | ⟨rfl, h4⟩ | ⟨rfl, h4⟩
    · skip
      refine go_toq PM267 (k := 2) (pc' := 1435) (L' := [some (.inr (.inr (some 3000))), some (.inr (.inr (some 0))), some (.inr (.inr (some 79))), some (.inl i)]) (st' := []) (w' := (SH, dt)) rfl ?_
      exact K dt hI hM hM2 (by first | omega | (simp only [*]; done) | simp only [*]) (by omega) (by omega) (by omega) (by omega) (by omega) (by omega) (by omega) (by omega) (by omega) (by omega) (by omega) (by omega) (by omega) (by first | exact hI | exact RW2_k hd0 (fun _ => rfl) (fun _ _ => rfl) (by decide) (by omega) | (exfalso; omega)) (by first | exact hI | exact RW2_k hd1 (fun _ => rfl) (fun _ _ => rfl) (by decide) (by omega) | (exfalso; omega)) (by first | exact hI | exact RW2_k hd2 (fun _ => rfl) (fun _ _ => rfl) (by decide) (by omega) | (exfalso; omega)) (by first | exact hI | exact RW2_k hd3 (fun _ => rfl) (fun _ _ => rfl) (by decide) (by omega) | (exfalso; omega))
    · skip
      refine go_toq PM267 (k := 2) (pc' := 1435) (L' := [some (.inr (.inr (some 3000))), some (.inr (.inr (some 0))), some (.inr (.inr (some 79))), some (.inl i)]) (st' := []) (w' := (SH, dt)) rfl ?_
      exact K dt hI hM hM2 (by first | omega | (simp only [*]; done) | simp only [*]) (by omega) (by omega) (by omega) (by omega) (by omega) (by omega) (by omega) (by omega) (by omega) (by omega) (by omega) (by omega) (by omega) (by first | exact hI | exact RW2_k hd0 (fun _ => rfl) (fun _ _ => rfl) (by decide) (by omega) | (exfalso; omega)) (by first | exact hI | exact RW2_k hd1 (fun _ => rfl) (fun _ _ => rfl) (by decide) (by omega) | (exfalso; omega)) (by first | exact hI | exact RW2_k hd2 (fun _ => rfl) (fun _ _ => rfl) (by decide) (by omega) | (exfalso; omega)) (by first | exact hI | exact RW2_k hd3 (fun _ => rfl) (fun _ _ => rfl) (by decide) (by omega) | (exfalso; omega))
    · skip
      refine go_toq PM267 (k := 2) (pc' := 1435) (L' := [some (.inr (.inr (some 3000))), some (.inr (.inr (some 0))), some (.inr (.inr (some 79))), some (.inl i)]) (st' := []) (w' := (SH, dt)) rfl ?_
      exact K dt hI hM hM2 (by first | omega | (simp only [*]; done) | simp only [*]) (by omega) (by omega) (by omega) (by omega) (by omega) (by omega) (by omega) (by omega) (by omega) (by omega) (by omega) (by omega) (by omega) (by first | exact hI | exact RW2_k hd0 (fun _ => rfl) (fun _ _ => rfl) (by decide) (by omega) | (exfalso; omega)) (by first | exact hI | exact RW2_k hd1 (fun _ => rfl) (fun _ _ => rfl) (by decide) (by omega) | (exfalso; omega)) (by first | exact hI | exact RW2_k hd2 (fun _ => rfl) (fun _ _ => rfl) (by decide) (by omega) | (exfalso; omega)) (by first | exact hI | exact RW2_k hd3 (fun _ => rfl) (fun _ _ => rfl) (by decide) (by omega) | (exfalso; omega))
    · skip
      refine go_toq PM267 (k := 2) (pc' := 1435) (L' := [some (.inr (.inr (some 3000))), some (.inr (.inr (some 0))), some (.inr (.inr (some 79))), some (.inl i)]) (st' := []) (w' := (SH, dt)) rfl ?_
      exact K dt hI hM hM2 (by first | omega | (simp only [*]; done) | simp only [*]) (by omega) (by omega) (by omega) (by omega) (by omega) (by omega) (by omega) (by omega) (by omega) (by omega) (by omega) (by omega) (by omega) (by first | exact hI | exact RW2_k hd0 (fun _ => rfl) (fun _ _ => rfl) (by decide) (by omega) | (exfalso; omega)) (by first | exact hI | exact RW2_k hd1 (fun _ => rfl) (fun _ _ => rfl) (by decide) (by omega) | (exfalso; omega)) (by first | exact hI | exact RW2_k hd2 (fun _ => rfl) (fun _ _ => rfl) (by decide) (by omega) | (exfalso; omega)) (by first | exact hI | exact RW2_k hd3 (fun _ => rfl) (fun _ _ => rfl) (by decide) (by omega) | (exfalso; omega))
    · skip
      refine go_toq PM267 (k := 2) (pc' := 1435) (L' := [some (.inr (.inr (some 3000))), some (.inr (.inr (some 0))), some (.inr (.inr (some 79))), some (.inl i)]) (st' := []) (w' := (SH, dt)) rfl ?_
      exact K dt hI hM hM2 (by first | omega | (simp only [*]; done) | simp only [*]) (by omega) (by omega) (by omega) (by omega) (by omega) (by omega) (by omega) (by omega) (by omega) (by omega) (by omega) (by omega) (by omega) (by first | exact hI | exact RW2_k hd0 (fun _ => rfl) (fun _ _ => rfl) (by decide) (by omega) | (exfalso; omega)) (by first | exact hI | exact RW2_k hd1 (fun _ => rfl) (fun _ _ => rfl) (by decide) (by omega) | (exfalso; omega)) (by first | exact hI | exact RW2_k hd2 (fun _ => rfl) (fun _ _ => rfl) (by decide) (by omega) | (exfalso; omega)) (by first | exact hI | exact RW2_k hd3 (fun _ => rfl) (fun _ _ => rfl) (by decide) (by omega) | (exfalso; omega))
    · skip
      refine go_toq PM267 (k := 2) (pc' := 1435) (L' := [some (.inr (.inr (some 3000))), some (.inr (.inr (some 0))), some (.inr (.inr (some 79))), some (.inl i)]) (st' := []) (w' := (SH, dt)) rfl ?_
      exact K dt hI hM hM2 (by first | omega | (simp only [*]; done) | simp only [*]) (by omega) (by omega) (by omega) (by omega) (by omega) (by omega) (by omega) (by omega) (by omega) (by omega) (by omega) (by omega) (by omega) (by first | exact hI | exact RW2_k hd0 (fun _ => rfl) (fun _ _ => rfl) (by decide) (by omega) | (exfalso; omega)) (by first | exact hI | exact RW2_k hd1 (fun _ => rfl) (fun _ _ => rfl) (by decide) (by omega) | (exfalso; omega)) (by first | exact hI | exact RW2_k hd2 (fun _ => rfl) (fun _ _ => rfl) (by decide) (by omega) | (exfalso; omega)) (by first | exact hI | exact RW2_k hd3 (fun _ => rfl) (fun _ _ => rfl) (by decide) (by omega) | (exfalso; omega))
    · skip
      obtain ⟨h4_0, h4_1⟩ := h4
      replace h4_1 := hid h4_1
      refine go_toq PM267 (k := 2) (pc' := 1435) (L' := [some (.inr (.inr (some 3000))), some (.inr (.inr (some 0))), some (.inr (.inr (some 79))), some (.inl i)]) (st' := []) (w' := (SH, dt)) rfl ?_
      exact K dt hI hM hM2 (by first | (first | omega | (have z0_ := unhid h4_1; omega)) | (simp only [*]; done) | simp only [*]) (by (first | omega | (have z0_ := unhid h4_1; omega))) (by (first | omega | (have z0_ := unhid h4_1; omega))) (by (first | omega | (have z0_ := unhid h4_1; omega))) (by (first | omega | (have z0_ := unhid h4_1; omega))) (by (first | omega | (have z0_ := unhid h4_1; omega))) (by (first | omega | (have z0_ := unhid h4_1; omega))) (by (first | omega | (have z0_ := unhid h4_1; omega))) (by (first | omega | (have z0_ := unhid h4_1; omega))) (by (first | omega | (have z0_ := unhid h4_1; omega))) (by (first | omega | (have z0_ := unhid h4_1; omega))) (by (first | omega | (have z0_ := unhid h4_1; omega))) (by (first | omega | (have z0_ := unhid h4_1; omega))) (by (first | omega | (have z0_ := unhid h4_1; omega))) (by first | exact hI | exact RW2_k hd0 (fun _ => rfl) (fun _ _ => rfl) (by decide) (by (first | omega | (have z0_ := unhid h4_1; omega))) | (exfalso; (first | omega | (have z0_ := unhid h4_1; omega)))) (by first | exact hI | exact RW2_k hd1 (fun _ => rfl) (fun _ _ => rfl) (by decide) (by (first | omega | (have z0_ := unhid h4_1; omega))) | (exfalso; (first | omega | (have z0_ := unhid h4_1; omega)))) (by first | exact hI | exact RW2_k hd2 (fun _ => rfl) (fun _ _ => rfl) (by decide) (by (first | omega | (have z0_ := unhid h4_1; omega))) | (exfalso; (first | omega | (have z0_ := unhid h4_1; omega)))) (by first | exact hI | exact RW2_k hd3 (fun _ => rfl) (fun _ _ => rfl) (by decide) (by (first | omega | (have z0_ := unhid h4_1; omega))) | (exfalso; (first | omega | (have z0_ := unhid h4_1; omega))))
    · skip
      obtain ⟨h4_0, h4_1⟩ := h4
      refine go_toq PM267 (k := 2) (pc' := 1435) (L' := [some (.inr (.inr (some 3000))), some (.inr (.inr (some 0))), some (.inr (.inr (some 79))), some (.inl i)]) (st' := []) (w' := (SH, dt)) rfl ?_
      exact K dt hI hM hM2 (by first | omega | (simp only [*]; done) | simp only [*]) (by omega) (by omega) (by omega) (by omega) (by omega) (by omega) (by omega) (by omega) (by omega) (by omega) (by omega) (by omega) (by omega) (by first | exact hI | exact RW2_k hd0 (fun _ => rfl) (fun _ _ => rfl) (by decide) (by omega) | (exfalso; omega)) (by first | exact hI | exact RW2_k hd1 (fun _ => rfl) (fun _ _ => rfl) (by decide) (by omega) | (exfalso; omega)) (by first | exact hI | exact RW2_k hd2 (fun _ => rfl) (fun _ _ => rfl) (by decide) (by omega) | (exfalso; omega)) (by first | exact hI | exact RW2_k hd3 (fun _ => rfl) (fun _ _ => rfl) (by decide) (by omega) | (exfalso; omega))
    · skip
      refine go_toq PM267 (k := 2) (pc' := 1435) (L' := [some (.inr (.inr (some 3000))), some (.inr (.inr (some 0))), some (.inr (.inr (some 79))), some (.inl i)]) (st' := []) (w' := (SH, dt)) rfl ?_
      exact K dt hI hM hM2 (by first | omega | (simp only [*]; done) | simp only [*]) (by omega) (by omega) (by omega) (by omega) (by omega) (by omega) (by omega) (by omega) (by omega) (by omega) (by omega) (by omega) (by omega) (by first | exact hI | exact RW2_k hd0 (fun _ => rfl) (fun _ _ => rfl) (by decide) (by omega) | (exfalso; omega)) (by first | exact hI | exact RW2_k hd1 (fun _ => rfl) (fun _ _ => rfl) (by decide) (by omega) | (exfalso; omega)) (by first | exact hI | exact RW2_k hd2 (fun _ => rfl) (fun _ _ => rfl) (by decide) (by omega) | (exfalso; omega)) (by first | exact hI | exact RW2_k hd3 (fun _ => rfl) (fun _ _ => rfl) (by decide) (by omega) | (exfalso; omega))
  · skip
    refine go_toq PM267 (k := 6) (pc' := 1427) (L' := [some (.inr (.inr (some 3000))), some (.inr (.inr (some 0))), some (.inr (.inr (some 79))), some (.inl i)]) (st' := [.inl (i + 1), .inr (.inr (some 3000)), .inr (.inr (some 79))]) (w' := (SH, dt)) rfl ?_
    refine go_smpq PM267 (L' := [some (.inr (.inr (some 3000))), some (.inr (.inr (some 0))), some (.inr (.inr (some 79))), some (.inl i)]) (st' := [.inl ((xs ((i + 1).toNat)).toInt), .inr (.inr (some 79))]) (w' := (SH, dt)) rfl rfl (s_iald (n := L) (f := fun j => (xs j).toInt) (am_scr hLL) ⟨by omega, by omega⟩) ?_
    refine go_callq PM267 PM248 (Q' := _) rfl rfl rfl rfl (sp_X6_look L xs sio (d + 38) dt hI  ((xs ((i + 1).toNat)).toInt) ⟨by omega, by omega⟩ ) ?_
    rintro _ _ ⟨rfl, h5⟩
    refine ⟨rfl, ?_⟩
    rcases h5 with ⟨rfl, h5⟩ | ⟨rfl, h5⟩ | ⟨rfl, h5⟩ | ⟨rfl, h5⟩ | ⟨rfl, h5⟩ | ⟨rfl, h5⟩ | ⟨rfl, h5⟩ | ⟨rfl, h5⟩ | ⟨rfl, h5⟩
    · skip
      refine go_toq PM267 (k := 2) (pc' := 1435) (L' := [some (.inr (.inr (some 3000))), some (.inr (.inr (some 0))), some (.inr (.inr (some 79))), some (.inl i)]) (st' := []) (w' := (SH, dt)) rfl ?_
      exact K dt hI hM hM2 (by first | omega | (simp only [*]; done) | simp only [*]) (by omega) (by omega) (by omega) (by omega) (by omega) (by omega) (by omega) (by omega) (by omega) (by omega) (by omega) (by omega) (by omega) (by first | exact hI | exact RW2_k hd0 (fun _ => rfl) (fun _ _ => rfl) (by decide) (by omega) | (exfalso; omega)) (by first | exact hI | exact RW2_k hd1 (fun _ => rfl) (fun _ _ => rfl) (by decide) (by omega) | (exfalso; omega)) (by first | exact hI | exact RW2_k hd2 (fun _ => rfl) (fun _ _ => rfl) (by decide) (by omega) | (exfalso; omega)) (by first | exact hI | exact RW2_k hd3 (fun _ => rfl) (fun _ _ => rfl) (by decide) (by omega) | (exfalso; omega))
    · skip
      refine go_toq PM267 (k := 2) (pc' := 1435) (L' := [some (.inr (.inr (some 3000))), some (.inr (.inr (some 0))), some (.inr (.inr (some 79))), some (.inl i)]) (st' := []) (w' := (SH, dt)) rfl ?_
      exact K dt hI hM hM2 (by first | omega | (simp only [*]; done) | simp only [*]) (by omega) (by omega) (by omega) (by omega) (by omega) (by omega) (by omega) (by omega) (by omega) (by omega) (by omega) (by omega) (by omega) (by first | exact hI | exact RW2_k hd0 (fun _ => rfl) (fun _ _ => rfl) (by decide) (by omega) | (exfalso; omega)) (by first | exact hI | exact RW2_k hd1 (fun _ => rfl) (fun _ _ => rfl) (by decide) (by omega) | (exfalso; omega)) (by first | exact hI | exact RW2_k hd2 (fun _ => rfl) (fun _ _ => rfl) (by decide) (by omega) | (exfalso; omega)) (by first | exact hI | exact RW2_k hd3 (fun _ => rfl) (fun _ _ => rfl) (by decide) (by omega) | (exfalso; omega))
    · skip
      refine go_toq PM267 (k := 2) (pc' := 1435) (L' := [some (.inr (.inr (some 3000))), some (.inr (.inr (some 0))), some (.inr (.inr (some 79))), some (.inl i)]) (st' := []) (w' := (SH, dt)) rfl ?_
      exact K dt hI hM hM2 (by first | omega | (simp only [*]; done) | simp only [*]) (by omega) (by omega) (by omega) (by omega) (by omega) (by omega) (by omega) (by omega) (by omega) (by omega) (by omega) (by omega) (by omega) (by first | exact hI | exact RW2_k hd0 (fun _ => rfl) (fun _ _ => rfl) (by decide) (by omega) | (exfalso; omega)) (by first | exact hI | exact RW2_k hd1 (fun _ => rfl) (fun _ _ => rfl) (by decide) (by omega) | (exfalso; omega)) (by first | exact hI | exact RW2_k hd2 (fun _ => rfl) (fun _ _ => rfl) (by decide) (by omega) | (exfalso; omega)) (by first | exact hI | exact RW2_k hd3 (fun _ => rfl) (fun _ _ => rfl) (by decide) (by omega) | (exfalso; omega))
    · skip
      refine go_toq PM267 (k := 2) (pc' := 1435) (L' := [some (.inr (.inr (some 3000))), some (.inr (.inr (some 0))), some (.inr (.inr (some 79))), some (.inl i)]) (st' := []) (w' := (SH, dt)) rfl ?_
      exact K dt hI hM hM2 (by first | omega | (simp only [*]; done) | simp only [*]) (by omega) (by omega) (by omega) (by omega) (by omega) (by omega) (by omega) (by omega) (by omega) (by omega) (by omega) (by omega) (by omega) (by first | exact hI | exact RW2_k hd0 (fun _ => rfl) (fun _ _ => rfl) (by decide) (by omega) | (exfalso; omega)) (by first | exact hI | exact RW2_k hd1 (fun _ => rfl) (fun _ _ => rfl) (by decide) (by omega) | (exfalso; omega)) (by first | exact hI | exact RW2_k hd2 (fun _ => rfl) (fun _ _ => rfl) (by decide) (by omega) | (exfalso; omega)) (by first | exact hI | exact RW2_k hd3 (fun _ => rfl) (fun _ _ => rfl) (by decide) (by omega) | (exfalso; omega))
    · skip
      refine go_toq PM267 (k := 2) (pc' := 1435) (L' := [some (.inr (.inr (some 3000))), some (.inr (.inr (some 0))), some (.inr (.inr (some 79))), some (.inl i)]) (st' := []) (w' := (SH, dt)) rfl ?_
      exact K dt hI hM hM2 (by first | omega | (simp only [*]; done) | simp only [*]) (by omega) (by omega) (by omega) (by omega) (by omega) (by omega) (by omega) (by omega) (by omega) (by omega) (by omega) (by omega) (by omega) (by first | exact hI | exact RW2_k hd0 (fun _ => rfl) (fun _ _ => rfl) (by decide) (by omega) | (exfalso; omega)) (by first | exact hI | exact RW2_k hd1 (fun _ => rfl) (fun _ _ => rfl) (by decide) (by omega) | (exfalso; omega)) (by first | exact hI | exact RW2_k hd2 (fun _ => rfl) (fun _ _ => rfl) (by decide) (by omega) | (exfalso; omega)) (by first | exact hI | exact RW2_k hd3 (fun _ => rfl) (fun _ _ => rfl) (by decide) (by omega) | (exfalso; omega))
    · skip
      refine go_toq PM267 (k := 2) (pc' := 1435) (L' := [some (.inr (.inr (some 3000))), some (.inr (.inr (some 0))), some (.inr (.inr (some 79))), some (.inl i)]) (st' := []) (w' := (SH, dt)) rfl ?_
      exact K dt hI hM hM2 (by first | omega | (simp only [*]; done) | simp only [*]) (by omega) (by omega) (by omega) (by omega) (by omega) (by omega) (by omega) (by omega) (by omega) (by omega) (by omega) (by omega) (by omega) (by first | exact hI | exact RW2_k hd0 (fun _ => rfl) (fun _ _ => rfl) (by decide) (by omega) | (exfalso; omega)) (by first | exact hI | exact RW2_k hd1 (fun _ => rfl) (fun _ _ => rfl) (by decide) (by omega) | (exfalso; omega)) (by first | exact hI | exact RW2_k hd2 (fun _ => rfl) (fun _ _ => rfl) (by decide) (by omega) | (exfalso; omega)) (by first | exact hI | exact RW2_k hd3 (fun _ => rfl) (fun _ _ => rfl) (by decide) (by omega) | (exfalso; omega))
    · skip
      obtain ⟨h5_0, h5_1⟩ := h5
      replace h5_1 := hid h5_1
      refine go_toq PM267 (k := 2) (pc' := 1435) (L' := [some (.inr (.inr (some 3000))), some (.inr (.inr (some 0))), some (.inr (.inr (some 79))), some (.inl i)]) (st' := []) (w' := (SH, dt)) rfl ?_
      exact K dt hI hM hM2 (by first | (first | omega | (have z0_ := unhid h5_1; omega)) | (simp only [*]; done) | simp only [*]) (by (first | omega | (have z0_ := unhid h5_1; omega))) (by (first | omega | (have z0_ := unhid h5_1; omega))) (by (first | omega | (have z0_ := unhid h5_1; omega))) (by (first | omega | (have z0_ := unhid h5_1; omega))) (by (first | omega | (have z0_ := unhid h5_1; omega))) (by (first | omega | (have z0_ := unhid h5_1; omega))) (by (first | omega | (have z0_ := unhid h5_1; omega))) (by (first | omega | (have z0_ := unhid h5_1; omega))) (by (first | omega | (have z0_ := unhid h5_1; omega))) (by (first | omega | (have z0_ := unhid h5_1; omega))) (by (first | omega | (have z0_ := unhid h5_1; omega))) (by (first | omega | (have z0_ := unhid h5_1; omega))) (by (first | omega | (have z0_ := unhid h5_1; omega))) (by first | exact hI | exact RW2_k hd0 (fun _ => rfl) (fun _ _ => rfl) (by decide) (by (first | omega | (have z0_ := unhid h5_1; omega))) | (exfalso; (first | omega | (have z0_ := unhid h5_1; omega)))) (by first | exact hI | exact RW2_k hd1 (fun _ => rfl) (fun _ _ => rfl) (by decide) (by (first | omega | (have z0_ := unhid h5_1; omega))) | (exfalso; (first | omega | (have z0_ := unhid h5_1; omega)))) (by first | exact hI | exact RW2_k hd2 (fun _ => rfl) (fun _ _ => rfl) (by decide) (by (first | omega | (have z0_ := unhid h5_1; omega))) | (exfalso; (first | omega | (have z0_ := unhid h5_1; omega)))) (by first | exact hI | exact RW2_k hd3 (fun _ => rfl) (fun _ _ => rfl) (by decide) (by (first | omega | (have z0_ := unhid h5_1; omega))) | (exfalso; (first | omega | (have z0_ := unhid h5_1; omega))))
    · skip
      obtain ⟨h5_0, h5_1⟩ := h5
      refine go_toq PM267 (k := 2) (pc' := 1435) (L' := [some (.inr (.inr (some 3000))), some (.inr (.inr (some 0))), some (.inr (.inr (some 79))), some (.inl i)]) (st' := []) (w' := (SH, dt)) rfl ?_
      exact K dt hI hM hM2 (by first | omega | (simp only [*]; done) | simp only [*]) (by omega) (by omega) (by omega) (by omega) (by omega) (by omega) (by omega) (by omega) (by omega) (by omega) (by omega) (by omega) (by omega) (by first | exact hI | exact RW2_k hd0 (fun _ => rfl) (fun _ _ => rfl) (by decide) (by omega) | (exfalso; omega)) (by first | exact hI | exact RW2_k hd1 (fun _ => rfl) (fun _ _ => rfl) (by decide) (by omega) | (exfalso; omega)) (by first | exact hI | exact RW2_k hd2 (fun _ => rfl) (fun _ _ => rfl) (by decide) (by omega) | (exfalso; omega)) (by first | exact hI | exact RW2_k hd3 (fun _ => rfl) (fun _ _ => rfl) (by decide) (by omega) | (exfalso; omega))
    · skip
      refine go_toq PM267 (k := 2) (pc' := 1435) (L' := [some (.inr (.inr (some 3000))), some (.inr (.inr (some 0))), some (.inr (.inr (some 79))), some (.inl i)]) (st' := []) (w' := (SH, dt)) rfl ?_
      exact K dt hI hM hM2 (by first | omega | (simp only [*]; done) | simp only [*]) (by omega) (by omega) (by omega) (by omega) (by omega) (by omega) (by omega) (by omega) (by omega) (by omega) (by omega) (by omega) (by omega) (by first | exact hI | exact RW2_k hd0 (fun _ => rfl) (fun _ _ => rfl) (by decide) (by omega) | (exfalso; omega)) (by first | exact hI | exact RW2_k hd1 (fun _ => rfl) (fun _ _ => rfl) (by decide) (by omega) | (exfalso; omega)) (by first | exact hI | exact RW2_k hd2 (fun _ => rfl) (fun _ _ => rfl) (by decide) (by omega) | (exfalso; omega)) (by first | exact hI | exact RW2_k hd3 (fun _ => rfl) (fun _ _ => rfl) (by decide) (by omega) | (exfalso; omega))
  · skip
    refine go_toq PM267 (k := 6) (pc' := 1427) (L' := [some (.inr (.inr (some 3000))), some (.inr (.inr (some 0))), some (.inr (.inr (some 79))), some (.inl i)]) (st' := [.inl (i + 1), .inr (.inr (some 3000)), .inr (.inr (some 79))]) (w' := (SH, dt)) rfl ?_
    refine go_smpq PM267 (L' := [some (.inr (.inr (some 3000))), some (.inr (.inr (some 0))), some (.inr (.inr (some 79))), some (.inl i)]) (st' := [.inl ((xs ((i + 1).toNat)).toInt), .inr (.inr (some 79))]) (w' := (SH, dt)) rfl rfl (s_iald (n := L) (f := fun j => (xs j).toInt) (am_scr hLL) ⟨by omega, by omega⟩) ?_
    refine go_callq PM267 PM248 (Q' := _) rfl rfl rfl rfl (sp_X6_look L xs sio (d + 38) dt hI  ((xs ((i + 1).toNat)).toInt) ⟨by omega, by omega⟩ ) ?_
    rintro _ _ ⟨rfl, h6⟩
    refine ⟨rfl, ?_⟩
    rcases h6 with ⟨rfl, h6⟩ | ⟨rfl, h6⟩ | ⟨rfl, h6⟩ | ⟨rfl, h6⟩ | ⟨rfl, h6⟩ | ⟨rfl, h6⟩ | ⟨rfl, h6⟩ | ⟨rfl, h6⟩ | ⟨rfl, h6⟩
    · skip
      refine go_toq PM267 (k := 2) (pc' := 1435) (L' := [some (.inr (.inr (some 3000))), some (.inr (.inr (some 0))), some (.inr (.inr (some 79))), some (.inl i)]) (st' := []) (w' := (SH, dt)) rfl ?_
      exact K dt hI hM hM2 (by first | omega | (simp only [*]; done) | simp only [*]) (by omega) (by omega) (by omega) (by omega) (by omega) (by omega) (by omega) (by omega) (by omega) (by omega) (by omega) (by omega) (by omega) (by first | exact hI | exact RW2_k hd0 (fun _ => rfl) (fun _ _ => rfl) (by decide) (by omega) | (exfalso; omega)) (by first | exact hI | exact RW2_k hd1 (fun _ => rfl) (fun _ _ => rfl) (by decide) (by omega) | (exfalso; omega)) (by first | exact hI | exact RW2_k hd2 (fun _ => rfl) (fun _ _ => rfl) (by decide) (by omega) | (exfalso; omega)) (by first | exact hI | exact RW2_k hd3 (fun _ => rfl) (fun _ _ => rfl) (by decide) (by omega) | (exfalso; omega))
    · skip
      refine go_toq PM267 (k := 2) (pc' := 1435) (L' := [some (.inr (.inr (some 3000))), some (.inr (.inr (some 0))), some (.inr (.inr (some 79))), some (.inl i)]) (st' := []) (w' := (SH, dt)) rfl ?_
      exact K dt hI hM hM2 (by first | omega | (simp only [*]; done) | simp only [*]) (by omega) (by omega) (by omega) (by omega) (by omega) (by omega) (by omega) (by omega) (by omega) (by omega) (by omega) (by omega) (by omega) (by first | exact hI | exact RW2_k hd0 (fun _ => rfl) (fun _ _ => rfl) (by decide) (by omega) | (exfalso; omega)) (by first | exact hI | exact RW2_k hd1 (fun _ => rfl) (fun _ _ => rfl) (by decide) (by omega) | (exfalso; omega)) (by first | exact hI | exact RW2_k hd2 (fun _ => rfl) (fun _ _ => rfl) (by decide) (by omega) | (exfalso; omega)) (by first | exact hI | exact RW2_k hd3 (fun _ => rfl) (fun _ _ => rfl) (by decide) (by omega) | (exfalso; omega))
    · skip
      refine go_toq PM267 (k := 2) (pc' := 1435) (L' := [some (.inr (.inr (some 3000))), some (.inr (.inr (some 0))), some (.inr (.inr (some 79))), some (.inl i)]) (st' := []) (w' := (SH, dt)) rfl ?_
      exact K dt hI hM hM2 (by first | omega | (simp only [*]; done) | simp only [*]) (by omega) (by omega) (by omega) (by omega) (by omega) (by omega) (by omega) (by omega) (by omega) (by omega) (by omega) (by omega) (by omega) (by first | exact hI | exact RW2_k hd0 (fun _ => rfl) (fun _ _ => rfl) (by decide) (by omega) | (exfalso; omega)) (by first | exact hI | exact RW2_k hd1 (fun _ => rfl) (fun _ _ => rfl) (by decide) (by omega) | (exfalso; omega)) (by first | exact hI | exact RW2_k hd2 (fun _ => rfl) (fun _ _ => rfl) (by decide) (by omega) | (exfalso; omega)) (by first | exact hI | exact RW2_k hd3 (fun _ => rfl) (fun _ _ => rfl) (by decide) (by omega) | (exfalso; omega))
    · skip
      refine go_toq PM267 (k := 2) (pc' := 1435) (L' := [some (.inr (.inr (some 3000))), some (.inr (.inr (some 0))), some (.inr (.inr (some 79))), some (.inl i)]) (st' := []) (w' := (SH, dt)) rfl ?_
      exact K dt hI hM hM2 (by first | omega | (simp only [*]; done) | simp only [*]) (by omega) (by omega) (by omega) (by omega) (by omega) (by omega) (by omega) (by omega) (by omega) (by omega) (by omega) (by omega) (by omega) (by first | exact hI | exact RW2_k hd0 (fun _ => rfl) (fun _ _ => rfl) (by decide) (by omega) | (exfalso; omega)) (by first | exact hI | exact RW2_k hd1 (fun _ => rfl) (fun _ _ => rfl) (by decide) (by omega) | (exfalso; omega)) (by first | exact hI | exact RW2_k hd2 (fun _ => rfl) (fun _ _ => rfl) (by decide) (by omega) | (exfalso; omega)) (by first | exact hI | exact RW2_k hd3 (fun _ => rfl) (fun _ _ => rfl) (by decide) (by omega) | (exfalso; omega))
    · skip
      refine go_toq PM267 (k := 2) (pc' := 1435) (L' := [some (.inr (.inr (some 3000))), some (.inr (.inr (some 0))), some (.inr (.inr (some 79))), some (.inl i)]) (st' := []) (w' := (SH, dt)) rfl ?_
      exact K dt hI hM hM2 (by first | omega | (simp only [*]; done) | simp only [*]) (by omega) (by omega) (by omega) (by omega) (by omega) (by omega) (by omega) (by omega) (by omega) (by omega) (by omega) (by omega) (by omega) (by first | exact hI | exact RW2_k hd0 (fun _ => rfl) (fun _ _ => rfl) (by decide) (by omega) | (exfalso; omega)) (by first | exact hI | exact RW2_k hd1 (fun _ => rfl) (fun _ _ => rfl) (by decide) (by omega) | (exfalso; omega)) (by first | exact hI | exact RW2_k hd2 (fun _ => rfl) (fun _ _ => rfl) (by decide) (by omega) | (exfalso; omega)) (by first | exact hI | exact RW2_k hd3 (fun _ => rfl) (fun _ _ => rfl) (by decide) (by omega) | (exfalso; omega))
    · skip
      refine go_toq PM267 (k := 2) (pc' := 1435) (L' := [some (.inr (.inr (some 3000))), some (.inr (.inr (some 0))), some (.inr (.inr (some 79))), some (.inl i)]) (st' := []) (w' := (SH, dt)) rfl ?_
      exact K dt hI hM hM2 (by first | omega | (simp only [*]; done) | simp only [*]) (by omega) (by omega) (by omega) (by omega) (by omega) (by omega) (by omega) (by omega) (by omega) (by omega) (by omega) (by omega) (by omega) (by first | exact hI | exact RW2_k hd0 (fun _ => rfl) (fun _ _ => rfl) (by decide) (by omega) | (exfalso; omega)) (by first | exact hI | exact RW2_k hd1 (fun _ => rfl) (fun _ _ => rfl) (by decide) (by omega) | (exfalso; omega)) (by first | exact hI | exact RW2_k hd2 (fun _ => rfl) (fun _ _ => rfl) (by decide) (by omega) | (exfalso; omega)) (by first | exact hI | exact RW2_k hd3 (fun _ => rfl) (fun _ _ => rfl) (by decide) (by omega) | (exfalso; omega))
    · skip
      obtain ⟨h6_0, h6_1⟩ := h6
      replace h6_1 := hid h6_1
      refine go_toq PM267 (k := 2) (pc' := 1435) (L' := [some (.inr (.inr (some 3000))), some (.inr (.inr (some 0))), some (.inr (.inr (some 79))), some (.inl i)]) (st' := []) (w' := (SH, dt)) rfl ?_
      exact K dt hI hM hM2 (by first | (first | omega | (have z0_ := unhid h6_1; omega)) | (simp only [*]; done) | simp only [*]) (by (first | omega | (have z0_ := unhid h6_1; omega))) (by (first | omega | (have z0_ := unhid h6_1; omega))) (by (first | omega | (have z0_ := unhid h6_1; omega))) (by (first | omega | (have z0_ := unhid h6_1; omega))) (by (first | omega | (have z0_ := unhid h6_1; omega))) (by (first | omega | (have z0_ := unhid h6_1; omega))) (by (first | omega | (have z0_ := unhid h6_1; omega))) (by (first | omega | (have z0_ := unhid h6_1; omega))) (by (first | omega | (have z0_ := unhid h6_1; omega))) (by (first | omega | (have z0_ := unhid h6_1; omega))) (by (first | omega | (have z0_ := unhid h6_1; omega))) (by (first | omega | (have z0_ := unhid h6_1; omega))) (by (first | omega | (have z0_ := unhid h6_1; omega))) (by first | exact hI | exact RW2_k hd0 (fun _ => rfl) (fun _ _ => rfl) (by decide) (by (first | omega | (have z0_ := unhid h6_1; omega))) | (exfalso; (first | omega | (have z0_ := unhid h6_1; omega)))) (by first | exact hI | exact RW2_k hd1 (fun _ => rfl) (fun _ _ => rfl) (by decide) (by (first | omega | (have z0_ := unhid h6_1; omega))) | (exfalso; (first | omega | (have z0_ := unhid h6_1; omega)))) (by first | exact hI | exact RW2_k hd2 (fun _ => rfl) (fun _ _ => rfl) (by decide) (by (first | omega | (have z0_ := unhid h6_1; omega))) | (exfalso; (first | omega | (have z0_ := unhid h6_1; omega)))) (by first | exact hI | exact RW2_k hd3 (fun _ => rfl) (fun _ _ => rfl) (by decide) (by (first | omega | (have z0_ := unhid h6_1; omega))) | (exfalso; (first | omega | (have z0_ := unhid h6_1; omega))))
    · skip
      obtain ⟨h6_0, h6_1⟩ := h6
      refine go_toq PM267 (k := 2) (pc' := 1435) (L' := [some (.inr (.inr (some 3000))), some (.inr (.inr (some 0))), some (.inr (.inr (some 79))), some (.inl i)]) (st' := []) (w' := (SH, dt)) rfl ?_
      exact K dt hI hM hM2 (by first | omega | (simp only [*]; done) | simp only [*]) (by omega) (by omega) (by omega) (by omega) (by omega) (by omega) (by omega) (by omega) (by omega) (by omega) (by omega) (by omega) (by omega) (by first | exact hI | exact RW2_k hd0 (fun _ => rfl) (fun _ _ => rfl) (by decide) (by omega) | (exfalso; omega)) (by first | exact hI | exact RW2_k hd1 (fun _ => rfl) (fun _ _ => rfl) (by decide) (by omega) | (exfalso; omega)) (by first | exact hI | exact RW2_k hd2 (fun _ => rfl) (fun _ _ => rfl) (by decide) (by omega) | (exfalso; omega)) (by first | exact hI | exact RW2_k hd3 (fun _ => rfl) (fun _ _ => rfl) (by decide) (by omega) | (exfalso; omega))
    · skip
      refine go_toq PM267 (k := 2) (pc' := 1435) (L' := [some (.inr (.inr (some 3000))), some (.inr (.inr (some 0))), some (.inr (.inr (some 79))), some (.inl i)]) (st' := []) (w' := (SH, dt)) rfl ?_
      exact K dt hI hM hM2 (by first | omega | (simp only [*]; done) | simp only [*]) (by omega) (by omega) (by omega) (by omega) (by omega) (by omega) (by omega) (by omega) (by omega) (by omega) (by omega) (by omega) (by omega) (by first | exact hI | exact RW2_k hd0 (fun _ => rfl) (fun _ _ => rfl) (by decide) (by omega) | (exfalso; omega)) (by first | exact hI | exact RW2_k hd1 (fun _ => rfl) (fun _ _ => rfl) (by decide) (by omega) | (exfalso; omega)) (by first | exact hI | exact RW2_k hd2 (fun _ => rfl) (fun _ _ => rfl) (by decide) (by omega) | (exfalso; omega)) (by first | exact hI | exact RW2_k hd3 (fun _ => rfl) (fun _ _ => rfl) (by decide) (by omega) | (exfalso; omega))
  · skip
    refine go_toq PM267 (k := 6) (pc' := 1427) (L' := [some (.inr (.inr (some 3000))), some (.inr (.inr (some 0))), some (.inr (.inr (some 79))), some (.inl i)]) (st' := [.inl (i + 1), .inr (.inr (some 3000)), .inr (.inr (some 79))]) (w' := (SH, dt)) rfl ?_
    refine go_smpq PM267 (L' := [some (.inr (.inr (some 3000))), some (.inr (.inr (some 0))), some (.inr (.inr (some 79))), some (.inl i)]) (st' := [.inl ((xs ((i + 1).toNat)).toInt), .inr (.inr (some 79))]) (w' := (SH, dt)) rfl rfl (s_iald (n := L) (f := fun j => (xs j).toInt) (am_scr hLL) ⟨by omega, by omega⟩) ?_
    refine go_callq PM267 PM248 (Q' := _) rfl rfl rfl rfl (sp_X6_look L xs sio (d + 38) dt hI  ((xs ((i + 1).toNat)).toInt) ⟨by omega, by omega⟩ ) ?_
    rintro _ _ ⟨rfl, h7⟩
    refine ⟨rfl, ?_⟩
    rcases h7 with ⟨rfl, h7⟩ | ⟨rfl, h7⟩ | ⟨rfl, h7⟩ | ⟨rfl, h7⟩ | ⟨rfl, h7⟩ | ⟨rfl, h7⟩ | ⟨rfl, h7⟩ | ⟨rfl, h7⟩ | ⟨rfl, h7⟩
    · skip
      refine go_toq PM267 (k := 2) (pc' := 1435) (L' := [some (.inr (.inr (some 3000))), some (.inr (.inr (some 0))), some (.inr (.inr (some 79))), some (.inl i)]) (st' := []) (w' := (SH, dt)) rfl ?_
      exact K dt hI hM hM2 (by first | omega | (simp only [*]; done) | simp only [*]) (by omega) (by omega) (by omega) (by omega) (by omega) (by omega) (by omega) (by omega) (by omega) (by omega) (by omega) (by omega) (by omega) (by first | exact hI | exact RW2_k hd0 (fun _ => rfl) (fun _ _ => rfl) (by decide) (by omega) | (exfalso; omega)) (by first | exact hI | exact RW2_k hd1 (fun _ => rfl) (fun _ _ => rfl) (by decide) (by omega) | (exfalso; omega)) (by first | exact hI | exact RW2_k hd2 (fun _ => rfl) (fun _ _ => rfl) (by decide) (by omega) | (exfalso; omega)) (by first | exact hI | exact RW2_k hd3 (fun _ => rfl) (fun _ _ => rfl) (by decide) (by omega) | (exfalso; omega))
    · skip
      refine go_toq PM267 (k := 2) (pc' := 1435) (L' := [some (.inr (.inr (some 3000))), some (.inr (.inr (some 0))), some (.inr (.inr (some 79))), some (.inl i)]) (st' := []) (w' := (SH, dt)) rfl ?_
      exact K dt hI hM hM2 (by first | omega | (simp only [*]; done) | simp only [*]) (by omega) (by omega) (by omega) (by omega) (by omega) (by omega) (by omega) (by omega) (by omega) (by omega) (by omega) (by omega) (by omega) (by first | exact hI | exact RW2_k hd0 (fun _ => rfl) (fun _ _ => rfl) (by decide) (by omega) | (exfalso; omega)) (by first | exact hI | exact RW2_k hd1 (fun _ => rfl) (fun _ _ => rfl) (by decide) (by omega) | (exfalso; omega)) (by first | exact hI | exact RW2_k hd2 (fun _ => rfl) (fun _ _ => rfl) (by decide) (by omega) | (exfalso; omega)) (by first | exact hI | exact RW2_k hd3 (fun _ => rfl) (fun _ _ => rfl) (by decide) (by omega) | (exfalso; omega))
    · skip
      refine go_toq PM267 (k := 2) (pc' := 1435) (L' := [some (.inr (.inr (some 3000))), some (.inr (.inr (some 0))), some (.inr (.inr (some 79))), some (.inl i)]) (st' := []) (w' := (SH, dt)) rfl ?_
      exact K dt hI hM hM2 (by first | omega | (simp only [*]; done) | simp only [*]) (by omega) (by omega) (by omega) (by omega) (by omega) (by omega) (by omega) (by omega) (by omega) (by omega) (by omega) (by omega) (by omega) (by first | exact hI | exact RW2_k hd0 (fun _ => rfl) (fun _ _ => rfl) (by decide) (by omega) | (exfalso; omega)) (by first | exact hI | exact RW2_k hd1 (fun _ => rfl) (fun _ _ => rfl) (by decide) (by omega) | (exfalso; omega)) (by first | exact hI | exact RW2_k hd2 (fun _ => rfl) (fun _ _ => rfl) (by decide) (by omega) | (exfalso; omega)) (by first | exact hI | exact RW2_k hd3 (fun _ => rfl) (fun _ _ => rfl) (by decide) (by omega) | (exfalso; omega))
    · skip
      refine go_toq PM267 (k := 2) (pc' := 1435) (L' := [some (.inr (.inr (some 3000))), some (.inr (.inr (some 0))), some (.inr (.inr (some 79))), some (.inl i)]) (st' := []) (w' := (SH, dt)) rfl ?_
      exact K dt hI hM hM2 (by first | omega | (simp only [*]; done) | simp only [*]) (by omega) (by omega) (by omega) (by omega) (by omega) (by omega) (by omega) (by omega) (by omega) (by omega) (by omega) (by omega) (by omega) (by first | exact hI | exact RW2_k hd0 (fun _ => rfl) (fun _ _ => rfl) (by decide) (by omega) | (exfalso; omega)) (by first | exact hI | exact RW2_k hd1 (fun _ => rfl) (fun _ _ => rfl) (by decide) (by omega) | (exfalso; omega)) (by first | exact hI | exact RW2_k hd2 (fun _ => rfl) (fun _ _ => rfl) (by decide) (by omega) | (exfalso; omega)) (by first | exact hI | exact RW2_k hd3 (fun _ => rfl) (fun _ _ => rfl) (by decide) (by omega) | (exfalso; omega))
    · skip
      refine go_toq PM267 (k := 2) (pc' := 1435) (L' := [some (.inr (.inr (some 3000))), some (.inr (.inr (some 0))), some (.inr (.inr (some 79))), some (.inl i)]) (st' := []) (w' := (SH, dt)) rfl ?_
      exact K dt hI hM hM2 (by first | omega | (simp only [*]; done) | simp only [*]) (by omega) (by omega) (by omega) (by omega) (by omega) (by omega) (by omega) (by omega) (by omega) (by omega) (by omega) (by omega) (by omega) (by first | exact hI | exact RW2_k hd0 (fun _ => rfl) (fun _ _ => rfl) (by decide) (by omega) | (exfalso; omega)) (by first | exact hI | exact RW2_k hd1 (fun _ => rfl) (fun _ _ => rfl) (by decide) (by omega) | (exfalso; omega)) (by first | exact hI | exact RW2_k hd2 (fun _ => rfl) (fun _ _ => rfl) (by decide) (by omega) | (exfalso; omega)) (by first | exact hI | exact RW2_k hd3 (fun _ => rfl) (fun _ _ => rfl) (by decide) (by omega) | (exfalso; omega))
    · skip
      refine go_toq PM267 (k := 2) (pc' := 1435) (L' := [some (.inr (.inr (some 3000))), some (.inr (.inr (some 0))), some (.inr (.inr (some 79))), some (.inl i)]) (st' := []) (w' := (SH, dt)) rfl ?_
      exact K dt hI hM hM2 (by first | omega | (simp only [*]; done) | simp only [*]) (by omega) (by omega) (by omega) (by omega) (by omega) (by omega) (by omega) (by omega) (by omega) (by omega) (by omega) (by omega) (by omega) (by first | exact hI | exact RW2_k hd0 (fun _ => rfl) (fun _ _ => rfl) (by decide) (by omega) | (exfalso; omega)) (by first | exact hI | exact RW2_k hd1 (fun _ => rfl) (fun _ _ => rfl) (by decide) (by omega) | (exfalso; omega)) (by first | exact hI | exact RW2_k hd2 (fun _ => rfl) (fun _ _ => rfl) (by decide) (by omega) | (exfalso; omega)) (by first | exact hI | exact RW2_k hd3 (fun _ => rfl) (fun _ _ => rfl) (by decide) (by omega) | (exfalso; omega))
    · skip
      obtain ⟨h7_0, h7_1⟩ := h7
      replace h7_1 := hid h7_1
      refine go_toq PM267 (k := 2) (pc' := 1435) (L' := [some (.inr (.inr (some 3000))), some (.inr (.inr (some 0))), some (.inr (.inr (some 79))), some (.inl i)]) (st' := []) (w' := (SH, dt)) rfl ?_
      exact K dt hI hM hM2 (by first | (first | omega | (have z0_ := unhid h7_1; omega)) | (simp only [*]; done) | simp only [*]) (by (first | omega | (have z0_ := unhid h7_1; omega))) (by (first | omega | (have z0_ := unhid h7_1; omega))) (by (first | omega | (have z0_ := unhid h7_1; omega))) (by (first | omega | (have z0_ := unhid h7_1; omega))) (by (first | omega | (have z0_ := unhid h7_1; omega))) (by (first | omega | (have z0_ := unhid h7_1; omega))) (by (first | omega | (have z0_ := unhid h7_1; omega))) (by (first | omega | (have z0_ := unhid h7_1; omega))) (by (first | omega | (have z0_ := unhid h7_1; omega))) (by (first | omega | (have z0_ := unhid h7_1; omega))) (by (first | omega | (have z0_ := unhid h7_1; omega))) (by (first | omega | (have z0_ := unhid h7_1; omega))) (by (first | omega | (have z0_ := unhid h7_1; omega))) (by first | exact hI | exact RW2_k hd0 (fun _ => rfl) (fun _ _ => rfl) (by decide) (by (first | omega | (have z0_ := unhid h7_1; omega))) | (exfalso; (first | omega | (have z0_ := unhid h7_1; omega)))) (by first | exact hI | exact RW2_k hd1 (fun _ => rfl) (fun _ _ => rfl) (by decide) (by (first | omega | (have z0_ := unhid h7_1; omega))) | (exfalso; (first | omega | (have z0_ := unhid h7_1; omega)))) (by first | exact hI | exact RW2_k hd2 (fun _ => rfl) (fun _ _ => rfl) (by decide) (by (first | omega | (have z0_ := unhid h7_1; omega))) | (exfalso; (first | omega | (have z0_ := unhid h7_1; omega)))) (by first | exact hI | exact RW2_k hd3 (fun _ => rfl) (fun _ _ => rfl) (by decide) (by (first | omega | (have z0_ := unhid h7_1; omega))) | (exfalso; (first | omega | (have z0_ := unhid h7_1; omega))))
    · skip
      obtain ⟨h7_0, h7_1⟩ := h7
      refine go_toq PM267 (k := 2) (pc' := 1435) (L' := [some (.inr (.inr (some 3000))), some (.inr (.inr (some 0))), some (.inr (.inr (some 79))), some (.inl i)]) (st' := []) (w' := (SH, dt)) rfl ?_
      exact K dt hI hM hM2 (by first | omega | (simp only [*]; done) | simp only [*]) (by omega) (by omega) (by omega) (by omega) (by omega) (by omega) (by omega) (by omega) (by omega) (by omega) (by omega) (by omega) (by omega) (by first | exact hI | exact RW2_k hd0 (fun _ => rfl) (fun _ _ => rfl) (by decide) (by omega) | (exfalso; omega)) (by first | exact hI | exact RW2_k hd1 (fun _ => rfl) (fun _ _ => rfl) (by decide) (by omega) | (exfalso; omega)) (by first | exact hI | exact RW2_k hd2 (fun _ => rfl) (fun _ _ => rfl) (by decide) (by omega) | (exfalso; omega)) (by first | exact hI | exact RW2_k hd3 (fun _ => rfl) (fun _ _ => rfl) (by decide) (by omega) | (exfalso; omega))
    · skip
      refine go_toq PM267 (k := 2) (pc' := 1435) (L' := [some (.inr (.inr (some 3000))), some (.inr (.inr (some 0))), some (.inr (.inr (some 79))), some (.inl i)]) (st' := []) (w' := (SH, dt)) rfl ?_
      exact K dt hI hM hM2 (by first | omega | (simp only [*]; done) | simp only [*]) (by omega) (by omega) (by omega) (by omega) (by omega) (by omega) (by omega) (by omega) (by omega) (by omega) (by omega) (by omega) (by omega) (by first | exact hI | exact RW2_k hd0 (fun _ => rfl) (fun _ _ => rfl) (by decide) (by omega) | (exfalso; omega)) (by first | exact hI | exact RW2_k hd1 (fun _ => rfl) (fun _ _ => rfl) (by decide) (by omega) | (exfalso; omega)) (by first | exact hI | exact RW2_k hd2 (fun _ => rfl) (fun _ _ => rfl) (by decide) (by omega) | (exfalso; omega)) (by first | exact hI | exact RW2_k hd3 (fun _ => rfl) (fun _ _ => rfl) (by decide) (by omega) | (exfalso; omega))
  · skip
    refine go_toq PM267 (k := 6) (pc' := 1427) (L' := [some (.inr (.inr (some 3000))), some (.inr (.inr (some 0))), some (.inr (.inr (some 79))), some (.inl i)]) (st' := [.inl (i + 1), .inr (.inr (some 3000)), .inr (.inr (some 79))]) (w' := (SH, dt)) rfl ?_
    refine go_smpq PM267 (L' := [some (.inr (.inr (some 3000))), some (.inr (.inr (some 0))), some (.inr (.inr (some 79))), some (.inl i)]) (st' := [.inl ((xs ((i + 1).toNat)).toInt), .inr (.inr (some 79))]) (w' := (SH, dt)) rfl rfl (s_iald (n := L) (f := fun j => (xs j).toInt) (am_scr hLL) ⟨by omega, by omega⟩) ?_
    refine go_callq PM267 PM248 (Q' := _) rfl rfl rfl rfl (sp_X6_look L xs sio (d + 38) dt hI  ((xs ((i + 1).toNat)).toInt) ⟨by omega, by omega⟩ ) ?_
    rintro _ _ ⟨rfl, h8⟩
    refine ⟨rfl, ?_⟩
    rcases h8 with ⟨rfl, h8⟩ | ⟨rfl, h8⟩ | ⟨rfl, h8⟩ | ⟨rfl, h8⟩ | ⟨rfl, h8⟩ | ⟨rfl, h8⟩ | ⟨rfl, h8⟩ | ⟨rfl, h8⟩ | ⟨rfl, h8⟩
    · skip
      refine go_toq PM267 (k := 2) (pc' := 1435) (L' := [some (.inr (.inr (some 3000))), some (.inr (.inr (some 0))), some (.inr (.inr (some 79))), some (.inl i)]) (st' := []) (w' := (SH, dt)) rfl ?_
      exact K dt hI hM hM2 (by first | omega | (simp only [*]; done) | simp only [*]) (by omega) (by omega) (by omega) (by omega) (by omega) (by omega) (by omega) (by omega) (by omega) (by omega) (by omega) (by omega) (by omega) (by first | exact hI | exact RW2_k hd0 (fun _ => rfl) (fun _ _ => rfl) (by decide) (by omega) | (exfalso; omega)) (by first | exact hI | exact RW2_k hd1 (fun _ => rfl) (fun _ _ => rfl) (by decide) (by omega) | (exfalso; omega)) (by first | exact hI | exact RW2_k hd2 (fun _ => rfl) (fun _ _ => rfl) (by decide) (by omega) | (exfalso; omega)) (by first | exact hI | exact RW2_k hd3 (fun _ => rfl) (fun _ _ => rfl) (by decide) (by omega) | (exfalso; omega))
    · skip
      refine go_toq PM267 (k := 2) (pc' := 1435) (L' := [some (.inr (.inr (some 3000))), some (.inr (.inr (some 0))), some (.inr (.inr (some 79))), some (.inl i)]) (st' := []) (w' := (SH, dt)) rfl ?_
      exact K dt hI hM hM2 (by first | omega | (simp only [*]; done) | simp only [*]) (by omega) (by omega) (by omega) (by omega) (by omega) (by omega) (by omega) (by omega) (by omega) (by omega) (by omega) (by omega) (by omega) (by first | exact hI | exact RW2_k hd0 (fun _ => rfl) (fun _ _ => rfl) (by decide) (by omega) | (exfalso; omega)) (by first | exact hI | exact RW2_k hd1 (fun _ => rfl) (fun _ _ => rfl) (by decide) (by omega) | (exfalso; omega)) (by first | exact hI | exact RW2_k hd2 (fun _ => rfl) (fun _ _ => rfl) (by decide) (by omega) | (exfalso; omega)) (by first | exact hI | exact RW2_k hd3 (fun _ => rfl) (fun _ _ => rfl) (by decide) (by omega) | (exfalso; omega))
    · skip
      refine go_toq PM267 (k := 2) (pc' := 1435) (L' := [some (.inr (.inr (some 3000))), some (.inr (.inr (some 0))), some (.inr (.inr (some 79))), some (.inl i)]) (st' := []) (w' := (SH, dt)) rfl ?_
      exact K dt hI hM hM2 (by first | omega | (simp only [*]; done) | simp only [*]) (by omega) (by omega) (by omega) (by omega) (by omega) (by omega) (by omega) (by omega) (by omega) (by omega) (by omega) (by omega) (by omega) (by first | exact hI | exact RW2_k hd0 (fun _ => rfl) (fun _ _ => rfl) (by decide) (by omega) | (exfalso; omega)) (by first | exact hI | exact RW2_k hd1 (fun _ => rfl) (fun _ _ => rfl) (by decide) (by omega) | (exfalso; omega)) (by first | exact hI | exact RW2_k hd2 (fun _ => rfl) (fun _ _ => rfl) (by decide) (by omega) | (exfalso; omega)) (by first | exact hI | exact RW2_k hd3 (fun _ => rfl) (fun _ _ => rfl) (by decide) (by omega) | (exfalso; omega))
    · skip
      refine go_toq PM267 (k := 2) (pc' := 1435) (L' := [some (.inr (.inr (some 3000))), some (.inr (.inr (some 0))), some (.inr (.inr (some 79))), some (.inl i)]) (st' := []) (w' := (SH, dt)) rfl ?_
      exact K dt hI hM hM2 (by first | omega | (simp only [*]; done) | simp only [*]) (by omega) (by omega) (by omega) (by omega) (by omega) (by omega) (by omega) (by omega) (by omega) (by omega) (by omega) (by omega) (by omega) (by first | exact hI | exact RW2_k hd0 (fun _ => rfl) (fun _ _ => rfl) (by decide) (by omega) | (exfalso; omega)) (by first | exact hI | exact RW2_k hd1 (fun _ => rfl) (fun _ _ => rfl) (by decide) (by omega) | (exfalso; omega)) (by first | exact hI | exact RW2_k hd2 (fun _ => rfl) (fun _ _ => rfl) (by decide) (by omega) | (exfalso; omega)) (by first | exact hI | exact RW2_k hd3 (fun _ => rfl) (fun _ _ => rfl) (by decide) (by omega) | (exfalso; omega))
    · skip
      refine go_toq PM267 (k := 2) (pc' := 1435) (L' := [some (.inr (.inr (some 3000))), some (.inr (.inr (some 0))), some (.inr (.inr (some 79))), some (.inl i)]) (st' := []) (w' := (SH, dt)) rfl ?_
      exact K dt hI hM hM2 (by first | omega | (simp only [*]; done) | simp only [*]) (by omega) (by omega) (by omega) (by omega) (by omega) (by omega) (by omega) (by omega) (by omega) (by omega) (by omega) (by omega) (by omega) (by first | exact hI | exact RW2_k hd0 (fun _ => rfl) (fun _ _ => rfl) (by decide) (by omega) | (exfalso; omega)) (by first | exact hI | exact RW2_k hd1 (fun _ => rfl) (fun _ _ => rfl) (by decide) (by omega) | (exfalso; omega)) (by first | exact hI | exact RW2_k hd2 (fun _ => rfl) (fun _ _ => rfl) (by decide) (by omega) | (exfalso; omega)) (by first | exact hI | exact RW2_k hd3 (fun _ => rfl) (fun _ _ => rfl) (by decide) (by omega) | (exfalso; omega))
    · skip
      refine go_toq PM267 (k := 2) (pc' := 1435) (L' := [some (.inr (.inr (some 3000))), some (.inr (.inr (some 0))), some (.inr (.inr (some 79))), some (.inl i)]) (st' := []) (w' := (SH, dt)) rfl ?_
      exact K dt hI hM hM2 (by first | omega | (simp only [*]; done) | simp only [*]) (by omega) (by omega) (by omega) (by omega) (by omega) (by omega) (by omega) (by omega) (by omega) (by omega) (by omega) (by omega) (by omega) (by first | exact hI | exact RW2_k hd0 (fun _ => rfl) (fun _ _ => rfl) (by decide) (by omega) | (exfalso; omega)) (by first | exact hI | exact RW2_k hd1 (fun _ => rfl) (fun _ _ => rfl) (by decide) (by omega) | (exfalso; omega)) (by first | exact hI | exact RW2_k hd2 (fun _ => rfl) (fun _ _ => rfl) (by decide) (by omega) | (exfalso; omega)) (by first | exact hI | exact RW2_k hd3 (fun _ => rfl) (fun _ _ => rfl) (by decide) (by omega) | (exfalso; omega))
    · skip
      obtain ⟨h8_0, h8_1⟩ := h8
      replace h8_1 := hid h8_1
      refine go_toq PM267 (k := 2) (pc' := 1435) (L' := [some (.inr (.inr (some 3000))), some (.inr (.inr (some 0))), some (.inr (.inr (some 79))), some (.inl i)]) (st' := []) (w' := (SH, dt)) rfl ?_
      exact K dt hI hM hM2 (by first | (first | omega | (have z0_ := unhid h8_1; omega)) | (simp only [*]; done) | simp only [*]) (by (first | omega | (have z0_ := unhid h8_1; omega))) (by (first | omega | (have z0_ := unhid h8_1; omega))) (by (first | omega | (have z0_ := unhid h8_1; omega))) (by (first | omega | (have z0_ := unhid h8_1; omega))) (by (first | omega | (have z0_ := unhid h8_1; omega))) (by (first | omega | (have z0_ := unhid h8_1; omega))) (by (first | omega | (have z0_ := unhid h8_1; omega))) (by (first | omega | (have z0_ := unhid h8_1; omega))) (by (first | omega | (have z0_ := unhid h8_1; omega))) (by (first | omega | (have z0_ := unhid h8_1; omega))) (by (first | omega | (have z0_ := unhid h8_1; omega))) (by (first | omega | (have z0_ := unhid h8_1; omega))) (by (first | omega | (have z0_ := unhid h8_1; omega))) (by first | exact hI | exact RW2_k hd0 (fun _ => rfl) (fun _ _ => rfl) (by decide) (by (first | omega | (have z0_ := unhid h8_1; omega))) | (exfalso; (first | omega | (have z0_ := unhid h8_1; omega)))) (by first | exact hI | exact RW2_k hd1 (fun _ => rfl) (fun _ _ => rfl) (by decide) (by (first | omega | (have z0_ := unhid h8_1; omega))) | (exfalso; (first | omega | (have z0_ := unhid h8_1; omega)))) (by first | exact hI | exact RW2_k hd2 (fun _ => rfl) (fun _ _ => rfl) (by decide) (by (first | omega | (have z0_ := unhid h8_1; omega))) | (exfalso; (first | omega | (have z0_ := unhid h8_1; omega)))) (by first | exact hI | exact RW2_k hd3 (fun _ => rfl) (fun _ _ => rfl) (by decide) (by (first | omega | (have z0_ := unhid h8_1; omega))) | (exfalso; (first | omega | (have z0_ := unhid h8_1; omega))))
    · skip
      obtain ⟨h8_0, h8_1⟩ := h8
      refine go_toq PM267 (k := 2) (pc' := 1435) (L' := [some (.inr (.inr (some 3000))), some (.inr (.inr (some 0))), some (.inr (.inr (some 79))), some (.inl i)]) (st' := []) (w' := (SH, dt)) rfl ?_
      exact K dt hI hM hM2 (by first | omega | (simp only [*]; done) | simp only [*]) (by omega) (by omega) (by omega) (by omega) (by omega) (by omega) (by omega) (by omega) (by omega) (by omega) (by omega) (by omega) (by omega) (by first | exact hI | exact RW2_k hd0 (fun _ => rfl) (fun _ _ => rfl) (by decide) (by omega) | (exfalso; omega)) (by first | exact hI | exact RW2_k hd1 (fun _ => rfl) (fun _ _ => rfl) (by decide) (by omega) | (exfalso; omega)) (by first | exact hI | exact RW2_k hd2 (fun _ => rfl) (fun _ _ => rfl) (by decide) (by omega) | (exfalso; omega)) (by first | exact hI | exact RW2_k hd3 (fun _ => rfl) (fun _ _ => rfl) (by decide) (by omega) | (exfalso; omega))
    · skip
      refine go_toq PM267 (k := 2) (pc' := 1435) (L' := [some (.inr (.inr (some 3000))), some (.inr (.inr (some 0))), some (.inr (.inr (some 79))), some (.inl i)]) (st' := []) (w' := (SH, dt)) rfl ?_
      exact K dt hI hM hM2 (by first | omega | (simp only [*]; done) | simp only [*]) (by omega) (by omega) (by omega) (by omega) (by omega) (by omega) (by omega) (by omega) (by omega) (by omega) (by omega) (by omega) (by omega) (by first | exact hI | exact RW2_k hd0 (fun _ => rfl) (fun _ _ => rfl) (by decide) (by omega) | (exfalso; omega)) (by first | exact hI | exact RW2_k hd1 (fun _ => rfl) (fun _ _ => rfl) (by decide) (by omega) | (exfalso; omega)) (by first | exact hI | exact RW2_k hd2 (fun _ => rfl) (fun _ _ => rfl) (by decide) (by omega) | (exfalso; omega)) (by first | exact hI | exact RW2_k hd3 (fun _ => rfl) (fun _ _ => rfl) (by decide) (by omega) | (exfalso; omega))
  · skip
    obtain ⟨h2_0, h2_1⟩ := h2
    refine go_toq PM267 (k := 6) (pc' := 1427) (L' := [some (.inr (.inr (some 3000))), some (.inr (.inr (some 0))), some (.inr (.inr (some 79))), some (.inl i)]) (st' := [.inl (i + 1), .inr (.inr (some 3000)), .inr (.inr (some 79))]) (w' := (SH, dt)) rfl ?_
    refine go_smpq PM267 (L' := [some (.inr (.inr (some 3000))), some (.inr (.inr (some 0))), some (.inr (.inr (some 79))), some (.inl i)]) (st' := [.inl ((xs ((i + 1).toNat)).toInt), .inr (.inr (some 79))]) (w' := (SH, dt)) rfl rfl (s_iald (n := L) (f := fun j => (xs j).toInt) (am_scr hLL) ⟨by omega, by omega⟩) ?_
    refine go_callq PM267 PM248 (Q' := _) rfl rfl rfl rfl (sp_X6_look L xs sio (d + 38) dt hI  ((xs ((i + 1).toNat)).toInt) ⟨by omega, by omega⟩ ) ?_
    rintro _ _ ⟨rfl, h9⟩
    refine ⟨rfl, ?_⟩
    rcases h9 with ⟨rfl, h9⟩ | ⟨rfl, h9⟩ | ⟨rfl, h9⟩ | ⟨rfl, h9⟩ | ⟨rfl, h9⟩ | ⟨rfl, h9⟩ | ⟨rfl, h9⟩ | ⟨rfl, h9⟩ | ⟨rfl, h9⟩
    · skip
      refine go_toq PM267 (k := 2) (pc' := 1435) (L' := [some (.inr (.inr (some 3000))), some (.inr (.inr (some 0))), some (.inr (.inr (some 79))), some (.inl i)]) (st' := []) (w' := (SH, dt)) rfl ?_
      exact K dt hI hM hM2 (by first | omega | (simp only [*]; done) | simp only [*]) (by omega) (by omega) (by omega) (by omega) (by omega) (by omega) (by omega) (by omega) (by omega) (by omega) (by omega) (by omega) (by omega) (by first | exact hI | exact RW2_k hd0 (fun _ => rfl) (fun _ _ => rfl) (by decide) (by omega) | (exfalso; omega)) (by first | exact hI | exact RW2_k hd1 (fun _ => rfl) (fun _ _ => rfl) (by decide) (by omega) | (exfalso; omega)) (by first | exact hI | exact RW2_k hd2 (fun _ => rfl) (fun _ _ => rfl) (by decide) (by omega) | (exfalso; omega)) (by first | exact hI | exact RW2_k hd3 (fun _ => rfl) (fun _ _ => rfl) (by decide) (by omega) | (exfalso; omega))
    · skip
      refine go_toq PM267 (k := 2) (pc' := 1435) (L' := [some (.inr (.inr (some 3000))), some (.inr (.inr (some 0))), some (.inr (.inr (some 79))), some (.inl i)]) (st' := []) (w' := (SH, dt)) rfl ?_
      exact K dt hI hM hM2 (by first | omega | (simp only [*]; done) | simp only [*]) (by omega) (by omega) (by omega) (by omega) (by omega) (by omega) (by omega) (by omega) (by omega) (by omega) (by omega) (by omega) (by omega) (by first | exact hI | exact RW2_k hd0 (fun _ => rfl) (fun _ _ => rfl) (by decide) (by omega) | (exfalso; omega)) (by first | exact hI | exact RW2_k hd1 (fun _ => rfl) (fun _ _ => rfl) (by decide) (by omega) | (exfalso; omega)) (by first | exact hI | exact RW2_k hd2 (fun _ => rfl) (fun _ _ => rfl) (by decide) (by omega) | (exfalso; omega)) (by first | exact hI | exact RW2_k hd3 (fun _ => rfl) (fun _ _ => rfl) (by decide) (by omega) | (exfalso; omega))
    · skip
      refine go_toq PM267 (k := 2) (pc' := 1435) (L' := [some (.inr (.inr (some 3000))), some (.inr (.inr (some 0))), some (.inr (.inr (some 79))), some (.inl i)]) (st' := []) (w' := (SH, dt)) rfl ?_
      exact K dt hI hM hM2 (by first | omega | (simp only [*]; done) | simp only [*]) (by omega) (by omega) (by omega) (by omega) (by omega) (by omega) (by omega) (by omega) (by omega) (by omega) (by omega) (by omega) (by omega) (by first | exact hI | exact RW2_k hd0 (fun _ => rfl) (fun _ _ => rfl) (by decide) (by omega) | (exfalso; omega)) (by first | exact hI | exact RW2_k hd1 (fun _ => rfl) (fun _ _ => rfl) (by decide) (by omega) | (exfalso; omega)) (by first | exact hI | exact RW2_k hd2 (fun _ => rfl) (fun _ _ => rfl) (by decide) (by omega) | (exfalso; omega)) (by first | exact hI | exact RW2_k hd3 (fun _ => rfl) (fun _ _ => rfl) (by decide) (by omega) | (exfalso; omega))
    · skip
      refine go_toq PM267 (k := 2) (pc' := 1435) (L' := [some (.inr (.inr (some 3000))), some (.inr (.inr (some 0))), some (.inr (.inr (some 79))), some (.inl i)]) (st' := []) (w' := (SH, dt)) rfl ?_
      exact K dt hI hM hM2 (by first | omega | (simp only [*]; done) | simp only [*]) (by omega) (by omega) (by omega) (by omega) (by omega) (by omega) (by omega) (by omega) (by omega) (by omega) (by omega) (by omega) (by omega) (by first | exact hI | exact RW2_k hd0 (fun _ => rfl) (fun _ _ => rfl) (by decide) (by omega) | (exfalso; omega)) (by first | exact hI | exact RW2_k hd1 (fun _ => rfl) (fun _ _ => rfl) (by decide) (by omega) | (exfalso; omega)) (by first | exact hI | exact RW2_k hd2 (fun _ => rfl) (fun _ _ => rfl) (by decide) (by omega) | (exfalso; omega)) (by first | exact hI | exact RW2_k hd3 (fun _ => rfl) (fun _ _ => rfl) (by decide) (by omega) | (exfalso; omega))
    · skip
      refine go_toq PM267 (k := 2) (pc' := 1435) (L' := [some (.inr (.inr (some 3000))), some (.inr (.inr (some 0))), some (.inr (.inr (some 79))), some (.inl i)]) (st' := []) (w' := (SH, dt)) rfl ?_
      exact K dt hI hM hM2 (by first | omega | (simp only [*]; done) | simp only [*]) (by omega) (by omega) (by omega) (by omega) (by omega) (by omega) (by omega) (by omega) (by omega) (by omega) (by omega) (by omega) (by omega) (by first | exact hI | exact RW2_k hd0 (fun _ => rfl) (fun _ _ => rfl) (by decide) (by omega) | (exfalso; omega)) (by first | exact hI | exact RW2_k hd1 (fun _ => rfl) (fun _ _ => rfl) (by decide) (by omega) | (exfalso; omega)) (by first | exact hI | exact RW2_k hd2 (fun _ => rfl) (fun _ _ => rfl) (by decide) (by omega) | (exfalso; omega)) (by first | exact hI | exact RW2_k hd3 (fun _ => rfl) (fun _ _ => rfl) (by decide) (by omega) | (exfalso; omega))
    · skip
      refine go_toq PM267 (k := 2) (pc' := 1435) (L' := [some (.inr (.inr (some 3000))), some (.inr (.inr (some 0))), some (.inr (.inr (some 79))), some (.inl i)]) (st' := []) (w' := (SH, dt)) rfl ?_
      exact K dt hI hM hM2 (by first | omega | (simp only [*]; done) | simp only [*]) (by omega) (by omega) (by omega) (by omega) (by omega) (by omega) (by omega) (by omega) (by omega) (by omega) (by omega) (by omega) (by omega) (by first | exact hI | exact RW2_k hd0 (fun _ => rfl) (fun _ _ => rfl) (by decide) (by omega) | (exfalso; omega)) (by first | exact hI | exact RW2_k hd1 (fun _ => rfl) (fun _ _ => rfl) (by decide) (by omega) | (exfalso; omega)) (by first | exact hI | exact RW2_k hd2 (fun _ => rfl) (fun _ _ => rfl) (by decide) (by omega) | (exfalso; omega)) (by first | exact hI | exact RW2_k hd3 (fun _ => rfl) (fun _ _ => rfl) (by decide) (by omega) | (exfalso; omega))
    · skip
      obtain ⟨h9_0, h9_1⟩ := h9
      replace h9_1 := hid h9_1
      refine go_toq PM267 (k := 2) (pc' := 1435) (L' := [some (.inr (.inr (some 3000))), some (.inr (.inr (some 0))), some (.inr (.inr (some 79))), some (.inl i)]) (st' := []) (w' := (SH, dt)) rfl ?_
      exact K dt hI hM hM2 (by first | (first | omega | (have z0_ := unhid h9_1; omega)) | (simp only [*]; done) | simp only [*]) (by (first | omega | (have z0_ := unhid h9_1; omega))) (by (first | omega | (have z0_ := unhid h9_1; omega))) (by (first | omega | (have z0_ := unhid h9_1; omega))) (by (first | omega | (have z0_ := unhid h9_1; omega))) (by (first | omega | (have z0_ := unhid h9_1; omega))) (by (first | omega | (have z0_ := unhid h9_1; omega))) (by (first | omega | (have z0_ := unhid h9_1; omega))) (by (first | omega | (have z0_ := unhid h9_1; omega))) (by (first | omega | (have z0_ := unhid h9_1; omega))) (by (first | omega | (have z0_ := unhid h9_1; omega))) (by (first | omega | (have z0_ := unhid h9_1; omega))) (by (first | omega | (have z0_ := unhid h9_1; omega))) (by (first | omega | (have z0_ := unhid h9_1; omega))) (by first | exact hI | exact RW2_k hd0 (fun _ => rfl) (fun _ _ => rfl) (by decide) (by (first | omega | (have z0_ := unhid h9_1; omega))) | (exfalso; (first | omega | (have z0_ := unhid h9_1; omega)))) (by first | exact hI | exact RW2_k hd1 (fun _ => rfl) (fun _ _ => rfl) (by decide) (by (first | omega | (have z0_ := unhid h9_1; omega))) | (exfalso; (first | omega | (have z0_ := unhid h9_1; omega)))) (by first | exact hI | exact RW2_k hd2 (fun _ => rfl) (fun _ _ => rfl) (by decide) (by (first | omega | (have z0_ := unhid h9_1; omega))) | (exfalso; (first | omega | (have z0_ := unhid h9_1; omega)))) (by first | exact hI | exact RW2_k hd3 (fun _ => rfl) (fun _ _ => rfl) (by decide) (by (first | omega | (have z0_ := unhid h9_1; omega))) | (exfalso; (first | omega | (have z0_ := unhid h9_1; omega))))
    · skip
      obtain ⟨h9_0, h9_1⟩ := h9
      refine go_toq PM267 (k := 2) (pc' := 1435) (L' := [some (.inr (.inr (some 3000))), some (.inr (.inr (some 0))), some (.inr (.inr (some 79))), some (.inl i)]) (st' := []) (w' := (SH, dt)) rfl ?_
      exact K dt hI hM hM2 (by first | omega | (simp only [*]; done) | simp only [*]) (by omega) (by omega) (by omega) (by omega) (by omega) (by omega) (by omega) (by omega) (by omega) (by omega) (by omega) (by omega) (by omega) (by first | exact hI | exact RW2_k hd0 (fun _ => rfl) (fun _ _ => rfl) (by decide) (by omega) | (exfalso; omega)) (by first | exact hI | exact RW2_k hd1 (fun _ => rfl) (fun _ _ => rfl) (by decide) (by omega) | (exfalso; omega)) (by first | exact hI | exact RW2_k hd2 (fun _ => rfl) (fun _ _ => rfl) (by decide) (by omega) | (exfalso; omega)) (by first | exact hI | exact RW2_k hd3 (fun _ => rfl) (fun _ _ => rfl) (by decide) (by omega) | (exfalso; omega))
    · skip
      refine go_toq PM267 (k := 2) (pc' := 1435) (L' := [some (.inr (.inr (some 3000))), some (.inr (.inr (some 0))), some (.inr (.inr (some 79))), some (.inl i)]) (st' := []) (w' := (SH, dt)) rfl ?_
      exact K dt hI hM hM2 (by first | omega | (simp only [*]; done) | simp only [*]) (by omega) (by omega) (by omega) (by omega) (by omega) (by omega) (by omega) (by omega) (by omega) (by omega) (by omega) (by omega) (by omega) (by first | exact hI | exact RW2_k hd0 (fun _ => rfl) (fun _ _ => rfl) (by decide) (by omega) | (exfalso; omega)) (by first | exact hI | exact RW2_k hd1 (fun _ => rfl) (fun _ _ => rfl) (by decide) (by omega) | (exfalso; omega)) (by first | exact hI | exact RW2_k hd2 (fun _ => rfl) (fun _ _ => rfl) (by decide) (by omega) | (exfalso; omega)) (by first | exact hI | exact RW2_k hd3 (fun _ => rfl) (fun _ _ => rfl) (by decide) (by omega) | (exfalso; omega))
  · skip
    obtain ⟨h2_0, h2_1⟩ := h2
    refine go_toq PM267 (k := 6) (pc' := 1427) (L' := [some (.inr (.inr (some 3000))), some (.inr (.inr (some 0))), some (.inr (.inr (some 79))), some (.inl i)]) (st' := [.inl (i + 1), .inr (.inr (some 3000)), .inr (.inr (some 79))]) (w' := (SH, dt)) rfl ?_
    refine go_smpq PM267 (L' := [some (.inr (.inr (some 3000))), some (.inr (.inr (some 0))), some (.inr (.inr (some 79))), some (.inl i)]) (st' := [.inl ((xs ((i + 1).toNat)).toInt), .inr (.inr (some 79))]) (w' := (SH, dt)) rfl rfl (s_iald (n := L) (f := fun j => (xs j).toInt) (am_scr hLL) ⟨by omega, by omega⟩) ?_
    refine go_callq PM267 PM248 (Q' := _) rfl rfl rfl rfl (sp_X6_look L xs sio (d + 38) dt hI  ((xs ((i + 1).toNat)).toInt) ⟨by omega, by omega⟩ ) ?_
    rintro _ _ ⟨rfl, h10⟩
    refine ⟨rfl, ?_⟩
    rcases h10 with ⟨rfl, h10⟩ | ⟨rfl, h10⟩ | ⟨rfl, h10⟩ | ⟨rfl, h10⟩ | ⟨rfl, h10⟩ | ⟨rfl, h10⟩ | ⟨rfl, h10⟩ | ⟨rfl, h10⟩ | ⟨rfl, h10⟩
    · skip
      refine go_toq PM267 (k := 2) (pc' := 1435) (L' := [some (.inr (.inr (some 3000))), some (.inr (.inr (some 0))), some (.inr (.inr (some 79))), some (.inl i)]) (st' := []) (w' := (SH, dt)) rfl ?_
      exact K dt hI hM hM2 (by first | omega | (simp only [*]; done) | simp only [*]) (by omega) (by omega) (by omega) (by omega) (by omega) (by omega) (by omega) (by omega) (by omega) (by omega) (by omega) (by omega) (by omega) (by first | exact hI | exact RW2_k hd0 (fun _ => rfl) (fun _ _ => rfl) (by decide) (by omega) | (exfalso; omega)) (by first | exact hI | exact RW2_k hd1 (fun _ => rfl) (fun _ _ => rfl) (by decide) (by omega) | (exfalso; omega)) (by first | exact hI | exact RW2_k hd2 (fun _ => rfl) (fun _ _ => rfl) (by decide) (by omega) | (exfalso; omega)) (by first | exact hI | exact RW2_k hd3 (fun _ => rfl) (fun _ _ => rfl) (by decide) (by omega) | (exfalso; omega))
    · skip
      refine go_toq PM267 (k := 2) (pc' := 1435) (L' := [some (.inr (.inr (some 3000))), some (.inr (.inr (some 0))), some (.inr (.inr (some 79))), some (.inl i)]) (st' := []) (w' := (SH, dt)) rfl ?_
      exact K dt hI hM hM2 (by first | omega | (simp only [*]; done) | simp only [*]) (by omega) (by omega) (by omega) (by omega) (by omega) (by omega) (by omega) (by omega) (by omega) (by omega) (by omega) (by omega) (by omega) (by first | exact hI | exact RW2_k hd0 (fun _ => rfl) (fun _ _ => rfl) (by decide) (by omega) | (exfalso; omega)) (by first | exact hI | exact RW2_k hd1 (fun _ => rfl) (fun _ _ => rfl) (by decide) (by omega) | (exfalso; omega)) (by first | exact hI | exact RW2_k hd2 (fun _ => rfl) (fun _ _ => rfl) (by decide) (by omega) | (exfalso; omega)) (by first | exact hI | exact RW2_k hd3 (fun _ => rfl) (fun _ _ => rfl) (by decide) (by omega) | (exfalso; omega))
    · skip
      refine go_toq PM267 (k := 2) (pc' := 1435) (L' := [some (.inr (.inr (some 3000))), some (.inr (.inr (some 0))), some (.inr (.inr (some 79))), some (.inl i)]) (st' := []) (w' := (SH, dt)) rfl ?_
      exact K dt hI hM hM2 (by first | omega | (simp only [*]; done) | simp only [*]) (by omega) (by omega) (by omega) (by omega) (by omega) (by omega) (by omega) (by omega) (by omega) (by omega) (by omega) (by omega) (by omega) (by first | exact hI | exact RW2_k hd0 (fun _ => rfl) (fun _ _ => rfl) (by decide) (by omega) | (exfalso; omega)) (by first | exact hI | exact RW2_k hd1 (fun _ => rfl) (fun _ _ => rfl) (by decide) (by omega) | (exfalso; omega)) (by first | exact hI | exact RW2_k hd2 (fun _ => rfl) (fun _ _ => rfl) (by decide) (by omega) | (exfalso; omega)) (by first | exact hI | exact RW2_k hd3 (fun _ => rfl) (fun _ _ => rfl) (by decide) (by omega) | (exfalso; omega))
    · skip
      refine go_toq PM267 (k := 2) (pc' := 1435) (L' := [some (.inr (.inr (some 3000))), some (.inr (.inr (some 0))), some (.inr (.inr (some 79))), some (.inl i)]) (st' := []) (w' := (SH, dt)) rfl ?_
      exact K dt hI hM hM2 (by first | omega | (simp only [*]; done) | simp only [*]) (by omega) (by omega) (by omega) (by omega) (by omega) (by omega) (by omega) (by omega) (by omega) (by omega) (by omega) (by omega) (by omega) (by first | exact hI | exact RW2_k hd0 (fun _ => rfl) (fun _ _ => rfl) (by decide) (by omega) | (exfalso; omega)) (by first | exact hI | exact RW2_k hd1 (fun _ => rfl) (fun _ _ => rfl) (by decide) (by omega) | (exfalso; omega)) (by first | exact hI | exact RW2_k hd2 (fun _ => rfl) (fun _ _ => rfl) (by decide) (by omega) | (exfalso; omega)) (by first | exact hI | exact RW2_k hd3 (fun _ => rfl) (fun _ _ => rfl) (by decide) (by omega) | (exfalso; omega))
    · skip
      refine go_toq PM267 (k := 2) (pc' := 1435) (L' := [some (.inr (.inr (some 3000))), some (.inr (.inr (some 0))), some (.inr (.inr (some 79))), some (.inl i)]) (st' := []) (w' := (SH, dt)) rfl ?_
      exact K dt hI hM hM2 (by first | omega | (simp only [*]; done) | simp only [*]) (by omega) (by omega) (by omega) (by omega) (by omega) (by omega) (by omega) (by omega) (by omega) (by omega) (by omega) (by omega) (by omega) (by first | exact hI | exact RW2_k hd0 (fun _ => rfl) (fun _ _ => rfl) (by decide) (by omega) | (exfalso; omega)) (by first | exact hI | exact RW2_k hd1 (fun _ => rfl) (fun _ _ => rfl) (by decide) (by omega) | (exfalso; omega)) (by first | exact hI | exact RW2_k hd2 (fun _ => rfl) (fun _ _ => rfl) (by decide) (by omega) | (exfalso; omega)) (by first | exact hI | exact RW2_k hd3 (fun _ => rfl) (fun _ _ => rfl) (by decide) (by omega) | (exfalso; omega))
    · skip
      refine go_toq PM267 (k := 2) (pc' := 1435) (L' := [some (.inr (.inr (some 3000))), some (.inr (.inr (some 0))), some (.inr (.inr (some 79))), some (.inl i)]) (st' := []) (w' := (SH, dt)) rfl ?_
      exact K dt hI hM hM2 (by first | omega | (simp only [*]; done) | simp only [*]) (by omega) (by omega) (by omega) (by omega) (by omega) (by omega) (by omega) (by omega) (by omega) (by omega) (by omega) (by omega) (by omega) (by first | exact hI | exact RW2_k hd0 (fun _ => rfl) (fun _ _ => rfl) (by decide) (by omega) | (exfalso; omega)) (by first | exact hI | exact RW2_k hd1 (fun _ => rfl) (fun _ _ => rfl) (by decide) (by omega) | (exfalso; omega)) (by first | exact hI | exact RW2_k hd2 (fun _ => rfl) (fun _ _ => rfl) (by decide) (by omega) | (exfalso; omega)) (by first | exact hI | exact RW2_k hd3 (fun _ => rfl) (fun _ _ => rfl) (by decide) (by omega) | (exfalso; omega))
    · skip
      obtain ⟨h10_0, h10_1⟩ := h10
      replace h10_1 := hid h10_1
      refine go_toq PM267 (k := 2) (pc' := 1435) (L' := [some (.inr (.inr (some 3000))), some (.inr (.inr (some 0))), some (.inr (.inr (some 79))), some (.inl i)]) (st' := []) (w' := (SH, dt)) rfl ?_
      exact K dt hI hM hM2 (by first | (first | omega | (have z0_ := unhid h10_1; omega)) | (simp only [*]; done) | simp only [*]) (by (first | omega | (have z0_ := unhid h10_1; omega))) (by (first | omega | (have z0_ := unhid h10_1; omega))) (by (first | omega | (have z0_ := unhid h10_1; omega))) (by (first | omega | (have z0_ := unhid h10_1; omega))) (by (first | omega | (have z0_ := unhid h10_1; omega))) (by (first | omega | (have z0_ := unhid h10_1; omega))) (by (first | omega | (have z0_ := unhid h10_1; omega))) (by (first | omega | (have z0_ := unhid h10_1; omega))) (by (first | omega | (have z0_ := unhid h10_1; omega))) (by (first | omega | (have z0_ := unhid h10_1; omega))) (by (first | omega | (have z0_ := unhid h10_1; omega))) (by (first | omega | (have z0_ := unhid h10_1; omega))) (by (first | omega | (have z0_ := unhid h10_1; omega))) (by first | exact hI | exact RW2_k hd0 (fun _ => rfl) (fun _ _ => rfl) (by decide) (by (first | omega | (have z0_ := unhid h10_1; omega))) | (exfalso; (first | omega | (have z0_ := unhid h10_1; omega)))) (by first | exact hI | exact RW2_k hd1 (fun _ => rfl) (fun _ _ => rfl) (by decide) (by (first | omega | (have z0_ := unhid h10_1; omega))) | (exfalso; (first | omega | (have z0_ := unhid h10_1; omega)))) (by first | exact hI | exact RW2_k hd2 (fun _ => rfl) (fun _ _ => rfl) (by decide) (by (first | omega | (have z0_ := unhid h10_1; omega))) | (exfalso; (first | omega | (have z0_ := unhid h10_1; omega)))) (by first | exact hI | exact RW2_k hd3 (fun _ => rfl) (fun _ _ => rfl) (by decide) (by (first | omega | (have z0_ := unhid h10_1; omega))) | (exfalso; (first | omega | (have z0_ := unhid h10_1; omega))))
    · skip
      obtain ⟨h10_0, h10_1⟩ := h10
      refine go_toq PM267 (k := 2) (pc' := 1435) (L' := [some (.inr (.inr (some 3000))), some (.inr (.inr (some 0))), some (.inr (.inr (some 79))), some (.inl i)]) (st' := []) (w' := (SH, dt)) rfl ?_
      exact K dt hI hM hM2 (by first | omega | (simp only [*]; done) | simp only [*]) (by omega) (by omega) (by omega) (by omega) (by omega) (by omega) (by omega) (by omega) (by omega) (by omega) (by omega) (by omega) (by omega) (by first | exact hI | exact RW2_k hd0 (fun _ => rfl) (fun _ _ => rfl) (by decide) (by omega) | (exfalso; omega)) (by first | exact hI | exact RW2_k hd1 (fun _ => rfl) (fun _ _ => rfl) (by decide) (by omega) | (exfalso; omega)) (by first | exact hI | exact RW2_k hd2 (fun _ => rfl) (fun _ _ => rfl) (by decide) (by omega) | (exfalso; omega)) (by first | exact hI | exact RW2_k hd3 (fun _ => rfl) (fun _ _ => rfl) (by decide) (by omega) | (exfalso; omega))
    · skip
      refine go_toq PM267 (k := 2) (pc' := 1435) (L' := [some (.inr (.inr (some 3000))), some (.inr (.inr (some 0))), some (.inr (.inr (some 79))), some (.inl i)]) (st' := []) (w' := (SH, dt)) rfl ?_
      exact K dt hI hM hM2 (by first | omega | (simp only [*]; done) | simp only [*]) (by omega) (by omega) (by omega) (by omega) (by omega) (by omega) (by omega) (by omega) (by omega) (by omega) (by omega) (by omega) (by omega) (by first | exact hI | exact RW2_k hd0 (fun _ => rfl) (fun _ _ => rfl) (by decide) (by omega) | (exfalso; omega)) (by first | exact hI | exact RW2_k hd1 (fun _ => rfl) (fun _ _ => rfl) (by decide) (by omega) | (exfalso; omega)) (by first | exact hI | exact RW2_k hd2 (fun _ => rfl) (fun _ _ => rfl) (by decide) (by omega) | (exfalso; omega)) (by first | exact hI | exact RW2_k hd3 (fun _ => rfl) (fun _ _ => rfl) (by decide) (by omega) | (exfalso; omega))
  · skip
    refine go_toq PM267 (k := 6) (pc' := 1427) (L' := [some (.inr (.inr (some 3000))), some (.inr (.inr (some 0))), some (.inr (.inr (some 79))), some (.inl i)]) (st' := [.inl (i + 1), .inr (.inr (some 3000)), .inr (.inr (some 79))]) (w' := (SH, dt)) rfl ?_
    refine go_smpq PM267 (L' := [some (.inr (.inr (some 3000))), some (.inr (.inr (some 0))), some (.inr (.inr (some 79))), some (.inl i)]) (st' := [.inl ((xs ((i + 1).toNat)).toInt), .inr (.inr (some 79))]) (w' := (SH, dt)) rfl rfl (s_iald (n := L) (f := fun j => (xs j).toInt) (am_scr hLL) ⟨by omega, by omega⟩) ?_
    refine go_callq PM267 PM248 (Q' := _) rfl rfl rfl rfl (sp_X6_look L xs sio (d + 38) dt hI  ((xs ((i + 1).toNat)).toInt) ⟨by omega, by omega⟩ ) ?_
    rintro _ _ ⟨rfl, h11⟩
    refine ⟨rfl, ?_⟩
    rcases h11 with ⟨rfl, h11⟩ | ⟨rfl, h11⟩ | ⟨rfl, h11⟩ | ⟨rfl, h11⟩ | ⟨rfl, h11⟩ | ⟨rfl, h11⟩ | ⟨rfl, h11⟩ | ⟨rfl, h11⟩ | ⟨rfl, h11⟩
    · skip
      refine go_toq PM267 (k := 2) (pc' := 1435) (L' := [some (.inr (.inr (some 3000))), some (.inr (.inr (some 0))), some (.inr (.inr (some 79))), some (.inl i)]) (st' := []) (w' := (SH, dt)) rfl ?_
      exact K dt hI hM hM2 (by first | omega | (simp only [*]; done) | simp only [*]) (by omega) (by omega) (by omega) (by omega) (by omega) (by omega) (by omega) (by omega) (by omega) (by omega) (by omega) (by omega) (by omega) (by first | exact hI | exact RW2_k hd0 (fun _ => rfl) (fun _ _ => rfl) (by decide) (by omega) | (exfalso; omega)) (by first | exact hI | exact RW2_k hd1 (fun _ => rfl) (fun _ _ => rfl) (by decide) (by omega) | (exfalso; omega)) (by first | exact hI | exact RW2_k hd2 (fun _ => rfl) (fun _ _ => rfl) (by decide) (by omega) | (exfalso; omega)) (by first | exact hI | exact RW2_k hd3 (fun _ => rfl) (fun _ _ => rfl) (by decide) (by omega) | (exfalso; omega))
    · skip
      refine go_toq PM267 (k := 2) (pc' := 1435) (L' := [some (.inr (.inr (some 3000))), some (.inr (.inr (some 0))), some (.inr (.inr (some 79))), some (.inl i)]) (st' := []) (w' := (SH, dt)) rfl ?_
      exact K dt hI hM hM2 (by first | omega | (simp only [*]; done) | simp only [*]) (by omega) (by omega) (by omega) (by omega) (by omega) (by omega) (by omega) (by omega) (by omega) (by omega) (by omega) (by omega) (by omega) (by first | exact hI | exact RW2_k hd0 (fun _ => rfl) (fun _ _ => rfl) (by decide) (by omega) | (exfalso; omega)) (by first | exact hI | exact RW2_k hd1 (fun _ => rfl) (fun _ _ => rfl) (by decide) (by omega) | (exfalso; omega)) (by first | exact hI | exact RW2_k hd2 (fun _ => rfl) (fun _ _ => rfl) (by decide) (by omega) | (exfalso; omega)) (by first | exact hI | exact RW2_k hd3 (fun _ => rfl) (fun _ _ => rfl) (by decide) (by omega) | (exfalso; omega))
    · skip
      refine go_toq PM267 (k := 2) (pc' := 1435) (L' := [some (.inr (.inr (some 3000))), some (.inr (.inr (some 0))), some (.inr (.inr (some 79))), some (.inl i)]) (st' := []) (w' := (SH, dt)) rfl ?_
      exact K dt hI hM hM2 (by first | omega | (simp only [*]; done) | simp only [*]) (by omega) (by omega) (by omega) (by omega) (by omega) (by omega) (by omega) (by omega) (by omega) (by omega) (by omega) (by omega) (by omega) (by first | exact hI | exact RW2_k hd0 (fun _ => rfl) (fun _ _ => rfl) (by decide) (by omega) | (exfalso; omega)) (by first | exact hI | exact RW2_k hd1 (fun _ => rfl) (fun _ _ => rfl) (by decide) (by omega) | (exfalso; omega)) (by first | exact hI | exact RW2_k hd2 (fun _ => rfl) (fun _ _ => rfl) (by decide) (by omega) | (exfalso; omega)) (by first | exact hI | exact RW2_k hd3 (fun _ => rfl) (fun _ _ => rfl) (by decide) (by omega) | (exfalso; omega))
    · skip
      refine go_toq PM267 (k := 2) (pc' := 1435) (L' := [some (.inr (.inr (some 3000))), some (.inr (.inr (some 0))), some (.inr (.inr (some 79))), some (.inl i)]) (st' := []) (w' := (SH, dt)) rfl ?_
      exact K dt hI hM hM2 (by first | omega | (simp only [*]; done) | simp only [*]) (by omega) (by omega) (by omega) (by omega) (by omega) (by omega) (by omega) (by omega) (by omega) (by omega) (by omega) (by omega) (by omega) (by first | exact hI | exact RW2_k hd0 (fun _ => rfl) (fun _ _ => rfl) (by decide) (by omega) | (exfalso; omega)) (by first | exact hI | exact RW2_k hd1 (fun _ => rfl) (fun _ _ => rfl) (by decide) (by omega) | (exfalso; omega)) (by first | exact hI | exact RW2_k hd2 (fun _ => rfl) (fun _ _ => rfl) (by decide) (by omega) | (exfalso; omega)) (by first | exact hI | exact RW2_k hd3 (fun _ => rfl) (fun _ _ => rfl) (by decide) (by omega) | (exfalso; omega))
    · skip
      refine go_toq PM267 (k := 2) (pc' := 1435) (L' := [some (.inr (.inr (some 3000))), some (.inr (.inr (some 0))), some (.inr (.inr (some 79))), some (.inl i)]) (st' := []) (w' := (SH, dt)) rfl ?_
      exact K dt hI hM hM2 (by first | omega | (simp only [*]; done) | simp only [*]) (by omega) (by omega) (by omega) (by omega) (by omega) (by omega) (by omega) (by omega) (by omega) (by omega) (by omega) (by omega) (by omega) (by first | exact hI | exact RW2_k hd0 (fun _ => rfl) (fun _ _ => rfl) (by decide) (by omega) | (exfalso; omega)) (by first | exact hI | exact RW2_k hd1 (fun _ => rfl) (fun _ _ => rfl) (by decide) (by omega) | (exfalso; omega)) (by first | exact hI | exact RW2_k hd2 (fun _ => rfl) (fun _ _ => rfl) (by decide) (by omega) | (exfalso; omega)) (by first | exact hI | exact RW2_k hd3 (fun _ => rfl) (fun _ _ => rfl) (by decide) (by omega) | (exfalso; omega))
    · skip
      refine go_toq PM267 (k := 2) (pc' := 1435) (L' := [some (.inr (.inr (some 3000))), some (.inr (.inr (some 0))), some (.inr (.inr (some 79))), some (.inl i)]) (st' := []) (w' := (SH, dt)) rfl ?_
      exact K dt hI hM hM2 (by first | omega | (simp only [*]; done) | simp only [*]) (by omega) (by omega) (by omega) (by omega) (by omega) (by omega) (by omega) (by omega) (by omega) (by omega) (by omega) (by omega) (by omega) (by first | exact hI | exact RW2_k hd0 (fun _ => rfl) (fun _ _ => rfl) (by decide) (by omega) | (exfalso; omega)) (by first | exact hI | exact RW2_k hd1 (fun _ => rfl) (fun _ _ => rfl) (by decide) (by omega) | (exfalso; omega)) (by first | exact hI | exact RW2_k hd2 (fun _ => rfl) (fun _ _ => rfl) (by decide) (by omega) | (exfalso; omega)) (by first | exact hI | exact RW2_k hd3 (fun _ => rfl) (fun _ _ => rfl) (by decide) (by omega) | (exfalso; omega))
    · skip
      obtain ⟨h11_0, h11_1⟩ := h11
      replace h11_1 := hid h11_1
      refine go_toq PM267 (k := 2) (pc' := 1435) (L' := [some (.inr (.inr (some 3000))), some (.inr (.inr (some 0))), some (.inr (.inr (some 79))), some (.inl i)]) (st' := []) (w' := (SH, dt)) rfl ?_
      exact K dt hI hM hM2 (by first | (first | omega | (have z0_ := unhid h11_1; omega)) | (simp only [*]; done) | simp only [*]) (by (first | omega | (have z0_ := unhid h11_1; omega))) (by (first | omega | (have z0_ := unhid h11_1; omega))) (by (first | omega | (have z0_ := unhid h11_1; omega))) (by (first | omega | (have z0_ := unhid h11_1; omega))) (by (first | omega | (have z0_ := unhid h11_1; omega))) (by (first | omega | (have z0_ := unhid h11_1; omega))) (by (first | omega | (have z0_ := unhid h11_1; omega))) (by (first | omega | (have z0_ := unhid h11_1; omega))) (by (first | omega | (have z0_ := unhid h11_1; omega))) (by (first | omega | (have z0_ := unhid h11_1; omega))) (by (first | omega | (have z0_ := unhid h11_1; omega))) (by (first | omega | (have z0_ := unhid h11_1; omega))) (by (first | omega | (have z0_ := unhid h11_1; omega))) (by first | exact hI | exact RW2_k hd0 (fun _ => rfl) (fun _ _ => rfl) (by decide) (by (first | omega | (have z0_ := unhid h11_1; omega))) | (exfalso; (first | omega | (have z0_ := unhid h11_1; omega)))) (by first | exact hI | exact RW2_k hd1 (fun _ => rfl) (fun _ _ => rfl) (by decide) (by (first | omega | (have z0_ := unhid h11_1; omega))) | (exfalso; (first | omega | (have z0_ := unhid h11_1; omega)))) (by first | exact hI | exact RW2_k hd2 (fun _ => rfl) (fun _ _ => rfl) (by decide) (by (first | omega | (have z0_ := unhid h11_1; omega))) | (exfalso; (first | omega | (have z0_ := unhid h11_1; omega)))) (by first | exact hI | exact RW2_k hd3 (fun _ => rfl) (fun _ _ => rfl) (by decide) (by (first | omega | (have z0_ := unhid h11_1; omega))) | (exfalso; (first | omega | (have z0_ := unhid h11_1; omega))))
    · skip
      obtain ⟨h11_0, h11_1⟩ := h11
      refine go_toq PM267 (k := 2) (pc' := 1435) (L' := [some (.inr (.inr (some 3000))), some (.inr (.inr (some 0))), some (.inr (.inr (some 79))), some (.inl i)]) (st' := []) (w' := (SH, dt)) rfl ?_
      exact K dt hI hM hM2 (by first | omega | (simp only [*]; done) | simp only [*]) (by omega) (by omega) (by omega) (by omega) (by omega) (by omega) (by omega) (by omega) (by omega) (by omega) (by omega) (by omega) (by omega) (by first | exact hI | exact RW2_k hd0 (fun _ => rfl) (fun _ _ => rfl) (by decide) (by omega) | (exfalso; omega)) (by first | exact hI | exact RW2_k hd1 (fun _ => rfl) (fun _ _ => rfl) (by decide) (by omega) | (exfalso; omega)) (by first | exact hI | exact RW2_k hd2 (fun _ => rfl) (fun _ _ => rfl) (by decide) (by omega) | (exfalso; omega)) (by first | exact hI | exact RW2_k hd3 (fun _ => rfl) (fun _ _ => rfl) (by decide) (by omega) | (exfalso; omega))
    · skip
      refine go_toq PM267 (k := 2) (pc' := 1435) (L' := [some (.inr (.inr (some 3000))), some (.inr (.inr (some 0))), some (.inr (.inr (some 79))), some (.inl i)]) (st' := []) (w' := (SH, dt)) rfl ?_
      exact K dt hI hM hM2 (by first | omega | (simp only [*]; done) | simp only [*]) (by omega) (by omega) (by omega) (by omega) (by omega) (by omega) (by omega) (by omega) (by omega) (by omega) (by omega) (by omega) (by omega) (by first | exact hI | exact RW2_k hd0 (fun _ => rfl) (fun _ _ => rfl) (by decide) (by omega) | (exfalso; omega)) (by first | exact hI | exact RW2_k hd1 (fun _ => rfl) (fun _ _ => rfl) (by decide) (by omega) | (exfalso; omega)) (by first | exact hI | exact RW2_k hd2 (fun _ => rfl) (fun _ _ => rfl) (by decide) (by omega) | (exfalso; omega)) (by first | exact hI | exact RW2_k hd3 (fun _ => rfl) (fun _ _ => rfl) (by decide) (by omega) | (exfalso; omega))
