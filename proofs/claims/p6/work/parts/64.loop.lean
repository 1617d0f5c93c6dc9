set_option maxRecDepth 20000 in
set_option maxHeartbeats 8000000 in
theorem sp_case22 (L : Nat) (xs : Nat → Int32) (sio : Option Nat) (d : Nat) (Q : Option AV → am_W → Prop) (hLL : L ≤ 3072) (i : Int) (hi : 0 ≤ i ∧ i ≤ 3066) (hil : i ≤ (L : Int) - 6) (dt : Nat → Nat → Int) (hI : InvC dt) (hM : MW (dt 80)) (hM2 : MW (dt 81)) (hk0 : dt 1 0 = dt 80 0) (hk1 : dt 7 3 = dt 80 1) (hk2 : dt 10 3 = dt 80 2) (hk3 : dt 12 3 = dt 80 3) (hk4 : dt 14 3 = dt 80 4) (hk5 : dt 16 3 = dt 80 5) (hk6 : dt 18 0 = dt 81 0) (hk7 : dt 24 3 = dt 81 1) (hk8 : dt 27 3 = dt 81 2) (hk9 : dt 29 3 = dt 81 3) (hk10 : dt 31 3 = dt 81 4) (hk11 : dt 33 3 = dt 81 5) (hk12 : dt 0 2 = dt 79 2) (hk13 : dt 35 1 = dt 79 12) (hk14 : dt 35 2 = dt 79 19) (hk15 : dt 35 3 = dt 79 21) (hd0 : TPL (dt 36) (dt 85) (dt 35 1)) (K : ∀ (dt : Nat → Nat → Int) (hI : InvC dt) (hM : MW (dt 80)) (hM2 : MW (dt 81)) (hk0 : dt 1 0 = dt 80 0) (hk1 : dt 7 3 = dt 80 1) (hk2 : dt 10 3 = dt 80 2) (hk3 : dt 12 3 = dt 80 3) (hk4 : dt 14 3 = dt 80 4) (hk5 : dt 16 3 = dt 80 5) (hk6 : dt 18 0 = dt 81 0) (hk7 : dt 24 3 = dt 81 1) (hk8 : dt 27 3 = dt 81 2) (hk9 : dt 29 3 = dt 81 3) (hk10 : dt 31 3 = dt 81 4) (hk11 : dt 33 3 = dt 81 5) (hk12 : dt 0 2 = dt 79 2) (hk13 : dt 35 1 = dt 79 12) (hk14 : dt 35 2 = dt 79 19) (hk15 : dt 35 3 = dt 79 21) (hd0 : TPL (dt 36) (dt 85) (dt 35 1)), GO (am_XX L xs sio) (d + 39) 267 1435 [some (.inr (.inr (some 3000))), some (.inr (.inr (some 0))), some (.inr (.inr (some 79))), some (.inl i)] [] (SH, dt) Q) : GO (am_XX L xs sio) (d + 39) 267 1086 [some (.inr (.inr (some 3000))), some (.inr (.inr (some 0))), some (.inr (.inr (some 79))), some (.inl i)] [] (SH, dt) Q := by
  have hF : Fr [0, 1, 2, 3, 4, 5, 6, 7, 8, 9, 10, 11, 12, 13, 14, 15, 16, 17, 18, 19, 20, 21, 22, 23, 24, 25, 26, 27, 28, 29, 30, 31, 32, 33, 34, 35, 36, 37, 38, 39, 40, 41, 42, 43, 44, 45, 46, 47, 48, 49, 50, 51, 52, 53, 54, 55, 56, 57, 58, 59, 60, 61, 62, 63, 64, 65, 66, 67, 68, 69, 70, 71, 72, 73, 74, 75, 76, 77, 78, 79, 80, 81, 82, 83, 84, 85, 86, 87, 88, 89, 90, 91, 92, 93, 94, 95, 96, 97, 98, 99, 100, 101, 102, 103, 104] dt dt := Fr_refl
  refine go_to (k := 5) (pc' := 1091) (L' := [some (.inr (.inr (some 3000))), some (.inr (.inr (some 0))), some (.inr (.inr (some 79))), some (.inl i)]) (st' := [.inl (i + 1), .inr (.inr (some 3000)), .inr (.inr (some 0))]) (w' := (SH, dt)) (fun _ => rfl) ?_
  have r1 := i32_R (xs ((i + 1).toNat))
  refine go_smp (L' := [some (.inr (.inr (some 3000))), some (.inr (.inr (some 0))), some (.inr (.inr (some 79))), some (.inl i)]) (st' := [.inl ((xs ((i + 1).toNat)).toInt), .inr (.inr (some 0))]) (w' := (SH, dt)) rfl rfl (s_iald (n := L) (f := fun j => (xs j).toInt) (am_scr hLL) ⟨by omega, by omega⟩) ?_
  refine go_call (Q' := _) rfl rfl rfl rfl rfl (sp_X5_beside L xs sio (d + 34) dt hI  ((xs ((i + 1).toNat)).toInt) ⟨by omega, by omega⟩ ) ?_
  rintro _ _ ⟨dt3, rfl, hI4, hF5, h2⟩
  refine ⟨rfl, ?_⟩
  have hF6 : Fr [0, 1, 2, 3, 4, 5, 6, 7, 8, 9, 10, 11, 12, 13, 14, 15, 16, 17, 18, 19, 20, 21, 22, 23, 24, 25, 26, 27, 28, 29, 30, 31, 32, 33, 34, 35, 36, 37, 38, 39, 40, 41, 42, 43, 44, 45, 46, 47, 48, 49, 50, 51, 52, 53, 54, 55, 56, 57, 58, 59, 60, 61, 62, 63, 64, 65, 66, 67, 68, 69, 70, 71, 72, 73, 74, 75, 76, 77, 78, 79, 80, 81, 82, 83, 84, 85, 86, 87, 88, 89, 90, 91, 92, 93, 94, 95, 96, 97, 98, 99, 100, 101, 102, 103, 104] dt dt3 := Fr_tr hF hF5 (by decide)
  have hM7 : MW (dt3 80) := MW_fr hM hF5 (by decide)
  have w8 : dt3 1 0 = dt 1 0 := hF5 1 (by decide) 0
  have w9 : dt3 7 3 = dt 7 3 := hF5 7 (by decide) 3
  have w10 : dt3 10 3 = dt 10 3 := hF5 10 (by decide) 3
  have w11 : dt3 12 3 = dt 12 3 := hF5 12 (by decide) 3
  have w12 : dt3 14 3 = dt 14 3 := hF5 14 (by decide) 3
  have w13 : dt3 16 3 = dt 16 3 := hF5 16 (by decide) 3
  have w14 : dt3 18 0 = dt 18 0 := hF5 18 (by decide) 0
  have w15 : dt3 24 3 = dt 24 3 := hF5 24 (by decide) 3
  have w16 : dt3 27 3 = dt 27 3 := hF5 27 (by decide) 3
  have w17 : dt3 29 3 = dt 29 3 := hF5 29 (by decide) 3
  have w18 : dt3 31 3 = dt 31 3 := hF5 31 (by decide) 3
  have w19 : dt3 33 3 = dt 33 3 := hF5 33 (by decide) 3
  have w20 : dt3 0 2 = dt 0 2 := hF5 0 (by decide) 2
  have w21 : dt3 35 1 = dt 35 1 := hF5 35 (by decide) 1
  have w22 : dt3 35 2 = dt 35 2 := hF5 35 (by decide) 2
  have w23 : dt3 35 3 = dt 35 3 := hF5 35 (by decide) 3
  have w24 : dt3 80 0 = dt 80 0 := hF5 80 (by decide) 0
  have w25 : dt3 80 1 = dt 80 1 := hF5 80 (by decide) 1
  have w26 : dt3 80 2 = dt 80 2 := hF5 80 (by decide) 2
  have w27 : dt3 80 3 = dt 80 3 := hF5 80 (by decide) 3
  have w28 : dt3 80 4 = dt 80 4 := hF5 80 (by decide) 4
  have w29 : dt3 80 5 = dt 80 5 := hF5 80 (by decide) 5
  have w30 : dt3 81 0 = dt 81 0 := hF5 81 (by decide) 0
  have w31 : dt3 81 1 = dt 81 1 := hF5 81 (by decide) 1
  have w32 : dt3 81 2 = dt 81 2 := hF5 81 (by decide) 2
  have w33 : dt3 81 3 = dt 81 3 := hF5 81 (by decide) 3
  have w34 : dt3 81 4 = dt 81 4 := hF5 81 (by decide) 4
  have w35 : dt3 81 5 = dt 81 5 := hF5 81 (by decide) 5
  have w36 : dt3 79 2 = dt 79 2 := hF5 79 (by decide) 2
  have w37 : dt3 79 12 = dt 79 12 := hF5 79 (by decide) 12
  have w38 : dt3 79 19 = dt 79 19 := hF5 79 (by decide) 19
  have w39 : dt3 79 21 = dt 79 21 := hF5 79 (by decide) 21
  rcases h2 with ⟨v_h2, rfl, h2r, h2⟩
  have M240 : MW (dt3 81) := MW_frk hM2 hF5 (by decide)
  have C41 : ∀ j : Nat, dt3 36 j = dt 36 j := fun j => (hF5 36 (by decide) j).trans ((fun _ => rfl) j)
  have C42 : ∀ j : Nat, dt3 85 j = dt 85 j := fun j => (hF5 85 (by decide) j).trans ((fun _ => rfl) j)
  refine go_to (k := 6) (pc' := 1101) (L' := [some (.inr (.inr (some 3000))), some (.inr (.inr (some 0))), some (.inr (.inr (some 79))), some (.inl i)]) (st' := [.inl (i + 1), .inr (.inr (some 3000)), .inr (.inr (some 79))]) (w' := (SH, dt3)) (fun _ => rfl) ?_
  have r43 := i32_R (xs ((i + 1).toNat))
  refine go_smp (L' := [some (.inr (.inr (some 3000))), some (.inr (.inr (some 0))), some (.inr (.inr (some 79))), some (.inl i)]) (st' := [.inl ((xs ((i + 1).toNat)).toInt), .inr (.inr (some 79))]) (w' := (SH, dt3)) rfl rfl (s_iald (n := L) (f := fun j => (xs j).toInt) (am_scr hLL) ⟨by omega, by omega⟩) ?_
  refine go_call (Q' := _) rfl rfl rfl rfl rfl (sp_X6_beside L xs sio (d + 31) dt3 hI4 hM7  ((xs ((i + 1).toNat)).toInt) ⟨by omega, by omega⟩ ) ?_
  rintro _ _ ⟨dt45, rfl, hI46, hF47, h44⟩
  refine ⟨rfl, ?_⟩
  have hF48 : Fr [0, 1, 2, 3, 4, 5, 6, 7, 8, 9, 10, 11, 12, 13, 14, 15, 16, 17, 18, 19, 20, 21, 22, 23, 24, 25, 26, 27, 28, 29, 30, 31, 32, 33, 34, 35, 36, 37, 38, 39, 40, 41, 42, 43, 44, 45, 46, 47, 48, 49, 50, 51, 52, 53, 54, 55, 56, 57, 58, 59, 60, 61, 62, 63, 64, 65, 66, 67, 68, 69, 70, 71, 72, 73, 74, 75, 76, 77, 78, 79, 80, 81, 82, 83, 84, 85, 86, 87, 88, 89, 90, 91, 92, 93, 94, 95, 96, 97, 98, 99, 100, 101, 102, 103, 104] dt dt45 := Fr_tr hF6 hF47 (by decide)
  have hM49 : MW (dt45 80) := MW_fr hM7 hF47 (by decide)
  have w50 : dt45 1 0 = dt3 1 0 := hF47 1 (by decide) 0
  have w51 : dt45 7 3 = dt3 7 3 := hF47 7 (by decide) 3
  have w52 : dt45 10 3 = dt3 10 3 := hF47 10 (by decide) 3
  have w53 : dt45 12 3 = dt3 12 3 := hF47 12 (by decide) 3
  have w54 : dt45 14 3 = dt3 14 3 := hF47 14 (by decide) 3
  have w55 : dt45 16 3 = dt3 16 3 := hF47 16 (by decide) 3
  have w56 : dt45 18 0 = dt3 18 0 := hF47 18 (by decide) 0
  have w57 : dt45 24 3 = dt3 24 3 := hF47 24 (by decide) 3
  have w58 : dt45 27 3 = dt3 27 3 := hF47 27 (by decide) 3
  have w59 : dt45 29 3 = dt3 29 3 := hF47 29 (by decide) 3
  have w60 : dt45 31 3 = dt3 31 3 := hF47 31 (by decide) 3
  have w61 : dt45 33 3 = dt3 33 3 := hF47 33 (by decide) 3
  have w62 : dt45 0 2 = dt3 0 2 := hF47 0 (by decide) 2
  have w63 : dt45 35 1 = dt3 35 1 := hF47 35 (by decide) 1
  have w64 : dt45 35 2 = dt3 35 2 := hF47 35 (by decide) 2
  have w65 : dt45 35 3 = dt3 35 3 := hF47 35 (by decide) 3
  have w66 : dt45 80 0 = dt3 80 0 := hF47 80 (by decide) 0
  have w67 : dt45 80 1 = dt3 80 1 := hF47 80 (by decide) 1
  have w68 : dt45 80 2 = dt3 80 2 := hF47 80 (by decide) 2
  have w69 : dt45 80 3 = dt3 80 3 := hF47 80 (by decide) 3
  have w70 : dt45 80 4 = dt3 80 4 := hF47 80 (by decide) 4
  have w71 : dt45 80 5 = dt3 80 5 := hF47 80 (by decide) 5
  have w72 : dt45 81 0 = dt3 81 0 := hF47 81 (by decide) 0
  have w73 : dt45 81 1 = dt3 81 1 := hF47 81 (by decide) 1
  have w74 : dt45 81 2 = dt3 81 2 := hF47 81 (by decide) 2
  have w75 : dt45 81 3 = dt3 81 3 := hF47 81 (by decide) 3
  have w76 : dt45 81 4 = dt3 81 4 := hF47 81 (by decide) 4
  have w77 : dt45 81 5 = dt3 81 5 := hF47 81 (by decide) 5
  have w78 : dt45 79 2 = dt3 79 2 := hF47 79 (by decide) 2
  have w79 : dt45 79 12 = dt3 79 12 := hF47 79 (by decide) 12
  have w80 : dt45 79 19 = dt3 79 19 := hF47 79 (by decide) 19
  have w81 : dt45 79 21 = dt3 79 21 := hF47 79 (by decide) 21
  rcases h44 with ⟨v_h44, rfl, h44r, h44⟩
  have M282 : MW (dt45 81) := MW_frk M240 hF47 (by decide)
  have C83 : ∀ j : Nat, dt45 36 j = dt 36 j := fun j => (hF47 36 (by decide) j).trans (C41 j)
  have C84 : ∀ j : Nat, dt45 85 j = dt 85 j := fun j => (hF47 85 (by decide) j).trans (C42 j)
  refine go_to (k := 2) (pc' := 1435) (L' := [some (.inr (.inr (some 3000))), some (.inr (.inr (some 0))), some (.inr (.inr (some 79))), some (.inl i)]) (st' := []) (w' := (SH, dt45)) (fun _ => rfl) ?_
  exact K dt45 hI46 hM49 M282 (by first | omega | (simp only [*]; done) | simp only [*]) (by omega) (by omega) (by omega) (by omega) (by omega) (by omega) (by omega) (by omega) (by omega) (by omega) (by omega) (by omega) (by omega) (by omega) (by omega) (by first | exact hI | exact TPL_k hd0 C83 C84 (by omega) | (exfalso; omega))
set_option maxRecDepth 20000 in
set_option maxHeartbeats 8000000 in
theorem sp_case23 (L : Nat) (xs : Nat → Int32) (sio : Option Nat) (d : Nat) (Q : Option AV → am_W → Prop) (hLL : L ≤ 3072) (i : Int) (hi : 0 ≤ i ∧ i ≤ 3066) (hil : i ≤ (L : Int) - 6) (dt : Nat → Nat → Int) (hI : InvC dt) (hM : MW (dt 80)) (hM2 : MW (dt 81)) (hk0 : dt 1 0 = dt 80 0) (hk1 : dt 7 3 = dt 80 1) (hk2 : dt 10 3 = dt 80 2) (hk3 : dt 12 3 = dt 80 3) (hk4 : dt 14 3 = dt 80 4) (hk5 : dt 16 3 = dt 80 5) (hk6 : dt 18 0 = dt 81 0) (hk7 : dt 24 3 = dt 81 1) (hk8 : dt 27 3 = dt 81 2) (hk9 : dt 29 3 = dt 81 3) (hk10 : dt 31 3 = dt 81 4) (hk11 : dt 33 3 = dt 81 5) (hk12 : dt 0 2 = dt 79 2) (hk13 : dt 35 1 = dt 79 12) (hk14 : dt 35 2 = dt 79 19) (hk15 : dt 35 3 = dt 79 21) (hd0 : TPL (dt 36) (dt 85) (dt 35 1)) (K : ∀ (dt : Nat → Nat → Int) (hI : InvC dt) (hM : MW (dt 80)) (hM2 : MW (dt 81)) (hk0 : dt 1 0 = dt 80 0) (hk1 : dt 7 3 = dt 80 1) (hk2 : dt 10 3 = dt 80 2) (hk3 : dt 12 3 = dt 80 3) (hk4 : dt 14 3 = dt 80 4) (hk5 : dt 16 3 = dt 80 5) (hk6 : dt 18 0 = dt 81 0) (hk7 : dt 24 3 = dt 81 1) (hk8 : dt 27 3 = dt 81 2) (hk9 : dt 29 3 = dt 81 3) (hk10 : dt 31 3 = dt 81 4) (hk11 : dt 33 3 = dt 81 5) (hk12 : dt 0 2 = dt 79 2) (hk13 : dt 35 1 = dt 79 12) (hk14 : dt 35 2 = dt 79 19) (hk15 : dt 35 3 = dt 79 21) (hd0 : TPL (dt 36) (dt 85) (dt 35 1)), GO (am_XX L xs sio) (d + 39) 267 1435 [some (.inr (.inr (some 3000))), some (.inr (.inr (some 0))), some (.inr (.inr (some 79))), some (.inl i)] [] (SH, dt) Q) : GO (am_XX L xs sio) (d + 39) 267 1109 [some (.inr (.inr (some 3000))), some (.inr (.inr (some 0))), some (.inr (.inr (some 79))), some (.inl i)] [] (SH, dt) Q := by
  have hF : Fr [0, 1, 2, 3, 4, 5, 6, 7, 8, 9, 10, 11, 12, 13, 14, 15, 16, 17, 18, 19, 20, 21, 22, 23, 24, 25, 26, 27, 28, 29, 30, 31, 32, 33, 34, 35, 36, 37, 38, 39, 40, 41, 42, 43, 44, 45, 46, 47, 48, 49, 50, 51, 52, 53, 54, 55, 56, 57, 58, 59, 60, 61, 62, 63, 64, 65, 66, 67, 68, 69, 70, 71, 72, 73, 74, 75, 76, 77, 78, 79, 80, 81, 82, 83, 84, 85, 86, 87, 88, 89, 90, 91, 92, 93, 94, 95, 96, 97, 98, 99, 100, 101, 102, 103, 104] dt dt := Fr_refl
  refine go_to (k := 5) (pc' := 1114) (L' := [some (.inr (.inr (some 3000))), some (.inr (.inr (some 0))), some (.inr (.inr (some 79))), some (.inl i)]) (st' := [.inl (i + 1), .inr (.inr (some 3000)), .inr (.inr (some 0))]) (w' := (SH, dt)) (fun _ => rfl) ?_
  have r1 := i32_R (xs ((i + 1).toNat))
  refine go_smp (L' := [some (.inr (.inr (some 3000))), some (.inr (.inr (some 0))), some (.inr (.inr (some 79))), some (.inl i)]) (st' := [.inl ((xs ((i + 1).toNat)).toInt), .inr (.inr (some 0))]) (w' := (SH, dt)) rfl rfl (s_iald (n := L) (f := fun j => (xs j).toInt) (am_scr hLL) ⟨by omega, by omega⟩) ?_
  refine go_to (k := 4) (pc' := 1119) (L' := [some (.inr (.inr (some 3000))), some (.inr (.inr (some 0))), some (.inr (.inr (some 79))), some (.inl i)]) (st' := [.inl (i + 2), .inr (.inr (some 3000)), .inl ((xs ((i + 1).toNat)).toInt), .inr (.inr (some 0))]) (w' := (SH, dt)) (fun _ => rfl) ?_
  have r2 := i32_R (xs ((i + 2).toNat))
  refine go_smp (L' := [some (.inr (.inr (some 3000))), some (.inr (.inr (some 0))), some (.inr (.inr (some 79))), some (.inl i)]) (st' := [.inl ((xs ((i + 2).toNat)).toInt), .inl ((xs ((i + 1).toNat)).toInt), .inr (.inr (some 0))]) (w' := (SH, dt)) rfl rfl (s_iald (n := L) (f := fun j => (xs j).toInt) (am_scr hLL) ⟨by omega, by omega⟩) ?_
  refine go_call (Q' := _) rfl rfl rfl rfl rfl (sp_X5_eyes L xs sio (d + 36) dt hI  ((xs ((i + 1).toNat)).toInt) ⟨by omega, by omega⟩ ((xs ((i + 2).toNat)).toInt) ⟨by omega, by omega⟩ ) ?_
  rintro _ _ ⟨dt4, rfl, hI5, hF6, h3⟩
  refine ⟨rfl, ?_⟩
  have hF7 : Fr [0, 1, 2, 3, 4, 5, 6, 7, 8, 9, 10, 11, 12, 13, 14, 15, 16, 17, 18, 19, 20, 21, 22, 23, 24, 25, 26, 27, 28, 29, 30, 31, 32, 33, 34, 35, 36, 37, 38, 39, 40, 41, 42, 43, 44, 45, 46, 47, 48, 49, 50, 51, 52, 53, 54, 55, 56, 57, 58, 59, 60, 61, 62, 63, 64, 65, 66, 67, 68, 69, 70, 71, 72, 73, 74, 75, 76, 77, 78, 79, 80, 81, 82, 83, 84, 85, 86, 87, 88, 89, 90, 91, 92, 93, 94, 95, 96, 97, 98, 99, 100, 101, 102, 103, 104] dt dt4 := Fr_tr hF hF6 (by decide)
  have hM8 : MW (dt4 80) := MW_fr hM hF6 (by decide)
  have w9 : dt4 1 0 = dt 1 0 := hF6 1 (by decide) 0
  have w10 : dt4 7 3 = dt 7 3 := hF6 7 (by decide) 3
  have w11 : dt4 10 3 = dt 10 3 := hF6 10 (by decide) 3
  have w12 : dt4 12 3 = dt 12 3 := hF6 12 (by decide) 3
  have w13 : dt4 16 3 = dt 16 3 := hF6 16 (by decide) 3
  have w14 : dt4 18 0 = dt 18 0 := hF6 18 (by decide) 0
  have w15 : dt4 24 3 = dt 24 3 := hF6 24 (by decide) 3
  have w16 : dt4 27 3 = dt 27 3 := hF6 27 (by decide) 3
  have w17 : dt4 29 3 = dt 29 3 := hF6 29 (by decide) 3
  have w18 : dt4 31 3 = dt 31 3 := hF6 31 (by decide) 3
  have w19 : dt4 33 3 = dt 33 3 := hF6 33 (by decide) 3
  have w20 : dt4 0 2 = dt 0 2 := hF6 0 (by decide) 2
  have w21 : dt4 35 1 = dt 35 1 := hF6 35 (by decide) 1
  have w22 : dt4 35 2 = dt 35 2 := hF6 35 (by decide) 2
  have w23 : dt4 35 3 = dt 35 3 := hF6 35 (by decide) 3
  have w24 : dt4 80 0 = dt 80 0 := hF6 80 (by decide) 0
  have w25 : dt4 80 1 = dt 80 1 := hF6 80 (by decide) 1
  have w26 : dt4 80 2 = dt 80 2 := hF6 80 (by decide) 2
  have w27 : dt4 80 3 = dt 80 3 := hF6 80 (by decide) 3
  have w28 : dt4 80 4 = dt 80 4 := hF6 80 (by decide) 4
  have w29 : dt4 80 5 = dt 80 5 := hF6 80 (by decide) 5
  have w30 : dt4 81 0 = dt 81 0 := hF6 81 (by decide) 0
  have w31 : dt4 81 1 = dt 81 1 := hF6 81 (by decide) 1
  have w32 : dt4 81 2 = dt 81 2 := hF6 81 (by decide) 2
  have w33 : dt4 81 3 = dt 81 3 := hF6 81 (by decide) 3
  have w34 : dt4 81 4 = dt 81 4 := hF6 81 (by decide) 4
  have w35 : dt4 81 5 = dt 81 5 := hF6 81 (by decide) 5
  have w36 : dt4 79 2 = dt 79 2 := hF6 79 (by decide) 2
  have w37 : dt4 79 12 = dt 79 12 := hF6 79 (by decide) 12
  have w38 : dt4 79 19 = dt 79 19 := hF6 79 (by decide) 19
  have w39 : dt4 79 21 = dt 79 21 := hF6 79 (by decide) 21
  rcases h3 with ⟨rfl, h3⟩ | ⟨v_h3, rfl, h3r, h3⟩
  · skip
    obtain ⟨h3_0, h3_1⟩ := h3
    have M240 : MW (dt4 81) := MW_frk hM2 hF6 (by decide)
    have C41 : ∀ j : Nat, dt4 36 j = dt 36 j := fun j => (hF6 36 (by decide) j).trans ((fun _ => rfl) j)
    have C42 : ∀ j : Nat, dt4 85 j = dt 85 j := fun j => (hF6 85 (by decide) j).trans ((fun _ => rfl) j)
    refine go_to (k := 6) (pc' := 1129) (L' := [some (.inr (.inr (some 3000))), some (.inr (.inr (some 0))), some (.inr (.inr (some 79))), some (.inl i)]) (st' := [.inl (i + 1), .inr (.inr (some 3000)), .inr (.inr (some 79))]) (w' := (SH, dt4)) (fun _ => rfl) ?_
    have r43 := i32_R (xs ((i + 1).toNat))
    refine go_smp (L' := [some (.inr (.inr (some 3000))), some (.inr (.inr (some 0))), some (.inr (.inr (some 79))), some (.inl i)]) (st' := [.inl ((xs ((i + 1).toNat)).toInt), .inr (.inr (some 79))]) (w' := (SH, dt4)) rfl rfl (s_iald (n := L) (f := fun j => (xs j).toInt) (am_scr hLL) ⟨by omega, by omega⟩) ?_
    refine go_to (k := 4) (pc' := 1134) (L' := [some (.inr (.inr (some 3000))), some (.inr (.inr (some 0))), some (.inr (.inr (some 79))), some (.inl i)]) (st' := [.inl (i + 2), .inr (.inr (some 3000)), .inl ((xs ((i + 1).toNat)).toInt), .inr (.inr (some 79))]) (w' := (SH, dt4)) (fun _ => rfl) ?_
    have r44 := i32_R (xs ((i + 2).toNat))
    refine go_smp (L' := [some (.inr (.inr (some 3000))), some (.inr (.inr (some 0))), some (.inr (.inr (some 79))), some (.inl i)]) (st' := [.inl ((xs ((i + 2).toNat)).toInt), .inl ((xs ((i + 1).toNat)).toInt), .inr (.inr (some 79))]) (w' := (SH, dt4)) rfl rfl (s_iald (n := L) (f := fun j => (xs j).toInt) (am_scr hLL) ⟨by omega, by omega⟩) ?_
    refine go_call (Q' := _) rfl rfl rfl rfl rfl (sp_X6_eyes L xs sio (d + 37) dt4 hI5 hM8  ((xs ((i + 1).toNat)).toInt) ⟨by omega, by omega⟩ ((xs ((i + 2).toNat)).toInt) ⟨by omega, by omega⟩ ) ?_
    rintro _ _ ⟨dt46, rfl, hI47, hF48, h45⟩
    refine ⟨rfl, ?_⟩
    have hF49 : Fr [0, 1, 2, 3, 4, 5, 6, 7, 8, 9, 10, 11, 12, 13, 14, 15, 16, 17, 18, 19, 20, 21, 22, 23, 24, 25, 26, 27, 28, 29, 30, 31, 32, 33, 34, 35, 36, 37, 38, 39, 40, 41, 42, 43, 44, 45, 46, 47, 48, 49, 50, 51, 52, 53, 54, 55, 56, 57, 58, 59, 60, 61, 62, 63, 64, 65, 66, 67, 68, 69, 70, 71, 72, 73, 74, 75, 76, 77, 78, 79, 80, 81, 82, 83, 84, 85, 86, 87, 88, 89, 90, 91, 92, 93, 94, 95, 96, 97, 98, 99, 100, 101, 102, 103, 104] dt dt46 := Fr_tr hF7 hF48 (by decide)
    have w50 : dt46 1 0 = dt4 1 0 := hF48 1 (by decide) 0
    have w51 : dt46 7 3 = dt4 7 3 := hF48 7 (by decide) 3
    have w52 : dt46 10 3 = dt4 10 3 := hF48 10 (by decide) 3
    have w53 : dt46 12 3 = dt4 12 3 := hF48 12 (by decide) 3
    have w54 : dt46 14 3 = dt4 14 3 := hF48 14 (by decide) 3
    have w55 : dt46 16 3 = dt4 16 3 := hF48 16 (by decide) 3
    have w56 : dt46 18 0 = dt4 18 0 := hF48 18 (by decide) 0
    have w57 : dt46 24 3 = dt4 24 3 := hF48 24 (by decide) 3
    have w58 : dt46 27 3 = dt4 27 3 := hF48 27 (by decide) 3
    have w59 : dt46 29 3 = dt4 29 3 := hF48 29 (by decide) 3
    have w60 : dt46 31 3 = dt4 31 3 := hF48 31 (by decide) 3
    have w61 : dt46 33 3 = dt4 33 3 := hF48 33 (by decide) 3
    have w62 : dt46 0 2 = dt4 0 2 := hF48 0 (by decide) 2
    have w63 : dt46 35 1 = dt4 35 1 := hF48 35 (by decide) 1
    have w64 : dt46 35 2 = dt4 35 2 := hF48 35 (by decide) 2
    have w65 : dt46 35 3 = dt4 35 3 := hF48 35 (by decide) 3
    have w66 : dt46 81 0 = dt4 81 0 := hF48 81 (by decide) 0
    have w67 : dt46 81 1 = dt4 81 1 := hF48 81 (by decide) 1
    have w68 : dt46 81 2 = dt4 81 2 := hF48 81 (by decide) 2
    have w69 : dt46 81 3 = dt4 81 3 := hF48 81 (by decide) 3
    have w70 : dt46 81 4 = dt4 81 4 := hF48 81 (by decide) 4
    have w71 : dt46 81 5 = dt4 81 5 := hF48 81 (by decide) 5
    have w72 : dt46 79 2 = dt4 79 2 := hF48 79 (by decide) 2
    have w73 : dt46 79 12 = dt4 79 12 := hF48 79 (by decide) 12
    have w74 : dt46 79 19 = dt4 79 19 := hF48 79 (by decide) 19
    have w75 : dt46 79 21 = dt4 79 21 := hF48 79 (by decide) 21
    rcases h45 with ⟨rfl, h45⟩ | ⟨v_h45, rfl, h45r, h45⟩
    · skip
      have hM76 : MW (dt46 80) := h45.2.1
      obtain ⟨h45_0, h45_1, h45_2, h45_3, h45_4, h45_5, h45_6, h45_7⟩ := h45
      have M277 : MW (dt46 81) := MW_frk M240 hF48 (by decide)
      have C78 : ∀ j : Nat, dt46 36 j = dt 36 j := fun j => (hF48 36 (by decide) j).trans (C41 j)
      have C79 : ∀ j : Nat, dt46 85 j = dt 85 j := fun j => (hF48 85 (by decide) j).trans (C42 j)
      refine go_to (k := 2) (pc' := 1435) (L' := [some (.inr (.inr (some 3000))), some (.inr (.inr (some 0))), some (.inr (.inr (some 79))), some (.inl i)]) (st' := []) (w' := (SH, dt46)) (fun _ => rfl) ?_
      exact K dt46 hI47 hM76 M277 (by first | omega | (simp only [*]; done) | simp only [*]) (by omega) (by omega) (by omega) (by omega) (by omega) (by omega) (by omega) (by omega) (by omega) (by omega) (by omega) (by omega) (by omega) (by omega) (by omega) (by first | exact hI | exact TPL_k hd0 C78 C79 (by omega) | (exfalso; omega))
    · skip
      have hM80 : MW (dt46 80) := h45.2.2.1
      obtain ⟨h45_0, h45_1, h45_2, h45_3, h45_4, h45_5, h45_6, h45_7, h45_8⟩ := h45
      have M281 : MW (dt46 81) := MW_frk M240 hF48 (by decide)
      have C82 : ∀ j : Nat, dt46 36 j = dt 36 j := fun j => (hF48 36 (by decide) j).trans (C41 j)
      have C83 : ∀ j : Nat, dt46 85 j = dt 85 j := fun j => (hF48 85 (by decide) j).trans (C42 j)
      refine go_to (k := 2) (pc' := 1435) (L' := [some (.inr (.inr (some 3000))), some (.inr (.inr (some 0))), some (.inr (.inr (some 79))), some (.inl i)]) (st' := []) (w' := (SH, dt46)) (fun _ => rfl) ?_
      exact K dt46 hI47 hM80 M281 (by first | omega | (simp only [*]; done) | simp only [*]) (by omega) (by omega) (by omega) (by omega) (by omega) (by omega) (by omega) (by omega) (by omega) (by omega) (by omega) (by omega) (by omega) (by omega) (by omega) (by first | exact hI | exact TPL_k hd0 C82 C83 (by omega) | (exfalso; omega))
  · skip
    obtain ⟨h3_0, h3_1, h3_2⟩ := h3
    have M284 : MW (dt4 81) := MW_frk hM2 hF6 (by decide)
    have C85 : ∀ j : Nat, dt4 36 j = dt 36 j := fun j => (hF6 36 (by decide) j).trans ((fun _ => rfl) j)
    have C86 : ∀ j : Nat, dt4 85 j = dt 85 j := fun j => (hF6 85 (by decide) j).trans ((fun _ => rfl) j)
    refine go_to (k := 6) (pc' := 1129) (L' := [some (.inr (.inr (some 3000))), some (.inr (.inr (some 0))), some (.inr (.inr (some 79))), some (.inl i)]) (st' := [.inl (i + 1), .inr (.inr (some 3000)), .inr (.inr (some 79))]) (w' := (SH, dt4)) (fun _ => rfl) ?_
    have r87 := i32_R (xs ((i + 1).toNat))
    refine go_smp (L' := [some (.inr (.inr (some 3000))), some (.inr (.inr (some 0))), some (.inr (.inr (some 79))), some (.inl i)]) (st' := [.inl ((xs ((i + 1).toNat)).toInt), .inr (.inr (some 79))]) (w' := (SH, dt4)) rfl rfl (s_iald (n := L) (f := fun j => (xs j).toInt) (am_scr hLL) ⟨by omega, by omega⟩) ?_
    refine go_to (k := 4) (pc' := 1134) (L' := [some (.inr (.inr (some 3000))), some (.inr (.inr (some 0))), some (.inr (.inr (some 79))), some (.inl i)]) (st' := [.inl (i + 2), .inr (.inr (some 3000)), .inl ((xs ((i + 1).toNat)).toInt), .inr (.inr (some 79))]) (w' := (SH, dt4)) (fun _ => rfl) ?_
    have r88 := i32_R (xs ((i + 2).toNat))
    refine go_smp (L' := [some (.inr (.inr (some 3000))), some (.inr (.inr (some 0))), some (.inr (.inr (some 79))), some (.inl i)]) (st' := [.inl ((xs ((i + 2).toNat)).toInt), .inl ((xs ((i + 1).toNat)).toInt), .inr (.inr (some 79))]) (w' := (SH, dt4)) rfl rfl (s_iald (n := L) (f := fun j => (xs j).toInt) (am_scr hLL) ⟨by omega, by omega⟩) ?_
    refine go_call (Q' := _) rfl rfl rfl rfl rfl (sp_X6_eyes L xs sio (d + 37) dt4 hI5 hM8  ((xs ((i + 1).toNat)).toInt) ⟨by omega, by omega⟩ ((xs ((i + 2).toNat)).toInt) ⟨by omega, by omega⟩ ) ?_
    rintro _ _ ⟨dt90, rfl, hI91, hF92, h89⟩
    refine ⟨rfl, ?_⟩
    have hF93 : Fr [0, 1, 2, 3, 4, 5, 6, 7, 8, 9, 10, 11, 12, 13, 14, 15, 16, 17, 18, 19, 20, 21, 22, 23, 24, 25, 26, 27, 28, 29, 30, 31, 32, 33, 34, 35, 36, 37, 38, 39, 40, 41, 42, 43, 44, 45, 46, 47, 48, 49, 50, 51, 52, 53, 54, 55, 56, 57, 58, 59, 60, 61, 62, 63, 64, 65, 66, 67, 68, 69, 70, 71, 72, 73, 74, 75, 76, 77, 78, 79, 80, 81, 82, 83, 84, 85, 86, 87, 88, 89, 90, 91, 92, 93, 94, 95, 96, 97, 98, 99, 100, 101, 102, 103, 104] dt dt90 := Fr_tr hF7 hF92 (by decide)
    have w94 : dt90 1 0 = dt4 1 0 := hF92 1 (by decide) 0
    have w95 : dt90 7 3 = dt4 7 3 := hF92 7 (by decide) 3
    have w96 : dt90 10 3 = dt4 10 3 := hF92 10 (by decide) 3
    have w97 : dt90 12 3 = dt4 12 3 := hF92 12 (by decide) 3
    have w98 : dt90 14 3 = dt4 14 3 := hF92 14 (by decide) 3
    have w99 : dt90 16 3 = dt4 16 3 := hF92 16 (by decide) 3
    have w100 : dt90 18 0 = dt4 18 0 := hF92 18 (by decide) 0
    have w101 : dt90 24 3 = dt4 24 3 := hF92 24 (by decide) 3
    have w102 : dt90 27 3 = dt4 27 3 := hF92 27 (by decide) 3
    have w103 : dt90 29 3 = dt4 29 3 := hF92 29 (by decide) 3
    have w104 : dt90 31 3 = dt4 31 3 := hF92 31 (by decide) 3
    have w105 : dt90 33 3 = dt4 33 3 := hF92 33 (by decide) 3
    have w106 : dt90 0 2 = dt4 0 2 := hF92 0 (by decide) 2
    have w107 : dt90 35 1 = dt4 35 1 := hF92 35 (by decide) 1
    have w108 : dt90 35 2 = dt4 35 2 := hF92 35 (by decide) 2
    have w109 : dt90 35 3 = dt4 35 3 := hF92 35 (by decide) 3
    have w110 : dt90 81 0 = dt4 81 0 := hF92 81 (by decide) 0
    have w111 : dt90 81 1 = dt4 81 1 := hF92 81 (by decide) 1
    have w112 : dt90 81 2 = dt4 81 2 := hF92 81 (by decide) 2
    have w113 : dt90 81 3 = dt4 81 3 := hF92 81 (by decide) 3
    have w114 : dt90 81 4 = dt4 81 4 := hF92 81 (by decide) 4
    have w115 : dt90 81 5 = dt4 81 5 := hF92 81 (by decide) 5
    have w116 : dt90 79 2 = dt4 79 2 := hF92 79 (by decide) 2
    have w117 : dt90 79 12 = dt4 79 12 := hF92 79 (by decide) 12
    have w118 : dt90 79 19 = dt4 79 19 := hF92 79 (by decide) 19
    have w119 : dt90 79 21 = dt4 79 21 := hF92 79 (by decide) 21
    rcases h89 with ⟨rfl, h89⟩ | ⟨v_h89, rfl, h89r, h89⟩
    · skip
      have hM120 : MW (dt90 80) := h89.2.1
      obtain ⟨h89_0, h89_1, h89_2, h89_3, h89_4, h89_5, h89_6, h89_7⟩ := h89
      have M2121 : MW (dt90 81) := MW_frk M284 hF92 (by decide)
      have C122 : ∀ j : Nat, dt90 36 j = dt 36 j := fun j => (hF92 36 (by decide) j).trans (C85 j)
      have C123 : ∀ j : Nat, dt90 85 j = dt 85 j := fun j => (hF92 85 (by decide) j).trans (C86 j)
      refine go_to (k := 2) (pc' := 1435) (L' := [some (.inr (.inr (some 3000))), some (.inr (.inr (some 0))), some (.inr (.inr (some 79))), some (.inl i)]) (st' := []) (w' := (SH, dt90)) (fun _ => rfl) ?_
      exact K dt90 hI91 hM120 M2121 (by first | omega | (simp only [*]; done) | simp only [*]) (by omega) (by omega) (by omega) (by omega) (by omega) (by omega) (by omega) (by omega) (by omega) (by omega) (by omega) (by omega) (by omega) (by omega) (by omega) (by first | exact hI | exact TPL_k hd0 C122 C123 (by omega) | (exfalso; omega))
    · skip
      have hM124 : MW (dt90 80) := h89.2.2.1
      obtain ⟨h89_0, h89_1, h89_2, h89_3, h89_4, h89_5, h89_6, h89_7, h89_8⟩ := h89
      have M2125 : MW (dt90 81) := MW_frk M284 hF92 (by decide)
      have C126 : ∀ j : Nat, dt90 36 j = dt 36 j := fun j => (hF92 36 (by decide) j).trans (C85 j)
      have C127 : ∀ j : Nat, dt90 85 j = dt 85 j := fun j => (hF92 85 (by decide) j).trans (C86 j)
      refine go_to (k := 2) (pc' := 1435) (L' := [some (.inr (.inr (some 3000))), some (.inr (.inr (some 0))), some (.inr (.inr (some 79))), some (.inl i)]) (st' := []) (w' := (SH, dt90)) (fun _ => rfl) ?_
      exact K dt90 hI91 hM124 M2125 (by first | omega | (simp only [*]; done) | simp only [*]) (by omega) (by omega) (by omega) (by omega) (by omega) (by omega) (by omega) (by omega) (by omega) (by omega) (by omega) (by omega) (by omega) (by omega) (by omega) (by first | exact hI | exact TPL_k hd0 C126 C127 (by omega) | (exfalso; omega))
set_option maxRecDepth 20000 in
set_option maxHeartbeats 8000000 in
theorem sp_case24 (L : Nat) (xs : Nat → Int32) (sio : Option Nat) (d : Nat) (Q : Option AV → am_W → Prop) (hLL : L ≤ 3072) (i : Int) (hi : 0 ≤ i ∧ i ≤ 3066) (hil : i ≤ (L : Int) - 6) (dt : Nat → Nat → Int) (hI : InvC dt) (hM : MW (dt 80)) (hM2 : MW (dt 81)) (hk0 : dt 1 0 = dt 80 0) (hk1 : dt 7 3 = dt 80 1) (hk2 : dt 10 3 = dt 80 2) (hk3 : dt 12 3 = dt 80 3) (hk4 : dt 14 3 = dt 80 4) (hk5 : dt 16 3 = dt 80 5) (hk6 : dt 18 0 = dt 81 0) (hk7 : dt 24 3 = dt 81 1) (hk8 : dt 27 3 = dt 81 2) (hk9 : dt 29 3 = dt 81 3) (hk10 : dt 31 3 = dt 81 4) (hk11 : dt 33 3 = dt 81 5) (hk12 : dt 0 2 = dt 79 2) (hk13 : dt 35 1 = dt 79 12) (hk14 : dt 35 2 = dt 79 19) (hk15 : dt 35 3 = dt 79 21) (hd0 : TPL (dt 36) (dt 85) (dt 35 1)) (K : ∀ (dt : Nat → Nat → Int) (hI : InvC dt) (hM : MW (dt 80)) (hM2 : MW (dt 81)) (hk0 : dt 1 0 = dt 80 0) (hk1 : dt 7 3 = dt 80 1) (hk2 : dt 10 3 = dt 80 2) (hk3 : dt 12 3 = dt 80 3) (hk4 : dt 14 3 = dt 80 4) (hk5 : dt 16 3 = dt 80 5) (hk6 : dt 18 0 = dt 81 0) (hk7 : dt 24 3 = dt 81 1) (hk8 : dt 27 3 = dt 81 2) (hk9 : dt 29 3 = dt 81 3) (hk10 : dt 31 3 = dt 81 4) (hk11 : dt 33 3 = dt 81 5) (hk12 : dt 0 2 = dt 79 2) (hk13 : dt 35 1 = dt 79 12) (hk14 : dt 35 2 = dt 79 19) (hk15 : dt 35 3 = dt 79 21) (hd0 : TPL (dt 36) (dt 85) (dt 35 1)), GO (am_XX L xs sio) (d + 39) 267 1435 [some (.inr (.inr (some 3000))), some (.inr (.inr (some 0))), some (.inr (.inr (some 79))), some (.inl i)] [] (SH, dt) Q) : GO (am_XX L xs sio) (d + 39) 267 1142 [some (.inr (.inr (some 3000))), some (.inr (.inr (some 0))), some (.inr (.inr (some 79))), some (.inl i)] [] (SH, dt) Q := by
  have hF : Fr [0, 1, 2, 3, 4, 5, 6, 7, 8, 9, 10, 11, 12, 13, 14, 15, 16, 17, 18, 19, 20, 21, 22, 23, 24, 25, 26, 27, 28, 29, 30, 31, 32, 33, 34, 35, 36, 37, 38, 39, 40, 41, 42, 43, 44, 45, 46, 47, 48, 49, 50, 51, 52, 53, 54, 55, 56, 57, 58, 59, 60, 61, 62, 63, 64, 65, 66, 67, 68, 69, 70, 71, 72, 73, 74, 75, 76, 77, 78, 79, 80, 81, 82, 83, 84, 85, 86, 87, 88, 89, 90, 91, 92, 93, 94, 95, 96, 97, 98, 99, 100, 101, 102, 103, 104] dt dt := Fr_refl
  refine go_to (k := 5) (pc' := 1147) (L' := [some (.inr (.inr (some 3000))), some (.inr (.inr (some 0))), some (.inr (.inr (some 79))), some (.inl i)]) (st' := [.inl (i + 1), .inr (.inr (some 3000)), .inr (.inr (some 0))]) (w' := (SH, dt)) (fun _ => rfl) ?_
  have r1 := i32_R (xs ((i + 1).toNat))
  refine go_smp (L' := [some (.inr (.inr (some 3000))), some (.inr (.inr (some 0))), some (.inr (.inr (some 79))), some (.inl i)]) (st' := [.inl ((xs ((i + 1).toNat)).toInt), .inr (.inr (some 0))]) (w' := (SH, dt)) rfl rfl (s_iald (n := L) (f := fun j => (xs j).toInt) (am_scr hLL) ⟨by omega, by omega⟩) ?_
  refine go_call (Q' := _) rfl rfl rfl rfl rfl (sp_X5_way L xs sio (d + 35) dt hI  ((xs ((i + 1).toNat)).toInt) ⟨by omega, by omega⟩ ) ?_
  rintro _ _ ⟨rfl, h2⟩
  refine ⟨rfl, ?_⟩
  rcases h2 with ⟨v_h2, rfl, h2r, h2⟩
  refine go_to (k := 6) (pc' := 1157) (L' := [some (.inr (.inr (some 3000))), some (.inr (.inr (some 0))), some (.inr (.inr (some 79))), some (.inl i)]) (st' := [.inl (i + 1), .inr (.inr (some 3000)), .inr (.inr (some 79))]) (w' := (SH, dt)) (fun _ => rfl) ?_
  refine go_smp (L' := [some (.inr (.inr (some 3000))), some (.inr (.inr (some 0))), some (.inr (.inr (some 79))), some (.inl i)]) (st' := [.inl ((xs ((i + 1).toNat)).toInt), .inr (.inr (some 79))]) (w' := (SH, dt)) rfl rfl (s_iald (n := L) (f := fun j => (xs j).toInt) (am_scr hLL) ⟨by omega, by omega⟩) ?_
  refine go_call (Q' := _) rfl rfl rfl rfl rfl (sp_X6_way L xs sio (d + 36) dt hI hM  ((xs ((i + 1).toNat)).toInt) ⟨by omega, by omega⟩ ) ?_
  rintro _ _ ⟨dt4, rfl, hI5, hF6, h3⟩
  refine ⟨rfl, ?_⟩
  have hF7 : Fr [0, 1, 2, 3, 4, 5, 6, 7, 8, 9, 10, 11, 12, 13, 14, 15, 16, 17, 18, 19, 20, 21, 22, 23, 24, 25, 26, 27, 28, 29, 30, 31, 32, 33, 34, 35, 36, 37, 38, 39, 40, 41, 42, 43, 44, 45, 46, 47, 48, 49, 50, 51, 52, 53, 54, 55, 56, 57, 58, 59, 60, 61, 62, 63, 64, 65, 66, 67, 68, 69, 70, 71, 72, 73, 74, 75, 76, 77, 78, 79, 80, 81, 82, 83, 84, 85, 86, 87, 88, 89, 90, 91, 92, 93, 94, 95, 96, 97, 98, 99, 100, 101, 102, 103, 104] dt dt4 := Fr_tr hF hF6 (by decide)
  have hM8 : MW (dt4 80) := MW_fr hM hF6 (by decide)
  have w9 : dt4 1 0 = dt 1 0 := hF6 1 (by decide) 0
  have w10 : dt4 7 3 = dt 7 3 := hF6 7 (by decide) 3
  have w11 : dt4 10 3 = dt 10 3 := hF6 10 (by decide) 3
  have w12 : dt4 12 3 = dt 12 3 := hF6 12 (by decide) 3
  have w13 : dt4 14 3 = dt 14 3 := hF6 14 (by decide) 3
  have w14 : dt4 16 3 = dt 16 3 := hF6 16 (by decide) 3
  have w15 : dt4 18 0 = dt 18 0 := hF6 18 (by decide) 0
  have w16 : dt4 24 3 = dt 24 3 := hF6 24 (by decide) 3
  have w17 : dt4 27 3 = dt 27 3 := hF6 27 (by decide) 3
  have w18 : dt4 29 3 = dt 29 3 := hF6 29 (by decide) 3
  have w19 : dt4 31 3 = dt 31 3 := hF6 31 (by decide) 3
  have w20 : dt4 33 3 = dt 33 3 := hF6 33 (by decide) 3
  have w21 : dt4 0 2 = dt 0 2 := hF6 0 (by decide) 2
  have w22 : dt4 35 1 = dt 35 1 := hF6 35 (by decide) 1
  have w23 : dt4 35 2 = dt 35 2 := hF6 35 (by decide) 2
  have w24 : dt4 35 3 = dt 35 3 := hF6 35 (by decide) 3
  have w25 : dt4 80 0 = dt 80 0 := hF6 80 (by decide) 0
  have w26 : dt4 80 1 = dt 80 1 := hF6 80 (by decide) 1
  have w27 : dt4 80 2 = dt 80 2 := hF6 80 (by decide) 2
  have w28 : dt4 80 3 = dt 80 3 := hF6 80 (by decide) 3
  have w29 : dt4 80 4 = dt 80 4 := hF6 80 (by decide) 4
  have w30 : dt4 80 5 = dt 80 5 := hF6 80 (by decide) 5
  have w31 : dt4 81 0 = dt 81 0 := hF6 81 (by decide) 0
  have w32 : dt4 81 1 = dt 81 1 := hF6 81 (by decide) 1
  have w33 : dt4 81 2 = dt 81 2 := hF6 81 (by decide) 2
  have w34 : dt4 81 3 = dt 81 3 := hF6 81 (by decide) 3
  have w35 : dt4 81 4 = dt 81 4 := hF6 81 (by decide) 4
  have w36 : dt4 81 5 = dt 81 5 := hF6 81 (by decide) 5
  have w37 : dt4 79 2 = dt 79 2 := hF6 79 (by decide) 2
  have w38 : dt4 79 12 = dt 79 12 := hF6 79 (by decide) 12
  have w39 : dt4 79 19 = dt 79 19 := hF6 79 (by decide) 19
  have w40 : dt4 79 21 = dt 79 21 := hF6 79 (by decide) 21
  rcases h3 with ⟨v_h3, rfl, h3r, h3⟩
  have M241 : MW (dt4 81) := MW_frk hM2 hF6 (by decide)
  have C42 : ∀ j : Nat, dt4 36 j = dt 36 j := fun j => (hF6 36 (by decide) j).trans ((fun _ => rfl) j)
  have C43 : ∀ j : Nat, dt4 85 j = dt 85 j := fun j => (hF6 85 (by decide) j).trans ((fun _ => rfl) j)
  refine go_to (k := 2) (pc' := 1435) (L' := [some (.inr (.inr (some 3000))), some (.inr (.inr (some 0))), some (.inr (.inr (some 79))), some (.inl i)]) (st' := []) (w' := (SH, dt4)) (fun _ => rfl) ?_
  exact K dt4 hI5 hM8 M241 (by first | omega | (simp only [*]; done) | simp only [*]) (by omega) (by omega) (by omega) (by omega) (by omega) (by omega) (by omega) (by omega) (by omega) (by omega) (by omega) (by omega) (by omega) (by omega) (by omega) (by first | exact hI | exact TPL_k hd0 C42 C43 (by omega) | (exfalso; omega))
set_option maxRecDepth 20000 in
set_option maxHeartbeats 8000000 in
theorem sp_case25 (L : Nat) (xs : Nat → Int32) (sio : Option Nat) (d : Nat) (Q : Option AV → am_W → Prop) (hLL : L ≤ 3072) (i : Int) (hi : 0 ≤ i ∧ i ≤ 3066) (hil : i ≤ (L : Int) - 6) (dt : Nat → Nat → Int) (hI : InvC dt) (hM : MW (dt 80)) (hM2 : MW (dt 81)) (hk0 : dt 1 0 = dt 80 0) (hk1 : dt 7 3 = dt 80 1) (hk2 : dt 10 3 = dt 80 2) (hk3 : dt 12 3 = dt 80 3) (hk4 : dt 14 3 = dt 80 4) (hk5 : dt 16 3 = dt 80 5) (hk6 : dt 18 0 = dt 81 0) (hk7 : dt 24 3 = dt 81 1) (hk8 : dt 27 3 = dt 81 2) (hk9 : dt 29 3 = dt 81 3) (hk10 : dt 31 3 = dt 81 4) (hk11 : dt 33 3 = dt 81 5) (hk12 : dt 0 2 = dt 79 2) (hk13 : dt 35 1 = dt 79 12) (hk14 : dt 35 2 = dt 79 19) (hk15 : dt 35 3 = dt 79 21) (hd0 : TPL (dt 36) (dt 85) (dt 35 1)) (K : ∀ (dt : Nat → Nat → Int) (hI : InvC dt) (hM : MW (dt 80)) (hM2 : MW (dt 81)) (hk0 : dt 1 0 = dt 80 0) (hk1 : dt 7 3 = dt 80 1) (hk2 : dt 10 3 = dt 80 2) (hk3 : dt 12 3 = dt 80 3) (hk4 : dt 14 3 = dt 80 4) (hk5 : dt 16 3 = dt 80 5) (hk6 : dt 18 0 = dt 81 0) (hk7 : dt 24 3 = dt 81 1) (hk8 : dt 27 3 = dt 81 2) (hk9 : dt 29 3 = dt 81 3) (hk10 : dt 31 3 = dt 81 4) (hk11 : dt 33 3 = dt 81 5) (hk12 : dt 0 2 = dt 79 2) (hk13 : dt 35 1 = dt 79 12) (hk14 : dt 35 2 = dt 79 19) (hk15 : dt 35 3 = dt 79 21) (hd0 : TPL (dt 36) (dt 85) (dt 35 1)), GO (am_XX L xs sio) (d + 39) 267 1435 [some (.inr (.inr (some 3000))), some (.inr (.inr (some 0))), some (.inr (.inr (some 79))), some (.inl i)] [] (SH, dt) Q) : GO (am_XX L xs sio) (d + 39) 267 1165 [some (.inr (.inr (some 3000))), some (.inr (.inr (some 0))), some (.inr (.inr (some 79))), some (.inl i)] [] (SH, dt) Q := by
  have hF : Fr [0, 1, 2, 3, 4, 5, 6, 7, 8, 9, 10, 11, 12, 13, 14, 15, 16, 17, 18, 19, 20, 21, 22, 23, 24, 25, 26, 27, 28, 29, 30, 31, 32, 33, 34, 35, 36, 37, 38, 39, 40, 41, 42, 43, 44, 45, 46, 47, 48, 49, 50, 51, 52, 53, 54, 55, 56, 57, 58, 59, 60, 61, 62, 63, 64, 65, 66, 67, 68, 69, 70, 71, 72, 73, 74, 75, 76, 77, 78, 79, 80, 81, 82, 83, 84, 85, 86, 87, 88, 89, 90, 91, 92, 93, 94, 95, 96, 97, 98, 99, 100, 101, 102, 103, 104] dt dt := Fr_refl
  refine go_to (k := 5) (pc' := 1170) (L' := [some (.inr (.inr (some 3000))), some (.inr (.inr (some 0))), some (.inr (.inr (some 79))), some (.inl i)]) (st' := [.inl (i + 1), .inr (.inr (some 3000)), .inr (.inr (some 0))]) (w' := (SH, dt)) (fun _ => rfl) ?_
  have r1 := i32_R (xs ((i + 1).toNat))
  refine go_smp (L' := [some (.inr (.inr (some 3000))), some (.inr (.inr (some 0))), some (.inr (.inr (some 79))), some (.inl i)]) (st' := [.inl ((xs ((i + 1).toNat)).toInt), .inr (.inr (some 0))]) (w' := (SH, dt)) rfl rfl (s_iald (n := L) (f := fun j => (xs j).toInt) (am_scr hLL) ⟨by omega, by omega⟩) ?_
  refine go_to (k := 4) (pc' := 1175) (L' := [some (.inr (.inr (some 3000))), some (.inr (.inr (some 0))), some (.inr (.inr (some 79))), some (.inl i)]) (st' := [.inl (i + 2), .inr (.inr (some 3000)), .inl ((xs ((i + 1).toNat)).toInt), .inr (.inr (some 0))]) (w' := (SH, dt)) (fun _ => rfl) ?_
  have r2 := i32_R (xs ((i + 2).toNat))
  refine go_smp (L' := [some (.inr (.inr (some 3000))), some (.inr (.inr (some 0))), some (.inr (.inr (some 79))), some (.inl i)]) (st' := [.inl ((xs ((i + 2).toNat)).toInt), .inl ((xs ((i + 1).toNat)).toInt), .inr (.inr (some 0))]) (w' := (SH, dt)) rfl rfl (s_iald (n := L) (f := fun j => (xs j).toInt) (am_scr hLL) ⟨by omega, by omega⟩) ?_
  refine go_call (Q' := _) rfl rfl rfl rfl rfl (sp_X5_house L xs sio (d + 36) dt hI  ((xs ((i + 1).toNat)).toInt) ⟨by omega, by omega⟩ ((xs ((i + 2).toNat)).toInt) ⟨by omega, by omega⟩ ) ?_
  rintro _ _ ⟨dt4, rfl, hI5, hF6, h3⟩
  refine ⟨rfl, ?_⟩
  have hF7 : Fr [0, 1, 2, 3, 4, 5, 6, 7, 8, 9, 10, 11, 12, 13, 14, 15, 16, 17, 18, 19, 20, 21, 22, 23, 24, 25, 26, 27, 28, 29, 30, 31, 32, 33, 34, 35, 36, 37, 38, 39, 40, 41, 42, 43, 44, 45, 46, 47, 48, 49, 50, 51, 52, 53, 54, 55, 56, 57, 58, 59, 60, 61, 62, 63, 64, 65, 66, 67, 68, 69, 70, 71, 72, 73, 74, 75, 76, 77, 78, 79, 80, 81, 82, 83, 84, 85, 86, 87, 88, 89, 90, 91, 92, 93, 94, 95, 96, 97, 98, 99, 100, 101, 102, 103, 104] dt dt4 := Fr_tr hF hF6 (by decide)
  have hM8 : MW (dt4 80) := MW_fr hM hF6 (by decide)
  have w9 : dt4 1 0 = dt 1 0 := hF6 1 (by decide) 0
  have w10 : dt4 7 3 = dt 7 3 := hF6 7 (by decide) 3
  have w11 : dt4 10 3 = dt 10 3 := hF6 10 (by decide) 3
  have w12 : dt4 12 3 = dt 12 3 := hF6 12 (by decide) 3
  have w13 : dt4 14 3 = dt 14 3 := hF6 14 (by decide) 3
  have w14 : dt4 18 0 = dt 18 0 := hF6 18 (by decide) 0
  have w15 : dt4 24 3 = dt 24 3 := hF6 24 (by decide) 3
  have w16 : dt4 27 3 = dt 27 3 := hF6 27 (by decide) 3
  have w17 : dt4 29 3 = dt 29 3 := hF6 29 (by decide) 3
  have w18 : dt4 31 3 = dt 31 3 := hF6 31 (by decide) 3
  have w19 : dt4 33 3 = dt 33 3 := hF6 33 (by decide) 3
  have w20 : dt4 0 2 = dt 0 2 := hF6 0 (by decide) 2
  have w21 : dt4 35 1 = dt 35 1 := hF6 35 (by decide) 1
  have w22 : dt4 35 2 = dt 35 2 := hF6 35 (by decide) 2
  have w23 : dt4 35 3 = dt 35 3 := hF6 35 (by decide) 3
  have w24 : dt4 80 0 = dt 80 0 := hF6 80 (by decide) 0
  have w25 : dt4 80 1 = dt 80 1 := hF6 80 (by decide) 1
  have w26 : dt4 80 2 = dt 80 2 := hF6 80 (by decide) 2
  have w27 : dt4 80 3 = dt 80 3 := hF6 80 (by decide) 3
  have w28 : dt4 80 4 = dt 80 4 := hF6 80 (by decide) 4
  have w29 : dt4 80 5 = dt 80 5 := hF6 80 (by decide) 5
  have w30 : dt4 81 0 = dt 81 0 := hF6 81 (by decide) 0
  have w31 : dt4 81 1 = dt 81 1 := hF6 81 (by decide) 1
  have w32 : dt4 81 2 = dt 81 2 := hF6 81 (by decide) 2
  have w33 : dt4 81 3 = dt 81 3 := hF6 81 (by decide) 3
  have w34 : dt4 81 4 = dt 81 4 := hF6 81 (by decide) 4
  have w35 : dt4 81 5 = dt 81 5 := hF6 81 (by decide) 5
  have w36 : dt4 79 2 = dt 79 2 := hF6 79 (by decide) 2
  have w37 : dt4 79 12 = dt 79 12 := hF6 79 (by decide) 12
  have w38 : dt4 79 19 = dt 79 19 := hF6 79 (by decide) 19
  have w39 : dt4 79 21 = dt 79 21 := hF6 79 (by decide) 21
  rcases h3 with ⟨rfl, h3⟩ | ⟨v_h3, rfl, h3r, h3⟩
  · skip
    obtain ⟨h3_0, h3_1⟩ := h3
    have M240 : MW (dt4 81) := MW_frk hM2 hF6 (by decide)
    have C41 : ∀ j : Nat, dt4 36 j = dt 36 j := fun j => (hF6 36 (by decide) j).trans ((fun _ => rfl) j)
    have C42 : ∀ j : Nat, dt4 85 j = dt 85 j := fun j => (hF6 85 (by decide) j).trans ((fun _ => rfl) j)
    refine go_to (k := 6) (pc' := 1185) (L' := [some (.inr (.inr (some 3000))), some (.inr (.inr (some 0))), some (.inr (.inr (some 79))), some (.inl i)]) (st' := [.inl (i + 1), .inr (.inr (some 3000)), .inr (.inr (some 79))]) (w' := (SH, dt4)) (fun _ => rfl) ?_
    have r43 := i32_R (xs ((i + 1).toNat))
    refine go_smp (L' := [some (.inr (.inr (some 3000))), some (.inr (.inr (some 0))), some (.inr (.inr (some 79))), some (.inl i)]) (st' := [.inl ((xs ((i + 1).toNat)).toInt), .inr (.inr (some 79))]) (w' := (SH, dt4)) rfl rfl (s_iald (n := L) (f := fun j => (xs j).toInt) (am_scr hLL) ⟨by omega, by omega⟩) ?_
    refine go_to (k := 4) (pc' := 1190) (L' := [some (.inr (.inr (some 3000))), some (.inr (.inr (some 0))), some (.inr (.inr (some 79))), some (.inl i)]) (st' := [.inl (i + 2), .inr (.inr (some 3000)), .inl ((xs ((i + 1).toNat)).toInt), .inr (.inr (some 79))]) (w' := (SH, dt4)) (fun _ => rfl) ?_
    have r44 := i32_R (xs ((i + 2).toNat))
    refine go_smp (L' := [some (.inr (.inr (some 3000))), some (.inr (.inr (some 0))), some (.inr (.inr (some 79))), some (.inl i)]) (st' := [.inl ((xs ((i + 2).toNat)).toInt), .inl ((xs ((i + 1).toNat)).toInt), .inr (.inr (some 79))]) (w' := (SH, dt4)) rfl rfl (s_iald (n := L) (f := fun j => (xs j).toInt) (am_scr hLL) ⟨by omega, by omega⟩) ?_
    refine go_call (Q' := _) rfl rfl rfl rfl rfl (sp_X6_house L xs sio (d + 37) dt4 hI5 hM8  ((xs ((i + 1).toNat)).toInt) ⟨by omega, by omega⟩ ((xs ((i + 2).toNat)).toInt) ⟨by omega, by omega⟩ ) ?_
    rintro _ _ ⟨dt46, rfl, hI47, hF48, h45⟩
    refine ⟨rfl, ?_⟩
    have hF49 : Fr [0, 1, 2, 3, 4, 5, 6, 7, 8, 9, 10, 11, 12, 13, 14, 15, 16, 17, 18, 19, 20, 21, 22, 23, 24, 25, 26, 27, 28, 29, 30, 31, 32, 33, 34, 35, 36, 37, 38, 39, 40, 41, 42, 43, 44, 45, 46, 47, 48, 49, 50, 51, 52, 53, 54, 55, 56, 57, 58, 59, 60, 61, 62, 63, 64, 65, 66, 67, 68, 69, 70, 71, 72, 73, 74, 75, 76, 77, 78, 79, 80, 81, 82, 83, 84, 85, 86, 87, 88, 89, 90, 91, 92, 93, 94, 95, 96, 97, 98, 99, 100, 101, 102, 103, 104] dt dt46 := Fr_tr hF7 hF48 (by decide)
    have w50 : dt46 1 0 = dt4 1 0 := hF48 1 (by decide) 0
    have w51 : dt46 7 3 = dt4 7 3 := hF48 7 (by decide) 3
    have w52 : dt46 10 3 = dt4 10 3 := hF48 10 (by decide) 3
    have w53 : dt46 12 3 = dt4 12 3 := hF48 12 (by decide) 3
    have w54 : dt46 14 3 = dt4 14 3 := hF48 14 (by decide) 3
    have w55 : dt46 16 3 = dt4 16 3 := hF48 16 (by decide) 3
    have w56 : dt46 18 0 = dt4 18 0 := hF48 18 (by decide) 0
    have w57 : dt46 24 3 = dt4 24 3 := hF48 24 (by decide) 3
    have w58 : dt46 27 3 = dt4 27 3 := hF48 27 (by decide) 3
    have w59 : dt46 29 3 = dt4 29 3 := hF48 29 (by decide) 3
    have w60 : dt46 31 3 = dt4 31 3 := hF48 31 (by decide) 3
    have w61 : dt46 33 3 = dt4 33 3 := hF48 33 (by decide) 3
    have w62 : dt46 0 2 = dt4 0 2 := hF48 0 (by decide) 2
    have w63 : dt46 35 1 = dt4 35 1 := hF48 35 (by decide) 1
    have w64 : dt46 35 2 = dt4 35 2 := hF48 35 (by decide) 2
    have w65 : dt46 35 3 = dt4 35 3 := hF48 35 (by decide) 3
    have w66 : dt46 81 0 = dt4 81 0 := hF48 81 (by decide) 0
    have w67 : dt46 81 1 = dt4 81 1 := hF48 81 (by decide) 1
    have w68 : dt46 81 2 = dt4 81 2 := hF48 81 (by decide) 2
    have w69 : dt46 81 3 = dt4 81 3 := hF48 81 (by decide) 3
    have w70 : dt46 81 4 = dt4 81 4 := hF48 81 (by decide) 4
    have w71 : dt46 81 5 = dt4 81 5 := hF48 81 (by decide) 5
    have w72 : dt46 79 2 = dt4 79 2 := hF48 79 (by decide) 2
    have w73 : dt46 79 12 = dt4 79 12 := hF48 79 (by decide) 12
    have w74 : dt46 79 19 = dt4 79 19 := hF48 79 (by decide) 19
    have w75 : dt46 79 21 = dt4 79 21 := hF48 79 (by decide) 21
    rcases h45 with ⟨rfl, h45⟩ | ⟨v_h45, rfl, h45r, h45⟩
    · skip
      have hM76 : MW (dt46 80) := h45.2.1
      obtain ⟨h45_0, h45_1, h45_2, h45_3, h45_4, h45_5, h45_6, h45_7⟩ := h45
      have M277 : MW (dt46 81) := MW_frk M240 hF48 (by decide)
      have C78 : ∀ j : Nat, dt46 36 j = dt 36 j := fun j => (hF48 36 (by decide) j).trans (C41 j)
      have C79 : ∀ j : Nat, dt46 85 j = dt 85 j := fun j => (hF48 85 (by decide) j).trans (C42 j)
      refine go_to (k := 2) (pc' := 1435) (L' := [some (.inr (.inr (some 3000))), some (.inr (.inr (some 0))), some (.inr (.inr (some 79))), some (.inl i)]) (st' := []) (w' := (SH, dt46)) (fun _ => rfl) ?_
      exact K dt46 hI47 hM76 M277 (by first | omega | (simp only [*]; done) | simp only [*]) (by omega) (by omega) (by omega) (by omega) (by omega) (by omega) (by omega) (by omega) (by omega) (by omega) (by omega) (by omega) (by omega) (by omega) (by omega) (by first | exact hI | exact TPL_k hd0 C78 C79 (by omega) | (exfalso; omega))
    · skip
      have hM80 : MW (dt46 80) := h45.2.2.1
      obtain ⟨h45_0, h45_1, h45_2, h45_3, h45_4, h45_5, h45_6, h45_7, h45_8⟩ := h45
      have M281 : MW (dt46 81) := MW_frk M240 hF48 (by decide)
      have C82 : ∀ j : Nat, dt46 36 j = dt 36 j := fun j => (hF48 36 (by decide) j).trans (C41 j)
      have C83 : ∀ j : Nat, dt46 85 j = dt 85 j := fun j => (hF48 85 (by decide) j).trans (C42 j)
      refine go_to (k := 2) (pc' := 1435) (L' := [some (.inr (.inr (some 3000))), some (.inr (.inr (some 0))), some (.inr (.inr (some 79))), some (.inl i)]) (st' := []) (w' := (SH, dt46)) (fun _ => rfl) ?_
      exact K dt46 hI47 hM80 M281 (by first | omega | (simp only [*]; done) | simp only [*]) (by omega) (by omega) (by omega) (by omega) (by omega) (by omega) (by omega) (by omega) (by omega) (by omega) (by omega) (by omega) (by omega) (by omega) (by omega) (by first | exact hI | exact TPL_k hd0 C82 C83 (by omega) | (exfalso; omega))
  · skip
    obtain ⟨h3_0, h3_1, h3_2⟩ := h3
    have M284 : MW (dt4 81) := MW_frk hM2 hF6 (by decide)
    have C85 : ∀ j : Nat, dt4 36 j = dt 36 j := fun j => (hF6 36 (by decide) j).trans ((fun _ => rfl) j)
    have C86 : ∀ j : Nat, dt4 85 j = dt 85 j := fun j => (hF6 85 (by decide) j).trans ((fun _ => rfl) j)
    refine go_to (k := 6) (pc' := 1185) (L' := [some (.inr (.inr (some 3000))), some (.inr (.inr (some 0))), some (.inr (.inr (some 79))), some (.inl i)]) (st' := [.inl (i + 1), .inr (.inr (some 3000)), .inr (.inr (some 79))]) (w' := (SH, dt4)) (fun _ => rfl) ?_
    have r87 := i32_R (xs ((i + 1).toNat))
    refine go_smp (L' := [some (.inr (.inr (some 3000))), some (.inr (.inr (some 0))), some (.inr (.inr (some 79))), some (.inl i)]) (st' := [.inl ((xs ((i + 1).toNat)).toInt), .inr (.inr (some 79))]) (w' := (SH, dt4)) rfl rfl (s_iald (n := L) (f := fun j => (xs j).toInt) (am_scr hLL) ⟨by omega, by omega⟩) ?_
    refine go_to (k := 4) (pc' := 1190) (L' := [some (.inr (.inr (some 3000))), some (.inr (.inr (some 0))), some (.inr (.inr (some 79))), some (.inl i)]) (st' := [.inl (i + 2), .inr (.inr (some 3000)), .inl ((xs ((i + 1).toNat)).toInt), .inr (.inr (some 79))]) (w' := (SH, dt4)) (fun _ => rfl) ?_
    have r88 := i32_R (xs ((i + 2).toNat))
    refine go_smp (L' := [some (.inr (.inr (some 3000))), some (.inr (.inr (some 0))), some (.inr (.inr (some 79))), some (.inl i)]) (st' := [.inl ((xs ((i + 2).toNat)).toInt), .inl ((xs ((i + 1).toNat)).toInt), .inr (.inr (some 79))]) (w' := (SH, dt4)) rfl rfl (s_iald (n := L) (f := fun j => (xs j).toInt) (am_scr hLL) ⟨by omega, by omega⟩) ?_
    refine go_call (Q' := _) rfl rfl rfl rfl rfl (sp_X6_house L xs sio (d + 37) dt4 hI5 hM8  ((xs ((i + 1).toNat)).toInt) ⟨by omega, by omega⟩ ((xs ((i + 2).toNat)).toInt) ⟨by omega, by omega⟩ ) ?_
    rintro _ _ ⟨dt90, rfl, hI91, hF92, h89⟩
    refine ⟨rfl, ?_⟩
    have hF93 : Fr [0, 1, 2, 3, 4, 5, 6, 7, 8, 9, 10, 11, 12, 13, 14, 15, 16, 17, 18, 19, 20, 21, 22, 23, 24, 25, 26, 27, 28, 29, 30, 31, 32, 33, 34, 35, 36, 37, 38, 39, 40, 41, 42, 43, 44, 45, 46, 47, 48, 49, 50, 51, 52, 53, 54, 55, 56, 57, 58, 59, 60, 61, 62, 63, 64, 65, 66, 67, 68, 69, 70, 71, 72, 73, 74, 75, 76, 77, 78, 79, 80, 81, 82, 83, 84, 85, 86, 87, 88, 89, 90, 91, 92, 93, 94, 95, 96, 97, 98, 99, 100, 101, 102, 103, 104] dt dt90 := Fr_tr hF7 hF92 (by decide)
    have w94 : dt90 1 0 = dt4 1 0 := hF92 1 (by decide) 0
    have w95 : dt90 7 3 = dt4 7 3 := hF92 7 (by decide) 3
    have w96 : dt90 10 3 = dt4 10 3 := hF92 10 (by decide) 3
    have w97 : dt90 12 3 = dt4 12 3 := hF92 12 (by decide) 3
    have w98 : dt90 14 3 = dt4 14 3 := hF92 14 (by decide) 3
    have w99 : dt90 16 3 = dt4 16 3 := hF92 16 (by decide) 3
    have w100 : dt90 18 0 = dt4 18 0 := hF92 18 (by decide) 0
    have w101 : dt90 24 3 = dt4 24 3 := hF92 24 (by decide) 3
    have w102 : dt90 27 3 = dt4 27 3 := hF92 27 (by decide) 3
    have w103 : dt90 29 3 = dt4 29 3 := hF92 29 (by decide) 3
    have w104 : dt90 31 3 = dt4 31 3 := hF92 31 (by decide) 3
    have w105 : dt90 33 3 = dt4 33 3 := hF92 33 (by decide) 3
    have w106 : dt90 0 2 = dt4 0 2 := hF92 0 (by decide) 2
    have w107 : dt90 35 1 = dt4 35 1 := hF92 35 (by decide) 1
    have w108 : dt90 35 2 = dt4 35 2 := hF92 35 (by decide) 2
    have w109 : dt90 35 3 = dt4 35 3 := hF92 35 (by decide) 3
    have w110 : dt90 81 0 = dt4 81 0 := hF92 81 (by decide) 0
    have w111 : dt90 81 1 = dt4 81 1 := hF92 81 (by decide) 1
    have w112 : dt90 81 2 = dt4 81 2 := hF92 81 (by decide) 2
    have w113 : dt90 81 3 = dt4 81 3 := hF92 81 (by decide) 3
    have w114 : dt90 81 4 = dt4 81 4 := hF92 81 (by decide) 4
    have w115 : dt90 81 5 = dt4 81 5 := hF92 81 (by decide) 5
    have w116 : dt90 79 2 = dt4 79 2 := hF92 79 (by decide) 2
    have w117 : dt90 79 12 = dt4 79 12 := hF92 79 (by decide) 12
    have w118 : dt90 79 19 = dt4 79 19 := hF92 79 (by decide) 19
    have w119 : dt90 79 21 = dt4 79 21 := hF92 79 (by decide) 21
    rcases h89 with ⟨rfl, h89⟩ | ⟨v_h89, rfl, h89r, h89⟩
    · skip
      have hM120 : MW (dt90 80) := h89.2.1
      obtain ⟨h89_0, h89_1, h89_2, h89_3, h89_4, h89_5, h89_6, h89_7⟩ := h89
      have M2121 : MW (dt90 81) := MW_frk M284 hF92 (by decide)
      have C122 : ∀ j : Nat, dt90 36 j = dt 36 j := fun j => (hF92 36 (by decide) j).trans (C85 j)
      have C123 : ∀ j : Nat, dt90 85 j = dt 85 j := fun j => (hF92 85 (by decide) j).trans (C86 j)
      refine go_to (k := 2) (pc' := 1435) (L' := [some (.inr (.inr (some 3000))), some (.inr (.inr (some 0))), some (.inr (.inr (some 79))), some (.inl i)]) (st' := []) (w' := (SH, dt90)) (fun _ => rfl) ?_
      exact K dt90 hI91 hM120 M2121 (by first | omega | (simp only [*]; done) | simp only [*]) (by omega) (by omega) (by omega) (by omega) (by omega) (by omega) (by omega) (by omega) (by omega) (by omega) (by omega) (by omega) (by omega) (by omega) (by omega) (by first | exact hI | exact TPL_k hd0 C122 C123 (by omega) | (exfalso; omega))
    · skip
      have hM124 : MW (dt90 80) := h89.2.2.1
      obtain ⟨h89_0, h89_1, h89_2, h89_3, h89_4, h89_5, h89_6, h89_7, h89_8⟩ := h89
      have M2125 : MW (dt90 81) := MW_frk M284 hF92 (by decide)
      have C126 : ∀ j : Nat, dt90 36 j = dt 36 j := fun j => (hF92 36 (by decide) j).trans (C85 j)
      have C127 : ∀ j : Nat, dt90 85 j = dt 85 j := fun j => (hF92 85 (by decide) j).trans (C86 j)
      refine go_to (k := 2) (pc' := 1435) (L' := [some (.inr (.inr (some 3000))), some (.inr (.inr (some 0))), some (.inr (.inr (some 79))), some (.inl i)]) (st' := []) (w' := (SH, dt90)) (fun _ => rfl) ?_
      exact K dt90 hI91 hM124 M2125 (by first | omega | (simp only [*]; done) | simp only [*]) (by omega) (by omega) (by omega) (by omega) (by omega) (by omega) (by omega) (by omega) (by omega) (by omega) (by omega) (by omega) (by omega) (by omega) (by omega) (by first | exact hI | exact TPL_k hd0 C126 C127 (by omega) | (exfalso; omega))
set_option maxRecDepth 20000 in
set_option maxHeartbeats 8000000 in
theorem sp_case26 (L : Nat) (xs : Nat → Int32) (sio : Option Nat) (d : Nat) (Q : Option AV → am_W → Prop) (hLL : L ≤ 3072) (i : Int) (hi : 0 ≤ i ∧ i ≤ 3066) (hil : i ≤ (L : Int) - 6) (dt : Nat → Nat → Int) (hI : InvC dt) (hM : MW (dt 80)) (hM2 : MW (dt 81)) (hk0 : dt 1 0 = dt 80 0) (hk1 : dt 7 3 = dt 80 1) (hk2 : dt 10 3 = dt 80 2) (hk3 : dt 12 3 = dt 80 3) (hk4 : dt 14 3 = dt 80 4) (hk5 : dt 16 3 = dt 80 5) (hk6 : dt 18 0 = dt 81 0) (hk7 : dt 24 3 = dt 81 1) (hk8 : dt 27 3 = dt 81 2) (hk9 : dt 29 3 = dt 81 3) (hk10 : dt 31 3 = dt 81 4) (hk11 : dt 33 3 = dt 81 5) (hk12 : dt 0 2 = dt 79 2) (hk13 : dt 35 1 = dt 79 12) (hk14 : dt 35 2 = dt 79 19) (hk15 : dt 35 3 = dt 79 21) (hd0 : TPL (dt 36) (dt 85) (dt 35 1)) (K : ∀ (dt : Nat → Nat → Int) (hI : InvC dt) (hM : MW (dt 80)) (hM2 : MW (dt 81)) (hk0 : dt 1 0 = dt 80 0) (hk1 : dt 7 3 = dt 80 1) (hk2 : dt 10 3 = dt 80 2) (hk3 : dt 12 3 = dt 80 3) (hk4 : dt 14 3 = dt 80 4) (hk5 : dt 16 3 = dt 80 5) (hk6 : dt 18 0 = dt 81 0) (hk7 : dt 24 3 = dt 81 1) (hk8 : dt 27 3 = dt 81 2) (hk9 : dt 29 3 = dt 81 3) (hk10 : dt 31 3 = dt 81 4) (hk11 : dt 33 3 = dt 81 5) (hk12 : dt 0 2 = dt 79 2) (hk13 : dt 35 1 = dt 79 12) (hk14 : dt 35 2 = dt 79 19) (hk15 : dt 35 3 = dt 79 21) (hd0 : TPL (dt 36) (dt 85) (dt 35 1)), GO (am_XX L xs sio) (d + 39) 267 1435 [some (.inr (.inr (some 3000))), some (.inr (.inr (some 0))), some (.inr (.inr (some 79))), some (.inl i)] [] (SH, dt) Q) : GO (am_XX L xs sio) (d + 39) 267 1198 [some (.inr (.inr (some 3000))), some (.inr (.inr (some 0))), some (.inr (.inr (some 79))), some (.inl i)] [] (SH, dt) Q := by
  have hF : Fr [0, 1, 2, 3, 4, 5, 6, 7, 8, 9, 10, 11, 12, 13, 14, 15, 16, 17, 18, 19, 20, 21, 22, 23, 24, 25, 26, 27, 28, 29, 30, 31, 32, 33, 34, 35, 36, 37, 38, 39, 40, 41, 42, 43, 44, 45, 46, 47, 48, 49, 50, 51, 52, 53, 54, 55, 56, 57, 58, 59, 60, 61, 62, 63, 64, 65, 66, 67, 68, 69, 70, 71, 72, 73, 74, 75, 76, 77, 78, 79, 80, 81, 82, 83, 84, 85, 86, 87, 88, 89, 90, 91, 92, 93, 94, 95, 96, 97, 98, 99, 100, 101, 102, 103, 104] dt dt := Fr_refl
  refine go_to (k := 5) (pc' := 1203) (L' := [some (.inr (.inr (some 3000))), some (.inr (.inr (some 0))), some (.inr (.inr (some 79))), some (.inl i)]) (st' := [.inl (i + 1), .inr (.inr (some 3000)), .inr (.inr (some 0))]) (w' := (SH, dt)) (fun _ => rfl) ?_
  have r1 := i32_R (xs ((i + 1).toNat))
  refine go_smp (L' := [some (.inr (.inr (some 3000))), some (.inr (.inr (some 0))), some (.inr (.inr (some 79))), some (.inl i)]) (st' := [.inl ((xs ((i + 1).toNat)).toInt), .inr (.inr (some 0))]) (w' := (SH, dt)) rfl rfl (s_iald (n := L) (f := fun j => (xs j).toInt) (am_scr hLL) ⟨by omega, by omega⟩) ?_
  refine go_call (Q' := _) rfl rfl rfl rfl rfl (sp_X5_houses L xs sio (d + 34) dt hI  ((xs ((i + 1).toNat)).toInt) ⟨by omega, by omega⟩ ) ?_
  rintro _ _ ⟨rfl, h2⟩
  refine ⟨rfl, ?_⟩
  rcases h2 with ⟨v_h2, rfl, h2r, h2⟩
  refine go_to (k := 6) (pc' := 1213) (L' := [some (.inr (.inr (some 3000))), some (.inr (.inr (some 0))), some (.inr (.inr (some 79))), some (.inl i)]) (st' := [.inl (i + 1), .inr (.inr (some 3000)), .inr (.inr (some 79))]) (w' := (SH, dt)) (fun _ => rfl) ?_
  refine go_smp (L' := [some (.inr (.inr (some 3000))), some (.inr (.inr (some 0))), some (.inr (.inr (some 79))), some (.inl i)]) (st' := [.inl ((xs ((i + 1).toNat)).toInt), .inr (.inr (some 79))]) (w' := (SH, dt)) rfl rfl (s_iald (n := L) (f := fun j => (xs j).toInt) (am_scr hLL) ⟨by omega, by omega⟩) ?_
  refine go_call (Q' := _) rfl rfl rfl rfl rfl (sp_X6_houses L xs sio (d + 37) dt hI hM  ((xs ((i + 1).toNat)).toInt) ⟨by omega, by omega⟩ ) ?_
  rintro _ _ ⟨rfl, h3⟩
  refine ⟨rfl, ?_⟩
  rcases h3 with ⟨v_h3, rfl, h3r, h3⟩
  refine go_to (k := 2) (pc' := 1435) (L' := [some (.inr (.inr (some 3000))), some (.inr (.inr (some 0))), some (.inr (.inr (some 79))), some (.inl i)]) (st' := []) (w' := (SH, dt)) (fun _ => rfl) ?_
  exact K dt hI hM hM2 (by first | omega | (simp only [*]; done) | simp only [*]) (by omega) (by omega) (by omega) (by omega) (by omega) (by omega) (by omega) (by omega) (by omega) (by omega) (by omega) (by omega) (by omega) (by omega) (by omega) (by first | exact hI | exact TPL_k hd0 (fun _ => rfl) (fun _ => rfl) (by omega) | (exfalso; omega))
set_option maxRecDepth 20000 in
set_option maxHeartbeats 8000000 in
theorem sp_case27 (L : Nat) (xs : Nat → Int32) (sio : Option Nat) (d : Nat) (Q : Option AV → am_W → Prop) (hLL : L ≤ 3072) (i : Int) (hi : 0 ≤ i ∧ i ≤ 3066) (hil : i ≤ (L : Int) - 6) (dt : Nat → Nat → Int) (hI : InvC dt) (hM : MW (dt 80)) (hM2 : MW (dt 81)) (hk0 : dt 1 0 = dt 80 0) (hk1 : dt 7 3 = dt 80 1) (hk2 : dt 10 3 = dt 80 2) (hk3 : dt 12 3 = dt 80 3) (hk4 : dt 14 3 = dt 80 4) (hk5 : dt 16 3 = dt 80 5) (hk6 : dt 18 0 = dt 81 0) (hk7 : dt 24 3 = dt 81 1) (hk8 : dt 27 3 = dt 81 2) (hk9 : dt 29 3 = dt 81 3) (hk10 : dt 31 3 = dt 81 4) (hk11 : dt 33 3 = dt 81 5) (hk12 : dt 0 2 = dt 79 2) (hk13 : dt 35 1 = dt 79 12) (hk14 : dt 35 2 = dt 79 19) (hk15 : dt 35 3 = dt 79 21) (hd0 : TPL (dt 36) (dt 85) (dt 35 1)) (K : ∀ (dt : Nat → Nat → Int) (hI : InvC dt) (hM : MW (dt 80)) (hM2 : MW (dt 81)) (hk0 : dt 1 0 = dt 80 0) (hk1 : dt 7 3 = dt 80 1) (hk2 : dt 10 3 = dt 80 2) (hk3 : dt 12 3 = dt 80 3) (hk4 : dt 14 3 = dt 80 4) (hk5 : dt 16 3 = dt 80 5) (hk6 : dt 18 0 = dt 81 0) (hk7 : dt 24 3 = dt 81 1) (hk8 : dt 27 3 = dt 81 2) (hk9 : dt 29 3 = dt 81 3) (hk10 : dt 31 3 = dt 81 4) (hk11 : dt 33 3 = dt 81 5) (hk12 : dt 0 2 = dt 79 2) (hk13 : dt 35 1 = dt 79 12) (hk14 : dt 35 2 = dt 79 19) (hk15 : dt 35 3 = dt 79 21) (hd0 : TPL (dt 36) (dt 85) (dt 35 1)), GO (am_XX L xs sio) (d + 39) 267 1435 [some (.inr (.inr (some 3000))), some (.inr (.inr (some 0))), some (.inr (.inr (some 79))), some (.inl i)] [] (SH, dt) Q) : GO (am_XX L xs sio) (d + 39) 267 1221 [some (.inr (.inr (some 3000))), some (.inr (.inr (some 0))), some (.inr (.inr (some 79))), some (.inl i)] [] (SH, dt) Q := by
  have hF : Fr [0, 1, 2, 3, 4, 5, 6, 7, 8, 9, 10, 11, 12, 13, 14, 15, 16, 17, 18, 19, 20, 21, 22, 23, 24, 25, 26, 27, 28, 29, 30, 31, 32, 33, 34, 35, 36, 37, 38, 39, 40, 41, 42, 43, 44, 45, 46, 47, 48, 49, 50, 51, 52, 53, 54, 55, 56, 57, 58, 59, 60, 61, 62, 63, 64, 65, 66, 67, 68, 69, 70, 71, 72, 73, 74, 75, 76, 77, 78, 79, 80, 81, 82, 83, 84, 85, 86, 87, 88, 89, 90, 91, 92, 93, 94, 95, 96, 97, 98, 99, 100, 101, 102, 103, 104] dt dt := Fr_refl
  refine go_to (k := 5) (pc' := 1226) (L' := [some (.inr (.inr (some 3000))), some (.inr (.inr (some 0))), some (.inr (.inr (some 79))), some (.inl i)]) (st' := [.inl (i + 1), .inr (.inr (some 3000)), .inr (.inr (some 0))]) (w' := (SH, dt)) (fun _ => rfl) ?_
  have r1 := i32_R (xs ((i + 1).toNat))
  refine go_smp (L' := [some (.inr (.inr (some 3000))), some (.inr (.inr (some 0))), some (.inr (.inr (some 79))), some (.inl i)]) (st' := [.inl ((xs ((i + 1).toNat)).toInt), .inr (.inr (some 0))]) (w' := (SH, dt)) rfl rfl (s_iald (n := L) (f := fun j => (xs j).toInt) (am_scr hLL) ⟨by omega, by omega⟩) ?_
  refine go_to (k := 4) (pc' := 1231) (L' := [some (.inr (.inr (some 3000))), some (.inr (.inr (some 0))), some (.inr (.inr (some 79))), some (.inl i)]) (st' := [.inl (i + 2), .inr (.inr (some 3000)), .inl ((xs ((i + 1).toNat)).toInt), .inr (.inr (some 0))]) (w' := (SH, dt)) (fun _ => rfl) ?_
  have r2 := i32_R (xs ((i + 2).toNat))
  refine go_smp (L' := [some (.inr (.inr (some 3000))), some (.inr (.inr (some 0))), some (.inr (.inr (some 79))), some (.inl i)]) (st' := [.inl ((xs ((i + 2).toNat)).toInt), .inl ((xs ((i + 1).toNat)).toInt), .inr (.inr (some 0))]) (w' := (SH, dt)) rfl rfl (s_iald (n := L) (f := fun j => (xs j).toInt) (am_scr hLL) ⟨by omega, by omega⟩) ?_
  refine go_call (Q' := _) rfl rfl rfl rfl rfl (sp_X5_sorts L xs sio (d + 33) dt hI  ((xs ((i + 1).toNat)).toInt) ⟨by omega, by omega⟩ ((xs ((i + 2).toNat)).toInt) ⟨by omega, by omega⟩ ) ?_
  rintro _ _ ⟨dt4, rfl, hI5, hF6, h3⟩
  refine ⟨rfl, ?_⟩
  have hF7 : Fr [0, 1, 2, 3, 4, 5, 6, 7, 8, 9, 10, 11, 12, 13, 14, 15, 16, 17, 18, 19, 20, 21, 22, 23, 24, 25, 26, 27, 28, 29, 30, 31, 32, 33, 34, 35, 36, 37, 38, 39, 40, 41, 42, 43, 44, 45, 46, 47, 48, 49, 50, 51, 52, 53, 54, 55, 56, 57, 58, 59, 60, 61, 62, 63, 64, 65, 66, 67, 68, 69, 70, 71, 72, 73, 74, 75, 76, 77, 78, 79, 80, 81, 82, 83, 84, 85, 86, 87, 88, 89, 90, 91, 92, 93, 94, 95, 96, 97, 98, 99, 100, 101, 102, 103, 104] dt dt4 := Fr_tr hF hF6 (by decide)
  have hM8 : MW (dt4 80) := MW_fr hM hF6 (by decide)
  have w9 : dt4 1 0 = dt 1 0 := hF6 1 (by decide) 0
  have w10 : dt4 7 3 = dt 7 3 := hF6 7 (by decide) 3
  have w11 : dt4 10 3 = dt 10 3 := hF6 10 (by decide) 3
  have w12 : dt4 12 3 = dt 12 3 := hF6 12 (by decide) 3
  have w13 : dt4 14 3 = dt 14 3 := hF6 14 (by decide) 3
  have w14 : dt4 16 3 = dt 16 3 := hF6 16 (by decide) 3
  have w15 : dt4 18 0 = dt 18 0 := hF6 18 (by decide) 0
  have w16 : dt4 24 3 = dt 24 3 := hF6 24 (by decide) 3
  have w17 : dt4 27 3 = dt 27 3 := hF6 27 (by decide) 3
  have w18 : dt4 29 3 = dt 29 3 := hF6 29 (by decide) 3
  have w19 : dt4 31 3 = dt 31 3 := hF6 31 (by decide) 3
  have w20 : dt4 33 3 = dt 33 3 := hF6 33 (by decide) 3
  have w21 : dt4 0 2 = dt 0 2 := hF6 0 (by decide) 2
  have w22 : dt4 35 1 = dt 35 1 := hF6 35 (by decide) 1
  have w23 : dt4 35 2 = dt 35 2 := hF6 35 (by decide) 2
  have w24 : dt4 35 3 = dt 35 3 := hF6 35 (by decide) 3
  have w25 : dt4 80 0 = dt 80 0 := hF6 80 (by decide) 0
  have w26 : dt4 80 1 = dt 80 1 := hF6 80 (by decide) 1
  have w27 : dt4 80 2 = dt 80 2 := hF6 80 (by decide) 2
  have w28 : dt4 80 3 = dt 80 3 := hF6 80 (by decide) 3
  have w29 : dt4 80 4 = dt 80 4 := hF6 80 (by decide) 4
  have w30 : dt4 80 5 = dt 80 5 := hF6 80 (by decide) 5
  have w31 : dt4 81 0 = dt 81 0 := hF6 81 (by decide) 0
  have w32 : dt4 81 1 = dt 81 1 := hF6 81 (by decide) 1
  have w33 : dt4 81 2 = dt 81 2 := hF6 81 (by decide) 2
  have w34 : dt4 81 3 = dt 81 3 := hF6 81 (by decide) 3
  have w35 : dt4 81 4 = dt 81 4 := hF6 81 (by decide) 4
  have w36 : dt4 81 5 = dt 81 5 := hF6 81 (by decide) 5
  have w37 : dt4 79 2 = dt 79 2 := hF6 79 (by decide) 2
  have w38 : dt4 79 12 = dt 79 12 := hF6 79 (by decide) 12
  have w39 : dt4 79 19 = dt 79 19 := hF6 79 (by decide) 19
  have w40 : dt4 79 21 = dt 79 21 := hF6 79 (by decide) 21
  rcases h3 with ⟨v_h3, rfl, h3r, h3⟩
  have M241 : MW (dt4 81) := MW_frk hM2 hF6 (by decide)
  have C42 : ∀ j : Nat, dt4 36 j = dt 36 j := fun j => (hF6 36 (by decide) j).trans ((fun _ => rfl) j)
  have C43 : ∀ j : Nat, dt4 85 j = dt 85 j := fun j => (hF6 85 (by decide) j).trans ((fun _ => rfl) j)
  refine go_to (k := 6) (pc' := 1241) (L' := [some (.inr (.inr (some 3000))), some (.inr (.inr (some 0))), some (.inr (.inr (some 79))), some (.inl i)]) (st' := [.inl (i + 1), .inr (.inr (some 3000)), .inr (.inr (some 79))]) (w' := (SH, dt4)) (fun _ => rfl) ?_
  have r44 := i32_R (xs ((i + 1).toNat))
  refine go_smp (L' := [some (.inr (.inr (some 3000))), some (.inr (.inr (some 0))), some (.inr (.inr (some 79))), some (.inl i)]) (st' := [.inl ((xs ((i + 1).toNat)).toInt), .inr (.inr (some 79))]) (w' := (SH, dt4)) rfl rfl (s_iald (n := L) (f := fun j => (xs j).toInt) (am_scr hLL) ⟨by omega, by omega⟩) ?_
  refine go_to (k := 4) (pc' := 1246) (L' := [some (.inr (.inr (some 3000))), some (.inr (.inr (some 0))), some (.inr (.inr (some 79))), some (.inl i)]) (st' := [.inl (i + 2), .inr (.inr (some 3000)), .inl ((xs ((i + 1).toNat)).toInt), .inr (.inr (some 79))]) (w' := (SH, dt4)) (fun _ => rfl) ?_
  have r45 := i32_R (xs ((i + 2).toNat))
  refine go_smp (L' := [some (.inr (.inr (some 3000))), some (.inr (.inr (some 0))), some (.inr (.inr (some 79))), some (.inl i)]) (st' := [.inl ((xs ((i + 2).toNat)).toInt), .inl ((xs ((i + 1).toNat)).toInt), .inr (.inr (some 79))]) (w' := (SH, dt4)) rfl rfl (s_iald (n := L) (f := fun j => (xs j).toInt) (am_scr hLL) ⟨by omega, by omega⟩) ?_
  refine go_call (Q' := _) rfl rfl rfl rfl rfl (sp_X6_sorts L xs sio (d + 31) dt4 hI5 hM8  ((xs ((i + 1).toNat)).toInt) ⟨by omega, by omega⟩ ((xs ((i + 2).toNat)).toInt) ⟨by omega, by omega⟩ ) ?_
  rintro _ _ ⟨dt47, rfl, hI48, hF49, h46⟩
  refine ⟨rfl, ?_⟩
  have hF50 : Fr [0, 1, 2, 3, 4, 5, 6, 7, 8, 9, 10, 11, 12, 13, 14, 15, 16, 17, 18, 19, 20, 21, 22, 23, 24, 25, 26, 27, 28, 29, 30, 31, 32, 33, 34, 35, 36, 37, 38, 39, 40, 41, 42, 43, 44, 45, 46, 47, 48, 49, 50, 51, 52, 53, 54, 55, 56, 57, 58, 59, 60, 61, 62, 63, 64, 65, 66, 67, 68, 69, 70, 71, 72, 73, 74, 75, 76, 77, 78, 79, 80, 81, 82, 83, 84, 85, 86, 87, 88, 89, 90, 91, 92, 93, 94, 95, 96, 97, 98, 99, 100, 101, 102, 103, 104] dt dt47 := Fr_tr hF7 hF49 (by decide)
  have hM51 : MW (dt47 80) := MW_fr hM8 hF49 (by decide)
  have w52 : dt47 1 0 = dt4 1 0 := hF49 1 (by decide) 0
  have w53 : dt47 7 3 = dt4 7 3 := hF49 7 (by decide) 3
  have w54 : dt47 10 3 = dt4 10 3 := hF49 10 (by decide) 3
  have w55 : dt47 12 3 = dt4 12 3 := hF49 12 (by decide) 3
  have w56 : dt47 14 3 = dt4 14 3 := hF49 14 (by decide) 3
  have w57 : dt47 16 3 = dt4 16 3 := hF49 16 (by decide) 3
  have w58 : dt47 18 0 = dt4 18 0 := hF49 18 (by decide) 0
  have w59 : dt47 24 3 = dt4 24 3 := hF49 24 (by decide) 3
  have w60 : dt47 27 3 = dt4 27 3 := hF49 27 (by decide) 3
  have w61 : dt47 29 3 = dt4 29 3 := hF49 29 (by decide) 3
  have w62 : dt47 31 3 = dt4 31 3 := hF49 31 (by decide) 3
  have w63 : dt47 33 3 = dt4 33 3 := hF49 33 (by decide) 3
  have w64 : dt47 0 2 = dt4 0 2 := hF49 0 (by decide) 2
  have w65 : dt47 35 1 = dt4 35 1 := hF49 35 (by decide) 1
  have w66 : dt47 35 2 = dt4 35 2 := hF49 35 (by decide) 2
  have w67 : dt47 35 3 = dt4 35 3 := hF49 35 (by decide) 3
  have w68 : dt47 80 0 = dt4 80 0 := hF49 80 (by decide) 0
  have w69 : dt47 80 1 = dt4 80 1 := hF49 80 (by decide) 1
  have w70 : dt47 80 2 = dt4 80 2 := hF49 80 (by decide) 2
  have w71 : dt47 80 3 = dt4 80 3 := hF49 80 (by decide) 3
  have w72 : dt47 80 4 = dt4 80 4 := hF49 80 (by decide) 4
  have w73 : dt47 80 5 = dt4 80 5 := hF49 80 (by decide) 5
  have w74 : dt47 81 0 = dt4 81 0 := hF49 81 (by decide) 0
  have w75 : dt47 81 1 = dt4 81 1 := hF49 81 (by decide) 1
  have w76 : dt47 81 2 = dt4 81 2 := hF49 81 (by decide) 2
  have w77 : dt47 81 3 = dt4 81 3 := hF49 81 (by decide) 3
  have w78 : dt47 81 4 = dt4 81 4 := hF49 81 (by decide) 4
  have w79 : dt47 81 5 = dt4 81 5 := hF49 81 (by decide) 5
  have w80 : dt47 79 2 = dt4 79 2 := hF49 79 (by decide) 2
  have w81 : dt47 79 12 = dt4 79 12 := hF49 79 (by decide) 12
  have w82 : dt47 79 19 = dt4 79 19 := hF49 79 (by decide) 19
  have w83 : dt47 79 21 = dt4 79 21 := hF49 79 (by decide) 21
  rcases h46 with ⟨v_h46, rfl, h46r, h46⟩
  have M284 : MW (dt47 81) := MW_frk M241 hF49 (by decide)
  have C85 : ∀ j : Nat, dt47 36 j = dt 36 j := fun j => (hF49 36 (by decide) j).trans (C42 j)
  have C86 : ∀ j : Nat, dt47 85 j = dt 85 j := fun j => (hF49 85 (by decide) j).trans (C43 j)
  refine go_to (k := 2) (pc' := 1435) (L' := [some (.inr (.inr (some 3000))), some (.inr (.inr (some 0))), some (.inr (.inr (some 79))), some (.inl i)]) (st' := []) (w' := (SH, dt47)) (fun _ => rfl) ?_
  exact K dt47 hI48 hM51 M284 (by first | omega | (simp only [*]; done) | simp only [*]) (by omega) (by omega) (by omega) (by omega) (by omega) (by omega) (by omega) (by omega) (by omega) (by omega) (by omega) (by omega) (by omega) (by omega) (by omega) (by first | exact hI | exact TPL_k hd0 C85 C86 (by omega) | (exfalso; omega))
set_option maxRecDepth 20000 in
set_option maxHeartbeats 8000000 in
theorem sp_case28 (L : Nat) (xs : Nat → Int32) (sio : Option Nat) (d : Nat) (Q : Option AV → am_W → Prop) (hLL : L ≤ 3072) (i : Int) (hi : 0 ≤ i ∧ i ≤ 3066) (hil : i ≤ (L : Int) - 6) (dt : Nat → Nat → Int) (hI : InvC dt) (hM : MW (dt 80)) (hM2 : MW (dt 81)) (hk0 : dt 1 0 = dt 80 0) (hk1 : dt 7 3 = dt 80 1) (hk2 : dt 10 3 = dt 80 2) (hk3 : dt 12 3 = dt 80 3) (hk4 : dt 14 3 = dt 80 4) (hk5 : dt 16 3 = dt 80 5) (hk6 : dt 18 0 = dt 81 0) (hk7 : dt 24 3 = dt 81 1) (hk8 : dt 27 3 = dt 81 2) (hk9 : dt 29 3 = dt 81 3) (hk10 : dt 31 3 = dt 81 4) (hk11 : dt 33 3 = dt 81 5) (hk12 : dt 0 2 = dt 79 2) (hk13 : dt 35 1 = dt 79 12) (hk14 : dt 35 2 = dt 79 19) (hk15 : dt 35 3 = dt 79 21) (hd0 : TPL (dt 36) (dt 85) (dt 35 1)) (K : ∀ (dt : Nat → Nat → Int) (hI : InvC dt) (hM : MW (dt 80)) (hM2 : MW (dt 81)) (hk0 : dt 1 0 = dt 80 0) (hk1 : dt 7 3 = dt 80 1) (hk2 : dt 10 3 = dt 80 2) (hk3 : dt 12 3 = dt 80 3) (hk4 : dt 14 3 = dt 80 4) (hk5 : dt 16 3 = dt 80 5) (hk6 : dt 18 0 = dt 81 0) (hk7 : dt 24 3 = dt 81 1) (hk8 : dt 27 3 = dt 81 2) (hk9 : dt 29 3 = dt 81 3) (hk10 : dt 31 3 = dt 81 4) (hk11 : dt 33 3 = dt 81 5) (hk12 : dt 0 2 = dt 79 2) (hk13 : dt 35 1 = dt 79 12) (hk14 : dt 35 2 = dt 79 19) (hk15 : dt 35 3 = dt 79 21) (hd0 : TPL (dt 36) (dt 85) (dt 35 1)), GO (am_XX L xs sio) (d + 39) 267 1435 [some (.inr (.inr (some 3000))), some (.inr (.inr (some 0))), some (.inr (.inr (some 79))), some (.inl i)] [] (SH, dt) Q) : GO (am_XX L xs sio) (d + 39) 267 1254 [some (.inr (.inr (some 3000))), some (.inr (.inr (some 0))), some (.inr (.inr (some 79))), some (.inl i)] [] (SH, dt) Q := by
  have hF : Fr [0, 1, 2, 3, 4, 5, 6, 7, 8, 9, 10, 11, 12, 13, 14, 15, 16, 17, 18, 19, 20, 21, 22, 23, 24, 25, 26, 27, 28, 29, 30, 31, 32, 33, 34, 35, 36, 37, 38, 39, 40, 41, 42, 43, 44, 45, 46, 47, 48, 49, 50, 51, 52, 53, 54, 55, 56, 57, 58, 59, 60, 61, 62, 63, 64, 65, 66, 67, 68, 69, 70, 71, 72, 73, 74, 75, 76, 77, 78, 79, 80, 81, 82, 83, 84, 85, 86, 87, 88, 89, 90, 91, 92, 93, 94, 95, 96, 97, 98, 99, 100, 101, 102, 103, 104] dt dt := Fr_refl
  refine go_to (k := 5) (pc' := 1259) (L' := [some (.inr (.inr (some 3000))), some (.inr (.inr (some 0))), some (.inr (.inr (some 79))), some (.inl i)]) (st' := [.inl (i + 1), .inr (.inr (some 3000)), .inr (.inr (some 0))]) (w' := (SH, dt)) (fun _ => rfl) ?_
  have r1 := i32_R (xs ((i + 1).toNat))
  refine go_smp (L' := [some (.inr (.inr (some 3000))), some (.inr (.inr (some 0))), some (.inr (.inr (some 79))), some (.inl i)]) (st' := [.inl ((xs ((i + 1).toNat)).toInt), .inr (.inr (some 0))]) (w' := (SH, dt)) rfl rfl (s_iald (n := L) (f := fun j => (xs j).toInt) (am_scr hLL) ⟨by omega, by omega⟩) ?_
  refine go_to (k := 4) (pc' := 1264) (L' := [some (.inr (.inr (some 3000))), some (.inr (.inr (some 0))), some (.inr (.inr (some 79))), some (.inl i)]) (st' := [.inl (i + 2), .inr (.inr (some 3000)), .inl ((xs ((i + 1).toNat)).toInt), .inr (.inr (some 0))]) (w' := (SH, dt)) (fun _ => rfl) ?_
  have r2 := i32_R (xs ((i + 2).toNat))
  refine go_smp (L' := [some (.inr (.inr (some 3000))), some (.inr (.inr (some 0))), some (.inr (.inr (some 79))), some (.inl i)]) (st' := [.inl ((xs ((i + 2).toNat)).toInt), .inl ((xs ((i + 1).toNat)).toInt), .inr (.inr (some 0))]) (w' := (SH, dt)) rfl rfl (s_iald (n := L) (f := fun j => (xs j).toInt) (am_scr hLL) ⟨by omega, by omega⟩) ?_
  refine go_call (Q' := _) rfl rfl rfl rfl rfl (sp_X5_curve L xs sio (d + 33) dt hI  ((xs ((i + 1).toNat)).toInt) ⟨by omega, by omega⟩ ((xs ((i + 2).toNat)).toInt) ⟨by omega, by omega⟩ ) ?_
  rintro _ _ ⟨dt4, rfl, hI5, hF6, h3⟩
  refine ⟨rfl, ?_⟩
  have hF7 : Fr [0, 1, 2, 3, 4, 5, 6, 7, 8, 9, 10, 11, 12, 13, 14, 15, 16, 17, 18, 19, 20, 21, 22, 23, 24, 25, 26, 27, 28, 29, 30, 31, 32, 33, 34, 35, 36, 37, 38, 39, 40, 41, 42, 43, 44, 45, 46, 47, 48, 49, 50, 51, 52, 53, 54, 55, 56, 57, 58, 59, 60, 61, 62, 63, 64, 65, 66, 67, 68, 69, 70, 71, 72, 73, 74, 75, 76, 77, 78, 79, 80, 81, 82, 83, 84, 85, 86, 87, 88, 89, 90, 91, 92, 93, 94, 95, 96, 97, 98, 99, 100, 101, 102, 103, 104] dt dt4 := Fr_tr hF hF6 (by decide)
  have hM8 : MW (dt4 80) := MW_fr hM hF6 (by decide)
  have w9 : dt4 1 0 = dt 1 0 := hF6 1 (by decide) 0
  have w10 : dt4 7 3 = dt 7 3 := hF6 7 (by decide) 3
  have w11 : dt4 10 3 = dt 10 3 := hF6 10 (by decide) 3
  have w12 : dt4 12 3 = dt 12 3 := hF6 12 (by decide) 3
  have w13 : dt4 14 3 = dt 14 3 := hF6 14 (by decide) 3
  have w14 : dt4 16 3 = dt 16 3 := hF6 16 (by decide) 3
  have w15 : dt4 18 0 = dt 18 0 := hF6 18 (by decide) 0
  have w16 : dt4 24 3 = dt 24 3 := hF6 24 (by decide) 3
  have w17 : dt4 27 3 = dt 27 3 := hF6 27 (by decide) 3
  have w18 : dt4 29 3 = dt 29 3 := hF6 29 (by decide) 3
  have w19 : dt4 31 3 = dt 31 3 := hF6 31 (by decide) 3
  have w20 : dt4 33 3 = dt 33 3 := hF6 33 (by decide) 3
  have w21 : dt4 0 2 = dt 0 2 := hF6 0 (by decide) 2
  have w22 : dt4 35 1 = dt 35 1 := hF6 35 (by decide) 1
  have w23 : dt4 35 2 = dt 35 2 := hF6 35 (by decide) 2
  have w24 : dt4 35 3 = dt 35 3 := hF6 35 (by decide) 3
  have w25 : dt4 80 0 = dt 80 0 := hF6 80 (by decide) 0
  have w26 : dt4 80 1 = dt 80 1 := hF6 80 (by decide) 1
  have w27 : dt4 80 2 = dt 80 2 := hF6 80 (by decide) 2
  have w28 : dt4 80 3 = dt 80 3 := hF6 80 (by decide) 3
  have w29 : dt4 80 4 = dt 80 4 := hF6 80 (by decide) 4
  have w30 : dt4 80 5 = dt 80 5 := hF6 80 (by decide) 5
  have w31 : dt4 81 0 = dt 81 0 := hF6 81 (by decide) 0
  have w32 : dt4 81 1 = dt 81 1 := hF6 81 (by decide) 1
  have w33 : dt4 81 2 = dt 81 2 := hF6 81 (by decide) 2
  have w34 : dt4 81 3 = dt 81 3 := hF6 81 (by decide) 3
  have w35 : dt4 81 4 = dt 81 4 := hF6 81 (by decide) 4
  have w36 : dt4 81 5 = dt 81 5 := hF6 81 (by decide) 5
  have w37 : dt4 79 2 = dt 79 2 := hF6 79 (by decide) 2
  have w38 : dt4 79 12 = dt 79 12 := hF6 79 (by decide) 12
  have w39 : dt4 79 19 = dt 79 19 := hF6 79 (by decide) 19
  have w40 : dt4 79 21 = dt 79 21 := hF6 79 (by decide) 21
  rcases h3 with ⟨v_h3, rfl, h3r, h3⟩
  have M241 : MW (dt4 81) := MW_frk hM2 hF6 (by decide)
  have C42 : ∀ j : Nat, dt4 36 j = dt 36 j := fun j => (hF6 36 (by decide) j).trans ((fun _ => rfl) j)
  have C43 : ∀ j : Nat, dt4 85 j = dt 85 j := fun j => (hF6 85 (by decide) j).trans ((fun _ => rfl) j)
  refine go_to (k := 6) (pc' := 1274) (L' := [some (.inr (.inr (some 3000))), some (.inr (.inr (some 0))), some (.inr (.inr (some 79))), some (.inl i)]) (st' := [.inl (i + 1), .inr (.inr (some 3000)), .inr (.inr (some 79))]) (w' := (SH, dt4)) (fun _ => rfl) ?_
  have r44 := i32_R (xs ((i + 1).toNat))
  refine go_smp (L' := [some (.inr (.inr (some 3000))), some (.inr (.inr (some 0))), some (.inr (.inr (some 79))), some (.inl i)]) (st' := [.inl ((xs ((i + 1).toNat)).toInt), .inr (.inr (some 79))]) (w' := (SH, dt4)) rfl rfl (s_iald (n := L) (f := fun j => (xs j).toInt) (am_scr hLL) ⟨by omega, by omega⟩) ?_
  refine go_to (k := 4) (pc' := 1279) (L' := [some (.inr (.inr (some 3000))), some (.inr (.inr (some 0))), some (.inr (.inr (some 79))), some (.inl i)]) (st' := [.inl (i + 2), .inr (.inr (some 3000)), .inl ((xs ((i + 1).toNat)).toInt), .inr (.inr (some 79))]) (w' := (SH, dt4)) (fun _ => rfl) ?_
  have r45 := i32_R (xs ((i + 2).toNat))
  refine go_smp (L' := [some (.inr (.inr (some 3000))), some (.inr (.inr (some 0))), some (.inr (.inr (some 79))), some (.inl i)]) (st' := [.inl ((xs ((i + 2).toNat)).toInt), .inl ((xs ((i + 1).toNat)).toInt), .inr (.inr (some 79))]) (w' := (SH, dt4)) rfl rfl (s_iald (n := L) (f := fun j => (xs j).toInt) (am_scr hLL) ⟨by omega, by omega⟩) ?_
  refine go_call (Q' := _) rfl rfl rfl rfl rfl (sp_X6_curve_k L xs sio (d + 30) dt4 hI5 hM8  ((xs ((i + 1).toNat)).toInt) ⟨by omega, by omega⟩ ((xs ((i + 2).toNat)).toInt) ⟨by omega, by omega⟩ ) ?_
  rintro _ _ ⟨dt47, rfl, hI48, hF49, h46⟩
  refine ⟨rfl, ?_⟩
  have hF50 : Fr [0, 1, 2, 3, 4, 5, 6, 7, 8, 9, 10, 11, 12, 13, 14, 15, 16, 17, 18, 19, 20, 21, 22, 23, 24, 25, 26, 27, 28, 29, 30, 31, 32, 33, 34, 35, 36, 37, 38, 39, 40, 41, 42, 43, 44, 45, 46, 47, 48, 49, 50, 51, 52, 53, 54, 55, 56, 57, 58, 59, 60, 61, 62, 63, 64, 65, 66, 67, 68, 69, 70, 71, 72, 73, 74, 75, 76, 77, 78, 79, 80, 81, 82, 83, 84, 85, 86, 87, 88, 89, 90, 91, 92, 93, 94, 95, 96, 97, 98, 99, 100, 101, 102, 103, 104] dt dt47 := Fr_tr hF7 hF49 (by decide)
  have hM51 : MW (dt47 80) := MW_fr hM8 hF49 (by decide)
  have w52 : dt47 1 0 = dt4 1 0 := hF49 1 (by decide) 0
  have w53 : dt47 7 3 = dt4 7 3 := hF49 7 (by decide) 3
  have w54 : dt47 10 3 = dt4 10 3 := hF49 10 (by decide) 3
  have w55 : dt47 12 3 = dt4 12 3 := hF49 12 (by decide) 3
  have w56 : dt47 14 3 = dt4 14 3 := hF49 14 (by decide) 3
  have w57 : dt47 16 3 = dt4 16 3 := hF49 16 (by decide) 3
  have w58 : dt47 18 0 = dt4 18 0 := hF49 18 (by decide) 0
  have w59 : dt47 24 3 = dt4 24 3 := hF49 24 (by decide) 3
  have w60 : dt47 27 3 = dt4 27 3 := hF49 27 (by decide) 3
  have w61 : dt47 29 3 = dt4 29 3 := hF49 29 (by decide) 3
  have w62 : dt47 31 3 = dt4 31 3 := hF49 31 (by decide) 3
  have w63 : dt47 33 3 = dt4 33 3 := hF49 33 (by decide) 3
  have w64 : dt47 0 2 = dt4 0 2 := hF49 0 (by decide) 2
  have w65 : dt47 35 1 = dt4 35 1 := hF49 35 (by decide) 1
  have w66 : dt47 35 2 = dt4 35 2 := hF49 35 (by decide) 2
  have w67 : dt47 35 3 = dt4 35 3 := hF49 35 (by decide) 3
  have w68 : dt47 80 0 = dt4 80 0 := hF49 80 (by decide) 0
  have w69 : dt47 80 1 = dt4 80 1 := hF49 80 (by decide) 1
  have w70 : dt47 80 2 = dt4 80 2 := hF49 80 (by decide) 2
  have w71 : dt47 80 3 = dt4 80 3 := hF49 80 (by decide) 3
  have w72 : dt47 80 4 = dt4 80 4 := hF49 80 (by decide) 4
  have w73 : dt47 80 5 = dt4 80 5 := hF49 80 (by decide) 5
  have w74 : dt47 81 0 = dt4 81 0 := hF49 81 (by decide) 0
  have w75 : dt47 81 1 = dt4 81 1 := hF49 81 (by decide) 1
  have w76 : dt47 81 2 = dt4 81 2 := hF49 81 (by decide) 2
  have w77 : dt47 81 3 = dt4 81 3 := hF49 81 (by decide) 3
  have w78 : dt47 81 4 = dt4 81 4 := hF49 81 (by decide) 4
  have w79 : dt47 81 5 = dt4 81 5 := hF49 81 (by decide) 5
  rcases h46 with ⟨v_h46, rfl, h46r, h46⟩
  obtain ⟨h46_0, h46_1, h46_2, h46_3⟩ := h46
  have M280 : MW (dt47 81) := MW_frk M241 hF49 (by decide)
  have C81 : ∀ j : Nat, dt47 36 j = dt 36 j := fun j => (hF49 36 (by decide) j).trans (C42 j)
  have C82 : ∀ j : Nat, dt47 85 j = dt 85 j := fun j => (hF49 85 (by decide) j).trans (C43 j)
  refine go_to (k := 2) (pc' := 1435) (L' := [some (.inr (.inr (some 3000))), some (.inr (.inr (some 0))), some (.inr (.inr (some 79))), some (.inl i)]) (st' := []) (w' := (SH, dt47)) (fun _ => rfl) ?_
  exact K dt47 hI48 hM51 M280 (by first | omega | (simp only [*]; done) | simp only [*]) (by omega) (by omega) (by omega) (by omega) (by omega) (by omega) (by omega) (by omega) (by omega) (by omega) (by omega) (by omega) (by omega) (by omega) (by omega) (by first | exact hI | exact TPL_k hd0 C81 C82 (by omega) | (exfalso; omega))
set_option maxRecDepth 20000 in
set_option maxHeartbeats 8000000 in
theorem sp_case29 (L : Nat) (xs : Nat → Int32) (sio : Option Nat) (d : Nat) (Q : Option AV → am_W → Prop) (hLL : L ≤ 3072) (i : Int) (hi : 0 ≤ i ∧ i ≤ 3066) (hil : i ≤ (L : Int) - 6) (dt : Nat → Nat → Int) (hI : InvC dt) (hM : MW (dt 80)) (hM2 : MW (dt 81)) (hk0 : dt 1 0 = dt 80 0) (hk1 : dt 7 3 = dt 80 1) (hk2 : dt 10 3 = dt 80 2) (hk3 : dt 12 3 = dt 80 3) (hk4 : dt 14 3 = dt 80 4) (hk5 : dt 16 3 = dt 80 5) (hk6 : dt 18 0 = dt 81 0) (hk7 : dt 24 3 = dt 81 1) (hk8 : dt 27 3 = dt 81 2) (hk9 : dt 29 3 = dt 81 3) (hk10 : dt 31 3 = dt 81 4) (hk11 : dt 33 3 = dt 81 5) (hk12 : dt 0 2 = dt 79 2) (hk13 : dt 35 1 = dt 79 12) (hk14 : dt 35 2 = dt 79 19) (hk15 : dt 35 3 = dt 79 21) (hd0 : TPL (dt 36) (dt 85) (dt 35 1)) (K : ∀ (dt : Nat → Nat → Int) (hI : InvC dt) (hM : MW (dt 80)) (hM2 : MW (dt 81)) (hk0 : dt 1 0 = dt 80 0) (hk1 : dt 7 3 = dt 80 1) (hk2 : dt 10 3 = dt 80 2) (hk3 : dt 12 3 = dt 80 3) (hk4 : dt 14 3 = dt 80 4) (hk5 : dt 16 3 = dt 80 5) (hk6 : dt 18 0 = dt 81 0) (hk7 : dt 24 3 = dt 81 1) (hk8 : dt 27 3 = dt 81 2) (hk9 : dt 29 3 = dt 81 3) (hk10 : dt 31 3 = dt 81 4) (hk11 : dt 33 3 = dt 81 5) (hk12 : dt 0 2 = dt 79 2) (hk13 : dt 35 1 = dt 79 12) (hk14 : dt 35 2 = dt 79 19) (hk15 : dt 35 3 = dt 79 21) (hd0 : TPL (dt 36) (dt 85) (dt 35 1)), GO (am_XX L xs sio) (d + 39) 267 1435 [some (.inr (.inr (some 3000))), some (.inr (.inr (some 0))), some (.inr (.inr (some 79))), some (.inl i)] [] (SH, dt) Q) : GO (am_XX L xs sio) (d + 39) 267 1287 [some (.inr (.inr (some 3000))), some (.inr (.inr (some 0))), some (.inr (.inr (some 79))), some (.inl i)] [] (SH, dt) Q := by
  have hF : Fr [0, 1, 2, 3, 4, 5, 6, 7, 8, 9, 10, 11, 12, 13, 14, 15, 16, 17, 18, 19, 20, 21, 22, 23, 24, 25, 26, 27, 28, 29, 30, 31, 32, 33, 34, 35, 36, 37, 38, 39, 40, 41, 42, 43, 44, 45, 46, 47, 48, 49, 50, 51, 52, 53, 54, 55, 56, 57, 58, 59, 60, 61, 62, 63, 64, 65, 66, 67, 68, 69, 70, 71, 72, 73, 74, 75, 76, 77, 78, 79, 80, 81, 82, 83, 84, 85, 86, 87, 88, 89, 90, 91, 92, 93, 94, 95, 96, 97, 98, 99, 100, 101, 102, 103, 104] dt dt := Fr_refl
  refine go_to (k := 5) (pc' := 1292) (L' := [some (.inr (.inr (some 3000))), some (.inr (.inr (some 0))), some (.inr (.inr (some 79))), some (.inl i)]) (st' := [.inl (i + 1), .inr (.inr (some 3000)), .inr (.inr (some 0))]) (w' := (SH, dt)) (fun _ => rfl) ?_
  have r1 := i32_R (xs ((i + 1).toNat))
  refine go_smp (L' := [some (.inr (.inr (some 3000))), some (.inr (.inr (some 0))), some (.inr (.inr (some 79))), some (.inl i)]) (st' := [.inl ((xs ((i + 1).toNat)).toInt), .inr (.inr (some 0))]) (w' := (SH, dt)) rfl rfl (s_iald (n := L) (f := fun j => (xs j).toInt) (am_scr hLL) ⟨by omega, by omega⟩) ?_
  refine go_call (Q' := _) rfl rfl rfl rfl rfl (sp_X5_score L xs sio (d + 32) dt hI  ((xs ((i + 1).toNat)).toInt) ⟨by omega, by omega⟩ ) ?_
  rintro _ _ ⟨dt3, rfl, hI4, hF5, h2⟩
  refine ⟨rfl, ?_⟩
  have hF6 : Fr [0, 1, 2, 3, 4, 5, 6, 7, 8, 9, 10, 11, 12, 13, 14, 15, 16, 17, 18, 19, 20, 21, 22, 23, 24, 25, 26, 27, 28, 29, 30, 31, 32, 33, 34, 35, 36, 37, 38, 39, 40, 41, 42, 43, 44, 45, 46, 47, 48, 49, 50, 51, 52, 53, 54, 55, 56, 57, 58, 59, 60, 61, 62, 63, 64, 65, 66, 67, 68, 69, 70, 71, 72, 73, 74, 75, 76, 77, 78, 79, 80, 81, 82, 83, 84, 85, 86, 87, 88, 89, 90, 91, 92, 93, 94, 95, 96, 97, 98, 99, 100, 101, 102, 103, 104] dt dt3 := Fr_tr hF hF5 (by decide)
  have hM7 : MW (dt3 80) := MW_fr hM hF5 (by decide)
  have w8 : dt3 1 0 = dt 1 0 := hF5 1 (by decide) 0
  have w9 : dt3 7 3 = dt 7 3 := hF5 7 (by decide) 3
  have w10 : dt3 10 3 = dt 10 3 := hF5 10 (by decide) 3
  have w11 : dt3 12 3 = dt 12 3 := hF5 12 (by decide) 3
  have w12 : dt3 14 3 = dt 14 3 := hF5 14 (by decide) 3
  have w13 : dt3 16 3 = dt 16 3 := hF5 16 (by decide) 3
  have w14 : dt3 18 0 = dt 18 0 := hF5 18 (by decide) 0
  have w15 : dt3 24 3 = dt 24 3 := hF5 24 (by decide) 3
  have w16 : dt3 27 3 = dt 27 3 := hF5 27 (by decide) 3
  have w17 : dt3 29 3 = dt 29 3 := hF5 29 (by decide) 3
  have w18 : dt3 31 3 = dt 31 3 := hF5 31 (by decide) 3
  have w19 : dt3 33 3 = dt 33 3 := hF5 33 (by decide) 3
  have w20 : dt3 0 2 = dt 0 2 := hF5 0 (by decide) 2
  have w21 : dt3 35 1 = dt 35 1 := hF5 35 (by decide) 1
  have w22 : dt3 35 2 = dt 35 2 := hF5 35 (by decide) 2
  have w23 : dt3 35 3 = dt 35 3 := hF5 35 (by decide) 3
  have w24 : dt3 80 0 = dt 80 0 := hF5 80 (by decide) 0
  have w25 : dt3 80 1 = dt 80 1 := hF5 80 (by decide) 1
  have w26 : dt3 80 2 = dt 80 2 := hF5 80 (by decide) 2
  have w27 : dt3 80 3 = dt 80 3 := hF5 80 (by decide) 3
  have w28 : dt3 80 4 = dt 80 4 := hF5 80 (by decide) 4
  have w29 : dt3 80 5 = dt 80 5 := hF5 80 (by decide) 5
  have w30 : dt3 81 0 = dt 81 0 := hF5 81 (by decide) 0
  have w31 : dt3 81 1 = dt 81 1 := hF5 81 (by decide) 1
  have w32 : dt3 81 2 = dt 81 2 := hF5 81 (by decide) 2
  have w33 : dt3 81 3 = dt 81 3 := hF5 81 (by decide) 3
  have w34 : dt3 81 4 = dt 81 4 := hF5 81 (by decide) 4
  have w35 : dt3 81 5 = dt 81 5 := hF5 81 (by decide) 5
  have w36 : dt3 79 2 = dt 79 2 := hF5 79 (by decide) 2
  have w37 : dt3 79 12 = dt 79 12 := hF5 79 (by decide) 12
  have w38 : dt3 79 19 = dt 79 19 := hF5 79 (by decide) 19
  have w39 : dt3 79 21 = dt 79 21 := hF5 79 (by decide) 21
  rcases h2 with ⟨v_h2, rfl, h2r, h2⟩
  have M240 : MW (dt3 81) := MW_frk hM2 hF5 (by decide)
  have C41 : ∀ j : Nat, dt3 36 j = dt 36 j := fun j => (hF5 36 (by decide) j).trans ((fun _ => rfl) j)
  have C42 : ∀ j : Nat, dt3 85 j = dt 85 j := fun j => (hF5 85 (by decide) j).trans ((fun _ => rfl) j)
  refine go_to (k := 6) (pc' := 1302) (L' := [some (.inr (.inr (some 3000))), some (.inr (.inr (some 0))), some (.inr (.inr (some 79))), some (.inl i)]) (st' := [.inl (i + 1), .inr (.inr (some 3000)), .inr (.inr (some 79))]) (w' := (SH, dt3)) (fun _ => rfl) ?_
  have r43 := i32_R (xs ((i + 1).toNat))
  refine go_smp (L' := [some (.inr (.inr (some 3000))), some (.inr (.inr (some 0))), some (.inr (.inr (some 79))), some (.inl i)]) (st' := [.inl ((xs ((i + 1).toNat)).toInt), .inr (.inr (some 79))]) (w' := (SH, dt3)) rfl rfl (s_iald (n := L) (f := fun j => (xs j).toInt) (am_scr hLL) ⟨by omega, by omega⟩) ?_
  refine go_call (Q' := _) rfl rfl rfl rfl rfl (sp_X6_score L xs sio (d + 30) dt3 hI4 hM7  ((xs ((i + 1).toNat)).toInt) ⟨by omega, by omega⟩ ) ?_
  rintro _ _ ⟨dt45, rfl, hI46, hF47, h44⟩
  refine ⟨rfl, ?_⟩
  have hF48 : Fr [0, 1, 2, 3, 4, 5, 6, 7, 8, 9, 10, 11, 12, 13, 14, 15, 16, 17, 18, 19, 20, 21, 22, 23, 24, 25, 26, 27, 28, 29, 30, 31, 32, 33, 34, 35, 36, 37, 38, 39, 40, 41, 42, 43, 44, 45, 46, 47, 48, 49, 50, 51, 52, 53, 54, 55, 56, 57, 58, 59, 60, 61, 62, 63, 64, 65, 66, 67, 68, 69, 70, 71, 72, 73, 74, 75, 76, 77, 78, 79, 80, 81, 82, 83, 84, 85, 86, 87, 88, 89, 90, 91, 92, 93, 94, 95, 96, 97, 98, 99, 100, 101, 102, 103, 104] dt dt45 := Fr_tr hF6 hF47 (by decide)
  have hM49 : MW (dt45 80) := MW_fr hM7 hF47 (by decide)
  have w50 : dt45 1 0 = dt3 1 0 := hF47 1 (by decide) 0
  have w51 : dt45 7 3 = dt3 7 3 := hF47 7 (by decide) 3
  have w52 : dt45 10 3 = dt3 10 3 := hF47 10 (by decide) 3
  have w53 : dt45 12 3 = dt3 12 3 := hF47 12 (by decide) 3
  have w54 : dt45 14 3 = dt3 14 3 := hF47 14 (by decide) 3
  have w55 : dt45 16 3 = dt3 16 3 := hF47 16 (by decide) 3
  have w56 : dt45 18 0 = dt3 18 0 := hF47 18 (by decide) 0
  have w57 : dt45 24 3 = dt3 24 3 := hF47 24 (by decide) 3
  have w58 : dt45 27 3 = dt3 27 3 := hF47 27 (by decide) 3
  have w59 : dt45 29 3 = dt3 29 3 := hF47 29 (by decide) 3
  have w60 : dt45 31 3 = dt3 31 3 := hF47 31 (by decide) 3
  have w61 : dt45 33 3 = dt3 33 3 := hF47 33 (by decide) 3
  have w62 : dt45 0 2 = dt3 0 2 := hF47 0 (by decide) 2
  have w63 : dt45 35 1 = dt3 35 1 := hF47 35 (by decide) 1
  have w64 : dt45 35 2 = dt3 35 2 := hF47 35 (by decide) 2
  have w65 : dt45 35 3 = dt3 35 3 := hF47 35 (by decide) 3
  have w66 : dt45 80 0 = dt3 80 0 := hF47 80 (by decide) 0
  have w67 : dt45 80 1 = dt3 80 1 := hF47 80 (by decide) 1
  have w68 : dt45 80 2 = dt3 80 2 := hF47 80 (by decide) 2
  have w69 : dt45 80 3 = dt3 80 3 := hF47 80 (by decide) 3
  have w70 : dt45 80 4 = dt3 80 4 := hF47 80 (by decide) 4
  have w71 : dt45 80 5 = dt3 80 5 := hF47 80 (by decide) 5
  have w72 : dt45 81 0 = dt3 81 0 := hF47 81 (by decide) 0
  have w73 : dt45 81 1 = dt3 81 1 := hF47 81 (by decide) 1
  have w74 : dt45 81 2 = dt3 81 2 := hF47 81 (by decide) 2
  have w75 : dt45 81 3 = dt3 81 3 := hF47 81 (by decide) 3
  have w76 : dt45 81 4 = dt3 81 4 := hF47 81 (by decide) 4
  have w77 : dt45 81 5 = dt3 81 5 := hF47 81 (by decide) 5
  have w78 : dt45 79 2 = dt3 79 2 := hF47 79 (by decide) 2
  have w79 : dt45 79 12 = dt3 79 12 := hF47 79 (by decide) 12
  have w80 : dt45 79 19 = dt3 79 19 := hF47 79 (by decide) 19
  have w81 : dt45 79 21 = dt3 79 21 := hF47 79 (by decide) 21
  rcases h44 with ⟨v_h44, rfl, h44r, h44⟩
  have M282 : MW (dt45 81) := MW_frk M240 hF47 (by decide)
  have C83 : ∀ j : Nat, dt45 36 j = dt 36 j := fun j => (hF47 36 (by decide) j).trans (C41 j)
  have C84 : ∀ j : Nat, dt45 85 j = dt 85 j := fun j => (hF47 85 (by decide) j).trans (C42 j)
  refine go_to (k := 2) (pc' := 1435) (L' := [some (.inr (.inr (some 3000))), some (.inr (.inr (some 0))), some (.inr (.inr (some 79))), some (.inl i)]) (st' := []) (w' := (SH, dt45)) (fun _ => rfl) ?_
  exact K dt45 hI46 hM49 M282 (by first | omega | (simp only [*]; done) | simp only [*]) (by omega) (by omega) (by omega) (by omega) (by omega) (by omega) (by omega) (by omega) (by omega) (by omega) (by omega) (by omega) (by omega) (by omega) (by omega) (by first | exact hI | exact TPL_k hd0 C83 C84 (by omega) | (exfalso; omega))
set_option maxRecDepth 20000 in
set_option maxHeartbeats 8000000 in
theorem sp_case30 (L : Nat) (xs : Nat → Int32) (sio : Option Nat) (d : Nat) (Q : Option AV → am_W → Prop) (hLL : L ≤ 3072) (i : Int) (hi : 0 ≤ i ∧ i ≤ 3066) (hil : i ≤ (L : Int) - 6) (dt : Nat → Nat → Int) (hI : InvC dt) (hM : MW (dt 80)) (hM2 : MW (dt 81)) (hk0 : dt 1 0 = dt 80 0) (hk1 : dt 7 3 = dt 80 1) (hk2 : dt 10 3 = dt 80 2) (hk3 : dt 12 3 = dt 80 3) (hk4 : dt 14 3 = dt 80 4) (hk5 : dt 16 3 = dt 80 5) (hk6 : dt 18 0 = dt 81 0) (hk7 : dt 24 3 = dt 81 1) (hk8 : dt 27 3 = dt 81 2) (hk9 : dt 29 3 = dt 81 3) (hk10 : dt 31 3 = dt 81 4) (hk11 : dt 33 3 = dt 81 5) (hk12 : dt 0 2 = dt 79 2) (hk13 : dt 35 1 = dt 79 12) (hk14 : dt 35 2 = dt 79 19) (hk15 : dt 35 3 = dt 79 21) (hd0 : TPL (dt 36) (dt 85) (dt 35 1)) (K : ∀ (dt : Nat → Nat → Int) (hI : InvC dt) (hM : MW (dt 80)) (hM2 : MW (dt 81)) (hk0 : dt 1 0 = dt 80 0) (hk1 : dt 7 3 = dt 80 1) (hk2 : dt 10 3 = dt 80 2) (hk3 : dt 12 3 = dt 80 3) (hk4 : dt 14 3 = dt 80 4) (hk5 : dt 16 3 = dt 80 5) (hk6 : dt 18 0 = dt 81 0) (hk7 : dt 24 3 = dt 81 1) (hk8 : dt 27 3 = dt 81 2) (hk9 : dt 29 3 = dt 81 3) (hk10 : dt 31 3 = dt 81 4) (hk11 : dt 33 3 = dt 81 5) (hk12 : dt 0 2 = dt 79 2) (hk13 : dt 35 1 = dt 79 12) (hk14 : dt 35 2 = dt 79 19) (hk15 : dt 35 3 = dt 79 21) (hd0 : TPL (dt 36) (dt 85) (dt 35 1)), GO (am_XX L xs sio) (d + 39) 267 1435 [some (.inr (.inr (some 3000))), some (.inr (.inr (some 0))), some (.inr (.inr (some 79))), some (.inl i)] [] (SH, dt) Q) : GO (am_XX L xs sio) (d + 39) 267 1310 [some (.inr (.inr (some 3000))), some (.inr (.inr (some 0))), some (.inr (.inr (some 79))), some (.inl i)] [] (SH, dt) Q := by
  have hF : Fr [0, 1, 2, 3, 4, 5, 6, 7, 8, 9, 10, 11, 12, 13, 14, 15, 16, 17, 18, 19, 20, 21, 22, 23, 24, 25, 26, 27, 28, 29, 30, 31, 32, 33, 34, 35, 36, 37, 38, 39, 40, 41, 42, 43, 44, 45, 46, 47, 48, 49, 50, 51, 52, 53, 54, 55, 56, 57, 58, 59, 60, 61, 62, 63, 64, 65, 66, 67, 68, 69, 70, 71, 72, 73, 74, 75, 76, 77, 78, 79, 80, 81, 82, 83, 84, 85, 86, 87, 88, 89, 90, 91, 92, 93, 94, 95, 96, 97, 98, 99, 100, 101, 102, 103, 104] dt dt := Fr_refl
  refine go_to (k := 5) (pc' := 1315) (L' := [some (.inr (.inr (some 3000))), some (.inr (.inr (some 0))), some (.inr (.inr (some 79))), some (.inl i)]) (st' := [.inl (i + 1), .inr (.inr (some 3000)), .inr (.inr (some 0))]) (w' := (SH, dt)) (fun _ => rfl) ?_
  have r1 := i32_R (xs ((i + 1).toNat))
  refine go_smp (L' := [some (.inr (.inr (some 3000))), some (.inr (.inr (some 0))), some (.inr (.inr (some 79))), some (.inl i)]) (st' := [.inl ((xs ((i + 1).toNat)).toInt), .inr (.inr (some 0))]) (w' := (SH, dt)) rfl rfl (s_iald (n := L) (f := fun j => (xs j).toInt) (am_scr hLL) ⟨by omega, by omega⟩) ?_
  refine go_to (k := 4) (pc' := 1320) (L' := [some (.inr (.inr (some 3000))), some (.inr (.inr (some 0))), some (.inr (.inr (some 79))), some (.inl i)]) (st' := [.inl (i + 2), .inr (.inr (some 3000)), .inl ((xs ((i + 1).toNat)).toInt), .inr (.inr (some 0))]) (w' := (SH, dt)) (fun _ => rfl) ?_
  have r2 := i32_R (xs ((i + 2).toNat))
  refine go_smp (L' := [some (.inr (.inr (some 3000))), some (.inr (.inr (some 0))), some (.inr (.inr (some 79))), some (.inl i)]) (st' := [.inl ((xs ((i + 2).toNat)).toInt), .inl ((xs ((i + 1).toNat)).toInt), .inr (.inr (some 0))]) (w' := (SH, dt)) rfl rfl (s_iald (n := L) (f := fun j => (xs j).toInt) (am_scr hLL) ⟨by omega, by omega⟩) ?_
  refine go_to (k := 4) (pc' := 1325) (L' := [some (.inr (.inr (some 3000))), some (.inr (.inr (some 0))), some (.inr (.inr (some 79))), some (.inl i)]) (st' := [.inl (i + 3), .inr (.inr (some 3000)), .inl ((xs ((i + 2).toNat)).toInt), .inl ((xs ((i + 1).toNat)).toInt), .inr (.inr (some 0))]) (w' := (SH, dt)) (fun _ => rfl) ?_
  have r3 := i32_R (xs ((i + 3).toNat))
  refine go_smp (L' := [some (.inr (.inr (some 3000))), some (.inr (.inr (some 0))), some (.inr (.inr (some 79))), some (.inl i)]) (st' := [.inl ((xs ((i + 3).toNat)).toInt), .inl ((xs ((i + 2).toNat)).toInt), .inl ((xs ((i + 1).toNat)).toInt), .inr (.inr (some 0))]) (w' := (SH, dt)) rfl rfl (s_iald (n := L) (f := fun j => (xs j).toInt) (am_scr hLL) ⟨by omega, by omega⟩) ?_
  refine go_to (k := 4) (pc' := 1330) (L' := [some (.inr (.inr (some 3000))), some (.inr (.inr (some 0))), some (.inr (.inr (some 79))), some (.inl i)]) (st' := [.inl (i + 4), .inr (.inr (some 3000)), .inl ((xs ((i + 3).toNat)).toInt), .inl ((xs ((i + 2).toNat)).toInt), .inl ((xs ((i + 1).toNat)).toInt), .inr (.inr (some 0))]) (w' := (SH, dt)) (fun _ => rfl) ?_
  have r4 := i32_R (xs ((i + 4).toNat))
  refine go_smp (L' := [some (.inr (.inr (some 3000))), some (.inr (.inr (some 0))), some (.inr (.inr (some 79))), some (.inl i)]) (st' := [.inl ((xs ((i + 4).toNat)).toInt), .inl ((xs ((i + 3).toNat)).toInt), .inl ((xs ((i + 2).toNat)).toInt), .inl ((xs ((i + 1).toNat)).toInt), .inr (.inr (some 0))]) (w' := (SH, dt)) rfl rfl (s_iald (n := L) (f := fun j => (xs j).toInt) (am_scr hLL) ⟨by omega, by omega⟩) ?_
  refine go_to (k := 4) (pc' := 1335) (L' := [some (.inr (.inr (some 3000))), some (.inr (.inr (some 0))), some (.inr (.inr (some 79))), some (.inl i)]) (st' := [.inl (i + 5), .inr (.inr (some 3000)), .inl ((xs ((i + 4).toNat)).toInt), .inl ((xs ((i + 3).toNat)).toInt), .inl ((xs ((i + 2).toNat)).toInt), .inl ((xs ((i + 1).toNat)).toInt), .inr (.inr (some 0))]) (w' := (SH, dt)) (fun _ => rfl) ?_
  have r5 := i32_R (xs ((i + 5).toNat))
  refine go_smp (L' := [some (.inr (.inr (some 3000))), some (.inr (.inr (some 0))), some (.inr (.inr (some 79))), some (.inl i)]) (st' := [.inl ((xs ((i + 5).toNat)).toInt), .inl ((xs ((i + 4).toNat)).toInt), .inl ((xs ((i + 3).toNat)).toInt), .inl ((xs ((i + 2).toNat)).toInt), .inl ((xs ((i + 1).toNat)).toInt), .inr (.inr (some 0))]) (w' := (SH, dt)) rfl rfl (s_iald (n := L) (f := fun j => (xs j).toInt) (am_scr hLL) ⟨by omega, by omega⟩) ?_
  refine go_call (Q' := _) rfl rfl rfl rfl rfl (sp_X5_next L xs sio (d + 32) dt hI  ((xs ((i + 1).toNat)).toInt) ⟨by omega, by omega⟩ ((xs ((i + 2).toNat)).toInt) ⟨by omega, by omega⟩ ((xs ((i + 3).toNat)).toInt) ⟨by omega, by omega⟩ ((xs ((i + 4).toNat)).toInt) ⟨by omega, by omega⟩ ((xs ((i + 5).toNat)).toInt) ⟨by omega, by omega⟩ ) ?_
  rintro _ _ ⟨dt7, rfl, hI8, hF9, h6⟩
  refine ⟨rfl, ?_⟩
  have hF10 : Fr [0, 1, 2, 3, 4, 5, 6, 7, 8, 9, 10, 11, 12, 13, 14, 15, 16, 17, 18, 19, 20, 21, 22, 23, 24, 25, 26, 27, 28, 29, 30, 31, 32, 33, 34, 35, 36, 37, 38, 39, 40, 41, 42, 43, 44, 45, 46, 47, 48, 49, 50, 51, 52, 53, 54, 55, 56, 57, 58, 59, 60, 61, 62, 63, 64, 65, 66, 67, 68, 69, 70, 71, 72, 73, 74, 75, 76, 77, 78, 79, 80, 81, 82, 83, 84, 85, 86, 87, 88, 89, 90, 91, 92, 93, 94, 95, 96, 97, 98, 99, 100, 101, 102, 103, 104] dt dt7 := Fr_tr hF hF9 (by decide)
  have hM11 : MW (dt7 80) := MW_fr hM hF9 (by decide)
  have w12 : dt7 1 0 = dt 1 0 := hF9 1 (by decide) 0
  have w13 : dt7 7 3 = dt 7 3 := hF9 7 (by decide) 3
  have w14 : dt7 10 3 = dt 10 3 := hF9 10 (by decide) 3
  have w15 : dt7 12 3 = dt 12 3 := hF9 12 (by decide) 3
  have w16 : dt7 14 3 = dt 14 3 := hF9 14 (by decide) 3
  have w17 : dt7 16 3 = dt 16 3 := hF9 16 (by decide) 3
  have w18 : dt7 18 0 = dt 18 0 := hF9 18 (by decide) 0
  have w19 : dt7 24 3 = dt 24 3 := hF9 24 (by decide) 3
  have w20 : dt7 27 3 = dt 27 3 := hF9 27 (by decide) 3
  have w21 : dt7 29 3 = dt 29 3 := hF9 29 (by decide) 3
  have w22 : dt7 31 3 = dt 31 3 := hF9 31 (by decide) 3
  have w23 : dt7 33 3 = dt 33 3 := hF9 33 (by decide) 3
  have w24 : dt7 0 2 = dt 0 2 := hF9 0 (by decide) 2
  have w25 : dt7 35 1 = dt 35 1 := hF9 35 (by decide) 1
  have w26 : dt7 35 2 = dt 35 2 := hF9 35 (by decide) 2
  have w27 : dt7 35 3 = dt 35 3 := hF9 35 (by decide) 3
  have w28 : dt7 80 0 = dt 80 0 := hF9 80 (by decide) 0
  have w29 : dt7 80 1 = dt 80 1 := hF9 80 (by decide) 1
  have w30 : dt7 80 2 = dt 80 2 := hF9 80 (by decide) 2
  have w31 : dt7 80 3 = dt 80 3 := hF9 80 (by decide) 3
  have w32 : dt7 80 4 = dt 80 4 := hF9 80 (by decide) 4
  have w33 : dt7 80 5 = dt 80 5 := hF9 80 (by decide) 5
  have w34 : dt7 81 0 = dt 81 0 := hF9 81 (by decide) 0
  have w35 : dt7 81 1 = dt 81 1 := hF9 81 (by decide) 1
  have w36 : dt7 81 2 = dt 81 2 := hF9 81 (by decide) 2
  have w37 : dt7 81 3 = dt 81 3 := hF9 81 (by decide) 3
  have w38 : dt7 81 4 = dt 81 4 := hF9 81 (by decide) 4
  have w39 : dt7 81 5 = dt 81 5 := hF9 81 (by decide) 5
  have w40 : dt7 79 2 = dt 79 2 := hF9 79 (by decide) 2
  have w41 : dt7 79 12 = dt 79 12 := hF9 79 (by decide) 12
  have w42 : dt7 79 19 = dt 79 19 := hF9 79 (by decide) 19
  have w43 : dt7 79 21 = dt 79 21 := hF9 79 (by decide) 21
  rcases h6 with ⟨v_h6, rfl, h6r, h6⟩
  have M244 : MW (dt7 81) := MW_frk hM2 hF9 (by decide)
  have C45 : ∀ j : Nat, dt7 36 j = dt 36 j := fun j => (hF9 36 (by decide) j).trans ((fun _ => rfl) j)
  have C46 : ∀ j : Nat, dt7 85 j = dt 85 j := fun j => (hF9 85 (by decide) j).trans ((fun _ => rfl) j)
  refine go_to (k := 6) (pc' := 1345) (L' := [some (.inr (.inr (some 3000))), some (.inr (.inr (some 0))), some (.inr (.inr (some 79))), some (.inl i)]) (st' := [.inl (i + 1), .inr (.inr (some 3000)), .inr (.inr (some 79))]) (w' := (SH, dt7)) (fun _ => rfl) ?_
  have r47 := i32_R (xs ((i + 1).toNat))
  refine go_smp (L' := [some (.inr (.inr (some 3000))), some (.inr (.inr (some 0))), some (.inr (.inr (some 79))), some (.inl i)]) (st' := [.inl ((xs ((i + 1).toNat)).toInt), .inr (.inr (some 79))]) (w' := (SH, dt7)) rfl rfl (s_iald (n := L) (f := fun j => (xs j).toInt) (am_scr hLL) ⟨by omega, by omega⟩) ?_
  refine go_to (k := 4) (pc' := 1350) (L' := [some (.inr (.inr (some 3000))), some (.inr (.inr (some 0))), some (.inr (.inr (some 79))), some (.inl i)]) (st' := [.inl (i + 2), .inr (.inr (some 3000)), .inl ((xs ((i + 1).toNat)).toInt), .inr (.inr (some 79))]) (w' := (SH, dt7)) (fun _ => rfl) ?_
  have r48 := i32_R (xs ((i + 2).toNat))
  refine go_smp (L' := [some (.inr (.inr (some 3000))), some (.inr (.inr (some 0))), some (.inr (.inr (some 79))), some (.inl i)]) (st' := [.inl ((xs ((i + 2).toNat)).toInt), .inl ((xs ((i + 1).toNat)).toInt), .inr (.inr (some 79))]) (w' := (SH, dt7)) rfl rfl (s_iald (n := L) (f := fun j => (xs j).toInt) (am_scr hLL) ⟨by omega, by omega⟩) ?_
  refine go_to (k := 4) (pc' := 1355) (L' := [some (.inr (.inr (some 3000))), some (.inr (.inr (some 0))), some (.inr (.inr (some 79))), some (.inl i)]) (st' := [.inl (i + 3), .inr (.inr (some 3000)), .inl ((xs ((i + 2).toNat)).toInt), .inl ((xs ((i + 1).toNat)).toInt), .inr (.inr (some 79))]) (w' := (SH, dt7)) (fun _ => rfl) ?_
  have r49 := i32_R (xs ((i + 3).toNat))
  refine go_smp (L' := [some (.inr (.inr (some 3000))), some (.inr (.inr (some 0))), some (.inr (.inr (some 79))), some (.inl i)]) (st' := [.inl ((xs ((i + 3).toNat)).toInt), .inl ((xs ((i + 2).toNat)).toInt), .inl ((xs ((i + 1).toNat)).toInt), .inr (.inr (some 79))]) (w' := (SH, dt7)) rfl rfl (s_iald (n := L) (f := fun j => (xs j).toInt) (am_scr hLL) ⟨by omega, by omega⟩) ?_
  refine go_to (k := 4) (pc' := 1360) (L' := [some (.inr (.inr (some 3000))), some (.inr (.inr (some 0))), some (.inr (.inr (some 79))), some (.inl i)]) (st' := [.inl (i + 4), .inr (.inr (some 3000)), .inl ((xs ((i + 3).toNat)).toInt), .inl ((xs ((i + 2).toNat)).toInt), .inl ((xs ((i + 1).toNat)).toInt), .inr (.inr (some 79))]) (w' := (SH, dt7)) (fun _ => rfl) ?_
  have r50 := i32_R (xs ((i + 4).toNat))
  refine go_smp (L' := [some (.inr (.inr (some 3000))), some (.inr (.inr (some 0))), some (.inr (.inr (some 79))), some (.inl i)]) (st' := [.inl ((xs ((i + 4).toNat)).toInt), .inl ((xs ((i + 3).toNat)).toInt), .inl ((xs ((i + 2).toNat)).toInt), .inl ((xs ((i + 1).toNat)).toInt), .inr (.inr (some 79))]) (w' := (SH, dt7)) rfl rfl (s_iald (n := L) (f := fun j => (xs j).toInt) (am_scr hLL) ⟨by omega, by omega⟩) ?_
  refine go_to (k := 4) (pc' := 1365) (L' := [some (.inr (.inr (some 3000))), some (.inr (.inr (some 0))), some (.inr (.inr (some 79))), some (.inl i)]) (st' := [.inl (i + 5), .inr (.inr (some 3000)), .inl ((xs ((i + 4).toNat)).toInt), .inl ((xs ((i + 3).toNat)).toInt), .inl ((xs ((i + 2).toNat)).toInt), .inl ((xs ((i + 1).toNat)).toInt), .inr (.inr (some 79))]) (w' := (SH, dt7)) (fun _ => rfl) ?_
  have r51 := i32_R (xs ((i + 5).toNat))
  refine go_smp (L' := [some (.inr (.inr (some 3000))), some (.inr (.inr (some 0))), some (.inr (.inr (some 79))), some (.inl i)]) (st' := [.inl ((xs ((i + 5).toNat)).toInt), .inl ((xs ((i + 4).toNat)).toInt), .inl ((xs ((i + 3).toNat)).toInt), .inl ((xs ((i + 2).toNat)).toInt), .inl ((xs ((i + 1).toNat)).toInt), .inr (.inr (some 79))]) (w' := (SH, dt7)) rfl rfl (s_iald (n := L) (f := fun j => (xs j).toInt) (am_scr hLL) ⟨by omega, by omega⟩) ?_
  refine go_call (Q' := _) rfl rfl rfl rfl rfl (sp_X6_next L xs sio (d + 31) dt7 hI8 hM11  ((xs ((i + 1).toNat)).toInt) ⟨by omega, by omega⟩ ((xs ((i + 2).toNat)).toInt) ⟨by omega, by omega⟩ ((xs ((i + 3).toNat)).toInt) ⟨by omega, by omega⟩ ((xs ((i + 4).toNat)).toInt) ⟨by omega, by omega⟩ ((xs ((i + 5).toNat)).toInt) ⟨by omega, by omega⟩ ) ?_
  rintro _ _ ⟨dt53, rfl, hI54, hF55, h52⟩
  refine ⟨rfl, ?_⟩
  have hF56 : Fr [0, 1, 2, 3, 4, 5, 6, 7, 8, 9, 10, 11, 12, 13, 14, 15, 16, 17, 18, 19, 20, 21, 22, 23, 24, 25, 26, 27, 28, 29, 30, 31, 32, 33, 34, 35, 36, 37, 38, 39, 40, 41, 42, 43, 44, 45, 46, 47, 48, 49, 50, 51, 52, 53, 54, 55, 56, 57, 58, 59, 60, 61, 62, 63, 64, 65, 66, 67, 68, 69, 70, 71, 72, 73, 74, 75, 76, 77, 78, 79, 80, 81, 82, 83, 84, 85, 86, 87, 88, 89, 90, 91, 92, 93, 94, 95, 96, 97, 98, 99, 100, 101, 102, 103, 104] dt dt53 := Fr_tr hF10 hF55 (by decide)
  have hM57 : MW (dt53 80) := MW_fr hM11 hF55 (by decide)
  have w58 : dt53 1 0 = dt7 1 0 := hF55 1 (by decide) 0
  have w59 : dt53 7 3 = dt7 7 3 := hF55 7 (by decide) 3
  have w60 : dt53 10 3 = dt7 10 3 := hF55 10 (by decide) 3
  have w61 : dt53 12 3 = dt7 12 3 := hF55 12 (by decide) 3
  have w62 : dt53 14 3 = dt7 14 3 := hF55 14 (by decide) 3
  have w63 : dt53 16 3 = dt7 16 3 := hF55 16 (by decide) 3
  have w64 : dt53 18 0 = dt7 18 0 := hF55 18 (by decide) 0
  have w65 : dt53 24 3 = dt7 24 3 := hF55 24 (by decide) 3
  have w66 : dt53 27 3 = dt7 27 3 := hF55 27 (by decide) 3
  have w67 : dt53 29 3 = dt7 29 3 := hF55 29 (by decide) 3
  have w68 : dt53 31 3 = dt7 31 3 := hF55 31 (by decide) 3
  have w69 : dt53 33 3 = dt7 33 3 := hF55 33 (by decide) 3
  have w70 : dt53 0 2 = dt7 0 2 := hF55 0 (by decide) 2
  have w71 : dt53 35 1 = dt7 35 1 := hF55 35 (by decide) 1
  have w72 : dt53 35 2 = dt7 35 2 := hF55 35 (by decide) 2
  have w73 : dt53 35 3 = dt7 35 3 := hF55 35 (by decide) 3
  have w74 : dt53 80 0 = dt7 80 0 := hF55 80 (by decide) 0
  have w75 : dt53 80 1 = dt7 80 1 := hF55 80 (by decide) 1
  have w76 : dt53 80 2 = dt7 80 2 := hF55 80 (by decide) 2
  have w77 : dt53 80 3 = dt7 80 3 := hF55 80 (by decide) 3
  have w78 : dt53 80 4 = dt7 80 4 := hF55 80 (by decide) 4
  have w79 : dt53 80 5 = dt7 80 5 := hF55 80 (by decide) 5
  have w80 : dt53 81 0 = dt7 81 0 := hF55 81 (by decide) 0
  have w81 : dt53 81 1 = dt7 81 1 := hF55 81 (by decide) 1
  have w82 : dt53 81 2 = dt7 81 2 := hF55 81 (by decide) 2
  have w83 : dt53 81 3 = dt7 81 3 := hF55 81 (by decide) 3
  have w84 : dt53 81 4 = dt7 81 4 := hF55 81 (by decide) 4
  have w85 : dt53 81 5 = dt7 81 5 := hF55 81 (by decide) 5
  have w86 : dt53 79 2 = dt7 79 2 := hF55 79 (by decide) 2
  have w87 : dt53 79 12 = dt7 79 12 := hF55 79 (by decide) 12
  have w88 : dt53 79 19 = dt7 79 19 := hF55 79 (by decide) 19
  have w89 : dt53 79 21 = dt7 79 21 := hF55 79 (by decide) 21
  rcases h52 with ⟨v_h52, rfl, h52r, h52⟩
  have M290 : MW (dt53 81) := MW_frk M244 hF55 (by decide)
  have C91 : ∀ j : Nat, dt53 36 j = dt 36 j := fun j => (hF55 36 (by decide) j).trans (C45 j)
  have C92 : ∀ j : Nat, dt53 85 j = dt 85 j := fun j => (hF55 85 (by decide) j).trans (C46 j)
  refine go_to (k := 2) (pc' := 1435) (L' := [some (.inr (.inr (some 3000))), some (.inr (.inr (some 0))), some (.inr (.inr (some 79))), some (.inl i)]) (st' := []) (w' := (SH, dt53)) (fun _ => rfl) ?_
  exact K dt53 hI54 hM57 M290 (by first | omega | (simp only [*]; done) | simp only [*]) (by omega) (by omega) (by omega) (by omega) (by omega) (by omega) (by omega) (by omega) (by omega) (by omega) (by omega) (by omega) (by omega) (by omega) (by omega) (by first | exact hI | exact TPL_k hd0 C91 C92 (by omega) | (exfalso; omega))
set_option maxRecDepth 20000 in
set_option maxHeartbeats 8000000 in
theorem sp_case31 (L : Nat) (xs : Nat → Int32) (sio : Option Nat) (d : Nat) (Q : Option AV → am_W → Prop) (hLL : L ≤ 3072) (i : Int) (hi : 0 ≤ i ∧ i ≤ 3066) (hil : i ≤ (L : Int) - 6) (dt : Nat → Nat → Int) (hI : InvC dt) (hM : MW (dt 80)) (hM2 : MW (dt 81)) (hk0 : dt 1 0 = dt 80 0) (hk1 : dt 7 3 = dt 80 1) (hk2 : dt 10 3 = dt 80 2) (hk3 : dt 12 3 = dt 80 3) (hk4 : dt 14 3 = dt 80 4) (hk5 : dt 16 3 = dt 80 5) (hk6 : dt 18 0 = dt 81 0) (hk7 : dt 24 3 = dt 81 1) (hk8 : dt 27 3 = dt 81 2) (hk9 : dt 29 3 = dt 81 3) (hk10 : dt 31 3 = dt 81 4) (hk11 : dt 33 3 = dt 81 5) (hk12 : dt 0 2 = dt 79 2) (hk13 : dt 35 1 = dt 79 12) (hk14 : dt 35 2 = dt 79 19) (hk15 : dt 35 3 = dt 79 21) (hd0 : TPL (dt 36) (dt 85) (dt 35 1)) (K : ∀ (dt : Nat → Nat → Int) (hI : InvC dt) (hM : MW (dt 80)) (hM2 : MW (dt 81)) (hk0 : dt 1 0 = dt 80 0) (hk1 : dt 7 3 = dt 80 1) (hk2 : dt 10 3 = dt 80 2) (hk3 : dt 12 3 = dt 80 3) (hk4 : dt 14 3 = dt 80 4) (hk5 : dt 16 3 = dt 80 5) (hk6 : dt 18 0 = dt 81 0) (hk7 : dt 24 3 = dt 81 1) (hk8 : dt 27 3 = dt 81 2) (hk9 : dt 29 3 = dt 81 3) (hk10 : dt 31 3 = dt 81 4) (hk11 : dt 33 3 = dt 81 5) (hk12 : dt 0 2 = dt 79 2) (hk13 : dt 35 1 = dt 79 12) (hk14 : dt 35 2 = dt 79 19) (hk15 : dt 35 3 = dt 79 21) (hd0 : TPL (dt 36) (dt 85) (dt 35 1)), GO (am_XX L xs sio) (d + 39) 267 1435 [some (.inr (.inr (some 3000))), some (.inr (.inr (some 0))), some (.inr (.inr (some 79))), some (.inl i)] [] (SH, dt) Q) : GO (am_XX L xs sio) (d + 39) 267 1373 [some (.inr (.inr (some 3000))), some (.inr (.inr (some 0))), some (.inr (.inr (some 79))), some (.inl i)] [] (SH, dt) Q := by
  have hF : Fr [0, 1, 2, 3, 4, 5, 6, 7, 8, 9, 10, 11, 12, 13, 14, 15, 16, 17, 18, 19, 20, 21, 22, 23, 24, 25, 26, 27, 28, 29, 30, 31, 32, 33, 34, 35, 36, 37, 38, 39, 40, 41, 42, 43, 44, 45, 46, 47, 48, 49, 50, 51, 52, 53, 54, 55, 56, 57, 58, 59, 60, 61, 62, 63, 64, 65, 66, 67, 68, 69, 70, 71, 72, 73, 74, 75, 76, 77, 78, 79, 80, 81, 82, 83, 84, 85, 86, 87, 88, 89, 90, 91, 92, 93, 94, 95, 96, 97, 98, 99, 100, 101, 102, 103, 104] dt dt := Fr_refl
  refine go_to (k := 5) (pc' := 1378) (L' := [some (.inr (.inr (some 3000))), some (.inr (.inr (some 0))), some (.inr (.inr (some 79))), some (.inl i)]) (st' := [.inl (i + 1), .inr (.inr (some 3000)), .inr (.inr (some 0))]) (w' := (SH, dt)) (fun _ => rfl) ?_
  have r1 := i32_R (xs ((i + 1).toNat))
  refine go_smp (L' := [some (.inr (.inr (some 3000))), some (.inr (.inr (some 0))), some (.inr (.inr (some 79))), some (.inl i)]) (st' := [.inl ((xs ((i + 1).toNat)).toInt), .inr (.inr (some 0))]) (w' := (SH, dt)) rfl rfl (s_iald (n := L) (f := fun j => (xs j).toInt) (am_scr hLL) ⟨by omega, by omega⟩) ?_
  refine go_if (k := 1) (p1 := 1386) (p2 := 1382) (L' := [some (.inr (.inr (some 3000))), some (.inr (.inr (some 0))), some (.inr (.inr (some 79))), some (.inl i)]) (st' := [.inr (.inr (some 0))]) (w' := (SH, dt)) (fun _ => rfl) (z_eq (a := (xs ((i + 1).toNat)).toInt) ⟨by omega, by omega⟩) (fun c2 => ?_) (fun c2 => ?_)
  · skip
    refine go_to (k := 1) (pc' := 1387) (L' := [some (.inr (.inr (some 3000))), some (.inr (.inr (some 0))), some (.inr (.inr (some 79))), some (.inl i)]) (st' := [.inl 0, .inr (.inr (some 0))]) (w' := (SH, dt)) (fun _ => rfl) ?_
    refine go_call (Q' := _) rfl rfl rfl rfl rfl (sp_X5_image L xs sio (d + 35) dt hI  0 ⟨by omega, by omega⟩ ) ?_
    rintro _ _ ⟨dt4, rfl, hI5, hF6, h3⟩
    refine ⟨rfl, ?_⟩
    have hF7 : Fr [0, 1, 2, 3, 4, 5, 6, 7, 8, 9, 10, 11, 12, 13, 14, 15, 16, 17, 18, 19, 20, 21, 22, 23, 24, 25, 26, 27, 28, 29, 30, 31, 32, 33, 34, 35, 36, 37, 38, 39, 40, 41, 42, 43, 44, 45, 46, 47, 48, 49, 50, 51, 52, 53, 54, 55, 56, 57, 58, 59, 60, 61, 62, 63, 64, 65, 66, 67, 68, 69, 70, 71, 72, 73, 74, 75, 76, 77, 78, 79, 80, 81, 82, 83, 84, 85, 86, 87, 88, 89, 90, 91, 92, 93, 94, 95, 96, 97, 98, 99, 100, 101, 102, 103, 104] dt dt4 := Fr_tr hF hF6 (by decide)
    have hM8 : MW (dt4 80) := MW_fr hM hF6 (by decide)
    have w9 : dt4 35 1 = dt 35 1 := hF6 35 (by decide) 1
    have w10 : dt4 35 2 = dt 35 2 := hF6 35 (by decide) 2
    have w11 : dt4 35 3 = dt 35 3 := hF6 35 (by decide) 3
    have w12 : dt4 80 0 = dt 80 0 := hF6 80 (by decide) 0
    have w13 : dt4 80 1 = dt 80 1 := hF6 80 (by decide) 1
    have w14 : dt4 80 2 = dt 80 2 := hF6 80 (by decide) 2
    have w15 : dt4 80 3 = dt 80 3 := hF6 80 (by decide) 3
    have w16 : dt4 80 4 = dt 80 4 := hF6 80 (by decide) 4
    have w17 : dt4 80 5 = dt 80 5 := hF6 80 (by decide) 5
    have w18 : dt4 81 0 = dt 81 0 := hF6 81 (by decide) 0
    have w19 : dt4 81 1 = dt 81 1 := hF6 81 (by decide) 1
    have w20 : dt4 81 2 = dt 81 2 := hF6 81 (by decide) 2
    have w21 : dt4 81 3 = dt 81 3 := hF6 81 (by decide) 3
    have w22 : dt4 81 4 = dt 81 4 := hF6 81 (by decide) 4
    have w23 : dt4 81 5 = dt 81 5 := hF6 81 (by decide) 5
    have w24 : dt4 79 2 = dt 79 2 := hF6 79 (by decide) 2
    have w25 : dt4 79 12 = dt 79 12 := hF6 79 (by decide) 12
    have w26 : dt4 79 19 = dt 79 19 := hF6 79 (by decide) 19
    have w27 : dt4 79 21 = dt 79 21 := hF6 79 (by decide) 21
    rcases h3 with ⟨v_h3, rfl, h3r, h3⟩ | ⟨v_h3, rfl, h3r, h3⟩ | ⟨v_h3, rfl, h3r, h3⟩
    · skip
      obtain ⟨h3_0, h3_1, h3_2, h3_3, h3_4, h3_5, h3_6, h3_7, h3_8, h3_9, h3_10, h3_11, h3_12, h3_13, h3_14⟩ := h3
      have M228 : MW (dt4 81) := MW_frk hM2 hF6 (by decide)
      have C29 : ∀ j : Nat, dt4 36 j = dt 36 j := fun j => (hF6 36 (by decide) j).trans ((fun _ => rfl) j)
      have C30 : ∀ j : Nat, dt4 85 j = dt 85 j := fun j => (hF6 85 (by decide) j).trans ((fun _ => rfl) j)
      refine go_to (k := 6) (pc' := 1396) (L' := [some (.inr (.inr (some 3000))), some (.inr (.inr (some 0))), some (.inr (.inr (some 79))), some (.inl i)]) (st' := [.inl (i + 1), .inr (.inr (some 3000)), .inr (.inr (some 79))]) (w' := (SH, dt4)) (fun _ => rfl) ?_
      have r31 := i32_R (xs ((i + 1).toNat))
      refine go_smp (L' := [some (.inr (.inr (some 3000))), some (.inr (.inr (some 0))), some (.inr (.inr (some 79))), some (.inl i)]) (st' := [.inl ((xs ((i + 1).toNat)).toInt), .inr (.inr (some 79))]) (w' := (SH, dt4)) rfl rfl (s_iald (n := L) (f := fun j => (xs j).toInt) (am_scr hLL) ⟨by omega, by omega⟩) ?_
      refine go_if (k := 1) (p1 := 1404) (p2 := 1400) (L' := [some (.inr (.inr (some 3000))), some (.inr (.inr (some 0))), some (.inr (.inr (some 79))), some (.inl i)]) (st' := [.inr (.inr (some 79))]) (w' := (SH, dt4)) (fun _ => rfl) (z_eq (a := (xs ((i + 1).toNat)).toInt) ⟨by omega, by omega⟩) (fun c32 => ?_) (fun c32 => ?_)
      · skip
        refine go_to (k := 1) (pc' := 1405) (L' := [some (.inr (.inr (some 3000))), some (.inr (.inr (some 0))), some (.inr (.inr (some 79))), some (.inl i)]) (st' := [.inl 0, .inr (.inr (some 79))]) (w' := (SH, dt4)) (fun _ => rfl) ?_
        refine go_call (Q' := _) rfl rfl rfl rfl rfl (sp_X6_image_0k L xs sio (d + 38) dt4 hI5 hM8   (by first | trivial | omega | exact M228)) ?_
        rintro _ _ ⟨dt34, rfl, hI35, hF36, h33⟩
        refine ⟨rfl, ?_⟩
        have hF37 : Fr [0, 1, 2, 3, 4, 5, 6, 7, 8, 9, 10, 11, 12, 13, 14, 15, 16, 17, 18, 19, 20, 21, 22, 23, 24, 25, 26, 27, 28, 29, 30, 31, 32, 33, 34, 35, 36, 37, 38, 39, 40, 41, 42, 43, 44, 45, 46, 47, 48, 49, 50, 51, 52, 53, 54, 55, 56, 57, 58, 59, 60, 61, 62, 63, 64, 65, 66, 67, 68, 69, 70, 71, 72, 73, 74, 75, 76, 77, 78, 79, 80, 81, 82, 83, 84, 85, 86, 87, 88, 89, 90, 91, 92, 93, 94, 95, 96, 97, 98, 99, 100, 101, 102, 103, 104] dt dt34 := Fr_tr hF7 hF36 (by decide)
        have w38 : dt34 1 0 = dt4 1 0 := hF36 1 (by decide) 0
        have w39 : dt34 7 3 = dt4 7 3 := hF36 7 (by decide) 3
        have w40 : dt34 10 3 = dt4 10 3 := hF36 10 (by decide) 3
        have w41 : dt34 12 3 = dt4 12 3 := hF36 12 (by decide) 3
        have w42 : dt34 14 3 = dt4 14 3 := hF36 14 (by decide) 3
        have w43 : dt34 16 3 = dt4 16 3 := hF36 16 (by decide) 3
        have w44 : dt34 18 0 = dt4 18 0 := hF36 18 (by decide) 0
        have w45 : dt34 24 3 = dt4 24 3 := hF36 24 (by decide) 3
        have w46 : dt34 27 3 = dt4 27 3 := hF36 27 (by decide) 3
        have w47 : dt34 29 3 = dt4 29 3 := hF36 29 (by decide) 3
        have w48 : dt34 31 3 = dt4 31 3 := hF36 31 (by decide) 3
        have w49 : dt34 33 3 = dt4 33 3 := hF36 33 (by decide) 3
        have w50 : dt34 0 2 = dt4 0 2 := hF36 0 (by decide) 2
        have w51 : dt34 35 1 = dt4 35 1 := hF36 35 (by decide) 1
        have w52 : dt34 35 2 = dt4 35 2 := hF36 35 (by decide) 2
        have w53 : dt34 35 3 = dt4 35 3 := hF36 35 (by decide) 3
        have w54 : dt34 81 0 = dt4 81 0 := hF36 81 (by decide) 0
        have w55 : dt34 81 1 = dt4 81 1 := hF36 81 (by decide) 1
        have w56 : dt34 81 2 = dt4 81 2 := hF36 81 (by decide) 2
        have w57 : dt34 81 3 = dt4 81 3 := hF36 81 (by decide) 3
        have w58 : dt34 81 4 = dt4 81 4 := hF36 81 (by decide) 4
        have w59 : dt34 81 5 = dt4 81 5 := hF36 81 (by decide) 5
        rcases h33 with ⟨rfl, h33⟩ | ⟨rfl, h33⟩
        · skip
          have hM60 : MW (dt34 80) := h33.2.2.1
          obtain ⟨h33_0, h33_1, h33_2, h33_3, h33_4, h33_5, h33_6, h33_7, h33_8⟩ := h33
          have M261 : MW (dt34 81) := MW_frk M228 hF36 (by decide)
          have y62 := h33_4 0 (by decide)
          have y63 := h33_4 1 (by decide)
          have y64 := h33_4 2 (by decide)
          have y65 := h33_4 3 (by decide)
          have y66 := h33_4 4 (by decide)
          have y67 := h33_4 5 (by decide)
          have y68 := h33_5 0 (by decide)
          have y69 := h33_5 1 (by decide)
          have y70 := h33_5 2 (by decide)
          have y71 := h33_5 3 (by decide)
          have y72 := h33_5 4 (by decide)
          have y73 := h33_5 5 (by decide)
          have C74 : ∀ j : Nat, dt34 36 j = dt 36 j := fun j => (hF36 36 (by decide) j).trans (C29 j)
          have C75 : ∀ j : Nat, dt34 85 j = dt 85 j := fun j => (hF36 85 (by decide) j).trans (C30 j)
          refine go_to (k := 2) (pc' := 1435) (L' := [some (.inr (.inr (some 3000))), some (.inr (.inr (some 0))), some (.inr (.inr (some 79))), some (.inl i)]) (st' := []) (w' := (SH, dt34)) (fun _ => rfl) ?_
          exact K dt34 hI35 hM60 M261 (by first | omega | (simp only [*]; done) | simp only [*]) (by omega) (by omega) (by omega) (by omega) (by omega) (by omega) (by omega) (by omega) (by omega) (by omega) (by omega) (by omega) (by omega) (by omega) (by omega) (by first | exact hI | exact TPL_k hd0 C74 C75 (by omega) | (exfalso; omega))
        · skip
          have hM76 : MW (dt34 80) := h33.2.2.1
          obtain ⟨h33_0, h33_1, h33_2, h33_3, h33_4, h33_5, h33_6, h33_7, h33_8⟩ := h33
          have M277 : MW (dt34 81) := MW_frk M228 hF36 (by decide)
          have y78 := h33_4 0 (by decide)
          have y79 := h33_4 1 (by decide)
          have y80 := h33_4 2 (by decide)
          have y81 := h33_4 3 (by decide)
          have y82 := h33_4 4 (by decide)
          have y83 := h33_4 5 (by decide)
          have y84 := h33_5 0 (by decide)
          have y85 := h33_5 1 (by decide)
          have y86 := h33_5 2 (by decide)
          have y87 := h33_5 3 (by decide)
          have y88 := h33_5 4 (by decide)
          have y89 := h33_5 5 (by decide)
          have C90 : ∀ j : Nat, dt34 36 j = dt 36 j := fun j => (hF36 36 (by decide) j).trans (C29 j)
          have C91 : ∀ j : Nat, dt34 85 j = dt 85 j := fun j => (hF36 85 (by decide) j).trans (C30 j)
          refine go_to (k := 2) (pc' := 1435) (L' := [some (.inr (.inr (some 3000))), some (.inr (.inr (some 0))), some (.inr (.inr (some 79))), some (.inl i)]) (st' := []) (w' := (SH, dt34)) (fun _ => rfl) ?_
          exact K dt34 hI35 hM76 M277 (by first | omega | (simp only [*]; done) | simp only [*]) (by omega) (by omega) (by omega) (by omega) (by omega) (by omega) (by omega) (by omega) (by omega) (by omega) (by omega) (by omega) (by omega) (by omega) (by omega) (by first | exact hI | exact TPL_k hd0 C90 C91 (by omega) | (exfalso; omega))
      · skip
        refine go_to (k := 2) (pc' := 1405) (L' := [some (.inr (.inr (some 3000))), some (.inr (.inr (some 0))), some (.inr (.inr (some 79))), some (.inl i)]) (st' := [.inl 1, .inr (.inr (some 79))]) (w' := (SH, dt4)) (fun _ => rfl) ?_
        refine go_call (Q' := _) rfl rfl rfl rfl rfl (sp_X6_image_1k L xs sio (d + 38) dt4 hI5 hM8   ) ?_
        rintro _ _ ⟨dt93, rfl, hI94, hF95, h92⟩
        refine ⟨rfl, ?_⟩
        have hF96 : Fr [0, 1, 2, 3, 4, 5, 6, 7, 8, 9, 10, 11, 12, 13, 14, 15, 16, 17, 18, 19, 20, 21, 22, 23, 24, 25, 26, 27, 28, 29, 30, 31, 32, 33, 34, 35, 36, 37, 38, 39, 40, 41, 42, 43, 44, 45, 46, 47, 48, 49, 50, 51, 52, 53, 54, 55, 56, 57, 58, 59, 60, 61, 62, 63, 64, 65, 66, 67, 68, 69, 70, 71, 72, 73, 74, 75, 76, 77, 78, 79, 80, 81, 82, 83, 84, 85, 86, 87, 88, 89, 90, 91, 92, 93, 94, 95, 96, 97, 98, 99, 100, 101, 102, 103, 104] dt dt93 := Fr_tr hF7 hF95 (by decide)
        have hM97 : MW (dt93 80) := MW_fr hM8 hF95 (by decide)
        have w98 : dt93 1 0 = dt4 1 0 := hF95 1 (by decide) 0
        have w99 : dt93 7 3 = dt4 7 3 := hF95 7 (by decide) 3
        have w100 : dt93 10 3 = dt4 10 3 := hF95 10 (by decide) 3
        have w101 : dt93 12 3 = dt4 12 3 := hF95 12 (by decide) 3
        have w102 : dt93 14 3 = dt4 14 3 := hF95 14 (by decide) 3
        have w103 : dt93 16 3 = dt4 16 3 := hF95 16 (by decide) 3
        have w104 : dt93 18 0 = dt4 18 0 := hF95 18 (by decide) 0
        have w105 : dt93 24 3 = dt4 24 3 := hF95 24 (by decide) 3
        have w106 : dt93 27 3 = dt4 27 3 := hF95 27 (by decide) 3
        have w107 : dt93 29 3 = dt4 29 3 := hF95 29 (by decide) 3
        have w108 : dt93 31 3 = dt4 31 3 := hF95 31 (by decide) 3
        have w109 : dt93 33 3 = dt4 33 3 := hF95 33 (by decide) 3
        have w110 : dt93 0 2 = dt4 0 2 := hF95 0 (by decide) 2
        have w111 : dt93 35 1 = dt4 35 1 := hF95 35 (by decide) 1
        have w112 : dt93 35 2 = dt4 35 2 := hF95 35 (by decide) 2
        have w113 : dt93 35 3 = dt4 35 3 := hF95 35 (by decide) 3
        have w114 : dt93 80 0 = dt4 80 0 := hF95 80 (by decide) 0
        have w115 : dt93 80 1 = dt4 80 1 := hF95 80 (by decide) 1
        have w116 : dt93 80 2 = dt4 80 2 := hF95 80 (by decide) 2
        have w117 : dt93 80 3 = dt4 80 3 := hF95 80 (by decide) 3
        have w118 : dt93 80 4 = dt4 80 4 := hF95 80 (by decide) 4
        have w119 : dt93 80 5 = dt4 80 5 := hF95 80 (by decide) 5
        rcases h92 with ⟨rfl, h92⟩
        have hM120 : MW (dt93 80) := h92.2.1
        obtain ⟨h92_0, h92_1, h92_2, h92_3, h92_4, h92_5, h92_6, h92_7⟩ := h92
        have y121 := h92_3 0 (by decide)
        have y122 := h92_3 1 (by decide)
        have y123 := h92_3 2 (by decide)
        have y124 := h92_3 3 (by decide)
        have y125 := h92_3 4 (by decide)
        have y126 := h92_3 5 (by decide)
        have y127 := h92_4 0 (by decide)
        have y128 := h92_4 1 (by decide)
        have y129 := h92_4 2 (by decide)
        have y130 := h92_4 3 (by decide)
        have y131 := h92_4 4 (by decide)
        have y132 := h92_4 5 (by decide)
        have C133 : ∀ j : Nat, dt93 36 j = dt 36 j := fun j => (hF95 36 (by decide) j).trans (C29 j)
        have C134 : ∀ j : Nat, dt93 85 j = dt 85 j := fun j => (hF95 85 (by decide) j).trans (C30 j)
        refine go_to (k := 2) (pc' := 1435) (L' := [some (.inr (.inr (some 3000))), some (.inr (.inr (some 0))), some (.inr (.inr (some 79))), some (.inl i)]) (st' := []) (w' := (SH, dt93)) (fun _ => rfl) ?_
        exact K dt93 hI94 hM120 h92_2 (by first | omega | (simp only [*]; done) | simp only [*]) (by omega) (by omega) (by omega) (by omega) (by omega) (by omega) (by omega) (by omega) (by omega) (by omega) (by omega) (by omega) (by omega) (by omega) (by omega) (by first | exact hI | exact TPL_k hd0 C133 C134 (by omega) | (exfalso; omega))
    · skip
      obtain ⟨h3_0, h3_1, h3_2, h3_3, h3_4, h3_5, h3_6, h3_7, h3_8, h3_9, h3_10, h3_11, h3_12, h3_13, h3_14, h3_15⟩ := h3
      have M2135 : MW (dt4 81) := MW_frk hM2 hF6 (by decide)
      have C136 : ∀ j : Nat, dt4 36 j = dt 36 j := fun j => (hF6 36 (by decide) j).trans ((fun _ => rfl) j)
      have C137 : ∀ j : Nat, dt4 85 j = dt 85 j := fun j => (hF6 85 (by decide) j).trans ((fun _ => rfl) j)
      refine go_to (k := 6) (pc' := 1396) (L' := [some (.inr (.inr (some 3000))), some (.inr (.inr (some 0))), some (.inr (.inr (some 79))), some (.inl i)]) (st' := [.inl (i + 1), .inr (.inr (some 3000)), .inr (.inr (some 79))]) (w' := (SH, dt4)) (fun _ => rfl) ?_
      have r138 := i32_R (xs ((i + 1).toNat))
      refine go_smp (L' := [some (.inr (.inr (some 3000))), some (.inr (.inr (some 0))), some (.inr (.inr (some 79))), some (.inl i)]) (st' := [.inl ((xs ((i + 1).toNat)).toInt), .inr (.inr (some 79))]) (w' := (SH, dt4)) rfl rfl (s_iald (n := L) (f := fun j => (xs j).toInt) (am_scr hLL) ⟨by omega, by omega⟩) ?_
      refine go_if (k := 1) (p1 := 1404) (p2 := 1400) (L' := [some (.inr (.inr (some 3000))), some (.inr (.inr (some 0))), some (.inr (.inr (some 79))), some (.inl i)]) (st' := [.inr (.inr (some 79))]) (w' := (SH, dt4)) (fun _ => rfl) (z_eq (a := (xs ((i + 1).toNat)).toInt) ⟨by omega, by omega⟩) (fun c139 => ?_) (fun c139 => ?_)
      · skip
        refine go_to (k := 1) (pc' := 1405) (L' := [some (.inr (.inr (some 3000))), some (.inr (.inr (some 0))), some (.inr (.inr (some 79))), some (.inl i)]) (st' := [.inl 0, .inr (.inr (some 79))]) (w' := (SH, dt4)) (fun _ => rfl) ?_
        refine go_call (Q' := _) rfl rfl rfl rfl rfl (sp_X6_image_0k L xs sio (d + 38) dt4 hI5 hM8   (by first | trivial | omega | exact M2135)) ?_
        rintro _ _ ⟨dt141, rfl, hI142, hF143, h140⟩
        refine ⟨rfl, ?_⟩
        have hF144 : Fr [0, 1, 2, 3, 4, 5, 6, 7, 8, 9, 10, 11, 12, 13, 14, 15, 16, 17, 18, 19, 20, 21, 22, 23, 24, 25, 26, 27, 28, 29, 30, 31, 32, 33, 34, 35, 36, 37, 38, 39, 40, 41, 42, 43, 44, 45, 46, 47, 48, 49, 50, 51, 52, 53, 54, 55, 56, 57, 58, 59, 60, 61, 62, 63, 64, 65, 66, 67, 68, 69, 70, 71, 72, 73, 74, 75, 76, 77, 78, 79, 80, 81, 82, 83, 84, 85, 86, 87, 88, 89, 90, 91, 92, 93, 94, 95, 96, 97, 98, 99, 100, 101, 102, 103, 104] dt dt141 := Fr_tr hF7 hF143 (by decide)
        have w145 : dt141 1 0 = dt4 1 0 := hF143 1 (by decide) 0
        have w146 : dt141 7 3 = dt4 7 3 := hF143 7 (by decide) 3
        have w147 : dt141 10 3 = dt4 10 3 := hF143 10 (by decide) 3
        have w148 : dt141 12 3 = dt4 12 3 := hF143 12 (by decide) 3
        have w149 : dt141 14 3 = dt4 14 3 := hF143 14 (by decide) 3
        have w150 : dt141 16 3 = dt4 16 3 := hF143 16 (by decide) 3
        have w151 : dt141 18 0 = dt4 18 0 := hF143 18 (by decide) 0
        have w152 : dt141 24 3 = dt4 24 3 := hF143 24 (by decide) 3
        have w153 : dt141 27 3 = dt4 27 3 := hF143 27 (by decide) 3
        have w154 : dt141 29 3 = dt4 29 3 := hF143 29 (by decide) 3
        have w155 : dt141 31 3 = dt4 31 3 := hF143 31 (by decide) 3
        have w156 : dt141 33 3 = dt4 33 3 := hF143 33 (by decide) 3
        have w157 : dt141 0 2 = dt4 0 2 := hF143 0 (by decide) 2
        have w158 : dt141 35 1 = dt4 35 1 := hF143 35 (by decide) 1
        have w159 : dt141 35 2 = dt4 35 2 := hF143 35 (by decide) 2
        have w160 : dt141 35 3 = dt4 35 3 := hF143 35 (by decide) 3
        have w161 : dt141 81 0 = dt4 81 0 := hF143 81 (by decide) 0
        have w162 : dt141 81 1 = dt4 81 1 := hF143 81 (by decide) 1
        have w163 : dt141 81 2 = dt4 81 2 := hF143 81 (by decide) 2
        have w164 : dt141 81 3 = dt4 81 3 := hF143 81 (by decide) 3
        have w165 : dt141 81 4 = dt4 81 4 := hF143 81 (by decide) 4
        have w166 : dt141 81 5 = dt4 81 5 := hF143 81 (by decide) 5
        rcases h140 with ⟨rfl, h140⟩ | ⟨rfl, h140⟩
        · skip
          have hM167 : MW (dt141 80) := h140.2.2.1
          obtain ⟨h140_0, h140_1, h140_2, h140_3, h140_4, h140_5, h140_6, h140_7, h140_8⟩ := h140
          have M2168 : MW (dt141 81) := MW_frk M2135 hF143 (by decide)
          have y169 := h140_4 0 (by decide)
          have y170 := h140_4 1 (by decide)
          have y171 := h140_4 2 (by decide)
          have y172 := h140_4 3 (by decide)
          have y173 := h140_4 4 (by decide)
          have y174 := h140_4 5 (by decide)
          have y175 := h140_5 0 (by decide)
          have y176 := h140_5 1 (by decide)
          have y177 := h140_5 2 (by decide)
          have y178 := h140_5 3 (by decide)
          have y179 := h140_5 4 (by decide)
          have y180 := h140_5 5 (by decide)
          have C181 : ∀ j : Nat, dt141 36 j = dt 36 j := fun j => (hF143 36 (by decide) j).trans (C136 j)
          have C182 : ∀ j : Nat, dt141 85 j = dt 85 j := fun j => (hF143 85 (by decide) j).trans (C137 j)
          refine go_to (k := 2) (pc' := 1435) (L' := [some (.inr (.inr (some 3000))), some (.inr (.inr (some 0))), some (.inr (.inr (some 79))), some (.inl i)]) (st' := []) (w' := (SH, dt141)) (fun _ => rfl) ?_
          exact K dt141 hI142 hM167 M2168 (by first | omega | (simp only [*]; done) | simp only [*]) (by omega) (by omega) (by omega) (by omega) (by omega) (by omega) (by omega) (by omega) (by omega) (by omega) (by omega) (by omega) (by omega) (by omega) (by omega) (by first | exact hI | exact TPL_k hd0 C181 C182 (by omega) | (exfalso; omega))
        · skip
          have hM183 : MW (dt141 80) := h140.2.2.1
          obtain ⟨h140_0, h140_1, h140_2, h140_3, h140_4, h140_5, h140_6, h140_7, h140_8⟩ := h140
          have M2184 : MW (dt141 81) := MW_frk M2135 hF143 (by decide)
          have y185 := h140_4 0 (by decide)
          have y186 := h140_4 1 (by decide)
          have y187 := h140_4 2 (by decide)
          have y188 := h140_4 3 (by decide)
          have y189 := h140_4 4 (by decide)
          have y190 := h140_4 5 (by decide)
          have y191 := h140_5 0 (by decide)
          have y192 := h140_5 1 (by decide)
          have y193 := h140_5 2 (by decide)
          have y194 := h140_5 3 (by decide)
          have y195 := h140_5 4 (by decide)
          have y196 := h140_5 5 (by decide)
          have C197 : ∀ j : Nat, dt141 36 j = dt 36 j := fun j => (hF143 36 (by decide) j).trans (C136 j)
          have C198 : ∀ j : Nat, dt141 85 j = dt 85 j := fun j => (hF143 85 (by decide) j).trans (C137 j)
          refine go_to (k := 2) (pc' := 1435) (L' := [some (.inr (.inr (some 3000))), some (.inr (.inr (some 0))), some (.inr (.inr (some 79))), some (.inl i)]) (st' := []) (w' := (SH, dt141)) (fun _ => rfl) ?_
          exact K dt141 hI142 hM183 M2184 (by first | omega | (simp only [*]; done) | simp only [*]) (by omega) (by omega) (by omega) (by omega) (by omega) (by omega) (by omega) (by omega) (by omega) (by omega) (by omega) (by omega) (by omega) (by omega) (by omega) (by first | exact hI | exact TPL_k hd0 C197 C198 (by omega) | (exfalso; omega))
      · skip
        refine go_to (k := 2) (pc' := 1405) (L' := [some (.inr (.inr (some 3000))), some (.inr (.inr (some 0))), some (.inr (.inr (some 79))), some (.inl i)]) (st' := [.inl 1, .inr (.inr (some 79))]) (w' := (SH, dt4)) (fun _ => rfl) ?_
        refine go_call (Q' := _) rfl rfl rfl rfl rfl (sp_X6_image_1k L xs sio (d + 38) dt4 hI5 hM8   ) ?_
        rintro _ _ ⟨dt200, rfl, hI201, hF202, h199⟩
        refine ⟨rfl, ?_⟩
        have hF203 : Fr [0, 1, 2, 3, 4, 5, 6, 7, 8, 9, 10, 11, 12, 13, 14, 15, 16, 17, 18, 19, 20, 21, 22, 23, 24, 25, 26, 27, 28, 29, 30, 31, 32, 33, 34, 35, 36, 37, 38, 39, 40, 41, 42, 43, 44, 45, 46, 47, 48, 49, 50, 51, 52, 53, 54, 55, 56, 57, 58, 59, 60, 61, 62, 63, 64, 65, 66, 67, 68, 69, 70, 71, 72, 73, 74, 75, 76, 77, 78, 79, 80, 81, 82, 83, 84, 85, 86, 87, 88, 89, 90, 91, 92, 93, 94, 95, 96, 97, 98, 99, 100, 101, 102, 103, 104] dt dt200 := Fr_tr hF7 hF202 (by decide)
        have hM204 : MW (dt200 80) := MW_fr hM8 hF202 (by decide)
        have w205 : dt200 1 0 = dt4 1 0 := hF202 1 (by decide) 0
        have w206 : dt200 7 3 = dt4 7 3 := hF202 7 (by decide) 3
        have w207 : dt200 10 3 = dt4 10 3 := hF202 10 (by decide) 3
        have w208 : dt200 12 3 = dt4 12 3 := hF202 12 (by decide) 3
        have w209 : dt200 14 3 = dt4 14 3 := hF202 14 (by decide) 3
        have w210 : dt200 16 3 = dt4 16 3 := hF202 16 (by decide) 3
        have w211 : dt200 18 0 = dt4 18 0 := hF202 18 (by decide) 0
        have w212 : dt200 24 3 = dt4 24 3 := hF202 24 (by decide) 3
        have w213 : dt200 27 3 = dt4 27 3 := hF202 27 (by decide) 3
        have w214 : dt200 29 3 = dt4 29 3 := hF202 29 (by decide) 3
        have w215 : dt200 31 3 = dt4 31 3 := hF202 31 (by decide) 3
        have w216 : dt200 33 3 = dt4 33 3 := hF202 33 (by decide) 3
        have w217 : dt200 0 2 = dt4 0 2 := hF202 0 (by decide) 2
        have w218 : dt200 35 1 = dt4 35 1 := hF202 35 (by decide) 1
        have w219 : dt200 35 2 = dt4 35 2 := hF202 35 (by decide) 2
        have w220 : dt200 35 3 = dt4 35 3 := hF202 35 (by decide) 3
        have w221 : dt200 80 0 = dt4 80 0 := hF202 80 (by decide) 0
        have w222 : dt200 80 1 = dt4 80 1 := hF202 80 (by decide) 1
        have w223 : dt200 80 2 = dt4 80 2 := hF202 80 (by decide) 2
        have w224 : dt200 80 3 = dt4 80 3 := hF202 80 (by decide) 3
        have w225 : dt200 80 4 = dt4 80 4 := hF202 80 (by decide) 4
        have w226 : dt200 80 5 = dt4 80 5 := hF202 80 (by decide) 5
        rcases h199 with ⟨rfl, h199⟩
        have hM227 : MW (dt200 80) := h199.2.1
        obtain ⟨h199_0, h199_1, h199_2, h199_3, h199_4, h199_5, h199_6, h199_7⟩ := h199
        have y228 := h199_3 0 (by decide)
        have y229 := h199_3 1 (by decide)
        have y230 := h199_3 2 (by decide)
        have y231 := h199_3 3 (by decide)
        have y232 := h199_3 4 (by decide)
        have y233 := h199_3 5 (by decide)
        have y234 := h199_4 0 (by decide)
        have y235 := h199_4 1 (by decide)
        have y236 := h199_4 2 (by decide)
        have y237 := h199_4 3 (by decide)
        have y238 := h199_4 4 (by decide)
        have y239 := h199_4 5 (by decide)
        have C240 : ∀ j : Nat, dt200 36 j = dt 36 j := fun j => (hF202 36 (by decide) j).trans (C136 j)
        have C241 : ∀ j : Nat, dt200 85 j = dt 85 j := fun j => (hF202 85 (by decide) j).trans (C137 j)
        refine go_to (k := 2) (pc' := 1435) (L' := [some (.inr (.inr (some 3000))), some (.inr (.inr (some 0))), some (.inr (.inr (some 79))), some (.inl i)]) (st' := []) (w' := (SH, dt200)) (fun _ => rfl) ?_
        exact K dt200 hI201 hM227 h199_2 (by first | omega | (simp only [*]; done) | simp only [*]) (by omega) (by omega) (by omega) (by omega) (by omega) (by omega) (by omega) (by omega) (by omega) (by omega) (by omega) (by omega) (by omega) (by omega) (by omega) (by first | exact hI | exact TPL_k hd0 C240 C241 (by omega) | (exfalso; omega))
    · skip
      obtain ⟨h3_0, h3_1, h3_2, h3_3, h3_4, h3_5, h3_6, h3_7, h3_8, h3_9, h3_10, h3_11, h3_12, h3_13, h3_14, h3_15⟩ := h3
      have M2242 : MW (dt4 81) := MW_frk hM2 hF6 (by decide)
      have C243 : ∀ j : Nat, dt4 36 j = dt 36 j := fun j => (hF6 36 (by decide) j).trans ((fun _ => rfl) j)
      have C244 : ∀ j : Nat, dt4 85 j = dt 85 j := fun j => (hF6 85 (by decide) j).trans ((fun _ => rfl) j)
      refine go_to (k := 6) (pc' := 1396) (L' := [some (.inr (.inr (some 3000))), some (.inr (.inr (some 0))), some (.inr (.inr (some 79))), some (.inl i)]) (st' := [.inl (i + 1), .inr (.inr (some 3000)), .inr (.inr (some 79))]) (w' := (SH, dt4)) (fun _ => rfl) ?_
      have r245 := i32_R (xs ((i + 1).toNat))
      refine go_smp (L' := [some (.inr (.inr (some 3000))), some (.inr (.inr (some 0))), some (.inr (.inr (some 79))), some (.inl i)]) (st' := [.inl ((xs ((i + 1).toNat)).toInt), .inr (.inr (some 79))]) (w' := (SH, dt4)) rfl rfl (s_iald (n := L) (f := fun j => (xs j).toInt) (am_scr hLL) ⟨by omega, by omega⟩) ?_
      refine go_if (k := 1) (p1 := 1404) (p2 := 1400) (L' := [some (.inr (.inr (some 3000))), some (.inr (.inr (some 0))), some (.inr (.inr (some 79))), some (.inl i)]) (st' := [.inr (.inr (some 79))]) (w' := (SH, dt4)) (fun _ => rfl) (z_eq (a := (xs ((i + 1).toNat)).toInt) ⟨by omega, by omega⟩) (fun c246 => ?_) (fun c246 => ?_)
      · skip
        refine go_to (k := 1) (pc' := 1405) (L' := [some (.inr (.inr (some 3000))), some (.inr (.inr (some 0))), some (.inr (.inr (some 79))), some (.inl i)]) (st' := [.inl 0, .inr (.inr (some 79))]) (w' := (SH, dt4)) (fun _ => rfl) ?_
        refine go_call (Q' := _) rfl rfl rfl rfl rfl (sp_X6_image_0k L xs sio (d + 38) dt4 hI5 hM8   (by first | trivial | omega | exact M2242)) ?_
        rintro _ _ ⟨dt248, rfl, hI249, hF250, h247⟩
        refine ⟨rfl, ?_⟩
        have hF251 : Fr [0, 1, 2, 3, 4, 5, 6, 7, 8, 9, 10, 11, 12, 13, 14, 15, 16, 17, 18, 19, 20, 21, 22, 23, 24, 25, 26, 27, 28, 29, 30, 31, 32, 33, 34, 35, 36, 37, 38, 39, 40, 41, 42, 43, 44, 45, 46, 47, 48, 49, 50, 51, 52, 53, 54, 55, 56, 57, 58, 59, 60, 61, 62, 63, 64, 65, 66, 67, 68, 69, 70, 71, 72, 73, 74, 75, 76, 77, 78, 79, 80, 81, 82, 83, 84, 85, 86, 87, 88, 89, 90, 91, 92, 93, 94, 95, 96, 97, 98, 99, 100, 101, 102, 103, 104] dt dt248 := Fr_tr hF7 hF250 (by decide)
        have w252 : dt248 1 0 = dt4 1 0 := hF250 1 (by decide) 0
        have w253 : dt248 7 3 = dt4 7 3 := hF250 7 (by decide) 3
        have w254 : dt248 10 3 = dt4 10 3 := hF250 10 (by decide) 3
        have w255 : dt248 12 3 = dt4 12 3 := hF250 12 (by decide) 3
        have w256 : dt248 14 3 = dt4 14 3 := hF250 14 (by decide) 3
        have w257 : dt248 16 3 = dt4 16 3 := hF250 16 (by decide) 3
        have w258 : dt248 18 0 = dt4 18 0 := hF250 18 (by decide) 0
        have w259 : dt248 24 3 = dt4 24 3 := hF250 24 (by decide) 3
        have w260 : dt248 27 3 = dt4 27 3 := hF250 27 (by decide) 3
        have w261 : dt248 29 3 = dt4 29 3 := hF250 29 (by decide) 3
        have w262 : dt248 31 3 = dt4 31 3 := hF250 31 (by decide) 3
        have w263 : dt248 33 3 = dt4 33 3 := hF250 33 (by decide) 3
        have w264 : dt248 0 2 = dt4 0 2 := hF250 0 (by decide) 2
        have w265 : dt248 35 1 = dt4 35 1 := hF250 35 (by decide) 1
        have w266 : dt248 35 2 = dt4 35 2 := hF250 35 (by decide) 2
        have w267 : dt248 35 3 = dt4 35 3 := hF250 35 (by decide) 3
        have w268 : dt248 81 0 = dt4 81 0 := hF250 81 (by decide) 0
        have w269 : dt248 81 1 = dt4 81 1 := hF250 81 (by decide) 1
        have w270 : dt248 81 2 = dt4 81 2 := hF250 81 (by decide) 2
        have w271 : dt248 81 3 = dt4 81 3 := hF250 81 (by decide) 3
        have w272 : dt248 81 4 = dt4 81 4 := hF250 81 (by decide) 4
        have w273 : dt248 81 5 = dt4 81 5 := hF250 81 (by decide) 5
        rcases h247 with ⟨rfl, h247⟩ | ⟨rfl, h247⟩
        · skip
          have hM274 : MW (dt248 80) := h247.2.2.1
          obtain ⟨h247_0, h247_1, h247_2, h247_3, h247_4, h247_5, h247_6, h247_7, h247_8⟩ := h247
          have M2275 : MW (dt248 81) := MW_frk M2242 hF250 (by decide)
          have y276 := h247_4 0 (by decide)
          have y277 := h247_4 1 (by decide)
          have y278 := h247_4 2 (by decide)
          have y279 := h247_4 3 (by decide)
          have y280 := h247_4 4 (by decide)
          have y281 := h247_4 5 (by decide)
          have y282 := h247_5 0 (by decide)
          have y283 := h247_5 1 (by decide)
          have y284 := h247_5 2 (by decide)
          have y285 := h247_5 3 (by decide)
          have y286 := h247_5 4 (by decide)
          have y287 := h247_5 5 (by decide)
          have C288 : ∀ j : Nat, dt248 36 j = dt 36 j := fun j => (hF250 36 (by decide) j).trans (C243 j)
          have C289 : ∀ j : Nat, dt248 85 j = dt 85 j := fun j => (hF250 85 (by decide) j).trans (C244 j)
          refine go_to (k := 2) (pc' := 1435) (L' := [some (.inr (.inr (some 3000))), some (.inr (.inr (some 0))), some (.inr (.inr (some 79))), some (.inl i)]) (st' := []) (w' := (SH, dt248)) (fun _ => rfl) ?_
          exact K dt248 hI249 hM274 M2275 (by first | omega | (simp only [*]; done) | simp only [*]) (by omega) (by omega) (by omega) (by omega) (by omega) (by omega) (by omega) (by omega) (by omega) (by omega) (by omega) (by omega) (by omega) (by omega) (by omega) (by first | exact hI | exact TPL_k hd0 C288 C289 (by omega) | (exfalso; omega))
        · skip
          have hM290 : MW (dt248 80) := h247.2.2.1
          obtain ⟨h247_0, h247_1, h247_2, h247_3, h247_4, h247_5, h247_6, h247_7, h247_8⟩ := h247
          have M2291 : MW (dt248 81) := MW_frk M2242 hF250 (by decide)
          have y292 := h247_4 0 (by decide)
          have y293 := h247_4 1 (by decide)
          have y294 := h247_4 2 (by decide)
          have y295 := h247_4 3 (by decide)
          have y296 := h247_4 4 (by decide)
          have y297 := h247_4 5 (by decide)
          have y298 := h247_5 0 (by decide)
          have y299 := h247_5 1 (by decide)
          have y300 := h247_5 2 (by decide)
          have y301 := h247_5 3 (by decide)
          have y302 := h247_5 4 (by decide)
          have y303 := h247_5 5 (by decide)
          have C304 : ∀ j : Nat, dt248 36 j = dt 36 j := fun j => (hF250 36 (by decide) j).trans (C243 j)
          have C305 : ∀ j : Nat, dt248 85 j = dt 85 j := fun j => (hF250 85 (by decide) j).trans (C244 j)
          refine go_to (k := 2) (pc' := 1435) (L' := [some (.inr (.inr (some 3000))), some (.inr (.inr (some 0))), some (.inr (.inr (some 79))), some (.inl i)]) (st' := []) (w' := (SH, dt248)) (fun _ => rfl) ?_
          exact K dt248 hI249 hM290 M2291 (by first | omega | (simp only [*]; done) | simp only [*]) (by omega) (by omega) (by omega) (by omega) (by omega) (by omega) (by omega) (by omega) (by omega) (by omega) (by omega) (by omega) (by omega) (by omega) (by omega) (by first | exact hI | exact TPL_k hd0 C304 C305 (by omega) | (exfalso; omega))
      · skip
        refine go_to (k := 2) (pc' := 1405) (L' := [some (.inr (.inr (some 3000))), some (.inr (.inr (some 0))), some (.inr (.inr (some 79))), some (.inl i)]) (st' := [.inl 1, .inr (.inr (some 79))]) (w' := (SH, dt4)) (fun _ => rfl) ?_
        refine go_call (Q' := _) rfl rfl rfl rfl rfl (sp_X6_image_1k L xs sio (d + 38) dt4 hI5 hM8   ) ?_
        rintro _ _ ⟨dt307, rfl, hI308, hF309, h306⟩
        refine ⟨rfl, ?_⟩
        have hF310 : Fr [0, 1, 2, 3, 4, 5, 6, 7, 8, 9, 10, 11, 12, 13, 14, 15, 16, 17, 18, 19, 20, 21, 22, 23, 24, 25, 26, 27, 28, 29, 30, 31, 32, 33, 34, 35, 36, 37, 38, 39, 40, 41, 42, 43, 44, 45, 46, 47, 48, 49, 50, 51, 52, 53, 54, 55, 56, 57, 58, 59, 60, 61, 62, 63, 64, 65, 66, 67, 68, 69, 70, 71, 72, 73, 74, 75, 76, 77, 78, 79, 80, 81, 82, 83, 84, 85, 86, 87, 88, 89, 90, 91, 92, 93, 94, 95, 96, 97, 98, 99, 100, 101, 102, 103, 104] dt dt307 := Fr_tr hF7 hF309 (by decide)
        have hM311 : MW (dt307 80) := MW_fr hM8 hF309 (by decide)
        have w312 : dt307 1 0 = dt4 1 0 := hF309 1 (by decide) 0
        have w313 : dt307 7 3 = dt4 7 3 := hF309 7 (by decide) 3
        have w314 : dt307 10 3 = dt4 10 3 := hF309 10 (by decide) 3
        have w315 : dt307 12 3 = dt4 12 3 := hF309 12 (by decide) 3
        have w316 : dt307 14 3 = dt4 14 3 := hF309 14 (by decide) 3
        have w317 : dt307 16 3 = dt4 16 3 := hF309 16 (by decide) 3
        have w318 : dt307 18 0 = dt4 18 0 := hF309 18 (by decide) 0
        have w319 : dt307 24 3 = dt4 24 3 := hF309 24 (by decide) 3
        have w320 : dt307 27 3 = dt4 27 3 := hF309 27 (by decide) 3
        have w321 : dt307 29 3 = dt4 29 3 := hF309 29 (by decide) 3
        have w322 : dt307 31 3 = dt4 31 3 := hF309 31 (by decide) 3
        have w323 : dt307 33 3 = dt4 33 3 := hF309 33 (by decide) 3
        have w324 : dt307 0 2 = dt4 0 2 := hF309 0 (by decide) 2
        have w325 : dt307 35 1 = dt4 35 1 := hF309 35 (by decide) 1
        have w326 : dt307 35 2 = dt4 35 2 := hF309 35 (by decide) 2
        have w327 : dt307 35 3 = dt4 35 3 := hF309 35 (by decide) 3
        have w328 : dt307 80 0 = dt4 80 0 := hF309 80 (by decide) 0
        have w329 : dt307 80 1 = dt4 80 1 := hF309 80 (by decide) 1
        have w330 : dt307 80 2 = dt4 80 2 := hF309 80 (by decide) 2
        have w331 : dt307 80 3 = dt4 80 3 := hF309 80 (by decide) 3
        have w332 : dt307 80 4 = dt4 80 4 := hF309 80 (by decide) 4
        have w333 : dt307 80 5 = dt4 80 5 := hF309 80 (by decide) 5
        rcases h306 with ⟨rfl, h306⟩
        have hM334 : MW (dt307 80) := h306.2.1
        obtain ⟨h306_0, h306_1, h306_2, h306_3, h306_4, h306_5, h306_6, h306_7⟩ := h306
        have y335 := h306_3 0 (by decide)
        have y336 := h306_3 1 (by decide)
        have y337 := h306_3 2 (by decide)
        have y338 := h306_3 3 (by decide)
        have y339 := h306_3 4 (by decide)
        have y340 := h306_3 5 (by decide)
        have y341 := h306_4 0 (by decide)
        have y342 := h306_4 1 (by decide)
        have y343 := h306_4 2 (by decide)
        have y344 := h306_4 3 (by decide)
        have y345 := h306_4 4 (by decide)
        have y346 := h306_4 5 (by decide)
        have C347 : ∀ j : Nat, dt307 36 j = dt 36 j := fun j => (hF309 36 (by decide) j).trans (C243 j)
        have C348 : ∀ j : Nat, dt307 85 j = dt 85 j := fun j => (hF309 85 (by decide) j).trans (C244 j)
        refine go_to (k := 2) (pc' := 1435) (L' := [some (.inr (.inr (some 3000))), some (.inr (.inr (some 0))), some (.inr (.inr (some 79))), some (.inl i)]) (st' := []) (w' := (SH, dt307)) (fun _ => rfl) ?_
        exact K dt307 hI308 hM334 h306_2 (by first | omega | (simp only [*]; done) | simp only [*]) (by omega) (by omega) (by omega) (by omega) (by omega) (by omega) (by omega) (by omega) (by omega) (by omega) (by omega) (by omega) (by omega) (by omega) (by omega) (by first | exact hI | exact TPL_k hd0 C347 C348 (by omega) | (exfalso; omega))
  · skip
    refine go_to (k := 2) (pc' := 1387) (L' := [some (.inr (.inr (some 3000))), some (.inr (.inr (some 0))), some (.inr (.inr (some 79))), some (.inl i)]) (st' := [.inl 1, .inr (.inr (some 0))]) (w' := (SH, dt)) (fun _ => rfl) ?_
    refine go_call (Q' := _) rfl rfl rfl rfl rfl (sp_X5_image L xs sio (d + 35) dt hI  1 ⟨by omega, by omega⟩ ) ?_
    rintro _ _ ⟨dt350, rfl, hI351, hF352, h349⟩
    refine ⟨rfl, ?_⟩
    have hF353 : Fr [0, 1, 2, 3, 4, 5, 6, 7, 8, 9, 10, 11, 12, 13, 14, 15, 16, 17, 18, 19, 20, 21, 22, 23, 24, 25, 26, 27, 28, 29, 30, 31, 32, 33, 34, 35, 36, 37, 38, 39, 40, 41, 42, 43, 44, 45, 46, 47, 48, 49, 50, 51, 52, 53, 54, 55, 56, 57, 58, 59, 60, 61, 62, 63, 64, 65, 66, 67, 68, 69, 70, 71, 72, 73, 74, 75, 76, 77, 78, 79, 80, 81, 82, 83, 84, 85, 86, 87, 88, 89, 90, 91, 92, 93, 94, 95, 96, 97, 98, 99, 100, 101, 102, 103, 104] dt dt350 := Fr_tr hF hF352 (by decide)
    have hM354 : MW (dt350 80) := MW_fr hM hF352 (by decide)
    have w355 : dt350 35 1 = dt 35 1 := hF352 35 (by decide) 1
    have w356 : dt350 35 2 = dt 35 2 := hF352 35 (by decide) 2
    have w357 : dt350 35 3 = dt 35 3 := hF352 35 (by decide) 3
    have w358 : dt350 80 0 = dt 80 0 := hF352 80 (by decide) 0
    have w359 : dt350 80 1 = dt 80 1 := hF352 80 (by decide) 1
    have w360 : dt350 80 2 = dt 80 2 := hF352 80 (by decide) 2
    have w361 : dt350 80 3 = dt 80 3 := hF352 80 (by decide) 3
    have w362 : dt350 80 4 = dt 80 4 := hF352 80 (by decide) 4
    have w363 : dt350 80 5 = dt 80 5 := hF352 80 (by decide) 5
    have w364 : dt350 81 0 = dt 81 0 := hF352 81 (by decide) 0
    have w365 : dt350 81 1 = dt 81 1 := hF352 81 (by decide) 1
    have w366 : dt350 81 2 = dt 81 2 := hF352 81 (by decide) 2
    have w367 : dt350 81 3 = dt 81 3 := hF352 81 (by decide) 3
    have w368 : dt350 81 4 = dt 81 4 := hF352 81 (by decide) 4
    have w369 : dt350 81 5 = dt 81 5 := hF352 81 (by decide) 5
    have w370 : dt350 79 2 = dt 79 2 := hF352 79 (by decide) 2
    have w371 : dt350 79 12 = dt 79 12 := hF352 79 (by decide) 12
    have w372 : dt350 79 19 = dt 79 19 := hF352 79 (by decide) 19
    have w373 : dt350 79 21 = dt 79 21 := hF352 79 (by decide) 21
    rcases h349 with ⟨v_h349, rfl, h349r, h349⟩ | ⟨v_h349, rfl, h349r, h349⟩ | ⟨v_h349, rfl, h349r, h349⟩
    · skip
      obtain ⟨h349_0, h349_1, h349_2, h349_3, h349_4, h349_5, h349_6, h349_7, h349_8, h349_9, h349_10, h349_11, h349_12, h349_13, h349_14⟩ := h349
      have M2374 : MW (dt350 81) := MW_frk hM2 hF352 (by decide)
      have C375 : ∀ j : Nat, dt350 36 j = dt 36 j := fun j => (hF352 36 (by decide) j).trans ((fun _ => rfl) j)
      have C376 : ∀ j : Nat, dt350 85 j = dt 85 j := fun j => (hF352 85 (by decide) j).trans ((fun _ => rfl) j)
      refine go_to (k := 6) (pc' := 1396) (L' := [some (.inr (.inr (some 3000))), some (.inr (.inr (some 0))), some (.inr (.inr (some 79))), some (.inl i)]) (st' := [.inl (i + 1), .inr (.inr (some 3000)), .inr (.inr (some 79))]) (w' := (SH, dt350)) (fun _ => rfl) ?_
      have r377 := i32_R (xs ((i + 1).toNat))
      refine go_smp (L' := [some (.inr (.inr (some 3000))), some (.inr (.inr (some 0))), some (.inr (.inr (some 79))), some (.inl i)]) (st' := [.inl ((xs ((i + 1).toNat)).toInt), .inr (.inr (some 79))]) (w' := (SH, dt350)) rfl rfl (s_iald (n := L) (f := fun j => (xs j).toInt) (am_scr hLL) ⟨by omega, by omega⟩) ?_
      refine go_if (k := 1) (p1 := 1404) (p2 := 1400) (L' := [some (.inr (.inr (some 3000))), some (.inr (.inr (some 0))), some (.inr (.inr (some 79))), some (.inl i)]) (st' := [.inr (.inr (some 79))]) (w' := (SH, dt350)) (fun _ => rfl) (z_eq (a := (xs ((i + 1).toNat)).toInt) ⟨by omega, by omega⟩) (fun c378 => ?_) (fun c378 => ?_)
      · skip
        refine go_to (k := 1) (pc' := 1405) (L' := [some (.inr (.inr (some 3000))), some (.inr (.inr (some 0))), some (.inr (.inr (some 79))), some (.inl i)]) (st' := [.inl 0, .inr (.inr (some 79))]) (w' := (SH, dt350)) (fun _ => rfl) ?_
        refine go_call (Q' := _) rfl rfl rfl rfl rfl (sp_X6_image_0k L xs sio (d + 38) dt350 hI351 hM354   (by first | trivial | omega | exact M2374)) ?_
        rintro _ _ ⟨dt380, rfl, hI381, hF382, h379⟩
        refine ⟨rfl, ?_⟩
        have hF383 : Fr [0, 1, 2, 3, 4, 5, 6, 7, 8, 9, 10, 11, 12, 13, 14, 15, 16, 17, 18, 19, 20, 21, 22, 23, 24, 25, 26, 27, 28, 29, 30, 31, 32, 33, 34, 35, 36, 37, 38, 39, 40, 41, 42, 43, 44, 45, 46, 47, 48, 49, 50, 51, 52, 53, 54, 55, 56, 57, 58, 59, 60, 61, 62, 63, 64, 65, 66, 67, 68, 69, 70, 71, 72, 73, 74, 75, 76, 77, 78, 79, 80, 81, 82, 83, 84, 85, 86, 87, 88, 89, 90, 91, 92, 93, 94, 95, 96, 97, 98, 99, 100, 101, 102, 103, 104] dt dt380 := Fr_tr hF353 hF382 (by decide)
        have w384 : dt380 1 0 = dt350 1 0 := hF382 1 (by decide) 0
        have w385 : dt380 7 3 = dt350 7 3 := hF382 7 (by decide) 3
        have w386 : dt380 10 3 = dt350 10 3 := hF382 10 (by decide) 3
        have w387 : dt380 12 3 = dt350 12 3 := hF382 12 (by decide) 3
        have w388 : dt380 14 3 = dt350 14 3 := hF382 14 (by decide) 3
        have w389 : dt380 16 3 = dt350 16 3 := hF382 16 (by decide) 3
        have w390 : dt380 18 0 = dt350 18 0 := hF382 18 (by decide) 0
        have w391 : dt380 24 3 = dt350 24 3 := hF382 24 (by decide) 3
        have w392 : dt380 27 3 = dt350 27 3 := hF382 27 (by decide) 3
        have w393 : dt380 29 3 = dt350 29 3 := hF382 29 (by decide) 3
        have w394 : dt380 31 3 = dt350 31 3 := hF382 31 (by decide) 3
        have w395 : dt380 33 3 = dt350 33 3 := hF382 33 (by decide) 3
        have w396 : dt380 0 2 = dt350 0 2 := hF382 0 (by decide) 2
        have w397 : dt380 35 1 = dt350 35 1 := hF382 35 (by decide) 1
        have w398 : dt380 35 2 = dt350 35 2 := hF382 35 (by decide) 2
        have w399 : dt380 35 3 = dt350 35 3 := hF382 35 (by decide) 3
        have w400 : dt380 81 0 = dt350 81 0 := hF382 81 (by decide) 0
        have w401 : dt380 81 1 = dt350 81 1 := hF382 81 (by decide) 1
        have w402 : dt380 81 2 = dt350 81 2 := hF382 81 (by decide) 2
        have w403 : dt380 81 3 = dt350 81 3 := hF382 81 (by decide) 3
        have w404 : dt380 81 4 = dt350 81 4 := hF382 81 (by decide) 4
        have w405 : dt380 81 5 = dt350 81 5 := hF382 81 (by decide) 5
        rcases h379 with ⟨rfl, h379⟩ | ⟨rfl, h379⟩
        · skip
          have hM406 : MW (dt380 80) := h379.2.2.1
          obtain ⟨h379_0, h379_1, h379_2, h379_3, h379_4, h379_5, h379_6, h379_7, h379_8⟩ := h379
          have M2407 : MW (dt380 81) := MW_frk M2374 hF382 (by decide)
          have y408 := h379_4 0 (by decide)
          have y409 := h379_4 1 (by decide)
          have y410 := h379_4 2 (by decide)
          have y411 := h379_4 3 (by decide)
          have y412 := h379_4 4 (by decide)
          have y413 := h379_4 5 (by decide)
          have y414 := h379_5 0 (by decide)
          have y415 := h379_5 1 (by decide)
          have y416 := h379_5 2 (by decide)
          have y417 := h379_5 3 (by decide)
          have y418 := h379_5 4 (by decide)
          have y419 := h379_5 5 (by decide)
          have C420 : ∀ j : Nat, dt380 36 j = dt 36 j := fun j => (hF382 36 (by decide) j).trans (C375 j)
          have C421 : ∀ j : Nat, dt380 85 j = dt 85 j := fun j => (hF382 85 (by decide) j).trans (C376 j)
          refine go_to (k := 2) (pc' := 1435) (L' := [some (.inr (.inr (some 3000))), some (.inr (.inr (some 0))), some (.inr (.inr (some 79))), some (.inl i)]) (st' := []) (w' := (SH, dt380)) (fun _ => rfl) ?_
          exact K dt380 hI381 hM406 M2407 (by first | omega | (simp only [*]; done) | simp only [*]) (by omega) (by omega) (by omega) (by omega) (by omega) (by omega) (by omega) (by omega) (by omega) (by omega) (by omega) (by omega) (by omega) (by omega) (by omega) (by first | exact hI | exact TPL_k hd0 C420 C421 (by omega) | (exfalso; omega))
        · skip
          have hM422 : MW (dt380 80) := h379.2.2.1
          obtain ⟨h379_0, h379_1, h379_2, h379_3, h379_4, h379_5, h379_6, h379_7, h379_8⟩ := h379
          have M2423 : MW (dt380 81) := MW_frk M2374 hF382 (by decide)
          have y424 := h379_4 0 (by decide)
          have y425 := h379_4 1 (by decide)
          have y426 := h379_4 2 (by decide)
          have y427 := h379_4 3 (by decide)
          have y428 := h379_4 4 (by decide)
          have y429 := h379_4 5 (by decide)
          have y430 := h379_5 0 (by decide)
          have y431 := h379_5 1 (by decide)
          have y432 := h379_5 2 (by decide)
          have y433 := h379_5 3 (by decide)
          have y434 := h379_5 4 (by decide)
          have y435 := h379_5 5 (by decide)
          have C436 : ∀ j : Nat, dt380 36 j = dt 36 j := fun j => (hF382 36 (by decide) j).trans (C375 j)
          have C437 : ∀ j : Nat, dt380 85 j = dt 85 j := fun j => (hF382 85 (by decide) j).trans (C376 j)
          refine go_to (k := 2) (pc' := 1435) (L' := [some (.inr (.inr (some 3000))), some (.inr (.inr (some 0))), some (.inr (.inr (some 79))), some (.inl i)]) (st' := []) (w' := (SH, dt380)) (fun _ => rfl) ?_
          exact K dt380 hI381 hM422 M2423 (by first | omega | (simp only [*]; done) | simp only [*]) (by omega) (by omega) (by omega) (by omega) (by omega) (by omega) (by omega) (by omega) (by omega) (by omega) (by omega) (by omega) (by omega) (by omega) (by omega) (by first | exact hI | exact TPL_k hd0 C436 C437 (by omega) | (exfalso; omega))
      · skip
        refine go_to (k := 2) (pc' := 1405) (L' := [some (.inr (.inr (some 3000))), some (.inr (.inr (some 0))), some (.inr (.inr (some 79))), some (.inl i)]) (st' := [.inl 1, .inr (.inr (some 79))]) (w' := (SH, dt350)) (fun _ => rfl) ?_
        refine go_call (Q' := _) rfl rfl rfl rfl rfl (sp_X6_image_1k L xs sio (d + 38) dt350 hI351 hM354   ) ?_
        rintro _ _ ⟨dt439, rfl, hI440, hF441, h438⟩
        refine ⟨rfl, ?_⟩
        have hF442 : Fr [0, 1, 2, 3, 4, 5, 6, 7, 8, 9, 10, 11, 12, 13, 14, 15, 16, 17, 18, 19, 20, 21, 22, 23, 24, 25, 26, 27, 28, 29, 30, 31, 32, 33, 34, 35, 36, 37, 38, 39, 40, 41, 42, 43, 44, 45, 46, 47, 48, 49, 50, 51, 52, 53, 54, 55, 56, 57, 58, 59, 60, 61, 62, 63, 64, 65, 66, 67, 68, 69, 70, 71, 72, 73, 74, 75, 76, 77, 78, 79, 80, 81, 82, 83, 84, 85, 86, 87, 88, 89, 90, 91, 92, 93, 94, 95, 96, 97, 98, 99, 100, 101, 102, 103, 104] dt dt439 := Fr_tr hF353 hF441 (by decide)
        have hM443 : MW (dt439 80) := MW_fr hM354 hF441 (by decide)
        have w444 : dt439 1 0 = dt350 1 0 := hF441 1 (by decide) 0
        have w445 : dt439 7 3 = dt350 7 3 := hF441 7 (by decide) 3
        have w446 : dt439 10 3 = dt350 10 3 := hF441 10 (by decide) 3
        have w447 : dt439 12 3 = dt350 12 3 := hF441 12 (by decide) 3
        have w448 : dt439 14 3 = dt350 14 3 := hF441 14 (by decide) 3
        have w449 : dt439 16 3 = dt350 16 3 := hF441 16 (by decide) 3
        have w450 : dt439 18 0 = dt350 18 0 := hF441 18 (by decide) 0
        have w451 : dt439 24 3 = dt350 24 3 := hF441 24 (by decide) 3
        have w452 : dt439 27 3 = dt350 27 3 := hF441 27 (by decide) 3
        have w453 : dt439 29 3 = dt350 29 3 := hF441 29 (by decide) 3
        have w454 : dt439 31 3 = dt350 31 3 := hF441 31 (by decide) 3
        have w455 : dt439 33 3 = dt350 33 3 := hF441 33 (by decide) 3
        have w456 : dt439 0 2 = dt350 0 2 := hF441 0 (by decide) 2
        have w457 : dt439 35 1 = dt350 35 1 := hF441 35 (by decide) 1
        have w458 : dt439 35 2 = dt350 35 2 := hF441 35 (by decide) 2
        have w459 : dt439 35 3 = dt350 35 3 := hF441 35 (by decide) 3
        have w460 : dt439 80 0 = dt350 80 0 := hF441 80 (by decide) 0
        have w461 : dt439 80 1 = dt350 80 1 := hF441 80 (by decide) 1
        have w462 : dt439 80 2 = dt350 80 2 := hF441 80 (by decide) 2
        have w463 : dt439 80 3 = dt350 80 3 := hF441 80 (by decide) 3
        have w464 : dt439 80 4 = dt350 80 4 := hF441 80 (by decide) 4
        have w465 : dt439 80 5 = dt350 80 5 := hF441 80 (by decide) 5
        rcases h438 with ⟨rfl, h438⟩
        have hM466 : MW (dt439 80) := h438.2.1
        obtain ⟨h438_0, h438_1, h438_2, h438_3, h438_4, h438_5, h438_6, h438_7⟩ := h438
        have y467 := h438_3 0 (by decide)
        have y468 := h438_3 1 (by decide)
        have y469 := h438_3 2 (by decide)
        have y470 := h438_3 3 (by decide)
        have y471 := h438_3 4 (by decide)
        have y472 := h438_3 5 (by decide)
        have y473 := h438_4 0 (by decide)
        have y474 := h438_4 1 (by decide)
        have y475 := h438_4 2 (by decide)
        have y476 := h438_4 3 (by decide)
        have y477 := h438_4 4 (by decide)
        have y478 := h438_4 5 (by decide)
        have C479 : ∀ j : Nat, dt439 36 j = dt 36 j := fun j => (hF441 36 (by decide) j).trans (C375 j)
        have C480 : ∀ j : Nat, dt439 85 j = dt 85 j := fun j => (hF441 85 (by decide) j).trans (C376 j)
        refine go_to (k := 2) (pc' := 1435) (L' := [some (.inr (.inr (some 3000))), some (.inr (.inr (some 0))), some (.inr (.inr (some 79))), some (.inl i)]) (st' := []) (w' := (SH, dt439)) (fun _ => rfl) ?_
        exact K dt439 hI440 hM466 h438_2 (by first | omega | (simp only [*]; done) | simp only [*]) (by omega) (by omega) (by omega) (by omega) (by omega) (by omega) (by omega) (by omega) (by omega) (by omega) (by omega) (by omega) (by omega) (by omega) (by omega) (by first | exact hI | exact TPL_k hd0 C479 C480 (by omega) | (exfalso; omega))
    · skip
      obtain ⟨h349_0, h349_1, h349_2, h349_3, h349_4, h349_5, h349_6, h349_7, h349_8, h349_9, h349_10, h349_11, h349_12, h349_13, h349_14, h349_15⟩ := h349
      have M2481 : MW (dt350 81) := MW_frk hM2 hF352 (by decide)
      have C482 : ∀ j : Nat, dt350 36 j = dt 36 j := fun j => (hF352 36 (by decide) j).trans ((fun _ => rfl) j)
      have C483 : ∀ j : Nat, dt350 85 j = dt 85 j := fun j => (hF352 85 (by decide) j).trans ((fun _ => rfl) j)
      refine go_to (k := 6) (pc' := 1396) (L' := [some (.inr (.inr (some 3000))), some (.inr (.inr (some 0))), some (.inr (.inr (some 79))), some (.inl i)]) (st' := [.inl (i + 1), .inr (.inr (some 3000)), .inr (.inr (some 79))]) (w' := (SH, dt350)) (fun _ => rfl) ?_
      have r484 := i32_R (xs ((i + 1).toNat))
      refine go_smp (L' := [some (.inr (.inr (some 3000))), some (.inr (.inr (some 0))), some (.inr (.inr (some 79))), some (.inl i)]) (st' := [.inl ((xs ((i + 1).toNat)).toInt), .inr (.inr (some 79))]) (w' := (SH, dt350)) rfl rfl (s_iald (n := L) (f := fun j => (xs j).toInt) (am_scr hLL) ⟨by omega, by omega⟩) ?_
      refine go_if (k := 1) (p1 := 1404) (p2 := 1400) (L' := [some (.inr (.inr (some 3000))), some (.inr (.inr (some 0))), some (.inr (.inr (some 79))), some (.inl i)]) (st' := [.inr (.inr (some 79))]) (w' := (SH, dt350)) (fun _ => rfl) (z_eq (a := (xs ((i + 1).toNat)).toInt) ⟨by omega, by omega⟩) (fun c485 => ?_) (fun c485 => ?_)
      · skip
        refine go_to (k := 1) (pc' := 1405) (L' := [some (.inr (.inr (some 3000))), some (.inr (.inr (some 0))), some (.inr (.inr (some 79))), some (.inl i)]) (st' := [.inl 0, .inr (.inr (some 79))]) (w' := (SH, dt350)) (fun _ => rfl) ?_
        refine go_call (Q' := _) rfl rfl rfl rfl rfl (sp_X6_image_0k L xs sio (d + 38) dt350 hI351 hM354   (by first | trivial | omega | exact M2481)) ?_
        rintro _ _ ⟨dt487, rfl, hI488, hF489, h486⟩
        refine ⟨rfl, ?_⟩
        have hF490 : Fr [0, 1, 2, 3, 4, 5, 6, 7, 8, 9, 10, 11, 12, 13, 14, 15, 16, 17, 18, 19, 20, 21, 22, 23, 24, 25, 26, 27, 28, 29, 30, 31, 32, 33, 34, 35, 36, 37, 38, 39, 40, 41, 42, 43, 44, 45, 46, 47, 48, 49, 50, 51, 52, 53, 54, 55, 56, 57, 58, 59, 60, 61, 62, 63, 64, 65, 66, 67, 68, 69, 70, 71, 72, 73, 74, 75, 76, 77, 78, 79, 80, 81, 82, 83, 84, 85, 86, 87, 88, 89, 90, 91, 92, 93, 94, 95, 96, 97, 98, 99, 100, 101, 102, 103, 104] dt dt487 := Fr_tr hF353 hF489 (by decide)
        have w491 : dt487 1 0 = dt350 1 0 := hF489 1 (by decide) 0
        have w492 : dt487 7 3 = dt350 7 3 := hF489 7 (by decide) 3
        have w493 : dt487 10 3 = dt350 10 3 := hF489 10 (by decide) 3
        have w494 : dt487 12 3 = dt350 12 3 := hF489 12 (by decide) 3
        have w495 : dt487 14 3 = dt350 14 3 := hF489 14 (by decide) 3
        have w496 : dt487 16 3 = dt350 16 3 := hF489 16 (by decide) 3
        have w497 : dt487 18 0 = dt350 18 0 := hF489 18 (by decide) 0
        have w498 : dt487 24 3 = dt350 24 3 := hF489 24 (by decide) 3
        have w499 : dt487 27 3 = dt350 27 3 := hF489 27 (by decide) 3
        have w500 : dt487 29 3 = dt350 29 3 := hF489 29 (by decide) 3
        have w501 : dt487 31 3 = dt350 31 3 := hF489 31 (by decide) 3
        have w502 : dt487 33 3 = dt350 33 3 := hF489 33 (by decide) 3
        have w503 : dt487 0 2 = dt350 0 2 := hF489 0 (by decide) 2
        have w504 : dt487 35 1 = dt350 35 1 := hF489 35 (by decide) 1
        have w505 : dt487 35 2 = dt350 35 2 := hF489 35 (by decide) 2
        have w506 : dt487 35 3 = dt350 35 3 := hF489 35 (by decide) 3
        have w507 : dt487 81 0 = dt350 81 0 := hF489 81 (by decide) 0
        have w508 : dt487 81 1 = dt350 81 1 := hF489 81 (by decide) 1
        have w509 : dt487 81 2 = dt350 81 2 := hF489 81 (by decide) 2
        have w510 : dt487 81 3 = dt350 81 3 := hF489 81 (by decide) 3
        have w511 : dt487 81 4 = dt350 81 4 := hF489 81 (by decide) 4
        have w512 : dt487 81 5 = dt350 81 5 := hF489 81 (by decide) 5
        rcases h486 with ⟨rfl, h486⟩ | ⟨rfl, h486⟩
        · skip
          have hM513 : MW (dt487 80) := h486.2.2.1
          obtain ⟨h486_0, h486_1, h486_2, h486_3, h486_4, h486_5, h486_6, h486_7, h486_8⟩ := h486
          have M2514 : MW (dt487 81) := MW_frk M2481 hF489 (by decide)
          have y515 := h486_4 0 (by decide)
          have y516 := h486_4 1 (by decide)
          have y517 := h486_4 2 (by decide)
          have y518 := h486_4 3 (by decide)
          have y519 := h486_4 4 (by decide)
          have y520 := h486_4 5 (by decide)
          have y521 := h486_5 0 (by decide)
          have y522 := h486_5 1 (by decide)
          have y523 := h486_5 2 (by decide)
          have y524 := h486_5 3 (by decide)
          have y525 := h486_5 4 (by decide)
          have y526 := h486_5 5 (by decide)
          have C527 : ∀ j : Nat, dt487 36 j = dt 36 j := fun j => (hF489 36 (by decide) j).trans (C482 j)
          have C528 : ∀ j : Nat, dt487 85 j = dt 85 j := fun j => (hF489 85 (by decide) j).trans (C483 j)
          refine go_to (k := 2) (pc' := 1435) (L' := [some (.inr (.inr (some 3000))), some (.inr (.inr (some 0))), some (.inr (.inr (some 79))), some (.inl i)]) (st' := []) (w' := (SH, dt487)) (fun _ => rfl) ?_
          exact K dt487 hI488 hM513 M2514 (by first | omega | (simp only [*]; done) | simp only [*]) (by omega) (by omega) (by omega) (by omega) (by omega) (by omega) (by omega) (by omega) (by omega) (by omega) (by omega) (by omega) (by omega) (by omega) (by omega) (by first | exact hI | exact TPL_k hd0 C527 C528 (by omega) | (exfalso; omega))
        · skip
          have hM529 : MW (dt487 80) := h486.2.2.1
          obtain ⟨h486_0, h486_1, h486_2, h486_3, h486_4, h486_5, h486_6, h486_7, h486_8⟩ := h486
          have M2530 : MW (dt487 81) := MW_frk M2481 hF489 (by decide)
          have y531 := h486_4 0 (by decide)
          have y532 := h486_4 1 (by decide)
          have y533 := h486_4 2 (by decide)
          have y534 := h486_4 3 (by decide)
          have y535 := h486_4 4 (by decide)
          have y536 := h486_4 5 (by decide)
          have y537 := h486_5 0 (by decide)
          have y538 := h486_5 1 (by decide)
          have y539 := h486_5 2 (by decide)
          have y540 := h486_5 3 (by decide)
          have y541 := h486_5 4 (by decide)
          have y542 := h486_5 5 (by decide)
          have C543 : ∀ j : Nat, dt487 36 j = dt 36 j := fun j => (hF489 36 (by decide) j).trans (C482 j)
          have C544 : ∀ j : Nat, dt487 85 j = dt 85 j := fun j => (hF489 85 (by decide) j).trans (C483 j)
          refine go_to (k := 2) (pc' := 1435) (L' := [some (.inr (.inr (some 3000))), some (.inr (.inr (some 0))), some (.inr (.inr (some 79))), some (.inl i)]) (st' := []) (w' := (SH, dt487)) (fun _ => rfl) ?_
          exact K dt487 hI488 hM529 M2530 (by first | omega | (simp only [*]; done) | simp only [*]) (by omega) (by omega) (by omega) (by omega) (by omega) (by omega) (by omega) (by omega) (by omega) (by omega) (by omega) (by omega) (by omega) (by omega) (by omega) (by first | exact hI | exact TPL_k hd0 C543 C544 (by omega) | (exfalso; omega))
      · skip
        refine go_to (k := 2) (pc' := 1405) (L' := [some (.inr (.inr (some 3000))), some (.inr (.inr (some 0))), some (.inr (.inr (some 79))), some (.inl i)]) (st' := [.inl 1, .inr (.inr (some 79))]) (w' := (SH, dt350)) (fun _ => rfl) ?_
        refine go_call (Q' := _) rfl rfl rfl rfl rfl (sp_X6_image_1k L xs sio (d + 38) dt350 hI351 hM354   ) ?_
        rintro _ _ ⟨dt546, rfl, hI547, hF548, h545⟩
        refine ⟨rfl, ?_⟩
        have hF549 : Fr [0, 1, 2, 3, 4, 5, 6, 7, 8, 9, 10, 11, 12, 13, 14, 15, 16, 17, 18, 19, 20, 21, 22, 23, 24, 25, 26, 27, 28, 29, 30, 31, 32, 33, 34, 35, 36, 37, 38, 39, 40, 41, 42, 43, 44, 45, 46, 47, 48, 49, 50, 51, 52, 53, 54, 55, 56, 57, 58, 59, 60, 61, 62, 63, 64, 65, 66, 67, 68, 69, 70, 71, 72, 73, 74, 75, 76, 77, 78, 79, 80, 81, 82, 83, 84, 85, 86, 87, 88, 89, 90, 91, 92, 93, 94, 95, 96, 97, 98, 99, 100, 101, 102, 103, 104] dt dt546 := Fr_tr hF353 hF548 (by decide)
        have hM550 : MW (dt546 80) := MW_fr hM354 hF548 (by decide)
        have w551 : dt546 1 0 = dt350 1 0 := hF548 1 (by decide) 0
        have w552 : dt546 7 3 = dt350 7 3 := hF548 7 (by decide) 3
        have w553 : dt546 10 3 = dt350 10 3 := hF548 10 (by decide) 3
        have w554 : dt546 12 3 = dt350 12 3 := hF548 12 (by decide) 3
        have w555 : dt546 14 3 = dt350 14 3 := hF548 14 (by decide) 3
        have w556 : dt546 16 3 = dt350 16 3 := hF548 16 (by decide) 3
        have w557 : dt546 18 0 = dt350 18 0 := hF548 18 (by decide) 0
        have w558 : dt546 24 3 = dt350 24 3 := hF548 24 (by decide) 3
        have w559 : dt546 27 3 = dt350 27 3 := hF548 27 (by decide) 3
        have w560 : dt546 29 3 = dt350 29 3 := hF548 29 (by decide) 3
        have w561 : dt546 31 3 = dt350 31 3 := hF548 31 (by decide) 3
        have w562 : dt546 33 3 = dt350 33 3 := hF548 33 (by decide) 3
        have w563 : dt546 0 2 = dt350 0 2 := hF548 0 (by decide) 2
        have w564 : dt546 35 1 = dt350 35 1 := hF548 35 (by decide) 1
        have w565 : dt546 35 2 = dt350 35 2 := hF548 35 (by decide) 2
        have w566 : dt546 35 3 = dt350 35 3 := hF548 35 (by decide) 3
        have w567 : dt546 80 0 = dt350 80 0 := hF548 80 (by decide) 0
        have w568 : dt546 80 1 = dt350 80 1 := hF548 80 (by decide) 1
        have w569 : dt546 80 2 = dt350 80 2 := hF548 80 (by decide) 2
        have w570 : dt546 80 3 = dt350 80 3 := hF548 80 (by decide) 3
        have w571 : dt546 80 4 = dt350 80 4 := hF548 80 (by decide) 4
        have w572 : dt546 80 5 = dt350 80 5 := hF548 80 (by decide) 5
        rcases h545 with ⟨rfl, h545⟩
        have hM573 : MW (dt546 80) := h545.2.1
        obtain ⟨h545_0, h545_1, h545_2, h545_3, h545_4, h545_5, h545_6, h545_7⟩ := h545
        have y574 := h545_3 0 (by decide)
        have y575 := h545_3 1 (by decide)
        have y576 := h545_3 2 (by decide)
        have y577 := h545_3 3 (by decide)
        have y578 := h545_3 4 (by decide)
        have y579 := h545_3 5 (by decide)
        have y580 := h545_4 0 (by decide)
        have y581 := h545_4 1 (by decide)
        have y582 := h545_4 2 (by decide)
        have y583 := h545_4 3 (by decide)
        have y584 := h545_4 4 (by decide)
        have y585 := h545_4 5 (by decide)
        have C586 : ∀ j : Nat, dt546 36 j = dt 36 j := fun j => (hF548 36 (by decide) j).trans (C482 j)
        have C587 : ∀ j : Nat, dt546 85 j = dt 85 j := fun j => (hF548 85 (by decide) j).trans (C483 j)
        refine go_to (k := 2) (pc' := 1435) (L' := [some (.inr (.inr (some 3000))), some (.inr (.inr (some 0))), some (.inr (.inr (some 79))), some (.inl i)]) (st' := []) (w' := (SH, dt546)) (fun _ => rfl) ?_
        exact K dt546 hI547 hM573 h545_2 (by first | omega | (simp only [*]; done) | simp only [*]) (by omega) (by omega) (by omega) (by omega) (by omega) (by omega) (by omega) (by omega) (by omega) (by omega) (by omega) (by omega) (by omega) (by omega) (by omega) (by first | exact hI | exact TPL_k hd0 C586 C587 (by omega) | (exfalso; omega))
    · skip
      obtain ⟨h349_0, h349_1, h349_2, h349_3, h349_4, h349_5, h349_6, h349_7, h349_8, h349_9, h349_10, h349_11, h349_12, h349_13, h349_14, h349_15⟩ := h349
      have M2588 : MW (dt350 81) := MW_frk hM2 hF352 (by decide)
      have C589 : ∀ j : Nat, dt350 36 j = dt 36 j := fun j => (hF352 36 (by decide) j).trans ((fun _ => rfl) j)
      have C590 : ∀ j : Nat, dt350 85 j = dt 85 j := fun j => (hF352 85 (by decide) j).trans ((fun _ => rfl) j)
      refine go_to (k := 6) (pc' := 1396) (L' := [some (.inr (.inr (some 3000))), some (.inr (.inr (some 0))), some (.inr (.inr (some 79))), some (.inl i)]) (st' := [.inl (i + 1), .inr (.inr (some 3000)), .inr (.inr (some 79))]) (w' := (SH, dt350)) (fun _ => rfl) ?_
      have r591 := i32_R (xs ((i + 1).toNat))
      refine go_smp (L' := [some (.inr (.inr (some 3000))), some (.inr (.inr (some 0))), some (.inr (.inr (some 79))), some (.inl i)]) (st' := [.inl ((xs ((i + 1).toNat)).toInt), .inr (.inr (some 79))]) (w' := (SH, dt350)) rfl rfl (s_iald (n := L) (f := fun j => (xs j).toInt) (am_scr hLL) ⟨by omega, by omega⟩) ?_
      refine go_if (k := 1) (p1 := 1404) (p2 := 1400) (L' := [some (.inr (.inr (some 3000))), some (.inr (.inr (some 0))), some (.inr (.inr (some 79))), some (.inl i)]) (st' := [.inr (.inr (some 79))]) (w' := (SH, dt350)) (fun _ => rfl) (z_eq (a := (xs ((i + 1).toNat)).toInt) ⟨by omega, by omega⟩) (fun c592 => ?_) (fun c592 => ?_)
      · skip
        refine go_to (k := 1) (pc' := 1405) (L' := [some (.inr (.inr (some 3000))), some (.inr (.inr (some 0))), some (.inr (.inr (some 79))), some (.inl i)]) (st' := [.inl 0, .inr (.inr (some 79))]) (w' := (SH, dt350)) (fun _ => rfl) ?_
        refine go_call (Q' := _) rfl rfl rfl rfl rfl (sp_X6_image_0k L xs sio (d + 38) dt350 hI351 hM354   (by first | trivial | omega | exact M2588)) ?_
        rintro _ _ ⟨dt594, rfl, hI595, hF596, h593⟩
        refine ⟨rfl, ?_⟩
        have hF597 : Fr [0, 1, 2, 3, 4, 5, 6, 7, 8, 9, 10, 11, 12, 13, 14, 15, 16, 17, 18, 19, 20, 21, 22, 23, 24, 25, 26, 27, 28, 29, 30, 31, 32, 33, 34, 35, 36, 37, 38, 39, 40, 41, 42, 43, 44, 45, 46, 47, 48, 49, 50, 51, 52, 53, 54, 55, 56, 57, 58, 59, 60, 61, 62, 63, 64, 65, 66, 67, 68, 69, 70, 71, 72, 73, 74, 75, 76, 77, 78, 79, 80, 81, 82, 83, 84, 85, 86, 87, 88, 89, 90, 91, 92, 93, 94, 95, 96, 97, 98, 99, 100, 101, 102, 103, 104] dt dt594 := Fr_tr hF353 hF596 (by decide)
        have w598 : dt594 1 0 = dt350 1 0 := hF596 1 (by decide) 0
        have w599 : dt594 7 3 = dt350 7 3 := hF596 7 (by decide) 3
        have w600 : dt594 10 3 = dt350 10 3 := hF596 10 (by decide) 3
        have w601 : dt594 12 3 = dt350 12 3 := hF596 12 (by decide) 3
        have w602 : dt594 14 3 = dt350 14 3 := hF596 14 (by decide) 3
        have w603 : dt594 16 3 = dt350 16 3 := hF596 16 (by decide) 3
        have w604 : dt594 18 0 = dt350 18 0 := hF596 18 (by decide) 0
        have w605 : dt594 24 3 = dt350 24 3 := hF596 24 (by decide) 3
        have w606 : dt594 27 3 = dt350 27 3 := hF596 27 (by decide) 3
        have w607 : dt594 29 3 = dt350 29 3 := hF596 29 (by decide) 3
        have w608 : dt594 31 3 = dt350 31 3 := hF596 31 (by decide) 3
        have w609 : dt594 33 3 = dt350 33 3 := hF596 33 (by decide) 3
        have w610 : dt594 0 2 = dt350 0 2 := hF596 0 (by decide) 2
        have w611 : dt594 35 1 = dt350 35 1 := hF596 35 (by decide) 1
        have w612 : dt594 35 2 = dt350 35 2 := hF596 35 (by decide) 2
        have w613 : dt594 35 3 = dt350 35 3 := hF596 35 (by decide) 3
        have w614 : dt594 81 0 = dt350 81 0 := hF596 81 (by decide) 0
        have w615 : dt594 81 1 = dt350 81 1 := hF596 81 (by decide) 1
        have w616 : dt594 81 2 = dt350 81 2 := hF596 81 (by decide) 2
        have w617 : dt594 81 3 = dt350 81 3 := hF596 81 (by decide) 3
        have w618 : dt594 81 4 = dt350 81 4 := hF596 81 (by decide) 4
        have w619 : dt594 81 5 = dt350 81 5 := hF596 81 (by decide) 5
        rcases h593 with ⟨rfl, h593⟩ | ⟨rfl, h593⟩
        · skip
          have hM620 : MW (dt594 80) := h593.2.2.1
          obtain ⟨h593_0, h593_1, h593_2, h593_3, h593_4, h593_5, h593_6, h593_7, h593_8⟩ := h593
          have M2621 : MW (dt594 81) := MW_frk M2588 hF596 (by decide)
          have y622 := h593_4 0 (by decide)
          have y623 := h593_4 1 (by decide)
          have y624 := h593_4 2 (by decide)
          have y625 := h593_4 3 (by decide)
          have y626 := h593_4 4 (by decide)
          have y627 := h593_4 5 (by decide)
          have y628 := h593_5 0 (by decide)
          have y629 := h593_5 1 (by decide)
          have y630 := h593_5 2 (by decide)
          have y631 := h593_5 3 (by decide)
          have y632 := h593_5 4 (by decide)
          have y633 := h593_5 5 (by decide)
          have C634 : ∀ j : Nat, dt594 36 j = dt 36 j := fun j => (hF596 36 (by decide) j).trans (C589 j)
          have C635 : ∀ j : Nat, dt594 85 j = dt 85 j := fun j => (hF596 85 (by decide) j).trans (C590 j)
          refine go_to (k := 2) (pc' := 1435) (L' := [some (.inr (.inr (some 3000))), some (.inr (.inr (some 0))), some (.inr (.inr (some 79))), some (.inl i)]) (st' := []) (w' := (SH, dt594)) (fun _ => rfl) ?_
          exact K dt594 hI595 hM620 M2621 (by first | omega | (simp only [*]; done) | simp only [*]) (by omega) (by omega) (by omega) (by omega) (by omega) (by omega) (by omega) (by omega) (by omega) (by omega) (by omega) (by omega) (by omega) (by omega) (by omega) (by first | exact hI | exact TPL_k hd0 C634 C635 (by omega) | (exfalso; omega))
        · skip
          have hM636 : MW (dt594 80) := h593.2.2.1
          obtain ⟨h593_0, h593_1, h593_2, h593_3, h593_4, h593_5, h593_6, h593_7, h593_8⟩ := h593
          have M2637 : MW (dt594 81) := MW_frk M2588 hF596 (by decide)
          have y638 := h593_4 0 (by decide)
          have y639 := h593_4 1 (by decide)
          have y640 := h593_4 2 (by decide)
          have y641 := h593_4 3 (by decide)
          have y642 := h593_4 4 (by decide)
          have y643 := h593_4 5 (by decide)
          have y644 := h593_5 0 (by decide)
          have y645 := h593_5 1 (by decide)
          have y646 := h593_5 2 (by decide)
          have y647 := h593_5 3 (by decide)
          have y648 := h593_5 4 (by decide)
          have y649 := h593_5 5 (by decide)
          have C650 : ∀ j : Nat, dt594 36 j = dt 36 j := fun j => (hF596 36 (by decide) j).trans (C589 j)
          have C651 : ∀ j : Nat, dt594 85 j = dt 85 j := fun j => (hF596 85 (by decide) j).trans (C590 j)
          refine go_to (k := 2) (pc' := 1435) (L' := [some (.inr (.inr (some 3000))), some (.inr (.inr (some 0))), some (.inr (.inr (some 79))), some (.inl i)]) (st' := []) (w' := (SH, dt594)) (fun _ => rfl) ?_
          exact K dt594 hI595 hM636 M2637 (by first | omega | (simp only [*]; done) | simp only [*]) (by omega) (by omega) (by omega) (by omega) (by omega) (by omega) (by omega) (by omega) (by omega) (by omega) (by omega) (by omega) (by omega) (by omega) (by omega) (by first | exact hI | exact TPL_k hd0 C650 C651 (by omega) | (exfalso; omega))
      · skip
        refine go_to (k := 2) (pc' := 1405) (L' := [some (.inr (.inr (some 3000))), some (.inr (.inr (some 0))), some (.inr (.inr (some 79))), some (.inl i)]) (st' := [.inl 1, .inr (.inr (some 79))]) (w' := (SH, dt350)) (fun _ => rfl) ?_
        refine go_call (Q' := _) rfl rfl rfl rfl rfl (sp_X6_image_1k L xs sio (d + 38) dt350 hI351 hM354   ) ?_
        rintro _ _ ⟨dt653, rfl, hI654, hF655, h652⟩
        refine ⟨rfl, ?_⟩
        have hF656 : Fr [0, 1, 2, 3, 4, 5, 6, 7, 8, 9, 10, 11, 12, 13, 14, 15, 16, 17, 18, 19, 20, 21, 22, 23, 24, 25, 26, 27, 28, 29, 30, 31, 32, 33, 34, 35, 36, 37, 38, 39, 40, 41, 42, 43, 44, 45, 46, 47, 48, 49, 50, 51, 52, 53, 54, 55, 56, 57, 58, 59, 60, 61, 62, 63, 64, 65, 66, 67, 68, 69, 70, 71, 72, 73, 74, 75, 76, 77, 78, 79, 80, 81, 82, 83, 84, 85, 86, 87, 88, 89, 90, 91, 92, 93, 94, 95, 96, 97, 98, 99, 100, 101, 102, 103, 104] dt dt653 := Fr_tr hF353 hF655 (by decide)
        have hM657 : MW (dt653 80) := MW_fr hM354 hF655 (by decide)
        have w658 : dt653 1 0 = dt350 1 0 := hF655 1 (by decide) 0
        have w659 : dt653 7 3 = dt350 7 3 := hF655 7 (by decide) 3
        have w660 : dt653 10 3 = dt350 10 3 := hF655 10 (by decide) 3
        have w661 : dt653 12 3 = dt350 12 3 := hF655 12 (by decide) 3
        have w662 : dt653 14 3 = dt350 14 3 := hF655 14 (by decide) 3
        have w663 : dt653 16 3 = dt350 16 3 := hF655 16 (by decide) 3
        have w664 : dt653 18 0 = dt350 18 0 := hF655 18 (by decide) 0
        have w665 : dt653 24 3 = dt350 24 3 := hF655 24 (by decide) 3
        have w666 : dt653 27 3 = dt350 27 3 := hF655 27 (by decide) 3
        have w667 : dt653 29 3 = dt350 29 3 := hF655 29 (by decide) 3
        have w668 : dt653 31 3 = dt350 31 3 := hF655 31 (by decide) 3
        have w669 : dt653 33 3 = dt350 33 3 := hF655 33 (by decide) 3
        have w670 : dt653 0 2 = dt350 0 2 := hF655 0 (by decide) 2
        have w671 : dt653 35 1 = dt350 35 1 := hF655 35 (by decide) 1
        have w672 : dt653 35 2 = dt350 35 2 := hF655 35 (by decide) 2
        have w673 : dt653 35 3 = dt350 35 3 := hF655 35 (by decide) 3
        have w674 : dt653 80 0 = dt350 80 0 := hF655 80 (by decide) 0
        have w675 : dt653 80 1 = dt350 80 1 := hF655 80 (by decide) 1
        have w676 : dt653 80 2 = dt350 80 2 := hF655 80 (by decide) 2
        have w677 : dt653 80 3 = dt350 80 3 := hF655 80 (by decide) 3
        have w678 : dt653 80 4 = dt350 80 4 := hF655 80 (by decide) 4
        have w679 : dt653 80 5 = dt350 80 5 := hF655 80 (by decide) 5
        rcases h652 with ⟨rfl, h652⟩
        have hM680 : MW (dt653 80) := h652.2.1
        obtain ⟨h652_0, h652_1, h652_2, h652_3, h652_4, h652_5, h652_6, h652_7⟩ := h652
        have y681 := h652_3 0 (by decide)
        have y682 := h652_3 1 (by decide)
        have y683 := h652_3 2 (by decide)
        have y684 := h652_3 3 (by decide)
        have y685 := h652_3 4 (by decide)
        have y686 := h652_3 5 (by decide)
        have y687 := h652_4 0 (by decide)
        have y688 := h652_4 1 (by decide)
        have y689 := h652_4 2 (by decide)
        have y690 := h652_4 3 (by decide)
        have y691 := h652_4 4 (by decide)
        have y692 := h652_4 5 (by decide)
        have C693 : ∀ j : Nat, dt653 36 j = dt 36 j := fun j => (hF655 36 (by decide) j).trans (C589 j)
        have C694 : ∀ j : Nat, dt653 85 j = dt 85 j := fun j => (hF655 85 (by decide) j).trans (C590 j)
        refine go_to (k := 2) (pc' := 1435) (L' := [some (.inr (.inr (some 3000))), some (.inr (.inr (some 0))), some (.inr (.inr (some 79))), some (.inl i)]) (st' := []) (w' := (SH, dt653)) (fun _ => rfl) ?_
        exact K dt653 hI654 hM680 h652_2 (by first | omega | (simp only [*]; done) | simp only [*]) (by omega) (by omega) (by omega) (by omega) (by omega) (by omega) (by omega) (by omega) (by omega) (by omega) (by omega) (by omega) (by omega) (by omega) (by omega) (by first | exact hI | exact TPL_k hd0 C693 C694 (by omega) | (exfalso; omega))
set_option maxRecDepth 20000 in
set_option maxHeartbeats 8000000 in
theorem sp_case32 (L : Nat) (xs : Nat → Int32) (sio : Option Nat) (d : Nat) (Q : Option AV → am_W → Prop) (hLL : L ≤ 3072) (i : Int) (hi : 0 ≤ i ∧ i ≤ 3066) (hil : i ≤ (L : Int) - 6) (dt : Nat → Nat → Int) (hI : InvC dt) (hM : MW (dt 80)) (hM2 : MW (dt 81)) (hk0 : dt 1 0 = dt 80 0) (hk1 : dt 7 3 = dt 80 1) (hk2 : dt 10 3 = dt 80 2) (hk3 : dt 12 3 = dt 80 3) (hk4 : dt 14 3 = dt 80 4) (hk5 : dt 16 3 = dt 80 5) (hk6 : dt 18 0 = dt 81 0) (hk7 : dt 24 3 = dt 81 1) (hk8 : dt 27 3 = dt 81 2) (hk9 : dt 29 3 = dt 81 3) (hk10 : dt 31 3 = dt 81 4) (hk11 : dt 33 3 = dt 81 5) (hk12 : dt 0 2 = dt 79 2) (hk13 : dt 35 1 = dt 79 12) (hk14 : dt 35 2 = dt 79 19) (hk15 : dt 35 3 = dt 79 21) (hd0 : TPL (dt 36) (dt 85) (dt 35 1)) (K : ∀ (dt : Nat → Nat → Int) (hI : InvC dt) (hM : MW (dt 80)) (hM2 : MW (dt 81)) (hk0 : dt 1 0 = dt 80 0) (hk1 : dt 7 3 = dt 80 1) (hk2 : dt 10 3 = dt 80 2) (hk3 : dt 12 3 = dt 80 3) (hk4 : dt 14 3 = dt 80 4) (hk5 : dt 16 3 = dt 80 5) (hk6 : dt 18 0 = dt 81 0) (hk7 : dt 24 3 = dt 81 1) (hk8 : dt 27 3 = dt 81 2) (hk9 : dt 29 3 = dt 81 3) (hk10 : dt 31 3 = dt 81 4) (hk11 : dt 33 3 = dt 81 5) (hk12 : dt 0 2 = dt 79 2) (hk13 : dt 35 1 = dt 79 12) (hk14 : dt 35 2 = dt 79 19) (hk15 : dt 35 3 = dt 79 21) (hd0 : TPL (dt 36) (dt 85) (dt 35 1)), GO (am_XX L xs sio) (d + 39) 267 1435 [some (.inr (.inr (some 3000))), some (.inr (.inr (some 0))), some (.inr (.inr (some 79))), some (.inl i)] [] (SH, dt) Q) : GO (am_XX L xs sio) (d + 39) 267 1412 [some (.inr (.inr (some 3000))), some (.inr (.inr (some 0))), some (.inr (.inr (some 79))), some (.inl i)] [] (SH, dt) Q := by
  have hF : Fr [0, 1, 2, 3, 4, 5, 6, 7, 8, 9, 10, 11, 12, 13, 14, 15, 16, 17, 18, 19, 20, 21, 22, 23, 24, 25, 26, 27, 28, 29, 30, 31, 32, 33, 34, 35, 36, 37, 38, 39, 40, 41, 42, 43, 44, 45, 46, 47, 48, 49, 50, 51, 52, 53, 54, 55, 56, 57, 58, 59, 60, 61, 62, 63, 64, 65, 66, 67, 68, 69, 70, 71, 72, 73, 74, 75, 76, 77, 78, 79, 80, 81, 82, 83, 84, 85, 86, 87, 88, 89, 90, 91, 92, 93, 94, 95, 96, 97, 98, 99, 100, 101, 102, 103, 104] dt dt := Fr_refl
  refine go_to (k := 5) (pc' := 1417) (L' := [some (.inr (.inr (some 3000))), some (.inr (.inr (some 0))), some (.inr (.inr (some 79))), some (.inl i)]) (st' := [.inl (i + 1), .inr (.inr (some 3000)), .inr (.inr (some 0))]) (w' := (SH, dt)) (fun _ => rfl) ?_
  have r1 := i32_R (xs ((i + 1).toNat))
  refine go_smp (L' := [some (.inr (.inr (some 3000))), some (.inr (.inr (some 0))), some (.inr (.inr (some 79))), some (.inl i)]) (st' := [.inl ((xs ((i + 1).toNat)).toInt), .inr (.inr (some 0))]) (w' := (SH, dt)) rfl rfl (s_iald (n := L) (f := fun j => (xs j).toInt) (am_scr hLL) ⟨by omega, by omega⟩) ?_
  refine go_call (Q' := _) rfl rfl rfl rfl rfl (sp_X5_look L xs sio (d + 38) dt hI  ((xs ((i + 1).toNat)).toInt) ⟨by omega, by omega⟩ ) ?_
  rintro _ _ ⟨rfl, h2⟩
  refine ⟨rfl, ?_⟩
  rcases h2 with ⟨rfl, h2⟩ | ⟨rfl, h2⟩ | ⟨rfl, h2⟩ | ⟨rfl, h2⟩ | ⟨rfl, h2⟩ | ⟨rfl, h2⟩ | ⟨rfl, h2⟩ | ⟨rfl, h2⟩ | ⟨rfl, h2⟩
  · skip
    refine go_to (k := 6) (pc' := 1427) (L' := [some (.inr (.inr (some 3000))), some (.inr (.inr (some 0))), some (.inr (.inr (some 79))), some (.inl i)]) (st' := [.inl (i + 1), .inr (.inr (some 3000)), .inr (.inr (some 79))]) (w' := (SH, dt)) (fun _ => rfl) ?_
    refine go_smp (L' := [some (.inr (.inr (some 3000))), some (.inr (.inr (some 0))), some (.inr (.inr (some 79))), some (.inl i)]) (st' := [.inl ((xs ((i + 1).toNat)).toInt), .inr (.inr (some 79))]) (w' := (SH, dt)) rfl rfl (s_iald (n := L) (f := fun j => (xs j).toInt) (am_scr hLL) ⟨by omega, by omega⟩) ?_
    refine go_call (Q' := _) rfl rfl rfl rfl rfl (sp_X6_look L xs sio (d + 38) dt hI  ((xs ((i + 1).toNat)).toInt) ⟨by omega, by omega⟩ ) ?_
    rintro _ _ ⟨rfl, h3⟩
    refine ⟨rfl, ?_⟩
    rcases h3 with ⟨rfl, h3⟩ | ⟨rfl, h3⟩ | ⟨rfl, h3⟩ | ⟨rfl, h3⟩ | ⟨rfl, h3⟩ | ⟨rfl, h3⟩ | ⟨rfl, h3⟩ | ⟨rfl, h3⟩ | ⟨rfl, h3⟩
    · skip
      refine go_to (k := 2) (pc' := 1435) (L' := [some (.inr (.inr (some 3000))), some (.inr (.inr (some 0))), some (.inr (.inr (some 79))), some (.inl i)]) (st' := []) (w' := (SH, dt)) (fun _ => rfl) ?_
      exact K dt hI hM hM2 (by first | omega | (simp only [*]; done) | simp only [*]) (by omega) (by omega) (by omega) (by omega) (by omega) (by omega) (by omega) (by omega) (by omega) (by omega) (by omega) (by omega) (by omega) (by omega) (by omega) (by first | exact hI | exact TPL_k hd0 (fun _ => rfl) (fun _ => rfl) (by omega) | (exfalso; omega))
    · skip
      refine go_to (k := 2) (pc' := 1435) (L' := [some (.inr (.inr (some 3000))), some (.inr (.inr (some 0))), some (.inr (.inr (some 79))), some (.inl i)]) (st' := []) (w' := (SH, dt)) (fun _ => rfl) ?_
      exact K dt hI hM hM2 (by first | omega | (simp only [*]; done) | simp only [*]) (by omega) (by omega) (by omega) (by omega) (by omega) (by omega) (by omega) (by omega) (by omega) (by omega) (by omega) (by omega) (by omega) (by omega) (by omega) (by first | exact hI | exact TPL_k hd0 (fun _ => rfl) (fun _ => rfl) (by omega) | (exfalso; omega))
    · skip
      refine go_to (k := 2) (pc' := 1435) (L' := [some (.inr (.inr (some 3000))), some (.inr (.inr (some 0))), some (.inr (.inr (some 79))), some (.inl i)]) (st' := []) (w' := (SH, dt)) (fun _ => rfl) ?_
      exact K dt hI hM hM2 (by first | omega | (simp only [*]; done) | simp only [*]) (by omega) (by omega) (by omega) (by omega) (by omega) (by omega) (by omega) (by omega) (by omega) (by omega) (by omega) (by omega) (by omega) (by omega) (by omega) (by first | exact hI | exact TPL_k hd0 (fun _ => rfl) (fun _ => rfl) (by omega) | (exfalso; omega))
    · skip
      refine go_to (k := 2) (pc' := 1435) (L' := [some (.inr (.inr (some 3000))), some (.inr (.inr (some 0))), some (.inr (.inr (some 79))), some (.inl i)]) (st' := []) (w' := (SH, dt)) (fun _ => rfl) ?_
      exact K dt hI hM hM2 (by first | omega | (simp only [*]; done) | simp only [*]) (by omega) (by omega) (by omega) (by omega) (by omega) (by omega) (by omega) (by omega) (by omega) (by omega) (by omega) (by omega) (by omega) (by omega) (by omega) (by first | exact hI | exact TPL_k hd0 (fun _ => rfl) (fun _ => rfl) (by omega) | (exfalso; omega))
    · skip
      refine go_to (k := 2) (pc' := 1435) (L' := [some (.inr (.inr (some 3000))), some (.inr (.inr (some 0))), some (.inr (.inr (some 79))), some (.inl i)]) (st' := []) (w' := (SH, dt)) (fun _ => rfl) ?_
      exact K dt hI hM hM2 (by first | omega | (simp only [*]; done) | simp only [*]) (by omega) (by omega) (by omega) (by omega) (by omega) (by omega) (by omega) (by omega) (by omega) (by omega) (by omega) (by omega) (by omega) (by omega) (by omega) (by first | exact hI | exact TPL_k hd0 (fun _ => rfl) (fun _ => rfl) (by omega) | (exfalso; omega))
    · skip
      refine go_to (k := 2) (pc' := 1435) (L' := [some (.inr (.inr (some 3000))), some (.inr (.inr (some 0))), some (.inr (.inr (some 79))), some (.inl i)]) (st' := []) (w' := (SH, dt)) (fun _ => rfl) ?_
      exact K dt hI hM hM2 (by first | omega | (simp only [*]; done) | simp only [*]) (by omega) (by omega) (by omega) (by omega) (by omega) (by omega) (by omega) (by omega) (by omega) (by omega) (by omega) (by omega) (by omega) (by omega) (by omega) (by first | exact hI | exact TPL_k hd0 (fun _ => rfl) (fun _ => rfl) (by omega) | (exfalso; omega))
    · skip
      obtain ⟨h3_0, h3_1⟩ := h3
      refine go_to (k := 2) (pc' := 1435) (L' := [some (.inr (.inr (some 3000))), some (.inr (.inr (some 0))), some (.inr (.inr (some 79))), some (.inl i)]) (st' := []) (w' := (SH, dt)) (fun _ => rfl) ?_
      exact K dt hI hM hM2 (by first | omega | (simp only [*]; done) | simp only [*]) (by omega) (by omega) (by omega) (by omega) (by omega) (by omega) (by omega) (by omega) (by omega) (by omega) (by omega) (by omega) (by omega) (by omega) (by omega) (by first | exact hI | exact TPL_k hd0 (fun _ => rfl) (fun _ => rfl) (by omega) | (exfalso; omega))
    · skip
      obtain ⟨h3_0, h3_1⟩ := h3
      refine go_to (k := 2) (pc' := 1435) (L' := [some (.inr (.inr (some 3000))), some (.inr (.inr (some 0))), some (.inr (.inr (some 79))), some (.inl i)]) (st' := []) (w' := (SH, dt)) (fun _ => rfl) ?_
      exact K dt hI hM hM2 (by first | omega | (simp only [*]; done) | simp only [*]) (by omega) (by omega) (by omega) (by omega) (by omega) (by omega) (by omega) (by omega) (by omega) (by omega) (by omega) (by omega) (by omega) (by omega) (by omega) (by first | exact hI | exact TPL_k hd0 (fun _ => rfl) (fun _ => rfl) (by omega) | (exfalso; omega))
    · skip
      refine go_to (k := 2) (pc' := 1435) (L' := [some (.inr (.inr (some 3000))), some (.inr (.inr (some 0))), some (.inr (.inr (some 79))), some (.inl i)]) (st' := []) (w' := (SH, dt)) (fun _ => rfl) ?_
      exact K dt hI hM hM2 (by first | omega | (simp only [*]; done) | simp only [*]) (by omega) (by omega) (by omega) (by omega) (by omega) (by omega) (by omega) (by omega) (by omega) (by omega) (by omega) (by omega) (by omega) (by omega) (by omega) (by first | exact hI | exact TPL_k hd0 (fun _ => rfl) (fun _ => rfl) (by omega) | (exfalso; omega))
  · skip
    refine go_to (k := 6) (pc' := 1427) (L' := [some (.inr (.inr (some 3000))), some (.inr (.inr (some 0))), some (.inr (.inr (some 79))), some (.inl i)]) (st' := [.inl (i + 1), .inr (.inr (some 3000)), .inr (.inr (some 79))]) (w' := (SH, dt)) (fun _ => rfl) ?_
    refine go_smp (L' := [some (.inr (.inr (some 3000))), some (.inr (.inr (some 0))), some (.inr (.inr (some 79))), some (.inl i)]) (st' := [.inl ((xs ((i + 1).toNat)).toInt), .inr (.inr (some 79))]) (w' := (SH, dt)) rfl rfl (s_iald (n := L) (f := fun j => (xs j).toInt) (am_scr hLL) ⟨by omega, by omega⟩) ?_
    refine go_call (Q' := _) rfl rfl rfl rfl rfl (sp_X6_look L xs sio (d + 38) dt hI  ((xs ((i + 1).toNat)).toInt) ⟨by omega, by omega⟩ ) ?_
    rintro _ _ ⟨rfl, h4⟩
    refine ⟨rfl, ?_⟩
    rcases h4 with ⟨rfl, h4⟩ | ⟨rfl, h4⟩ | ⟨rfl, h4⟩ | ⟨rfl, h4⟩ | ⟨rfl, h4⟩ | ⟨rfl, h4⟩ | ⟨rfl, h4⟩ | ⟨rfl, h4⟩ | ⟨rfl, h4⟩
    · skip
      refine go_to (k := 2) (pc' := 1435) (L' := [some (.inr (.inr (some 3000))), some (.inr (.inr (some 0))), some (.inr (.inr (some 79))), some (.inl i)]) (st' := []) (w' := (SH, dt)) (fun _ => rfl) ?_
      exact K dt hI hM hM2 (by first | omega | (simp only [*]; done) | simp only [*]) (by omega) (by omega) (by omega) (by omega) (by omega) (by omega) (by omega) (by omega) (by omega) (by omega) (by omega) (by omega) (by omega) (by omega) (by omega) (by first | exact hI | exact TPL_k hd0 (fun _ => rfl) (fun _ => rfl) (by omega) | (exfalso; omega))
    · skip
      refine go_to (k := 2) (pc' := 1435) (L' := [some (.inr (.inr (some 3000))), some (.inr (.inr (some 0))), some (.inr (.inr (some 79))), some (.inl i)]) (st' := []) (w' := (SH, dt)) (fun _ => rfl) ?_
      exact K dt hI hM hM2 (by first | omega | (simp only [*]; done) | simp only [*]) (by omega) (by omega) (by omega) (by omega) (by omega) (by omega) (by omega) (by omega) (by omega) (by omega) (by omega) (by omega) (by omega) (by omega) (by omega) (by first | exact hI | exact TPL_k hd0 (fun _ => rfl) (fun _ => rfl) (by omega) | (exfalso; omega))
    · skip
      refine go_to (k := 2) (pc' := 1435) (L' := [some (.inr (.inr (some 3000))), some (.inr (.inr (some 0))), some (.inr (.inr (some 79))), some (.inl i)]) (st' := []) (w' := (SH, dt)) (fun _ => rfl) ?_
      exact K dt hI hM hM2 (by first | omega | (simp only [*]; done) | simp only [*]) (by omega) (by omega) (by omega) (by omega) (by omega) (by omega) (by omega) (by omega) (by omega) (by omega) (by omega) (by omega) (by omega) (by omega) (by omega) (by first | exact hI | exact TPL_k hd0 (fun _ => rfl) (fun _ => rfl) (by omega) | (exfalso; omega))
    · skip
      refine go_to (k := 2) (pc' := 1435) (L' := [some (.inr (.inr (some 3000))), some (.inr (.inr (some 0))), some (.inr (.inr (some 79))), some (.inl i)]) (st' := []) (w' := (SH, dt)) (fun _ => rfl) ?_
      exact K dt hI hM hM2 (by first | omega | (simp only [*]; done) | simp only [*]) (by omega) (by omega) (by omega) (by omega) (by omega) (by omega) (by omega) (by omega) (by omega) (by omega) (by omega) (by omega) (by omega) (by omega) (by omega) (by first | exact hI | exact TPL_k hd0 (fun _ => rfl) (fun _ => rfl) (by omega) | (exfalso; omega))
    · skip
      refine go_to (k := 2) (pc' := 1435) (L' := [some (.inr (.inr (some 3000))), some (.inr (.inr (some 0))), some (.inr (.inr (some 79))), some (.inl i)]) (st' := []) (w' := (SH, dt)) (fun _ => rfl) ?_
      exact K dt hI hM hM2 (by first | omega | (simp only [*]; done) | simp only [*]) (by omega) (by omega) (by omega) (by omega) (by omega) (by omega) (by omega) (by omega) (by omega) (by omega) (by omega) (by omega) (by omega) (by omega) (by omega) (by first | exact hI | exact TPL_k hd0 (fun _ => rfl) (fun _ => rfl) (by omega) | (exfalso; omega))
    · skip
      refine go_to (k := 2) (pc' := 1435) (L' := [some (.inr (.inr (some 3000))), some (.inr (.inr (some 0))), some (.inr (.inr (some 79))), some (.inl i)]) (st' := []) (w' := (SH, dt)) (fun _ => rfl) ?_
      exact K dt hI hM hM2 (by first | omega | (simp only [*]; done) | simp only [*]) (by omega) (by omega) (by omega) (by omega) (by omega) (by omega) (by omega) (by omega) (by omega) (by omega) (by omega) (by omega) (by omega) (by omega) (by omega) (by first | exact hI | exact TPL_k hd0 (fun _ => rfl) (fun _ => rfl) (by omega) | (exfalso; omega))
    · skip
      obtain ⟨h4_0, h4_1⟩ := h4
      refine go_to (k := 2) (pc' := 1435) (L' := [some (.inr (.inr (some 3000))), some (.inr (.inr (some 0))), some (.inr (.inr (some 79))), some (.inl i)]) (st' := []) (w' := (SH, dt)) (fun _ => rfl) ?_
      exact K dt hI hM hM2 (by first | omega | (simp only [*]; done) | simp only [*]) (by omega) (by omega) (by omega) (by omega) (by omega) (by omega) (by omega) (by omega) (by omega) (by omega) (by omega) (by omega) (by omega) (by omega) (by omega) (by first | exact hI | exact TPL_k hd0 (fun _ => rfl) (fun _ => rfl) (by omega) | (exfalso; omega))
    · skip
      obtain ⟨h4_0, h4_1⟩ := h4
      refine go_to (k := 2) (pc' := 1435) (L' := [some (.inr (.inr (some 3000))), some (.inr (.inr (some 0))), some (.inr (.inr (some 79))), some (.inl i)]) (st' := []) (w' := (SH, dt)) (fun _ => rfl) ?_
      exact K dt hI hM hM2 (by first | omega | (simp only [*]; done) | simp only [*]) (by omega) (by omega) (by omega) (by omega) (by omega) (by omega) (by omega) (by omega) (by omega) (by omega) (by omega) (by omega) (by omega) (by omega) (by omega) (by first | exact hI | exact TPL_k hd0 (fun _ => rfl) (fun _ => rfl) (by omega) | (exfalso; omega))
    · skip
      refine go_to (k := 2) (pc' := 1435) (L' := [some (.inr (.inr (some 3000))), some (.inr (.inr (some 0))), some (.inr (.inr (some 79))), some (.inl i)]) (st' := []) (w' := (SH, dt)) (fun _ => rfl) ?_
      exact K dt hI hM hM2 (by first | omega | (simp only [*]; done) | simp only [*]) (by omega) (by omega) (by omega) (by omega) (by omega) (by omega) (by omega) (by omega) (by omega) (by omega) (by omega) (by omega) (by omega) (by omega) (by omega) (by first | exact hI | exact TPL_k hd0 (fun _ => rfl) (fun _ => rfl) (by omega) | (exfalso; omega))
  · skip
    refine go_to (k := 6) (pc' := 1427) (L' := [some (.inr (.inr (some 3000))), some (.inr (.inr (some 0))), some (.inr (.inr (some 79))), some (.inl i)]) (st' := [.inl (i + 1), .inr (.inr (some 3000)), .inr (.inr (some 79))]) (w' := (SH, dt)) (fun _ => rfl) ?_
    refine go_smp (L' := [some (.inr (.inr (some 3000))), some (.inr (.inr (some 0))), some (.inr (.inr (some 79))), some (.inl i)]) (st' := [.inl ((xs ((i + 1).toNat)).toInt), .inr (.inr (some 79))]) (w' := (SH, dt)) rfl rfl (s_iald (n := L) (f := fun j => (xs j).toInt) (am_scr hLL) ⟨by omega, by omega⟩) ?_
    refine go_call (Q' := _) rfl rfl rfl rfl rfl (sp_X6_look L xs sio (d + 38) dt hI  ((xs ((i + 1).toNat)).toInt) ⟨by omega, by omega⟩ ) ?_
    rintro _ _ ⟨rfl, h5⟩
    refine ⟨rfl, ?_⟩
    rcases h5 with ⟨rfl, h5⟩ | ⟨rfl, h5⟩ | ⟨rfl, h5⟩ | ⟨rfl, h5⟩ | ⟨rfl, h5⟩ | ⟨rfl, h5⟩ | ⟨rfl, h5⟩ | ⟨rfl, h5⟩ | ⟨rfl, h5⟩
    · skip
      refine go_to (k := 2) (pc' := 1435) (L' := [some (.inr (.inr (some 3000))), some (.inr (.inr (some 0))), some (.inr (.inr (some 79))), some (.inl i)]) (st' := []) (w' := (SH, dt)) (fun _ => rfl) ?_
      exact K dt hI hM hM2 (by first | omega | (simp only [*]; done) | simp only [*]) (by omega) (by omega) (by omega) (by omega) (by omega) (by omega) (by omega) (by omega) (by omega) (by omega) (by omega) (by omega) (by omega) (by omega) (by omega) (by first | exact hI | exact TPL_k hd0 (fun _ => rfl) (fun _ => rfl) (by omega) | (exfalso; omega))
    · skip
      refine go_to (k := 2) (pc' := 1435) (L' := [some (.inr (.inr (some 3000))), some (.inr (.inr (some 0))), some (.inr (.inr (some 79))), some (.inl i)]) (st' := []) (w' := (SH, dt)) (fun _ => rfl) ?_
      exact K dt hI hM hM2 (by first | omega | (simp only [*]; done) | simp only [*]) (by omega) (by omega) (by omega) (by omega) (by omega) (by omega) (by omega) (by omega) (by omega) (by omega) (by omega) (by omega) (by omega) (by omega) (by omega) (by first | exact hI | exact TPL_k hd0 (fun _ => rfl) (fun _ => rfl) (by omega) | (exfalso; omega))
    · skip
      refine go_to (k := 2) (pc' := 1435) (L' := [some (.inr (.inr (some 3000))), some (.inr (.inr (some 0))), some (.inr (.inr (some 79))), some (.inl i)]) (st' := []) (w' := (SH, dt)) (fun _ => rfl) ?_
      exact K dt hI hM hM2 (by first | omega | (simp only [*]; done) | simp only [*]) (by omega) (by omega) (by omega) (by omega) (by omega) (by omega) (by omega) (by omega) (by omega) (by omega) (by omega) (by omega) (by omega) (by omega) (by omega) (by first | exact hI | exact TPL_k hd0 (fun _ => rfl) (fun _ => rfl) (by omega) | (exfalso; omega))
    · skip
      refine go_to (k := 2) (pc' := 1435) (L' := [some (.inr (.inr (some 3000))), some (.inr (.inr (some 0))), some (.inr (.inr (some 79))), some (.inl i)]) (st' := []) (w' := (SH, dt)) (fun _ => rfl) ?_
      exact K dt hI hM hM2 (by first | omega | (simp only [*]; done) | simp only [*]) (by omega) (by omega) (by omega) (by omega) (by omega) (by omega) (by omega) (by omega) (by omega) (by omega) (by omega) (by omega) (by omega) (by omega) (by omega) (by first | exact hI | exact TPL_k hd0 (fun _ => rfl) (fun _ => rfl) (by omega) | (exfalso; omega))
    · skip
      refine go_to (k := 2) (pc' := 1435) (L' := [some (.inr (.inr (some 3000))), some (.inr (.inr (some 0))), some (.inr (.inr (some 79))), some (.inl i)]) (st' := []) (w' := (SH, dt)) (fun _ => rfl) ?_
      exact K dt hI hM hM2 (by first | omega | (simp only [*]; done) | simp only [*]) (by omega) (by omega) (by omega) (by omega) (by omega) (by omega) (by omega) (by omega) (by omega) (by omega) (by omega) (by omega) (by omega) (by omega) (by omega) (by first | exact hI | exact TPL_k hd0 (fun _ => rfl) (fun _ => rfl) (by omega) | (exfalso; omega))
    · skip
      refine go_to (k := 2) (pc' := 1435) (L' := [some (.inr (.inr (some 3000))), some (.inr (.inr (some 0))), some (.inr (.inr (some 79))), some (.inl i)]) (st' := []) (w' := (SH, dt)) (fun _ => rfl) ?_
      exact K dt hI hM hM2 (by first | omega | (simp only [*]; done) | simp only [*]) (by omega) (by omega) (by omega) (by omega) (by omega) (by omega) (by omega) (by omega) (by omega) (by omega) (by omega) (by omega) (by omega) (by omega) (by omega) (by first | exact hI | exact TPL_k hd0 (fun _ => rfl) (fun _ => rfl) (by omega) | (exfalso; omega))
    · skip
      obtain ⟨h5_0, h5_1⟩ := h5
      refine go_to (k := 2) (pc' := 1435) (L' := [some (.inr (.inr (some 3000))), some (.inr (.inr (some 0))), some (.inr (.inr (some 79))), some (.inl i)]) (st' := []) (w' := (SH, dt)) (fun _ => rfl) ?_
      exact K dt hI hM hM2 (by first | omega | (simp only [*]; done) | simp only [*]) (by omega) (by omega) (by omega) (by omega) (by omega) (by omega) (by omega) (by omega) (by omega) (by omega) (by omega) (by omega) (by omega) (by omega) (by omega) (by first | exact hI | exact TPL_k hd0 (fun _ => rfl) (fun _ => rfl) (by omega) | (exfalso; omega))
    · skip
      obtain ⟨h5_0, h5_1⟩ := h5
      refine go_to (k := 2) (pc' := 1435) (L' := [some (.inr (.inr (some 3000))), some (.inr (.inr (some 0))), some (.inr (.inr (some 79))), some (.inl i)]) (st' := []) (w' := (SH, dt)) (fun _ => rfl) ?_
      exact K dt hI hM hM2 (by first | omega | (simp only [*]; done) | simp only [*]) (by omega) (by omega) (by omega) (by omega) (by omega) (by omega) (by omega) (by omega) (by omega) (by omega) (by omega) (by omega) (by omega) (by omega) (by omega) (by first | exact hI | exact TPL_k hd0 (fun _ => rfl) (fun _ => rfl) (by omega) | (exfalso; omega))
    · skip
      refine go_to (k := 2) (pc' := 1435) (L' := [some (.inr (.inr (some 3000))), some (.inr (.inr (some 0))), some (.inr (.inr (some 79))), some (.inl i)]) (st' := []) (w' := (SH, dt)) (fun _ => rfl) ?_
      exact K dt hI hM hM2 (by first | omega | (simp only [*]; done) | simp only [*]) (by omega) (by omega) (by omega) (by omega) (by omega) (by omega) (by omega) (by omega) (by omega) (by omega) (by omega) (by omega) (by omega) (by omega) (by omega) (by first | exact hI | exact TPL_k hd0 (fun _ => rfl) (fun _ => rfl) (by omega) | (exfalso; omega))
  · skip
    refine go_to (k := 6) (pc' := 1427) (L' := [some (.inr (.inr (some 3000))), some (.inr (.inr (some 0))), some (.inr (.inr (some 79))), some (.inl i)]) (st' := [.inl (i + 1), .inr (.inr (some 3000)), .inr (.inr (some 79))]) (w' := (SH, dt)) (fun _ => rfl) ?_
    refine go_smp (L' := [some (.inr (.inr (some 3000))), some (.inr (.inr (some 0))), some (.inr (.inr (some 79))), some (.inl i)]) (st' := [.inl ((xs ((i + 1).toNat)).toInt), .inr (.inr (some 79))]) (w' := (SH, dt)) rfl rfl (s_iald (n := L) (f := fun j => (xs j).toInt) (am_scr hLL) ⟨by omega, by omega⟩) ?_
    refine go_call (Q' := _) rfl rfl rfl rfl rfl (sp_X6_look L xs sio (d + 38) dt hI  ((xs ((i + 1).toNat)).toInt) ⟨by omega, by omega⟩ ) ?_
    rintro _ _ ⟨rfl, h6⟩
    refine ⟨rfl, ?_⟩
    rcases h6 with ⟨rfl, h6⟩ | ⟨rfl, h6⟩ | ⟨rfl, h6⟩ | ⟨rfl, h6⟩ | ⟨rfl, h6⟩ | ⟨rfl, h6⟩ | ⟨rfl, h6⟩ | ⟨rfl, h6⟩ | ⟨rfl, h6⟩
    · skip
      refine go_to (k := 2) (pc' := 1435) (L' := [some (.inr (.inr (some 3000))), some (.inr (.inr (some 0))), some (.inr (.inr (some 79))), some (.inl i)]) (st' := []) (w' := (SH, dt)) (fun _ => rfl) ?_
      exact K dt hI hM hM2 (by first | omega | (simp only [*]; done) | simp only [*]) (by omega) (by omega) (by omega) (by omega) (by omega) (by omega) (by omega) (by omega) (by omega) (by omega) (by omega) (by omega) (by omega) (by omega) (by omega) (by first | exact hI | exact TPL_k hd0 (fun _ => rfl) (fun _ => rfl) (by omega) | (exfalso; omega))
    · skip
      refine go_to (k := 2) (pc' := 1435) (L' := [some (.inr (.inr (some 3000))), some (.inr (.inr (some 0))), some (.inr (.inr (some 79))), some (.inl i)]) (st' := []) (w' := (SH, dt)) (fun _ => rfl) ?_
      exact K dt hI hM hM2 (by first | omega | (simp only [*]; done) | simp only [*]) (by omega) (by omega) (by omega) (by omega) (by omega) (by omega) (by omega) (by omega) (by omega) (by omega) (by omega) (by omega) (by omega) (by omega) (by omega) (by first | exact hI | exact TPL_k hd0 (fun _ => rfl) (fun _ => rfl) (by omega) | (exfalso; omega))
    · skip
      refine go_to (k := 2) (pc' := 1435) (L' := [some (.inr (.inr (some 3000))), some (.inr (.inr (some 0))), some (.inr (.inr (some 79))), some (.inl i)]) (st' := []) (w' := (SH, dt)) (fun _ => rfl) ?_
      exact K dt hI hM hM2 (by first | omega | (simp only [*]; done) | simp only [*]) (by omega) (by omega) (by omega) (by omega) (by omega) (by omega) (by omega) (by omega) (by omega) (by omega) (by omega) (by omega) (by omega) (by omega) (by omega) (by first | exact hI | exact TPL_k hd0 (fun _ => rfl) (fun _ => rfl) (by omega) | (exfalso; omega))
    · skip
      refine go_to (k := 2) (pc' := 1435) (L' := [some (.inr (.inr (some 3000))), some (.inr (.inr (some 0))), some (.inr (.inr (some 79))), some (.inl i)]) (st' := []) (w' := (SH, dt)) (fun _ => rfl) ?_
      exact K dt hI hM hM2 (by first | omega | (simp only [*]; done) | simp only [*]) (by omega) (by omega) (by omega) (by omega) (by omega) (by omega) (by omega) (by omega) (by omega) (by omega) (by omega) (by omega) (by omega) (by omega) (by omega) (by first | exact hI | exact TPL_k hd0 (fun _ => rfl) (fun _ => rfl) (by omega) | (exfalso; omega))
    · skip
      refine go_to (k := 2) (pc' := 1435) (L' := [some (.inr (.inr (some 3000))), some (.inr (.inr (some 0))), some (.inr (.inr (some 79))), some (.inl i)]) (st' := []) (w' := (SH, dt)) (fun _ => rfl) ?_
      exact K dt hI hM hM2 (by first | omega | (simp only [*]; done) | simp only [*]) (by omega) (by omega) (by omega) (by omega) (by omega) (by omega) (by omega) (by omega) (by omega) (by omega) (by omega) (by omega) (by omega) (by omega) (by omega) (by first | exact hI | exact TPL_k hd0 (fun _ => rfl) (fun _ => rfl) (by omega) | (exfalso; omega))
    · skip
      refine go_to (k := 2) (pc' := 1435) (L' := [some (.inr (.inr (some 3000))), some (.inr (.inr (some 0))), some (.inr (.inr (some 79))), some (.inl i)]) (st' := []) (w' := (SH, dt)) (fun _ => rfl) ?_
      exact K dt hI hM hM2 (by first | omega | (simp only [*]; done) | simp only [*]) (by omega) (by omega) (by omega) (by omega) (by omega) (by omega) (by omega) (by omega) (by omega) (by omega) (by omega) (by omega) (by omega) (by omega) (by omega) (by first | exact hI | exact TPL_k hd0 (fun _ => rfl) (fun _ => rfl) (by omega) | (exfalso; omega))
    · skip
      obtain ⟨h6_0, h6_1⟩ := h6
      refine go_to (k := 2) (pc' := 1435) (L' := [some (.inr (.inr (some 3000))), some (.inr (.inr (some 0))), some (.inr (.inr (some 79))), some (.inl i)]) (st' := []) (w' := (SH, dt)) (fun _ => rfl) ?_
      exact K dt hI hM hM2 (by first | omega | (simp only [*]; done) | simp only [*]) (by omega) (by omega) (by omega) (by omega) (by omega) (by omega) (by omega) (by omega) (by omega) (by omega) (by omega) (by omega) (by omega) (by omega) (by omega) (by first | exact hI | exact TPL_k hd0 (fun _ => rfl) (fun _ => rfl) (by omega) | (exfalso; omega))
    · skip
      obtain ⟨h6_0, h6_1⟩ := h6
      refine go_to (k := 2) (pc' := 1435) (L' := [some (.inr (.inr (some 3000))), some (.inr (.inr (some 0))), some (.inr (.inr (some 79))), some (.inl i)]) (st' := []) (w' := (SH, dt)) (fun _ => rfl) ?_
      exact K dt hI hM hM2 (by first | omega | (simp only [*]; done) | simp only [*]) (by omega) (by omega) (by omega) (by omega) (by omega) (by omega) (by omega) (by omega) (by omega) (by omega) (by omega) (by omega) (by omega) (by omega) (by omega) (by first | exact hI | exact TPL_k hd0 (fun _ => rfl) (fun _ => rfl) (by omega) | (exfalso; omega))
    · skip
      refine go_to (k := 2) (pc' := 1435) (L' := [some (.inr (.inr (some 3000))), some (.inr (.inr (some 0))), some (.inr (.inr (some 79))), some (.inl i)]) (st' := []) (w' := (SH, dt)) (fun _ => rfl) ?_
      exact K dt hI hM hM2 (by first | omega | (simp only [*]; done) | simp only [*]) (by omega) (by omega) (by omega) (by omega) (by omega) (by omega) (by omega) (by omega) (by omega) (by omega) (by omega) (by omega) (by omega) (by omega) (by omega) (by first | exact hI | exact TPL_k hd0 (fun _ => rfl) (fun _ => rfl) (by omega) | (exfalso; omega))
  · skip
    refine go_to (k := 6) (pc' := 1427) (L' := [some (.inr (.inr (some 3000))), some (.inr (.inr (some 0))), some (.inr (.inr (some 79))), some (.inl i)]) (st' := [.inl (i + 1), .inr (.inr (some 3000)), .inr (.inr (some 79))]) (w' := (SH, dt)) (fun _ => rfl) ?_
    refine go_smp (L' := [some (.inr (.inr (some 3000))), some (.inr (.inr (some 0))), some (.inr (.inr (some 79))), some (.inl i)]) (st' := [.inl ((xs ((i + 1).toNat)).toInt), .inr (.inr (some 79))]) (w' := (SH, dt)) rfl rfl (s_iald (n := L) (f := fun j => (xs j).toInt) (am_scr hLL) ⟨by omega, by omega⟩) ?_
    refine go_call (Q' := _) rfl rfl rfl rfl rfl (sp_X6_look L xs sio (d + 38) dt hI  ((xs ((i + 1).toNat)).toInt) ⟨by omega, by omega⟩ ) ?_
    rintro _ _ ⟨rfl, h7⟩
    refine ⟨rfl, ?_⟩
    rcases h7 with ⟨rfl, h7⟩ | ⟨rfl, h7⟩ | ⟨rfl, h7⟩ | ⟨rfl, h7⟩ | ⟨rfl, h7⟩ | ⟨rfl, h7⟩ | ⟨rfl, h7⟩ | ⟨rfl, h7⟩ | ⟨rfl, h7⟩
    · skip
      refine go_to (k := 2) (pc' := 1435) (L' := [some (.inr (.inr (some 3000))), some (.inr (.inr (some 0))), some (.inr (.inr (some 79))), some (.inl i)]) (st' := []) (w' := (SH, dt)) (fun _ => rfl) ?_
      exact K dt hI hM hM2 (by first | omega | (simp only [*]; done) | simp only [*]) (by omega) (by omega) (by omega) (by omega) (by omega) (by omega) (by omega) (by omega) (by omega) (by omega) (by omega) (by omega) (by omega) (by omega) (by omega) (by first | exact hI | exact TPL_k hd0 (fun _ => rfl) (fun _ => rfl) (by omega) | (exfalso; omega))
    · skip
      refine go_to (k := 2) (pc' := 1435) (L' := [some (.inr (.inr (some 3000))), some (.inr (.inr (some 0))), some (.inr (.inr (some 79))), some (.inl i)]) (st' := []) (w' := (SH, dt)) (fun _ => rfl) ?_
      exact K dt hI hM hM2 (by first | omega | (simp only [*]; done) | simp only [*]) (by omega) (by omega) (by omega) (by omega) (by omega) (by omega) (by omega) (by omega) (by omega) (by omega) (by omega) (by omega) (by omega) (by omega) (by omega) (by first | exact hI | exact TPL_k hd0 (fun _ => rfl) (fun _ => rfl) (by omega) | (exfalso; omega))
    · skip
      refine go_to (k := 2) (pc' := 1435) (L' := [some (.inr (.inr (some 3000))), some (.inr (.inr (some 0))), some (.inr (.inr (some 79))), some (.inl i)]) (st' := []) (w' := (SH, dt)) (fun _ => rfl) ?_
      exact K dt hI hM hM2 (by first | omega | (simp only [*]; done) | simp only [*]) (by omega) (by omega) (by omega) (by omega) (by omega) (by omega) (by omega) (by omega) (by omega) (by omega) (by omega) (by omega) (by omega) (by omega) (by omega) (by first | exact hI | exact TPL_k hd0 (fun _ => rfl) (fun _ => rfl) (by omega) | (exfalso; omega))
    · skip
      refine go_to (k := 2) (pc' := 1435) (L' := [some (.inr (.inr (some 3000))), some (.inr (.inr (some 0))), some (.inr (.inr (some 79))), some (.inl i)]) (st' := []) (w' := (SH, dt)) (fun _ => rfl) ?_
      exact K dt hI hM hM2 (by first | omega | (simp only [*]; done) | simp only [*]) (by omega) (by omega) (by omega) (by omega) (by omega) (by omega) (by omega) (by omega) (by omega) (by omega) (by omega) (by omega) (by omega) (by omega) (by omega) (by first | exact hI | exact TPL_k hd0 (fun _ => rfl) (fun _ => rfl) (by omega) | (exfalso; omega))
    · skip
      refine go_to (k := 2) (pc' := 1435) (L' := [some (.inr (.inr (some 3000))), some (.inr (.inr (some 0))), some (.inr (.inr (some 79))), some (.inl i)]) (st' := []) (w' := (SH, dt)) (fun _ => rfl) ?_
      exact K dt hI hM hM2 (by first | omega | (simp only [*]; done) | simp only [*]) (by omega) (by omega) (by omega) (by omega) (by omega) (by omega) (by omega) (by omega) (by omega) (by omega) (by omega) (by omega) (by omega) (by omega) (by omega) (by first | exact hI | exact TPL_k hd0 (fun _ => rfl) (fun _ => rfl) (by omega) | (exfalso; omega))
    · skip
      refine go_to (k := 2) (pc' := 1435) (L' := [some (.inr (.inr (some 3000))), some (.inr (.inr (some 0))), some (.inr (.inr (some 79))), some (.inl i)]) (st' := []) (w' := (SH, dt)) (fun _ => rfl) ?_
      exact K dt hI hM hM2 (by first | omega | (simp only [*]; done) | simp only [*]) (by omega) (by omega) (by omega) (by omega) (by omega) (by omega) (by omega) (by omega) (by omega) (by omega) (by omega) (by omega) (by omega) (by omega) (by omega) (by first | exact hI | exact TPL_k hd0 (fun _ => rfl) (fun _ => rfl) (by omega) | (exfalso; omega))
    · skip
      obtain ⟨h7_0, h7_1⟩ := h7
      refine go_to (k := 2) (pc' := 1435) (L' := [some (.inr (.inr (some 3000))), some (.inr (.inr (some 0))), some (.inr (.inr (some 79))), some (.inl i)]) (st' := []) (w' := (SH, dt)) (fun _ => rfl) ?_
      exact K dt hI hM hM2 (by first | omega | (simp only [*]; done) | simp only [*]) (by omega) (by omega) (by omega) (by omega) (by omega) (by omega) (by omega) (by omega) (by omega) (by omega) (by omega) (by omega) (by omega) (by omega) (by omega) (by first | exact hI | exact TPL_k hd0 (fun _ => rfl) (fun _ => rfl) (by omega) | (exfalso; omega))
    · skip
      obtain ⟨h7_0, h7_1⟩ := h7
      refine go_to (k := 2) (pc' := 1435) (L' := [some (.inr (.inr (some 3000))), some (.inr (.inr (some 0))), some (.inr (.inr (some 79))), some (.inl i)]) (st' := []) (w' := (SH, dt)) (fun _ => rfl) ?_
      exact K dt hI hM hM2 (by first | omega | (simp only [*]; done) | simp only [*]) (by omega) (by omega) (by omega) (by omega) (by omega) (by omega) (by omega) (by omega) (by omega) (by omega) (by omega) (by omega) (by omega) (by omega) (by omega) (by first | exact hI | exact TPL_k hd0 (fun _ => rfl) (fun _ => rfl) (by omega) | (exfalso; omega))
    · skip
      refine go_to (k := 2) (pc' := 1435) (L' := [some (.inr (.inr (some 3000))), some (.inr (.inr (some 0))), some (.inr (.inr (some 79))), some (.inl i)]) (st' := []) (w' := (SH, dt)) (fun _ => rfl) ?_
      exact K dt hI hM hM2 (by first | omega | (simp only [*]; done) | simp only [*]) (by omega) (by omega) (by omega) (by omega) (by omega) (by omega) (by omega) (by omega) (by omega) (by omega) (by omega) (by omega) (by omega) (by omega) (by omega) (by first | exact hI | exact TPL_k hd0 (fun _ => rfl) (fun _ => rfl) (by omega) | (exfalso; omega))
  · skip
    refine go_to (k := 6) (pc' := 1427) (L' := [some (.inr (.inr (some 3000))), some (.inr (.inr (some 0))), some (.inr (.inr (some 79))), some (.inl i)]) (st' := [.inl (i + 1), .inr (.inr (some 3000)), .inr (.inr (some 79))]) (w' := (SH, dt)) (fun _ => rfl) ?_
    refine go_smp (L' := [some (.inr (.inr (some 3000))), some (.inr (.inr (some 0))), some (.inr (.inr (some 79))), some (.inl i)]) (st' := [.inl ((xs ((i + 1).toNat)).toInt), .inr (.inr (some 79))]) (w' := (SH, dt)) rfl rfl (s_iald (n := L) (f := fun j => (xs j).toInt) (am_scr hLL) ⟨by omega, by omega⟩) ?_
    refine go_call (Q' := _) rfl rfl rfl rfl rfl (sp_X6_look L xs sio (d + 38) dt hI  ((xs ((i + 1).toNat)).toInt) ⟨by omega, by omega⟩ ) ?_
    rintro _ _ ⟨rfl, h8⟩
    refine ⟨rfl, ?_⟩
    rcases h8 with ⟨rfl, h8⟩ | ⟨rfl, h8⟩ | ⟨rfl, h8⟩ | ⟨rfl, h8⟩ | ⟨rfl, h8⟩ | ⟨rfl, h8⟩ | ⟨rfl, h8⟩ | ⟨rfl, h8⟩ | ⟨rfl, h8⟩
    · skip
      refine go_to (k := 2) (pc' := 1435) (L' := [some (.inr (.inr (some 3000))), some (.inr (.inr (some 0))), some (.inr (.inr (some 79))), some (.inl i)]) (st' := []) (w' := (SH, dt)) (fun _ => rfl) ?_
      exact K dt hI hM hM2 (by first | omega | (simp only [*]; done) | simp only [*]) (by omega) (by omega) (by omega) (by omega) (by omega) (by omega) (by omega) (by omega) (by omega) (by omega) (by omega) (by omega) (by omega) (by omega) (by omega) (by first | exact hI | exact TPL_k hd0 (fun _ => rfl) (fun _ => rfl) (by omega) | (exfalso; omega))
    · skip
      refine go_to (k := 2) (pc' := 1435) (L' := [some (.inr (.inr (some 3000))), some (.inr (.inr (some 0))), some (.inr (.inr (some 79))), some (.inl i)]) (st' := []) (w' := (SH, dt)) (fun _ => rfl) ?_
      exact K dt hI hM hM2 (by first | omega | (simp only [*]; done) | simp only [*]) (by omega) (by omega) (by omega) (by omega) (by omega) (by omega) (by omega) (by omega) (by omega) (by omega) (by omega) (by omega) (by omega) (by omega) (by omega) (by first | exact hI | exact TPL_k hd0 (fun _ => rfl) (fun _ => rfl) (by omega) | (exfalso; omega))
    · skip
      refine go_to (k := 2) (pc' := 1435) (L' := [some (.inr (.inr (some 3000))), some (.inr (.inr (some 0))), some (.inr (.inr (some 79))), some (.inl i)]) (st' := []) (w' := (SH, dt)) (fun _ => rfl) ?_
      exact K dt hI hM hM2 (by first | omega | (simp only [*]; done) | simp only [*]) (by omega) (by omega) (by omega) (by omega) (by omega) (by omega) (by omega) (by omega) (by omega) (by omega) (by omega) (by omega) (by omega) (by omega) (by omega) (by first | exact hI | exact TPL_k hd0 (fun _ => rfl) (fun _ => rfl) (by omega) | (exfalso; omega))
    · skip
      refine go_to (k := 2) (pc' := 1435) (L' := [some (.inr (.inr (some 3000))), some (.inr (.inr (some 0))), some (.inr (.inr (some 79))), some (.inl i)]) (st' := []) (w' := (SH, dt)) (fun _ => rfl) ?_
      exact K dt hI hM hM2 (by first | omega | (simp only [*]; done) | simp only [*]) (by omega) (by omega) (by omega) (by omega) (by omega) (by omega) (by omega) (by omega) (by omega) (by omega) (by omega) (by omega) (by omega) (by omega) (by omega) (by first | exact hI | exact TPL_k hd0 (fun _ => rfl) (fun _ => rfl) (by omega) | (exfalso; omega))
    · skip
      refine go_to (k := 2) (pc' := 1435) (L' := [some (.inr (.inr (some 3000))), some (.inr (.inr (some 0))), some (.inr (.inr (some 79))), some (.inl i)]) (st' := []) (w' := (SH, dt)) (fun _ => rfl) ?_
      exact K dt hI hM hM2 (by first | omega | (simp only [*]; done) | simp only [*]) (by omega) (by omega) (by omega) (by omega) (by omega) (by omega) (by omega) (by omega) (by omega) (by omega) (by omega) (by omega) (by omega) (by omega) (by omega) (by first | exact hI | exact TPL_k hd0 (fun _ => rfl) (fun _ => rfl) (by omega) | (exfalso; omega))
    · skip
      refine go_to (k := 2) (pc' := 1435) (L' := [some (.inr (.inr (some 3000))), some (.inr (.inr (some 0))), some (.inr (.inr (some 79))), some (.inl i)]) (st' := []) (w' := (SH, dt)) (fun _ => rfl) ?_
      exact K dt hI hM hM2 (by first | omega | (simp only [*]; done) | simp only [*]) (by omega) (by omega) (by omega) (by omega) (by omega) (by omega) (by omega) (by omega) (by omega) (by omega) (by omega) (by omega) (by omega) (by omega) (by omega) (by first | exact hI | exact TPL_k hd0 (fun _ => rfl) (fun _ => rfl) (by omega) | (exfalso; omega))
    · skip
      obtain ⟨h8_0, h8_1⟩ := h8
      refine go_to (k := 2) (pc' := 1435) (L' := [some (.inr (.inr (some 3000))), some (.inr (.inr (some 0))), some (.inr (.inr (some 79))), some (.inl i)]) (st' := []) (w' := (SH, dt)) (fun _ => rfl) ?_
      exact K dt hI hM hM2 (by first | omega | (simp only [*]; done) | simp only [*]) (by omega) (by omega) (by omega) (by omega) (by omega) (by omega) (by omega) (by omega) (by omega) (by omega) (by omega) (by omega) (by omega) (by omega) (by omega) (by first | exact hI | exact TPL_k hd0 (fun _ => rfl) (fun _ => rfl) (by omega) | (exfalso; omega))
    · skip
      obtain ⟨h8_0, h8_1⟩ := h8
      refine go_to (k := 2) (pc' := 1435) (L' := [some (.inr (.inr (some 3000))), some (.inr (.inr (some 0))), some (.inr (.inr (some 79))), some (.inl i)]) (st' := []) (w' := (SH, dt)) (fun _ => rfl) ?_
      exact K dt hI hM hM2 (by first | omega | (simp only [*]; done) | simp only [*]) (by omega) (by omega) (by omega) (by omega) (by omega) (by omega) (by omega) (by omega) (by omega) (by omega) (by omega) (by omega) (by omega) (by omega) (by omega) (by first | exact hI | exact TPL_k hd0 (fun _ => rfl) (fun _ => rfl) (by omega) | (exfalso; omega))
    · skip
      refine go_to (k := 2) (pc' := 1435) (L' := [some (.inr (.inr (some 3000))), some (.inr (.inr (some 0))), some (.inr (.inr (some 79))), some (.inl i)]) (st' := []) (w' := (SH, dt)) (fun _ => rfl) ?_
      exact K dt hI hM hM2 (by first | omega | (simp only [*]; done) | simp only [*]) (by omega) (by omega) (by omega) (by omega) (by omega) (by omega) (by omega) (by omega) (by omega) (by omega) (by omega) (by omega) (by omega) (by omega) (by omega) (by first | exact hI | exact TPL_k hd0 (fun _ => rfl) (fun _ => rfl) (by omega) | (exfalso; omega))
  · skip
    obtain ⟨h2_0, h2_1⟩ := h2
    refine go_to (k := 6) (pc' := 1427) (L' := [some (.inr (.inr (some 3000))), some (.inr (.inr (some 0))), some (.inr (.inr (some 79))), some (.inl i)]) (st' := [.inl (i + 1), .inr (.inr (some 3000)), .inr (.inr (some 79))]) (w' := (SH, dt)) (fun _ => rfl) ?_
    refine go_smp (L' := [some (.inr (.inr (some 3000))), some (.inr (.inr (some 0))), some (.inr (.inr (some 79))), some (.inl i)]) (st' := [.inl ((xs ((i + 1).toNat)).toInt), .inr (.inr (some 79))]) (w' := (SH, dt)) rfl rfl (s_iald (n := L) (f := fun j => (xs j).toInt) (am_scr hLL) ⟨by omega, by omega⟩) ?_
    refine go_call (Q' := _) rfl rfl rfl rfl rfl (sp_X6_look L xs sio (d + 38) dt hI  ((xs ((i + 1).toNat)).toInt) ⟨by omega, by omega⟩ ) ?_
    rintro _ _ ⟨rfl, h9⟩
    refine ⟨rfl, ?_⟩
    rcases h9 with ⟨rfl, h9⟩ | ⟨rfl, h9⟩ | ⟨rfl, h9⟩ | ⟨rfl, h9⟩ | ⟨rfl, h9⟩ | ⟨rfl, h9⟩ | ⟨rfl, h9⟩ | ⟨rfl, h9⟩ | ⟨rfl, h9⟩
    · skip
      refine go_to (k := 2) (pc' := 1435) (L' := [some (.inr (.inr (some 3000))), some (.inr (.inr (some 0))), some (.inr (.inr (some 79))), some (.inl i)]) (st' := []) (w' := (SH, dt)) (fun _ => rfl) ?_
      exact K dt hI hM hM2 (by first | omega | (simp only [*]; done) | simp only [*]) (by omega) (by omega) (by omega) (by omega) (by omega) (by omega) (by omega) (by omega) (by omega) (by omega) (by omega) (by omega) (by omega) (by omega) (by omega) (by first | exact hI | exact TPL_k hd0 (fun _ => rfl) (fun _ => rfl) (by omega) | (exfalso; omega))
    · skip
      refine go_to (k := 2) (pc' := 1435) (L' := [some (.inr (.inr (some 3000))), some (.inr (.inr (some 0))), some (.inr (.inr (some 79))), some (.inl i)]) (st' := []) (w' := (SH, dt)) (fun _ => rfl) ?_
      exact K dt hI hM hM2 (by first | omega | (simp only [*]; done) | simp only [*]) (by omega) (by omega) (by omega) (by omega) (by omega) (by omega) (by omega) (by omega) (by omega) (by omega) (by omega) (by omega) (by omega) (by omega) (by omega) (by first | exact hI | exact TPL_k hd0 (fun _ => rfl) (fun _ => rfl) (by omega) | (exfalso; omega))
    · skip
      refine go_to (k := 2) (pc' := 1435) (L' := [some (.inr (.inr (some 3000))), some (.inr (.inr (some 0))), some (.inr (.inr (some 79))), some (.inl i)]) (st' := []) (w' := (SH, dt)) (fun _ => rfl) ?_
      exact K dt hI hM hM2 (by first | omega | (simp only [*]; done) | simp only [*]) (by omega) (by omega) (by omega) (by omega) (by omega) (by omega) (by omega) (by omega) (by omega) (by omega) (by omega) (by omega) (by omega) (by omega) (by omega) (by first | exact hI | exact TPL_k hd0 (fun _ => rfl) (fun _ => rfl) (by omega) | (exfalso; omega))
    · skip
      refine go_to (k := 2) (pc' := 1435) (L' := [some (.inr (.inr (some 3000))), some (.inr (.inr (some 0))), some (.inr (.inr (some 79))), some (.inl i)]) (st' := []) (w' := (SH, dt)) (fun _ => rfl) ?_
      exact K dt hI hM hM2 (by first | omega | (simp only [*]; done) | simp only [*]) (by omega) (by omega) (by omega) (by omega) (by omega) (by omega) (by omega) (by omega) (by omega) (by omega) (by omega) (by omega) (by omega) (by omega) (by omega) (by first | exact hI | exact TPL_k hd0 (fun _ => rfl) (fun _ => rfl) (by omega) | (exfalso; omega))
    · skip
      refine go_to (k := 2) (pc' := 1435) (L' := [some (.inr (.inr (some 3000))), some (.inr (.inr (some 0))), some (.inr (.inr (some 79))), some (.inl i)]) (st' := []) (w' := (SH, dt)) (fun _ => rfl) ?_
      exact K dt hI hM hM2 (by first | omega | (simp only [*]; done) | simp only [*]) (by omega) (by omega) (by omega) (by omega) (by omega) (by omega) (by omega) (by omega) (by omega) (by omega) (by omega) (by omega) (by omega) (by omega) (by omega) (by first | exact hI | exact TPL_k hd0 (fun _ => rfl) (fun _ => rfl) (by omega) | (exfalso; omega))
    · skip
      refine go_to (k := 2) (pc' := 1435) (L' := [some (.inr (.inr (some 3000))), some (.inr (.inr (some 0))), some (.inr (.inr (some 79))), some (.inl i)]) (st' := []) (w' := (SH, dt)) (fun _ => rfl) ?_
      exact K dt hI hM hM2 (by first | omega | (simp only [*]; done) | simp only [*]) (by omega) (by omega) (by omega) (by omega) (by omega) (by omega) (by omega) (by omega) (by omega) (by omega) (by omega) (by omega) (by omega) (by omega) (by omega) (by first | exact hI | exact TPL_k hd0 (fun _ => rfl) (fun _ => rfl) (by omega) | (exfalso; omega))
    · skip
      obtain ⟨h9_0, h9_1⟩ := h9
      refine go_to (k := 2) (pc' := 1435) (L' := [some (.inr (.inr (some 3000))), some (.inr (.inr (some 0))), some (.inr (.inr (some 79))), some (.inl i)]) (st' := []) (w' := (SH, dt)) (fun _ => rfl) ?_
      exact K dt hI hM hM2 (by first | omega | (simp only [*]; done) | simp only [*]) (by omega) (by omega) (by omega) (by omega) (by omega) (by omega) (by omega) (by omega) (by omega) (by omega) (by omega) (by omega) (by omega) (by omega) (by omega) (by first | exact hI | exact TPL_k hd0 (fun _ => rfl) (fun _ => rfl) (by omega) | (exfalso; omega))
    · skip
      obtain ⟨h9_0, h9_1⟩ := h9
      refine go_to (k := 2) (pc' := 1435) (L' := [some (.inr (.inr (some 3000))), some (.inr (.inr (some 0))), some (.inr (.inr (some 79))), some (.inl i)]) (st' := []) (w' := (SH, dt)) (fun _ => rfl) ?_
      exact K dt hI hM hM2 (by first | omega | (simp only [*]; done) | simp only [*]) (by omega) (by omega) (by omega) (by omega) (by omega) (by omega) (by omega) (by omega) (by omega) (by omega) (by omega) (by omega) (by omega) (by omega) (by omega) (by first | exact hI | exact TPL_k hd0 (fun _ => rfl) (fun _ => rfl) (by omega) | (exfalso; omega))
    · skip
      refine go_to (k := 2) (pc' := 1435) (L' := [some (.inr (.inr (some 3000))), some (.inr (.inr (some 0))), some (.inr (.inr (some 79))), some (.inl i)]) (st' := []) (w' := (SH, dt)) (fun _ => rfl) ?_
      exact K dt hI hM hM2 (by first | omega | (simp only [*]; done) | simp only [*]) (by omega) (by omega) (by omega) (by omega) (by omega) (by omega) (by omega) (by omega) (by omega) (by omega) (by omega) (by omega) (by omega) (by omega) (by omega) (by first | exact hI | exact TPL_k hd0 (fun _ => rfl) (fun _ => rfl) (by omega) | (exfalso; omega))
  · skip
    obtain ⟨h2_0, h2_1⟩ := h2
    refine go_to (k := 6) (pc' := 1427) (L' := [some (.inr (.inr (some 3000))), some (.inr (.inr (some 0))), some (.inr (.inr (some 79))), some (.inl i)]) (st' := [.inl (i + 1), .inr (.inr (some 3000)), .inr (.inr (some 79))]) (w' := (SH, dt)) (fun _ => rfl) ?_
    refine go_smp (L' := [some (.inr (.inr (some 3000))), some (.inr (.inr (some 0))), some (.inr (.inr (some 79))), some (.inl i)]) (st' := [.inl ((xs ((i + 1).toNat)).toInt), .inr (.inr (some 79))]) (w' := (SH, dt)) rfl rfl (s_iald (n := L) (f := fun j => (xs j).toInt) (am_scr hLL) ⟨by omega, by omega⟩) ?_
    refine go_call (Q' := _) rfl rfl rfl rfl rfl (sp_X6_look L xs sio (d + 38) dt hI  ((xs ((i + 1).toNat)).toInt) ⟨by omega, by omega⟩ ) ?_
    rintro _ _ ⟨rfl, h10⟩
    refine ⟨rfl, ?_⟩
    rcases h10 with ⟨rfl, h10⟩ | ⟨rfl, h10⟩ | ⟨rfl, h10⟩ | ⟨rfl, h10⟩ | ⟨rfl, h10⟩ | ⟨rfl, h10⟩ | ⟨rfl, h10⟩ | ⟨rfl, h10⟩ | ⟨rfl, h10⟩
    · skip
      refine go_to (k := 2) (pc' := 1435) (L' := [some (.inr (.inr (some 3000))), some (.inr (.inr (some 0))), some (.inr (.inr (some 79))), some (.inl i)]) (st' := []) (w' := (SH, dt)) (fun _ => rfl) ?_
      exact K dt hI hM hM2 (by first | omega | (simp only [*]; done) | simp only [*]) (by omega) (by omega) (by omega) (by omega) (by omega) (by omega) (by omega) (by omega) (by omega) (by omega) (by omega) (by omega) (by omega) (by omega) (by omega) (by first | exact hI | exact TPL_k hd0 (fun _ => rfl) (fun _ => rfl) (by omega) | (exfalso; omega))
    · skip
      refine go_to (k := 2) (pc' := 1435) (L' := [some (.inr (.inr (some 3000))), some (.inr (.inr (some 0))), some (.inr (.inr (some 79))), some (.inl i)]) (st' := []) (w' := (SH, dt)) (fun _ => rfl) ?_
      exact K dt hI hM hM2 (by first | omega | (simp only [*]; done) | simp only [*]) (by omega) (by omega) (by omega) (by omega) (by omega) (by omega) (by omega) (by omega) (by omega) (by omega) (by omega) (by omega) (by omega) (by omega) (by omega) (by first | exact hI | exact TPL_k hd0 (fun _ => rfl) (fun _ => rfl) (by omega) | (exfalso; omega))
    · skip
      refine go_to (k := 2) (pc' := 1435) (L' := [some (.inr (.inr (some 3000))), some (.inr (.inr (some 0))), some (.inr (.inr (some 79))), some (.inl i)]) (st' := []) (w' := (SH, dt)) (fun _ => rfl) ?_
      exact K dt hI hM hM2 (by first | omega | (simp only [*]; done) | simp only [*]) (by omega) (by omega) (by omega) (by omega) (by omega) (by omega) (by omega) (by omega) (by omega) (by omega) (by omega) (by omega) (by omega) (by omega) (by omega) (by first | exact hI | exact TPL_k hd0 (fun _ => rfl) (fun _ => rfl) (by omega) | (exfalso; omega))
    · skip
      refine go_to (k := 2) (pc' := 1435) (L' := [some (.inr (.inr (some 3000))), some (.inr (.inr (some 0))), some (.inr (.inr (some 79))), some (.inl i)]) (st' := []) (w' := (SH, dt)) (fun _ => rfl) ?_
      exact K dt hI hM hM2 (by first | omega | (simp only [*]; done) | simp only [*]) (by omega) (by omega) (by omega) (by omega) (by omega) (by omega) (by omega) (by omega) (by omega) (by omega) (by omega) (by omega) (by omega) (by omega) (by omega) (by first | exact hI | exact TPL_k hd0 (fun _ => rfl) (fun _ => rfl) (by omega) | (exfalso; omega))
    · skip
      refine go_to (k := 2) (pc' := 1435) (L' := [some (.inr (.inr (some 3000))), some (.inr (.inr (some 0))), some (.inr (.inr (some 79))), some (.inl i)]) (st' := []) (w' := (SH, dt)) (fun _ => rfl) ?_
      exact K dt hI hM hM2 (by first | omega | (simp only [*]; done) | simp only [*]) (by omega) (by omega) (by omega) (by omega) (by omega) (by omega) (by omega) (by omega) (by omega) (by omega) (by omega) (by omega) (by omega) (by omega) (by omega) (by first | exact hI | exact TPL_k hd0 (fun _ => rfl) (fun _ => rfl) (by omega) | (exfalso; omega))
    · skip
      refine go_to (k := 2) (pc' := 1435) (L' := [some (.inr (.inr (some 3000))), some (.inr (.inr (some 0))), some (.inr (.inr (some 79))), some (.inl i)]) (st' := []) (w' := (SH, dt)) (fun _ => rfl) ?_
      exact K dt hI hM hM2 (by first | omega | (simp only [*]; done) | simp only [*]) (by omega) (by omega) (by omega) (by omega) (by omega) (by omega) (by omega) (by omega) (by omega) (by omega) (by omega) (by omega) (by omega) (by omega) (by omega) (by first | exact hI | exact TPL_k hd0 (fun _ => rfl) (fun _ => rfl) (by omega) | (exfalso; omega))
    · skip
      obtain ⟨h10_0, h10_1⟩ := h10
      refine go_to (k := 2) (pc' := 1435) (L' := [some (.inr (.inr (some 3000))), some (.inr (.inr (some 0))), some (.inr (.inr (some 79))), some (.inl i)]) (st' := []) (w' := (SH, dt)) (fun _ => rfl) ?_
      exact K dt hI hM hM2 (by first | omega | (simp only [*]; done) | simp only [*]) (by omega) (by omega) (by omega) (by omega) (by omega) (by omega) (by omega) (by omega) (by omega) (by omega) (by omega) (by omega) (by omega) (by omega) (by omega) (by first | exact hI | exact TPL_k hd0 (fun _ => rfl) (fun _ => rfl) (by omega) | (exfalso; omega))
    · skip
      obtain ⟨h10_0, h10_1⟩ := h10
      refine go_to (k := 2) (pc' := 1435) (L' := [some (.inr (.inr (some 3000))), some (.inr (.inr (some 0))), some (.inr (.inr (some 79))), some (.inl i)]) (st' := []) (w' := (SH, dt)) (fun _ => rfl) ?_
      exact K dt hI hM hM2 (by first | omega | (simp only [*]; done) | simp only [*]) (by omega) (by omega) (by omega) (by omega) (by omega) (by omega) (by omega) (by omega) (by omega) (by omega) (by omega) (by omega) (by omega) (by omega) (by omega) (by first | exact hI | exact TPL_k hd0 (fun _ => rfl) (fun _ => rfl) (by omega) | (exfalso; omega))
    · skip
      refine go_to (k := 2) (pc' := 1435) (L' := [some (.inr (.inr (some 3000))), some (.inr (.inr (some 0))), some (.inr (.inr (some 79))), some (.inl i)]) (st' := []) (w' := (SH, dt)) (fun _ => rfl) ?_
      exact K dt hI hM hM2 (by first | omega | (simp only [*]; done) | simp only [*]) (by omega) (by omega) (by omega) (by omega) (by omega) (by omega) (by omega) (by omega) (by omega) (by omega) (by omega) (by omega) (by omega) (by omega) (by omega) (by first | exact hI | exact TPL_k hd0 (fun _ => rfl) (fun _ => rfl) (by omega) | (exfalso; omega))
  · skip
    refine go_to (k := 6) (pc' := 1427) (L' := [some (.inr (.inr (some 3000))), some (.inr (.inr (some 0))), some (.inr (.inr (some 79))), some (.inl i)]) (st' := [.inl (i + 1), .inr (.inr (some 3000)), .inr (.inr (some 79))]) (w' := (SH, dt)) (fun _ => rfl) ?_
    refine go_smp (L' := [some (.inr (.inr (some 3000))), some (.inr (.inr (some 0))), some (.inr (.inr (some 79))), some (.inl i)]) (st' := [.inl ((xs ((i + 1).toNat)).toInt), .inr (.inr (some 79))]) (w' := (SH, dt)) rfl rfl (s_iald (n := L) (f := fun j => (xs j).toInt) (am_scr hLL) ⟨by omega, by omega⟩) ?_
    refine go_call (Q' := _) rfl rfl rfl rfl rfl (sp_X6_look L xs sio (d + 38) dt hI  ((xs ((i + 1).toNat)).toInt) ⟨by omega, by omega⟩ ) ?_
    rintro _ _ ⟨rfl, h11⟩
    refine ⟨rfl, ?_⟩
    rcases h11 with ⟨rfl, h11⟩ | ⟨rfl, h11⟩ | ⟨rfl, h11⟩ | ⟨rfl, h11⟩ | ⟨rfl, h11⟩ | ⟨rfl, h11⟩ | ⟨rfl, h11⟩ | ⟨rfl, h11⟩ | ⟨rfl, h11⟩
    · skip
      refine go_to (k := 2) (pc' := 1435) (L' := [some (.inr (.inr (some 3000))), some (.inr (.inr (some 0))), some (.inr (.inr (some 79))), some (.inl i)]) (st' := []) (w' := (SH, dt)) (fun _ => rfl) ?_
      exact K dt hI hM hM2 (by first | omega | (simp only [*]; done) | simp only [*]) (by omega) (by omega) (by omega) (by omega) (by omega) (by omega) (by omega) (by omega) (by omega) (by omega) (by omega) (by omega) (by omega) (by omega) (by omega) (by first | exact hI | exact TPL_k hd0 (fun _ => rfl) (fun _ => rfl) (by omega) | (exfalso; omega))
    · skip
      refine go_to (k := 2) (pc' := 1435) (L' := [some (.inr (.inr (some 3000))), some (.inr (.inr (some 0))), some (.inr (.inr (some 79))), some (.inl i)]) (st' := []) (w' := (SH, dt)) (fun _ => rfl) ?_
      exact K dt hI hM hM2 (by first | omega | (simp only [*]; done) | simp only [*]) (by omega) (by omega) (by omega) (by omega) (by omega) (by omega) (by omega) (by omega) (by omega) (by omega) (by omega) (by omega) (by omega) (by omega) (by omega) (by first | exact hI | exact TPL_k hd0 (fun _ => rfl) (fun _ => rfl) (by omega) | (exfalso; omega))
    · skip
      refine go_to (k := 2) (pc' := 1435) (L' := [some (.inr (.inr (some 3000))), some (.inr (.inr (some 0))), some (.inr (.inr (some 79))), some (.inl i)]) (st' := []) (w' := (SH, dt)) (fun _ => rfl) ?_
      exact K dt hI hM hM2 (by first | omega | (simp only [*]; done) | simp only [*]) (by omega) (by omega) (by omega) (by omega) (by omega) (by omega) (by omega) (by omega) (by omega) (by omega) (by omega) (by omega) (by omega) (by omega) (by omega) (by first | exact hI | exact TPL_k hd0 (fun _ => rfl) (fun _ => rfl) (by omega) | (exfalso; omega))
    · skip
      refine go_to (k := 2) (pc' := 1435) (L' := [some (.inr (.inr (some 3000))), some (.inr (.inr (some 0))), some (.inr (.inr (some 79))), some (.inl i)]) (st' := []) (w' := (SH, dt)) (fun _ => rfl) ?_
      exact K dt hI hM hM2 (by first | omega | (simp only [*]; done) | simp only [*]) (by omega) (by omega) (by omega) (by omega) (by omega) (by omega) (by omega) (by omega) (by omega) (by omega) (by omega) (by omega) (by omega) (by omega) (by omega) (by first | exact hI | exact TPL_k hd0 (fun _ => rfl) (fun _ => rfl) (by omega) | (exfalso; omega))
    · skip
      refine go_to (k := 2) (pc' := 1435) (L' := [some (.inr (.inr (some 3000))), some (.inr (.inr (some 0))), some (.inr (.inr (some 79))), some (.inl i)]) (st' := []) (w' := (SH, dt)) (fun _ => rfl) ?_
      exact K dt hI hM hM2 (by first | omega | (simp only [*]; done) | simp only [*]) (by omega) (by omega) (by omega) (by omega) (by omega) (by omega) (by omega) (by omega) (by omega) (by omega) (by omega) (by omega) (by omega) (by omega) (by omega) (by first | exact hI | exact TPL_k hd0 (fun _ => rfl) (fun _ => rfl) (by omega) | (exfalso; omega))
    · skip
      refine go_to (k := 2) (pc' := 1435) (L' := [some (.inr (.inr (some 3000))), some (.inr (.inr (some 0))), some (.inr (.inr (some 79))), some (.inl i)]) (st' := []) (w' := (SH, dt)) (fun _ => rfl) ?_
      exact K dt hI hM hM2 (by first | omega | (simp only [*]; done) | simp only [*]) (by omega) (by omega) (by omega) (by omega) (by omega) (by omega) (by omega) (by omega) (by omega) (by omega) (by omega) (by omega) (by omega) (by omega) (by omega) (by first | exact hI | exact TPL_k hd0 (fun _ => rfl) (fun _ => rfl) (by omega) | (exfalso; omega))
    · skip
      obtain ⟨h11_0, h11_1⟩ := h11
      refine go_to (k := 2) (pc' := 1435) (L' := [some (.inr (.inr (some 3000))), some (.inr (.inr (some 0))), some (.inr (.inr (some 79))), some (.inl i)]) (st' := []) (w' := (SH, dt)) (fun _ => rfl) ?_
      exact K dt hI hM hM2 (by first | omega | (simp only [*]; done) | simp only [*]) (by omega) (by omega) (by omega) (by omega) (by omega) (by omega) (by omega) (by omega) (by omega) (by omega) (by omega) (by omega) (by omega) (by omega) (by omega) (by first | exact hI | exact TPL_k hd0 (fun _ => rfl) (fun _ => rfl) (by omega) | (exfalso; omega))
    · skip
      obtain ⟨h11_0, h11_1⟩ := h11
      refine go_to (k := 2) (pc' := 1435) (L' := [some (.inr (.inr (some 3000))), some (.inr (.inr (some 0))), some (.inr (.inr (some 79))), some (.inl i)]) (st' := []) (w' := (SH, dt)) (fun _ => rfl) ?_
      exact K dt hI hM hM2 (by first | omega | (simp only [*]; done) | simp only [*]) (by omega) (by omega) (by omega) (by omega) (by omega) (by omega) (by omega) (by omega) (by omega) (by omega) (by omega) (by omega) (by omega) (by omega) (by omega) (by first | exact hI | exact TPL_k hd0 (fun _ => rfl) (fun _ => rfl) (by omega) | (exfalso; omega))
    · skip
      refine go_to (k := 2) (pc' := 1435) (L' := [some (.inr (.inr (some 3000))), some (.inr (.inr (some 0))), some (.inr (.inr (some 79))), some (.inl i)]) (st' := []) (w' := (SH, dt)) (fun _ => rfl) ?_
      exact K dt hI hM hM2 (by first | omega | (simp only [*]; done) | simp only [*]) (by omega) (by omega) (by omega) (by omega) (by omega) (by omega) (by omega) (by omega) (by omega) (by omega) (by omega) (by omega) (by omega) (by omega) (by omega) (by first | exact hI | exact TPL_k hd0 (fun _ => rfl) (fun _ => rfl) (by omega) | (exfalso; omega))
