set_option maxRecDepth 20000 in
set_option maxHeartbeats 8000000 in
theorem sp_case22 (L : Nat) (xs : Nat → Int32) (sio : Option Nat) (d : Nat) (Q : Option AV → am_W → Prop) (hLL : L ≤ 3072) (i : Int) (hi : 0 ≤ i ∧ i ≤ 3066) (hil : i ≤ (L : Int) - 6) (dt : Nat → Nat → Int) (hI : InvC dt) (hM : MW (dt 80)) (hM2 : MW (dt 81)) (hk0 : dt 1 0 = dt 80 0) (hk1 : dt 7 3 = dt 80 1) (hk2 : dt 10 3 = dt 80 2) (hk3 : dt 12 3 = dt 80 3) (hk4 : dt 14 3 = dt 80 4) (hk5 : dt 16 3 = dt 80 5) (hk6 : dt 18 0 = dt 81 0) (hk7 : dt 24 3 = dt 81 1) (hk8 : dt 27 3 = dt 81 2) (hk9 : dt 29 3 = dt 81 3) (hk10 : dt 31 3 = dt 81 4) (hk11 : dt 33 3 = dt 81 5) (hk12 : dt 0 2 = dt 79 2) (hk13 : dt 35 1 = dt 79 12) (hk14 : dt 35 2 = dt 79 19) (hk15 : dt 35 3 = dt 79 21) (hd0 : TPL (dt 36) (dt 85) (dt 35 1)) (hd1 : SCL (dt 2) (dt 3) (dt 80)) (hd2 : SCL (dt 19) (dt 20) (dt 81)) (K : ∀ (dt : Nat → Nat → Int) (hI : InvC dt) (hM : MW (dt 80)) (hM2 : MW (dt 81)) (hk0 : dt 1 0 = dt 80 0) (hk1 : dt 7 3 = dt 80 1) (hk2 : dt 10 3 = dt 80 2) (hk3 : dt 12 3 = dt 80 3) (hk4 : dt 14 3 = dt 80 4) (hk5 : dt 16 3 = dt 80 5) (hk6 : dt 18 0 = dt 81 0) (hk7 : dt 24 3 = dt 81 1) (hk8 : dt 27 3 = dt 81 2) (hk9 : dt 29 3 = dt 81 3) (hk10 : dt 31 3 = dt 81 4) (hk11 : dt 33 3 = dt 81 5) (hk12 : dt 0 2 = dt 79 2) (hk13 : dt 35 1 = dt 79 12) (hk14 : dt 35 2 = dt 79 19) (hk15 : dt 35 3 = dt 79 21) (hd0 : TPL (dt 36) (dt 85) (dt 35 1)) (hd1 : SCL (dt 2) (dt 3) (dt 80)) (hd2 : SCL (dt 19) (dt 20) (dt 81)), GO (am_XX L xs sio) (d + 39) 267 1435 [some (.inr (.inr (some 3000))), some (.inr (.inr (some 0))), some (.inr (.inr (some 79))), some (.inl i)] [] (SH, dt) Q) : GO (am_XX L xs sio) (d + 39) 267 1086 [some (.inr (.inr (some 3000))), some (.inr (.inr (some 0))), some (.inr (.inr (some 79))), some (.inl i)] [] (SH, dt) Q := by
  have hF : Fr [0, 1, 2, 3, 4, 5, 6, 7, 8, 9, 10, 11, 12, 13, 14, 15, 16, 17, 18, 19, 20, 21, 22, 23, 24, 25, 26, 27, 28, 29, 30, 31, 32, 33, 34, 35, 36, 37, 38, 39, 40, 41, 42, 43, 44, 45, 46, 47, 48, 49, 50, 51, 52, 53, 54, 55, 56, 57, 58, 59, 60, 61, 62, 63, 64, 65, 66, 67, 68, 69, 70, 71, 72, 73, 74, 75, 76, 77, 78, 79, 80, 81, 82, 83, 84, 85, 86, 87, 88, 89, 90, 91, 92, 93, 94, 95, 96, 97, 98, 99, 100, 101, 102, 103, 104] dt dt := Fr_refl
  refine go_toq PM267 (k := 5) (pc' := 1091) (L' := [some (.inr (.inr (some 3000))), some (.inr (.inr (some 0))), some (.inr (.inr (some 79))), some (.inl i)]) (st' := [.inl (i + 1), .inr (.inr (some 3000)), .inr (.inr (some 0))]) (w' := (SH, dt)) rfl ?_
  have r1 := i32_R (xs ((i + 1).toNat))
  refine go_smpq PM267 (L' := [some (.inr (.inr (some 3000))), some (.inr (.inr (some 0))), some (.inr (.inr (some 79))), some (.inl i)]) (st' := [.inl ((xs ((i + 1).toNat)).toInt), .inr (.inr (some 0))]) (w' := (SH, dt)) rfl rfl (s_iald (n := L) (f := fun j => (xs j).toInt) (am_scr hLL) ⟨by omega, by omega⟩) ?_
  refine go_callq PM267 PM89 (Q' := _) rfl rfl rfl rfl (sp_X5_beside L xs sio (d + 34) dt hI  ((xs ((i + 1).toNat)).toInt) ⟨by omega, by omega⟩ ) ?_
  rintro _ _ ⟨dt3, rfl, hI4, hF5, h2⟩
  refine ⟨rfl, ?_⟩
  have hF6 : Fr [0, 1, 2, 3, 4, 5, 6, 7, 8, 9, 10, 11, 12, 13, 14, 15, 16, 17, 18, 19, 20, 21, 22, 23, 24, 25, 26, 27, 28, 29, 30, 31, 32, 33, 34, 35, 36, 37, 38, 39, 40, 41, 42, 43, 44, 45, 46, 47, 48, 49, 50, 51, 52, 53, 54, 55, 56, 57, 58, 59, 60, 61, 62, 63, 64, 65, 66, 67, 68, 69, 70, 71, 72, 73, 74, 75, 76, 77, 78, 79, 80, 81, 82, 83, 84, 85, 86, 87, 88, 89, 90, 91, 92, 93, 94, 95, 96, 97, 98, 99, 100, 101, 102, 103, 104] dt dt3 := Fr_tr hF hF5 (by decide)
  have hM7 : MW (dt3 80) := MW_fr hM hF5 (by decide)
  have w8 : dt3 1 0 = dt 1 0 := hF5 1 (by decide) 0
  have w9 : dt3 7 3 = dt 7 3 := hF5 7 (by decide) 3
  have w10 : dt3 10 3 = dt 10 3 := hF5 10 (by decide) 3
  have w11 : dt3 12 3 = dt 12 3 := hF5 12 (by decide) 3
  have w12 : dt3 14 3 = dt 14 3 := hF5 14 (by decide) 3
  have w13 : dt3 16 3 = dt 16 3 := hF5 16 (by decide) 3
  have w14 : dt3 18 0 = dt 18 0 := hF5 18 (by decide) 0
  have w15 : dt3 24 3 = dt 24 3 := hF5 24 (by decide) 3
  have w16 : dt3 27 3 = dt 27 3 := hF5 27 (by decide) 3
  have w17 : dt3 29 3 = dt 29 3 := hF5 29 (by decide) 3
  have w18 : dt3 31 3 = dt 31 3 := hF5 31 (by decide) 3
  have w19 : dt3 33 3 = dt 33 3 := hF5 33 (by decide) 3
  have w20 : dt3 0 2 = dt 0 2 := hF5 0 (by decide) 2
  have w21 : dt3 35 1 = dt 35 1 := hF5 35 (by decide) 1
  have w22 : dt3 35 2 = dt 35 2 := hF5 35 (by decide) 2
  have w23 : dt3 35 3 = dt 35 3 := hF5 35 (by decide) 3
  have w24 : dt3 80 0 = dt 80 0 := hF5 80 (by decide) 0
  have w25 : dt3 80 1 = dt 80 1 := hF5 80 (by decide) 1
  have w26 : dt3 80 2 = dt 80 2 := hF5 80 (by decide) 2
  have w27 : dt3 80 3 = dt 80 3 := hF5 80 (by decide) 3
  have w28 : dt3 80 4 = dt 80 4 := hF5 80 (by decide) 4
  have w29 : dt3 80 5 = dt 80 5 := hF5 80 (by decide) 5
  have w30 : dt3 81 0 = dt 81 0 := hF5 81 (by decide) 0
  have w31 : dt3 81 1 = dt 81 1 := hF5 81 (by decide) 1
  have w32 : dt3 81 2 = dt 81 2 := hF5 81 (by decide) 2
  have w33 : dt3 81 3 = dt 81 3 := hF5 81 (by decide) 3
  have w34 : dt3 81 4 = dt 81 4 := hF5 81 (by decide) 4
  have w35 : dt3 81 5 = dt 81 5 := hF5 81 (by decide) 5
  have w36 : dt3 79 2 = dt 79 2 := hF5 79 (by decide) 2
  have w37 : dt3 79 12 = dt 79 12 := hF5 79 (by decide) 12
  have w38 : dt3 79 19 = dt 79 19 := hF5 79 (by decide) 19
  have w39 : dt3 79 21 = dt 79 21 := hF5 79 (by decide) 21
  rcases h2 with ⟨v_h2, rfl, h2r, h2⟩
  have M240 : MW (dt3 81) := MW_frk hM2 hF5 (by decide)
  have C41 : ∀ j : Nat, dt3 2 j = dt 2 j := fun j => (hF5 2 (by decide) j).trans ((fun _ => rfl) j)
  have C42 : ∀ j : Nat, dt3 3 j = dt 3 j := fun j => (hF5 3 (by decide) j).trans ((fun _ => rfl) j)
  have C43 : ∀ j : Nat, dt3 19 j = dt 19 j := fun j => (hF5 19 (by decide) j).trans ((fun _ => rfl) j)
  have C44 : ∀ j : Nat, dt3 20 j = dt 20 j := fun j => (hF5 20 (by decide) j).trans ((fun _ => rfl) j)
  have C45 : ∀ j : Nat, dt3 36 j = dt 36 j := fun j => (hF5 36 (by decide) j).trans ((fun _ => rfl) j)
  have C46 : ∀ j : Nat, dt3 80 j = dt 80 j := fun j => (hF5 80 (by decide) j).trans ((fun _ => rfl) j)
  have C47 : ∀ j : Nat, dt3 81 j = dt 81 j := fun j => (hF5 81 (by decide) j).trans ((fun _ => rfl) j)
  have C48 : ∀ j : Nat, dt3 85 j = dt 85 j := fun j => (hF5 85 (by decide) j).trans ((fun _ => rfl) j)
  refine go_toq PM267 (k := 6) (pc' := 1101) (L' := [some (.inr (.inr (some 3000))), some (.inr (.inr (some 0))), some (.inr (.inr (some 79))), some (.inl i)]) (st' := [.inl (i + 1), .inr (.inr (some 3000)), .inr (.inr (some 79))]) (w' := (SH, dt3)) rfl ?_
  have r49 := i32_R (xs ((i + 1).toNat))
  refine go_smpq PM267 (L' := [some (.inr (.inr (some 3000))), some (.inr (.inr (some 0))), some (.inr (.inr (some 79))), some (.inl i)]) (st' := [.inl ((xs ((i + 1).toNat)).toInt), .inr (.inr (some 79))]) (w' := (SH, dt3)) rfl rfl (s_iald (n := L) (f := fun j => (xs j).toInt) (am_scr hLL) ⟨by omega, by omega⟩) ?_
  refine go_callq PM267 PM232 (Q' := _) rfl rfl rfl rfl (sp_X6_beside L xs sio (d + 31) dt3 hI4 hM7  ((xs ((i + 1).toNat)).toInt) ⟨by omega, by omega⟩ ) ?_
  rintro _ _ ⟨dt51, rfl, hI52, hF53, h50⟩
  refine ⟨rfl, ?_⟩
  have hF54 : Fr [0, 1, 2, 3, 4, 5, 6, 7, 8, 9, 10, 11, 12, 13, 14, 15, 16, 17, 18, 19, 20, 21, 22, 23, 24, 25, 26, 27, 28, 29, 30, 31, 32, 33, 34, 35, 36, 37, 38, 39, 40, 41, 42, 43, 44, 45, 46, 47, 48, 49, 50, 51, 52, 53, 54, 55, 56, 57, 58, 59, 60, 61, 62, 63, 64, 65, 66, 67, 68, 69, 70, 71, 72, 73, 74, 75, 76, 77, 78, 79, 80, 81, 82, 83, 84, 85, 86, 87, 88, 89, 90, 91, 92, 93, 94, 95, 96, 97, 98, 99, 100, 101, 102, 103, 104] dt dt51 := Fr_tr hF6 hF53 (by decide)
  have hM55 : MW (dt51 80) := MW_fr hM7 hF53 (by decide)
  have w56 : dt51 1 0 = dt3 1 0 := hF53 1 (by decide) 0
  have w57 : dt51 7 3 = dt3 7 3 := hF53 7 (by decide) 3
  have w58 : dt51 10 3 = dt3 10 3 := hF53 10 (by decide) 3
  have w59 : dt51 12 3 = dt3 12 3 := hF53 12 (by decide) 3
  have w60 : dt51 14 3 = dt3 14 3 := hF53 14 (by decide) 3
  have w61 : dt51 16 3 = dt3 16 3 := hF53 16 (by decide) 3
  have w62 : dt51 18 0 = dt3 18 0 := hF53 18 (by decide) 0
  have w63 : dt51 24 3 = dt3 24 3 := hF53 24 (by decide) 3
  have w64 : dt51 27 3 = dt3 27 3 := hF53 27 (by decide) 3
  have w65 : dt51 29 3 = dt3 29 3 := hF53 29 (by decide) 3
  have w66 : dt51 31 3 = dt3 31 3 := hF53 31 (by decide) 3
  have w67 : dt51 33 3 = dt3 33 3 := hF53 33 (by decide) 3
  have w68 : dt51 0 2 = dt3 0 2 := hF53 0 (by decide) 2
  have w69 : dt51 35 1 = dt3 35 1 := hF53 35 (by decide) 1
  have w70 : dt51 35 2 = dt3 35 2 := hF53 35 (by decide) 2
  have w71 : dt51 35 3 = dt3 35 3 := hF53 35 (by decide) 3
  have w72 : dt51 80 0 = dt3 80 0 := hF53 80 (by decide) 0
  have w73 : dt51 80 1 = dt3 80 1 := hF53 80 (by decide) 1
  have w74 : dt51 80 2 = dt3 80 2 := hF53 80 (by decide) 2
  have w75 : dt51 80 3 = dt3 80 3 := hF53 80 (by decide) 3
  have w76 : dt51 80 4 = dt3 80 4 := hF53 80 (by decide) 4
  have w77 : dt51 80 5 = dt3 80 5 := hF53 80 (by decide) 5
  have w78 : dt51 81 0 = dt3 81 0 := hF53 81 (by decide) 0
  have w79 : dt51 81 1 = dt3 81 1 := hF53 81 (by decide) 1
  have w80 : dt51 81 2 = dt3 81 2 := hF53 81 (by decide) 2
  have w81 : dt51 81 3 = dt3 81 3 := hF53 81 (by decide) 3
  have w82 : dt51 81 4 = dt3 81 4 := hF53 81 (by decide) 4
  have w83 : dt51 81 5 = dt3 81 5 := hF53 81 (by decide) 5
  have w84 : dt51 79 2 = dt3 79 2 := hF53 79 (by decide) 2
  have w85 : dt51 79 12 = dt3 79 12 := hF53 79 (by decide) 12
  have w86 : dt51 79 19 = dt3 79 19 := hF53 79 (by decide) 19
  have w87 : dt51 79 21 = dt3 79 21 := hF53 79 (by decide) 21
  rcases h50 with ⟨v_h50, rfl, h50r, h50⟩
  have M288 : MW (dt51 81) := MW_frk M240 hF53 (by decide)
  have C89 : ∀ j : Nat, dt51 2 j = dt 2 j := fun j => (hF53 2 (by decide) j).trans (C41 j)
  have C90 : ∀ j : Nat, dt51 3 j = dt 3 j := fun j => (hF53 3 (by decide) j).trans (C42 j)
  have C91 : ∀ j : Nat, dt51 19 j = dt 19 j := fun j => (hF53 19 (by decide) j).trans (C43 j)
  have C92 : ∀ j : Nat, dt51 20 j = dt 20 j := fun j => (hF53 20 (by decide) j).trans (C44 j)
  have C93 : ∀ j : Nat, dt51 36 j = dt 36 j := fun j => (hF53 36 (by decide) j).trans (C45 j)
  have C94 : ∀ j : Nat, dt51 80 j = dt 80 j := fun j => (hF53 80 (by decide) j).trans (C46 j)
  have C95 : ∀ j : Nat, dt51 81 j = dt 81 j := fun j => (hF53 81 (by decide) j).trans (C47 j)
  have C96 : ∀ j : Nat, dt51 85 j = dt 85 j := fun j => (hF53 85 (by decide) j).trans (C48 j)
  refine go_toq PM267 (k := 2) (pc' := 1435) (L' := [some (.inr (.inr (some 3000))), some (.inr (.inr (some 0))), some (.inr (.inr (some 79))), some (.inl i)]) (st' := []) (w' := (SH, dt51)) rfl ?_
  exact K dt51 hI52 hM55 M288 (by first | omega | (simp only [*]; done) | simp only [*]) (by omega) (by omega) (by omega) (by omega) (by omega) (by omega) (by omega) (by omega) (by omega) (by omega) (by omega) (by omega) (by omega) (by omega) (by omega) (by first | exact hI | exact TPL_k hd0 C93 C96 (by omega) | (exfalso; omega)) (by first | exact hI | exact SCL_k hd1 hM (fun j _ => C89 j) (fun j _ => C90 j) (fun j _ _ => C94 j) | (exfalso; omega)) (by first | exact hI | exact SCL_k hd2 hM2 (fun j _ => C91 j) (fun j _ => C92 j) (fun j _ _ => C95 j) | (exfalso; omega))
set_option maxRecDepth 20000 in
set_option maxHeartbeats 8000000 in
theorem sp_case23 (L : Nat) (xs : Nat → Int32) (sio : Option Nat) (d : Nat) (Q : Option AV → am_W → Prop) (hLL : L ≤ 3072) (i : Int) (hi : 0 ≤ i ∧ i ≤ 3066) (hil : i ≤ (L : Int) - 6) (dt : Nat → Nat → Int) (hI : InvC dt) (hM : MW (dt 80)) (hM2 : MW (dt 81)) (hk0 : dt 1 0 = dt 80 0) (hk1 : dt 7 3 = dt 80 1) (hk2 : dt 10 3 = dt 80 2) (hk3 : dt 12 3 = dt 80 3) (hk4 : dt 14 3 = dt 80 4) (hk5 : dt 16 3 = dt 80 5) (hk6 : dt 18 0 = dt 81 0) (hk7 : dt 24 3 = dt 81 1) (hk8 : dt 27 3 = dt 81 2) (hk9 : dt 29 3 = dt 81 3) (hk10 : dt 31 3 = dt 81 4) (hk11 : dt 33 3 = dt 81 5) (hk12 : dt 0 2 = dt 79 2) (hk13 : dt 35 1 = dt 79 12) (hk14 : dt 35 2 = dt 79 19) (hk15 : dt 35 3 = dt 79 21) (hd0 : TPL (dt 36) (dt 85) (dt 35 1)) (hd1 : SCL (dt 2) (dt 3) (dt 80)) (hd2 : SCL (dt 19) (dt 20) (dt 81)) (K : ∀ (dt : Nat → Nat → Int) (hI : InvC dt) (hM : MW (dt 80)) (hM2 : MW (dt 81)) (hk0 : dt 1 0 = dt 80 0) (hk1 : dt 7 3 = dt 80 1) (hk2 : dt 10 3 = dt 80 2) (hk3 : dt 12 3 = dt 80 3) (hk4 : dt 14 3 = dt 80 4) (hk5 : dt 16 3 = dt 80 5) (hk6 : dt 18 0 = dt 81 0) (hk7 : dt 24 3 = dt 81 1) (hk8 : dt 27 3 = dt 81 2) (hk9 : dt 29 3 = dt 81 3) (hk10 : dt 31 3 = dt 81 4) (hk11 : dt 33 3 = dt 81 5) (hk12 : dt 0 2 = dt 79 2) (hk13 : dt 35 1 = dt 79 12) (hk14 : dt 35 2 = dt 79 19) (hk15 : dt 35 3 = dt 79 21) (hd0 : TPL (dt 36) (dt 85) (dt 35 1)) (hd1 : SCL (dt 2) (dt 3) (dt 80)) (hd2 : SCL (dt 19) (dt 20) (dt 81)), GO (am_XX L xs sio) (d + 39) 267 1435 [some (.inr (.inr (some 3000))), some (.inr (.inr (some 0))), some (.inr (.inr (some 79))), some (.inl i)] [] (SH, dt) Q) : GO (am_XX L xs sio) (d + 39) 267 1109 [some (.inr (.inr (some 3000))), some (.inr (.inr (some 0))), some (.inr (.inr (some 79))), some (.inl i)] [] (SH, dt) Q := by
  have hF : Fr [0, 1, 2, 3, 4, 5, 6, 7, 8, 9, 10, 11, 12, 13, 14, 15, 16, 17, 18, 19, 20, 21, 22, 23, 24, 25, 26, 27, 28, 29, 30, 31, 32, 33, 34, 35, 36, 37, 38, 39, 40, 41, 42, 43, 44, 45, 46, 47, 48, 49, 50, 51, 52, 53, 54, 55, 56, 57, 58, 59, 60, 61, 62, 63, 64, 65, 66, 67, 68, 69, 70, 71, 72, 73, 74, 75, 76, 77, 78, 79, 80, 81, 82, 83, 84, 85, 86, 87, 88, 89, 90, 91, 92, 93, 94, 95, 96, 97, 98, 99, 100, 101, 102, 103, 104] dt dt := Fr_refl
  refine go_toq PM267 (k := 5) (pc' := 1114) (L' := [some (.inr (.inr (some 3000))), some (.inr (.inr (some 0))), some (.inr (.inr (some 79))), some (.inl i)]) (st' := [.inl (i + 1), .inr (.inr (some 3000)), .inr (.inr (some 0))]) (w' := (SH, dt)) rfl ?_
  have r1 := i32_R (xs ((i + 1).toNat))
  refine go_smpq PM267 (L' := [some (.inr (.inr (some 3000))), some (.inr (.inr (some 0))), some (.inr (.inr (some 79))), some (.inl i)]) (st' := [.inl ((xs ((i + 1).toNat)).toInt), .inr (.inr (some 0))]) (w' := (SH, dt)) rfl rfl (s_iald (n := L) (f := fun j => (xs j).toInt) (am_scr hLL) ⟨by omega, by omega⟩) ?_
  refine go_toq PM267 (k := 4) (pc' := 1119) (L' := [some (.inr (.inr (some 3000))), some (.inr (.inr (some 0))), some (.inr (.inr (some 79))), some (.inl i)]) (st' := [.inl (i + 2), .inr (.inr (some 3000)), .inl ((xs ((i + 1).toNat)).toInt), .inr (.inr (some 0))]) (w' := (SH, dt)) rfl ?_
  have r2 := i32_R (xs ((i + 2).toNat))
  refine go_smpq PM267 (L' := [some (.inr (.inr (some 3000))), some (.inr (.inr (some 0))), some (.inr (.inr (some 79))), some (.inl i)]) (st' := [.inl ((xs ((i + 2).toNat)).toInt), .inl ((xs ((i + 1).toNat)).toInt), .inr (.inr (some 0))]) (w' := (SH, dt)) rfl rfl (s_iald (n := L) (f := fun j => (xs j).toInt) (am_scr hLL) ⟨by omega, by omega⟩) ?_
  refine go_callq PM267 PM90 (Q' := _) rfl rfl rfl rfl (sp_X5_eyes L xs sio (d + 36) dt hI  ((xs ((i + 1).toNat)).toInt) ⟨by omega, by omega⟩ ((xs ((i + 2).toNat)).toInt) ⟨by omega, by omega⟩ ) ?_
  rintro _ _ ⟨dt4, rfl, hI5, hF6, h3⟩
  refine ⟨rfl, ?_⟩
  have hF7 : Fr [0, 1, 2, 3, 4, 5, 6, 7, 8, 9, 10, 11, 12, 13, 14, 15, 16, 17, 18, 19, 20, 21, 22, 23, 24, 25, 26, 27, 28, 29, 30, 31, 32, 33, 34, 35, 36, 37, 38, 39, 40, 41, 42, 43, 44, 45, 46, 47, 48, 49, 50, 51, 52, 53, 54, 55, 56, 57, 58, 59, 60, 61, 62, 63, 64, 65, 66, 67, 68, 69, 70, 71, 72, 73, 74, 75, 76, 77, 78, 79, 80, 81, 82, 83, 84, 85, 86, 87, 88, 89, 90, 91, 92, 93, 94, 95, 96, 97, 98, 99, 100, 101, 102, 103, 104] dt dt4 := Fr_tr hF hF6 (by decide)
  have hM8 : MW (dt4 80) := MW_fr hM hF6 (by decide)
  have w9 : dt4 1 0 = dt 1 0 := hF6 1 (by decide) 0
  have w10 : dt4 7 3 = dt 7 3 := hF6 7 (by decide) 3
  have w11 : dt4 10 3 = dt 10 3 := hF6 10 (by decide) 3
  have w12 : dt4 12 3 = dt 12 3 := hF6 12 (by decide) 3
  have w13 : dt4 16 3 = dt 16 3 := hF6 16 (by decide) 3
  have w14 : dt4 18 0 = dt 18 0 := hF6 18 (by decide) 0
  have w15 : dt4 24 3 = dt 24 3 := hF6 24 (by decide) 3
  have w16 : dt4 27 3 = dt 27 3 := hF6 27 (by decide) 3
  have w17 : dt4 29 3 = dt 29 3 := hF6 29 (by decide) 3
  have w18 : dt4 31 3 = dt 31 3 := hF6 31 (by decide) 3
  have w19 : dt4 33 3 = dt 33 3 := hF6 33 (by decide) 3
  have w20 : dt4 0 2 = dt 0 2 := hF6 0 (by decide) 2
  have w21 : dt4 35 1 = dt 35 1 := hF6 35 (by decide) 1
  have w22 : dt4 35 2 = dt 35 2 := hF6 35 (by decide) 2
  have w23 : dt4 35 3 = dt 35 3 := hF6 35 (by decide) 3
  have w24 : dt4 80 0 = dt 80 0 := hF6 80 (by decide) 0
  have w25 : dt4 80 1 = dt 80 1 := hF6 80 (by decide) 1
  have w26 : dt4 80 2 = dt 80 2 := hF6 80 (by decide) 2
  have w27 : dt4 80 3 = dt 80 3 := hF6 80 (by decide) 3
  have w28 : dt4 80 4 = dt 80 4 := hF6 80 (by decide) 4
  have w29 : dt4 80 5 = dt 80 5 := hF6 80 (by decide) 5
  have w30 : dt4 81 0 = dt 81 0 := hF6 81 (by decide) 0
  have w31 : dt4 81 1 = dt 81 1 := hF6 81 (by decide) 1
  have w32 : dt4 81 2 = dt 81 2 := hF6 81 (by decide) 2
  have w33 : dt4 81 3 = dt 81 3 := hF6 81 (by decide) 3
  have w34 : dt4 81 4 = dt 81 4 := hF6 81 (by decide) 4
  have w35 : dt4 81 5 = dt 81 5 := hF6 81 (by decide) 5
  have w36 : dt4 79 2 = dt 79 2 := hF6 79 (by decide) 2
  have w37 : dt4 79 12 = dt 79 12 := hF6 79 (by decide) 12
  have w38 : dt4 79 19 = dt 79 19 := hF6 79 (by decide) 19
  have w39 : dt4 79 21 = dt 79 21 := hF6 79 (by decide) 21
  rcases h3 with ⟨rfl, h3⟩ | ⟨v_h3, rfl, h3r, h3⟩
  · skip
    obtain ⟨h3_0, h3_1⟩ := h3
    have M240 : MW (dt4 81) := MW_frk hM2 hF6 (by decide)
    have C41 : ∀ j : Nat, dt4 2 j = dt 2 j := fun j => (hF6 2 (by decide) j).trans ((fun _ => rfl) j)
    have C42 : ∀ j : Nat, dt4 3 j = dt 3 j := fun j => (hF6 3 (by decide) j).trans ((fun _ => rfl) j)
    have C43 : ∀ j : Nat, dt4 19 j = dt 19 j := fun j => (hF6 19 (by decide) j).trans ((fun _ => rfl) j)
    have C44 : ∀ j : Nat, dt4 20 j = dt 20 j := fun j => (hF6 20 (by decide) j).trans ((fun _ => rfl) j)
    have C45 : ∀ j : Nat, dt4 36 j = dt 36 j := fun j => (hF6 36 (by decide) j).trans ((fun _ => rfl) j)
    have C46 : ∀ j : Nat, dt4 80 j = dt 80 j := fun j => (hF6 80 (by decide) j).trans ((fun _ => rfl) j)
    have C47 : ∀ j : Nat, dt4 81 j = dt 81 j := fun j => (hF6 81 (by decide) j).trans ((fun _ => rfl) j)
    have C48 : ∀ j : Nat, dt4 85 j = dt 85 j := fun j => (hF6 85 (by decide) j).trans ((fun _ => rfl) j)
    refine go_toq PM267 (k := 6) (pc' := 1129) (L' := [some (.inr (.inr (some 3000))), some (.inr (.inr (some 0))), some (.inr (.inr (some 79))), some (.inl i)]) (st' := [.inl (i + 1), .inr (.inr (some 3000)), .inr (.inr (some 79))]) (w' := (SH, dt4)) rfl ?_
    have r49 := i32_R (xs ((i + 1).toNat))
    refine go_smpq PM267 (L' := [some (.inr (.inr (some 3000))), some (.inr (.inr (some 0))), some (.inr (.inr (some 79))), some (.inl i)]) (st' := [.inl ((xs ((i + 1).toNat)).toInt), .inr (.inr (some 79))]) (w' := (SH, dt4)) rfl rfl (s_iald (n := L) (f := fun j => (xs j).toInt) (am_scr hLL) ⟨by omega, by omega⟩) ?_
    refine go_toq PM267 (k := 4) (pc' := 1134) (L' := [some (.inr (.inr (some 3000))), some (.inr (.inr (some 0))), some (.inr (.inr (some 79))), some (.inl i)]) (st' := [.inl (i + 2), .inr (.inr (some 3000)), .inl ((xs ((i + 1).toNat)).toInt), .inr (.inr (some 79))]) (w' := (SH, dt4)) rfl ?_
    have r50 := i32_R (xs ((i + 2).toNat))
    refine go_smpq PM267 (L' := [some (.inr (.inr (some 3000))), some (.inr (.inr (some 0))), some (.inr (.inr (some 79))), some (.inl i)]) (st' := [.inl ((xs ((i + 2).toNat)).toInt), .inl ((xs ((i + 1).toNat)).toInt), .inr (.inr (some 79))]) (w' := (SH, dt4)) rfl rfl (s_iald (n := L) (f := fun j => (xs j).toInt) (am_scr hLL) ⟨by omega, by omega⟩) ?_
    refine go_callq PM267 PM233 (Q' := _) rfl rfl rfl rfl (sp_X6_eyes_v L xs sio (d + 37) dt4 hI5 hM8  ((xs ((i + 1).toNat)).toInt) ⟨by omega, by omega⟩ ((xs ((i + 2).toNat)).toInt) ⟨by omega, by omega⟩ ) ?_
    rintro _ _ ⟨dt52, rfl, hI53, hF54, h51⟩
    refine ⟨rfl, ?_⟩
    have hF55 : Fr [0, 1, 2, 3, 4, 5, 6, 7, 8, 9, 10, 11, 12, 13, 14, 15, 16, 17, 18, 19, 20, 21, 22, 23, 24, 25, 26, 27, 28, 29, 30, 31, 32, 33, 34, 35, 36, 37, 38, 39, 40, 41, 42, 43, 44, 45, 46, 47, 48, 49, 50, 51, 52, 53, 54, 55, 56, 57, 58, 59, 60, 61, 62, 63, 64, 65, 66, 67, 68, 69, 70, 71, 72, 73, 74, 75, 76, 77, 78, 79, 80, 81, 82, 83, 84, 85, 86, 87, 88, 89, 90, 91, 92, 93, 94, 95, 96, 97, 98, 99, 100, 101, 102, 103, 104] dt dt52 := Fr_tr hF7 hF54 (by decide)
    have w56 : dt52 1 0 = dt4 1 0 := hF54 1 (by decide) 0
    have w57 : dt52 7 3 = dt4 7 3 := hF54 7 (by decide) 3
    have w58 : dt52 10 3 = dt4 10 3 := hF54 10 (by decide) 3
    have w59 : dt52 12 3 = dt4 12 3 := hF54 12 (by decide) 3
    have w60 : dt52 14 3 = dt4 14 3 := hF54 14 (by decide) 3
    have w61 : dt52 16 3 = dt4 16 3 := hF54 16 (by decide) 3
    have w62 : dt52 18 0 = dt4 18 0 := hF54 18 (by decide) 0
    have w63 : dt52 24 3 = dt4 24 3 := hF54 24 (by decide) 3
    have w64 : dt52 27 3 = dt4 27 3 := hF54 27 (by decide) 3
    have w65 : dt52 29 3 = dt4 29 3 := hF54 29 (by decide) 3
    have w66 : dt52 31 3 = dt4 31 3 := hF54 31 (by decide) 3
    have w67 : dt52 33 3 = dt4 33 3 := hF54 33 (by decide) 3
    have w68 : dt52 0 2 = dt4 0 2 := hF54 0 (by decide) 2
    have w69 : dt52 35 1 = dt4 35 1 := hF54 35 (by decide) 1
    have w70 : dt52 35 2 = dt4 35 2 := hF54 35 (by decide) 2
    have w71 : dt52 35 3 = dt4 35 3 := hF54 35 (by decide) 3
    have w72 : dt52 81 0 = dt4 81 0 := hF54 81 (by decide) 0
    have w73 : dt52 81 1 = dt4 81 1 := hF54 81 (by decide) 1
    have w74 : dt52 81 2 = dt4 81 2 := hF54 81 (by decide) 2
    have w75 : dt52 81 3 = dt4 81 3 := hF54 81 (by decide) 3
    have w76 : dt52 81 4 = dt4 81 4 := hF54 81 (by decide) 4
    have w77 : dt52 81 5 = dt4 81 5 := hF54 81 (by decide) 5
    have w78 : dt52 79 2 = dt4 79 2 := hF54 79 (by decide) 2
    have w79 : dt52 79 12 = dt4 79 12 := hF54 79 (by decide) 12
    have w80 : dt52 79 19 = dt4 79 19 := hF54 79 (by decide) 19
    have w81 : dt52 79 21 = dt4 79 21 := hF54 79 (by decide) 21
    rcases h51 with ⟨rfl, h51⟩ | ⟨v_h51, rfl, h51r, h51⟩
    · skip
      have hM82 : MW (dt52 80) := h51.2.1
      obtain ⟨h51_0, h51_1, h51_2, h51_3, h51_4, h51_5, h51_6, h51_7, h51_8⟩ := h51
      have M283 : MW (dt52 81) := MW_frk M240 hF54 (by decide)
      have C84 : ∀ j : Nat, dt52 2 j = dt 2 j := fun j => (hF54 2 (by decide) j).trans (C41 j)
      have C85 : ∀ j : Nat, dt52 3 j = dt 3 j := fun j => (hF54 3 (by decide) j).trans (C42 j)
      have C86 : ∀ j : Nat, dt52 19 j = dt 19 j := fun j => (hF54 19 (by decide) j).trans (C43 j)
      have C87 : ∀ j : Nat, dt52 20 j = dt 20 j := fun j => (hF54 20 (by decide) j).trans (C44 j)
      have C88 : ∀ j : Nat, dt52 36 j = dt 36 j := fun j => (hF54 36 (by decide) j).trans (C45 j)
      have C89 : ∀ j : Nat, dt52 80 j = dt 80 j := fun j => (h51_8 j).trans (C46 j)
      have C90 : ∀ j : Nat, dt52 81 j = dt 81 j := fun j => (hF54 81 (by decide) j).trans (C47 j)
      have C91 : ∀ j : Nat, dt52 85 j = dt 85 j := fun j => (hF54 85 (by decide) j).trans (C48 j)
      refine go_toq PM267 (k := 2) (pc' := 1435) (L' := [some (.inr (.inr (some 3000))), some (.inr (.inr (some 0))), some (.inr (.inr (some 79))), some (.inl i)]) (st' := []) (w' := (SH, dt52)) rfl ?_
      exact K dt52 hI53 hM82 M283 (by first | omega | (simp only [*]; done) | simp only [*]) (by omega) (by omega) (by omega) (by omega) (by omega) (by omega) (by omega) (by omega) (by omega) (by omega) (by omega) (by omega) (by omega) (by omega) (by omega) (by first | exact hI | exact TPL_k hd0 C88 C91 (by omega) | (exfalso; omega)) (by first | exact hI | exact SCL_k hd1 hM (fun j _ => C84 j) (fun j _ => C85 j) (fun j _ _ => C89 j) | (exfalso; omega)) (by first | exact hI | exact SCL_k hd2 hM2 (fun j _ => C86 j) (fun j _ => C87 j) (fun j _ _ => C90 j) | (exfalso; omega))
    · skip
      have hM92 : MW (dt52 80) := h51.2.2.1
      obtain ⟨h51_0, h51_1, h51_2, h51_3, h51_4, h51_5, h51_6, h51_7, h51_8, h51_9, h51_10, h51_11⟩ := h51
      have M293 : MW (dt52 81) := MW_frk M240 hF54 (by decide)
      have C94 : ∀ j : Nat, dt52 2 j = dt 2 j := fun j => (hF54 2 (by decide) j).trans (C41 j)
      have C95 : ∀ j : Nat, dt52 3 j = dt 3 j := fun j => (hF54 3 (by decide) j).trans (C42 j)
      have C96 : ∀ j : Nat, dt52 19 j = dt 19 j := fun j => (hF54 19 (by decide) j).trans (C43 j)
      have C97 : ∀ j : Nat, dt52 20 j = dt 20 j := fun j => (hF54 20 (by decide) j).trans (C44 j)
      have C98 : ∀ j : Nat, dt52 36 j = dt 36 j := fun j => (hF54 36 (by decide) j).trans (C45 j)
      have C99 : ∀ j : Nat, dt52 81 j = dt 81 j := fun j => (hF54 81 (by decide) j).trans (C47 j)
      have C100 : ∀ j : Nat, dt52 85 j = dt 85 j := fun j => (hF54 85 (by decide) j).trans (C48 j)
      have F101 : ∀ j : Nat, 6 ≤ j → j < 974 → dt52 80 j = dt 80 j := fun j h1_ h2_ => (h51_9 j (by omega) (by omega)).trans (C46 j)
      refine go_toq PM267 (k := 2) (pc' := 1435) (L' := [some (.inr (.inr (some 3000))), some (.inr (.inr (some 0))), some (.inr (.inr (some 79))), some (.inl i)]) (st' := []) (w' := (SH, dt52)) rfl ?_
      exact K dt52 hI53 hM92 M293 (by first | omega | (simp only [*]; done) | simp only [*]) (by omega) (by omega) (by omega) (by omega) (by omega) (by omega) (by omega) (by omega) (by omega) (by omega) (by omega) (by omega) (by omega) (by omega) (by omega) (by first | exact hI | exact TPL_k hd0 C98 C100 (by omega) | (exfalso; omega)) (by first | exact hI | exact SCL_k hd1 hM (fun j _ => C94 j) (fun j _ => C95 j) F101 | (exfalso; omega)) (by first | exact hI | exact SCL_k hd2 hM2 (fun j _ => C96 j) (fun j _ => C97 j) (fun j _ _ => C99 j) | (exfalso; omega))
  · skip
    obtain ⟨h3_0, h3_1, h3_2⟩ := h3
    have M2102 : MW (dt4 81) := MW_frk hM2 hF6 (by decide)
    have C103 : ∀ j : Nat, dt4 2 j = dt 2 j := fun j => (hF6 2 (by decide) j).trans ((fun _ => rfl) j)
    have C104 : ∀ j : Nat, dt4 3 j = dt 3 j := fun j => (hF6 3 (by decide) j).trans ((fun _ => rfl) j)
    have C105 : ∀ j : Nat, dt4 19 j = dt 19 j := fun j => (hF6 19 (by decide) j).trans ((fun _ => rfl) j)
    have C106 : ∀ j : Nat, dt4 20 j = dt 20 j := fun j => (hF6 20 (by decide) j).trans ((fun _ => rfl) j)
    have C107 : ∀ j : Nat, dt4 36 j = dt 36 j := fun j => (hF6 36 (by decide) j).trans ((fun _ => rfl) j)
    have C108 : ∀ j : Nat, dt4 80 j = dt 80 j := fun j => (hF6 80 (by decide) j).trans ((fun _ => rfl) j)
    have C109 : ∀ j : Nat, dt4 81 j = dt 81 j := fun j => (hF6 81 (by decide) j).trans ((fun _ => rfl) j)
    have C110 : ∀ j : Nat, dt4 85 j = dt 85 j := fun j => (hF6 85 (by decide) j).trans ((fun _ => rfl) j)
    refine go_toq PM267 (k := 6) (pc' := 1129) (L' := [some (.inr (.inr (some 3000))), some (.inr (.inr (some 0))), some (.inr (.inr (some 79))), some (.inl i)]) (st' := [.inl (i + 1), .inr (.inr (some 3000)), .inr (.inr (some 79))]) (w' := (SH, dt4)) rfl ?_
    have r111 := i32_R (xs ((i + 1).toNat))
    refine go_smpq PM267 (L' := [some (.inr (.inr (some 3000))), some (.inr (.inr (some 0))), some (.inr (.inr (some 79))), some (.inl i)]) (st' := [.inl ((xs ((i + 1).toNat)).toInt), .inr (.inr (some 79))]) (w' := (SH, dt4)) rfl rfl (s_iald (n := L) (f := fun j => (xs j).toInt) (am_scr hLL) ⟨by omega, by omega⟩) ?_
    refine go_toq PM267 (k := 4) (pc' := 1134) (L' := [some (.inr (.inr (some 3000))), some (.inr (.inr (some 0))), some (.inr (.inr (some 79))), some (.inl i)]) (st' := [.inl (i + 2), .inr (.inr (some 3000)), .inl ((xs ((i + 1).toNat)).toInt), .inr (.inr (some 79))]) (w' := (SH, dt4)) rfl ?_
    have r112 := i32_R (xs ((i + 2).toNat))
    refine go_smpq PM267 (L' := [some (.inr (.inr (some 3000))), some (.inr (.inr (some 0))), some (.inr (.inr (some 79))), some (.inl i)]) (st' := [.inl ((xs ((i + 2).toNat)).toInt), .inl ((xs ((i + 1).toNat)).toInt), .inr (.inr (some 79))]) (w' := (SH, dt4)) rfl rfl (s_iald (n := L) (f := fun j => (xs j).toInt) (am_scr hLL) ⟨by omega, by omega⟩) ?_
    refine go_callq PM267 PM233 (Q' := _) rfl rfl rfl rfl (sp_X6_eyes_v L xs sio (d + 37) dt4 hI5 hM8  ((xs ((i + 1).toNat)).toInt) ⟨by omega, by omega⟩ ((xs ((i + 2).toNat)).toInt) ⟨by omega, by omega⟩ ) ?_
    rintro _ _ ⟨dt114, rfl, hI115, hF116, h113⟩
    refine ⟨rfl, ?_⟩
    have hF117 : Fr [0, 1, 2, 3, 4, 5, 6, 7, 8, 9, 10, 11, 12, 13, 14, 15, 16, 17, 18, 19, 20, 21, 22, 23, 24, 25, 26, 27, 28, 29, 30, 31, 32, 33, 34, 35, 36, 37, 38, 39, 40, 41, 42, 43, 44, 45, 46, 47, 48, 49, 50, 51, 52, 53, 54, 55, 56, 57, 58, 59, 60, 61, 62, 63, 64, 65, 66, 67, 68, 69, 70, 71, 72, 73, 74, 75, 76, 77, 78, 79, 80, 81, 82, 83, 84, 85, 86, 87, 88, 89, 90, 91, 92, 93, 94, 95, 96, 97, 98, 99, 100, 101, 102, 103, 104] dt dt114 := Fr_tr hF7 hF116 (by decide)
    have w118 : dt114 1 0 = dt4 1 0 := hF116 1 (by decide) 0
    have w119 : dt114 7 3 = dt4 7 3 := hF116 7 (by decide) 3
    have w120 : dt114 10 3 = dt4 10 3 := hF116 10 (by decide) 3
    have w121 : dt114 12 3 = dt4 12 3 := hF116 12 (by decide) 3
    have w122 : dt114 14 3 = dt4 14 3 := hF116 14 (by decide) 3
    have w123 : dt114 16 3 = dt4 16 3 := hF116 16 (by decide) 3
    have w124 : dt114 18 0 = dt4 18 0 := hF116 18 (by decide) 0
    have w125 : dt114 24 3 = dt4 24 3 := hF116 24 (by decide) 3
    have w126 : dt114 27 3 = dt4 27 3 := hF116 27 (by decide) 3
    have w127 : dt114 29 3 = dt4 29 3 := hF116 29 (by decide) 3
    have w128 : dt114 31 3 = dt4 31 3 := hF116 31 (by decide) 3
    have w129 : dt114 33 3 = dt4 33 3 := hF116 33 (by decide) 3
    have w130 : dt114 0 2 = dt4 0 2 := hF116 0 (by decide) 2
    have w131 : dt114 35 1 = dt4 35 1 := hF116 35 (by decide) 1
    have w132 : dt114 35 2 = dt4 35 2 := hF116 35 (by decide) 2
    have w133 : dt114 35 3 = dt4 35 3 := hF116 35 (by decide) 3
    have w134 : dt114 81 0 = dt4 81 0 := hF116 81 (by decide) 0
    have w135 : dt114 81 1 = dt4 81 1 := hF116 81 (by decide) 1
    have w136 : dt114 81 2 = dt4 81 2 := hF116 81 (by decide) 2
    have w137 : dt114 81 3 = dt4 81 3 := hF116 81 (by decide) 3
    have w138 : dt114 81 4 = dt4 81 4 := hF116 81 (by decide) 4
    have w139 : dt114 81 5 = dt4 81 5 := hF116 81 (by decide) 5
    have w140 : dt114 79 2 = dt4 79 2 := hF116 79 (by decide) 2
    have w141 : dt114 79 12 = dt4 79 12 := hF116 79 (by decide) 12
    have w142 : dt114 79 19 = dt4 79 19 := hF116 79 (by decide) 19
    have w143 : dt114 79 21 = dt4 79 21 := hF116 79 (by decide) 21
    rcases h113 with ⟨rfl, h113⟩ | ⟨v_h113, rfl, h113r, h113⟩
    · skip
      have hM144 : MW (dt114 80) := h113.2.1
      obtain ⟨h113_0, h113_1, h113_2, h113_3, h113_4, h113_5, h113_6, h113_7, h113_8⟩ := h113
      have M2145 : MW (dt114 81) := MW_frk M2102 hF116 (by decide)
      have C146 : ∀ j : Nat, dt114 2 j = dt 2 j := fun j => (hF116 2 (by decide) j).trans (C103 j)
      have C147 : ∀ j : Nat, dt114 3 j = dt 3 j := fun j => (hF116 3 (by decide) j).trans (C104 j)
      have C148 : ∀ j : Nat, dt114 19 j = dt 19 j := fun j => (hF116 19 (by decide) j).trans (C105 j)
      have C149 : ∀ j : Nat, dt114 20 j = dt 20 j := fun j => (hF116 20 (by decide) j).trans (C106 j)
      have C150 : ∀ j : Nat, dt114 36 j = dt 36 j := fun j => (hF116 36 (by decide) j).trans (C107 j)
      have C151 : ∀ j : Nat, dt114 80 j = dt 80 j := fun j => (h113_8 j).trans (C108 j)
      have C152 : ∀ j : Nat, dt114 81 j = dt 81 j := fun j => (hF116 81 (by decide) j).trans (C109 j)
      have C153 : ∀ j : Nat, dt114 85 j = dt 85 j := fun j => (hF116 85 (by decide) j).trans (C110 j)
      refine go_toq PM267 (k := 2) (pc' := 1435) (L' := [some (.inr (.inr (some 3000))), some (.inr (.inr (some 0))), some (.inr (.inr (some 79))), some (.inl i)]) (st' := []) (w' := (SH, dt114)) rfl ?_
      exact K dt114 hI115 hM144 M2145 (by first | omega | (simp only [*]; done) | simp only [*]) (by omega) (by omega) (by omega) (by omega) (by omega) (by omega) (by omega) (by omega) (by omega) (by omega) (by omega) (by omega) (by omega) (by omega) (by omega) (by first | exact hI | exact TPL_k hd0 C150 C153 (by omega) | (exfalso; omega)) (by first | exact hI | exact SCL_k hd1 hM (fun j _ => C146 j) (fun j _ => C147 j) (fun j _ _ => C151 j) | (exfalso; omega)) (by first | exact hI | exact SCL_k hd2 hM2 (fun j _ => C148 j) (fun j _ => C149 j) (fun j _ _ => C152 j) | (exfalso; omega))
    · skip
      have hM154 : MW (dt114 80) := h113.2.2.1
      obtain ⟨h113_0, h113_1, h113_2, h113_3, h113_4, h113_5, h113_6, h113_7, h113_8, h113_9, h113_10, h113_11⟩ := h113
      have M2155 : MW (dt114 81) := MW_frk M2102 hF116 (by decide)
      have C156 : ∀ j : Nat, dt114 2 j = dt 2 j := fun j => (hF116 2 (by decide) j).trans (C103 j)
      have C157 : ∀ j : Nat, dt114 3 j = dt 3 j := fun j => (hF116 3 (by decide) j).trans (C104 j)
      have C158 : ∀ j : Nat, dt114 19 j = dt 19 j := fun j => (hF116 19 (by decide) j).trans (C105 j)
      have C159 : ∀ j : Nat, dt114 20 j = dt 20 j := fun j => (hF116 20 (by decide) j).trans (C106 j)
      have C160 : ∀ j : Nat, dt114 36 j = dt 36 j := fun j => (hF116 36 (by decide) j).trans (C107 j)
      have C161 : ∀ j : Nat, dt114 81 j = dt 81 j := fun j => (hF116 81 (by decide) j).trans (C109 j)
      have C162 : ∀ j : Nat, dt114 85 j = dt 85 j := fun j => (hF116 85 (by decide) j).trans (C110 j)
      have F163 : ∀ j : Nat, 6 ≤ j → j < 974 → dt114 80 j = dt 80 j := fun j h1_ h2_ => (h113_9 j (by omega) (by omega)).trans (C108 j)
      refine go_toq PM267 (k := 2) (pc' := 1435) (L' := [some (.inr (.inr (some 3000))), some (.inr (.inr (some 0))), some (.inr (.inr (some 79))), some (.inl i)]) (st' := []) (w' := (SH, dt114)) rfl ?_
      exact K dt114 hI115 hM154 M2155 (by first | omega | (simp only [*]; done) | simp only [*]) (by omega) (by omega) (by omega) (by omega) (by omega) (by omega) (by omega) (by omega) (by omega) (by omega) (by omega) (by omega) (by omega) (by omega) (by omega) (by first | exact hI | exact TPL_k hd0 C160 C162 (by omega) | (exfalso; omega)) (by first | exact hI | exact SCL_k hd1 hM (fun j _ => C156 j) (fun j _ => C157 j) F163 | (exfalso; omega)) (by first | exact hI | exact SCL_k hd2 hM2 (fun j _ => C158 j) (fun j _ => C159 j) (fun j _ _ => C161 j) | (exfalso; omega))
set_option maxRecDepth 20000 in
set_option maxHeartbeats 8000000 in
theorem sp_case24 (L : Nat) (xs : Nat → Int32) (sio : Option Nat) (d : Nat) (Q : Option AV → am_W → Prop) (hLL : L ≤ 3072) (i : Int) (hi : 0 ≤ i ∧ i ≤ 3066) (hil : i ≤ (L : Int) - 6) (dt : Nat → Nat → Int) (hI : InvC dt) (hM : MW (dt 80)) (hM2 : MW (dt 81)) (hk0 : dt 1 0 = dt 80 0) (hk1 : dt 7 3 = dt 80 1) (hk2 : dt 10 3 = dt 80 2) (hk3 : dt 12 3 = dt 80 3) (hk4 : dt 14 3 = dt 80 4) (hk5 : dt 16 3 = dt 80 5) (hk6 : dt 18 0 = dt 81 0) (hk7 : dt 24 3 = dt 81 1) (hk8 : dt 27 3 = dt 81 2) (hk9 : dt 29 3 = dt 81 3) (hk10 : dt 31 3 = dt 81 4) (hk11 : dt 33 3 = dt 81 5) (hk12 : dt 0 2 = dt 79 2) (hk13 : dt 35 1 = dt 79 12) (hk14 : dt 35 2 = dt 79 19) (hk15 : dt 35 3 = dt 79 21) (hd0 : TPL (dt 36) (dt 85) (dt 35 1)) (hd1 : SCL (dt 2) (dt 3) (dt 80)) (hd2 : SCL (dt 19) (dt 20) (dt 81)) (K : ∀ (dt : Nat → Nat → Int) (hI : InvC dt) (hM : MW (dt 80)) (hM2 : MW (dt 81)) (hk0 : dt 1 0 = dt 80 0) (hk1 : dt 7 3 = dt 80 1) (hk2 : dt 10 3 = dt 80 2) (hk3 : dt 12 3 = dt 80 3) (hk4 : dt 14 3 = dt 80 4) (hk5 : dt 16 3 = dt 80 5) (hk6 : dt 18 0 = dt 81 0) (hk7 : dt 24 3 = dt 81 1) (hk8 : dt 27 3 = dt 81 2) (hk9 : dt 29 3 = dt 81 3) (hk10 : dt 31 3 = dt 81 4) (hk11 : dt 33 3 = dt 81 5) (hk12 : dt 0 2 = dt 79 2) (hk13 : dt 35 1 = dt 79 12) (hk14 : dt 35 2 = dt 79 19) (hk15 : dt 35 3 = dt 79 21) (hd0 : TPL (dt 36) (dt 85) (dt 35 1)) (hd1 : SCL (dt 2) (dt 3) (dt 80)) (hd2 : SCL (dt 19) (dt 20) (dt 81)), GO (am_XX L xs sio) (d + 39) 267 1435 [some (.inr (.inr (some 3000))), some (.inr (.inr (some 0))), some (.inr (.inr (some 79))), some (.inl i)] [] (SH, dt) Q) : GO (am_XX L xs sio) (d + 39) 267 1142 [some (.inr (.inr (some 3000))), some (.inr (.inr (some 0))), some (.inr (.inr (some 79))), some (.inl i)] [] (SH, dt) Q := by
  have hF : Fr [0, 1, 2, 3, 4, 5, 6, 7, 8, 9, 10, 11, 12, 13, 14, 15, 16, 17, 18, 19, 20, 21, 22, 23, 24, 25, 26, 27, 28, 29, 30, 31, 32, 33, 34, 35, 36, 37, 38, 39, 40, 41, 42, 43, 44, 45, 46, 47, 48, 49, 50, 51, 52, 53, 54, 55, 56, 57, 58, 59, 60, 61, 62, 63, 64, 65, 66, 67, 68, 69, 70, 71, 72, 73, 74, 75, 76, 77, 78, 79, 80, 81, 82, 83, 84, 85, 86, 87, 88, 89, 90, 91, 92, 93, 94, 95, 96, 97, 98, 99, 100, 101, 102, 103, 104] dt dt := Fr_refl
  refine go_toq PM267 (k := 5) (pc' := 1147) (L' := [some (.inr (.inr (some 3000))), some (.inr (.inr (some 0))), some (.inr (.inr (some 79))), some (.inl i)]) (st' := [.inl (i + 1), .inr (.inr (some 3000)), .inr (.inr (some 0))]) (w' := (SH, dt)) rfl ?_
  have r1 := i32_R (xs ((i + 1).toNat))
  refine go_smpq PM267 (L' := [some (.inr (.inr (some 3000))), some (.inr (.inr (some 0))), some (.inr (.inr (some 79))), some (.inl i)]) (st' := [.inl ((xs ((i + 1).toNat)).toInt), .inr (.inr (some 0))]) (w' := (SH, dt)) rfl rfl (s_iald (n := L) (f := fun j => (xs j).toInt) (am_scr hLL) ⟨by omega, by omega⟩) ?_
  refine go_callq PM267 PM91 (Q' := _) rfl rfl rfl rfl (sp_X5_way L xs sio (d + 35) dt hI  ((xs ((i + 1).toNat)).toInt) ⟨by omega, by omega⟩ ) ?_
  rintro _ _ ⟨rfl, h2⟩
  refine ⟨rfl, ?_⟩
  rcases h2 with ⟨v_h2, rfl, h2r, h2⟩
  refine go_toq PM267 (k := 6) (pc' := 1157) (L' := [some (.inr (.inr (some 3000))), some (.inr (.inr (some 0))), some (.inr (.inr (some 79))), some (.inl i)]) (st' := [.inl (i + 1), .inr (.inr (some 3000)), .inr (.inr (some 79))]) (w' := (SH, dt)) rfl ?_
  refine go_smpq PM267 (L' := [some (.inr (.inr (some 3000))), some (.inr (.inr (some 0))), some (.inr (.inr (some 79))), some (.inl i)]) (st' := [.inl ((xs ((i + 1).toNat)).toInt), .inr (.inr (some 79))]) (w' := (SH, dt)) rfl rfl (s_iald (n := L) (f := fun j => (xs j).toInt) (am_scr hLL) ⟨by omega, by omega⟩) ?_
  refine go_callq PM267 PM236 (Q' := _) rfl rfl rfl rfl (sp_X6_way L xs sio (d + 36) dt hI hM  ((xs ((i + 1).toNat)).toInt) ⟨by omega, by omega⟩ ) ?_
  rintro _ _ ⟨dt4, rfl, hI5, hF6, h3⟩
  refine ⟨rfl, ?_⟩
  have hF7 : Fr [0, 1, 2, 3, 4, 5, 6, 7, 8, 9, 10, 11, 12, 13, 14, 15, 16, 17, 18, 19, 20, 21, 22, 23, 24, 25, 26, 27, 28, 29, 30, 31, 32, 33, 34, 35, 36, 37, 38, 39, 40, 41, 42, 43, 44, 45, 46, 47, 48, 49, 50, 51, 52, 53, 54, 55, 56, 57, 58, 59, 60, 61, 62, 63, 64, 65, 66, 67, 68, 69, 70, 71, 72, 73, 74, 75, 76, 77, 78, 79, 80, 81, 82, 83, 84, 85, 86, 87, 88, 89, 90, 91, 92, 93, 94, 95, 96, 97, 98, 99, 100, 101, 102, 103, 104] dt dt4 := Fr_tr hF hF6 (by decide)
  have hM8 : MW (dt4 80) := MW_fr hM hF6 (by decide)
  have w9 : dt4 1 0 = dt 1 0 := hF6 1 (by decide) 0
  have w10 : dt4 7 3 = dt 7 3 := hF6 7 (by decide) 3
  have w11 : dt4 10 3 = dt 10 3 := hF6 10 (by decide) 3
  have w12 : dt4 12 3 = dt 12 3 := hF6 12 (by decide) 3
  have w13 : dt4 14 3 = dt 14 3 := hF6 14 (by decide) 3
  have w14 : dt4 16 3 = dt 16 3 := hF6 16 (by decide) 3
  have w15 : dt4 18 0 = dt 18 0 := hF6 18 (by decide) 0
  have w16 : dt4 24 3 = dt 24 3 := hF6 24 (by decide) 3
  have w17 : dt4 27 3 = dt 27 3 := hF6 27 (by decide) 3
  have w18 : dt4 29 3 = dt 29 3 := hF6 29 (by decide) 3
  have w19 : dt4 31 3 = dt 31 3 := hF6 31 (by decide) 3
  have w20 : dt4 33 3 = dt 33 3 := hF6 33 (by decide) 3
  have w21 : dt4 0 2 = dt 0 2 := hF6 0 (by decide) 2
  have w22 : dt4 35 1 = dt 35 1 := hF6 35 (by decide) 1
  have w23 : dt4 35 2 = dt 35 2 := hF6 35 (by decide) 2
  have w24 : dt4 35 3 = dt 35 3 := hF6 35 (by decide) 3
  have w25 : dt4 80 0 = dt 80 0 := hF6 80 (by decide) 0
  have w26 : dt4 80 1 = dt 80 1 := hF6 80 (by decide) 1
  have w27 : dt4 80 2 = dt 80 2 := hF6 80 (by decide) 2
  have w28 : dt4 80 3 = dt 80 3 := hF6 80 (by decide) 3
  have w29 : dt4 80 4 = dt 80 4 := hF6 80 (by decide) 4
  have w30 : dt4 80 5 = dt 80 5 := hF6 80 (by decide) 5
  have w31 : dt4 81 0 = dt 81 0 := hF6 81 (by decide) 0
  have w32 : dt4 81 1 = dt 81 1 := hF6 81 (by decide) 1
  have w33 : dt4 81 2 = dt 81 2 := hF6 81 (by decide) 2
  have w34 : dt4 81 3 = dt 81 3 := hF6 81 (by decide) 3
  have w35 : dt4 81 4 = dt 81 4 := hF6 81 (by decide) 4
  have w36 : dt4 81 5 = dt 81 5 := hF6 81 (by decide) 5
  have w37 : dt4 79 2 = dt 79 2 := hF6 79 (by decide) 2
  have w38 : dt4 79 12 = dt 79 12 := hF6 79 (by decide) 12
  have w39 : dt4 79 19 = dt 79 19 := hF6 79 (by decide) 19
  have w40 : dt4 79 21 = dt 79 21 := hF6 79 (by decide) 21
  rcases h3 with ⟨v_h3, rfl, h3r, h3⟩
  have M241 : MW (dt4 81) := MW_frk hM2 hF6 (by decide)
  have C42 : ∀ j : Nat, dt4 2 j = dt 2 j := fun j => (hF6 2 (by decide) j).trans ((fun _ => rfl) j)
  have C43 : ∀ j : Nat, dt4 3 j = dt 3 j := fun j => (hF6 3 (by decide) j).trans ((fun _ => rfl) j)
  have C44 : ∀ j : Nat, dt4 19 j = dt 19 j := fun j => (hF6 19 (by decide) j).trans ((fun _ => rfl) j)
  have C45 : ∀ j : Nat, dt4 20 j = dt 20 j := fun j => (hF6 20 (by decide) j).trans ((fun _ => rfl) j)
  have C46 : ∀ j : Nat, dt4 36 j = dt 36 j := fun j => (hF6 36 (by decide) j).trans ((fun _ => rfl) j)
  have C47 : ∀ j : Nat, dt4 80 j = dt 80 j := fun j => (hF6 80 (by decide) j).trans ((fun _ => rfl) j)
  have C48 : ∀ j : Nat, dt4 81 j = dt 81 j := fun j => (hF6 81 (by decide) j).trans ((fun _ => rfl) j)
  have C49 : ∀ j : Nat, dt4 85 j = dt 85 j := fun j => (hF6 85 (by decide) j).trans ((fun _ => rfl) j)
  refine go_toq PM267 (k := 2) (pc' := 1435) (L' := [some (.inr (.inr (some 3000))), some (.inr (.inr (some 0))), some (.inr (.inr (some 79))), some (.inl i)]) (st' := []) (w' := (SH, dt4)) rfl ?_
  exact K dt4 hI5 hM8 M241 (by first | omega | (simp only [*]; done) | simp only [*]) (by omega) (by omega) (by omega) (by omega) (by omega) (by omega) (by omega) (by omega) (by omega) (by omega) (by omega) (by omega) (by omega) (by omega) (by omega) (by first | exact hI | exact TPL_k hd0 C46 C49 (by omega) | (exfalso; omega)) (by first | exact hI | exact SCL_k hd1 hM (fun j _ => C42 j) (fun j _ => C43 j) (fun j _ _ => C47 j) | (exfalso; omega)) (by first | exact hI | exact SCL_k hd2 hM2 (fun j _ => C44 j) (fun j _ => C45 j) (fun j _ _ => C48 j) | (exfalso; omega))
set_option maxRecDepth 20000 in
set_option maxHeartbeats 8000000 in
theorem sp_case25 (L : Nat) (xs : Nat → Int32) (sio : Option Nat) (d : Nat) (Q : Option AV → am_W → Prop) (hLL : L ≤ 3072) (i : Int) (hi : 0 ≤ i ∧ i ≤ 3066) (hil : i ≤ (L : Int) - 6) (dt : Nat → Nat → Int) (hI : InvC dt) (hM : MW (dt 80)) (hM2 : MW (dt 81)) (hk0 : dt 1 0 = dt 80 0) (hk1 : dt 7 3 = dt 80 1) (hk2 : dt 10 3 = dt 80 2) (hk3 : dt 12 3 = dt 80 3) (hk4 : dt 14 3 = dt 80 4) (hk5 : dt 16 3 = dt 80 5) (hk6 : dt 18 0 = dt 81 0) (hk7 : dt 24 3 = dt 81 1) (hk8 : dt 27 3 = dt 81 2) (hk9 : dt 29 3 = dt 81 3) (hk10 : dt 31 3 = dt 81 4) (hk11 : dt 33 3 = dt 81 5) (hk12 : dt 0 2 = dt 79 2) (hk13 : dt 35 1 = dt 79 12) (hk14 : dt 35 2 = dt 79 19) (hk15 : dt 35 3 = dt 79 21) (hd0 : TPL (dt 36) (dt 85) (dt 35 1)) (hd1 : SCL (dt 2) (dt 3) (dt 80)) (hd2 : SCL (dt 19) (dt 20) (dt 81)) (K : ∀ (dt : Nat → Nat → Int) (hI : InvC dt) (hM : MW (dt 80)) (hM2 : MW (dt 81)) (hk0 : dt 1 0 = dt 80 0) (hk1 : dt 7 3 = dt 80 1) (hk2 : dt 10 3 = dt 80 2) (hk3 : dt 12 3 = dt 80 3) (hk4 : dt 14 3 = dt 80 4) (hk5 : dt 16 3 = dt 80 5) (hk6 : dt 18 0 = dt 81 0) (hk7 : dt 24 3 = dt 81 1) (hk8 : dt 27 3 = dt 81 2) (hk9 : dt 29 3 = dt 81 3) (hk10 : dt 31 3 = dt 81 4) (hk11 : dt 33 3 = dt 81 5) (hk12 : dt 0 2 = dt 79 2) (hk13 : dt 35 1 = dt 79 12) (hk14 : dt 35 2 = dt 79 19) (hk15 : dt 35 3 = dt 79 21) (hd0 : TPL (dt 36) (dt 85) (dt 35 1)) (hd1 : SCL (dt 2) (dt 3) (dt 80)) (hd2 : SCL (dt 19) (dt 20) (dt 81)), GO (am_XX L xs sio) (d + 39) 267 1435 [some (.inr (.inr (some 3000))), some (.inr (.inr (some 0))), some (.inr (.inr (some 79))), some (.inl i)] [] (SH, dt) Q) : GO (am_XX L xs sio) (d + 39) 267 1165 [some (.inr (.inr (some 3000))), some (.inr (.inr (some 0))), some (.inr (.inr (some 79))), some (.inl i)] [] (SH, dt) Q := by
  have hF : Fr [0, 1, 2, 3, 4, 5, 6, 7, 8, 9, 10, 11, 12, 13, 14, 15, 16, 17, 18, 19, 20, 21, 22, 23, 24, 25, 26, 27, 28, 29, 30, 31, 32, 33, 34, 35, 36, 37, 38, 39, 40, 41, 42, 43, 44, 45, 46, 47, 48, 49, 50, 51, 52, 53, 54, 55, 56, 57, 58, 59, 60, 61, 62, 63, 64, 65, 66, 67, 68, 69, 70, 71, 72, 73, 74, 75, 76, 77, 78, 79, 80, 81, 82, 83, 84, 85, 86, 87, 88, 89, 90, 91, 92, 93, 94, 95, 96, 97, 98, 99, 100, 101, 102, 103, 104] dt dt := Fr_refl
  refine go_toq PM267 (k := 5) (pc' := 1170) (L' := [some (.inr (.inr (some 3000))), some (.inr (.inr (some 0))), some (.inr (.inr (some 79))), some (.inl i)]) (st' := [.inl (i + 1), .inr (.inr (some 3000)), .inr (.inr (some 0))]) (w' := (SH, dt)) rfl ?_
  have r1 := i32_R (xs ((i + 1).toNat))
  refine go_smpq PM267 (L' := [some (.inr (.inr (some 3000))), some (.inr (.inr (some 0))), some (.inr (.inr (some 79))), some (.inl i)]) (st' := [.inl ((xs ((i + 1).toNat)).toInt), .inr (.inr (some 0))]) (w' := (SH, dt)) rfl rfl (s_iald (n := L) (f := fun j => (xs j).toInt) (am_scr hLL) ⟨by omega, by omega⟩) ?_
  refine go_toq PM267 (k := 4) (pc' := 1175) (L' := [some (.inr (.inr (some 3000))), some (.inr (.inr (some 0))), some (.inr (.inr (some 79))), some (.inl i)]) (st' := [.inl (i + 2), .inr (.inr (some 3000)), .inl ((xs ((i + 1).toNat)).toInt), .inr (.inr (some 0))]) (w' := (SH, dt)) rfl ?_
  have r2 := i32_R (xs ((i + 2).toNat))
  refine go_smpq PM267 (L' := [some (.inr (.inr (some 3000))), some (.inr (.inr (some 0))), some (.inr (.inr (some 79))), some (.inl i)]) (st' := [.inl ((xs ((i + 2).toNat)).toInt), .inl ((xs ((i + 1).toNat)).toInt), .inr (.inr (some 0))]) (w' := (SH, dt)) rfl rfl (s_iald (n := L) (f := fun j => (xs j).toInt) (am_scr hLL) ⟨by omega, by omega⟩) ?_
  refine go_callq PM267 PM92 (Q' := _) rfl rfl rfl rfl (sp_X5_house L xs sio (d + 36) dt hI  ((xs ((i + 1).toNat)).toInt) ⟨by omega, by omega⟩ ((xs ((i + 2).toNat)).toInt) ⟨by omega, by omega⟩ ) ?_
  rintro _ _ ⟨dt4, rfl, hI5, hF6, h3⟩
  refine ⟨rfl, ?_⟩
  have hF7 : Fr [0, 1, 2, 3, 4, 5, 6, 7, 8, 9, 10, 11, 12, 13, 14, 15, 16, 17, 18, 19, 20, 21, 22, 23, 24, 25, 26, 27, 28, 29, 30, 31, 32, 33, 34, 35, 36, 37, 38, 39, 40, 41, 42, 43, 44, 45, 46, 47, 48, 49, 50, 51, 52, 53, 54, 55, 56, 57, 58, 59, 60, 61, 62, 63, 64, 65, 66, 67, 68, 69, 70, 71, 72, 73, 74, 75, 76, 77, 78, 79, 80, 81, 82, 83, 84, 85, 86, 87, 88, 89, 90, 91, 92, 93, 94, 95, 96, 97, 98, 99, 100, 101, 102, 103, 104] dt dt4 := Fr_tr hF hF6 (by decide)
  have hM8 : MW (dt4 80) := MW_fr hM hF6 (by decide)
  have w9 : dt4 1 0 = dt 1 0 := hF6 1 (by decide) 0
  have w10 : dt4 7 3 = dt 7 3 := hF6 7 (by decide) 3
  have w11 : dt4 10 3 = dt 10 3 := hF6 10 (by decide) 3
  have w12 : dt4 12 3 = dt 12 3 := hF6 12 (by decide) 3
  have w13 : dt4 14 3 = dt 14 3 := hF6 14 (by decide) 3
  have w14 : dt4 18 0 = dt 18 0 := hF6 18 (by decide) 0
  have w15 : dt4 24 3 = dt 24 3 := hF6 24 (by decide) 3
  have w16 : dt4 27 3 = dt 27 3 := hF6 27 (by decide) 3
  have w17 : dt4 29 3 = dt 29 3 := hF6 29 (by decide) 3
  have w18 : dt4 31 3 = dt 31 3 := hF6 31 (by decide) 3
  have w19 : dt4 33 3 = dt 33 3 := hF6 33 (by decide) 3
  have w20 : dt4 0 2 = dt 0 2 := hF6 0 (by decide) 2
  have w21 : dt4 35 1 = dt 35 1 := hF6 35 (by decide) 1
  have w22 : dt4 35 2 = dt 35 2 := hF6 35 (by decide) 2
  have w23 : dt4 35 3 = dt 35 3 := hF6 35 (by decide) 3
  have w24 : dt4 80 0 = dt 80 0 := hF6 80 (by decide) 0
  have w25 : dt4 80 1 = dt 80 1 := hF6 80 (by decide) 1
  have w26 : dt4 80 2 = dt 80 2 := hF6 80 (by decide) 2
  have w27 : dt4 80 3 = dt 80 3 := hF6 80 (by decide) 3
  have w28 : dt4 80 4 = dt 80 4 := hF6 80 (by decide) 4
  have w29 : dt4 80 5 = dt 80 5 := hF6 80 (by decide) 5
  have w30 : dt4 81 0 = dt 81 0 := hF6 81 (by decide) 0
  have w31 : dt4 81 1 = dt 81 1 := hF6 81 (by decide) 1
  have w32 : dt4 81 2 = dt 81 2 := hF6 81 (by decide) 2
  have w33 : dt4 81 3 = dt 81 3 := hF6 81 (by decide) 3
  have w34 : dt4 81 4 = dt 81 4 := hF6 81 (by decide) 4
  have w35 : dt4 81 5 = dt 81 5 := hF6 81 (by decide) 5
  have w36 : dt4 79 2 = dt 79 2 := hF6 79 (by decide) 2
  have w37 : dt4 79 12 = dt 79 12 := hF6 79 (by decide) 12
  have w38 : dt4 79 19 = dt 79 19 := hF6 79 (by decide) 19
  have w39 : dt4 79 21 = dt 79 21 := hF6 79 (by decide) 21
  rcases h3 with ⟨rfl, h3⟩ | ⟨v_h3, rfl, h3r, h3⟩
  · skip
    obtain ⟨h3_0, h3_1⟩ := h3
    have M240 : MW (dt4 81) := MW_frk hM2 hF6 (by decide)
    have C41 : ∀ j : Nat, dt4 2 j = dt 2 j := fun j => (hF6 2 (by decide) j).trans ((fun _ => rfl) j)
    have C42 : ∀ j : Nat, dt4 3 j = dt 3 j := fun j => (hF6 3 (by decide) j).trans ((fun _ => rfl) j)
    have C43 : ∀ j : Nat, dt4 19 j = dt 19 j := fun j => (hF6 19 (by decide) j).trans ((fun _ => rfl) j)
    have C44 : ∀ j : Nat, dt4 20 j = dt 20 j := fun j => (hF6 20 (by decide) j).trans ((fun _ => rfl) j)
    have C45 : ∀ j : Nat, dt4 36 j = dt 36 j := fun j => (hF6 36 (by decide) j).trans ((fun _ => rfl) j)
    have C46 : ∀ j : Nat, dt4 80 j = dt 80 j := fun j => (hF6 80 (by decide) j).trans ((fun _ => rfl) j)
    have C47 : ∀ j : Nat, dt4 81 j = dt 81 j := fun j => (hF6 81 (by decide) j).trans ((fun _ => rfl) j)
    have C48 : ∀ j : Nat, dt4 85 j = dt 85 j := fun j => (hF6 85 (by decide) j).trans ((fun _ => rfl) j)
    refine go_toq PM267 (k := 6) (pc' := 1185) (L' := [some (.inr (.inr (some 3000))), some (.inr (.inr (some 0))), some (.inr (.inr (some 79))), some (.inl i)]) (st' := [.inl (i + 1), .inr (.inr (some 3000)), .inr (.inr (some 79))]) (w' := (SH, dt4)) rfl ?_
    have r49 := i32_R (xs ((i + 1).toNat))
    refine go_smpq PM267 (L' := [some (.inr (.inr (some 3000))), some (.inr (.inr (some 0))), some (.inr (.inr (some 79))), some (.inl i)]) (st' := [.inl ((xs ((i + 1).toNat)).toInt), .inr (.inr (some 79))]) (w' := (SH, dt4)) rfl rfl (s_iald (n := L) (f := fun j => (xs j).toInt) (am_scr hLL) ⟨by omega, by omega⟩) ?_
    refine go_toq PM267 (k := 4) (pc' := 1190) (L' := [some (.inr (.inr (some 3000))), some (.inr (.inr (some 0))), some (.inr (.inr (some 79))), some (.inl i)]) (st' := [.inl (i + 2), .inr (.inr (some 3000)), .inl ((xs ((i + 1).toNat)).toInt), .inr (.inr (some 79))]) (w' := (SH, dt4)) rfl ?_
    have r50 := i32_R (xs ((i + 2).toNat))
    refine go_smpq PM267 (L' := [some (.inr (.inr (some 3000))), some (.inr (.inr (some 0))), some (.inr (.inr (some 79))), some (.inl i)]) (st' := [.inl ((xs ((i + 2).toNat)).toInt), .inl ((xs ((i + 1).toNat)).toInt), .inr (.inr (some 79))]) (w' := (SH, dt4)) rfl rfl (s_iald (n := L) (f := fun j => (xs j).toInt) (am_scr hLL) ⟨by omega, by omega⟩) ?_
    refine go_callq PM267 PM237 (Q' := _) rfl rfl rfl rfl (sp_X6_house_v L xs sio (d + 37) dt4 hI5 hM8  ((xs ((i + 1).toNat)).toInt) ⟨by omega, by omega⟩ ((xs ((i + 2).toNat)).toInt) ⟨by omega, by omega⟩ ) ?_
    rintro _ _ ⟨dt52, rfl, hI53, hF54, h51⟩
    refine ⟨rfl, ?_⟩
    have hF55 : Fr [0, 1, 2, 3, 4, 5, 6, 7, 8, 9, 10, 11, 12, 13, 14, 15, 16, 17, 18, 19, 20, 21, 22, 23, 24, 25, 26, 27, 28, 29, 30, 31, 32, 33, 34, 35, 36, 37, 38, 39, 40, 41, 42, 43, 44, 45, 46, 47, 48, 49, 50, 51, 52, 53, 54, 55, 56, 57, 58, 59, 60, 61, 62, 63, 64, 65, 66, 67, 68, 69, 70, 71, 72, 73, 74, 75, 76, 77, 78, 79, 80, 81, 82, 83, 84, 85, 86, 87, 88, 89, 90, 91, 92, 93, 94, 95, 96, 97, 98, 99, 100, 101, 102, 103, 104] dt dt52 := Fr_tr hF7 hF54 (by decide)
    have w56 : dt52 1 0 = dt4 1 0 := hF54 1 (by decide) 0
    have w57 : dt52 7 3 = dt4 7 3 := hF54 7 (by decide) 3
    have w58 : dt52 10 3 = dt4 10 3 := hF54 10 (by decide) 3
    have w59 : dt52 12 3 = dt4 12 3 := hF54 12 (by decide) 3
    have w60 : dt52 14 3 = dt4 14 3 := hF54 14 (by decide) 3
    have w61 : dt52 16 3 = dt4 16 3 := hF54 16 (by decide) 3
    have w62 : dt52 18 0 = dt4 18 0 := hF54 18 (by decide) 0
    have w63 : dt52 24 3 = dt4 24 3 := hF54 24 (by decide) 3
    have w64 : dt52 27 3 = dt4 27 3 := hF54 27 (by decide) 3
    have w65 : dt52 29 3 = dt4 29 3 := hF54 29 (by decide) 3
    have w66 : dt52 31 3 = dt4 31 3 := hF54 31 (by decide) 3
    have w67 : dt52 33 3 = dt4 33 3 := hF54 33 (by decide) 3
    have w68 : dt52 0 2 = dt4 0 2 := hF54 0 (by decide) 2
    have w69 : dt52 35 1 = dt4 35 1 := hF54 35 (by decide) 1
    have w70 : dt52 35 2 = dt4 35 2 := hF54 35 (by decide) 2
    have w71 : dt52 35 3 = dt4 35 3 := hF54 35 (by decide) 3
    have w72 : dt52 81 0 = dt4 81 0 := hF54 81 (by decide) 0
    have w73 : dt52 81 1 = dt4 81 1 := hF54 81 (by decide) 1
    have w74 : dt52 81 2 = dt4 81 2 := hF54 81 (by decide) 2
    have w75 : dt52 81 3 = dt4 81 3 := hF54 81 (by decide) 3
    have w76 : dt52 81 4 = dt4 81 4 := hF54 81 (by decide) 4
    have w77 : dt52 81 5 = dt4 81 5 := hF54 81 (by decide) 5
    have w78 : dt52 79 2 = dt4 79 2 := hF54 79 (by decide) 2
    have w79 : dt52 79 12 = dt4 79 12 := hF54 79 (by decide) 12
    have w80 : dt52 79 19 = dt4 79 19 := hF54 79 (by decide) 19
    have w81 : dt52 79 21 = dt4 79 21 := hF54 79 (by decide) 21
    rcases h51 with ⟨rfl, h51⟩ | ⟨v_h51, rfl, h51r, h51⟩
    · skip
      have hM82 : MW (dt52 80) := h51.2.1
      obtain ⟨h51_0, h51_1, h51_2, h51_3, h51_4, h51_5, h51_6, h51_7, h51_8⟩ := h51
      have M283 : MW (dt52 81) := MW_frk M240 hF54 (by decide)
      have C84 : ∀ j : Nat, dt52 2 j = dt 2 j := fun j => (hF54 2 (by decide) j).trans (C41 j)
      have C85 : ∀ j : Nat, dt52 3 j = dt 3 j := fun j => (hF54 3 (by decide) j).trans (C42 j)
      have C86 : ∀ j : Nat, dt52 19 j = dt 19 j := fun j => (hF54 19 (by decide) j).trans (C43 j)
      have C87 : ∀ j : Nat, dt52 20 j = dt 20 j := fun j => (hF54 20 (by decide) j).trans (C44 j)
      have C88 : ∀ j : Nat, dt52 36 j = dt 36 j := fun j => (hF54 36 (by decide) j).trans (C45 j)
      have C89 : ∀ j : Nat, dt52 80 j = dt 80 j := fun j => (h51_8 j).trans (C46 j)
      have C90 : ∀ j : Nat, dt52 81 j = dt 81 j := fun j => (hF54 81 (by decide) j).trans (C47 j)
      have C91 : ∀ j : Nat, dt52 85 j = dt 85 j := fun j => (hF54 85 (by decide) j).trans (C48 j)
      refine go_toq PM267 (k := 2) (pc' := 1435) (L' := [some (.inr (.inr (some 3000))), some (.inr (.inr (some 0))), some (.inr (.inr (some 79))), some (.inl i)]) (st' := []) (w' := (SH, dt52)) rfl ?_
      exact K dt52 hI53 hM82 M283 (by first | omega | (simp only [*]; done) | simp only [*]) (by omega) (by omega) (by omega) (by omega) (by omega) (by omega) (by omega) (by omega) (by omega) (by omega) (by omega) (by omega) (by omega) (by omega) (by omega) (by first | exact hI | exact TPL_k hd0 C88 C91 (by omega) | (exfalso; omega)) (by first | exact hI | exact SCL_k hd1 hM (fun j _ => C84 j) (fun j _ => C85 j) (fun j _ _ => C89 j) | (exfalso; omega)) (by first | exact hI | exact SCL_k hd2 hM2 (fun j _ => C86 j) (fun j _ => C87 j) (fun j _ _ => C90 j) | (exfalso; omega))
    · skip
      have hM92 : MW (dt52 80) := h51.2.2.1
      obtain ⟨h51_0, h51_1, h51_2, h51_3, h51_4, h51_5, h51_6, h51_7, h51_8, h51_9, h51_10, h51_11⟩ := h51
      have M293 : MW (dt52 81) := MW_frk M240 hF54 (by decide)
      have C94 : ∀ j : Nat, dt52 2 j = dt 2 j := fun j => (hF54 2 (by decide) j).trans (C41 j)
      have C95 : ∀ j : Nat, dt52 3 j = dt 3 j := fun j => (hF54 3 (by decide) j).trans (C42 j)
      have C96 : ∀ j : Nat, dt52 19 j = dt 19 j := fun j => (hF54 19 (by decide) j).trans (C43 j)
      have C97 : ∀ j : Nat, dt52 20 j = dt 20 j := fun j => (hF54 20 (by decide) j).trans (C44 j)
      have C98 : ∀ j : Nat, dt52 36 j = dt 36 j := fun j => (hF54 36 (by decide) j).trans (C45 j)
      have C99 : ∀ j : Nat, dt52 81 j = dt 81 j := fun j => (hF54 81 (by decide) j).trans (C47 j)
      have C100 : ∀ j : Nat, dt52 85 j = dt 85 j := fun j => (hF54 85 (by decide) j).trans (C48 j)
      have F101 : ∀ j : Nat, 6 ≤ j → j < 974 → dt52 80 j = dt 80 j := fun j h1_ h2_ => (h51_9 j (by omega) (by omega)).trans (C46 j)
      refine go_toq PM267 (k := 2) (pc' := 1435) (L' := [some (.inr (.inr (some 3000))), some (.inr (.inr (some 0))), some (.inr (.inr (some 79))), some (.inl i)]) (st' := []) (w' := (SH, dt52)) rfl ?_
      exact K dt52 hI53 hM92 M293 (by first | omega | (simp only [*]; done) | simp only [*]) (by omega) (by omega) (by omega) (by omega) (by omega) (by omega) (by omega) (by omega) (by omega) (by omega) (by omega) (by omega) (by omega) (by omega) (by omega) (by first | exact hI | exact TPL_k hd0 C98 C100 (by omega) | (exfalso; omega)) (by first | exact hI | exact SCL_k hd1 hM (fun j _ => C94 j) (fun j _ => C95 j) F101 | (exfalso; omega)) (by first | exact hI | exact SCL_k hd2 hM2 (fun j _ => C96 j) (fun j _ => C97 j) (fun j _ _ => C99 j) | (exfalso; omega))
  · skip
    obtain ⟨h3_0, h3_1, h3_2⟩ := h3
    have M2102 : MW (dt4 81) := MW_frk hM2 hF6 (by decide)
    have C103 : ∀ j : Nat, dt4 2 j = dt 2 j := fun j => (hF6 2 (by decide) j).trans ((fun _ => rfl) j)
    have C104 : ∀ j : Nat, dt4 3 j = dt 3 j := fun j => (hF6 3 (by decide) j).trans ((fun _ => rfl) j)
    have C105 : ∀ j : Nat, dt4 19 j = dt 19 j := fun j => (hF6 19 (by decide) j).trans ((fun _ => rfl) j)
    have C106 : ∀ j : Nat, dt4 20 j = dt 20 j := fun j => (hF6 20 (by decide) j).trans ((fun _ => rfl) j)
    have C107 : ∀ j : Nat, dt4 36 j = dt 36 j := fun j => (hF6 36 (by decide) j).trans ((fun _ => rfl) j)
    have C108 : ∀ j : Nat, dt4 80 j = dt 80 j := fun j => (hF6 80 (by decide) j).trans ((fun _ => rfl) j)
    have C109 : ∀ j : Nat, dt4 81 j = dt 81 j := fun j => (hF6 81 (by decide) j).trans ((fun _ => rfl) j)
    have C110 : ∀ j : Nat, dt4 85 j = dt 85 j := fun j => (hF6 85 (by decide) j).trans ((fun _ => rfl) j)
    refine go_toq PM267 (k := 6) (pc' := 1185) (L' := [some (.inr (.inr (some 3000))), some (.inr (.inr (some 0))), some (.inr (.inr (some 79))), some (.inl i)]) (st' := [.inl (i + 1), .inr (.inr (some 3000)), .inr (.inr (some 79))]) (w' := (SH, dt4)) rfl ?_
    have r111 := i32_R (xs ((i + 1).toNat))
    refine go_smpq PM267 (L' := [some (.inr (.inr (some 3000))), some (.inr (.inr (some 0))), some (.inr (.inr (some 79))), some (.inl i)]) (st' := [.inl ((xs ((i + 1).toNat)).toInt), .inr (.inr (some 79))]) (w' := (SH, dt4)) rfl rfl (s_iald (n := L) (f := fun j => (xs j).toInt) (am_scr hLL) ⟨by omega, by omega⟩) ?_
    refine go_toq PM267 (k := 4) (pc' := 1190) (L' := [some (.inr (.inr (some 3000))), some (.inr (.inr (some 0))), some (.inr (.inr (some 79))), some (.inl i)]) (st' := [.inl (i + 2), .inr (.inr (some 3000)), .inl ((xs ((i + 1).toNat)).toInt), .inr (.inr (some 79))]) (w' := (SH, dt4)) rfl ?_
    have r112 := i32_R (xs ((i + 2).toNat))
    refine go_smpq PM267 (L' := [some (.inr (.inr (some 3000))), some (.inr (.inr (some 0))), some (.inr (.inr (some 79))), some (.inl i)]) (st' := [.inl ((xs ((i + 2).toNat)).toInt), .inl ((xs ((i + 1).toNat)).toInt), .inr (.inr (some 79))]) (w' := (SH, dt4)) rfl rfl (s_iald (n := L) (f := fun j => (xs j).toInt) (am_scr hLL) ⟨by omega, by omega⟩) ?_
    refine go_callq PM267 PM237 (Q' := _) rfl rfl rfl rfl (sp_X6_house_v L xs sio (d + 37) dt4 hI5 hM8  ((xs ((i + 1).toNat)).toInt) ⟨by omega, by omega⟩ ((xs ((i + 2).toNat)).toInt) ⟨by omega, by omega⟩ ) ?_
    rintro _ _ ⟨dt114, rfl, hI115, hF116, h113⟩
    refine ⟨rfl, ?_⟩
    have hF117 : Fr [0, 1, 2, 3, 4, 5, 6, 7, 8, 9, 10, 11, 12, 13, 14, 15, 16, 17, 18, 19, 20, 21, 22, 23, 24, 25, 26, 27, 28, 29, 30, 31, 32, 33, 34, 35, 36, 37, 38, 39, 40, 41, 42, 43, 44, 45, 46, 47, 48, 49, 50, 51, 52, 53, 54, 55, 56, 57, 58, 59, 60, 61, 62, 63, 64, 65, 66, 67, 68, 69, 70, 71, 72, 73, 74, 75, 76, 77, 78, 79, 80, 81, 82, 83, 84, 85, 86, 87, 88, 89, 90, 91, 92, 93, 94, 95, 96, 97, 98, 99, 100, 101, 102, 103, 104] dt dt114 := Fr_tr hF7 hF116 (by decide)
    have w118 : dt114 1 0 = dt4 1 0 := hF116 1 (by decide) 0
    have w119 : dt114 7 3 = dt4 7 3 := hF116 7 (by decide) 3
    have w120 : dt114 10 3 = dt4 10 3 := hF116 10 (by decide) 3
    have w121 : dt114 12 3 = dt4 12 3 := hF116 12 (by decide) 3
    have w122 : dt114 14 3 = dt4 14 3 := hF116 14 (by decide) 3
    have w123 : dt114 16 3 = dt4 16 3 := hF116 16 (by decide) 3
    have w124 : dt114 18 0 = dt4 18 0 := hF116 18 (by decide) 0
    have w125 : dt114 24 3 = dt4 24 3 := hF116 24 (by decide) 3
    have w126 : dt114 27 3 = dt4 27 3 := hF116 27 (by decide) 3
    have w127 : dt114 29 3 = dt4 29 3 := hF116 29 (by decide) 3
    have w128 : dt114 31 3 = dt4 31 3 := hF116 31 (by decide) 3
    have w129 : dt114 33 3 = dt4 33 3 := hF116 33 (by decide) 3
    have w130 : dt114 0 2 = dt4 0 2 := hF116 0 (by decide) 2
    have w131 : dt114 35 1 = dt4 35 1 := hF116 35 (by decide) 1
    have w132 : dt114 35 2 = dt4 35 2 := hF116 35 (by decide) 2
    have w133 : dt114 35 3 = dt4 35 3 := hF116 35 (by decide) 3
    have w134 : dt114 81 0 = dt4 81 0 := hF116 81 (by decide) 0
    have w135 : dt114 81 1 = dt4 81 1 := hF116 81 (by decide) 1
    have w136 : dt114 81 2 = dt4 81 2 := hF116 81 (by decide) 2
    have w137 : dt114 81 3 = dt4 81 3 := hF116 81 (by decide) 3
    have w138 : dt114 81 4 = dt4 81 4 := hF116 81 (by decide) 4
    have w139 : dt114 81 5 = dt4 81 5 := hF116 81 (by decide) 5
    have w140 : dt114 79 2 = dt4 79 2 := hF116 79 (by decide) 2
    have w141 : dt114 79 12 = dt4 79 12 := hF116 79 (by decide) 12
    have w142 : dt114 79 19 = dt4 79 19 := hF116 79 (by decide) 19
    have w143 : dt114 79 21 = dt4 79 21 := hF116 79 (by decide) 21
    rcases h113 with ⟨rfl, h113⟩ | ⟨v_h113, rfl, h113r, h113⟩
    · skip
      have hM144 : MW (dt114 80) := h113.2.1
      obtain ⟨h113_0, h113_1, h113_2, h113_3, h113_4, h113_5, h113_6, h113_7, h113_8⟩ := h113
      have M2145 : MW (dt114 81) := MW_frk M2102 hF116 (by decide)
      have C146 : ∀ j : Nat, dt114 2 j = dt 2 j := fun j => (hF116 2 (by decide) j).trans (C103 j)
      have C147 : ∀ j : Nat, dt114 3 j = dt 3 j := fun j => (hF116 3 (by decide) j).trans (C104 j)
      have C148 : ∀ j : Nat, dt114 19 j = dt 19 j := fun j => (hF116 19 (by decide) j).trans (C105 j)
      have C149 : ∀ j : Nat, dt114 20 j = dt 20 j := fun j => (hF116 20 (by decide) j).trans (C106 j)
      have C150 : ∀ j : Nat, dt114 36 j = dt 36 j := fun j => (hF116 36 (by decide) j).trans (C107 j)
      have C151 : ∀ j : Nat, dt114 80 j = dt 80 j := fun j => (h113_8 j).trans (C108 j)
      have C152 : ∀ j : Nat, dt114 81 j = dt 81 j := fun j => (hF116 81 (by decide) j).trans (C109 j)
      have C153 : ∀ j : Nat, dt114 85 j = dt 85 j := fun j => (hF116 85 (by decide) j).trans (C110 j)
      refine go_toq PM267 (k := 2) (pc' := 1435) (L' := [some (.inr (.inr (some 3000))), some (.inr (.inr (some 0))), some (.inr (.inr (some 79))), some (.inl i)]) (st' := []) (w' := (SH, dt114)) rfl ?_
      exact K dt114 hI115 hM144 M2145 (by first | omega | (simp only [*]; done) | simp only [*]) (by omega) (by omega) (by omega) (by omega) (by omega) (by omega) (by omega) (by omega) (by omega) (by omega) (by omega) (by omega) (by omega) (by omega) (by omega) (by first | exact hI | exact TPL_k hd0 C150 C153 (by omega) | (exfalso; omega)) (by first | exact hI | exact SCL_k hd1 hM (fun j _ => C146 j) (fun j _ => C147 j) (fun j _ _ => C151 j) | (exfalso; omega)) (by first | exact hI | exact SCL_k hd2 hM2 (fun j _ => C148 j) (fun j _ => C149 j) (fun j _ _ => C152 j) | (exfalso; omega))
    · skip
      have hM154 : MW (dt114 80) := h113.2.2.1
      obtain ⟨h113_0, h113_1, h113_2, h113_3, h113_4, h113_5, h113_6, h113_7, h113_8, h113_9, h113_10, h113_11⟩ := h113
      have M2155 : MW (dt114 81) := MW_frk M2102 hF116 (by decide)
      have C156 : ∀ j : Nat, dt114 2 j = dt 2 j := fun j => (hF116 2 (by decide) j).trans (C103 j)
      have C157 : ∀ j : Nat, dt114 3 j = dt 3 j := fun j => (hF116 3 (by decide) j).trans (C104 j)
      have C158 : ∀ j : Nat, dt114 19 j = dt 19 j := fun j => (hF116 19 (by decide) j).trans (C105 j)
      have C159 : ∀ j : Nat, dt114 20 j = dt 20 j := fun j => (hF116 20 (by decide) j).trans (C106 j)
      have C160 : ∀ j : Nat, dt114 36 j = dt 36 j := fun j => (hF116 36 (by decide) j).trans (C107 j)
      have C161 : ∀ j : Nat, dt114 81 j = dt 81 j := fun j => (hF116 81 (by decide) j).trans (C109 j)
      have C162 : ∀ j : Nat, dt114 85 j = dt 85 j := fun j => (hF116 85 (by decide) j).trans (C110 j)
      have F163 : ∀ j : Nat, 6 ≤ j → j < 974 → dt114 80 j = dt 80 j := fun j h1_ h2_ => (h113_9 j (by omega) (by omega)).trans (C108 j)
      refine go_toq PM267 (k := 2) (pc' := 1435) (L' := [some (.inr (.inr (some 3000))), some (.inr (.inr (some 0))), some (.inr (.inr (some 79))), some (.inl i)]) (st' := []) (w' := (SH, dt114)) rfl ?_
      exact K dt114 hI115 hM154 M2155 (by first | omega | (simp only [*]; done) | simp only [*]) (by omega) (by omega) (by omega) (by omega) (by omega) (by omega) (by omega) (by omega) (by omega) (by omega) (by omega) (by omega) (by omega) (by omega) (by omega) (by first | exact hI | exact TPL_k hd0 C160 C162 (by omega) | (exfalso; omega)) (by first | exact hI | exact SCL_k hd1 hM (fun j _ => C156 j) (fun j _ => C157 j) F163 | (exfalso; omega)) (by first | exact hI | exact SCL_k hd2 hM2 (fun j _ => C158 j) (fun j _ => C159 j) (fun j _ _ => C161 j) | (exfalso; omega))
set_option maxRecDepth 20000 in
set_option maxHeartbeats 8000000 in
theorem sp_case26 (L : Nat) (xs : Nat → Int32) (sio : Option Nat) (d : Nat) (Q : Option AV → am_W → Prop) (hLL : L ≤ 3072) (i : Int) (hi : 0 ≤ i ∧ i ≤ 3066) (hil : i ≤ (L : Int) - 6) (dt : Nat → Nat → Int) (hI : InvC dt) (hM : MW (dt 80)) (hM2 : MW (dt 81)) (hk0 : dt 1 0 = dt 80 0) (hk1 : dt 7 3 = dt 80 1) (hk2 : dt 10 3 = dt 80 2) (hk3 : dt 12 3 = dt 80 3) (hk4 : dt 14 3 = dt 80 4) (hk5 : dt 16 3 = dt 80 5) (hk6 : dt 18 0 = dt 81 0) (hk7 : dt 24 3 = dt 81 1) (hk8 : dt 27 3 = dt 81 2) (hk9 : dt 29 3 = dt 81 3) (hk10 : dt 31 3 = dt 81 4) (hk11 : dt 33 3 = dt 81 5) (hk12 : dt 0 2 = dt 79 2) (hk13 : dt 35 1 = dt 79 12) (hk14 : dt 35 2 = dt 79 19) (hk15 : dt 35 3 = dt 79 21) (hd0 : TPL (dt 36) (dt 85) (dt 35 1)) (hd1 : SCL (dt 2) (dt 3) (dt 80)) (hd2 : SCL (dt 19) (dt 20) (dt 81)) (K : ∀ (dt : Nat → Nat → Int) (hI : InvC dt) (hM : MW (dt 80)) (hM2 : MW (dt 81)) (hk0 : dt 1 0 = dt 80 0) (hk1 : dt 7 3 = dt 80 1) (hk2 : dt 10 3 = dt 80 2) (hk3 : dt 12 3 = dt 80 3) (hk4 : dt 14 3 = dt 80 4) (hk5 : dt 16 3 = dt 80 5) (hk6 : dt 18 0 = dt 81 0) (hk7 : dt 24 3 = dt 81 1) (hk8 : dt 27 3 = dt 81 2) (hk9 : dt 29 3 = dt 81 3) (hk10 : dt 31 3 = dt 81 4) (hk11 : dt 33 3 = dt 81 5) (hk12 : dt 0 2 = dt 79 2) (hk13 : dt 35 1 = dt 79 12) (hk14 : dt 35 2 = dt 79 19) (hk15 : dt 35 3 = dt 79 21) (hd0 : TPL (dt 36) (dt 85) (dt 35 1)) (hd1 : SCL (dt 2) (dt 3) (dt 80)) (hd2 : SCL (dt 19) (dt 20) (dt 81)), GO (am_XX L xs sio) (d + 39) 267 1435 [some (.inr (.inr (some 3000))), some (.inr (.inr (some 0))), some (.inr (.inr (some 79))), some (.inl i)] [] (SH, dt) Q) : GO (am_XX L xs sio) (d + 39) 267 1198 [some (.inr (.inr (some 3000))), some (.inr (.inr (some 0))), some (.inr (.inr (some 79))), some (.inl i)] [] (SH, dt) Q := by
  have hF : Fr [0, 1, 2, 3, 4, 5, 6, 7, 8, 9, 10, 11, 12, 13, 14, 15, 16, 17, 18, 19, 20, 21, 22, 23, 24, 25, 26, 27, 28, 29, 30, 31, 32, 33, 34, 35, 36, 37, 38, 39, 40, 41, 42, 43, 44, 45, 46, 47, 48, 49, 50, 51, 52, 53, 54, 55, 56, 57, 58, 59, 60, 61, 62, 63, 64, 65, 66, 67, 68, 69, 70, 71, 72, 73, 74, 75, 76, 77, 78, 79, 80, 81, 82, 83, 84, 85, 86, 87, 88, 89, 90, 91, 92, 93, 94, 95, 96, 97, 98, 99, 100, 101, 102, 103, 104] dt dt := Fr_refl
  refine go_toq PM267 (k := 5) (pc' := 1203) (L' := [some (.inr (.inr (some 3000))), some (.inr (.inr (some 0))), some (.inr (.inr (some 79))), some (.inl i)]) (st' := [.inl (i + 1), .inr (.inr (some 3000)), .inr (.inr (some 0))]) (w' := (SH, dt)) rfl ?_
  have r1 := i32_R (xs ((i + 1).toNat))
  refine go_smpq PM267 (L' := [some (.inr (.inr (some 3000))), some (.inr (.inr (some 0))), some (.inr (.inr (some 79))), some (.inl i)]) (st' := [.inl ((xs ((i + 1).toNat)).toInt), .inr (.inr (some 0))]) (w' := (SH, dt)) rfl rfl (s_iald (n := L) (f := fun j => (xs j).toInt) (am_scr hLL) ⟨by omega, by omega⟩) ?_
  refine go_callq PM267 PM93 (Q' := _) rfl rfl rfl rfl (sp_X5_houses L xs sio (d + 34) dt hI  ((xs ((i + 1).toNat)).toInt) ⟨by omega, by omega⟩ ) ?_
  rintro _ _ ⟨rfl, h2⟩
  refine ⟨rfl, ?_⟩
  rcases h2 with ⟨v_h2, rfl, h2r, h2⟩
  refine go_toq PM267 (k := 6) (pc' := 1213) (L' := [some (.inr (.inr (some 3000))), some (.inr (.inr (some 0))), some (.inr (.inr (some 79))), some (.inl i)]) (st' := [.inl (i + 1), .inr (.inr (some 3000)), .inr (.inr (some 79))]) (w' := (SH, dt)) rfl ?_
  refine go_smpq PM267 (L' := [some (.inr (.inr (some 3000))), some (.inr (.inr (some 0))), some (.inr (.inr (some 79))), some (.inl i)]) (st' := [.inl ((xs ((i + 1).toNat)).toInt), .inr (.inr (some 79))]) (w' := (SH, dt)) rfl rfl (s_iald (n := L) (f := fun j => (xs j).toInt) (am_scr hLL) ⟨by omega, by omega⟩) ?_
  refine go_callq PM267 PM239 (Q' := _) rfl rfl rfl rfl (sp_X6_houses L xs sio (d + 37) dt hI hM  ((xs ((i + 1).toNat)).toInt) ⟨by omega, by omega⟩ ) ?_
  rintro _ _ ⟨rfl, h3⟩
  refine ⟨rfl, ?_⟩
  rcases h3 with ⟨v_h3, rfl, h3r, h3⟩
  refine go_toq PM267 (k := 2) (pc' := 1435) (L' := [some (.inr (.inr (some 3000))), some (.inr (.inr (some 0))), some (.inr (.inr (some 79))), some (.inl i)]) (st' := []) (w' := (SH, dt)) rfl ?_
  exact K dt hI hM hM2 (by first | omega | (simp only [*]; done) | simp only [*]) (by omega) (by omega) (by omega) (by omega) (by omega) (by omega) (by omega) (by omega) (by omega) (by omega) (by omega) (by omega) (by omega) (by omega) (by omega) (by first | exact hI | exact TPL_k hd0 (fun _ => rfl) (fun _ => rfl) (by omega) | (exfalso; omega)) (by first | exact hI | exact SCL_k hd1 hM (fun j _ => (fun _ => rfl) j) (fun j _ => (fun _ => rfl) j) (fun j _ _ => (fun _ => rfl) j) | (exfalso; omega)) (by first | exact hI | exact SCL_k hd2 hM2 (fun j _ => (fun _ => rfl) j) (fun j _ => (fun _ => rfl) j) (fun j _ _ => (fun _ => rfl) j) | (exfalso; omega))
set_option maxRecDepth 20000 in
set_option maxHeartbeats 8000000 in
theorem sp_case27 (L : Nat) (xs : Nat → Int32) (sio : Option Nat) (d : Nat) (Q : Option AV → am_W → Prop) (hLL : L ≤ 3072) (i : Int) (hi : 0 ≤ i ∧ i ≤ 3066) (hil : i ≤ (L : Int) - 6) (dt : Nat → Nat → Int) (hI : InvC dt) (hM : MW (dt 80)) (hM2 : MW (dt 81)) (hk0 : dt 1 0 = dt 80 0) (hk1 : dt 7 3 = dt 80 1) (hk2 : dt 10 3 = dt 80 2) (hk3 : dt 12 3 = dt 80 3) (hk4 : dt 14 3 = dt 80 4) (hk5 : dt 16 3 = dt 80 5) (hk6 : dt 18 0 = dt 81 0) (hk7 : dt 24 3 = dt 81 1) (hk8 : dt 27 3 = dt 81 2) (hk9 : dt 29 3 = dt 81 3) (hk10 : dt 31 3 = dt 81 4) (hk11 : dt 33 3 = dt 81 5) (hk12 : dt 0 2 = dt 79 2) (hk13 : dt 35 1 = dt 79 12) (hk14 : dt 35 2 = dt 79 19) (hk15 : dt 35 3 = dt 79 21) (hd0 : TPL (dt 36) (dt 85) (dt 35 1)) (hd1 : SCL (dt 2) (dt 3) (dt 80)) (hd2 : SCL (dt 19) (dt 20) (dt 81)) (K : ∀ (dt : Nat → Nat → Int) (hI : InvC dt) (hM : MW (dt 80)) (hM2 : MW (dt 81)) (hk0 : dt 1 0 = dt 80 0) (hk1 : dt 7 3 = dt 80 1) (hk2 : dt 10 3 = dt 80 2) (hk3 : dt 12 3 = dt 80 3) (hk4 : dt 14 3 = dt 80 4) (hk5 : dt 16 3 = dt 80 5) (hk6 : dt 18 0 = dt 81 0) (hk7 : dt 24 3 = dt 81 1) (hk8 : dt 27 3 = dt 81 2) (hk9 : dt 29 3 = dt 81 3) (hk10 : dt 31 3 = dt 81 4) (hk11 : dt 33 3 = dt 81 5) (hk12 : dt 0 2 = dt 79 2) (hk13 : dt 35 1 = dt 79 12) (hk14 : dt 35 2 = dt 79 19) (hk15 : dt 35 3 = dt 79 21) (hd0 : TPL (dt 36) (dt 85) (dt 35 1)) (hd1 : SCL (dt 2) (dt 3) (dt 80)) (hd2 : SCL (dt 19) (dt 20) (dt 81)), GO (am_XX L xs sio) (d + 39) 267 1435 [some (.inr (.inr (some 3000))), some (.inr (.inr (some 0))), some (.inr (.inr (some 79))), some (.inl i)] [] (SH, dt) Q) : GO (am_XX L xs sio) (d + 39) 267 1221 [some (.inr (.inr (some 3000))), some (.inr (.inr (some 0))), some (.inr (.inr (some 79))), some (.inl i)] [] (SH, dt) Q := by
  have hF : Fr [0, 1, 2, 3, 4, 5, 6, 7, 8, 9, 10, 11, 12, 13, 14, 15, 16, 17, 18, 19, 20, 21, 22, 23, 24, 25, 26, 27, 28, 29, 30, 31, 32, 33, 34, 35, 36, 37, 38, 39, 40, 41, 42, 43, 44, 45, 46, 47, 48, 49, 50, 51, 52, 53, 54, 55, 56, 57, 58, 59, 60, 61, 62, 63, 64, 65, 66, 67, 68, 69, 70, 71, 72, 73, 74, 75, 76, 77, 78, 79, 80, 81, 82, 83, 84, 85, 86, 87, 88, 89, 90, 91, 92, 93, 94, 95, 96, 97, 98, 99, 100, 101, 102, 103, 104] dt dt := Fr_refl
  refine go_toq PM267 (k := 5) (pc' := 1226) (L' := [some (.inr (.inr (some 3000))), some (.inr (.inr (some 0))), some (.inr (.inr (some 79))), some (.inl i)]) (st' := [.inl (i + 1), .inr (.inr (some 3000)), .inr (.inr (some 0))]) (w' := (SH, dt)) rfl ?_
  have r1 := i32_R (xs ((i + 1).toNat))
  refine go_smpq PM267 (L' := [some (.inr (.inr (some 3000))), some (.inr (.inr (some 0))), some (.inr (.inr (some 79))), some (.inl i)]) (st' := [.inl ((xs ((i + 1).toNat)).toInt), .inr (.inr (some 0))]) (w' := (SH, dt)) rfl rfl (s_iald (n := L) (f := fun j => (xs j).toInt) (am_scr hLL) ⟨by omega, by omega⟩) ?_
  refine go_toq PM267 (k := 4) (pc' := 1231) (L' := [some (.inr (.inr (some 3000))), some (.inr (.inr (some 0))), some (.inr (.inr (some 79))), some (.inl i)]) (st' := [.inl (i + 2), .inr (.inr (some 3000)), .inl ((xs ((i + 1).toNat)).toInt), .inr (.inr (some 0))]) (w' := (SH, dt)) rfl ?_
  have r2 := i32_R (xs ((i + 2).toNat))
  refine go_smpq PM267 (L' := [some (.inr (.inr (some 3000))), some (.inr (.inr (some 0))), some (.inr (.inr (some 79))), some (.inl i)]) (st' := [.inl ((xs ((i + 2).toNat)).toInt), .inl ((xs ((i + 1).toNat)).toInt), .inr (.inr (some 0))]) (w' := (SH, dt)) rfl rfl (s_iald (n := L) (f := fun j => (xs j).toInt) (am_scr hLL) ⟨by omega, by omega⟩) ?_
  refine go_callq PM267 PM94 (Q' := _) rfl rfl rfl rfl (sp_X5_sorts L xs sio (d + 33) dt hI  ((xs ((i + 1).toNat)).toInt) ⟨by omega, by omega⟩ ((xs ((i + 2).toNat)).toInt) ⟨by omega, by omega⟩ ) ?_
  rintro _ _ ⟨dt4, rfl, hI5, hF6, h3⟩
  refine ⟨rfl, ?_⟩
  have hF7 : Fr [0, 1, 2, 3, 4, 5, 6, 7, 8, 9, 10, 11, 12, 13, 14, 15, 16, 17, 18, 19, 20, 21, 22, 23, 24, 25, 26, 27, 28, 29, 30, 31, 32, 33, 34, 35, 36, 37, 38, 39, 40, 41, 42, 43, 44, 45, 46, 47, 48, 49, 50, 51, 52, 53, 54, 55, 56, 57, 58, 59, 60, 61, 62, 63, 64, 65, 66, 67, 68, 69, 70, 71, 72, 73, 74, 75, 76, 77, 78, 79, 80, 81, 82, 83, 84, 85, 86, 87, 88, 89, 90, 91, 92, 93, 94, 95, 96, 97, 98, 99, 100, 101, 102, 103, 104] dt dt4 := Fr_tr hF hF6 (by decide)
  have hM8 : MW (dt4 80) := MW_fr hM hF6 (by decide)
  have w9 : dt4 1 0 = dt 1 0 := hF6 1 (by decide) 0
  have w10 : dt4 7 3 = dt 7 3 := hF6 7 (by decide) 3
  have w11 : dt4 10 3 = dt 10 3 := hF6 10 (by decide) 3
  have w12 : dt4 12 3 = dt 12 3 := hF6 12 (by decide) 3
  have w13 : dt4 14 3 = dt 14 3 := hF6 14 (by decide) 3
  have w14 : dt4 16 3 = dt 16 3 := hF6 16 (by decide) 3
  have w15 : dt4 18 0 = dt 18 0 := hF6 18 (by decide) 0
  have w16 : dt4 24 3 = dt 24 3 := hF6 24 (by decide) 3
  have w17 : dt4 27 3 = dt 27 3 := hF6 27 (by decide) 3
  have w18 : dt4 29 3 = dt 29 3 := hF6 29 (by decide) 3
  have w19 : dt4 31 3 = dt 31 3 := hF6 31 (by decide) 3
  have w20 : dt4 33 3 = dt 33 3 := hF6 33 (by decide) 3
  have w21 : dt4 0 2 = dt 0 2 := hF6 0 (by decide) 2
  have w22 : dt4 35 1 = dt 35 1 := hF6 35 (by decide) 1
  have w23 : dt4 35 2 = dt 35 2 := hF6 35 (by decide) 2
  have w24 : dt4 35 3 = dt 35 3 := hF6 35 (by decide) 3
  have w25 : dt4 80 0 = dt 80 0 := hF6 80 (by decide) 0
  have w26 : dt4 80 1 = dt 80 1 := hF6 80 (by decide) 1
  have w27 : dt4 80 2 = dt 80 2 := hF6 80 (by decide) 2
  have w28 : dt4 80 3 = dt 80 3 := hF6 80 (by decide) 3
  have w29 : dt4 80 4 = dt 80 4 := hF6 80 (by decide) 4
  have w30 : dt4 80 5 = dt 80 5 := hF6 80 (by decide) 5
  have w31 : dt4 81 0 = dt 81 0 := hF6 81 (by decide) 0
  have w32 : dt4 81 1 = dt 81 1 := hF6 81 (by decide) 1
  have w33 : dt4 81 2 = dt 81 2 := hF6 81 (by decide) 2
  have w34 : dt4 81 3 = dt 81 3 := hF6 81 (by decide) 3
  have w35 : dt4 81 4 = dt 81 4 := hF6 81 (by decide) 4
  have w36 : dt4 81 5 = dt 81 5 := hF6 81 (by decide) 5
  have w37 : dt4 79 2 = dt 79 2 := hF6 79 (by decide) 2
  have w38 : dt4 79 12 = dt 79 12 := hF6 79 (by decide) 12
  have w39 : dt4 79 19 = dt 79 19 := hF6 79 (by decide) 19
  have w40 : dt4 79 21 = dt 79 21 := hF6 79 (by decide) 21
  rcases h3 with ⟨v_h3, rfl, h3r, h3⟩
  have M241 : MW (dt4 81) := MW_frk hM2 hF6 (by decide)
  have C42 : ∀ j : Nat, dt4 2 j = dt 2 j := fun j => (hF6 2 (by decide) j).trans ((fun _ => rfl) j)
  have C43 : ∀ j : Nat, dt4 3 j = dt 3 j := fun j => (hF6 3 (by decide) j).trans ((fun _ => rfl) j)
  have C44 : ∀ j : Nat, dt4 19 j = dt 19 j := fun j => (hF6 19 (by decide) j).trans ((fun _ => rfl) j)
  have C45 : ∀ j : Nat, dt4 20 j = dt 20 j := fun j => (hF6 20 (by decide) j).trans ((fun _ => rfl) j)
  have C46 : ∀ j : Nat, dt4 36 j = dt 36 j := fun j => (hF6 36 (by decide) j).trans ((fun _ => rfl) j)
  have C47 : ∀ j : Nat, dt4 80 j = dt 80 j := fun j => (hF6 80 (by decide) j).trans ((fun _ => rfl) j)
  have C48 : ∀ j : Nat, dt4 81 j = dt 81 j := fun j => (hF6 81 (by decide) j).trans ((fun _ => rfl) j)
  have C49 : ∀ j : Nat, dt4 85 j = dt 85 j := fun j => (hF6 85 (by decide) j).trans ((fun _ => rfl) j)
  refine go_toq PM267 (k := 6) (pc' := 1241) (L' := [some (.inr (.inr (some 3000))), some (.inr (.inr (some 0))), some (.inr (.inr (some 79))), some (.inl i)]) (st' := [.inl (i + 1), .inr (.inr (some 3000)), .inr (.inr (some 79))]) (w' := (SH, dt4)) rfl ?_
  have r50 := i32_R (xs ((i + 1).toNat))
  refine go_smpq PM267 (L' := [some (.inr (.inr (some 3000))), some (.inr (.inr (some 0))), some (.inr (.inr (some 79))), some (.inl i)]) (st' := [.inl ((xs ((i + 1).toNat)).toInt), .inr (.inr (some 79))]) (w' := (SH, dt4)) rfl rfl (s_iald (n := L) (f := fun j => (xs j).toInt) (am_scr hLL) ⟨by omega, by omega⟩) ?_
  refine go_toq PM267 (k := 4) (pc' := 1246) (L' := [some (.inr (.inr (some 3000))), some (.inr (.inr (some 0))), some (.inr (.inr (some 79))), some (.inl i)]) (st' := [.inl (i + 2), .inr (.inr (some 3000)), .inl ((xs ((i + 1).toNat)).toInt), .inr (.inr (some 79))]) (w' := (SH, dt4)) rfl ?_
  have r51 := i32_R (xs ((i + 2).toNat))
  refine go_smpq PM267 (L' := [some (.inr (.inr (some 3000))), some (.inr (.inr (some 0))), some (.inr (.inr (some 79))), some (.inl i)]) (st' := [.inl ((xs ((i + 2).toNat)).toInt), .inl ((xs ((i + 1).toNat)).toInt), .inr (.inr (some 79))]) (w' := (SH, dt4)) rfl rfl (s_iald (n := L) (f := fun j => (xs j).toInt) (am_scr hLL) ⟨by omega, by omega⟩) ?_
  refine go_callq PM267 PM240 (Q' := _) rfl rfl rfl rfl (sp_X6_sorts L xs sio (d + 31) dt4 hI5 hM8  ((xs ((i + 1).toNat)).toInt) ⟨by omega, by omega⟩ ((xs ((i + 2).toNat)).toInt) ⟨by omega, by omega⟩ ) ?_
  rintro _ _ ⟨dt53, rfl, hI54, hF55, h52⟩
  refine ⟨rfl, ?_⟩
  have hF56 : Fr [0, 1, 2, 3, 4, 5, 6, 7, 8, 9, 10, 11, 12, 13, 14, 15, 16, 17, 18, 19, 20, 21, 22, 23, 24, 25, 26, 27, 28, 29, 30, 31, 32, 33, 34, 35, 36, 37, 38, 39, 40, 41, 42, 43, 44, 45, 46, 47, 48, 49, 50, 51, 52, 53, 54, 55, 56, 57, 58, 59, 60, 61, 62, 63, 64, 65, 66, 67, 68, 69, 70, 71, 72, 73, 74, 75, 76, 77, 78, 79, 80, 81, 82, 83, 84, 85, 86, 87, 88, 89, 90, 91, 92, 93, 94, 95, 96, 97, 98, 99, 100, 101, 102, 103, 104] dt dt53 := Fr_tr hF7 hF55 (by decide)
  have hM57 : MW (dt53 80) := MW_fr hM8 hF55 (by decide)
  have w58 : dt53 1 0 = dt4 1 0 := hF55 1 (by decide) 0
  have w59 : dt53 7 3 = dt4 7 3 := hF55 7 (by decide) 3
  have w60 : dt53 10 3 = dt4 10 3 := hF55 10 (by decide) 3
  have w61 : dt53 12 3 = dt4 12 3 := hF55 12 (by decide) 3
  have w62 : dt53 14 3 = dt4 14 3 := hF55 14 (by decide) 3
  have w63 : dt53 16 3 = dt4 16 3 := hF55 16 (by decide) 3
  have w64 : dt53 18 0 = dt4 18 0 := hF55 18 (by decide) 0
  have w65 : dt53 24 3 = dt4 24 3 := hF55 24 (by decide) 3
  have w66 : dt53 27 3 = dt4 27 3 := hF55 27 (by decide) 3
  have w67 : dt53 29 3 = dt4 29 3 := hF55 29 (by decide) 3
  have w68 : dt53 31 3 = dt4 31 3 := hF55 31 (by decide) 3
  have w69 : dt53 33 3 = dt4 33 3 := hF55 33 (by decide) 3
  have w70 : dt53 0 2 = dt4 0 2 := hF55 0 (by decide) 2
  have w71 : dt53 35 1 = dt4 35 1 := hF55 35 (by decide) 1
  have w72 : dt53 35 2 = dt4 35 2 := hF55 35 (by decide) 2
  have w73 : dt53 35 3 = dt4 35 3 := hF55 35 (by decide) 3
  have w74 : dt53 80 0 = dt4 80 0 := hF55 80 (by decide) 0
  have w75 : dt53 80 1 = dt4 80 1 := hF55 80 (by decide) 1
  have w76 : dt53 80 2 = dt4 80 2 := hF55 80 (by decide) 2
  have w77 : dt53 80 3 = dt4 80 3 := hF55 80 (by decide) 3
  have w78 : dt53 80 4 = dt4 80 4 := hF55 80 (by decide) 4
  have w79 : dt53 80 5 = dt4 80 5 := hF55 80 (by decide) 5
  have w80 : dt53 81 0 = dt4 81 0 := hF55 81 (by decide) 0
  have w81 : dt53 81 1 = dt4 81 1 := hF55 81 (by decide) 1
  have w82 : dt53 81 2 = dt4 81 2 := hF55 81 (by decide) 2
  have w83 : dt53 81 3 = dt4 81 3 := hF55 81 (by decide) 3
  have w84 : dt53 81 4 = dt4 81 4 := hF55 81 (by decide) 4
  have w85 : dt53 81 5 = dt4 81 5 := hF55 81 (by decide) 5
  have w86 : dt53 79 2 = dt4 79 2 := hF55 79 (by decide) 2
  have w87 : dt53 79 12 = dt4 79 12 := hF55 79 (by decide) 12
  have w88 : dt53 79 19 = dt4 79 19 := hF55 79 (by decide) 19
  have w89 : dt53 79 21 = dt4 79 21 := hF55 79 (by decide) 21
  rcases h52 with ⟨v_h52, rfl, h52r, h52⟩
  have M290 : MW (dt53 81) := MW_frk M241 hF55 (by decide)
  have C91 : ∀ j : Nat, dt53 2 j = dt 2 j := fun j => (hF55 2 (by decide) j).trans (C42 j)
  have C92 : ∀ j : Nat, dt53 3 j = dt 3 j := fun j => (hF55 3 (by decide) j).trans (C43 j)
  have C93 : ∀ j : Nat, dt53 19 j = dt 19 j := fun j => (hF55 19 (by decide) j).trans (C44 j)
  have C94 : ∀ j : Nat, dt53 20 j = dt 20 j := fun j => (hF55 20 (by decide) j).trans (C45 j)
  have C95 : ∀ j : Nat, dt53 36 j = dt 36 j := fun j => (hF55 36 (by decide) j).trans (C46 j)
  have C96 : ∀ j : Nat, dt53 80 j = dt 80 j := fun j => (hF55 80 (by decide) j).trans (C47 j)
  have C97 : ∀ j : Nat, dt53 81 j = dt 81 j := fun j => (hF55 81 (by decide) j).trans (C48 j)
  have C98 : ∀ j : Nat, dt53 85 j = dt 85 j := fun j => (hF55 85 (by decide) j).trans (C49 j)
  refine go_toq PM267 (k := 2) (pc' := 1435) (L' := [some (.inr (.inr (some 3000))), some (.inr (.inr (some 0))), some (.inr (.inr (some 79))), some (.inl i)]) (st' := []) (w' := (SH, dt53)) rfl ?_
  exact K dt53 hI54 hM57 M290 (by first | omega | (simp only [*]; done) | simp only [*]) (by omega) (by omega) (by omega) (by omega) (by omega) (by omega) (by omega) (by omega) (by omega) (by omega) (by omega) (by omega) (by omega) (by omega) (by omega) (by first | exact hI | exact TPL_k hd0 C95 C98 (by omega) | (exfalso; omega)) (by first | exact hI | exact SCL_k hd1 hM (fun j _ => C91 j) (fun j _ => C92 j) (fun j _ _ => C96 j) | (exfalso; omega)) (by first | exact hI | exact SCL_k hd2 hM2 (fun j _ => C93 j) (fun j _ => C94 j) (fun j _ _ => C97 j) | (exfalso; omega))
set_option maxRecDepth 20000 in
set_option maxHeartbeats 8000000 in
theorem sp_case28 (L : Nat) (xs : Nat → Int32) (sio : Option Nat) (d : Nat) (Q : Option AV → am_W → Prop) (hLL : L ≤ 3072) (i : Int) (hi : 0 ≤ i ∧ i ≤ 3066) (hil : i ≤ (L : Int) - 6) (dt : Nat → Nat → Int) (hI : InvC dt) (hM : MW (dt 80)) (hM2 : MW (dt 81)) (hk0 : dt 1 0 = dt 80 0) (hk1 : dt 7 3 = dt 80 1) (hk2 : dt 10 3 = dt 80 2) (hk3 : dt 12 3 = dt 80 3) (hk4 : dt 14 3 = dt 80 4) (hk5 : dt 16 3 = dt 80 5) (hk6 : dt 18 0 = dt 81 0) (hk7 : dt 24 3 = dt 81 1) (hk8 : dt 27 3 = dt 81 2) (hk9 : dt 29 3 = dt 81 3) (hk10 : dt 31 3 = dt 81 4) (hk11 : dt 33 3 = dt 81 5) (hk12 : dt 0 2 = dt 79 2) (hk13 : dt 35 1 = dt 79 12) (hk14 : dt 35 2 = dt 79 19) (hk15 : dt 35 3 = dt 79 21) (hd0 : TPL (dt 36) (dt 85) (dt 35 1)) (hd1 : SCL (dt 2) (dt 3) (dt 80)) (hd2 : SCL (dt 19) (dt 20) (dt 81)) (K : ∀ (dt : Nat → Nat → Int) (hI : InvC dt) (hM : MW (dt 80)) (hM2 : MW (dt 81)) (hk0 : dt 1 0 = dt 80 0) (hk1 : dt 7 3 = dt 80 1) (hk2 : dt 10 3 = dt 80 2) (hk3 : dt 12 3 = dt 80 3) (hk4 : dt 14 3 = dt 80 4) (hk5 : dt 16 3 = dt 80 5) (hk6 : dt 18 0 = dt 81 0) (hk7 : dt 24 3 = dt 81 1) (hk8 : dt 27 3 = dt 81 2) (hk9 : dt 29 3 = dt 81 3) (hk10 : dt 31 3 = dt 81 4) (hk11 : dt 33 3 = dt 81 5) (hk12 : dt 0 2 = dt 79 2) (hk13 : dt 35 1 = dt 79 12) (hk14 : dt 35 2 = dt 79 19) (hk15 : dt 35 3 = dt 79 21) (hd0 : TPL (dt 36) (dt 85) (dt 35 1)) (hd1 : SCL (dt 2) (dt 3) (dt 80)) (hd2 : SCL (dt 19) (dt 20) (dt 81)), GO (am_XX L xs sio) (d + 39) 267 1435 [some (.inr (.inr (some 3000))), some (.inr (.inr (some 0))), some (.inr (.inr (some 79))), some (.inl i)] [] (SH, dt) Q) : GO (am_XX L xs sio) (d + 39) 267 1254 [some (.inr (.inr (some 3000))), some (.inr (.inr (some 0))), some (.inr (.inr (some 79))), some (.inl i)] [] (SH, dt) Q := by
  have hF : Fr [0, 1, 2, 3, 4, 5, 6, 7, 8, 9, 10, 11, 12, 13, 14, 15, 16, 17, 18, 19, 20, 21, 22, 23, 24, 25, 26, 27, 28, 29, 30, 31, 32, 33, 34, 35, 36, 37, 38, 39, 40, 41, 42, 43, 44, 45, 46, 47, 48, 49, 50, 51, 52, 53, 54, 55, 56, 57, 58, 59, 60, 61, 62, 63, 64, 65, 66, 67, 68, 69, 70, 71, 72, 73, 74, 75, 76, 77, 78, 79, 80, 81, 82, 83, 84, 85, 86, 87, 88, 89, 90, 91, 92, 93, 94, 95, 96, 97, 98, 99, 100, 101, 102, 103, 104] dt dt := Fr_refl
  refine go_toq PM267 (k := 5) (pc' := 1259) (L' := [some (.inr (.inr (some 3000))), some (.inr (.inr (some 0))), some (.inr (.inr (some 79))), some (.inl i)]) (st' := [.inl (i + 1), .inr (.inr (some 3000)), .inr (.inr (some 0))]) (w' := (SH, dt)) rfl ?_
  have r1 := i32_R (xs ((i + 1).toNat))
  refine go_smpq PM267 (L' := [some (.inr (.inr (some 3000))), some (.inr (.inr (some 0))), some (.inr (.inr (some 79))), some (.inl i)]) (st' := [.inl ((xs ((i + 1).toNat)).toInt), .inr (.inr (some 0))]) (w' := (SH, dt)) rfl rfl (s_iald (n := L) (f := fun j => (xs j).toInt) (am_scr hLL) ⟨by omega, by omega⟩) ?_
  refine go_toq PM267 (k := 4) (pc' := 1264) (L' := [some (.inr (.inr (some 3000))), some (.inr (.inr (some 0))), some (.inr (.inr (some 79))), some (.inl i)]) (st' := [.inl (i + 2), .inr (.inr (some 3000)), .inl ((xs ((i + 1).toNat)).toInt), .inr (.inr (some 0))]) (w' := (SH, dt)) rfl ?_
  have r2 := i32_R (xs ((i + 2).toNat))
  refine go_smpq PM267 (L' := [some (.inr (.inr (some 3000))), some (.inr (.inr (some 0))), some (.inr (.inr (some 79))), some (.inl i)]) (st' := [.inl ((xs ((i + 2).toNat)).toInt), .inl ((xs ((i + 1).toNat)).toInt), .inr (.inr (some 0))]) (w' := (SH, dt)) rfl rfl (s_iald (n := L) (f := fun j => (xs j).toInt) (am_scr hLL) ⟨by omega, by omega⟩) ?_
  refine go_callq PM267 PM95 (Q' := _) rfl rfl rfl rfl (sp_X5_curve L xs sio (d + 33) dt hI  ((xs ((i + 1).toNat)).toInt) ⟨by omega, by omega⟩ ((xs ((i + 2).toNat)).toInt) ⟨by omega, by omega⟩ ) ?_
  rintro _ _ ⟨dt4, rfl, hI5, hF6, h3⟩
  refine ⟨rfl, ?_⟩
  have hF7 : Fr [0, 1, 2, 3, 4, 5, 6, 7, 8, 9, 10, 11, 12, 13, 14, 15, 16, 17, 18, 19, 20, 21, 22, 23, 24, 25, 26, 27, 28, 29, 30, 31, 32, 33, 34, 35, 36, 37, 38, 39, 40, 41, 42, 43, 44, 45, 46, 47, 48, 49, 50, 51, 52, 53, 54, 55, 56, 57, 58, 59, 60, 61, 62, 63, 64, 65, 66, 67, 68, 69, 70, 71, 72, 73, 74, 75, 76, 77, 78, 79, 80, 81, 82, 83, 84, 85, 86, 87, 88, 89, 90, 91, 92, 93, 94, 95, 96, 97, 98, 99, 100, 101, 102, 103, 104] dt dt4 := Fr_tr hF hF6 (by decide)
  have hM8 : MW (dt4 80) := MW_fr hM hF6 (by decide)
  have w9 : dt4 1 0 = dt 1 0 := hF6 1 (by decide) 0
  have w10 : dt4 7 3 = dt 7 3 := hF6 7 (by decide) 3
  have w11 : dt4 10 3 = dt 10 3 := hF6 10 (by decide) 3
  have w12 : dt4 12 3 = dt 12 3 := hF6 12 (by decide) 3
  have w13 : dt4 14 3 = dt 14 3 := hF6 14 (by decide) 3
  have w14 : dt4 16 3 = dt 16 3 := hF6 16 (by decide) 3
  have w15 : dt4 18 0 = dt 18 0 := hF6 18 (by decide) 0
  have w16 : dt4 24 3 = dt 24 3 := hF6 24 (by decide) 3
  have w17 : dt4 27 3 = dt 27 3 := hF6 27 (by decide) 3
  have w18 : dt4 29 3 = dt 29 3 := hF6 29 (by decide) 3
  have w19 : dt4 31 3 = dt 31 3 := hF6 31 (by decide) 3
  have w20 : dt4 33 3 = dt 33 3 := hF6 33 (by decide) 3
  have w21 : dt4 0 2 = dt 0 2 := hF6 0 (by decide) 2
  have w22 : dt4 35 1 = dt 35 1 := hF6 35 (by decide) 1
  have w23 : dt4 35 2 = dt 35 2 := hF6 35 (by decide) 2
  have w24 : dt4 35 3 = dt 35 3 := hF6 35 (by decide) 3
  have w25 : dt4 80 0 = dt 80 0 := hF6 80 (by decide) 0
  have w26 : dt4 80 1 = dt 80 1 := hF6 80 (by decide) 1
  have w27 : dt4 80 2 = dt 80 2 := hF6 80 (by decide) 2
  have w28 : dt4 80 3 = dt 80 3 := hF6 80 (by decide) 3
  have w29 : dt4 80 4 = dt 80 4 := hF6 80 (by decide) 4
  have w30 : dt4 80 5 = dt 80 5 := hF6 80 (by decide) 5
  have w31 : dt4 81 0 = dt 81 0 := hF6 81 (by decide) 0
  have w32 : dt4 81 1 = dt 81 1 := hF6 81 (by decide) 1
  have w33 : dt4 81 2 = dt 81 2 := hF6 81 (by decide) 2
  have w34 : dt4 81 3 = dt 81 3 := hF6 81 (by decide) 3
  have w35 : dt4 81 4 = dt 81 4 := hF6 81 (by decide) 4
  have w36 : dt4 81 5 = dt 81 5 := hF6 81 (by decide) 5
  have w37 : dt4 79 2 = dt 79 2 := hF6 79 (by decide) 2
  have w38 : dt4 79 12 = dt 79 12 := hF6 79 (by decide) 12
  have w39 : dt4 79 19 = dt 79 19 := hF6 79 (by decide) 19
  have w40 : dt4 79 21 = dt 79 21 := hF6 79 (by decide) 21
  rcases h3 with ⟨v_h3, rfl, h3r, h3⟩
  have M241 : MW (dt4 81) := MW_frk hM2 hF6 (by decide)
  have C42 : ∀ j : Nat, dt4 2 j = dt 2 j := fun j => (hF6 2 (by decide) j).trans ((fun _ => rfl) j)
  have C43 : ∀ j : Nat, dt4 3 j = dt 3 j := fun j => (hF6 3 (by decide) j).trans ((fun _ => rfl) j)
  have C44 : ∀ j : Nat, dt4 19 j = dt 19 j := fun j => (hF6 19 (by decide) j).trans ((fun _ => rfl) j)
  have C45 : ∀ j : Nat, dt4 20 j = dt 20 j := fun j => (hF6 20 (by decide) j).trans ((fun _ => rfl) j)
  have C46 : ∀ j : Nat, dt4 36 j = dt 36 j := fun j => (hF6 36 (by decide) j).trans ((fun _ => rfl) j)
  have C47 : ∀ j : Nat, dt4 80 j = dt 80 j := fun j => (hF6 80 (by decide) j).trans ((fun _ => rfl) j)
  have C48 : ∀ j : Nat, dt4 81 j = dt 81 j := fun j => (hF6 81 (by decide) j).trans ((fun _ => rfl) j)
  have C49 : ∀ j : Nat, dt4 85 j = dt 85 j := fun j => (hF6 85 (by decide) j).trans ((fun _ => rfl) j)
  refine go_toq PM267 (k := 6) (pc' := 1274) (L' := [some (.inr (.inr (some 3000))), some (.inr (.inr (some 0))), some (.inr (.inr (some 79))), some (.inl i)]) (st' := [.inl (i + 1), .inr (.inr (some 3000)), .inr (.inr (some 79))]) (w' := (SH, dt4)) rfl ?_
  have r50 := i32_R (xs ((i + 1).toNat))
  refine go_smpq PM267 (L' := [some (.inr (.inr (some 3000))), some (.inr (.inr (some 0))), some (.inr (.inr (some 79))), some (.inl i)]) (st' := [.inl ((xs ((i + 1).toNat)).toInt), .inr (.inr (some 79))]) (w' := (SH, dt4)) rfl rfl (s_iald (n := L) (f := fun j => (xs j).toInt) (am_scr hLL) ⟨by omega, by omega⟩) ?_
  refine go_toq PM267 (k := 4) (pc' := 1279) (L' := [some (.inr (.inr (some 3000))), some (.inr (.inr (some 0))), some (.inr (.inr (some 79))), some (.inl i)]) (st' := [.inl (i + 2), .inr (.inr (some 3000)), .inl ((xs ((i + 1).toNat)).toInt), .inr (.inr (some 79))]) (w' := (SH, dt4)) rfl ?_
  have r51 := i32_R (xs ((i + 2).toNat))
  refine go_smpq PM267 (L' := [some (.inr (.inr (some 3000))), some (.inr (.inr (some 0))), some (.inr (.inr (some 79))), some (.inl i)]) (st' := [.inl ((xs ((i + 2).toNat)).toInt), .inl ((xs ((i + 1).toNat)).toInt), .inr (.inr (some 79))]) (w' := (SH, dt4)) rfl rfl (s_iald (n := L) (f := fun j => (xs j).toInt) (am_scr hLL) ⟨by omega, by omega⟩) ?_
  refine go_callq PM267 PM242 (Q' := _) rfl rfl rfl rfl (sp_X6_curve_k L xs sio (d + 30) dt4 hI5 hM8  ((xs ((i + 1).toNat)).toInt) ⟨by omega, by omega⟩ ((xs ((i + 2).toNat)).toInt) ⟨by omega, by omega⟩ ) ?_
  rintro _ _ ⟨dt53, rfl, hI54, hF55, h52⟩
  refine ⟨rfl, ?_⟩
  have hF56 : Fr [0, 1, 2, 3, 4, 5, 6, 7, 8, 9, 10, 11, 12, 13, 14, 15, 16, 17, 18, 19, 20, 21, 22, 23, 24, 25, 26, 27, 28, 29, 30, 31, 32, 33, 34, 35, 36, 37, 38, 39, 40, 41, 42, 43, 44, 45, 46, 47, 48, 49, 50, 51, 52, 53, 54, 55, 56, 57, 58, 59, 60, 61, 62, 63, 64, 65, 66, 67, 68, 69, 70, 71, 72, 73, 74, 75, 76, 77, 78, 79, 80, 81, 82, 83, 84, 85, 86, 87, 88, 89, 90, 91, 92, 93, 94, 95, 96, 97, 98, 99, 100, 101, 102, 103, 104] dt dt53 := Fr_tr hF7 hF55 (by decide)
  have hM57 : MW (dt53 80) := MW_fr hM8 hF55 (by decide)
  have w58 : dt53 1 0 = dt4 1 0 := hF55 1 (by decide) 0
  have w59 : dt53 7 3 = dt4 7 3 := hF55 7 (by decide) 3
  have w60 : dt53 10 3 = dt4 10 3 := hF55 10 (by decide) 3
  have w61 : dt53 12 3 = dt4 12 3 := hF55 12 (by decide) 3
  have w62 : dt53 14 3 = dt4 14 3 := hF55 14 (by decide) 3
  have w63 : dt53 16 3 = dt4 16 3 := hF55 16 (by decide) 3
  have w64 : dt53 18 0 = dt4 18 0 := hF55 18 (by decide) 0
  have w65 : dt53 24 3 = dt4 24 3 := hF55 24 (by decide) 3
  have w66 : dt53 27 3 = dt4 27 3 := hF55 27 (by decide) 3
  have w67 : dt53 29 3 = dt4 29 3 := hF55 29 (by decide) 3
  have w68 : dt53 31 3 = dt4 31 3 := hF55 31 (by decide) 3
  have w69 : dt53 33 3 = dt4 33 3 := hF55 33 (by decide) 3
  have w70 : dt53 0 2 = dt4 0 2 := hF55 0 (by decide) 2
  have w71 : dt53 35 1 = dt4 35 1 := hF55 35 (by decide) 1
  have w72 : dt53 35 2 = dt4 35 2 := hF55 35 (by decide) 2
  have w73 : dt53 35 3 = dt4 35 3 := hF55 35 (by decide) 3
  have w74 : dt53 80 0 = dt4 80 0 := hF55 80 (by decide) 0
  have w75 : dt53 80 1 = dt4 80 1 := hF55 80 (by decide) 1
  have w76 : dt53 80 2 = dt4 80 2 := hF55 80 (by decide) 2
  have w77 : dt53 80 3 = dt4 80 3 := hF55 80 (by decide) 3
  have w78 : dt53 80 4 = dt4 80 4 := hF55 80 (by decide) 4
  have w79 : dt53 80 5 = dt4 80 5 := hF55 80 (by decide) 5
  have w80 : dt53 81 0 = dt4 81 0 := hF55 81 (by decide) 0
  have w81 : dt53 81 1 = dt4 81 1 := hF55 81 (by decide) 1
  have w82 : dt53 81 2 = dt4 81 2 := hF55 81 (by decide) 2
  have w83 : dt53 81 3 = dt4 81 3 := hF55 81 (by decide) 3
  have w84 : dt53 81 4 = dt4 81 4 := hF55 81 (by decide) 4
  have w85 : dt53 81 5 = dt4 81 5 := hF55 81 (by decide) 5
  rcases h52 with ⟨v_h52, rfl, h52r, h52⟩
  obtain ⟨h52_0, h52_1, h52_2, h52_3⟩ := h52
  have M286 : MW (dt53 81) := MW_frk M241 hF55 (by decide)
  have C87 : ∀ j : Nat, dt53 2 j = dt 2 j := fun j => (hF55 2 (by decide) j).trans (C42 j)
  have C88 : ∀ j : Nat, dt53 3 j = dt 3 j := fun j => (hF55 3 (by decide) j).trans (C43 j)
  have C89 : ∀ j : Nat, dt53 19 j = dt 19 j := fun j => (hF55 19 (by decide) j).trans (C44 j)
  have C90 : ∀ j : Nat, dt53 20 j = dt 20 j := fun j => (hF55 20 (by decide) j).trans (C45 j)
  have C91 : ∀ j : Nat, dt53 36 j = dt 36 j := fun j => (hF55 36 (by decide) j).trans (C46 j)
  have C92 : ∀ j : Nat, dt53 80 j = dt 80 j := fun j => (hF55 80 (by decide) j).trans (C47 j)
  have C93 : ∀ j : Nat, dt53 81 j = dt 81 j := fun j => (hF55 81 (by decide) j).trans (C48 j)
  have C94 : ∀ j : Nat, dt53 85 j = dt 85 j := fun j => (hF55 85 (by decide) j).trans (C49 j)
  refine go_toq PM267 (k := 2) (pc' := 1435) (L' := [some (.inr (.inr (some 3000))), some (.inr (.inr (some 0))), some (.inr (.inr (some 79))), some (.inl i)]) (st' := []) (w' := (SH, dt53)) rfl ?_
  exact K dt53 hI54 hM57 M286 (by first | omega | (simp only [*]; done) | simp only [*]) (by omega) (by omega) (by omega) (by omega) (by omega) (by omega) (by omega) (by omega) (by omega) (by omega) (by omega) (by omega) (by omega) (by omega) (by omega) (by first | exact hI | exact TPL_k hd0 C91 C94 (by omega) | (exfalso; omega)) (by first | exact hI | exact SCL_k hd1 hM (fun j _ => C87 j) (fun j _ => C88 j) (fun j _ _ => C92 j) | (exfalso; omega)) (by first | exact hI | exact SCL_k hd2 hM2 (fun j _ => C89 j) (fun j _ => C90 j) (fun j _ _ => C93 j) | (exfalso; omega))
set_option maxRecDepth 20000 in
set_option maxHeartbeats 8000000 in
theorem sp_case29 (L : Nat) (xs : Nat → Int32) (sio : Option Nat) (d : Nat) (Q : Option AV → am_W → Prop) (hLL : L ≤ 3072) (i : Int) (hi : 0 ≤ i ∧ i ≤ 3066) (hil : i ≤ (L : Int) - 6) (dt : Nat → Nat → Int) (hI : InvC dt) (hM : MW (dt 80)) (hM2 : MW (dt 81)) (hk0 : dt 1 0 = dt 80 0) (hk1 : dt 7 3 = dt 80 1) (hk2 : dt 10 3 = dt 80 2) (hk3 : dt 12 3 = dt 80 3) (hk4 : dt 14 3 = dt 80 4) (hk5 : dt 16 3 = dt 80 5) (hk6 : dt 18 0 = dt 81 0) (hk7 : dt 24 3 = dt 81 1) (hk8 : dt 27 3 = dt 81 2) (hk9 : dt 29 3 = dt 81 3) (hk10 : dt 31 3 = dt 81 4) (hk11 : dt 33 3 = dt 81 5) (hk12 : dt 0 2 = dt 79 2) (hk13 : dt 35 1 = dt 79 12) (hk14 : dt 35 2 = dt 79 19) (hk15 : dt 35 3 = dt 79 21) (hd0 : TPL (dt 36) (dt 85) (dt 35 1)) (hd1 : SCL (dt 2) (dt 3) (dt 80)) (hd2 : SCL (dt 19) (dt 20) (dt 81)) (K : ∀ (dt : Nat → Nat → Int) (hI : InvC dt) (hM : MW (dt 80)) (hM2 : MW (dt 81)) (hk0 : dt 1 0 = dt 80 0) (hk1 : dt 7 3 = dt 80 1) (hk2 : dt 10 3 = dt 80 2) (hk3 : dt 12 3 = dt 80 3) (hk4 : dt 14 3 = dt 80 4) (hk5 : dt 16 3 = dt 80 5) (hk6 : dt 18 0 = dt 81 0) (hk7 : dt 24 3 = dt 81 1) (hk8 : dt 27 3 = dt 81 2) (hk9 : dt 29 3 = dt 81 3) (hk10 : dt 31 3 = dt 81 4) (hk11 : dt 33 3 = dt 81 5) (hk12 : dt 0 2 = dt 79 2) (hk13 : dt 35 1 = dt 79 12) (hk14 : dt 35 2 = dt 79 19) (hk15 : dt 35 3 = dt 79 21) (hd0 : TPL (dt 36) (dt 85) (dt 35 1)) (hd1 : SCL (dt 2) (dt 3) (dt 80)) (hd2 : SCL (dt 19) (dt 20) (dt 81)), GO (am_XX L xs sio) (d + 39) 267 1435 [some (.inr (.inr (some 3000))), some (.inr (.inr (some 0))), some (.inr (.inr (some 79))), some (.inl i)] [] (SH, dt) Q) : GO (am_XX L xs sio) (d + 39) 267 1287 [some (.inr (.inr (some 3000))), some (.inr (.inr (some 0))), some (.inr (.inr (some 79))), some (.inl i)] [] (SH, dt) Q := by
  have hF : Fr [0, 1, 2, 3, 4, 5, 6, 7, 8, 9, 10, 11, 12, 13, 14, 15, 16, 17, 18, 19, 20, 21, 22, 23, 24, 25, 26, 27, 28, 29, 30, 31, 32, 33, 34, 35, 36, 37, 38, 39, 40, 41, 42, 43, 44, 45, 46, 47, 48, 49, 50, 51, 52, 53, 54, 55, 56, 57, 58, 59, 60, 61, 62, 63, 64, 65, 66, 67, 68, 69, 70, 71, 72, 73, 74, 75, 76, 77, 78, 79, 80, 81, 82, 83, 84, 85, 86, 87, 88, 89, 90, 91, 92, 93, 94, 95, 96, 97, 98, 99, 100, 101, 102, 103, 104] dt dt := Fr_refl
  refine go_toq PM267 (k := 5) (pc' := 1292) (L' := [some (.inr (.inr (some 3000))), some (.inr (.inr (some 0))), some (.inr (.inr (some 79))), some (.inl i)]) (st' := [.inl (i + 1), .inr (.inr (some 3000)), .inr (.inr (some 0))]) (w' := (SH, dt)) rfl ?_
  have r1 := i32_R (xs ((i + 1).toNat))
  refine go_smpq PM267 (L' := [some (.inr (.inr (some 3000))), some (.inr (.inr (some 0))), some (.inr (.inr (some 79))), some (.inl i)]) (st' := [.inl ((xs ((i + 1).toNat)).toInt), .inr (.inr (some 0))]) (w' := (SH, dt)) rfl rfl (s_iald (n := L) (f := fun j => (xs j).toInt) (am_scr hLL) ⟨by omega, by omega⟩) ?_
  refine go_callq PM267 PM96 (Q' := _) rfl rfl rfl rfl (sp_X5_score L xs sio (d + 32) dt hI  ((xs ((i + 1).toNat)).toInt) ⟨by omega, by omega⟩ ) ?_
  rintro _ _ ⟨dt3, rfl, hI4, hF5, h2⟩
  refine ⟨rfl, ?_⟩
  have hF6 : Fr [0, 1, 2, 3, 4, 5, 6, 7, 8, 9, 10, 11, 12, 13, 14, 15, 16, 17, 18, 19, 20, 21, 22, 23, 24, 25, 26, 27, 28, 29, 30, 31, 32, 33, 34, 35, 36, 37, 38, 39, 40, 41, 42, 43, 44, 45, 46, 47, 48, 49, 50, 51, 52, 53, 54, 55, 56, 57, 58, 59, 60, 61, 62, 63, 64, 65, 66, 67, 68, 69, 70, 71, 72, 73, 74, 75, 76, 77, 78, 79, 80, 81, 82, 83, 84, 85, 86, 87, 88, 89, 90, 91, 92, 93, 94, 95, 96, 97, 98, 99, 100, 101, 102, 103, 104] dt dt3 := Fr_tr hF hF5 (by decide)
  have hM7 : MW (dt3 80) := MW_fr hM hF5 (by decide)
  have w8 : dt3 1 0 = dt 1 0 := hF5 1 (by decide) 0
  have w9 : dt3 7 3 = dt 7 3 := hF5 7 (by decide) 3
  have w10 : dt3 10 3 = dt 10 3 := hF5 10 (by decide) 3
  have w11 : dt3 12 3 = dt 12 3 := hF5 12 (by decide) 3
  have w12 : dt3 14 3 = dt 14 3 := hF5 14 (by decide) 3
  have w13 : dt3 16 3 = dt 16 3 := hF5 16 (by decide) 3
  have w14 : dt3 18 0 = dt 18 0 := hF5 18 (by decide) 0
  have w15 : dt3 24 3 = dt 24 3 := hF5 24 (by decide) 3
  have w16 : dt3 27 3 = dt 27 3 := hF5 27 (by decide) 3
  have w17 : dt3 29 3 = dt 29 3 := hF5 29 (by decide) 3
  have w18 : dt3 31 3 = dt 31 3 := hF5 31 (by decide) 3
  have w19 : dt3 33 3 = dt 33 3 := hF5 33 (by decide) 3
  have w20 : dt3 0 2 = dt 0 2 := hF5 0 (by decide) 2
  have w21 : dt3 35 1 = dt 35 1 := hF5 35 (by decide) 1
  have w22 : dt3 35 2 = dt 35 2 := hF5 35 (by decide) 2
  have w23 : dt3 35 3 = dt 35 3 := hF5 35 (by decide) 3
  have w24 : dt3 80 0 = dt 80 0 := hF5 80 (by decide) 0
  have w25 : dt3 80 1 = dt 80 1 := hF5 80 (by decide) 1
  have w26 : dt3 80 2 = dt 80 2 := hF5 80 (by decide) 2
  have w27 : dt3 80 3 = dt 80 3 := hF5 80 (by decide) 3
  have w28 : dt3 80 4 = dt 80 4 := hF5 80 (by decide) 4
  have w29 : dt3 80 5 = dt 80 5 := hF5 80 (by decide) 5
  have w30 : dt3 81 0 = dt 81 0 := hF5 81 (by decide) 0
  have w31 : dt3 81 1 = dt 81 1 := hF5 81 (by decide) 1
  have w32 : dt3 81 2 = dt 81 2 := hF5 81 (by decide) 2
  have w33 : dt3 81 3 = dt 81 3 := hF5 81 (by decide) 3
  have w34 : dt3 81 4 = dt 81 4 := hF5 81 (by decide) 4
  have w35 : dt3 81 5 = dt 81 5 := hF5 81 (by decide) 5
  have w36 : dt3 79 2 = dt 79 2 := hF5 79 (by decide) 2
  have w37 : dt3 79 12 = dt 79 12 := hF5 79 (by decide) 12
  have w38 : dt3 79 19 = dt 79 19 := hF5 79 (by decide) 19
  have w39 : dt3 79 21 = dt 79 21 := hF5 79 (by decide) 21
  rcases h2 with ⟨v_h2, rfl, h2r, h2⟩
  have M240 : MW (dt3 81) := MW_frk hM2 hF5 (by decide)
  have C41 : ∀ j : Nat, dt3 2 j = dt 2 j := fun j => (hF5 2 (by decide) j).trans ((fun _ => rfl) j)
  have C42 : ∀ j : Nat, dt3 3 j = dt 3 j := fun j => (hF5 3 (by decide) j).trans ((fun _ => rfl) j)
  have C43 : ∀ j : Nat, dt3 19 j = dt 19 j := fun j => (hF5 19 (by decide) j).trans ((fun _ => rfl) j)
  have C44 : ∀ j : Nat, dt3 20 j = dt 20 j := fun j => (hF5 20 (by decide) j).trans ((fun _ => rfl) j)
  have C45 : ∀ j : Nat, dt3 36 j = dt 36 j := fun j => (hF5 36 (by decide) j).trans ((fun _ => rfl) j)
  have C46 : ∀ j : Nat, dt3 80 j = dt 80 j := fun j => (hF5 80 (by decide) j).trans ((fun _ => rfl) j)
  have C47 : ∀ j : Nat, dt3 81 j = dt 81 j := fun j => (hF5 81 (by decide) j).trans ((fun _ => rfl) j)
  have C48 : ∀ j : Nat, dt3 85 j = dt 85 j := fun j => (hF5 85 (by decide) j).trans ((fun _ => rfl) j)
  refine go_toq PM267 (k := 6) (pc' := 1302) (L' := [some (.inr (.inr (some 3000))), some (.inr (.inr (some 0))), some (.inr (.inr (some 79))), some (.inl i)]) (st' := [.inl (i + 1), .inr (.inr (some 3000)), .inr (.inr (some 79))]) (w' := (SH, dt3)) rfl ?_
  have r49 := i32_R (xs ((i + 1).toNat))
  refine go_smpq PM267 (L' := [some (.inr (.inr (some 3000))), some (.inr (.inr (some 0))), some (.inr (.inr (some 79))), some (.inl i)]) (st' := [.inl ((xs ((i + 1).toNat)).toInt), .inr (.inr (some 79))]) (w' := (SH, dt3)) rfl rfl (s_iald (n := L) (f := fun j => (xs j).toInt) (am_scr hLL) ⟨by omega, by omega⟩) ?_
  refine go_callq PM267 PM245 (Q' := _) rfl rfl rfl rfl (sp_X6_score L xs sio (d + 30) dt3 hI4 hM7  ((xs ((i + 1).toNat)).toInt) ⟨by omega, by omega⟩ ) ?_
  rintro _ _ ⟨dt51, rfl, hI52, hF53, h50⟩
  refine ⟨rfl, ?_⟩
  have hF54 : Fr [0, 1, 2, 3, 4, 5, 6, 7, 8, 9, 10, 11, 12, 13, 14, 15, 16, 17, 18, 19, 20, 21, 22, 23, 24, 25, 26, 27, 28, 29, 30, 31, 32, 33, 34, 35, 36, 37, 38, 39, 40, 41, 42, 43, 44, 45, 46, 47, 48, 49, 50, 51, 52, 53, 54, 55, 56, 57, 58, 59, 60, 61, 62, 63, 64, 65, 66, 67, 68, 69, 70, 71, 72, 73, 74, 75, 76, 77, 78, 79, 80, 81, 82, 83, 84, 85, 86, 87, 88, 89, 90, 91, 92, 93, 94, 95, 96, 97, 98, 99, 100, 101, 102, 103, 104] dt dt51 := Fr_tr hF6 hF53 (by decide)
  have hM55 : MW (dt51 80) := MW_fr hM7 hF53 (by decide)
  have w56 : dt51 1 0 = dt3 1 0 := hF53 1 (by decide) 0
  have w57 : dt51 7 3 = dt3 7 3 := hF53 7 (by decide) 3
  have w58 : dt51 10 3 = dt3 10 3 := hF53 10 (by decide) 3
  have w59 : dt51 12 3 = dt3 12 3 := hF53 12 (by decide) 3
  have w60 : dt51 14 3 = dt3 14 3 := hF53 14 (by decide) 3
  have w61 : dt51 16 3 = dt3 16 3 := hF53 16 (by decide) 3
  have w62 : dt51 18 0 = dt3 18 0 := hF53 18 (by decide) 0
  have w63 : dt51 24 3 = dt3 24 3 := hF53 24 (by decide) 3
  have w64 : dt51 27 3 = dt3 27 3 := hF53 27 (by decide) 3
  have w65 : dt51 29 3 = dt3 29 3 := hF53 29 (by decide) 3
  have w66 : dt51 31 3 = dt3 31 3 := hF53 31 (by decide) 3
  have w67 : dt51 33 3 = dt3 33 3 := hF53 33 (by decide) 3
  have w68 : dt51 0 2 = dt3 0 2 := hF53 0 (by decide) 2
  have w69 : dt51 35 1 = dt3 35 1 := hF53 35 (by decide) 1
  have w70 : dt51 35 2 = dt3 35 2 := hF53 35 (by decide) 2
  have w71 : dt51 35 3 = dt3 35 3 := hF53 35 (by decide) 3
  have w72 : dt51 80 0 = dt3 80 0 := hF53 80 (by decide) 0
  have w73 : dt51 80 1 = dt3 80 1 := hF53 80 (by decide) 1
  have w74 : dt51 80 2 = dt3 80 2 := hF53 80 (by decide) 2
  have w75 : dt51 80 3 = dt3 80 3 := hF53 80 (by decide) 3
  have w76 : dt51 80 4 = dt3 80 4 := hF53 80 (by decide) 4
  have w77 : dt51 80 5 = dt3 80 5 := hF53 80 (by decide) 5
  have w78 : dt51 81 0 = dt3 81 0 := hF53 81 (by decide) 0
  have w79 : dt51 81 1 = dt3 81 1 := hF53 81 (by decide) 1
  have w80 : dt51 81 2 = dt3 81 2 := hF53 81 (by decide) 2
  have w81 : dt51 81 3 = dt3 81 3 := hF53 81 (by decide) 3
  have w82 : dt51 81 4 = dt3 81 4 := hF53 81 (by decide) 4
  have w83 : dt51 81 5 = dt3 81 5 := hF53 81 (by decide) 5
  have w84 : dt51 79 2 = dt3 79 2 := hF53 79 (by decide) 2
  have w85 : dt51 79 12 = dt3 79 12 := hF53 79 (by decide) 12
  have w86 : dt51 79 19 = dt3 79 19 := hF53 79 (by decide) 19
  have w87 : dt51 79 21 = dt3 79 21 := hF53 79 (by decide) 21
  rcases h50 with ⟨v_h50, rfl, h50r, h50⟩
  have M288 : MW (dt51 81) := MW_frk M240 hF53 (by decide)
  have C89 : ∀ j : Nat, dt51 2 j = dt 2 j := fun j => (hF53 2 (by decide) j).trans (C41 j)
  have C90 : ∀ j : Nat, dt51 3 j = dt 3 j := fun j => (hF53 3 (by decide) j).trans (C42 j)
  have C91 : ∀ j : Nat, dt51 19 j = dt 19 j := fun j => (hF53 19 (by decide) j).trans (C43 j)
  have C92 : ∀ j : Nat, dt51 20 j = dt 20 j := fun j => (hF53 20 (by decide) j).trans (C44 j)
  have C93 : ∀ j : Nat, dt51 36 j = dt 36 j := fun j => (hF53 36 (by decide) j).trans (C45 j)
  have C94 : ∀ j : Nat, dt51 80 j = dt 80 j := fun j => (hF53 80 (by decide) j).trans (C46 j)
  have C95 : ∀ j : Nat, dt51 81 j = dt 81 j := fun j => (hF53 81 (by decide) j).trans (C47 j)
  have C96 : ∀ j : Nat, dt51 85 j = dt 85 j := fun j => (hF53 85 (by decide) j).trans (C48 j)
  refine go_toq PM267 (k := 2) (pc' := 1435) (L' := [some (.inr (.inr (some 3000))), some (.inr (.inr (some 0))), some (.inr (.inr (some 79))), some (.inl i)]) (st' := []) (w' := (SH, dt51)) rfl ?_
  exact K dt51 hI52 hM55 M288 (by first | omega | (simp only [*]; done) | simp only [*]) (by omega) (by omega) (by omega) (by omega) (by omega) (by omega) (by omega) (by omega) (by omega) (by omega) (by omega) (by omega) (by omega) (by omega) (by omega) (by first | exact hI | exact TPL_k hd0 C93 C96 (by omega) | (exfalso; omega)) (by first | exact hI | exact SCL_k hd1 hM (fun j _ => C89 j) (fun j _ => C90 j) (fun j _ _ => C94 j) | (exfalso; omega)) (by first | exact hI | exact SCL_k hd2 hM2 (fun j _ => C91 j) (fun j _ => C92 j) (fun j _ _ => C95 j) | (exfalso; omega))
set_option maxRecDepth 20000 in
set_option maxHeartbeats 8000000 in
theorem sp_case30 (L : Nat) (xs : Nat → Int32) (sio : Option Nat) (d : Nat) (Q : Option AV → am_W → Prop) (hLL : L ≤ 3072) (i : Int) (hi : 0 ≤ i ∧ i ≤ 3066) (hil : i ≤ (L : Int) - 6) (dt : Nat → Nat → Int) (hI : InvC dt) (hM : MW (dt 80)) (hM2 : MW (dt 81)) (hk0 : dt 1 0 = dt 80 0) (hk1 : dt 7 3 = dt 80 1) (hk2 : dt 10 3 = dt 80 2) (hk3 : dt 12 3 = dt 80 3) (hk4 : dt 14 3 = dt 80 4) (hk5 : dt 16 3 = dt 80 5) (hk6 : dt 18 0 = dt 81 0) (hk7 : dt 24 3 = dt 81 1) (hk8 : dt 27 3 = dt 81 2) (hk9 : dt 29 3 = dt 81 3) (hk10 : dt 31 3 = dt 81 4) (hk11 : dt 33 3 = dt 81 5) (hk12 : dt 0 2 = dt 79 2) (hk13 : dt 35 1 = dt 79 12) (hk14 : dt 35 2 = dt 79 19) (hk15 : dt 35 3 = dt 79 21) (hd0 : TPL (dt 36) (dt 85) (dt 35 1)) (hd1 : SCL (dt 2) (dt 3) (dt 80)) (hd2 : SCL (dt 19) (dt 20) (dt 81)) (K : ∀ (dt : Nat → Nat → Int) (hI : InvC dt) (hM : MW (dt 80)) (hM2 : MW (dt 81)) (hk0 : dt 1 0 = dt 80 0) (hk1 : dt 7 3 = dt 80 1) (hk2 : dt 10 3 = dt 80 2) (hk3 : dt 12 3 = dt 80 3) (hk4 : dt 14 3 = dt 80 4) (hk5 : dt 16 3 = dt 80 5) (hk6 : dt 18 0 = dt 81 0) (hk7 : dt 24 3 = dt 81 1) (hk8 : dt 27 3 = dt 81 2) (hk9 : dt 29 3 = dt 81 3) (hk10 : dt 31 3 = dt 81 4) (hk11 : dt 33 3 = dt 81 5) (hk12 : dt 0 2 = dt 79 2) (hk13 : dt 35 1 = dt 79 12) (hk14 : dt 35 2 = dt 79 19) (hk15 : dt 35 3 = dt 79 21) (hd0 : TPL (dt 36) (dt 85) (dt 35 1)) (hd1 : SCL (dt 2) (dt 3) (dt 80)) (hd2 : SCL (dt 19) (dt 20) (dt 81)), GO (am_XX L xs sio) (d + 39) 267 1435 [some (.inr (.inr (some 3000))), some (.inr (.inr (some 0))), some (.inr (.inr (some 79))), some (.inl i)] [] (SH, dt) Q) : GO (am_XX L xs sio) (d + 39) 267 1310 [some (.inr (.inr (some 3000))), some (.inr (.inr (some 0))), some (.inr (.inr (some 79))), some (.inl i)] [] (SH, dt) Q := by
  have hF : Fr [0, 1, 2, 3, 4, 5, 6, 7, 8, 9, 10, 11, 12, 13, 14, 15, 16, 17, 18, 19, 20, 21, 22, 23, 24, 25, 26, 27, 28, 29, 30, 31, 32, 33, 34, 35, 36, 37, 38, 39, 40, 41, 42, 43, 44, 45, 46, 47, 48, 49, 50, 51, 52, 53, 54, 55, 56, 57, 58, 59, 60, 61, 62, 63, 64, 65, 66, 67, 68, 69, 70, 71, 72, 73, 74, 75, 76, 77, 78, 79, 80, 81, 82, 83, 84, 85, 86, 87, 88, 89, 90, 91, 92, 93, 94, 95, 96, 97, 98, 99, 100, 101, 102, 103, 104] dt dt := Fr_refl
  refine go_toq PM267 (k := 5) (pc' := 1315) (L' := [some (.inr (.inr (some 3000))), some (.inr (.inr (some 0))), some (.inr (.inr (some 79))), some (.inl i)]) (st' := [.inl (i + 1), .inr (.inr (some 3000)), .inr (.inr (some 0))]) (w' := (SH, dt)) rfl ?_
  have r1 := i32_R (xs ((i + 1).toNat))
  refine go_smpq PM267 (L' := [some (.inr (.inr (some 3000))), some (.inr (.inr (some 0))), some (.inr (.inr (some 79))), some (.inl i)]) (st' := [.inl ((xs ((i + 1).toNat)).toInt), .inr (.inr (some 0))]) (w' := (SH, dt)) rfl rfl (s_iald (n := L) (f := fun j => (xs j).toInt) (am_scr hLL) ⟨by omega, by omega⟩) ?_
  refine go_toq PM267 (k := 4) (pc' := 1320) (L' := [some (.inr (.inr (some 3000))), some (.inr (.inr (some 0))), some (.inr (.inr (some 79))), some (.inl i)]) (st' := [.inl (i + 2), .inr (.inr (some 3000)), .inl ((xs ((i + 1).toNat)).toInt), .inr (.inr (some 0))]) (w' := (SH, dt)) rfl ?_
  have r2 := i32_R (xs ((i + 2).toNat))
  refine go_smpq PM267 (L' := [some (.inr (.inr (some 3000))), some (.inr (.inr (some 0))), some (.inr (.inr (some 79))), some (.inl i)]) (st' := [.inl ((xs ((i + 2).toNat)).toInt), .inl ((xs ((i + 1).toNat)).toInt), .inr (.inr (some 0))]) (w' := (SH, dt)) rfl rfl (s_iald (n := L) (f := fun j => (xs j).toInt) (am_scr hLL) ⟨by omega, by omega⟩) ?_
  refine go_toq PM267 (k := 4) (pc' := 1325) (L' := [some (.inr (.inr (some 3000))), some (.inr (.inr (some 0))), some (.inr (.inr (some 79))), some (.inl i)]) (st' := [.inl (i + 3), .inr (.inr (some 3000)), .inl ((xs ((i + 2).toNat)).toInt), .inl ((xs ((i + 1).toNat)).toInt), .inr (.inr (some 0))]) (w' := (SH, dt)) rfl ?_
  have r3 := i32_R (xs ((i + 3).toNat))
  refine go_smpq PM267 (L' := [some (.inr (.inr (some 3000))), some (.inr (.inr (some 0))), some (.inr (.inr (some 79))), some (.inl i)]) (st' := [.inl ((xs ((i + 3).toNat)).toInt), .inl ((xs ((i + 2).toNat)).toInt), .inl ((xs ((i + 1).toNat)).toInt), .inr (.inr (some 0))]) (w' := (SH, dt)) rfl rfl (s_iald (n := L) (f := fun j => (xs j).toInt) (am_scr hLL) ⟨by omega, by omega⟩) ?_
  refine go_toq PM267 (k := 4) (pc' := 1330) (L' := [some (.inr (.inr (some 3000))), some (.inr (.inr (some 0))), some (.inr (.inr (some 79))), some (.inl i)]) (st' := [.inl (i + 4), .inr (.inr (some 3000)), .inl ((xs ((i + 3).toNat)).toInt), .inl ((xs ((i + 2).toNat)).toInt), .inl ((xs ((i + 1).toNat)).toInt), .inr (.inr (some 0))]) (w' := (SH, dt)) rfl ?_
  have r4 := i32_R (xs ((i + 4).toNat))
  refine go_smpq PM267 (L' := [some (.inr (.inr (some 3000))), some (.inr (.inr (some 0))), some (.inr (.inr (some 79))), some (.inl i)]) (st' := [.inl ((xs ((i + 4).toNat)).toInt), .inl ((xs ((i + 3).toNat)).toInt), .inl ((xs ((i + 2).toNat)).toInt), .inl ((xs ((i + 1).toNat)).toInt), .inr (.inr (some 0))]) (w' := (SH, dt)) rfl rfl (s_iald (n := L) (f := fun j => (xs j).toInt) (am_scr hLL) ⟨by omega, by omega⟩) ?_
  refine go_toq PM267 (k := 4) (pc' := 1335) (L' := [some (.inr (.inr (some 3000))), some (.inr (.inr (some 0))), some (.inr (.inr (some 79))), some (.inl i)]) (st' := [.inl (i + 5), .inr (.inr (some 3000)), .inl ((xs ((i + 4).toNat)).toInt), .inl ((xs ((i + 3).toNat)).toInt), .inl ((xs ((i + 2).toNat)).toInt), .inl ((xs ((i + 1).toNat)).toInt), .inr (.inr (some 0))]) (w' := (SH, dt)) rfl ?_
  have r5 := i32_R (xs ((i + 5).toNat))
  refine go_smpq PM267 (L' := [some (.inr (.inr (some 3000))), some (.inr (.inr (some 0))), some (.inr (.inr (some 79))), some (.inl i)]) (st' := [.inl ((xs ((i + 5).toNat)).toInt), .inl ((xs ((i + 4).toNat)).toInt), .inl ((xs ((i + 3).toNat)).toInt), .inl ((xs ((i + 2).toNat)).toInt), .inl ((xs ((i + 1).toNat)).toInt), .inr (.inr (some 0))]) (w' := (SH, dt)) rfl rfl (s_iald (n := L) (f := fun j => (xs j).toInt) (am_scr hLL) ⟨by omega, by omega⟩) ?_
  refine go_callq PM267 PM97 (Q' := _) rfl rfl rfl rfl (sp_X5_next L xs sio (d + 32) dt hI  ((xs ((i + 1).toNat)).toInt) ⟨by omega, by omega⟩ ((xs ((i + 2).toNat)).toInt) ⟨by omega, by omega⟩ ((xs ((i + 3).toNat)).toInt) ⟨by omega, by omega⟩ ((xs ((i + 4).toNat)).toInt) ⟨by omega, by omega⟩ ((xs ((i + 5).toNat)).toInt) ⟨by omega, by omega⟩ ) ?_
  rintro _ _ ⟨dt7, rfl, hI8, hF9, h6⟩
  refine ⟨rfl, ?_⟩
  have hF10 : Fr [0, 1, 2, 3, 4, 5, 6, 7, 8, 9, 10, 11, 12, 13, 14, 15, 16, 17, 18, 19, 20, 21, 22, 23, 24, 25, 26, 27, 28, 29, 30, 31, 32, 33, 34, 35, 36, 37, 38, 39, 40, 41, 42, 43, 44, 45, 46, 47, 48, 49, 50, 51, 52, 53, 54, 55, 56, 57, 58, 59, 60, 61, 62, 63, 64, 65, 66, 67, 68, 69, 70, 71, 72, 73, 74, 75, 76, 77, 78, 79, 80, 81, 82, 83, 84, 85, 86, 87, 88, 89, 90, 91, 92, 93, 94, 95, 96, 97, 98, 99, 100, 101, 102, 103, 104] dt dt7 := Fr_tr hF hF9 (by decide)
  have hM11 : MW (dt7 80) := MW_fr hM hF9 (by decide)
  have w12 : dt7 1 0 = dt 1 0 := hF9 1 (by decide) 0
  have w13 : dt7 7 3 = dt 7 3 := hF9 7 (by decide) 3
  have w14 : dt7 10 3 = dt 10 3 := hF9 10 (by decide) 3
  have w15 : dt7 12 3 = dt 12 3 := hF9 12 (by decide) 3
  have w16 : dt7 14 3 = dt 14 3 := hF9 14 (by decide) 3
  have w17 : dt7 16 3 = dt 16 3 := hF9 16 (by decide) 3
  have w18 : dt7 18 0 = dt 18 0 := hF9 18 (by decide) 0
  have w19 : dt7 24 3 = dt 24 3 := hF9 24 (by decide) 3
  have w20 : dt7 27 3 = dt 27 3 := hF9 27 (by decide) 3
  have w21 : dt7 29 3 = dt 29 3 := hF9 29 (by decide) 3
  have w22 : dt7 31 3 = dt 31 3 := hF9 31 (by decide) 3
  have w23 : dt7 33 3 = dt 33 3 := hF9 33 (by decide) 3
  have w24 : dt7 0 2 = dt 0 2 := hF9 0 (by decide) 2
  have w25 : dt7 35 1 = dt 35 1 := hF9 35 (by decide) 1
  have w26 : dt7 35 2 = dt 35 2 := hF9 35 (by decide) 2
  have w27 : dt7 35 3 = dt 35 3 := hF9 35 (by decide) 3
  have w28 : dt7 80 0 = dt 80 0 := hF9 80 (by decide) 0
  have w29 : dt7 80 1 = dt 80 1 := hF9 80 (by decide) 1
  have w30 : dt7 80 2 = dt 80 2 := hF9 80 (by decide) 2
  have w31 : dt7 80 3 = dt 80 3 := hF9 80 (by decide) 3
  have w32 : dt7 80 4 = dt 80 4 := hF9 80 (by decide) 4
  have w33 : dt7 80 5 = dt 80 5 := hF9 80 (by decide) 5
  have w34 : dt7 81 0 = dt 81 0 := hF9 81 (by decide) 0
  have w35 : dt7 81 1 = dt 81 1 := hF9 81 (by decide) 1
  have w36 : dt7 81 2 = dt 81 2 := hF9 81 (by decide) 2
  have w37 : dt7 81 3 = dt 81 3 := hF9 81 (by decide) 3
  have w38 : dt7 81 4 = dt 81 4 := hF9 81 (by decide) 4
  have w39 : dt7 81 5 = dt 81 5 := hF9 81 (by decide) 5
  have w40 : dt7 79 2 = dt 79 2 := hF9 79 (by decide) 2
  have w41 : dt7 79 12 = dt 79 12 := hF9 79 (by decide) 12
  have w42 : dt7 79 19 = dt 79 19 := hF9 79 (by decide) 19
  have w43 : dt7 79 21 = dt 79 21 := hF9 79 (by decide) 21
  rcases h6 with ⟨v_h6, rfl, h6r, h6⟩
  have M244 : MW (dt7 81) := MW_frk hM2 hF9 (by decide)
  have C45 : ∀ j : Nat, dt7 2 j = dt 2 j := fun j => (hF9 2 (by decide) j).trans ((fun _ => rfl) j)
  have C46 : ∀ j : Nat, dt7 3 j = dt 3 j := fun j => (hF9 3 (by decide) j).trans ((fun _ => rfl) j)
  have C47 : ∀ j : Nat, dt7 19 j = dt 19 j := fun j => (hF9 19 (by decide) j).trans ((fun _ => rfl) j)
  have C48 : ∀ j : Nat, dt7 20 j = dt 20 j := fun j => (hF9 20 (by decide) j).trans ((fun _ => rfl) j)
  have C49 : ∀ j : Nat, dt7 36 j = dt 36 j := fun j => (hF9 36 (by decide) j).trans ((fun _ => rfl) j)
  have C50 : ∀ j : Nat, dt7 80 j = dt 80 j := fun j => (hF9 80 (by decide) j).trans ((fun _ => rfl) j)
  have C51 : ∀ j : Nat, dt7 81 j = dt 81 j := fun j => (hF9 81 (by decide) j).trans ((fun _ => rfl) j)
  have C52 : ∀ j : Nat, dt7 85 j = dt 85 j := fun j => (hF9 85 (by decide) j).trans ((fun _ => rfl) j)
  refine go_toq PM267 (k := 6) (pc' := 1345) (L' := [some (.inr (.inr (some 3000))), some (.inr (.inr (some 0))), some (.inr (.inr (some 79))), some (.inl i)]) (st' := [.inl (i + 1), .inr (.inr (some 3000)), .inr (.inr (some 79))]) (w' := (SH, dt7)) rfl ?_
  have r53 := i32_R (xs ((i + 1).toNat))
  refine go_smpq PM267 (L' := [some (.inr (.inr (some 3000))), some (.inr (.inr (some 0))), some (.inr (.inr (some 79))), some (.inl i)]) (st' := [.inl ((xs ((i + 1).toNat)).toInt), .inr (.inr (some 79))]) (w' := (SH, dt7)) rfl rfl (s_iald (n := L) (f := fun j => (xs j).toInt) (am_scr hLL) ⟨by omega, by omega⟩) ?_
  refine go_toq PM267 (k := 4) (pc' := 1350) (L' := [some (.inr (.inr (some 3000))), some (.inr (.inr (some 0))), some (.inr (.inr (some 79))), some (.inl i)]) (st' := [.inl (i + 2), .inr (.inr (some 3000)), .inl ((xs ((i + 1).toNat)).toInt), .inr (.inr (some 79))]) (w' := (SH, dt7)) rfl ?_
  have r54 := i32_R (xs ((i + 2).toNat))
  refine go_smpq PM267 (L' := [some (.inr (.inr (some 3000))), some (.inr (.inr (some 0))), some (.inr (.inr (some 79))), some (.inl i)]) (st' := [.inl ((xs ((i + 2).toNat)).toInt), .inl ((xs ((i + 1).toNat)).toInt), .inr (.inr (some 79))]) (w' := (SH, dt7)) rfl rfl (s_iald (n := L) (f := fun j => (xs j).toInt) (am_scr hLL) ⟨by omega, by omega⟩) ?_
  refine go_toq PM267 (k := 4) (pc' := 1355) (L' := [some (.inr (.inr (some 3000))), some (.inr (.inr (some 0))), some (.inr (.inr (some 79))), some (.inl i)]) (st' := [.inl (i + 3), .inr (.inr (some 3000)), .inl ((xs ((i + 2).toNat)).toInt), .inl ((xs ((i + 1).toNat)).toInt), .inr (.inr (some 79))]) (w' := (SH, dt7)) rfl ?_
  have r55 := i32_R (xs ((i + 3).toNat))
  refine go_smpq PM267 (L' := [some (.inr (.inr (some 3000))), some (.inr (.inr (some 0))), some (.inr (.inr (some 79))), some (.inl i)]) (st' := [.inl ((xs ((i + 3).toNat)).toInt), .inl ((xs ((i + 2).toNat)).toInt), .inl ((xs ((i + 1).toNat)).toInt), .inr (.inr (some 79))]) (w' := (SH, dt7)) rfl rfl (s_iald (n := L) (f := fun j => (xs j).toInt) (am_scr hLL) ⟨by omega, by omega⟩) ?_
  refine go_toq PM267 (k := 4) (pc' := 1360) (L' := [some (.inr (.inr (some 3000))), some (.inr (.inr (some 0))), some (.inr (.inr (some 79))), some (.inl i)]) (st' := [.inl (i + 4), .inr (.inr (some 3000)), .inl ((xs ((i + 3).toNat)).toInt), .inl ((xs ((i + 2).toNat)).toInt), .inl ((xs ((i + 1).toNat)).toInt), .inr (.inr (some 79))]) (w' := (SH, dt7)) rfl ?_
  have r56 := i32_R (xs ((i + 4).toNat))
  refine go_smpq PM267 (L' := [some (.inr (.inr (some 3000))), some (.inr (.inr (some 0))), some (.inr (.inr (some 79))), some (.inl i)]) (st' := [.inl ((xs ((i + 4).toNat)).toInt), .inl ((xs ((i + 3).toNat)).toInt), .inl ((xs ((i + 2).toNat)).toInt), .inl ((xs ((i + 1).toNat)).toInt), .inr (.inr (some 79))]) (w' := (SH, dt7)) rfl rfl (s_iald (n := L) (f := fun j => (xs j).toInt) (am_scr hLL) ⟨by omega, by omega⟩) ?_
  refine go_toq PM267 (k := 4) (pc' := 1365) (L' := [some (.inr (.inr (some 3000))), some (.inr (.inr (some 0))), some (.inr (.inr (some 79))), some (.inl i)]) (st' := [.inl (i + 5), .inr (.inr (some 3000)), .inl ((xs ((i + 4).toNat)).toInt), .inl ((xs ((i + 3).toNat)).toInt), .inl ((xs ((i + 2).toNat)).toInt), .inl ((xs ((i + 1).toNat)).toInt), .inr (.inr (some 79))]) (w' := (SH, dt7)) rfl ?_
  have r57 := i32_R (xs ((i + 5).toNat))
  refine go_smpq PM267 (L' := [some (.inr (.inr (some 3000))), some (.inr (.inr (some 0))), some (.inr (.inr (some 79))), some (.inl i)]) (st' := [.inl ((xs ((i + 5).toNat)).toInt), .inl ((xs ((i + 4).toNat)).toInt), .inl ((xs ((i + 3).toNat)).toInt), .inl ((xs ((i + 2).toNat)).toInt), .inl ((xs ((i + 1).toNat)).toInt), .inr (.inr (some 79))]) (w' := (SH, dt7)) rfl rfl (s_iald (n := L) (f := fun j => (xs j).toInt) (am_scr hLL) ⟨by omega, by omega⟩) ?_
  refine go_callq PM267 PM246 (Q' := _) rfl rfl rfl rfl (sp_X6_next L xs sio (d + 31) dt7 hI8 hM11  ((xs ((i + 1).toNat)).toInt) ⟨by omega, by omega⟩ ((xs ((i + 2).toNat)).toInt) ⟨by omega, by omega⟩ ((xs ((i + 3).toNat)).toInt) ⟨by omega, by omega⟩ ((xs ((i + 4).toNat)).toInt) ⟨by omega, by omega⟩ ((xs ((i + 5).toNat)).toInt) ⟨by omega, by omega⟩ ) ?_
  rintro _ _ ⟨dt59, rfl, hI60, hF61, h58⟩
  refine ⟨rfl, ?_⟩
  have hF62 : Fr [0, 1, 2, 3, 4, 5, 6, 7, 8, 9, 10, 11, 12, 13, 14, 15, 16, 17, 18, 19, 20, 21, 22, 23, 24, 25, 26, 27, 28, 29, 30, 31, 32, 33, 34, 35, 36, 37, 38, 39, 40, 41, 42, 43, 44, 45, 46, 47, 48, 49, 50, 51, 52, 53, 54, 55, 56, 57, 58, 59, 60, 61, 62, 63, 64, 65, 66, 67, 68, 69, 70, 71, 72, 73, 74, 75, 76, 77, 78, 79, 80, 81, 82, 83, 84, 85, 86, 87, 88, 89, 90, 91, 92, 93, 94, 95, 96, 97, 98, 99, 100, 101, 102, 103, 104] dt dt59 := Fr_tr hF10 hF61 (by decide)
  have hM63 : MW (dt59 80) := MW_fr hM11 hF61 (by decide)
  have w64 : dt59 1 0 = dt7 1 0 := hF61 1 (by decide) 0
  have w65 : dt59 7 3 = dt7 7 3 := hF61 7 (by decide) 3
  have w66 : dt59 10 3 = dt7 10 3 := hF61 10 (by decide) 3
  have w67 : dt59 12 3 = dt7 12 3 := hF61 12 (by decide) 3
  have w68 : dt59 14 3 = dt7 14 3 := hF61 14 (by decide) 3
  have w69 : dt59 16 3 = dt7 16 3 := hF61 16 (by decide) 3
  have w70 : dt59 18 0 = dt7 18 0 := hF61 18 (by decide) 0
  have w71 : dt59 24 3 = dt7 24 3 := hF61 24 (by decide) 3
  have w72 : dt59 27 3 = dt7 27 3 := hF61 27 (by decide) 3
  have w73 : dt59 29 3 = dt7 29 3 := hF61 29 (by decide) 3
  have w74 : dt59 31 3 = dt7 31 3 := hF61 31 (by decide) 3
  have w75 : dt59 33 3 = dt7 33 3 := hF61 33 (by decide) 3
  have w76 : dt59 0 2 = dt7 0 2 := hF61 0 (by decide) 2
  have w77 : dt59 35 1 = dt7 35 1 := hF61 35 (by decide) 1
  have w78 : dt59 35 2 = dt7 35 2 := hF61 35 (by decide) 2
  have w79 : dt59 35 3 = dt7 35 3 := hF61 35 (by decide) 3
  have w80 : dt59 80 0 = dt7 80 0 := hF61 80 (by decide) 0
  have w81 : dt59 80 1 = dt7 80 1 := hF61 80 (by decide) 1
  have w82 : dt59 80 2 = dt7 80 2 := hF61 80 (by decide) 2
  have w83 : dt59 80 3 = dt7 80 3 := hF61 80 (by decide) 3
  have w84 : dt59 80 4 = dt7 80 4 := hF61 80 (by decide) 4
  have w85 : dt59 80 5 = dt7 80 5 := hF61 80 (by decide) 5
  have w86 : dt59 81 0 = dt7 81 0 := hF61 81 (by decide) 0
  have w87 : dt59 81 1 = dt7 81 1 := hF61 81 (by decide) 1
  have w88 : dt59 81 2 = dt7 81 2 := hF61 81 (by decide) 2
  have w89 : dt59 81 3 = dt7 81 3 := hF61 81 (by decide) 3
  have w90 : dt59 81 4 = dt7 81 4 := hF61 81 (by decide) 4
  have w91 : dt59 81 5 = dt7 81 5 := hF61 81 (by decide) 5
  have w92 : dt59 79 2 = dt7 79 2 := hF61 79 (by decide) 2
  have w93 : dt59 79 12 = dt7 79 12 := hF61 79 (by decide) 12
  have w94 : dt59 79 19 = dt7 79 19 := hF61 79 (by decide) 19
  have w95 : dt59 79 21 = dt7 79 21 := hF61 79 (by decide) 21
  rcases h58 with ⟨v_h58, rfl, h58r, h58⟩
  have M296 : MW (dt59 81) := MW_frk M244 hF61 (by decide)
  have C97 : ∀ j : Nat, dt59 2 j = dt 2 j := fun j => (hF61 2 (by decide) j).trans (C45 j)
  have C98 : ∀ j : Nat, dt59 3 j = dt 3 j := fun j => (hF61 3 (by decide) j).trans (C46 j)
  have C99 : ∀ j : Nat, dt59 19 j = dt 19 j := fun j => (hF61 19 (by decide) j).trans (C47 j)
  have C100 : ∀ j : Nat, dt59 20 j = dt 20 j := fun j => (hF61 20 (by decide) j).trans (C48 j)
  have C101 : ∀ j : Nat, dt59 36 j = dt 36 j := fun j => (hF61 36 (by decide) j).trans (C49 j)
  have C102 : ∀ j : Nat, dt59 80 j = dt 80 j := fun j => (hF61 80 (by decide) j).trans (C50 j)
  have C103 : ∀ j : Nat, dt59 81 j = dt 81 j := fun j => (hF61 81 (by decide) j).trans (C51 j)
  have C104 : ∀ j : Nat, dt59 85 j = dt 85 j := fun j => (hF61 85 (by decide) j).trans (C52 j)
  refine go_toq PM267 (k := 2) (pc' := 1435) (L' := [some (.inr (.inr (some 3000))), some (.inr (.inr (some 0))), some (.inr (.inr (some 79))), some (.inl i)]) (st' := []) (w' := (SH, dt59)) rfl ?_
  exact K dt59 hI60 hM63 M296 (by first | omega | (simp only [*]; done) | simp only [*]) (by omega) (by omega) (by omega) (by omega) (by omega) (by omega) (by omega) (by omega) (by omega) (by omega) (by omega) (by omega) (by omega) (by omega) (by omega) (by first | exact hI | exact TPL_k hd0 C101 C104 (by omega) | (exfalso; omega)) (by first | exact hI | exact SCL_k hd1 hM (fun j _ => C97 j) (fun j _ => C98 j) (fun j _ _ => C102 j) | (exfalso; omega)) (by first | exact hI | exact SCL_k hd2 hM2 (fun j _ => C99 j) (fun j _ => C100 j) (fun j _ _ => C103 j) | (exfalso; omega))
set_option maxRecDepth 20000 in
set_option maxHeartbeats 8000000 in
theorem sp_case31 (L : Nat) (xs : Nat → Int32) (sio : Option Nat) (d : Nat) (Q : Option AV → am_W → Prop) (hLL : L ≤ 3072) (i : Int) (hi : 0 ≤ i ∧ i ≤ 3066) (hil : i ≤ (L : Int) - 6) (dt : Nat → Nat → Int) (hI : InvC dt) (hM : MW (dt 80)) (hM2 : MW (dt 81)) (hk0 : dt 1 0 = dt 80 0) (hk1 : dt 7 3 = dt 80 1) (hk2 : dt 10 3 = dt 80 2) (hk3 : dt 12 3 = dt 80 3) (hk4 : dt 14 3 = dt 80 4) (hk5 : dt 16 3 = dt 80 5) (hk6 : dt 18 0 = dt 81 0) (hk7 : dt 24 3 = dt 81 1) (hk8 : dt 27 3 = dt 81 2) (hk9 : dt 29 3 = dt 81 3) (hk10 : dt 31 3 = dt 81 4) (hk11 : dt 33 3 = dt 81 5) (hk12 : dt 0 2 = dt 79 2) (hk13 : dt 35 1 = dt 79 12) (hk14 : dt 35 2 = dt 79 19) (hk15 : dt 35 3 = dt 79 21) (hd0 : TPL (dt 36) (dt 85) (dt 35 1)) (hd1 : SCL (dt 2) (dt 3) (dt 80)) (hd2 : SCL (dt 19) (dt 20) (dt 81)) (K : ∀ (dt : Nat → Nat → Int) (hI : InvC dt) (hM : MW (dt 80)) (hM2 : MW (dt 81)) (hk0 : dt 1 0 = dt 80 0) (hk1 : dt 7 3 = dt 80 1) (hk2 : dt 10 3 = dt 80 2) (hk3 : dt 12 3 = dt 80 3) (hk4 : dt 14 3 = dt 80 4) (hk5 : dt 16 3 = dt 80 5) (hk6 : dt 18 0 = dt 81 0) (hk7 : dt 24 3 = dt 81 1) (hk8 : dt 27 3 = dt 81 2) (hk9 : dt 29 3 = dt 81 3) (hk10 : dt 31 3 = dt 81 4) (hk11 : dt 33 3 = dt 81 5) (hk12 : dt 0 2 = dt 79 2) (hk13 : dt 35 1 = dt 79 12) (hk14 : dt 35 2 = dt 79 19) (hk15 : dt 35 3 = dt 79 21) (hd0 : TPL (dt 36) (dt 85) (dt 35 1)) (hd1 : SCL (dt 2) (dt 3) (dt 80)) (hd2 : SCL (dt 19) (dt 20) (dt 81)), GO (am_XX L xs sio) (d + 39) 267 1435 [some (.inr (.inr (some 3000))), some (.inr (.inr (some 0))), some (.inr (.inr (some 79))), some (.inl i)] [] (SH, dt) Q) : GO (am_XX L xs sio) (d + 39) 267 1373 [some (.inr (.inr (some 3000))), some (.inr (.inr (some 0))), some (.inr (.inr (some 79))), some (.inl i)] [] (SH, dt) Q := by
  have hF : Fr [0, 1, 2, 3, 4, 5, 6, 7, 8, 9, 10, 11, 12, 13, 14, 15, 16, 17, 18, 19, 20, 21, 22, 23, 24, 25, 26, 27, 28, 29, 30, 31, 32, 33, 34, 35, 36, 37, 38, 39, 40, 41, 42, 43, 44, 45, 46, 47, 48, 49, 50, 51, 52, 53, 54, 55, 56, 57, 58, 59, 60, 61, 62, 63, 64, 65, 66, 67, 68, 69, 70, 71, 72, 73, 74, 75, 76, 77, 78, 79, 80, 81, 82, 83, 84, 85, 86, 87, 88, 89, 90, 91, 92, 93, 94, 95, 96, 97, 98, 99, 100, 101, 102, 103, 104] dt dt := Fr_refl
  refine go_toq PM267 (k := 5) (pc' := 1378) (L' := [some (.inr (.inr (some 3000))), some (.inr (.inr (some 0))), some (.inr (.inr (some 79))), some (.inl i)]) (st' := [.inl (i + 1), .inr (.inr (some 3000)), .inr (.inr (some 0))]) (w' := (SH, dt)) rfl ?_
  have r1 := i32_R (xs ((i + 1).toNat))
  refine go_smpq PM267 (L' := [some (.inr (.inr (some 3000))), some (.inr (.inr (some 0))), some (.inr (.inr (some 79))), some (.inl i)]) (st' := [.inl ((xs ((i + 1).toNat)).toInt), .inr (.inr (some 0))]) (w' := (SH, dt)) rfl rfl (s_iald (n := L) (f := fun j => (xs j).toInt) (am_scr hLL) ⟨by omega, by omega⟩) ?_
  refine go_ifq PM267 (k := 0) (p1 := 1386) (p2 := 1382) (L' := [some (.inr (.inr (some 3000))), some (.inr (.inr (some 0))), some (.inr (.inr (some 79))), some (.inl i)]) (st' := [.inr (.inr (some 0))]) (w' := (SH, dt)) rfl (z_eq (a := (xs ((i + 1).toNat)).toInt) ⟨by omega, by omega⟩) (fun c2 => ?_) (fun c2 => ?_)
  · skip
    refine go_toq PM267 (k := 1) (pc' := 1387) (L' := [some (.inr (.inr (some 3000))), some (.inr (.inr (some 0))), some (.inr (.inr (some 79))), some (.inl i)]) (st' := [.inl 0, .inr (.inr (some 0))]) (w' := (SH, dt)) rfl ?_
    refine go_callq PM267 PM98 (Q' := _) rfl rfl rfl rfl (sp_X5_image_0s L xs sio (d + 35) dt hI   ) ?_
    rintro _ _ ⟨dt4, rfl, hI5, hF6, h3⟩
    refine ⟨rfl, ?_⟩
    have hF7 : Fr [0, 1, 2, 3, 4, 5, 6, 7, 8, 9, 10, 11, 12, 13, 14, 15, 16, 17, 18, 19, 20, 21, 22, 23, 24, 25, 26, 27, 28, 29, 30, 31, 32, 33, 34, 35, 36, 37, 38, 39, 40, 41, 42, 43, 44, 45, 46, 47, 48, 49, 50, 51, 52, 53, 54, 55, 56, 57, 58, 59, 60, 61, 62, 63, 64, 65, 66, 67, 68, 69, 70, 71, 72, 73, 74, 75, 76, 77, 78, 79, 80, 81, 82, 83, 84, 85, 86, 87, 88, 89, 90, 91, 92, 93, 94, 95, 96, 97, 98, 99, 100, 101, 102, 103, 104] dt dt4 := Fr_tr hF hF6 (by decide)
    have hM8 : MW (dt4 80) := MW_fr hM hF6 (by decide)
    have w9 : dt4 18 0 = dt 18 0 := hF6 18 (by decide) 0
    have w10 : dt4 24 3 = dt 24 3 := hF6 24 (by decide) 3
    have w11 : dt4 27 3 = dt 27 3 := hF6 27 (by decide) 3
    have w12 : dt4 29 3 = dt 29 3 := hF6 29 (by decide) 3
    have w13 : dt4 31 3 = dt 31 3 := hF6 31 (by decide) 3
    have w14 : dt4 33 3 = dt 33 3 := hF6 33 (by decide) 3
    have w15 : dt4 0 2 = dt 0 2 := hF6 0 (by decide) 2
    have w16 : dt4 35 1 = dt 35 1 := hF6 35 (by decide) 1
    have w17 : dt4 35 2 = dt 35 2 := hF6 35 (by decide) 2
    have w18 : dt4 35 3 = dt 35 3 := hF6 35 (by decide) 3
    have w19 : dt4 80 0 = dt 80 0 := hF6 80 (by decide) 0
    have w20 : dt4 80 1 = dt 80 1 := hF6 80 (by decide) 1
    have w21 : dt4 80 2 = dt 80 2 := hF6 80 (by decide) 2
    have w22 : dt4 80 3 = dt 80 3 := hF6 80 (by decide) 3
    have w23 : dt4 80 4 = dt 80 4 := hF6 80 (by decide) 4
    have w24 : dt4 80 5 = dt 80 5 := hF6 80 (by decide) 5
    have w25 : dt4 81 0 = dt 81 0 := hF6 81 (by decide) 0
    have w26 : dt4 81 1 = dt 81 1 := hF6 81 (by decide) 1
    have w27 : dt4 81 2 = dt 81 2 := hF6 81 (by decide) 2
    have w28 : dt4 81 3 = dt 81 3 := hF6 81 (by decide) 3
    have w29 : dt4 81 4 = dt 81 4 := hF6 81 (by decide) 4
    have w30 : dt4 81 5 = dt 81 5 := hF6 81 (by decide) 5
    have w31 : dt4 79 2 = dt 79 2 := hF6 79 (by decide) 2
    have w32 : dt4 79 12 = dt 79 12 := hF6 79 (by decide) 12
    have w33 : dt4 79 19 = dt 79 19 := hF6 79 (by decide) 19
    have w34 : dt4 79 21 = dt 79 21 := hF6 79 (by decide) 21
    rcases h3 with ⟨v_h3, rfl, h3r, h3⟩ | ⟨v_h3, rfl, h3r, h3⟩
    · skip
      obtain ⟨h3_0, h3_1, h3_2, h3_3, h3_4, h3_5, h3_6, h3_7, h3_8, h3_9, h3_10, h3_11, h3_12, h3_13, h3_14, h3_15, h3_16, h3_17, h3_18⟩ := h3
      have M235 : MW (dt4 81) := MW_frk hM2 hF6 (by decide)
      have C36 : ∀ j : Nat, dt4 19 j = dt 19 j := fun j => (hF6 19 (by decide) j).trans ((fun _ => rfl) j)
      have C37 : ∀ j : Nat, dt4 20 j = dt 20 j := fun j => (hF6 20 (by decide) j).trans ((fun _ => rfl) j)
      have C38 : ∀ j : Nat, dt4 36 j = dt 36 j := fun j => (hF6 36 (by decide) j).trans ((fun _ => rfl) j)
      have C39 : ∀ j : Nat, dt4 80 j = dt 80 j := fun j => (hF6 80 (by decide) j).trans ((fun _ => rfl) j)
      have C40 : ∀ j : Nat, dt4 81 j = dt 81 j := fun j => (hF6 81 (by decide) j).trans ((fun _ => rfl) j)
      have C41 : ∀ j : Nat, dt4 85 j = dt 85 j := fun j => (hF6 85 (by decide) j).trans ((fun _ => rfl) j)
      refine go_toq PM267 (k := 6) (pc' := 1396) (L' := [some (.inr (.inr (some 3000))), some (.inr (.inr (some 0))), some (.inr (.inr (some 79))), some (.inl i)]) (st' := [.inl (i + 1), .inr (.inr (some 3000)), .inr (.inr (some 79))]) (w' := (SH, dt4)) rfl ?_
      have r42 := i32_R (xs ((i + 1).toNat))
      refine go_smpq PM267 (L' := [some (.inr (.inr (some 3000))), some (.inr (.inr (some 0))), some (.inr (.inr (some 79))), some (.inl i)]) (st' := [.inl ((xs ((i + 1).toNat)).toInt), .inr (.inr (some 79))]) (w' := (SH, dt4)) rfl rfl (s_iald (n := L) (f := fun j => (xs j).toInt) (am_scr hLL) ⟨by omega, by omega⟩) ?_
      refine go_ifq PM267 (k := 0) (p1 := 1404) (p2 := 1400) (L' := [some (.inr (.inr (some 3000))), some (.inr (.inr (some 0))), some (.inr (.inr (some 79))), some (.inl i)]) (st' := [.inr (.inr (some 79))]) (w' := (SH, dt4)) rfl (z_eq (a := (xs ((i + 1).toNat)).toInt) ⟨by omega, by omega⟩) (fun c43 => ?_) (fun c43 => ?_)
      · skip
        refine go_toq PM267 (k := 1) (pc' := 1405) (L' := [some (.inr (.inr (some 3000))), some (.inr (.inr (some 0))), some (.inr (.inr (some 79))), some (.inl i)]) (st' := [.inl 0, .inr (.inr (some 79))]) (w' := (SH, dt4)) rfl ?_
        refine go_callq PM267 PM247 (Q' := _) rfl rfl rfl rfl (sp_X6_image_0v L xs sio (d + 38) dt4 hI5 hM8   (by first | exact True.intro | rfl | omega | trivial | exact M235 | exact hd1)) ?_
        rintro _ _ ⟨dt45, rfl, hI46, hF47, h44⟩
        refine ⟨rfl, ?_⟩
        have hF48 : Fr [0, 1, 2, 3, 4, 5, 6, 7, 8, 9, 10, 11, 12, 13, 14, 15, 16, 17, 18, 19, 20, 21, 22, 23, 24, 25, 26, 27, 28, 29, 30, 31, 32, 33, 34, 35, 36, 37, 38, 39, 40, 41, 42, 43, 44, 45, 46, 47, 48, 49, 50, 51, 52, 53, 54, 55, 56, 57, 58, 59, 60, 61, 62, 63, 64, 65, 66, 67, 68, 69, 70, 71, 72, 73, 74, 75, 76, 77, 78, 79, 80, 81, 82, 83, 84, 85, 86, 87, 88, 89, 90, 91, 92, 93, 94, 95, 96, 97, 98, 99, 100, 101, 102, 103, 104] dt dt45 := Fr_tr hF7 hF47 (by decide)
        have w49 : dt45 1 0 = dt4 1 0 := hF47 1 (by decide) 0
        have w50 : dt45 7 3 = dt4 7 3 := hF47 7 (by decide) 3
        have w51 : dt45 10 3 = dt4 10 3 := hF47 10 (by decide) 3
        have w52 : dt45 12 3 = dt4 12 3 := hF47 12 (by decide) 3
        have w53 : dt45 14 3 = dt4 14 3 := hF47 14 (by decide) 3
        have w54 : dt45 16 3 = dt4 16 3 := hF47 16 (by decide) 3
        have w55 : dt45 18 0 = dt4 18 0 := hF47 18 (by decide) 0
        have w56 : dt45 24 3 = dt4 24 3 := hF47 24 (by decide) 3
        have w57 : dt45 27 3 = dt4 27 3 := hF47 27 (by decide) 3
        have w58 : dt45 29 3 = dt4 29 3 := hF47 29 (by decide) 3
        have w59 : dt45 31 3 = dt4 31 3 := hF47 31 (by decide) 3
        have w60 : dt45 33 3 = dt4 33 3 := hF47 33 (by decide) 3
        have w61 : dt45 0 2 = dt4 0 2 := hF47 0 (by decide) 2
        have w62 : dt45 35 1 = dt4 35 1 := hF47 35 (by decide) 1
        have w63 : dt45 35 2 = dt4 35 2 := hF47 35 (by decide) 2
        have w64 : dt45 35 3 = dt4 35 3 := hF47 35 (by decide) 3
        have w65 : dt45 81 0 = dt4 81 0 := hF47 81 (by decide) 0
        have w66 : dt45 81 1 = dt4 81 1 := hF47 81 (by decide) 1
        have w67 : dt45 81 2 = dt4 81 2 := hF47 81 (by decide) 2
        have w68 : dt45 81 3 = dt4 81 3 := hF47 81 (by decide) 3
        have w69 : dt45 81 4 = dt4 81 4 := hF47 81 (by decide) 4
        have w70 : dt45 81 5 = dt4 81 5 := hF47 81 (by decide) 5
        rcases h44 with ⟨rfl, h44⟩ | ⟨rfl, h44⟩
        · skip
          have hM71 : MW (dt45 80) := h44.2.2.1
          obtain ⟨h44_0, h44_1, h44_2, h44_3, h44_4, h44_5, h44_6, h44_7, h44_8, h44_9, h44_10⟩ := h44
          have M272 : MW (dt45 81) := MW_frk M235 hF47 (by decide)
          have y73 := h44_4 0 (by decide)
          have y74 := h44_4 1 (by decide)
          have y75 := h44_4 2 (by decide)
          have y76 := h44_4 3 (by decide)
          have y77 := h44_4 4 (by decide)
          have y78 := h44_4 5 (by decide)
          have y79 := h44_5 0 (by decide)
          have y80 := h44_5 1 (by decide)
          have y81 := h44_5 2 (by decide)
          have y82 := h44_5 3 (by decide)
          have y83 := h44_5 4 (by decide)
          have y84 := h44_5 5 (by decide)
          have C85 : ∀ j : Nat, dt45 19 j = dt 19 j := fun j => (hF47 19 (by decide) j).trans (C36 j)
          have C86 : ∀ j : Nat, dt45 20 j = dt 20 j := fun j => (hF47 20 (by decide) j).trans (C37 j)
          have C87 : ∀ j : Nat, dt45 36 j = dt 36 j := fun j => (hF47 36 (by decide) j).trans (C38 j)
          have C88 : ∀ j : Nat, dt45 81 j = dt 81 j := fun j => (hF47 81 (by decide) j).trans (C40 j)
          have C89 : ∀ j : Nat, dt45 85 j = dt 85 j := fun j => (hF47 85 (by decide) j).trans (C41 j)
          have C90 : ∀ j : Nat, j < 192 → dt45 2 j = dt 19 j := fun j hj => (hF47 2 (by decide) j).trans (h3_15 j hj)
          have C91 : ∀ j : Nat, j < 8 → dt45 3 j = dt 20 j := fun j hj => (hF47 3 (by decide) j).trans (h3_16 j hj)
          have C92 : ∀ j : Nat, j < 192 → dt45 19 j = dt 19 j := fun j hj => (hF47 19 (by decide) j).trans (h3_17 j hj)
          have C93 : ∀ j : Nat, j < 8 → dt45 20 j = dt 20 j := fun j hj => (hF47 20 (by decide) j).trans (h3_18 j hj)
          have F94 : ∀ j : Nat, 6 ≤ j → j < 974 → dt45 80 j = dt 80 j := fun j _ hj => (h44_6 j (by omega)).trans (C39 j)
          have S95 : SCL (dt45 2) (dt45 3) (dt45 80) := by first | exact SCL_k hd2 hM2 C90 C91 F94 | (exfalso; omega)
          have F96 : ∀ j : Nat, 6 ≤ j → j < 974 → dt45 81 j = dt 81 j := fun j _ hj => (h44_7 j (by omega)).trans (C40 j)
          have S97 : SCL (dt45 19) (dt45 20) (dt45 81) := by first | exact SCL_k hd2 hM2 C92 C93 F96 | (exfalso; omega)
          refine go_toq PM267 (k := 2) (pc' := 1435) (L' := [some (.inr (.inr (some 3000))), some (.inr (.inr (some 0))), some (.inr (.inr (some 79))), some (.inl i)]) (st' := []) (w' := (SH, dt45)) rfl ?_
          exact K dt45 hI46 hM71 M272 (by first | omega | (simp only [*]; done) | simp only [*]) (by omega) (by omega) (by omega) (by omega) (by omega) (by omega) (by omega) (by omega) (by omega) (by omega) (by omega) (by omega) (by omega) (by omega) (by omega) (by first | exact hI | exact TPL_k hd0 C87 C89 (by omega) | (exfalso; omega)) (by first | exact S95 | exact SCL_k hd1 hM (fun j _ => hI j) (fun j _ => hI j) hI | (exfalso; omega)) (by first | exact S97 | exact SCL_k hd2 hM2 (fun j _ => C85 j) (fun j _ => C86 j) (fun j _ _ => C88 j) | (exfalso; omega))
        · skip
          have hM98 : MW (dt45 80) := h44.2.2.1
          obtain ⟨h44_0, h44_1, h44_2, h44_3, h44_4, h44_5, h44_6, h44_7, h44_8, h44_9, h44_10⟩ := h44
          have M299 : MW (dt45 81) := MW_frk M235 hF47 (by decide)
          have y100 := h44_4 0 (by decide)
          have y101 := h44_4 1 (by decide)
          have y102 := h44_4 2 (by decide)
          have y103 := h44_4 3 (by decide)
          have y104 := h44_4 4 (by decide)
          have y105 := h44_4 5 (by decide)
          have y106 := h44_5 0 (by decide)
          have y107 := h44_5 1 (by decide)
          have y108 := h44_5 2 (by decide)
          have y109 := h44_5 3 (by decide)
          have y110 := h44_5 4 (by decide)
          have y111 := h44_5 5 (by decide)
          have C112 : ∀ j : Nat, dt45 19 j = dt 19 j := fun j => (hF47 19 (by decide) j).trans (C36 j)
          have C113 : ∀ j : Nat, dt45 20 j = dt 20 j := fun j => (hF47 20 (by decide) j).trans (C37 j)
          have C114 : ∀ j : Nat, dt45 36 j = dt 36 j := fun j => (hF47 36 (by decide) j).trans (C38 j)
          have C115 : ∀ j : Nat, dt45 81 j = dt 81 j := fun j => (hF47 81 (by decide) j).trans (C40 j)
          have C116 : ∀ j : Nat, dt45 85 j = dt 85 j := fun j => (hF47 85 (by decide) j).trans (C41 j)
          have C117 : ∀ j : Nat, j < 192 → dt45 2 j = dt 19 j := fun j hj => (hF47 2 (by decide) j).trans (h3_15 j hj)
          have C118 : ∀ j : Nat, j < 8 → dt45 3 j = dt 20 j := fun j hj => (hF47 3 (by decide) j).trans (h3_16 j hj)
          have C119 : ∀ j : Nat, j < 192 → dt45 19 j = dt 19 j := fun j hj => (hF47 19 (by decide) j).trans (h3_17 j hj)
          have C120 : ∀ j : Nat, j < 8 → dt45 20 j = dt 20 j := fun j hj => (hF47 20 (by decide) j).trans (h3_18 j hj)
          have F121 : ∀ j : Nat, 6 ≤ j → j < 974 → dt45 80 j = dt 81 j := fun j _ hj => (h44_6 j (by omega)).trans (C40 j)
          have S122 : SCL (dt45 2) (dt45 3) (dt45 80) := by first | exact SCL_k hd2 hM2 C117 C118 F121 | (exfalso; omega)
          have F123 : ∀ j : Nat, 6 ≤ j → j < 974 → dt45 81 j = dt 81 j := fun j _ hj => (h44_7 j (by omega)).trans (C40 j)
          have S124 : SCL (dt45 19) (dt45 20) (dt45 81) := by first | exact SCL_k hd2 hM2 C119 C120 F123 | (exfalso; omega)
          refine go_toq PM267 (k := 2) (pc' := 1435) (L' := [some (.inr (.inr (some 3000))), some (.inr (.inr (some 0))), some (.inr (.inr (some 79))), some (.inl i)]) (st' := []) (w' := (SH, dt45)) rfl ?_
          exact K dt45 hI46 hM98 M299 (by first | omega | (simp only [*]; done) | simp only [*]) (by omega) (by omega) (by omega) (by omega) (by omega) (by omega) (by omega) (by omega) (by omega) (by omega) (by omega) (by omega) (by omega) (by omega) (by omega) (by first | exact hI | exact TPL_k hd0 C114 C116 (by omega) | (exfalso; omega)) (by first | exact S122 | exact SCL_k hd1 hM (fun j _ => hI j) (fun j _ => hI j) hI | (exfalso; omega)) (by first | exact S124 | exact SCL_k hd2 hM2 (fun j _ => C112 j) (fun j _ => C113 j) (fun j _ _ => C115 j) | (exfalso; omega))
      · skip
        refine go_toq PM267 (k := 2) (pc' := 1405) (L' := [some (.inr (.inr (some 3000))), some (.inr (.inr (some 0))), some (.inr (.inr (some 79))), some (.inl i)]) (st' := [.inl 1, .inr (.inr (some 79))]) (w' := (SH, dt4)) rfl ?_
        refine go_callq PM267 PM247 (Q' := _) rfl rfl rfl rfl (sp_X6_image_1v L xs sio (d + 38) dt4 hI5 hM8   ) ?_
        rintro _ _ ⟨dt126, rfl, hI127, hF128, h125⟩
        refine ⟨rfl, ?_⟩
        have hF129 : Fr [0, 1, 2, 3, 4, 5, 6, 7, 8, 9, 10, 11, 12, 13, 14, 15, 16, 17, 18, 19, 20, 21, 22, 23, 24, 25, 26, 27, 28, 29, 30, 31, 32, 33, 34, 35, 36, 37, 38, 39, 40, 41, 42, 43, 44, 45, 46, 47, 48, 49, 50, 51, 52, 53, 54, 55, 56, 57, 58, 59, 60, 61, 62, 63, 64, 65, 66, 67, 68, 69, 70, 71, 72, 73, 74, 75, 76, 77, 78, 79, 80, 81, 82, 83, 84, 85, 86, 87, 88, 89, 90, 91, 92, 93, 94, 95, 96, 97, 98, 99, 100, 101, 102, 103, 104] dt dt126 := Fr_tr hF7 hF128 (by decide)
        have hM130 : MW (dt126 80) := MW_fr hM8 hF128 (by decide)
        have w131 : dt126 1 0 = dt4 1 0 := hF128 1 (by decide) 0
        have w132 : dt126 7 3 = dt4 7 3 := hF128 7 (by decide) 3
        have w133 : dt126 10 3 = dt4 10 3 := hF128 10 (by decide) 3
        have w134 : dt126 12 3 = dt4 12 3 := hF128 12 (by decide) 3
        have w135 : dt126 14 3 = dt4 14 3 := hF128 14 (by decide) 3
        have w136 : dt126 16 3 = dt4 16 3 := hF128 16 (by decide) 3
        have w137 : dt126 18 0 = dt4 18 0 := hF128 18 (by decide) 0
        have w138 : dt126 24 3 = dt4 24 3 := hF128 24 (by decide) 3
        have w139 : dt126 27 3 = dt4 27 3 := hF128 27 (by decide) 3
        have w140 : dt126 29 3 = dt4 29 3 := hF128 29 (by decide) 3
        have w141 : dt126 31 3 = dt4 31 3 := hF128 31 (by decide) 3
        have w142 : dt126 33 3 = dt4 33 3 := hF128 33 (by decide) 3
        have w143 : dt126 0 2 = dt4 0 2 := hF128 0 (by decide) 2
        have w144 : dt126 35 1 = dt4 35 1 := hF128 35 (by decide) 1
        have w145 : dt126 35 2 = dt4 35 2 := hF128 35 (by decide) 2
        have w146 : dt126 35 3 = dt4 35 3 := hF128 35 (by decide) 3
        have w147 : dt126 80 0 = dt4 80 0 := hF128 80 (by decide) 0
        have w148 : dt126 80 1 = dt4 80 1 := hF128 80 (by decide) 1
        have w149 : dt126 80 2 = dt4 80 2 := hF128 80 (by decide) 2
        have w150 : dt126 80 3 = dt4 80 3 := hF128 80 (by decide) 3
        have w151 : dt126 80 4 = dt4 80 4 := hF128 80 (by decide) 4
        have w152 : dt126 80 5 = dt4 80 5 := hF128 80 (by decide) 5
        rcases h125 with ⟨rfl, h125⟩
        have hM153 : MW (dt126 80) := h125.2.1
        obtain ⟨h125_0, h125_1, h125_2, h125_3, h125_4, h125_5, h125_6, h125_7, h125_8, h125_9⟩ := h125
        have y154 := h125_3 0 (by decide)
        have y155 := h125_3 1 (by decide)
        have y156 := h125_3 2 (by decide)
        have y157 := h125_3 3 (by decide)
        have y158 := h125_3 4 (by decide)
        have y159 := h125_3 5 (by decide)
        have y160 := h125_4 0 (by decide)
        have y161 := h125_4 1 (by decide)
        have y162 := h125_4 2 (by decide)
        have y163 := h125_4 3 (by decide)
        have y164 := h125_4 4 (by decide)
        have y165 := h125_4 5 (by decide)
        have C166 : ∀ j : Nat, dt126 19 j = dt 19 j := fun j => (hF128 19 (by decide) j).trans (C36 j)
        have C167 : ∀ j : Nat, dt126 20 j = dt 20 j := fun j => (hF128 20 (by decide) j).trans (C37 j)
        have C168 : ∀ j : Nat, dt126 36 j = dt 36 j := fun j => (hF128 36 (by decide) j).trans (C38 j)
        have C169 : ∀ j : Nat, dt126 80 j = dt 80 j := fun j => (hF128 80 (by decide) j).trans (C39 j)
        have C170 : ∀ j : Nat, dt126 85 j = dt 85 j := fun j => (hF128 85 (by decide) j).trans (C41 j)
        have C171 : ∀ j : Nat, j < 192 → dt126 2 j = dt 19 j := fun j hj => (hF128 2 (by decide) j).trans (h3_15 j hj)
        have C172 : ∀ j : Nat, j < 8 → dt126 3 j = dt 20 j := fun j hj => (hF128 3 (by decide) j).trans (h3_16 j hj)
        have C173 : ∀ j : Nat, j < 192 → dt126 19 j = dt 19 j := fun j hj => (hF128 19 (by decide) j).trans (h3_17 j hj)
        have C174 : ∀ j : Nat, j < 8 → dt126 20 j = dt 20 j := fun j hj => (hF128 20 (by decide) j).trans (h3_18 j hj)
        have F175 : ∀ j : Nat, 6 ≤ j → j < 974 → dt126 80 j = dt 80 j := fun j _ hj => (h125_5 j (by omega)).trans (C39 j)
        have S176 : SCL (dt126 2) (dt126 3) (dt126 80) := by first | exact SCL_k hd2 hM2 C171 C172 F175 | (exfalso; omega)
        have F177 : ∀ j : Nat, 6 ≤ j → j < 974 → dt126 81 j = dt 80 j := fun j _ hj => (h125_6 j (by omega)).trans (C39 j)
        have S178 : SCL (dt126 19) (dt126 20) (dt126 81) := by first | exact SCL_k hd2 hM2 C173 C174 F177 | (exfalso; omega)
        refine go_toq PM267 (k := 2) (pc' := 1435) (L' := [some (.inr (.inr (some 3000))), some (.inr (.inr (some 0))), some (.inr (.inr (some 79))), some (.inl i)]) (st' := []) (w' := (SH, dt126)) rfl ?_
        exact K dt126 hI127 hM153 h125_2 (by first | omega | (simp only [*]; done) | simp only [*]) (by omega) (by omega) (by omega) (by omega) (by omega) (by omega) (by omega) (by omega) (by omega) (by omega) (by omega) (by omega) (by omega) (by omega) (by omega) (by first | exact hI | exact TPL_k hd0 C168 C170 (by omega) | (exfalso; omega)) (by first | exact S176 | exact SCL_k hd1 hM (fun j _ => hI j) (fun j _ => hI j) (fun j _ _ => C169 j) | (exfalso; omega)) (by first | exact S178 | exact SCL_k hd2 hM2 (fun j _ => C166 j) (fun j _ => C167 j) hI | (exfalso; omega))
    · skip
      obtain ⟨h3_0, h3_1, h3_2, h3_3, h3_4, h3_5, h3_6, h3_7, h3_8, h3_9, h3_10, h3_11, h3_12, h3_13, h3_14, h3_15, h3_16, h3_17, h3_18⟩ := h3
      have M2179 : MW (dt4 81) := MW_frk hM2 hF6 (by decide)
      have C180 : ∀ j : Nat, dt4 19 j = dt 19 j := fun j => (hF6 19 (by decide) j).trans ((fun _ => rfl) j)
      have C181 : ∀ j : Nat, dt4 20 j = dt 20 j := fun j => (hF6 20 (by decide) j).trans ((fun _ => rfl) j)
      have C182 : ∀ j : Nat, dt4 36 j = dt 36 j := fun j => (hF6 36 (by decide) j).trans ((fun _ => rfl) j)
      have C183 : ∀ j : Nat, dt4 80 j = dt 80 j := fun j => (hF6 80 (by decide) j).trans ((fun _ => rfl) j)
      have C184 : ∀ j : Nat, dt4 81 j = dt 81 j := fun j => (hF6 81 (by decide) j).trans ((fun _ => rfl) j)
      have C185 : ∀ j : Nat, dt4 85 j = dt 85 j := fun j => (hF6 85 (by decide) j).trans ((fun _ => rfl) j)
      refine go_toq PM267 (k := 6) (pc' := 1396) (L' := [some (.inr (.inr (some 3000))), some (.inr (.inr (some 0))), some (.inr (.inr (some 79))), some (.inl i)]) (st' := [.inl (i + 1), .inr (.inr (some 3000)), .inr (.inr (some 79))]) (w' := (SH, dt4)) rfl ?_
      have r186 := i32_R (xs ((i + 1).toNat))
      refine go_smpq PM267 (L' := [some (.inr (.inr (some 3000))), some (.inr (.inr (some 0))), some (.inr (.inr (some 79))), some (.inl i)]) (st' := [.inl ((xs ((i + 1).toNat)).toInt), .inr (.inr (some 79))]) (w' := (SH, dt4)) rfl rfl (s_iald (n := L) (f := fun j => (xs j).toInt) (am_scr hLL) ⟨by omega, by omega⟩) ?_
      refine go_ifq PM267 (k := 0) (p1 := 1404) (p2 := 1400) (L' := [some (.inr (.inr (some 3000))), some (.inr (.inr (some 0))), some (.inr (.inr (some 79))), some (.inl i)]) (st' := [.inr (.inr (some 79))]) (w' := (SH, dt4)) rfl (z_eq (a := (xs ((i + 1).toNat)).toInt) ⟨by omega, by omega⟩) (fun c187 => ?_) (fun c187 => ?_)
      · skip
        refine go_toq PM267 (k := 1) (pc' := 1405) (L' := [some (.inr (.inr (some 3000))), some (.inr (.inr (some 0))), some (.inr (.inr (some 79))), some (.inl i)]) (st' := [.inl 0, .inr (.inr (some 79))]) (w' := (SH, dt4)) rfl ?_
        refine go_callq PM267 PM247 (Q' := _) rfl rfl rfl rfl (sp_X6_image_0v L xs sio (d + 38) dt4 hI5 hM8   (by first | exact True.intro | rfl | omega | trivial | exact M2179 | exact hd1)) ?_
        rintro _ _ ⟨dt189, rfl, hI190, hF191, h188⟩
        refine ⟨rfl, ?_⟩
        have hF192 : Fr [0, 1, 2, 3, 4, 5, 6, 7, 8, 9, 10, 11, 12, 13, 14, 15, 16, 17, 18, 19, 20, 21, 22, 23, 24, 25, 26, 27, 28, 29, 30, 31, 32, 33, 34, 35, 36, 37, 38, 39, 40, 41, 42, 43, 44, 45, 46, 47, 48, 49, 50, 51, 52, 53, 54, 55, 56, 57, 58, 59, 60, 61, 62, 63, 64, 65, 66, 67, 68, 69, 70, 71, 72, 73, 74, 75, 76, 77, 78, 79, 80, 81, 82, 83, 84, 85, 86, 87, 88, 89, 90, 91, 92, 93, 94, 95, 96, 97, 98, 99, 100, 101, 102, 103, 104] dt dt189 := Fr_tr hF7 hF191 (by decide)
        have w193 : dt189 1 0 = dt4 1 0 := hF191 1 (by decide) 0
        have w194 : dt189 7 3 = dt4 7 3 := hF191 7 (by decide) 3
        have w195 : dt189 10 3 = dt4 10 3 := hF191 10 (by decide) 3
        have w196 : dt189 12 3 = dt4 12 3 := hF191 12 (by decide) 3
        have w197 : dt189 14 3 = dt4 14 3 := hF191 14 (by decide) 3
        have w198 : dt189 16 3 = dt4 16 3 := hF191 16 (by decide) 3
        have w199 : dt189 18 0 = dt4 18 0 := hF191 18 (by decide) 0
        have w200 : dt189 24 3 = dt4 24 3 := hF191 24 (by decide) 3
        have w201 : dt189 27 3 = dt4 27 3 := hF191 27 (by decide) 3
        have w202 : dt189 29 3 = dt4 29 3 := hF191 29 (by decide) 3
        have w203 : dt189 31 3 = dt4 31 3 := hF191 31 (by decide) 3
        have w204 : dt189 33 3 = dt4 33 3 := hF191 33 (by decide) 3
        have w205 : dt189 0 2 = dt4 0 2 := hF191 0 (by decide) 2
        have w206 : dt189 35 1 = dt4 35 1 := hF191 35 (by decide) 1
        have w207 : dt189 35 2 = dt4 35 2 := hF191 35 (by decide) 2
        have w208 : dt189 35 3 = dt4 35 3 := hF191 35 (by decide) 3
        have w209 : dt189 81 0 = dt4 81 0 := hF191 81 (by decide) 0
        have w210 : dt189 81 1 = dt4 81 1 := hF191 81 (by decide) 1
        have w211 : dt189 81 2 = dt4 81 2 := hF191 81 (by decide) 2
        have w212 : dt189 81 3 = dt4 81 3 := hF191 81 (by decide) 3
        have w213 : dt189 81 4 = dt4 81 4 := hF191 81 (by decide) 4
        have w214 : dt189 81 5 = dt4 81 5 := hF191 81 (by decide) 5
        rcases h188 with ⟨rfl, h188⟩ | ⟨rfl, h188⟩
        · skip
          have hM215 : MW (dt189 80) := h188.2.2.1
          obtain ⟨h188_0, h188_1, h188_2, h188_3, h188_4, h188_5, h188_6, h188_7, h188_8, h188_9, h188_10⟩ := h188
          have M2216 : MW (dt189 81) := MW_frk M2179 hF191 (by decide)
          have y217 := h188_4 0 (by decide)
          have y218 := h188_4 1 (by decide)
          have y219 := h188_4 2 (by decide)
          have y220 := h188_4 3 (by decide)
          have y221 := h188_4 4 (by decide)
          have y222 := h188_4 5 (by decide)
          have y223 := h188_5 0 (by decide)
          have y224 := h188_5 1 (by decide)
          have y225 := h188_5 2 (by decide)
          have y226 := h188_5 3 (by decide)
          have y227 := h188_5 4 (by decide)
          have y228 := h188_5 5 (by decide)
          have C229 : ∀ j : Nat, dt189 19 j = dt 19 j := fun j => (hF191 19 (by decide) j).trans (C180 j)
          have C230 : ∀ j : Nat, dt189 20 j = dt 20 j := fun j => (hF191 20 (by decide) j).trans (C181 j)
          have C231 : ∀ j : Nat, dt189 36 j = dt 36 j := fun j => (hF191 36 (by decide) j).trans (C182 j)
          have C232 : ∀ j : Nat, dt189 81 j = dt 81 j := fun j => (hF191 81 (by decide) j).trans (C184 j)
          have C233 : ∀ j : Nat, dt189 85 j = dt 85 j := fun j => (hF191 85 (by decide) j).trans (C185 j)
          have C234 : ∀ j : Nat, j < 192 → dt189 2 j = dt 2 j := fun j hj => (hF191 2 (by decide) j).trans (h3_15 j hj)
          have C235 : ∀ j : Nat, j < 8 → dt189 3 j = dt 3 j := fun j hj => (hF191 3 (by decide) j).trans (h3_16 j hj)
          have C236 : ∀ j : Nat, j < 192 → dt189 19 j = dt 19 j := fun j hj => (hF191 19 (by decide) j).trans (h3_17 j hj)
          have C237 : ∀ j : Nat, j < 8 → dt189 20 j = dt 20 j := fun j hj => (hF191 20 (by decide) j).trans (h3_18 j hj)
          have F238 : ∀ j : Nat, 6 ≤ j → j < 974 → dt189 80 j = dt 80 j := fun j _ hj => (h188_6 j (by omega)).trans (C183 j)
          have S239 : SCL (dt189 2) (dt189 3) (dt189 80) := by first | exact SCL_k hd1 hM C234 C235 F238 | (exfalso; omega)
          have F240 : ∀ j : Nat, 6 ≤ j → j < 974 → dt189 81 j = dt 81 j := fun j _ hj => (h188_7 j (by omega)).trans (C184 j)
          have S241 : SCL (dt189 19) (dt189 20) (dt189 81) := by first | exact SCL_k hd2 hM2 C236 C237 F240 | (exfalso; omega)
          refine go_toq PM267 (k := 2) (pc' := 1435) (L' := [some (.inr (.inr (some 3000))), some (.inr (.inr (some 0))), some (.inr (.inr (some 79))), some (.inl i)]) (st' := []) (w' := (SH, dt189)) rfl ?_
          exact K dt189 hI190 hM215 M2216 (by first | omega | (simp only [*]; done) | simp only [*]) (by omega) (by omega) (by omega) (by omega) (by omega) (by omega) (by omega) (by omega) (by omega) (by omega) (by omega) (by omega) (by omega) (by omega) (by omega) (by first | exact hI | exact TPL_k hd0 C231 C233 (by omega) | (exfalso; omega)) (by first | exact S239 | exact SCL_k hd1 hM (fun j _ => hI j) (fun j _ => hI j) hI | (exfalso; omega)) (by first | exact S241 | exact SCL_k hd2 hM2 (fun j _ => C229 j) (fun j _ => C230 j) (fun j _ _ => C232 j) | (exfalso; omega))
        · skip
          have hM242 : MW (dt189 80) := h188.2.2.1
          obtain ⟨h188_0, h188_1, h188_2, h188_3, h188_4, h188_5, h188_6, h188_7, h188_8, h188_9, h188_10⟩ := h188
          have M2243 : MW (dt189 81) := MW_frk M2179 hF191 (by decide)
          have y244 := h188_4 0 (by decide)
          have y245 := h188_4 1 (by decide)
          have y246 := h188_4 2 (by decide)
          have y247 := h188_4 3 (by decide)
          have y248 := h188_4 4 (by decide)
          have y249 := h188_4 5 (by decide)
          have y250 := h188_5 0 (by decide)
          have y251 := h188_5 1 (by decide)
          have y252 := h188_5 2 (by decide)
          have y253 := h188_5 3 (by decide)
          have y254 := h188_5 4 (by decide)
          have y255 := h188_5 5 (by decide)
          have C256 : ∀ j : Nat, dt189 19 j = dt 19 j := fun j => (hF191 19 (by decide) j).trans (C180 j)
          have C257 : ∀ j : Nat, dt189 20 j = dt 20 j := fun j => (hF191 20 (by decide) j).trans (C181 j)
          have C258 : ∀ j : Nat, dt189 36 j = dt 36 j := fun j => (hF191 36 (by decide) j).trans (C182 j)
          have C259 : ∀ j : Nat, dt189 81 j = dt 81 j := fun j => (hF191 81 (by decide) j).trans (C184 j)
          have C260 : ∀ j : Nat, dt189 85 j = dt 85 j := fun j => (hF191 85 (by decide) j).trans (C185 j)
          have C261 : ∀ j : Nat, j < 192 → dt189 2 j = dt 2 j := fun j hj => (hF191 2 (by decide) j).trans (h3_15 j hj)
          have C262 : ∀ j : Nat, j < 8 → dt189 3 j = dt 3 j := fun j hj => (hF191 3 (by decide) j).trans (h3_16 j hj)
          have C263 : ∀ j : Nat, j < 192 → dt189 19 j = dt 19 j := fun j hj => (hF191 19 (by decide) j).trans (h3_17 j hj)
          have C264 : ∀ j : Nat, j < 8 → dt189 20 j = dt 20 j := fun j hj => (hF191 20 (by decide) j).trans (h3_18 j hj)
          have F265 : ∀ j : Nat, 6 ≤ j → j < 974 → dt189 80 j = dt 81 j := fun j _ hj => (h188_6 j (by omega)).trans (C184 j)
          have S266 : SCL (dt189 2) (dt189 3) (dt189 80) := by first | exact SCL_k hd1 hM C261 C262 F265 | (exfalso; omega)
          have F267 : ∀ j : Nat, 6 ≤ j → j < 974 → dt189 81 j = dt 81 j := fun j _ hj => (h188_7 j (by omega)).trans (C184 j)
          have S268 : SCL (dt189 19) (dt189 20) (dt189 81) := by first | exact SCL_k hd2 hM2 C263 C264 F267 | (exfalso; omega)
          refine go_toq PM267 (k := 2) (pc' := 1435) (L' := [some (.inr (.inr (some 3000))), some (.inr (.inr (some 0))), some (.inr (.inr (some 79))), some (.inl i)]) (st' := []) (w' := (SH, dt189)) rfl ?_
          exact K dt189 hI190 hM242 M2243 (by first | omega | (simp only [*]; done) | simp only [*]) (by omega) (by omega) (by omega) (by omega) (by omega) (by omega) (by omega) (by omega) (by omega) (by omega) (by omega) (by omega) (by omega) (by omega) (by omega) (by first | exact hI | exact TPL_k hd0 C258 C260 (by omega) | (exfalso; omega)) (by first | exact S266 | exact SCL_k hd1 hM (fun j _ => hI j) (fun j _ => hI j) hI | (exfalso; omega)) (by first | exact S268 | exact SCL_k hd2 hM2 (fun j _ => C256 j) (fun j _ => C257 j) (fun j _ _ => C259 j) | (exfalso; omega))
      · skip
        refine go_toq PM267 (k := 2) (pc' := 1405) (L' := [some (.inr (.inr (some 3000))), some (.inr (.inr (some 0))), some (.inr (.inr (some 79))), some (.inl i)]) (st' := [.inl 1, .inr (.inr (some 79))]) (w' := (SH, dt4)) rfl ?_
        refine go_callq PM267 PM247 (Q' := _) rfl rfl rfl rfl (sp_X6_image_1v L xs sio (d + 38) dt4 hI5 hM8   ) ?_
        rintro _ _ ⟨dt270, rfl, hI271, hF272, h269⟩
        refine ⟨rfl, ?_⟩
        have hF273 : Fr [0, 1, 2, 3, 4, 5, 6, 7, 8, 9, 10, 11, 12, 13, 14, 15, 16, 17, 18, 19, 20, 21, 22, 23, 24, 25, 26, 27, 28, 29, 30, 31, 32, 33, 34, 35, 36, 37, 38, 39, 40, 41, 42, 43, 44, 45, 46, 47, 48, 49, 50, 51, 52, 53, 54, 55, 56, 57, 58, 59, 60, 61, 62, 63, 64, 65, 66, 67, 68, 69, 70, 71, 72, 73, 74, 75, 76, 77, 78, 79, 80, 81, 82, 83, 84, 85, 86, 87, 88, 89, 90, 91, 92, 93, 94, 95, 96, 97, 98, 99, 100, 101, 102, 103, 104] dt dt270 := Fr_tr hF7 hF272 (by decide)
        have hM274 : MW (dt270 80) := MW_fr hM8 hF272 (by decide)
        have w275 : dt270 1 0 = dt4 1 0 := hF272 1 (by decide) 0
        have w276 : dt270 7 3 = dt4 7 3 := hF272 7 (by decide) 3
        have w277 : dt270 10 3 = dt4 10 3 := hF272 10 (by decide) 3
        have w278 : dt270 12 3 = dt4 12 3 := hF272 12 (by decide) 3
        have w279 : dt270 14 3 = dt4 14 3 := hF272 14 (by decide) 3
        have w280 : dt270 16 3 = dt4 16 3 := hF272 16 (by decide) 3
        have w281 : dt270 18 0 = dt4 18 0 := hF272 18 (by decide) 0
        have w282 : dt270 24 3 = dt4 24 3 := hF272 24 (by decide) 3
        have w283 : dt270 27 3 = dt4 27 3 := hF272 27 (by decide) 3
        have w284 : dt270 29 3 = dt4 29 3 := hF272 29 (by decide) 3
        have w285 : dt270 31 3 = dt4 31 3 := hF272 31 (by decide) 3
        have w286 : dt270 33 3 = dt4 33 3 := hF272 33 (by decide) 3
        have w287 : dt270 0 2 = dt4 0 2 := hF272 0 (by decide) 2
        have w288 : dt270 35 1 = dt4 35 1 := hF272 35 (by decide) 1
        have w289 : dt270 35 2 = dt4 35 2 := hF272 35 (by decide) 2
        have w290 : dt270 35 3 = dt4 35 3 := hF272 35 (by decide) 3
        have w291 : dt270 80 0 = dt4 80 0 := hF272 80 (by decide) 0
        have w292 : dt270 80 1 = dt4 80 1 := hF272 80 (by decide) 1
        have w293 : dt270 80 2 = dt4 80 2 := hF272 80 (by decide) 2
        have w294 : dt270 80 3 = dt4 80 3 := hF272 80 (by decide) 3
        have w295 : dt270 80 4 = dt4 80 4 := hF272 80 (by decide) 4
        have w296 : dt270 80 5 = dt4 80 5 := hF272 80 (by decide) 5
        rcases h269 with ⟨rfl, h269⟩
        have hM297 : MW (dt270 80) := h269.2.1
        obtain ⟨h269_0, h269_1, h269_2, h269_3, h269_4, h269_5, h269_6, h269_7, h269_8, h269_9⟩ := h269
        have y298 := h269_3 0 (by decide)
        have y299 := h269_3 1 (by decide)
        have y300 := h269_3 2 (by decide)
        have y301 := h269_3 3 (by decide)
        have y302 := h269_3 4 (by decide)
        have y303 := h269_3 5 (by decide)
        have y304 := h269_4 0 (by decide)
        have y305 := h269_4 1 (by decide)
        have y306 := h269_4 2 (by decide)
        have y307 := h269_4 3 (by decide)
        have y308 := h269_4 4 (by decide)
        have y309 := h269_4 5 (by decide)
        have C310 : ∀ j : Nat, dt270 19 j = dt 19 j := fun j => (hF272 19 (by decide) j).trans (C180 j)
        have C311 : ∀ j : Nat, dt270 20 j = dt 20 j := fun j => (hF272 20 (by decide) j).trans (C181 j)
        have C312 : ∀ j : Nat, dt270 36 j = dt 36 j := fun j => (hF272 36 (by decide) j).trans (C182 j)
        have C313 : ∀ j : Nat, dt270 80 j = dt 80 j := fun j => (hF272 80 (by decide) j).trans (C183 j)
        have C314 : ∀ j : Nat, dt270 85 j = dt 85 j := fun j => (hF272 85 (by decide) j).trans (C185 j)
        have C315 : ∀ j : Nat, j < 192 → dt270 2 j = dt 2 j := fun j hj => (hF272 2 (by decide) j).trans (h3_15 j hj)
        have C316 : ∀ j : Nat, j < 8 → dt270 3 j = dt 3 j := fun j hj => (hF272 3 (by decide) j).trans (h3_16 j hj)
        have C317 : ∀ j : Nat, j < 192 → dt270 19 j = dt 19 j := fun j hj => (hF272 19 (by decide) j).trans (h3_17 j hj)
        have C318 : ∀ j : Nat, j < 8 → dt270 20 j = dt 20 j := fun j hj => (hF272 20 (by decide) j).trans (h3_18 j hj)
        have F319 : ∀ j : Nat, 6 ≤ j → j < 974 → dt270 80 j = dt 80 j := fun j _ hj => (h269_5 j (by omega)).trans (C183 j)
        have S320 : SCL (dt270 2) (dt270 3) (dt270 80) := by first | exact SCL_k hd1 hM C315 C316 F319 | (exfalso; omega)
        have F321 : ∀ j : Nat, 6 ≤ j → j < 974 → dt270 81 j = dt 80 j := fun j _ hj => (h269_6 j (by omega)).trans (C183 j)
        have S322 : SCL (dt270 19) (dt270 20) (dt270 81) := by first | exact SCL_k hd2 hM2 C317 C318 F321 | (exfalso; omega)
        refine go_toq PM267 (k := 2) (pc' := 1435) (L' := [some (.inr (.inr (some 3000))), some (.inr (.inr (some 0))), some (.inr (.inr (some 79))), some (.inl i)]) (st' := []) (w' := (SH, dt270)) rfl ?_
        exact K dt270 hI271 hM297 h269_2 (by first | omega | (simp only [*]; done) | simp only [*]) (by omega) (by omega) (by omega) (by omega) (by omega) (by omega) (by omega) (by omega) (by omega) (by omega) (by omega) (by omega) (by omega) (by omega) (by omega) (by first | exact hI | exact TPL_k hd0 C312 C314 (by omega) | (exfalso; omega)) (by first | exact S320 | exact SCL_k hd1 hM (fun j _ => hI j) (fun j _ => hI j) (fun j _ _ => C313 j) | (exfalso; omega)) (by first | exact S322 | exact SCL_k hd2 hM2 (fun j _ => C310 j) (fun j _ => C311 j) hI | (exfalso; omega))
  · skip
    refine go_toq PM267 (k := 2) (pc' := 1387) (L' := [some (.inr (.inr (some 3000))), some (.inr (.inr (some 0))), some (.inr (.inr (some 79))), some (.inl i)]) (st' := [.inl 1, .inr (.inr (some 0))]) (w' := (SH, dt)) rfl ?_
    refine go_callq PM267 PM98 (Q' := _) rfl rfl rfl rfl (sp_X5_image_1s L xs sio (d + 35) dt hI   ) ?_
    rintro _ _ ⟨dt324, rfl, hI325, hF326, h323⟩
    refine ⟨rfl, ?_⟩
    have hF327 : Fr [0, 1, 2, 3, 4, 5, 6, 7, 8, 9, 10, 11, 12, 13, 14, 15, 16, 17, 18, 19, 20, 21, 22, 23, 24, 25, 26, 27, 28, 29, 30, 31, 32, 33, 34, 35, 36, 37, 38, 39, 40, 41, 42, 43, 44, 45, 46, 47, 48, 49, 50, 51, 52, 53, 54, 55, 56, 57, 58, 59, 60, 61, 62, 63, 64, 65, 66, 67, 68, 69, 70, 71, 72, 73, 74, 75, 76, 77, 78, 79, 80, 81, 82, 83, 84, 85, 86, 87, 88, 89, 90, 91, 92, 93, 94, 95, 96, 97, 98, 99, 100, 101, 102, 103, 104] dt dt324 := Fr_tr hF hF326 (by decide)
    have hM328 : MW (dt324 80) := MW_fr hM hF326 (by decide)
    have w329 : dt324 1 0 = dt 1 0 := hF326 1 (by decide) 0
    have w330 : dt324 7 3 = dt 7 3 := hF326 7 (by decide) 3
    have w331 : dt324 10 3 = dt 10 3 := hF326 10 (by decide) 3
    have w332 : dt324 12 3 = dt 12 3 := hF326 12 (by decide) 3
    have w333 : dt324 14 3 = dt 14 3 := hF326 14 (by decide) 3
    have w334 : dt324 16 3 = dt 16 3 := hF326 16 (by decide) 3
    have w335 : dt324 35 1 = dt 35 1 := hF326 35 (by decide) 1
    have w336 : dt324 35 2 = dt 35 2 := hF326 35 (by decide) 2
    have w337 : dt324 35 3 = dt 35 3 := hF326 35 (by decide) 3
    have w338 : dt324 80 0 = dt 80 0 := hF326 80 (by decide) 0
    have w339 : dt324 80 1 = dt 80 1 := hF326 80 (by decide) 1
    have w340 : dt324 80 2 = dt 80 2 := hF326 80 (by decide) 2
    have w341 : dt324 80 3 = dt 80 3 := hF326 80 (by decide) 3
    have w342 : dt324 80 4 = dt 80 4 := hF326 80 (by decide) 4
    have w343 : dt324 80 5 = dt 80 5 := hF326 80 (by decide) 5
    have w344 : dt324 81 0 = dt 81 0 := hF326 81 (by decide) 0
    have w345 : dt324 81 1 = dt 81 1 := hF326 81 (by decide) 1
    have w346 : dt324 81 2 = dt 81 2 := hF326 81 (by decide) 2
    have w347 : dt324 81 3 = dt 81 3 := hF326 81 (by decide) 3
    have w348 : dt324 81 4 = dt 81 4 := hF326 81 (by decide) 4
    have w349 : dt324 81 5 = dt 81 5 := hF326 81 (by decide) 5
    have w350 : dt324 79 2 = dt 79 2 := hF326 79 (by decide) 2
    have w351 : dt324 79 12 = dt 79 12 := hF326 79 (by decide) 12
    have w352 : dt324 79 19 = dt 79 19 := hF326 79 (by decide) 19
    have w353 : dt324 79 21 = dt 79 21 := hF326 79 (by decide) 21
    rcases h323 with ⟨v_h323, rfl, h323r, h323⟩
    obtain ⟨h323_0, h323_1, h323_2, h323_3, h323_4, h323_5, h323_6, h323_7, h323_8, h323_9, h323_10, h323_11, h323_12, h323_13, h323_14, h323_15, h323_16, h323_17⟩ := h323
    have M2354 : MW (dt324 81) := MW_frk hM2 hF326 (by decide)
    have C355 : ∀ j : Nat, dt324 2 j = dt 2 j := fun j => (hF326 2 (by decide) j).trans ((fun _ => rfl) j)
    have C356 : ∀ j : Nat, dt324 3 j = dt 3 j := fun j => (hF326 3 (by decide) j).trans ((fun _ => rfl) j)
    have C357 : ∀ j : Nat, dt324 36 j = dt 36 j := fun j => (hF326 36 (by decide) j).trans ((fun _ => rfl) j)
    have C358 : ∀ j : Nat, dt324 80 j = dt 80 j := fun j => (hF326 80 (by decide) j).trans ((fun _ => rfl) j)
    have C359 : ∀ j : Nat, dt324 81 j = dt 81 j := fun j => (hF326 81 (by decide) j).trans ((fun _ => rfl) j)
    have C360 : ∀ j : Nat, dt324 85 j = dt 85 j := fun j => (hF326 85 (by decide) j).trans ((fun _ => rfl) j)
    refine go_toq PM267 (k := 6) (pc' := 1396) (L' := [some (.inr (.inr (some 3000))), some (.inr (.inr (some 0))), some (.inr (.inr (some 79))), some (.inl i)]) (st' := [.inl (i + 1), .inr (.inr (some 3000)), .inr (.inr (some 79))]) (w' := (SH, dt324)) rfl ?_
    have r361 := i32_R (xs ((i + 1).toNat))
    refine go_smpq PM267 (L' := [some (.inr (.inr (some 3000))), some (.inr (.inr (some 0))), some (.inr (.inr (some 79))), some (.inl i)]) (st' := [.inl ((xs ((i + 1).toNat)).toInt), .inr (.inr (some 79))]) (w' := (SH, dt324)) rfl rfl (s_iald (n := L) (f := fun j => (xs j).toInt) (am_scr hLL) ⟨by omega, by omega⟩) ?_
    refine go_ifq PM267 (k := 0) (p1 := 1404) (p2 := 1400) (L' := [some (.inr (.inr (some 3000))), some (.inr (.inr (some 0))), some (.inr (.inr (some 79))), some (.inl i)]) (st' := [.inr (.inr (some 79))]) (w' := (SH, dt324)) rfl (z_eq (a := (xs ((i + 1).toNat)).toInt) ⟨by omega, by omega⟩) (fun c362 => ?_) (fun c362 => ?_)
    · skip
      refine go_toq PM267 (k := 1) (pc' := 1405) (L' := [some (.inr (.inr (some 3000))), some (.inr (.inr (some 0))), some (.inr (.inr (some 79))), some (.inl i)]) (st' := [.inl 0, .inr (.inr (some 79))]) (w' := (SH, dt324)) rfl ?_
      refine go_callq PM267 PM247 (Q' := _) rfl rfl rfl rfl (sp_X6_image_0v L xs sio (d + 38) dt324 hI325 hM328   (by first | exact True.intro | rfl | omega | trivial | exact M2354 | exact hd1)) ?_
      rintro _ _ ⟨dt364, rfl, hI365, hF366, h363⟩
      refine ⟨rfl, ?_⟩
      have hF367 : Fr [0, 1, 2, 3, 4, 5, 6, 7, 8, 9, 10, 11, 12, 13, 14, 15, 16, 17, 18, 19, 20, 21, 22, 23, 24, 25, 26, 27, 28, 29, 30, 31, 32, 33, 34, 35, 36, 37, 38, 39, 40, 41, 42, 43, 44, 45, 46, 47, 48, 49, 50, 51, 52, 53, 54, 55, 56, 57, 58, 59, 60, 61, 62, 63, 64, 65, 66, 67, 68, 69, 70, 71, 72, 73, 74, 75, 76, 77, 78, 79, 80, 81, 82, 83, 84, 85, 86, 87, 88, 89, 90, 91, 92, 93, 94, 95, 96, 97, 98, 99, 100, 101, 102, 103, 104] dt dt364 := Fr_tr hF327 hF366 (by decide)
      have w368 : dt364 1 0 = dt324 1 0 := hF366 1 (by decide) 0
      have w369 : dt364 7 3 = dt324 7 3 := hF366 7 (by decide) 3
      have w370 : dt364 10 3 = dt324 10 3 := hF366 10 (by decide) 3
      have w371 : dt364 12 3 = dt324 12 3 := hF366 12 (by decide) 3
      have w372 : dt364 14 3 = dt324 14 3 := hF366 14 (by decide) 3
      have w373 : dt364 16 3 = dt324 16 3 := hF366 16 (by decide) 3
      have w374 : dt364 18 0 = dt324 18 0 := hF366 18 (by decide) 0
      have w375 : dt364 24 3 = dt324 24 3 := hF366 24 (by decide) 3
      have w376 : dt364 27 3 = dt324 27 3 := hF366 27 (by decide) 3
      have w377 : dt364 29 3 = dt324 29 3 := hF366 29 (by decide) 3
      have w378 : dt364 31 3 = dt324 31 3 := hF366 31 (by decide) 3
      have w379 : dt364 33 3 = dt324 33 3 := hF366 33 (by decide) 3
      have w380 : dt364 0 2 = dt324 0 2 := hF366 0 (by decide) 2
      have w381 : dt364 35 1 = dt324 35 1 := hF366 35 (by decide) 1
      have w382 : dt364 35 2 = dt324 35 2 := hF366 35 (by decide) 2
      have w383 : dt364 35 3 = dt324 35 3 := hF366 35 (by decide) 3
      have w384 : dt364 81 0 = dt324 81 0 := hF366 81 (by decide) 0
      have w385 : dt364 81 1 = dt324 81 1 := hF366 81 (by decide) 1
      have w386 : dt364 81 2 = dt324 81 2 := hF366 81 (by decide) 2
      have w387 : dt364 81 3 = dt324 81 3 := hF366 81 (by decide) 3
      have w388 : dt364 81 4 = dt324 81 4 := hF366 81 (by decide) 4
      have w389 : dt364 81 5 = dt324 81 5 := hF366 81 (by decide) 5
      rcases h363 with ⟨rfl, h363⟩ | ⟨rfl, h363⟩
      · skip
        have hM390 : MW (dt364 80) := h363.2.2.1
        obtain ⟨h363_0, h363_1, h363_2, h363_3, h363_4, h363_5, h363_6, h363_7, h363_8, h363_9, h363_10⟩ := h363
        have M2391 : MW (dt364 81) := MW_frk M2354 hF366 (by decide)
        have y392 := h363_4 0 (by decide)
        have y393 := h363_4 1 (by decide)
        have y394 := h363_4 2 (by decide)
        have y395 := h363_4 3 (by decide)
        have y396 := h363_4 4 (by decide)
        have y397 := h363_4 5 (by decide)
        have y398 := h363_5 0 (by decide)
        have y399 := h363_5 1 (by decide)
        have y400 := h363_5 2 (by decide)
        have y401 := h363_5 3 (by decide)
        have y402 := h363_5 4 (by decide)
        have y403 := h363_5 5 (by decide)
        have C404 : ∀ j : Nat, dt364 2 j = dt 2 j := fun j => (hF366 2 (by decide) j).trans (C355 j)
        have C405 : ∀ j : Nat, dt364 3 j = dt 3 j := fun j => (hF366 3 (by decide) j).trans (C356 j)
        have C406 : ∀ j : Nat, dt364 36 j = dt 36 j := fun j => (hF366 36 (by decide) j).trans (C357 j)
        have C407 : ∀ j : Nat, dt364 81 j = dt 81 j := fun j => (hF366 81 (by decide) j).trans (C359 j)
        have C408 : ∀ j : Nat, dt364 85 j = dt 85 j := fun j => (hF366 85 (by decide) j).trans (C360 j)
        have C409 : ∀ j : Nat, j < 192 → dt364 2 j = dt 2 j := fun j hj => (hF366 2 (by decide) j).trans (h323_14 j hj)
        have C410 : ∀ j : Nat, j < 8 → dt364 3 j = dt 3 j := fun j hj => (hF366 3 (by decide) j).trans (h323_15 j hj)
        have C411 : ∀ j : Nat, j < 192 → dt364 19 j = dt 2 j := fun j hj => (hF366 19 (by decide) j).trans (h323_16 j hj)
        have C412 : ∀ j : Nat, j < 8 → dt364 20 j = dt 3 j := fun j hj => (hF366 20 (by decide) j).trans (h323_17 j hj)
        have F413 : ∀ j : Nat, 6 ≤ j → j < 974 → dt364 80 j = dt 80 j := fun j _ hj => (h363_6 j (by omega)).trans (C358 j)
        have S414 : SCL (dt364 2) (dt364 3) (dt364 80) := by first | exact SCL_k hd1 hM C409 C410 F413 | (exfalso; omega)
        have F415 : ∀ j : Nat, 6 ≤ j → j < 974 → dt364 81 j = dt 81 j := fun j _ hj => (h363_7 j (by omega)).trans (C359 j)
        have S416 : SCL (dt364 19) (dt364 20) (dt364 81) := by first | exact SCL_k hd1 hM C411 C412 F415 | (exfalso; omega)
        refine go_toq PM267 (k := 2) (pc' := 1435) (L' := [some (.inr (.inr (some 3000))), some (.inr (.inr (some 0))), some (.inr (.inr (some 79))), some (.inl i)]) (st' := []) (w' := (SH, dt364)) rfl ?_
        exact K dt364 hI365 hM390 M2391 (by first | omega | (simp only [*]; done) | simp only [*]) (by omega) (by omega) (by omega) (by omega) (by omega) (by omega) (by omega) (by omega) (by omega) (by omega) (by omega) (by omega) (by omega) (by omega) (by omega) (by first | exact hI | exact TPL_k hd0 C406 C408 (by omega) | (exfalso; omega)) (by first | exact S414 | exact SCL_k hd1 hM (fun j _ => C404 j) (fun j _ => C405 j) hI | (exfalso; omega)) (by first | exact S416 | exact SCL_k hd2 hM2 (fun j _ => hI j) (fun j _ => hI j) (fun j _ _ => C407 j) | (exfalso; omega))
      · skip
        have hM417 : MW (dt364 80) := h363.2.2.1
        obtain ⟨h363_0, h363_1, h363_2, h363_3, h363_4, h363_5, h363_6, h363_7, h363_8, h363_9, h363_10⟩ := h363
        have M2418 : MW (dt364 81) := MW_frk M2354 hF366 (by decide)
        have y419 := h363_4 0 (by decide)
        have y420 := h363_4 1 (by decide)
        have y421 := h363_4 2 (by decide)
        have y422 := h363_4 3 (by decide)
        have y423 := h363_4 4 (by decide)
        have y424 := h363_4 5 (by decide)
        have y425 := h363_5 0 (by decide)
        have y426 := h363_5 1 (by decide)
        have y427 := h363_5 2 (by decide)
        have y428 := h363_5 3 (by decide)
        have y429 := h363_5 4 (by decide)
        have y430 := h363_5 5 (by decide)
        have C431 : ∀ j : Nat, dt364 2 j = dt 2 j := fun j => (hF366 2 (by decide) j).trans (C355 j)
        have C432 : ∀ j : Nat, dt364 3 j = dt 3 j := fun j => (hF366 3 (by decide) j).trans (C356 j)
        have C433 : ∀ j : Nat, dt364 36 j = dt 36 j := fun j => (hF366 36 (by decide) j).trans (C357 j)
        have C434 : ∀ j : Nat, dt364 81 j = dt 81 j := fun j => (hF366 81 (by decide) j).trans (C359 j)
        have C435 : ∀ j : Nat, dt364 85 j = dt 85 j := fun j => (hF366 85 (by decide) j).trans (C360 j)
        have C436 : ∀ j : Nat, j < 192 → dt364 2 j = dt 2 j := fun j hj => (hF366 2 (by decide) j).trans (h323_14 j hj)
        have C437 : ∀ j : Nat, j < 8 → dt364 3 j = dt 3 j := fun j hj => (hF366 3 (by decide) j).trans (h323_15 j hj)
        have C438 : ∀ j : Nat, j < 192 → dt364 19 j = dt 2 j := fun j hj => (hF366 19 (by decide) j).trans (h323_16 j hj)
        have C439 : ∀ j : Nat, j < 8 → dt364 20 j = dt 3 j := fun j hj => (hF366 20 (by decide) j).trans (h323_17 j hj)
        have F440 : ∀ j : Nat, 6 ≤ j → j < 974 → dt364 80 j = dt 81 j := fun j _ hj => (h363_6 j (by omega)).trans (C359 j)
        have S441 : SCL (dt364 2) (dt364 3) (dt364 80) := by first | exact SCL_k hd1 hM C436 C437 F440 | (exfalso; omega)
        have F442 : ∀ j : Nat, 6 ≤ j → j < 974 → dt364 81 j = dt 81 j := fun j _ hj => (h363_7 j (by omega)).trans (C359 j)
        have S443 : SCL (dt364 19) (dt364 20) (dt364 81) := by first | exact SCL_k hd1 hM C438 C439 F442 | (exfalso; omega)
        refine go_toq PM267 (k := 2) (pc' := 1435) (L' := [some (.inr (.inr (some 3000))), some (.inr (.inr (some 0))), some (.inr (.inr (some 79))), some (.inl i)]) (st' := []) (w' := (SH, dt364)) rfl ?_
        exact K dt364 hI365 hM417 M2418 (by first | omega | (simp only [*]; done) | simp only [*]) (by omega) (by omega) (by omega) (by omega) (by omega) (by omega) (by omega) (by omega) (by omega) (by omega) (by omega) (by omega) (by omega) (by omega) (by omega) (by first | exact hI | exact TPL_k hd0 C433 C435 (by omega) | (exfalso; omega)) (by first | exact S441 | exact SCL_k hd1 hM (fun j _ => C431 j) (fun j _ => C432 j) hI | (exfalso; omega)) (by first | exact S443 | exact SCL_k hd2 hM2 (fun j _ => hI j) (fun j _ => hI j) (fun j _ _ => C434 j) | (exfalso; omega))
    · skip
      refine go_toq PM267 (k := 2) (pc' := 1405) (L' := [some (.inr (.inr (some 3000))), some (.inr (.inr (some 0))), some (.inr (.inr (some 79))), some (.inl i)]) (st' := [.inl 1, .inr (.inr (some 79))]) (w' := (SH, dt324)) rfl ?_
      refine go_callq PM267 PM247 (Q' := _) rfl rfl rfl rfl (sp_X6_image_1v L xs sio (d + 38) dt324 hI325 hM328   ) ?_
      rintro _ _ ⟨dt445, rfl, hI446, hF447, h444⟩
      refine ⟨rfl, ?_⟩
      have hF448 : Fr [0, 1, 2, 3, 4, 5, 6, 7, 8, 9, 10, 11, 12, 13, 14, 15, 16, 17, 18, 19, 20, 21, 22, 23, 24, 25, 26, 27, 28, 29, 30, 31, 32, 33, 34, 35, 36, 37, 38, 39, 40, 41, 42, 43, 44, 45, 46, 47, 48, 49, 50, 51, 52, 53, 54, 55, 56, 57, 58, 59, 60, 61, 62, 63, 64, 65, 66, 67, 68, 69, 70, 71, 72, 73, 74, 75, 76, 77, 78, 79, 80, 81, 82, 83, 84, 85, 86, 87, 88, 89, 90, 91, 92, 93, 94, 95, 96, 97, 98, 99, 100, 101, 102, 103, 104] dt dt445 := Fr_tr hF327 hF447 (by decide)
      have hM449 : MW (dt445 80) := MW_fr hM328 hF447 (by decide)
      have w450 : dt445 1 0 = dt324 1 0 := hF447 1 (by decide) 0
      have w451 : dt445 7 3 = dt324 7 3 := hF447 7 (by decide) 3
      have w452 : dt445 10 3 = dt324 10 3 := hF447 10 (by decide) 3
      have w453 : dt445 12 3 = dt324 12 3 := hF447 12 (by decide) 3
      have w454 : dt445 14 3 = dt324 14 3 := hF447 14 (by decide) 3
      have w455 : dt445 16 3 = dt324 16 3 := hF447 16 (by decide) 3
      have w456 : dt445 18 0 = dt324 18 0 := hF447 18 (by decide) 0
      have w457 : dt445 24 3 = dt324 24 3 := hF447 24 (by decide) 3
      have w458 : dt445 27 3 = dt324 27 3 := hF447 27 (by decide) 3
      have w459 : dt445 29 3 = dt324 29 3 := hF447 29 (by decide) 3
      have w460 : dt445 31 3 = dt324 31 3 := hF447 31 (by decide) 3
      have w461 : dt445 33 3 = dt324 33 3 := hF447 33 (by decide) 3
      have w462 : dt445 0 2 = dt324 0 2 := hF447 0 (by decide) 2
      have w463 : dt445 35 1 = dt324 35 1 := hF447 35 (by decide) 1
      have w464 : dt445 35 2 = dt324 35 2 := hF447 35 (by decide) 2
      have w465 : dt445 35 3 = dt324 35 3 := hF447 35 (by decide) 3
      have w466 : dt445 80 0 = dt324 80 0 := hF447 80 (by decide) 0
      have w467 : dt445 80 1 = dt324 80 1 := hF447 80 (by decide) 1
      have w468 : dt445 80 2 = dt324 80 2 := hF447 80 (by decide) 2
      have w469 : dt445 80 3 = dt324 80 3 := hF447 80 (by decide) 3
      have w470 : dt445 80 4 = dt324 80 4 := hF447 80 (by decide) 4
      have w471 : dt445 80 5 = dt324 80 5 := hF447 80 (by decide) 5
      rcases h444 with ⟨rfl, h444⟩
      have hM472 : MW (dt445 80) := h444.2.1
      obtain ⟨h444_0, h444_1, h444_2, h444_3, h444_4, h444_5, h444_6, h444_7, h444_8, h444_9⟩ := h444
      have y473 := h444_3 0 (by decide)
      have y474 := h444_3 1 (by decide)
      have y475 := h444_3 2 (by decide)
      have y476 := h444_3 3 (by decide)
      have y477 := h444_3 4 (by decide)
      have y478 := h444_3 5 (by decide)
      have y479 := h444_4 0 (by decide)
      have y480 := h444_4 1 (by decide)
      have y481 := h444_4 2 (by decide)
      have y482 := h444_4 3 (by decide)
      have y483 := h444_4 4 (by decide)
      have y484 := h444_4 5 (by decide)
      have C485 : ∀ j : Nat, dt445 2 j = dt 2 j := fun j => (hF447 2 (by decide) j).trans (C355 j)
      have C486 : ∀ j : Nat, dt445 3 j = dt 3 j := fun j => (hF447 3 (by decide) j).trans (C356 j)
      have C487 : ∀ j : Nat, dt445 36 j = dt 36 j := fun j => (hF447 36 (by decide) j).trans (C357 j)
      have C488 : ∀ j : Nat, dt445 80 j = dt 80 j := fun j => (hF447 80 (by decide) j).trans (C358 j)
      have C489 : ∀ j : Nat, dt445 85 j = dt 85 j := fun j => (hF447 85 (by decide) j).trans (C360 j)
      have C490 : ∀ j : Nat, j < 192 → dt445 2 j = dt 2 j := fun j hj => (hF447 2 (by decide) j).trans (h323_14 j hj)
      have C491 : ∀ j : Nat, j < 8 → dt445 3 j = dt 3 j := fun j hj => (hF447 3 (by decide) j).trans (h323_15 j hj)
      have C492 : ∀ j : Nat, j < 192 → dt445 19 j = dt 2 j := fun j hj => (hF447 19 (by decide) j).trans (h323_16 j hj)
      have C493 : ∀ j : Nat, j < 8 → dt445 20 j = dt 3 j := fun j hj => (hF447 20 (by decide) j).trans (h323_17 j hj)
      have F494 : ∀ j : Nat, 6 ≤ j → j < 974 → dt445 80 j = dt 80 j := fun j _ hj => (h444_5 j (by omega)).trans (C358 j)
      have S495 : SCL (dt445 2) (dt445 3) (dt445 80) := by first | exact SCL_k hd1 hM C490 C491 F494 | (exfalso; omega)
      have F496 : ∀ j : Nat, 6 ≤ j → j < 974 → dt445 81 j = dt 80 j := fun j _ hj => (h444_6 j (by omega)).trans (C358 j)
      have S497 : SCL (dt445 19) (dt445 20) (dt445 81) := by first | exact SCL_k hd1 hM C492 C493 F496 | (exfalso; omega)
      refine go_toq PM267 (k := 2) (pc' := 1435) (L' := [some (.inr (.inr (some 3000))), some (.inr (.inr (some 0))), some (.inr (.inr (some 79))), some (.inl i)]) (st' := []) (w' := (SH, dt445)) rfl ?_
      exact K dt445 hI446 hM472 h444_2 (by first | omega | (simp only [*]; done) | simp only [*]) (by omega) (by omega) (by omega) (by omega) (by omega) (by omega) (by omega) (by omega) (by omega) (by omega) (by omega) (by omega) (by omega) (by omega) (by omega) (by first | exact hI | exact TPL_k hd0 C487 C489 (by omega) | (exfalso; omega)) (by first | exact S495 | exact SCL_k hd1 hM (fun j _ => C485 j) (fun j _ => C486 j) (fun j _ _ => C488 j) | (exfalso; omega)) (by first | exact S497 | exact SCL_k hd2 hM2 (fun j _ => hI j) (fun j _ => hI j) hI | (exfalso; omega))
set_option maxRecDepth 20000 in
set_option maxHeartbeats 8000000 in
theorem sp_case32 (L : Nat) (xs : Nat → Int32) (sio : Option Nat) (d : Nat) (Q : Option AV → am_W → Prop) (hLL : L ≤ 3072) (i : Int) (hi : 0 ≤ i ∧ i ≤ 3066) (hil : i ≤ (L : Int) - 6) (dt : Nat → Nat → Int) (hI : InvC dt) (hM : MW (dt 80)) (hM2 : MW (dt 81)) (hk0 : dt 1 0 = dt 80 0) (hk1 : dt 7 3 = dt 80 1) (hk2 : dt 10 3 = dt 80 2) (hk3 : dt 12 3 = dt 80 3) (hk4 : dt 14 3 = dt 80 4) (hk5 : dt 16 3 = dt 80 5) (hk6 : dt 18 0 = dt 81 0) (hk7 : dt 24 3 = dt 81 1) (hk8 : dt 27 3 = dt 81 2) (hk9 : dt 29 3 = dt 81 3) (hk10 : dt 31 3 = dt 81 4) (hk11 : dt 33 3 = dt 81 5) (hk12 : dt 0 2 = dt 79 2) (hk13 : dt 35 1 = dt 79 12) (hk14 : dt 35 2 = dt 79 19) (hk15 : dt 35 3 = dt 79 21) (hd0 : TPL (dt 36) (dt 85) (dt 35 1)) (hd1 : SCL (dt 2) (dt 3) (dt 80)) (hd2 : SCL (dt 19) (dt 20) (dt 81)) (K : ∀ (dt : Nat → Nat → Int) (hI : InvC dt) (hM : MW (dt 80)) (hM2 : MW (dt 81)) (hk0 : dt 1 0 = dt 80 0) (hk1 : dt 7 3 = dt 80 1) (hk2 : dt 10 3 = dt 80 2) (hk3 : dt 12 3 = dt 80 3) (hk4 : dt 14 3 = dt 80 4) (hk5 : dt 16 3 = dt 80 5) (hk6 : dt 18 0 = dt 81 0) (hk7 : dt 24 3 = dt 81 1) (hk8 : dt 27 3 = dt 81 2) (hk9 : dt 29 3 = dt 81 3) (hk10 : dt 31 3 = dt 81 4) (hk11 : dt 33 3 = dt 81 5) (hk12 : dt 0 2 = dt 79 2) (hk13 : dt 35 1 = dt 79 12) (hk14 : dt 35 2 = dt 79 19) (hk15 : dt 35 3 = dt 79 21) (hd0 : TPL (dt 36) (dt 85) (dt 35 1)) (hd1 : SCL (dt 2) (dt 3) (dt 80)) (hd2 : SCL (dt 19) (dt 20) (dt 81)), GO (am_XX L xs sio) (d + 39) 267 1435 [some (.inr (.inr (some 3000))), some (.inr (.inr (some 0))), some (.inr (.inr (some 79))), some (.inl i)] [] (SH, dt) Q) : GO (am_XX L xs sio) (d + 39) 267 1412 [some (.inr (.inr (some 3000))), some (.inr (.inr (some 0))), some (.inr (.inr (some 79))), some (.inl i)] [] (SH, dt) Q := by
  have hF : Fr [0, 1, 2, 3, 4, 5, 6, 7, 8, 9, 10, 11, 12, 13, 14, 15, 16, 17, 18, 19, 20, 21, 22, 23, 24, 25, 26, 27, 28, 29, 30, 31, 32, 33, 34, 35, 36, 37, 38, 39, 40, 41, 42, 43, 44, 45, 46, 47, 48, 49, 50, 51, 52, 53, 54, 55, 56, 57, 58, 59, 60, 61, 62, 63, 64, 65, 66, 67, 68, 69, 70, 71, 72, 73, 74, 75, 76, 77, 78, 79, 80, 81, 82, 83, 84, 85, 86, 87, 88, 89, 90, 91, 92, 93, 94, 95, 96, 97, 98, 99, 100, 101, 102, 103, 104] dt dt := Fr_refl
  refine go_toq PM267 (k := 5) (pc' := 1417) (L' := [some (.inr (.inr (some 3000))), some (.inr (.inr (some 0))), some (.inr (.inr (some 79))), some (.inl i)]) (st' := [.inl (i + 1), .inr (.inr (some 3000)), .inr (.inr (some 0))]) (w' := (SH, dt)) rfl ?_
  have r1 := i32_R (xs ((i + 1).toNat))
  refine go_smpq PM267 (L' := [some (.inr (.inr (some 3000))), some (.inr (.inr (some 0))), some (.inr (.inr (some 79))), some (.inl i)]) (st' := [.inl ((xs ((i + 1).toNat)).toInt), .inr (.inr (some 0))]) (w' := (SH, dt)) rfl rfl (s_iald (n := L) (f := fun j => (xs j).toInt) (am_scr hLL) ⟨by omega, by omega⟩) ?_
  refine go_callq PM267 PM99 (Q' := _) rfl rfl rfl rfl (sp_X5_look L xs sio (d + 38) dt hI  ((xs ((i + 1).toNat)).toInt) ⟨by omega, by omega⟩ ) ?_
  rintro _ _ ⟨rfl, h2⟩
  refine ⟨rfl, ?_⟩
  rcases h2 with ⟨rfl, h2⟩ | ⟨rfl, h2⟩ | ⟨rfl, h2⟩ | ⟨rfl, h2⟩ | ⟨rfl, h2⟩ | ⟨rfl, h2⟩ | ⟨rfl, h2⟩ | ⟨rfl, h2⟩ | ⟨rfl, h2⟩
  · skip
    refine go_toq PM267 (k := 6) (pc' := 1427) (L' := [some (.inr (.inr (some 3000))), some (.inr (.inr (some 0))), some (.inr (.inr (some 79))), some (.inl i)]) (st' := [.inl (i + 1), .inr (.inr (some 3000)), .inr (.inr (some 79))]) (w' := (SH, dt)) rfl ?_
    refine go_smpq PM267 (L' := [some (.inr (.inr (some 3000))), some (.inr (.inr (some 0))), some (.inr (.inr (some 79))), some (.inl i)]) (st' := [.inl ((xs ((i + 1).toNat)).toInt), .inr (.inr (some 79))]) (w' := (SH, dt)) rfl rfl (s_iald (n := L) (f := fun j => (xs j).toInt) (am_scr hLL) ⟨by omega, by omega⟩) ?_
    refine go_callq PM267 PM248 (Q' := _) rfl rfl rfl rfl (sp_X6_look L xs sio (d + 38) dt hI  ((xs ((i + 1).toNat)).toInt) ⟨by omega, by omega⟩ ) ?_
    rintro _ _ ⟨rfl, h3⟩
    refine ⟨rfl, ?_⟩
    rcases h3 with ⟨rfl, h3⟩ | ⟨rfl, h3⟩ | ⟨rfl, h3⟩ | ⟨rfl, h3⟩ | ⟨rfl, h3⟩ | ⟨rfl, h3⟩ | ⟨rfl, h3⟩ | ⟨rfl, h3⟩ | ⟨rfl, h3⟩
    · skip
      refine go_toq PM267 (k := 2) (pc' := 1435) (L' := [some (.inr (.inr (some 3000))), some (.inr (.inr (some 0))), some (.inr (.inr (some 79))), some (.inl i)]) (st' := []) (w' := (SH, dt)) rfl ?_
      exact K dt hI hM hM2 (by first | omega | (simp only [*]; done) | simp only [*]) (by omega) (by omega) (by omega) (by omega) (by omega) (by omega) (by omega) (by omega) (by omega) (by omega) (by omega) (by omega) (by omega) (by omega) (by omega) (by first | exact hI | exact TPL_k hd0 (fun _ => rfl) (fun _ => rfl) (by omega) | (exfalso; omega)) (by first | exact hI | exact SCL_k hd1 hM (fun j _ => (fun _ => rfl) j) (fun j _ => (fun _ => rfl) j) (fun j _ _ => (fun _ => rfl) j) | (exfalso; omega)) (by first | exact hI | exact SCL_k hd2 hM2 (fun j _ => (fun _ => rfl) j) (fun j _ => (fun _ => rfl) j) (fun j _ _ => (fun _ => rfl) j) | (exfalso; omega))
    · skip
      refine go_toq PM267 (k := 2) (pc' := 1435) (L' := [some (.inr (.inr (some 3000))), some (.inr (.inr (some 0))), some (.inr (.inr (some 79))), some (.inl i)]) (st' := []) (w' := (SH, dt)) rfl ?_
      exact K dt hI hM hM2 (by first | omega | (simp only [*]; done) | simp only [*]) (by omega) (by omega) (by omega) (by omega) (by omega) (by omega) (by omega) (by omega) (by omega) (by omega) (by omega) (by omega) (by omega) (by omega) (by omega) (by first | exact hI | exact TPL_k hd0 (fun _ => rfl) (fun _ => rfl) (by omega) | (exfalso; omega)) (by first | exact hI | exact SCL_k hd1 hM (fun j _ => (fun _ => rfl) j) (fun j _ => (fun _ => rfl) j) (fun j _ _ => (fun _ => rfl) j) | (exfalso; omega)) (by first | exact hI | exact SCL_k hd2 hM2 (fun j _ => (fun _ => rfl) j) (fun j _ => (fun _ => rfl) j) (fun j _ _ => (fun _ => rfl) j) | (exfalso; omega))
    · skip
      refine go_toq PM267 (k := 2) (pc' := 1435) (L' := [some (.inr (.inr (some 3000))), some (.inr (.inr (some 0))), some (.inr (.inr (some 79))), some (.inl i)]) (st' := []) (w' := (SH, dt)) rfl ?_
      exact K dt hI hM hM2 (by first | omega | (simp only [*]; done) | simp only [*]) (by omega) (by omega) (by omega) (by omega) (by omega) (by omega) (by omega) (by omega) (by omega) (by omega) (by omega) (by omega) (by omega) (by omega) (by omega) (by first | exact hI | exact TPL_k hd0 (fun _ => rfl) (fun _ => rfl) (by omega) | (exfalso; omega)) (by first | exact hI | exact SCL_k hd1 hM (fun j _ => (fun _ => rfl) j) (fun j _ => (fun _ => rfl) j) (fun j _ _ => (fun _ => rfl) j) | (exfalso; omega)) (by first | exact hI | exact SCL_k hd2 hM2 (fun j _ => (fun _ => rfl) j) (fun j _ => (fun _ => rfl) j) (fun j _ _ => (fun _ => rfl) j) | (exfalso; omega))
    · skip
      refine go_toq PM267 (k := 2) (pc' := 1435) (L' := [some (.inr (.inr (some 3000))), some (.inr (.inr (some 0))), some (.inr (.inr (some 79))), some (.inl i)]) (st' := []) (w' := (SH, dt)) rfl ?_
      exact K dt hI hM hM2 (by first | omega | (simp only [*]; done) | simp only [*]) (by omega) (by omega) (by omega) (by omega) (by omega) (by omega) (by omega) (by omega) (by omega) (by omega) (by omega) (by omega) (by omega) (by omega) (by omega) (by first | exact hI | exact TPL_k hd0 (fun _ => rfl) (fun _ => rfl) (by omega) | (exfalso; omega)) (by first | exact hI | exact SCL_k hd1 hM (fun j _ => (fun _ => rfl) j) (fun j _ => (fun _ => rfl) j) (fun j _ _ => (fun _ => rfl) j) | (exfalso; omega)) (by first | exact hI | exact SCL_k hd2 hM2 (fun j _ => (fun _ => rfl) j) (fun j _ => (fun _ => rfl) j) (fun j _ _ => (fun _ => rfl) j) | (exfalso; omega))
    · skip
      refine go_toq PM267 (k := 2) (pc' := 1435) (L' := [some (.inr (.inr (some 3000))), some (.inr (.inr (some 0))), some (.inr (.inr (some 79))), some (.inl i)]) (st' := []) (w' := (SH, dt)) rfl ?_
      exact K dt hI hM hM2 (by first | omega | (simp only [*]; done) | simp only [*]) (by omega) (by omega) (by omega) (by omega) (by omega) (by omega) (by omega) (by omega) (by omega) (by omega) (by omega) (by omega) (by omega) (by omega) (by omega) (by first | exact hI | exact TPL_k hd0 (fun _ => rfl) (fun _ => rfl) (by omega) | (exfalso; omega)) (by first | exact hI | exact SCL_k hd1 hM (fun j _ => (fun _ => rfl) j) (fun j _ => (fun _ => rfl) j) (fun j _ _ => (fun _ => rfl) j) | (exfalso; omega)) (by first | exact hI | exact SCL_k hd2 hM2 (fun j _ => (fun _ => rfl) j) (fun j _ => (fun _ => rfl) j) (fun j _ _ => (fun _ => rfl) j) | (exfalso; omega))
    · skip
      refine go_toq PM267 (k := 2) (pc' := 1435) (L' := [some (.inr (.inr (some 3000))), some (.inr (.inr (some 0))), some (.inr (.inr (some 79))), some (.inl i)]) (st' := []) (w' := (SH, dt)) rfl ?_
      exact K dt hI hM hM2 (by first | omega | (simp only [*]; done) | simp only [*]) (by omega) (by omega) (by omega) (by omega) (by omega) (by omega) (by omega) (by omega) (by omega) (by omega) (by omega) (by omega) (by omega) (by omega) (by omega) (by first | exact hI | exact TPL_k hd0 (fun _ => rfl) (fun _ => rfl) (by omega) | (exfalso; omega)) (by first | exact hI | exact SCL_k hd1 hM (fun j _ => (fun _ => rfl) j) (fun j _ => (fun _ => rfl) j) (fun j _ _ => (fun _ => rfl) j) | (exfalso; omega)) (by first | exact hI | exact SCL_k hd2 hM2 (fun j _ => (fun _ => rfl) j) (fun j _ => (fun _ => rfl) j) (fun j _ _ => (fun _ => rfl) j) | (exfalso; omega))
    · skip
      obtain ⟨h3_0, h3_1⟩ := h3
      refine go_toq PM267 (k := 2) (pc' := 1435) (L' := [some (.inr (.inr (some 3000))), some (.inr (.inr (some 0))), some (.inr (.inr (some 79))), some (.inl i)]) (st' := []) (w' := (SH, dt)) rfl ?_
      exact K dt hI hM hM2 (by first | omega | (simp only [*]; done) | simp only [*]) (by omega) (by omega) (by omega) (by omega) (by omega) (by omega) (by omega) (by omega) (by omega) (by omega) (by omega) (by omega) (by omega) (by omega) (by omega) (by first | exact hI | exact TPL_k hd0 (fun _ => rfl) (fun _ => rfl) (by omega) | (exfalso; omega)) (by first | exact hI | exact SCL_k hd1 hM (fun j _ => (fun _ => rfl) j) (fun j _ => (fun _ => rfl) j) (fun j _ _ => (fun _ => rfl) j) | (exfalso; omega)) (by first | exact hI | exact SCL_k hd2 hM2 (fun j _ => (fun _ => rfl) j) (fun j _ => (fun _ => rfl) j) (fun j _ _ => (fun _ => rfl) j) | (exfalso; omega))
    · skip
      obtain ⟨h3_0, h3_1⟩ := h3
      refine go_toq PM267 (k := 2) (pc' := 1435) (L' := [some (.inr (.inr (some 3000))), some (.inr (.inr (some 0))), some (.inr (.inr (some 79))), some (.inl i)]) (st' := []) (w' := (SH, dt)) rfl ?_
      exact K dt hI hM hM2 (by first | omega | (simp only [*]; done) | simp only [*]) (by omega) (by omega) (by omega) (by omega) (by omega) (by omega) (by omega) (by omega) (by omega) (by omega) (by omega) (by omega) (by omega) (by omega) (by omega) (by first | exact hI | exact TPL_k hd0 (fun _ => rfl) (fun _ => rfl) (by omega) | (exfalso; omega)) (by first | exact hI | exact SCL_k hd1 hM (fun j _ => (fun _ => rfl) j) (fun j _ => (fun _ => rfl) j) (fun j _ _ => (fun _ => rfl) j) | (exfalso; omega)) (by first | exact hI | exact SCL_k hd2 hM2 (fun j _ => (fun _ => rfl) j) (fun j _ => (fun _ => rfl) j) (fun j _ _ => (fun _ => rfl) j) | (exfalso; omega))
    · skip
      refine go_toq PM267 (k := 2) (pc' := 1435) (L' := [some (.inr (.inr (some 3000))), some (.inr (.inr (some 0))), some (.inr (.inr (some 79))), some (.inl i)]) (st' := []) (w' := (SH, dt)) rfl ?_
      exact K dt hI hM hM2 (by first | omega | (simp only [*]; done) | simp only [*]) (by omega) (by omega) (by omega) (by omega) (by omega) (by omega) (by omega) (by omega) (by omega) (by omega) (by omega) (by omega) (by omega) (by omega) (by omega) (by first | exact hI | exact TPL_k hd0 (fun _ => rfl) (fun _ => rfl) (by omega) | (exfalso; omega)) (by first | exact hI | exact SCL_k hd1 hM (fun j _ => (fun _ => rfl) j) (fun j _ => (fun _ => rfl) j) (fun j _ _ => (fun _ => rfl) j) | (exfalso; omega)) (by first | exact hI | exact SCL_k hd2 hM2 (fun j _ => (fun _ => rfl) j) (fun j _ => (fun _ => rfl) j) (fun j _ _ => (fun _ => rfl) j) | (exfalso; omega))
  · skip
    refine go_toq PM267 (k := 6) (pc' := 1427) (L' := [some (.inr (.inr (some 3000))), some (.inr (.inr (some 0))), some (.inr (.inr (some 79))), some (.inl i)]) (st' := [.inl (i + 1), .inr (.inr (some 3000)), .inr (.inr (some 79))]) (w' := (SH, dt)) rfl ?_
    refine go_smpq PM267 (L' := [some (.inr (.inr (some 3000))), some (.inr (.inr (some 0))), some (.inr (.inr (some 79))), some (.inl i)]) (st' := [.inl ((xs ((i + 1).toNat)).toInt), .inr (.inr (some 79))]) (w' := (SH, dt)) rfl rfl (s_iald (n := L) (f := fun j => (xs j).toInt) (am_scr hLL) ⟨by omega, by omega⟩) ?_
    refine go_callq PM267 PM248 (Q' := _) rfl rfl rfl rfl (sp_X6_look L xs sio (d + 38) dt hI  ((xs ((i + 1).toNat)).toInt) ⟨by omega, by omega⟩ ) ?_
    rintro _ _ ⟨rfl, h4⟩
    refine ⟨rfl, ?_⟩
    rcases h4 with ⟨rfl, h4⟩ | ⟨rfl, h4⟩ | ⟨rfl, h4⟩ | ⟨rfl, h4⟩ | ⟨rfl, h4⟩ | ⟨rfl, h4⟩ | ⟨rfl, h4⟩ | ⟨rfl, h4⟩ | ⟨rfl, h4⟩
    · skip
      refine go_toq PM267 (k := 2) (pc' := 1435) (L' := [some (.inr (.inr (some 3000))), some (.inr (.inr (some 0))), some (.inr (.inr (some 79))), some (.inl i)]) (st' := []) (w' := (SH, dt)) rfl ?_
      exact K dt hI hM hM2 (by first | omega | (simp only [*]; done) | simp only [*]) (by omega) (by omega) (by omega) (by omega) (by omega) (by omega) (by omega) (by omega) (by omega) (by omega) (by omega) (by omega) (by omega) (by omega) (by omega) (by first | exact hI | exact TPL_k hd0 (fun _ => rfl) (fun _ => rfl) (by omega) | (exfalso; omega)) (by first | exact hI | exact SCL_k hd1 hM (fun j _ => (fun _ => rfl) j) (fun j _ => (fun _ => rfl) j) (fun j _ _ => (fun _ => rfl) j) | (exfalso; omega)) (by first | exact hI | exact SCL_k hd2 hM2 (fun j _ => (fun _ => rfl) j) (fun j _ => (fun _ => rfl) j) (fun j _ _ => (fun _ => rfl) j) | (exfalso; omega))
    · skip
      refine go_toq PM267 (k := 2) (pc' := 1435) (L' := [some (.inr (.inr (some 3000))), some (.inr (.inr (some 0))), some (.inr (.inr (some 79))), some (.inl i)]) (st' := []) (w' := (SH, dt)) rfl ?_
      exact K dt hI hM hM2 (by first | omega | (simp only [*]; done) | simp only [*]) (by omega) (by omega) (by omega) (by omega) (by omega) (by omega) (by omega) (by omega) (by omega) (by omega) (by omega) (by omega) (by omega) (by omega) (by omega) (by first | exact hI | exact TPL_k hd0 (fun _ => rfl) (fun _ => rfl) (by omega) | (exfalso; omega)) (by first | exact hI | exact SCL_k hd1 hM (fun j _ => (fun _ => rfl) j) (fun j _ => (fun _ => rfl) j) (fun j _ _ => (fun _ => rfl) j) | (exfalso; omega)) (by first | exact hI | exact SCL_k hd2 hM2 (fun j _ => (fun _ => rfl) j) (fun j _ => (fun _ => rfl) j) (fun j _ _ => (fun _ => rfl) j) | (exfalso; omega))
    · skip
      refine go_toq PM267 (k := 2) (pc' := 1435) (L' := [some (.inr (.inr (some 3000))), some (.inr (.inr (some 0))), some (.inr (.inr (some 79))), some (.inl i)]) (st' := []) (w' := (SH, dt)) rfl ?_
      exact K dt hI hM hM2 (by first | omega | (simp only [*]; done) | simp only [*]) (by omega) (by omega) (by omega) (by omega) (by omega) (by omega) (by omega) (by omega) (by omega) (by omega) (by omega) (by omega) (by omega) (by omega) (by omega) (by first | exact hI | exact TPL_k hd0 (fun _ => rfl) (fun _ => rfl) (by omega) | (exfalso; omega)) (by first | exact hI | exact SCL_k hd1 hM (fun j _ => (fun _ => rfl) j) (fun j _ => (fun _ => rfl) j) (fun j _ _ => (fun _ => rfl) j) | (exfalso; omega)) (by first | exact hI | exact SCL_k hd2 hM2 (fun j _ => (fun _ => rfl) j) (fun j _ => (fun _ => rfl) j) (fun j _ _ => (fun _ => rfl) j) | (exfalso; omega))
    · skip
      refine go_toq PM267 (k := 2) (pc' := 1435) (L' := [some (.inr (.inr (some 3000))), some (.inr (.inr (some 0))), some (.inr (.inr (some 79))), some (.inl i)]) (st' := []) (w' := (SH, dt)) rfl ?_
      exact K dt hI hM hM2 (by first | omega | (simp only [*]; done) | simp only [*]) (by omega) (by omega) (by omega) (by omega) (by omega) (by omega) (by omega) (by omega) (by omega) (by omega) (by omega) (by omega) (by omega) (by omega) (by omega) (by first | exact hI | exact TPL_k hd0 (fun _ => rfl) (fun _ => rfl) (by omega) | (exfalso; omega)) (by first | exact hI | exact SCL_k hd1 hM (fun j _ => (fun _ => rfl) j) (fun j _ => (fun _ => rfl) j) (fun j _ _ => (fun _ => rfl) j) | (exfalso; omega)) (by first | exact hI | exact SCL_k hd2 hM2 (fun j _ => (fun _ => rfl) j) (fun j _ => (fun _ => rfl) j) (fun j _ _ => (fun _ => rfl) j) | (exfalso; omega))
    · skip
      refine go_toq PM267 (k := 2) (pc' := 1435) (L' := [some (.inr (.inr (some 3000))), some (.inr (.inr (some 0))), some (.inr (.inr (some 79))), some (.inl i)]) (st' := []) (w' := (SH, dt)) rfl ?_
      exact K dt hI hM hM2 (by first | omega | (simp only [*]; done) | simp only [*]) (by omega) (by omega) (by omega) (by omega) (by omega) (by omega) (by omega) (by omega) (by omega) (by omega) (by omega) (by omega) (by omega) (by omega) (by omega) (by first | exact hI | exact TPL_k hd0 (fun _ => rfl) (fun _ => rfl) (by omega) | (exfalso; omega)) (by first | exact hI | exact SCL_k hd1 hM (fun j _ => (fun _ => rfl) j) (fun j _ => (fun _ => rfl) j) (fun j _ _ => (fun _ => rfl) j) | (exfalso; omega)) (by first | exact hI | exact SCL_k hd2 hM2 (fun j _ => (fun _ => rfl) j) (fun j _ => (fun _ => rfl) j) (fun j _ _ => (fun _ => rfl) j) | (exfalso; omega))
    · skip
      refine go_toq PM267 (k := 2) (pc' := 1435) (L' := [some (.inr (.inr (some 3000))), some (.inr (.inr (some 0))), some (.inr (.inr (some 79))), some (.inl i)]) (st' := []) (w' := (SH, dt)) rfl ?_
      exact K dt hI hM hM2 (by first | omega | (simp only [*]; done) | simp only [*]) (by omega) (by omega) (by omega) (by omega) (by omega) (by omega) (by omega) (by omega) (by omega) (by omega) (by omega) (by omega) (by omega) (by omega) (by omega) (by first | exact hI | exact TPL_k hd0 (fun _ => rfl) (fun _ => rfl) (by omega) | (exfalso; omega)) (by first | exact hI | exact SCL_k hd1 hM (fun j _ => (fun _ => rfl) j) (fun j _ => (fun _ => rfl) j) (fun j _ _ => (fun _ => rfl) j) | (exfalso; omega)) (by first | exact hI | exact SCL_k hd2 hM2 (fun j _ => (fun _ => rfl) j) (fun j _ => (fun _ => rfl) j) (fun j _ _ => (fun _ => rfl) j) | (exfalso; omega))
    · skip
      obtain ⟨h4_0, h4_1⟩ := h4
      refine go_toq PM267 (k := 2) (pc' := 1435) (L' := [some (.inr (.inr (some 3000))), some (.inr (.inr (some 0))), some (.inr (.inr (some 79))), some (.inl i)]) (st' := []) (w' := (SH, dt)) rfl ?_
      exact K dt hI hM hM2 (by first | omega | (simp only [*]; done) | simp only [*]) (by omega) (by omega) (by omega) (by omega) (by omega) (by omega) (by omega) (by omega) (by omega) (by omega) (by omega) (by omega) (by omega) (by omega) (by omega) (by first | exact hI | exact TPL_k hd0 (fun _ => rfl) (fun _ => rfl) (by omega) | (exfalso; omega)) (by first | exact hI | exact SCL_k hd1 hM (fun j _ => (fun _ => rfl) j) (fun j _ => (fun _ => rfl) j) (fun j _ _ => (fun _ => rfl) j) | (exfalso; omega)) (by first | exact hI | exact SCL_k hd2 hM2 (fun j _ => (fun _ => rfl) j) (fun j _ => (fun _ => rfl) j) (fun j _ _ => (fun _ => rfl) j) | (exfalso; omega))
    · skip
      obtain ⟨h4_0, h4_1⟩ := h4
      refine go_toq PM267 (k := 2) (pc' := 1435) (L' := [some (.inr (.inr (some 3000))), some (.inr (.inr (some 0))), some (.inr (.inr (some 79))), some (.inl i)]) (st' := []) (w' := (SH, dt)) rfl ?_
      exact K dt hI hM hM2 (by first | omega | (simp only [*]; done) | simp only [*]) (by omega) (by omega) (by omega) (by omega) (by omega) (by omega) (by omega) (by omega) (by omega) (by omega) (by omega) (by omega) (by omega) (by omega) (by omega) (by first | exact hI | exact TPL_k hd0 (fun _ => rfl) (fun _ => rfl) (by omega) | (exfalso; omega)) (by first | exact hI | exact SCL_k hd1 hM (fun j _ => (fun _ => rfl) j) (fun j _ => (fun _ => rfl) j) (fun j _ _ => (fun _ => rfl) j) | (exfalso; omega)) (by first | exact hI | exact SCL_k hd2 hM2 (fun j _ => (fun _ => rfl) j) (fun j _ => (fun _ => rfl) j) (fun j _ _ => (fun _ => rfl) j) | (exfalso; omega))
    · skip
      refine go_toq PM267 (k := 2) (pc' := 1435) (L' := [some (.inr (.inr (some 3000))), some (.inr (.inr (some 0))), some (.inr (.inr (some 79))), some (.inl i)]) (st' := []) (w' := (SH, dt)) rfl ?_
      exact K dt hI hM hM2 (by first | omega | (simp only [*]; done) | simp only [*]) (by omega) (by omega) (by omega) (by omega) (by omega) (by omega) (by omega) (by omega) (by omega) (by omega) (by omega) (by omega) (by omega) (by omega) (by omega) (by first | exact hI | exact TPL_k hd0 (fun _ => rfl) (fun _ => rfl) (by omega) | (exfalso; omega)) (by first | exact hI | exact SCL_k hd1 hM (fun j _ => (fun _ => rfl) j) (fun j _ => (fun _ => rfl) j) (fun j _ _ => (fun _ => rfl) j) | (exfalso; omega)) (by first | exact hI | exact SCL_k hd2 hM2 (fun j _ => (fun _ => rfl) j) (fun j _ => (fun _ => rfl) j) (fun j _ _ => (fun _ => rfl) j) | (exfalso; omega))
  · skip
    refine go_toq PM267 (k := 6) (pc' := 1427) (L' := [some (.inr (.inr (some 3000))), some (.inr (.inr (some 0))), some (.inr (.inr (some 79))), some (.inl i)]) (st' := [.inl (i + 1), .inr (.inr (some 3000)), .inr (.inr (some 79))]) (w' := (SH, dt)) rfl ?_
    refine go_smpq PM267 (L' := [some (.inr (.inr (some 3000))), some (.inr (.inr (some 0))), some (.inr (.inr (some 79))), some (.inl i)]) (st' := [.inl ((xs ((i + 1).toNat)).toInt), .inr (.inr (some 79))]) (w' := (SH, dt)) rfl rfl (s_iald (n := L) (f := fun j => (xs j).toInt) (am_scr hLL) ⟨by omega, by omega⟩) ?_
    refine go_callq PM267 PM248 (Q' := _) rfl rfl rfl rfl (sp_X6_look L xs sio (d + 38) dt hI  ((xs ((i + 1).toNat)).toInt) ⟨by omega, by omega⟩ ) ?_
    rintro _ _ ⟨rfl, h5⟩
    refine ⟨rfl, ?_⟩
    rcases h5 with ⟨rfl, h5⟩ | ⟨rfl, h5⟩ | ⟨rfl, h5⟩ | ⟨rfl, h5⟩ | ⟨rfl, h5⟩ | ⟨rfl, h5⟩ | ⟨rfl, h5⟩ | ⟨rfl, h5⟩ | ⟨rfl, h5⟩
    · skip
      refine go_toq PM267 (k := 2) (pc' := 1435) (L' := [some (.inr (.inr (some 3000))), some (.inr (.inr (some 0))), some (.inr (.inr (some 79))), some (.inl i)]) (st' := []) (w' := (SH, dt)) rfl ?_
      exact K dt hI hM hM2 (by first | omega | (simp only [*]; done) | simp only [*]) (by omega) (by omega) (by omega) (by omega) (by omega) (by omega) (by omega) (by omega) (by omega) (by omega) (by omega) (by omega) (by omega) (by omega) (by omega) (by first | exact hI | exact TPL_k hd0 (fun _ => rfl) (fun _ => rfl) (by omega) | (exfalso; omega)) (by first | exact hI | exact SCL_k hd1 hM (fun j _ => (fun _ => rfl) j) (fun j _ => (fun _ => rfl) j) (fun j _ _ => (fun _ => rfl) j) | (exfalso; omega)) (by first | exact hI | exact SCL_k hd2 hM2 (fun j _ => (fun _ => rfl) j) (fun j _ => (fun _ => rfl) j) (fun j _ _ => (fun _ => rfl) j) | (exfalso; omega))
    · skip
      refine go_toq PM267 (k := 2) (pc' := 1435) (L' := [some (.inr (.inr (some 3000))), some (.inr (.inr (some 0))), some (.inr (.inr (some 79))), some (.inl i)]) (st' := []) (w' := (SH, dt)) rfl ?_
      exact K dt hI hM hM2 (by first | omega | (simp only [*]; done) | simp only [*]) (by omega) (by omega) (by omega) (by omega) (by omega) (by omega) (by omega) (by omega) (by omega) (by omega) (by omega) (by omega) (by omega) (by omega) (by omega) (by first | exact hI | exact TPL_k hd0 (fun _ => rfl) (fun _ => rfl) (by omega) | (exfalso; omega)) (by first | exact hI | exact SCL_k hd1 hM (fun j _ => (fun _ => rfl) j) (fun j _ => (fun _ => rfl) j) (fun j _ _ => (fun _ => rfl) j) | (exfalso; omega)) (by first | exact hI | exact SCL_k hd2 hM2 (fun j _ => (fun _ => rfl) j) (fun j _ => (fun _ => rfl) j) (fun j _ _ => (fun _ => rfl) j) | (exfalso; omega))
    · skip
      refine go_toq PM267 (k := 2) (pc' := 1435) (L' := [some (.inr (.inr (some 3000))), some (.inr (.inr (some 0))), some (.inr (.inr (some 79))), some (.inl i)]) (st' := []) (w' := (SH, dt)) rfl ?_
      exact K dt hI hM hM2 (by first | omega | (simp only [*]; done) | simp only [*]) (by omega) (by omega) (by omega) (by omega) (by omega) (by omega) (by omega) (by omega) (by omega) (by omega) (by omega) (by omega) (by omega) (by omega) (by omega) (by first | exact hI | exact TPL_k hd0 (fun _ => rfl) (fun _ => rfl) (by omega) | (exfalso; omega)) (by first | exact hI | exact SCL_k hd1 hM (fun j _ => (fun _ => rfl) j) (fun j _ => (fun _ => rfl) j) (fun j _ _ => (fun _ => rfl) j) | (exfalso; omega)) (by first | exact hI | exact SCL_k hd2 hM2 (fun j _ => (fun _ => rfl) j) (fun j _ => (fun _ => rfl) j) (fun j _ _ => (fun _ => rfl) j) | (exfalso; omega))
    · skip
      refine go_toq PM267 (k := 2) (pc' := 1435) (L' := [some (.inr (.inr (some 3000))), some (.inr (.inr (some 0))), some (.inr (.inr (some 79))), some (.inl i)]) (st' := []) (w' := (SH, dt)) rfl ?_
      exact K dt hI hM hM2 (by first | omega | (simp only [*]; done) | simp only [*]) (by omega) (by omega) (by omega) (by omega) (by omega) (by omega) (by omega) (by omega) (by omega) (by omega) (by omega) (by omega) (by omega) (by omega) (by omega) (by first | exact hI | exact TPL_k hd0 (fun _ => rfl) (fun _ => rfl) (by omega) | (exfalso; omega)) (by first | exact hI | exact SCL_k hd1 hM (fun j _ => (fun _ => rfl) j) (fun j _ => (fun _ => rfl) j) (fun j _ _ => (fun _ => rfl) j) | (exfalso; omega)) (by first | exact hI | exact SCL_k hd2 hM2 (fun j _ => (fun _ => rfl) j) (fun j _ => (fun _ => rfl) j) (fun j _ _ => (fun _ => rfl) j) | (exfalso; omega))
    · skip
      refine go_toq PM267 (k := 2) (pc' := 1435) (L' := [some (.inr (.inr (some 3000))), some (.inr (.inr (some 0))), some (.inr (.inr (some 79))), some (.inl i)]) (st' := []) (w' := (SH, dt)) rfl ?_
      exact K dt hI hM hM2 (by first | omega | (simp only [*]; done) | simp only [*]) (by omega) (by omega) (by omega) (by omega) (by omega) (by omega) (by omega) (by omega) (by omega) (by omega) (by omega) (by omega) (by omega) (by omega) (by omega) (by first | exact hI | exact TPL_k hd0 (fun _ => rfl) (fun _ => rfl) (by omega) | (exfalso; omega)) (by first | exact hI | exact SCL_k hd1 hM (fun j _ => (fun _ => rfl) j) (fun j _ => (fun _ => rfl) j) (fun j _ _ => (fun _ => rfl) j) | (exfalso; omega)) (by first | exact hI | exact SCL_k hd2 hM2 (fun j _ => (fun _ => rfl) j) (fun j _ => (fun _ => rfl) j) (fun j _ _ => (fun _ => rfl) j) | (exfalso; omega))
    · skip
      refine go_toq PM267 (k := 2) (pc' := 1435) (L' := [some (.inr (.inr (some 3000))), some (.inr (.inr (some 0))), some (.inr (.inr (some 79))), some (.inl i)]) (st' := []) (w' := (SH, dt)) rfl ?_
      exact K dt hI hM hM2 (by first | omega | (simp only [*]; done) | simp only [*]) (by omega) (by omega) (by omega) (by omega) (by omega) (by omega) (by omega) (by omega) (by omega) (by omega) (by omega) (by omega) (by omega) (by omega) (by omega) (by first | exact hI | exact TPL_k hd0 (fun _ => rfl) (fun _ => rfl) (by omega) | (exfalso; omega)) (by first | exact hI | exact SCL_k hd1 hM (fun j _ => (fun _ => rfl) j) (fun j _ => (fun _ => rfl) j) (fun j _ _ => (fun _ => rfl) j) | (exfalso; omega)) (by first | exact hI | exact SCL_k hd2 hM2 (fun j _ => (fun _ => rfl) j) (fun j _ => (fun _ => rfl) j) (fun j _ _ => (fun _ => rfl) j) | (exfalso; omega))
    · skip
      obtain ⟨h5_0, h5_1⟩ := h5
      refine go_toq PM267 (k := 2) (pc' := 1435) (L' := [some (.inr (.inr (some 3000))), some (.inr (.inr (some 0))), some (.inr (.inr (some 79))), some (.inl i)]) (st' := []) (w' := (SH, dt)) rfl ?_
      exact K dt hI hM hM2 (by first | omega | (simp only [*]; done) | simp only [*]) (by omega) (by omega) (by omega) (by omega) (by omega) (by omega) (by omega) (by omega) (by omega) (by omega) (by omega) (by omega) (by omega) (by omega) (by omega) (by first | exact hI | exact TPL_k hd0 (fun _ => rfl) (fun _ => rfl) (by omega) | (exfalso; omega)) (by first | exact hI | exact SCL_k hd1 hM (fun j _ => (fun _ => rfl) j) (fun j _ => (fun _ => rfl) j) (fun j _ _ => (fun _ => rfl) j) | (exfalso; omega)) (by first | exact hI | exact SCL_k hd2 hM2 (fun j _ => (fun _ => rfl) j) (fun j _ => (fun _ => rfl) j) (fun j _ _ => (fun _ => rfl) j) | (exfalso; omega))
    · skip
      obtain ⟨h5_0, h5_1⟩ := h5
      refine go_toq PM267 (k := 2) (pc' := 1435) (L' := [some (.inr (.inr (some 3000))), some (.inr (.inr (some 0))), some (.inr (.inr (some 79))), some (.inl i)]) (st' := []) (w' := (SH, dt)) rfl ?_
      exact K dt hI hM hM2 (by first | omega | (simp only [*]; done) | simp only [*]) (by omega) (by omega) (by omega) (by omega) (by omega) (by omega) (by omega) (by omega) (by omega) (by omega) (by omega) (by omega) (by omega) (by omega) (by omega) (by first | exact hI | exact TPL_k hd0 (fun _ => rfl) (fun _ => rfl) (by omega) | (exfalso; omega)) (by first | exact hI | exact SCL_k hd1 hM (fun j _ => (fun _ => rfl) j) (fun j _ => (fun _ => rfl) j) (fun j _ _ => (fun _ => rfl) j) | (exfalso; omega)) (by first | exact hI | exact SCL_k hd2 hM2 (fun j _ => (fun _ => rfl) j) (fun j _ => (fun _ => rfl) j) (fun j _ _ => (fun _ => rfl) j) | (exfalso; omega))
    · skip
      refine go_toq PM267 (k := 2) (pc' := 1435) (L' := [some (.inr (.inr (some 3000))), some (.inr (.inr (some 0))), some (.inr (.inr (some 79))), some (.inl i)]) (st' := []) (w' := (SH, dt)) rfl ?_
      exact K dt hI hM hM2 (by first | omega | (simp only [*]; done) | simp only [*]) (by omega) (by omega) (by omega) (by omega) (by omega) (by omega) (by omega) (by omega) (by omega) (by omega) (by omega) (by omega) (by omega) (by omega) (by omega) (by first | exact hI | exact TPL_k hd0 (fun _ => rfl) (fun _ => rfl) (by omega) | (exfalso; omega)) (by first | exact hI | exact SCL_k hd1 hM (fun j _ => (fun _ => rfl) j) (fun j _ => (fun _ => rfl) j) (fun j _ _ => (fun _ => rfl) j) | (exfalso; omega)) (by first | exact hI | exact SCL_k hd2 hM2 (fun j _ => (fun _ => rfl) j) (fun j _ => (fun _ => rfl) j) (fun j _ _ => (fun _ => rfl) j) | (exfalso; omega))
  · skip
    refine go_toq PM267 (k := 6) (pc' := 1427) (L' := [some (.inr (.inr (some 3000))), some (.inr (.inr (some 0))), some (.inr (.inr (some 79))), some (.inl i)]) (st' := [.inl (i + 1), .inr (.inr (some 3000)), .inr (.inr (some 79))]) (w' := (SH, dt)) rfl ?_
    refine go_smpq PM267 (L' := [some (.inr (.inr (some 3000))), some (.inr (.inr (some 0))), some (.inr (.inr (some 79))), some (.inl i)]) (st' := [.inl ((xs ((i + 1).toNat)).toInt), .inr (.inr (some 79))]) (w' := (SH, dt)) rfl rfl (s_iald (n := L) (f := fun j => (xs j).toInt) (am_scr hLL) ⟨by omega, by omega⟩) ?_
    refine go_callq PM267 PM248 (Q' := _) rfl rfl rfl rfl (sp_X6_look L xs sio (d + 38) dt hI  ((xs ((i + 1).toNat)).toInt) ⟨by omega, by omega⟩ ) ?_
    rintro _ _ ⟨rfl, h6⟩
    refine ⟨rfl, ?_⟩
    rcases h6 with ⟨rfl, h6⟩ | ⟨rfl, h6⟩ | ⟨rfl, h6⟩ | ⟨rfl, h6⟩ | ⟨rfl, h6⟩ | ⟨rfl, h6⟩ | ⟨rfl, h6⟩ | ⟨rfl, h6⟩ | ⟨rfl, h6⟩
    · skip
      refine go_toq PM267 (k := 2) (pc' := 1435) (L' := [some (.inr (.inr (some 3000))), some (.inr (.inr (some 0))), some (.inr (.inr (some 79))), some (.inl i)]) (st' := []) (w' := (SH, dt)) rfl ?_
      exact K dt hI hM hM2 (by first | omega | (simp only [*]; done) | simp only [*]) (by omega) (by omega) (by omega) (by omega) (by omega) (by omega) (by omega) (by omega) (by omega) (by omega) (by omega) (by omega) (by omega) (by omega) (by omega) (by first | exact hI | exact TPL_k hd0 (fun _ => rfl) (fun _ => rfl) (by omega) | (exfalso; omega)) (by first | exact hI | exact SCL_k hd1 hM (fun j _ => (fun _ => rfl) j) (fun j _ => (fun _ => rfl) j) (fun j _ _ => (fun _ => rfl) j) | (exfalso; omega)) (by first | exact hI | exact SCL_k hd2 hM2 (fun j _ => (fun _ => rfl) j) (fun j _ => (fun _ => rfl) j) (fun j _ _ => (fun _ => rfl) j) | (exfalso; omega))
    · skip
      refine go_toq PM267 (k := 2) (pc' := 1435) (L' := [some (.inr (.inr (some 3000))), some (.inr (.inr (some 0))), some (.inr (.inr (some 79))), some (.inl i)]) (st' := []) (w' := (SH, dt)) rfl ?_
      exact K dt hI hM hM2 (by first | omega | (simp only [*]; done) | simp only [*]) (by omega) (by omega) (by omega) (by omega) (by omega) (by omega) (by omega) (by omega) (by omega) (by omega) (by omega) (by omega) (by omega) (by omega) (by omega) (by first | exact hI | exact TPL_k hd0 (fun _ => rfl) (fun _ => rfl) (by omega) | (exfalso; omega)) (by first | exact hI | exact SCL_k hd1 hM (fun j _ => (fun _ => rfl) j) (fun j _ => (fun _ => rfl) j) (fun j _ _ => (fun _ => rfl) j) | (exfalso; omega)) (by first | exact hI | exact SCL_k hd2 hM2 (fun j _ => (fun _ => rfl) j) (fun j _ => (fun _ => rfl) j) (fun j _ _ => (fun _ => rfl) j) | (exfalso; omega))
    · skip
      refine go_toq PM267 (k := 2) (pc' := 1435) (L' := [some (.inr (.inr (some 3000))), some (.inr (.inr (some 0))), some (.inr (.inr (some 79))), some (.inl i)]) (st' := []) (w' := (SH, dt)) rfl ?_
      exact K dt hI hM hM2 (by first | omega | (simp only [*]; done) | simp only [*]) (by omega) (by omega) (by omega) (by omega) (by omega) (by omega) (by omega) (by omega) (by omega) (by omega) (by omega) (by omega) (by omega) (by omega) (by omega) (by first | exact hI | exact TPL_k hd0 (fun _ => rfl) (fun _ => rfl) (by omega) | (exfalso; omega)) (by first | exact hI | exact SCL_k hd1 hM (fun j _ => (fun _ => rfl) j) (fun j _ => (fun _ => rfl) j) (fun j _ _ => (fun _ => rfl) j) | (exfalso; omega)) (by first | exact hI | exact SCL_k hd2 hM2 (fun j _ => (fun _ => rfl) j) (fun j _ => (fun _ => rfl) j) (fun j _ _ => (fun _ => rfl) j) | (exfalso; omega))
    · skip
      refine go_toq PM267 (k := 2) (pc' := 1435) (L' := [some (.inr (.inr (some 3000))), some (.inr (.inr (some 0))), some (.inr (.inr (some 79))), some (.inl i)]) (st' := []) (w' := (SH, dt)) rfl ?_
      exact K dt hI hM hM2 (by first | omega | (simp only [*]; done) | simp only [*]) (by omega) (by omega) (by omega) (by omega) (by omega) (by omega) (by omega) (by omega) (by omega) (by omega) (by omega) (by omega) (by omega) (by omega) (by omega) (by first | exact hI | exact TPL_k hd0 (fun _ => rfl) (fun _ => rfl) (by omega) | (exfalso; omega)) (by first | exact hI | exact SCL_k hd1 hM (fun j _ => (fun _ => rfl) j) (fun j _ => (fun _ => rfl) j) (fun j _ _ => (fun _ => rfl) j) | (exfalso; omega)) (by first | exact hI | exact SCL_k hd2 hM2 (fun j _ => (fun _ => rfl) j) (fun j _ => (fun _ => rfl) j) (fun j _ _ => (fun _ => rfl) j) | (exfalso; omega))
    · skip
      refine go_toq PM267 (k := 2) (pc' := 1435) (L' := [some (.inr (.inr (some 3000))), some (.inr (.inr (some 0))), some (.inr (.inr (some 79))), some (.inl i)]) (st' := []) (w' := (SH, dt)) rfl ?_
      exact K dt hI hM hM2 (by first | omega | (simp only [*]; done) | simp only [*]) (by omega) (by omega) (by omega) (by omega) (by omega) (by omega) (by omega) (by omega) (by omega) (by omega) (by omega) (by omega) (by omega) (by omega) (by omega) (by first | exact hI | exact TPL_k hd0 (fun _ => rfl) (fun _ => rfl) (by omega) | (exfalso; omega)) (by first | exact hI | exact SCL_k hd1 hM (fun j _ => (fun _ => rfl) j) (fun j _ => (fun _ => rfl) j) (fun j _ _ => (fun _ => rfl) j) | (exfalso; omega)) (by first | exact hI | exact SCL_k hd2 hM2 (fun j _ => (fun _ => rfl) j) (fun j _ => (fun _ => rfl) j) (fun j _ _ => (fun _ => rfl) j) | (exfalso; omega))
    · skip
      refine go_toq PM267 (k := 2) (pc' := 1435) (L' := [some (.inr (.inr (some 3000))), some (.inr (.inr (some 0))), some (.inr (.inr (some 79))), some (.inl i)]) (st' := []) (w' := (SH, dt)) rfl ?_
      exact K dt hI hM hM2 (by first | omega | (simp only [*]; done) | simp only [*]) (by omega) (by omega) (by omega) (by omega) (by omega) (by omega) (by omega) (by omega) (by omega) (by omega) (by omega) (by omega) (by omega) (by omega) (by omega) (by first | exact hI | exact TPL_k hd0 (fun _ => rfl) (fun _ => rfl) (by omega) | (exfalso; omega)) (by first | exact hI | exact SCL_k hd1 hM (fun j _ => (fun _ => rfl) j) (fun j _ => (fun _ => rfl) j) (fun j _ _ => (fun _ => rfl) j) | (exfalso; omega)) (by first | exact hI | exact SCL_k hd2 hM2 (fun j _ => (fun _ => rfl) j) (fun j _ => (fun _ => rfl) j) (fun j _ _ => (fun _ => rfl) j) | (exfalso; omega))
    · skip
      obtain ⟨h6_0, h6_1⟩ := h6
      refine go_toq PM267 (k := 2) (pc' := 1435) (L' := [some (.inr (.inr (some 3000))), some (.inr (.inr (some 0))), some (.inr (.inr (some 79))), some (.inl i)]) (st' := []) (w' := (SH, dt)) rfl ?_
      exact K dt hI hM hM2 (by first | omega | (simp only [*]; done) | simp only [*]) (by omega) (by omega) (by omega) (by omega) (by omega) (by omega) (by omega) (by omega) (by omega) (by omega) (by omega) (by omega) (by omega) (by omega) (by omega) (by first | exact hI | exact TPL_k hd0 (fun _ => rfl) (fun _ => rfl) (by omega) | (exfalso; omega)) (by first | exact hI | exact SCL_k hd1 hM (fun j _ => (fun _ => rfl) j) (fun j _ => (fun _ => rfl) j) (fun j _ _ => (fun _ => rfl) j) | (exfalso; omega)) (by first | exact hI | exact SCL_k hd2 hM2 (fun j _ => (fun _ => rfl) j) (fun j _ => (fun _ => rfl) j) (fun j _ _ => (fun _ => rfl) j) | (exfalso; omega))
    · skip
      obtain ⟨h6_0, h6_1⟩ := h6
      refine go_toq PM267 (k := 2) (pc' := 1435) (L' := [some (.inr (.inr (some 3000))), some (.inr (.inr (some 0))), some (.inr (.inr (some 79))), some (.inl i)]) (st' := []) (w' := (SH, dt)) rfl ?_
      exact K dt hI hM hM2 (by first | omega | (simp only [*]; done) | simp only [*]) (by omega) (by omega) (by omega) (by omega) (by omega) (by omega) (by omega) (by omega) (by omega) (by omega) (by omega) (by omega) (by omega) (by omega) (by omega) (by first | exact hI | exact TPL_k hd0 (fun _ => rfl) (fun _ => rfl) (by omega) | (exfalso; omega)) (by first | exact hI | exact SCL_k hd1 hM (fun j _ => (fun _ => rfl) j) (fun j _ => (fun _ => rfl) j) (fun j _ _ => (fun _ => rfl) j) | (exfalso; omega)) (by first | exact hI | exact SCL_k hd2 hM2 (fun j _ => (fun _ => rfl) j) (fun j _ => (fun _ => rfl) j) (fun j _ _ => (fun _ => rfl) j) | (exfalso; omega))
    · skip
      refine go_toq PM267 (k := 2) (pc' := 1435) (L' := [some (.inr (.inr (some 3000))), some (.inr (.inr (some 0))), some (.inr (.inr (some 79))), some (.inl i)]) (st' := []) (w' := (SH, dt)) rfl ?_
      exact K dt hI hM hM2 (by first | omega | (simp only [*]; done) | simp only [*]) (by omega) (by omega) (by omega) (by omega) (by omega) (by omega) (by omega) (by omega) (by omega) (by omega) (by omega) (by omega) (by omega) (by omega) (by omega) (by first | exact hI | exact TPL_k hd0 (fun _ => rfl) (fun _ => rfl) (by omega) | (exfalso; omega)) (by first | exact hI | exact SCL_k hd1 hM (fun j _ => (fun _ => rfl) j) (fun j _ => (fun _ => rfl) j) (fun j _ _ => (fun _ => rfl) j) | (exfalso; omega)) (by first | exact hI | exact SCL_k hd2 hM2 (fun j _ => (fun _ => rfl) j) (fun j _ => (fun _ => rfl) j) (fun j _ _ => (fun _ => rfl) j) | (exfalso; omega))
  · skip
    refine go_toq PM267 (k := 6) (pc' := 1427) (L' := [some (.inr (.inr (some 3000))), some (.inr (.inr (some 0))), some (.inr (.inr (some 79))), some (.inl i)]) (st' := [.inl (i + 1), .inr (.inr (some 3000)), .inr (.inr (some 79))]) (w' := (SH, dt)) rfl ?_
    refine go_smpq PM267 (L' := [some (.inr (.inr (some 3000))), some (.inr (.inr (some 0))), some (.inr (.inr (some 79))), some (.inl i)]) (st' := [.inl ((xs ((i + 1).toNat)).toInt), .inr (.inr (some 79))]) (w' := (SH, dt)) rfl rfl (s_iald (n := L) (f := fun j => (xs j).toInt) (am_scr hLL) ⟨by omega, by omega⟩) ?_
    refine go_callq PM267 PM248 (Q' := _) rfl rfl rfl rfl (sp_X6_look L xs sio (d + 38) dt hI  ((xs ((i + 1).toNat)).toInt) ⟨by omega, by omega⟩ ) ?_
    rintro _ _ ⟨rfl, h7⟩
    refine ⟨rfl, ?_⟩
    rcases h7 with ⟨rfl, h7⟩ | ⟨rfl, h7⟩ | ⟨rfl, h7⟩ | ⟨rfl, h7⟩ | ⟨rfl, h7⟩ | ⟨rfl, h7⟩ | ⟨rfl, h7⟩ | ⟨rfl, h7⟩ | ⟨rfl, h7⟩
    · skip
      refine go_toq PM267 (k := 2) (pc' := 1435) (L' := [some (.inr (.inr (some 3000))), some (.inr (.inr (some 0))), some (.inr (.inr (some 79))), some (.inl i)]) (st' := []) (w' := (SH, dt)) rfl ?_
      exact K dt hI hM hM2 (by first | omega | (simp only [*]; done) | simp only [*]) (by omega) (by omega) (by omega) (by omega) (by omega) (by omega) (by omega) (by omega) (by omega) (by omega) (by omega) (by omega) (by omega) (by omega) (by omega) (by first | exact hI | exact TPL_k hd0 (fun _ => rfl) (fun _ => rfl) (by omega) | (exfalso; omega)) (by first | exact hI | exact SCL_k hd1 hM (fun j _ => (fun _ => rfl) j) (fun j _ => (fun _ => rfl) j) (fun j _ _ => (fun _ => rfl) j) | (exfalso; omega)) (by first | exact hI | exact SCL_k hd2 hM2 (fun j _ => (fun _ => rfl) j) (fun j _ => (fun _ => rfl) j) (fun j _ _ => (fun _ => rfl) j) | (exfalso; omega))
    · skip
      refine go_toq PM267 (k := 2) (pc' := 1435) (L' := [some (.inr (.inr (some 3000))), some (.inr (.inr (some 0))), some (.inr (.inr (some 79))), some (.inl i)]) (st' := []) (w' := (SH, dt)) rfl ?_
      exact K dt hI hM hM2 (by first | omega | (simp only [*]; done) | simp only [*]) (by omega) (by omega) (by omega) (by omega) (by omega) (by omega) (by omega) (by omega) (by omega) (by omega) (by omega) (by omega) (by omega) (by omega) (by omega) (by first | exact hI | exact TPL_k hd0 (fun _ => rfl) (fun _ => rfl) (by omega) | (exfalso; omega)) (by first | exact hI | exact SCL_k hd1 hM (fun j _ => (fun _ => rfl) j) (fun j _ => (fun _ => rfl) j) (fun j _ _ => (fun _ => rfl) j) | (exfalso; omega)) (by first | exact hI | exact SCL_k hd2 hM2 (fun j _ => (fun _ => rfl) j) (fun j _ => (fun _ => rfl) j) (fun j _ _ => (fun _ => rfl) j) | (exfalso; omega))
    · skip
      refine go_toq PM267 (k := 2) (pc' := 1435) (L' := [some (.inr (.inr (some 3000))), some (.inr (.inr (some 0))), some (.inr (.inr (some 79))), some (.inl i)]) (st' := []) (w' := (SH, dt)) rfl ?_
      exact K dt hI hM hM2 (by first | omega | (simp only [*]; done) | simp only [*]) (by omega) (by omega) (by omega) (by omega) (by omega) (by omega) (by omega) (by omega) (by omega) (by omega) (by omega) (by omega) (by omega) (by omega) (by omega) (by first | exact hI | exact TPL_k hd0 (fun _ => rfl) (fun _ => rfl) (by omega) | (exfalso; omega)) (by first | exact hI | exact SCL_k hd1 hM (fun j _ => (fun _ => rfl) j) (fun j _ => (fun _ => rfl) j) (fun j _ _ => (fun _ => rfl) j) | (exfalso; omega)) (by first | exact hI | exact SCL_k hd2 hM2 (fun j _ => (fun _ => rfl) j) (fun j _ => (fun _ => rfl) j) (fun j _ _ => (fun _ => rfl) j) | (exfalso; omega))
    · skip
      refine go_toq PM267 (k := 2) (pc' := 1435) (L' := [some (.inr (.inr (some 3000))), some (.inr (.inr (some 0))), some (.inr (.inr (some 79))), some (.inl i)]) (st' := []) (w' := (SH, dt)) rfl ?_
      exact K dt hI hM hM2 (by first | omega | (simp only [*]; done) | simp only [*]) (by omega) (by omega) (by omega) (by omega) (by omega) (by omega) (by omega) (by omega) (by omega) (by omega) (by omega) (by omega) (by omega) (by omega) (by omega) (by first | exact hI | exact TPL_k hd0 (fun _ => rfl) (fun _ => rfl) (by omega) | (exfalso; omega)) (by first | exact hI | exact SCL_k hd1 hM (fun j _ => (fun _ => rfl) j) (fun j _ => (fun _ => rfl) j) (fun j _ _ => (fun _ => rfl) j) | (exfalso; omega)) (by first | exact hI | exact SCL_k hd2 hM2 (fun j _ => (fun _ => rfl) j) (fun j _ => (fun _ => rfl) j) (fun j _ _ => (fun _ => rfl) j) | (exfalso; omega))
    · skip
      refine go_toq PM267 (k := 2) (pc' := 1435) (L' := [some (.inr (.inr (some 3000))), some (.inr (.inr (some 0))), some (.inr (.inr (some 79))), some (.inl i)]) (st' := []) (w' := (SH, dt)) rfl ?_
      exact K dt hI hM hM2 (by first | omega | (simp only [*]; done) | simp only [*]) (by omega) (by omega) (by omega) (by omega) (by omega) (by omega) (by omega) (by omega) (by omega) (by omega) (by omega) (by omega) (by omega) (by omega) (by omega) (by first | exact hI | exact TPL_k hd0 (fun _ => rfl) (fun _ => rfl) (by omega) | (exfalso; omega)) (by first | exact hI | exact SCL_k hd1 hM (fun j _ => (fun _ => rfl) j) (fun j _ => (fun _ => rfl) j) (fun j _ _ => (fun _ => rfl) j) | (exfalso; omega)) (by first | exact hI | exact SCL_k hd2 hM2 (fun j _ => (fun _ => rfl) j) (fun j _ => (fun _ => rfl) j) (fun j _ _ => (fun _ => rfl) j) | (exfalso; omega))
    · skip
      refine go_toq PM267 (k := 2) (pc' := 1435) (L' := [some (.inr (.inr (some 3000))), some (.inr (.inr (some 0))), some (.inr (.inr (some 79))), some (.inl i)]) (st' := []) (w' := (SH, dt)) rfl ?_
      exact K dt hI hM hM2 (by first | omega | (simp only [*]; done) | simp only [*]) (by omega) (by omega) (by omega) (by omega) (by omega) (by omega) (by omega) (by omega) (by omega) (by omega) (by omega) (by omega) (by omega) (by omega) (by omega) (by first | exact hI | exact TPL_k hd0 (fun _ => rfl) (fun _ => rfl) (by omega) | (exfalso; omega)) (by first | exact hI | exact SCL_k hd1 hM (fun j _ => (fun _ => rfl) j) (fun j _ => (fun _ => rfl) j) (fun j _ _ => (fun _ => rfl) j) | (exfalso; omega)) (by first | exact hI | exact SCL_k hd2 hM2 (fun j _ => (fun _ => rfl) j) (fun j _ => (fun _ => rfl) j) (fun j _ _ => (fun _ => rfl) j) | (exfalso; omega))
    · skip
      obtain ⟨h7_0, h7_1⟩ := h7
      refine go_toq PM267 (k := 2) (pc' := 1435) (L' := [some (.inr (.inr (some 3000))), some (.inr (.inr (some 0))), some (.inr (.inr (some 79))), some (.inl i)]) (st' := []) (w' := (SH, dt)) rfl ?_
      exact K dt hI hM hM2 (by first | omega | (simp only [*]; done) | simp only [*]) (by omega) (by omega) (by omega) (by omega) (by omega) (by omega) (by omega) (by omega) (by omega) (by omega) (by omega) (by omega) (by omega) (by omega) (by omega) (by first | exact hI | exact TPL_k hd0 (fun _ => rfl) (fun _ => rfl) (by omega) | (exfalso; omega)) (by first | exact hI | exact SCL_k hd1 hM (fun j _ => (fun _ => rfl) j) (fun j _ => (fun _ => rfl) j) (fun j _ _ => (fun _ => rfl) j) | (exfalso; omega)) (by first | exact hI | exact SCL_k hd2 hM2 (fun j _ => (fun _ => rfl) j) (fun j _ => (fun _ => rfl) j) (fun j _ _ => (fun _ => rfl) j) | (exfalso; omega))
    · skip
      obtain ⟨h7_0, h7_1⟩ := h7
      refine go_toq PM267 (k := 2) (pc' := 1435) (L' := [some (.inr (.inr (some 3000))), some (.inr (.inr (some 0))), some (.inr (.inr (some 79))), some (.inl i)]) (st' := []) (w' := (SH, dt)) rfl ?_
      exact K dt hI hM hM2 (by first | omega | (simp only [*]; done) | simp only [*]) (by omega) (by omega) (by omega) (by omega) (by omega) (by omega) (by omega) (by omega) (by omega) (by omega) (by omega) (by omega) (by omega) (by omega) (by omega) (by first | exact hI | exact TPL_k hd0 (fun _ => rfl) (fun _ => rfl) (by omega) | (exfalso; omega)) (by first | exact hI | exact SCL_k hd1 hM (fun j _ => (fun _ => rfl) j) (fun j _ => (fun _ => rfl) j) (fun j _ _ => (fun _ => rfl) j) | (exfalso; omega)) (by first | exact hI | exact SCL_k hd2 hM2 (fun j _ => (fun _ => rfl) j) (fun j _ => (fun _ => rfl) j) (fun j _ _ => (fun _ => rfl) j) | (exfalso; omega))
    · skip
      refine go_toq PM267 (k := 2) (pc' := 1435) (L' := [some (.inr (.inr (some 3000))), some (.inr (.inr (some 0))), some (.inr (.inr (some 79))), some (.inl i)]) (st' := []) (w' := (SH, dt)) rfl ?_
      exact K dt hI hM hM2 (by first | omega | (simp only [*]; done) | simp only [*]) (by omega) (by omega) (by omega) (by omega) (by omega) (by omega) (by omega) (by omega) (by omega) (by omega) (by omega) (by omega) (by omega) (by omega) (by omega) (by first | exact hI | exact TPL_k hd0 (fun _ => rfl) (fun _ => rfl) (by omega) | (exfalso; omega)) (by first | exact hI | exact SCL_k hd1 hM (fun j _ => (fun _ => rfl) j) (fun j _ => (fun _ => rfl) j) (fun j _ _ => (fun _ => rfl) j) | (exfalso; omega)) (by first | exact hI | exact SCL_k hd2 hM2 (fun j _ => (fun _ => rfl) j) (fun j _ => (fun _ => rfl) j) (fun j _ _ => (fun _ => rfl) j) | (exfalso; omega))
  · skip
    refine go_toq PM267 (k := 6) (pc' := 1427) (L' := [some (.inr (.inr (some 3000))), some (.inr (.inr (some 0))), some (.inr (.inr (some 79))), some (.inl i)]) (st' := [.inl (i + 1), .inr (.inr (some 3000)), .inr (.inr (some 79))]) (w' := (SH, dt)) rfl ?_
    refine go_smpq PM267 (L' := [some (.inr (.inr (some 3000))), some (.inr (.inr (some 0))), some (.inr (.inr (some 79))), some (.inl i)]) (st' := [.inl ((xs ((i + 1).toNat)).toInt), .inr (.inr (some 79))]) (w' := (SH, dt)) rfl rfl (s_iald (n := L) (f := fun j => (xs j).toInt) (am_scr hLL) ⟨by omega, by omega⟩) ?_
    refine go_callq PM267 PM248 (Q' := _) rfl rfl rfl rfl (sp_X6_look L xs sio (d + 38) dt hI  ((xs ((i + 1).toNat)).toInt) ⟨by omega, by omega⟩ ) ?_
    rintro _ _ ⟨rfl, h8⟩
    refine ⟨rfl, ?_⟩
    rcases h8 with ⟨rfl, h8⟩ | ⟨rfl, h8⟩ | ⟨rfl, h8⟩ | ⟨rfl, h8⟩ | ⟨rfl, h8⟩ | ⟨rfl, h8⟩ | ⟨rfl, h8⟩ | ⟨rfl, h8⟩ | ⟨rfl, h8⟩
    · skip
      refine go_toq PM267 (k := 2) (pc' := 1435) (L' := [some (.inr (.inr (some 3000))), some (.inr (.inr (some 0))), some (.inr (.inr (some 79))), some (.inl i)]) (st' := []) (w' := (SH, dt)) rfl ?_
      exact K dt hI hM hM2 (by first | omega | (simp only [*]; done) | simp only [*]) (by omega) (by omega) (by omega) (by omega) (by omega) (by omega) (by omega) (by omega) (by omega) (by omega) (by omega) (by omega) (by omega) (by omega) (by omega) (by first | exact hI | exact TPL_k hd0 (fun _ => rfl) (fun _ => rfl) (by omega) | (exfalso; omega)) (by first | exact hI | exact SCL_k hd1 hM (fun j _ => (fun _ => rfl) j) (fun j _ => (fun _ => rfl) j) (fun j _ _ => (fun _ => rfl) j) | (exfalso; omega)) (by first | exact hI | exact SCL_k hd2 hM2 (fun j _ => (fun _ => rfl) j) (fun j _ => (fun _ => rfl) j) (fun j _ _ => (fun _ => rfl) j) | (exfalso; omega))
    · skip
      refine go_toq PM267 (k := 2) (pc' := 1435) (L' := [some (.inr (.inr (some 3000))), some (.inr (.inr (some 0))), some (.inr (.inr (some 79))), some (.inl i)]) (st' := []) (w' := (SH, dt)) rfl ?_
      exact K dt hI hM hM2 (by first | omega | (simp only [*]; done) | simp only [*]) (by omega) (by omega) (by omega) (by omega) (by omega) (by omega) (by omega) (by omega) (by omega) (by omega) (by omega) (by omega) (by omega) (by omega) (by omega) (by first | exact hI | exact TPL_k hd0 (fun _ => rfl) (fun _ => rfl) (by omega) | (exfalso; omega)) (by first | exact hI | exact SCL_k hd1 hM (fun j _ => (fun _ => rfl) j) (fun j _ => (fun _ => rfl) j) (fun j _ _ => (fun _ => rfl) j) | (exfalso; omega)) (by first | exact hI | exact SCL_k hd2 hM2 (fun j _ => (fun _ => rfl) j) (fun j _ => (fun _ => rfl) j) (fun j _ _ => (fun _ => rfl) j) | (exfalso; omega))
    · skip
      refine go_toq PM267 (k := 2) (pc' := 1435) (L' := [some (.inr (.inr (some 3000))), some (.inr (.inr (some 0))), some (.inr (.inr (some 79))), some (.inl i)]) (st' := []) (w' := (SH, dt)) rfl ?_
      exact K dt hI hM hM2 (by first | omega | (simp only [*]; done) | simp only [*]) (by omega) (by omega) (by omega) (by omega) (by omega) (by omega) (by omega) (by omega) (by omega) (by omega) (by omega) (by omega) (by omega) (by omega) (by omega) (by first | exact hI | exact TPL_k hd0 (fun _ => rfl) (fun _ => rfl) (by omega) | (exfalso; omega)) (by first | exact hI | exact SCL_k hd1 hM (fun j _ => (fun _ => rfl) j) (fun j _ => (fun _ => rfl) j) (fun j _ _ => (fun _ => rfl) j) | (exfalso; omega)) (by first | exact hI | exact SCL_k hd2 hM2 (fun j _ => (fun _ => rfl) j) (fun j _ => (fun _ => rfl) j) (fun j _ _ => (fun _ => rfl) j) | (exfalso; omega))
    · skip
      refine go_toq PM267 (k := 2) (pc' := 1435) (L' := [some (.inr (.inr (some 3000))), some (.inr (.inr (some 0))), some (.inr (.inr (some 79))), some (.inl i)]) (st' := []) (w' := (SH, dt)) rfl ?_
      exact K dt hI hM hM2 (by first | omega | (simp only [*]; done) | simp only [*]) (by omega) (by omega) (by omega) (by omega) (by omega) (by omega) (by omega) (by omega) (by omega) (by omega) (by omega) (by omega) (by omega) (by omega) (by omega) (by first | exact hI | exact TPL_k hd0 (fun _ => rfl) (fun _ => rfl) (by omega) | (exfalso; omega)) (by first | exact hI | exact SCL_k hd1 hM (fun j _ => (fun _ => rfl) j) (fun j _ => (fun _ => rfl) j) (fun j _ _ => (fun _ => rfl) j) | (exfalso; omega)) (by first | exact hI | exact SCL_k hd2 hM2 (fun j _ => (fun _ => rfl) j) (fun j _ => (fun _ => rfl) j) (fun j _ _ => (fun _ => rfl) j) | (exfalso; omega))
    · skip
      refine go_toq PM267 (k := 2) (pc' := 1435) (L' := [some (.inr (.inr (some 3000))), some (.inr (.inr (some 0))), some (.inr (.inr (some 79))), some (.inl i)]) (st' := []) (w' := (SH, dt)) rfl ?_
      exact K dt hI hM hM2 (by first | omega | (simp only [*]; done) | simp only [*]) (by omega) (by omega) (by omega) (by omega) (by omega) (by omega) (by omega) (by omega) (by omega) (by omega) (by omega) (by omega) (by omega) (by omega) (by omega) (by first | exact hI | exact TPL_k hd0 (fun _ => rfl) (fun _ => rfl) (by omega) | (exfalso; omega)) (by first | exact hI | exact SCL_k hd1 hM (fun j _ => (fun _ => rfl) j) (fun j _ => (fun _ => rfl) j) (fun j _ _ => (fun _ => rfl) j) | (exfalso; omega)) (by first | exact hI | exact SCL_k hd2 hM2 (fun j _ => (fun _ => rfl) j) (fun j _ => (fun _ => rfl) j) (fun j _ _ => (fun _ => rfl) j) | (exfalso; omega))
    · skip
      refine go_toq PM267 (k := 2) (pc' := 1435) (L' := [some (.inr (.inr (some 3000))), some (.inr (.inr (some 0))), some (.inr (.inr (some 79))), some (.inl i)]) (st' := []) (w' := (SH, dt)) rfl ?_
      exact K dt hI hM hM2 (by first | omega | (simp only [*]; done) | simp only [*]) (by omega) (by omega) (by omega) (by omega) (by omega) (by omega) (by omega) (by omega) (by omega) (by omega) (by omega) (by omega) (by omega) (by omega) (by omega) (by first | exact hI | exact TPL_k hd0 (fun _ => rfl) (fun _ => rfl) (by omega) | (exfalso; omega)) (by first | exact hI | exact SCL_k hd1 hM (fun j _ => (fun _ => rfl) j) (fun j _ => (fun _ => rfl) j) (fun j _ _ => (fun _ => rfl) j) | (exfalso; omega)) (by first | exact hI | exact SCL_k hd2 hM2 (fun j _ => (fun _ => rfl) j) (fun j _ => (fun _ => rfl) j) (fun j _ _ => (fun _ => rfl) j) | (exfalso; omega))
    · skip
      obtain ⟨h8_0, h8_1⟩ := h8
      refine go_toq PM267 (k := 2) (pc' := 1435) (L' := [some (.inr (.inr (some 3000))), some (.inr (.inr (some 0))), some (.inr (.inr (some 79))), some (.inl i)]) (st' := []) (w' := (SH, dt)) rfl ?_
      exact K dt hI hM hM2 (by first | omega | (simp only [*]; done) | simp only [*]) (by omega) (by omega) (by omega) (by omega) (by omega) (by omega) (by omega) (by omega) (by omega) (by omega) (by omega) (by omega) (by omega) (by omega) (by omega) (by first | exact hI | exact TPL_k hd0 (fun _ => rfl) (fun _ => rfl) (by omega) | (exfalso; omega)) (by first | exact hI | exact SCL_k hd1 hM (fun j _ => (fun _ => rfl) j) (fun j _ => (fun _ => rfl) j) (fun j _ _ => (fun _ => rfl) j) | (exfalso; omega)) (by first | exact hI | exact SCL_k hd2 hM2 (fun j _ => (fun _ => rfl) j) (fun j _ => (fun _ => rfl) j) (fun j _ _ => (fun _ => rfl) j) | (exfalso; omega))
    · skip
      obtain ⟨h8_0, h8_1⟩ := h8
      refine go_toq PM267 (k := 2) (pc' := 1435) (L' := [some (.inr (.inr (some 3000))), some (.inr (.inr (some 0))), some (.inr (.inr (some 79))), some (.inl i)]) (st' := []) (w' := (SH, dt)) rfl ?_
      exact K dt hI hM hM2 (by first | omega | (simp only [*]; done) | simp only [*]) (by omega) (by omega) (by omega) (by omega) (by omega) (by omega) (by omega) (by omega) (by omega) (by omega) (by omega) (by omega) (by omega) (by omega) (by omega) (by first | exact hI | exact TPL_k hd0 (fun _ => rfl) (fun _ => rfl) (by omega) | (exfalso; omega)) (by first | exact hI | exact SCL_k hd1 hM (fun j _ => (fun _ => rfl) j) (fun j _ => (fun _ => rfl) j) (fun j _ _ => (fun _ => rfl) j) | (exfalso; omega)) (by first | exact hI | exact SCL_k hd2 hM2 (fun j _ => (fun _ => rfl) j) (fun j _ => (fun _ => rfl) j) (fun j _ _ => (fun _ => rfl) j) | (exfalso; omega))
    · skip
      refine go_toq PM267 (k := 2) (pc' := 1435) (L' := [some (.inr (.inr (some 3000))), some (.inr (.inr (some 0))), some (.inr (.inr (some 79))), some (.inl i)]) (st' := []) (w' := (SH, dt)) rfl ?_
      exact K dt hI hM hM2 (by first | omega | (simp only [*]; done) | simp only [*]) (by omega) (by omega) (by omega) (by omega) (by omega) (by omega) (by omega) (by omega) (by omega) (by omega) (by omega) (by omega) (by omega) (by omega) (by omega) (by first | exact hI | exact TPL_k hd0 (fun _ => rfl) (fun _ => rfl) (by omega) | (exfalso; omega)) (by first | exact hI | exact SCL_k hd1 hM (fun j _ => (fun _ => rfl) j) (fun j _ => (fun _ => rfl) j) (fun j _ _ => (fun _ => rfl) j) | (exfalso; omega)) (by first | exact hI | exact SCL_k hd2 hM2 (fun j _ => (fun _ => rfl) j) (fun j _ => (fun _ => rfl) j) (fun j _ _ => (fun _ => rfl) j) | (exfalso; omega))
  · skip
    obtain ⟨h2_0, h2_1⟩ := h2
    refine go_toq PM267 (k := 6) (pc' := 1427) (L' := [some (.inr (.inr (some 3000))), some (.inr (.inr (some 0))), some (.inr (.inr (some 79))), some (.inl i)]) (st' := [.inl (i + 1), .inr (.inr (some 3000)), .inr (.inr (some 79))]) (w' := (SH, dt)) rfl ?_
    refine go_smpq PM267 (L' := [some (.inr (.inr (some 3000))), some (.inr (.inr (some 0))), some (.inr (.inr (some 79))), some (.inl i)]) (st' := [.inl ((xs ((i + 1).toNat)).toInt), .inr (.inr (some 79))]) (w' := (SH, dt)) rfl rfl (s_iald (n := L) (f := fun j => (xs j).toInt) (am_scr hLL) ⟨by omega, by omega⟩) ?_
    refine go_callq PM267 PM248 (Q' := _) rfl rfl rfl rfl (sp_X6_look L xs sio (d + 38) dt hI  ((xs ((i + 1).toNat)).toInt) ⟨by omega, by omega⟩ ) ?_
    rintro _ _ ⟨rfl, h9⟩
    refine ⟨rfl, ?_⟩
    rcases h9 with ⟨rfl, h9⟩ | ⟨rfl, h9⟩ | ⟨rfl, h9⟩ | ⟨rfl, h9⟩ | ⟨rfl, h9⟩ | ⟨rfl, h9⟩ | ⟨rfl, h9⟩ | ⟨rfl, h9⟩ | ⟨rfl, h9⟩
    · skip
      refine go_toq PM267 (k := 2) (pc' := 1435) (L' := [some (.inr (.inr (some 3000))), some (.inr (.inr (some 0))), some (.inr (.inr (some 79))), some (.inl i)]) (st' := []) (w' := (SH, dt)) rfl ?_
      exact K dt hI hM hM2 (by first | omega | (simp only [*]; done) | simp only [*]) (by omega) (by omega) (by omega) (by omega) (by omega) (by omega) (by omega) (by omega) (by omega) (by omega) (by omega) (by omega) (by omega) (by omega) (by omega) (by first | exact hI | exact TPL_k hd0 (fun _ => rfl) (fun _ => rfl) (by omega) | (exfalso; omega)) (by first | exact hI | exact SCL_k hd1 hM (fun j _ => (fun _ => rfl) j) (fun j _ => (fun _ => rfl) j) (fun j _ _ => (fun _ => rfl) j) | (exfalso; omega)) (by first | exact hI | exact SCL_k hd2 hM2 (fun j _ => (fun _ => rfl) j) (fun j _ => (fun _ => rfl) j) (fun j _ _ => (fun _ => rfl) j) | (exfalso; omega))
    · skip
      refine go_toq PM267 (k := 2) (pc' := 1435) (L' := [some (.inr (.inr (some 3000))), some (.inr (.inr (some 0))), some (.inr (.inr (some 79))), some (.inl i)]) (st' := []) (w' := (SH, dt)) rfl ?_
      exact K dt hI hM hM2 (by first | omega | (simp only [*]; done) | simp only [*]) (by omega) (by omega) (by omega) (by omega) (by omega) (by omega) (by omega) (by omega) (by omega) (by omega) (by omega) (by omega) (by omega) (by omega) (by omega) (by first | exact hI | exact TPL_k hd0 (fun _ => rfl) (fun _ => rfl) (by omega) | (exfalso; omega)) (by first | exact hI | exact SCL_k hd1 hM (fun j _ => (fun _ => rfl) j) (fun j _ => (fun _ => rfl) j) (fun j _ _ => (fun _ => rfl) j) | (exfalso; omega)) (by first | exact hI | exact SCL_k hd2 hM2 (fun j _ => (fun _ => rfl) j) (fun j _ => (fun _ => rfl) j) (fun j _ _ => (fun _ => rfl) j) | (exfalso; omega))
    · skip
      refine go_toq PM267 (k := 2) (pc' := 1435) (L' := [some (.inr (.inr (some 3000))), some (.inr (.inr (some 0))), some (.inr (.inr (some 79))), some (.inl i)]) (st' := []) (w' := (SH, dt)) rfl ?_
      exact K dt hI hM hM2 (by first | omega | (simp only [*]; done) | simp only [*]) (by omega) (by omega) (by omega) (by omega) (by omega) (by omega) (by omega) (by omega) (by omega) (by omega) (by omega) (by omega) (by omega) (by omega) (by omega) (by first | exact hI | exact TPL_k hd0 (fun _ => rfl) (fun _ => rfl) (by omega) | (exfalso; omega)) (by first | exact hI | exact SCL_k hd1 hM (fun j _ => (fun _ => rfl) j) (fun j _ => (fun _ => rfl) j) (fun j _ _ => (fun _ => rfl) j) | (exfalso; omega)) (by first | exact hI | exact SCL_k hd2 hM2 (fun j _ => (fun _ => rfl) j) (fun j _ => (fun _ => rfl) j) (fun j _ _ => (fun _ => rfl) j) | (exfalso; omega))
    · skip
      refine go_toq PM267 (k := 2) (pc' := 1435) (L' := [some (.inr (.inr (some 3000))), some (.inr (.inr (some 0))), some (.inr (.inr (some 79))), some (.inl i)]) (st' := []) (w' := (SH, dt)) rfl ?_
      exact K dt hI hM hM2 (by first | omega | (simp only [*]; done) | simp only [*]) (by omega) (by omega) (by omega) (by omega) (by omega) (by omega) (by omega) (by omega) (by omega) (by omega) (by omega) (by omega) (by omega) (by omega) (by omega) (by first | exact hI | exact TPL_k hd0 (fun _ => rfl) (fun _ => rfl) (by omega) | (exfalso; omega)) (by first | exact hI | exact SCL_k hd1 hM (fun j _ => (fun _ => rfl) j) (fun j _ => (fun _ => rfl) j) (fun j _ _ => (fun _ => rfl) j) | (exfalso; omega)) (by first | exact hI | exact SCL_k hd2 hM2 (fun j _ => (fun _ => rfl) j) (fun j _ => (fun _ => rfl) j) (fun j _ _ => (fun _ => rfl) j) | (exfalso; omega))
    · skip
      refine go_toq PM267 (k := 2) (pc' := 1435) (L' := [some (.inr (.inr (some 3000))), some (.inr (.inr (some 0))), some (.inr (.inr (some 79))), some (.inl i)]) (st' := []) (w' := (SH, dt)) rfl ?_
      exact K dt hI hM hM2 (by first | omega | (simp only [*]; done) | simp only [*]) (by omega) (by omega) (by omega) (by omega) (by omega) (by omega) (by omega) (by omega) (by omega) (by omega) (by omega) (by omega) (by omega) (by omega) (by omega) (by first | exact hI | exact TPL_k hd0 (fun _ => rfl) (fun _ => rfl) (by omega) | (exfalso; omega)) (by first | exact hI | exact SCL_k hd1 hM (fun j _ => (fun _ => rfl) j) (fun j _ => (fun _ => rfl) j) (fun j _ _ => (fun _ => rfl) j) | (exfalso; omega)) (by first | exact hI | exact SCL_k hd2 hM2 (fun j _ => (fun _ => rfl) j) (fun j _ => (fun _ => rfl) j) (fun j _ _ => (fun _ => rfl) j) | (exfalso; omega))
    · skip
      refine go_toq PM267 (k := 2) (pc' := 1435) (L' := [some (.inr (.inr (some 3000))), some (.inr (.inr (some 0))), some (.inr (.inr (some 79))), some (.inl i)]) (st' := []) (w' := (SH, dt)) rfl ?_
      exact K dt hI hM hM2 (by first | omega | (simp only [*]; done) | simp only [*]) (by omega) (by omega) (by omega) (by omega) (by omega) (by omega) (by omega) (by omega) (by omega) (by omega) (by omega) (by omega) (by omega) (by omega) (by omega) (by first | exact hI | exact TPL_k hd0 (fun _ => rfl) (fun _ => rfl) (by omega) | (exfalso; omega)) (by first | exact hI | exact SCL_k hd1 hM (fun j _ => (fun _ => rfl) j) (fun j _ => (fun _ => rfl) j) (fun j _ _ => (fun _ => rfl) j) | (exfalso; omega)) (by first | exact hI | exact SCL_k hd2 hM2 (fun j _ => (fun _ => rfl) j) (fun j _ => (fun _ => rfl) j) (fun j _ _ => (fun _ => rfl) j) | (exfalso; omega))
    · skip
      obtain ⟨h9_0, h9_1⟩ := h9
      refine go_toq PM267 (k := 2) (pc' := 1435) (L' := [some (.inr (.inr (some 3000))), some (.inr (.inr (some 0))), some (.inr (.inr (some 79))), some (.inl i)]) (st' := []) (w' := (SH, dt)) rfl ?_
      exact K dt hI hM hM2 (by first | omega | (simp only [*]; done) | simp only [*]) (by omega) (by omega) (by omega) (by omega) (by omega) (by omega) (by omega) (by omega) (by omega) (by omega) (by omega) (by omega) (by omega) (by omega) (by omega) (by first | exact hI | exact TPL_k hd0 (fun _ => rfl) (fun _ => rfl) (by omega) | (exfalso; omega)) (by first | exact hI | exact SCL_k hd1 hM (fun j _ => (fun _ => rfl) j) (fun j _ => (fun _ => rfl) j) (fun j _ _ => (fun _ => rfl) j) | (exfalso; omega)) (by first | exact hI | exact SCL_k hd2 hM2 (fun j _ => (fun _ => rfl) j) (fun j _ => (fun _ => rfl) j) (fun j _ _ => (fun _ => rfl) j) | (exfalso; omega))
    · skip
      obtain ⟨h9_0, h9_1⟩ := h9
      refine go_toq PM267 (k := 2) (pc' := 1435) (L' := [some (.inr (.inr (some 3000))), some (.inr (.inr (some 0))), some (.inr (.inr (some 79))), some (.inl i)]) (st' := []) (w' := (SH, dt)) rfl ?_
      exact K dt hI hM hM2 (by first | omega | (simp only [*]; done) | simp only [*]) (by omega) (by omega) (by omega) (by omega) (by omega) (by omega) (by omega) (by omega) (by omega) (by omega) (by omega) (by omega) (by omega) (by omega) (by omega) (by first | exact hI | exact TPL_k hd0 (fun _ => rfl) (fun _ => rfl) (by omega) | (exfalso; omega)) (by first | exact hI | exact SCL_k hd1 hM (fun j _ => (fun _ => rfl) j) (fun j _ => (fun _ => rfl) j) (fun j _ _ => (fun _ => rfl) j) | (exfalso; omega)) (by first | exact hI | exact SCL_k hd2 hM2 (fun j _ => (fun _ => rfl) j) (fun j _ => (fun _ => rfl) j) (fun j _ _ => (fun _ => rfl) j) | (exfalso; omega))
    · skip
      refine go_toq PM267 (k := 2) (pc' := 1435) (L' := [some (.inr (.inr (some 3000))), some (.inr (.inr (some 0))), some (.inr (.inr (some 79))), some (.inl i)]) (st' := []) (w' := (SH, dt)) rfl ?_
      exact K dt hI hM hM2 (by first | omega | (simp only [*]; done) | simp only [*]) (by omega) (by omega) (by omega) (by omega) (by omega) (by omega) (by omega) (by omega) (by omega) (by omega) (by omega) (by omega) (by omega) (by omega) (by omega) (by first | exact hI | exact TPL_k hd0 (fun _ => rfl) (fun _ => rfl) (by omega) | (exfalso; omega)) (by first | exact hI | exact SCL_k hd1 hM (fun j _ => (fun _ => rfl) j) (fun j _ => (fun _ => rfl) j) (fun j _ _ => (fun _ => rfl) j) | (exfalso; omega)) (by first | exact hI | exact SCL_k hd2 hM2 (fun j _ => (fun _ => rfl) j) (fun j _ => (fun _ => rfl) j) (fun j _ _ => (fun _ => rfl) j) | (exfalso; omega))
  · skip
    obtain ⟨h2_0, h2_1⟩ := h2
    refine go_toq PM267 (k := 6) (pc' := 1427) (L' := [some (.inr (.inr (some 3000))), some (.inr (.inr (some 0))), some (.inr (.inr (some 79))), some (.inl i)]) (st' := [.inl (i + 1), .inr (.inr (some 3000)), .inr (.inr (some 79))]) (w' := (SH, dt)) rfl ?_
    refine go_smpq PM267 (L' := [some (.inr (.inr (some 3000))), some (.inr (.inr (some 0))), some (.inr (.inr (some 79))), some (.inl i)]) (st' := [.inl ((xs ((i + 1).toNat)).toInt), .inr (.inr (some 79))]) (w' := (SH, dt)) rfl rfl (s_iald (n := L) (f := fun j => (xs j).toInt) (am_scr hLL) ⟨by omega, by omega⟩) ?_
    refine go_callq PM267 PM248 (Q' := _) rfl rfl rfl rfl (sp_X6_look L xs sio (d + 38) dt hI  ((xs ((i + 1).toNat)).toInt) ⟨by omega, by omega⟩ ) ?_
    rintro _ _ ⟨rfl, h10⟩
    refine ⟨rfl, ?_⟩
    rcases h10 with ⟨rfl, h10⟩ | ⟨rfl, h10⟩ | ⟨rfl, h10⟩ | ⟨rfl, h10⟩ | ⟨rfl, h10⟩ | ⟨rfl, h10⟩ | ⟨rfl, h10⟩ | ⟨rfl, h10⟩ | ⟨rfl, h10⟩
    · skip
      refine go_toq PM267 (k := 2) (pc' := 1435) (L' := [some (.inr (.inr (some 3000))), some (.inr (.inr (some 0))), some (.inr (.inr (some 79))), some (.inl i)]) (st' := []) (w' := (SH, dt)) rfl ?_
      exact K dt hI hM hM2 (by first | omega | (simp only [*]; done) | simp only [*]) (by omega) (by omega) (by omega) (by omega) (by omega) (by omega) (by omega) (by omega) (by omega) (by omega) (by omega) (by omega) (by omega) (by omega) (by omega) (by first | exact hI | exact TPL_k hd0 (fun _ => rfl) (fun _ => rfl) (by omega) | (exfalso; omega)) (by first | exact hI | exact SCL_k hd1 hM (fun j _ => (fun _ => rfl) j) (fun j _ => (fun _ => rfl) j) (fun j _ _ => (fun _ => rfl) j) | (exfalso; omega)) (by first | exact hI | exact SCL_k hd2 hM2 (fun j _ => (fun _ => rfl) j) (fun j _ => (fun _ => rfl) j) (fun j _ _ => (fun _ => rfl) j) | (exfalso; omega))
    · skip
      refine go_toq PM267 (k := 2) (pc' := 1435) (L' := [some (.inr (.inr (some 3000))), some (.inr (.inr (some 0))), some (.inr (.inr (some 79))), some (.inl i)]) (st' := []) (w' := (SH, dt)) rfl ?_
      exact K dt hI hM hM2 (by first | omega | (simp only [*]; done) | simp only [*]) (by omega) (by omega) (by omega) (by omega) (by omega) (by omega) (by omega) (by omega) (by omega) (by omega) (by omega) (by omega) (by omega) (by omega) (by omega) (by first | exact hI | exact TPL_k hd0 (fun _ => rfl) (fun _ => rfl) (by omega) | (exfalso; omega)) (by first | exact hI | exact SCL_k hd1 hM (fun j _ => (fun _ => rfl) j) (fun j _ => (fun _ => rfl) j) (fun j _ _ => (fun _ => rfl) j) | (exfalso; omega)) (by first | exact hI | exact SCL_k hd2 hM2 (fun j _ => (fun _ => rfl) j) (fun j _ => (fun _ => rfl) j) (fun j _ _ => (fun _ => rfl) j) | (exfalso; omega))
    · skip
      refine go_toq PM267 (k := 2) (pc' := 1435) (L' := [some (.inr (.inr (some 3000))), some (.inr (.inr (some 0))), some (.inr (.inr (some 79))), some (.inl i)]) (st' := []) (w' := (SH, dt)) rfl ?_
      exact K dt hI hM hM2 (by first | omega | (simp only [*]; done) | simp only [*]) (by omega) (by omega) (by omega) (by omega) (by omega) (by omega) (by omega) (by omega) (by omega) (by omega) (by omega) (by omega) (by omega) (by omega) (by omega) (by first | exact hI | exact TPL_k hd0 (fun _ => rfl) (fun _ => rfl) (by omega) | (exfalso; omega)) (by first | exact hI | exact SCL_k hd1 hM (fun j _ => (fun _ => rfl) j) (fun j _ => (fun _ => rfl) j) (fun j _ _ => (fun _ => rfl) j) | (exfalso; omega)) (by first | exact hI | exact SCL_k hd2 hM2 (fun j _ => (fun _ => rfl) j) (fun j _ => (fun _ => rfl) j) (fun j _ _ => (fun _ => rfl) j) | (exfalso; omega))
    · skip
      refine go_toq PM267 (k := 2) (pc' := 1435) (L' := [some (.inr (.inr (some 3000))), some (.inr (.inr (some 0))), some (.inr (.inr (some 79))), some (.inl i)]) (st' := []) (w' := (SH, dt)) rfl ?_
      exact K dt hI hM hM2 (by first | omega | (simp only [*]; done) | simp only [*]) (by omega) (by omega) (by omega) (by omega) (by omega) (by omega) (by omega) (by omega) (by omega) (by omega) (by omega) (by omega) (by omega) (by omega) (by omega) (by first | exact hI | exact TPL_k hd0 (fun _ => rfl) (fun _ => rfl) (by omega) | (exfalso; omega)) (by first | exact hI | exact SCL_k hd1 hM (fun j _ => (fun _ => rfl) j) (fun j _ => (fun _ => rfl) j) (fun j _ _ => (fun _ => rfl) j) | (exfalso; omega)) (by first | exact hI | exact SCL_k hd2 hM2 (fun j _ => (fun _ => rfl) j) (fun j _ => (fun _ => rfl) j) (fun j _ _ => (fun _ => rfl) j) | (exfalso; omega))
    · skip
      refine go_toq PM267 (k := 2) (pc' := 1435) (L' := [some (.inr (.inr (some 3000))), some (.inr (.inr (some 0))), some (.inr (.inr (some 79))), some (.inl i)]) (st' := []) (w' := (SH, dt)) rfl ?_
      exact K dt hI hM hM2 (by first | omega | (simp only [*]; done) | simp only [*]) (by omega) (by omega) (by omega) (by omega) (by omega) (by omega) (by omega) (by omega) (by omega) (by omega) (by omega) (by omega) (by omega) (by omega) (by omega) (by first | exact hI | exact TPL_k hd0 (fun _ => rfl) (fun _ => rfl) (by omega) | (exfalso; omega)) (by first | exact hI | exact SCL_k hd1 hM (fun j _ => (fun _ => rfl) j) (fun j _ => (fun _ => rfl) j) (fun j _ _ => (fun _ => rfl) j) | (exfalso; omega)) (by first | exact hI | exact SCL_k hd2 hM2 (fun j _ => (fun _ => rfl) j) (fun j _ => (fun _ => rfl) j) (fun j _ _ => (fun _ => rfl) j) | (exfalso; omega))
    · skip
      refine go_toq PM267 (k := 2) (pc' := 1435) (L' := [some (.inr (.inr (some 3000))), some (.inr (.inr (some 0))), some (.inr (.inr (some 79))), some (.inl i)]) (st' := []) (w' := (SH, dt)) rfl ?_
      exact K dt hI hM hM2 (by first | omega | (simp only [*]; done) | simp only [*]) (by omega) (by omega) (by omega) (by omega) (by omega) (by omega) (by omega) (by omega) (by omega) (by omega) (by omega) (by omega) (by omega) (by omega) (by omega) (by first | exact hI | exact TPL_k hd0 (fun _ => rfl) (fun _ => rfl) (by omega) | (exfalso; omega)) (by first | exact hI | exact SCL_k hd1 hM (fun j _ => (fun _ => rfl) j) (fun j _ => (fun _ => rfl) j) (fun j _ _ => (fun _ => rfl) j) | (exfalso; omega)) (by first | exact hI | exact SCL_k hd2 hM2 (fun j _ => (fun _ => rfl) j) (fun j _ => (fun _ => rfl) j) (fun j _ _ => (fun _ => rfl) j) | (exfalso; omega))
    · skip
      obtain ⟨h10_0, h10_1⟩ := h10
      refine go_toq PM267 (k := 2) (pc' := 1435) (L' := [some (.inr (.inr (some 3000))), some (.inr (.inr (some 0))), some (.inr (.inr (some 79))), some (.inl i)]) (st' := []) (w' := (SH, dt)) rfl ?_
      exact K dt hI hM hM2 (by first | omega | (simp only [*]; done) | simp only [*]) (by omega) (by omega) (by omega) (by omega) (by omega) (by omega) (by omega) (by omega) (by omega) (by omega) (by omega) (by omega) (by omega) (by omega) (by omega) (by first | exact hI | exact TPL_k hd0 (fun _ => rfl) (fun _ => rfl) (by omega) | (exfalso; omega)) (by first | exact hI | exact SCL_k hd1 hM (fun j _ => (fun _ => rfl) j) (fun j _ => (fun _ => rfl) j) (fun j _ _ => (fun _ => rfl) j) | (exfalso; omega)) (by first | exact hI | exact SCL_k hd2 hM2 (fun j _ => (fun _ => rfl) j) (fun j _ => (fun _ => rfl) j) (fun j _ _ => (fun _ => rfl) j) | (exfalso; omega))
    · skip
      obtain ⟨h10_0, h10_1⟩ := h10
      refine go_toq PM267 (k := 2) (pc' := 1435) (L' := [some (.inr (.inr (some 3000))), some (.inr (.inr (some 0))), some (.inr (.inr (some 79))), some (.inl i)]) (st' := []) (w' := (SH, dt)) rfl ?_
      exact K dt hI hM hM2 (by first | omega | (simp only [*]; done) | simp only [*]) (by omega) (by omega) (by omega) (by omega) (by omega) (by omega) (by omega) (by omega) (by omega) (by omega) (by omega) (by omega) (by omega) (by omega) (by omega) (by first | exact hI | exact TPL_k hd0 (fun _ => rfl) (fun _ => rfl) (by omega) | (exfalso; omega)) (by first | exact hI | exact SCL_k hd1 hM (fun j _ => (fun _ => rfl) j) (fun j _ => (fun _ => rfl) j) (fun j _ _ => (fun _ => rfl) j) | (exfalso; omega)) (by first | exact hI | exact SCL_k hd2 hM2 (fun j _ => (fun _ => rfl) j) (fun j _ => (fun _ => rfl) j) (fun j _ _ => (fun _ => rfl) j) | (exfalso; omega))
    · skip
      refine go_toq PM267 (k := 2) (pc' := 1435) (L' := [some (.inr (.inr (some 3000))), some (.inr (.inr (some 0))), some (.inr (.inr (some 79))), some (.inl i)]) (st' := []) (w' := (SH, dt)) rfl ?_
      exact K dt hI hM hM2 (by first | omega | (simp only [*]; done) | simp only [*]) (by omega) (by omega) (by omega) (by omega) (by omega) (by omega) (by omega) (by omega) (by omega) (by omega) (by omega) (by omega) (by omega) (by omega) (by omega) (by first | exact hI | exact TPL_k hd0 (fun _ => rfl) (fun _ => rfl) (by omega) | (exfalso; omega)) (by first | exact hI | exact SCL_k hd1 hM (fun j _ => (fun _ => rfl) j) (fun j _ => (fun _ => rfl) j) (fun j _ _ => (fun _ => rfl) j) | (exfalso; omega)) (by first | exact hI | exact SCL_k hd2 hM2 (fun j _ => (fun _ => rfl) j) (fun j _ => (fun _ => rfl) j) (fun j _ _ => (fun _ => rfl) j) | (exfalso; omega))
  · skip
    refine go_toq PM267 (k := 6) (pc' := 1427) (L' := [some (.inr (.inr (some 3000))), some (.inr (.inr (some 0))), some (.inr (.inr (some 79))), some (.inl i)]) (st' := [.inl (i + 1), .inr (.inr (some 3000)), .inr (.inr (some 79))]) (w' := (SH, dt)) rfl ?_
    refine go_smpq PM267 (L' := [some (.inr (.inr (some 3000))), some (.inr (.inr (some 0))), some (.inr (.inr (some 79))), some (.inl i)]) (st' := [.inl ((xs ((i + 1).toNat)).toInt), .inr (.inr (some 79))]) (w' := (SH, dt)) rfl rfl (s_iald (n := L) (f := fun j => (xs j).toInt) (am_scr hLL) ⟨by omega, by omega⟩) ?_
    refine go_callq PM267 PM248 (Q' := _) rfl rfl rfl rfl (sp_X6_look L xs sio (d + 38) dt hI  ((xs ((i + 1).toNat)).toInt) ⟨by omega, by omega⟩ ) ?_
    rintro _ _ ⟨rfl, h11⟩
    refine ⟨rfl, ?_⟩
    rcases h11 with ⟨rfl, h11⟩ | ⟨rfl, h11⟩ | ⟨rfl, h11⟩ | ⟨rfl, h11⟩ | ⟨rfl, h11⟩ | ⟨rfl, h11⟩ | ⟨rfl, h11⟩ | ⟨rfl, h11⟩ | ⟨rfl, h11⟩
    · skip
      refine go_toq PM267 (k := 2) (pc' := 1435) (L' := [some (.inr (.inr (some 3000))), some (.inr (.inr (some 0))), some (.inr (.inr (some 79))), some (.inl i)]) (st' := []) (w' := (SH, dt)) rfl ?_
      exact K dt hI hM hM2 (by first | omega | (simp only [*]; done) | simp only [*]) (by omega) (by omega) (by omega) (by omega) (by omega) (by omega) (by omega) (by omega) (by omega) (by omega) (by omega) (by omega) (by omega) (by omega) (by omega) (by first | exact hI | exact TPL_k hd0 (fun _ => rfl) (fun _ => rfl) (by omega) | (exfalso; omega)) (by first | exact hI | exact SCL_k hd1 hM (fun j _ => (fun _ => rfl) j) (fun j _ => (fun _ => rfl) j) (fun j _ _ => (fun _ => rfl) j) | (exfalso; omega)) (by first | exact hI | exact SCL_k hd2 hM2 (fun j _ => (fun _ => rfl) j) (fun j _ => (fun _ => rfl) j) (fun j _ _ => (fun _ => rfl) j) | (exfalso; omega))
    · skip
      refine go_toq PM267 (k := 2) (pc' := 1435) (L' := [some (.inr (.inr (some 3000))), some (.inr (.inr (some 0))), some (.inr (.inr (some 79))), some (.inl i)]) (st' := []) (w' := (SH, dt)) rfl ?_
      exact K dt hI hM hM2 (by first | omega | (simp only [*]; done) | simp only [*]) (by omega) (by omega) (by omega) (by omega) (by omega) (by omega) (by omega) (by omega) (by omega) (by omega) (by omega) (by omega) (by omega) (by omega) (by omega) (by first | exact hI | exact TPL_k hd0 (fun _ => rfl) (fun _ => rfl) (by omega) | (exfalso; omega)) (by first | exact hI | exact SCL_k hd1 hM (fun j _ => (fun _ => rfl) j) (fun j _ => (fun _ => rfl) j) (fun j _ _ => (fun _ => rfl) j) | (exfalso; omega)) (by first | exact hI | exact SCL_k hd2 hM2 (fun j _ => (fun _ => rfl) j) (fun j _ => (fun _ => rfl) j) (fun j _ _ => (fun _ => rfl) j) | (exfalso; omega))
    · skip
      refine go_toq PM267 (k := 2) (pc' := 1435) (L' := [some (.inr (.inr (some 3000))), some (.inr (.inr (some 0))), some (.inr (.inr (some 79))), some (.inl i)]) (st' := []) (w' := (SH, dt)) rfl ?_
      exact K dt hI hM hM2 (by first | omega | (simp only [*]; done) | simp only [*]) (by omega) (by omega) (by omega) (by omega) (by omega) (by omega) (by omega) (by omega) (by omega) (by omega) (by omega) (by omega) (by omega) (by omega) (by omega) (by first | exact hI | exact TPL_k hd0 (fun _ => rfl) (fun _ => rfl) (by omega) | (exfalso; omega)) (by first | exact hI | exact SCL_k hd1 hM (fun j _ => (fun _ => rfl) j) (fun j _ => (fun _ => rfl) j) (fun j _ _ => (fun _ => rfl) j) | (exfalso; omega)) (by first | exact hI | exact SCL_k hd2 hM2 (fun j _ => (fun _ => rfl) j) (fun j _ => (fun _ => rfl) j) (fun j _ _ => (fun _ => rfl) j) | (exfalso; omega))
    · skip
      refine go_toq PM267 (k := 2) (pc' := 1435) (L' := [some (.inr (.inr (some 3000))), some (.inr (.inr (some 0))), some (.inr (.inr (some 79))), some (.inl i)]) (st' := []) (w' := (SH, dt)) rfl ?_
      exact K dt hI hM hM2 (by first | omega | (simp only [*]; done) | simp only [*]) (by omega) (by omega) (by omega) (by omega) (by omega) (by omega) (by omega) (by omega) (by omega) (by omega) (by omega) (by omega) (by omega) (by omega) (by omega) (by first | exact hI | exact TPL_k hd0 (fun _ => rfl) (fun _ => rfl) (by omega) | (exfalso; omega)) (by first | exact hI | exact SCL_k hd1 hM (fun j _ => (fun _ => rfl) j) (fun j _ => (fun _ => rfl) j) (fun j _ _ => (fun _ => rfl) j) | (exfalso; omega)) (by first | exact hI | exact SCL_k hd2 hM2 (fun j _ => (fun _ => rfl) j) (fun j _ => (fun _ => rfl) j) (fun j _ _ => (fun _ => rfl) j) | (exfalso; omega))
    · skip
      refine go_toq PM267 (k := 2) (pc' := 1435) (L' := [some (.inr (.inr (some 3000))), some (.inr (.inr (some 0))), some (.inr (.inr (some 79))), some (.inl i)]) (st' := []) (w' := (SH, dt)) rfl ?_
      exact K dt hI hM hM2 (by first | omega | (simp only [*]; done) | simp only [*]) (by omega) (by omega) (by omega) (by omega) (by omega) (by omega) (by omega) (by omega) (by omega) (by omega) (by omega) (by omega) (by omega) (by omega) (by omega) (by first | exact hI | exact TPL_k hd0 (fun _ => rfl) (fun _ => rfl) (by omega) | (exfalso; omega)) (by first | exact hI | exact SCL_k hd1 hM (fun j _ => (fun _ => rfl) j) (fun j _ => (fun _ => rfl) j) (fun j _ _ => (fun _ => rfl) j) | (exfalso; omega)) (by first | exact hI | exact SCL_k hd2 hM2 (fun j _ => (fun _ => rfl) j) (fun j _ => (fun _ => rfl) j) (fun j _ _ => (fun _ => rfl) j) | (exfalso; omega))
    · skip
      refine go_toq PM267 (k := 2) (pc' := 1435) (L' := [some (.inr (.inr (some 3000))), some (.inr (.inr (some 0))), some (.inr (.inr (some 79))), some (.inl i)]) (st' := []) (w' := (SH, dt)) rfl ?_
      exact K dt hI hM hM2 (by first | omega | (simp only [*]; done) | simp only [*]) (by omega) (by omega) (by omega) (by omega) (by omega) (by omega) (by omega) (by omega) (by omega) (by omega) (by omega) (by omega) (by omega) (by omega) (by omega) (by first | exact hI | exact TPL_k hd0 (fun _ => rfl) (fun _ => rfl) (by omega) | (exfalso; omega)) (by first | exact hI | exact SCL_k hd1 hM (fun j _ => (fun _ => rfl) j) (fun j _ => (fun _ => rfl) j) (fun j _ _ => (fun _ => rfl) j) | (exfalso; omega)) (by first | exact hI | exact SCL_k hd2 hM2 (fun j _ => (fun _ => rfl) j) (fun j _ => (fun _ => rfl) j) (fun j _ _ => (fun _ => rfl) j) | (exfalso; omega))
    · skip
      obtain ⟨h11_0, h11_1⟩ := h11
      refine go_toq PM267 (k := 2) (pc' := 1435) (L' := [some (.inr (.inr (some 3000))), some (.inr (.inr (some 0))), some (.inr (.inr (some 79))), some (.inl i)]) (st' := []) (w' := (SH, dt)) rfl ?_
      exact K dt hI hM hM2 (by first | omega | (simp only [*]; done) | simp only [*]) (by omega) (by omega) (by omega) (by omega) (by omega) (by omega) (by omega) (by omega) (by omega) (by omega) (by omega) (by omega) (by omega) (by omega) (by omega) (by first | exact hI | exact TPL_k hd0 (fun _ => rfl) (fun _ => rfl) (by omega) | (exfalso; omega)) (by first | exact hI | exact SCL_k hd1 hM (fun j _ => (fun _ => rfl) j) (fun j _ => (fun _ => rfl) j) (fun j _ _ => (fun _ => rfl) j) | (exfalso; omega)) (by first | exact hI | exact SCL_k hd2 hM2 (fun j _ => (fun _ => rfl) j) (fun j _ => (fun _ => rfl) j) (fun j _ _ => (fun _ => rfl) j) | (exfalso; omega))
    · skip
      obtain ⟨h11_0, h11_1⟩ := h11
      refine go_toq PM267 (k := 2) (pc' := 1435) (L' := [some (.inr (.inr (some 3000))), some (.inr (.inr (some 0))), some (.inr (.inr (some 79))), some (.inl i)]) (st' := []) (w' := (SH, dt)) rfl ?_
      exact K dt hI hM hM2 (by first | omega | (simp only [*]; done) | simp only [*]) (by omega) (by omega) (by omega) (by omega) (by omega) (by omega) (by omega) (by omega) (by omega) (by omega) (by omega) (by omega) (by omega) (by omega) (by omega) (by first | exact hI | exact TPL_k hd0 (fun _ => rfl) (fun _ => rfl) (by omega) | (exfalso; omega)) (by first | exact hI | exact SCL_k hd1 hM (fun j _ => (fun _ => rfl) j) (fun j _ => (fun _ => rfl) j) (fun j _ _ => (fun _ => rfl) j) | (exfalso; omega)) (by first | exact hI | exact SCL_k hd2 hM2 (fun j _ => (fun _ => rfl) j) (fun j _ => (fun _ => rfl) j) (fun j _ _ => (fun _ => rfl) j) | (exfalso; omega))
    · skip
      refine go_toq PM267 (k := 2) (pc' := 1435) (L' := [some (.inr (.inr (some 3000))), some (.inr (.inr (some 0))), some (.inr (.inr (some 79))), some (.inl i)]) (st' := []) (w' := (SH, dt)) rfl ?_
      exact K dt hI hM hM2 (by first | omega | (simp only [*]; done) | simp only [*]) (by omega) (by omega) (by omega) (by omega) (by omega) (by omega) (by omega) (by omega) (by omega) (by omega) (by omega) (by omega) (by omega) (by omega) (by omega) (by first | exact hI | exact TPL_k hd0 (fun _ => rfl) (fun _ => rfl) (by omega) | (exfalso; omega)) (by first | exact hI | exact SCL_k hd1 hM (fun j _ => (fun _ => rfl) j) (fun j _ => (fun _ => rfl) j) (fun j _ _ => (fun _ => rfl) j) | (exfalso; omega)) (by first | exact hI | exact SCL_k hd2 hM2 (fun j _ => (fun _ => rfl) j) (fun j _ => (fun _ => rfl) j) (fun j _ _ => (fun _ => rfl) j) | (exfalso; omega))
