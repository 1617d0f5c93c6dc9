set_option maxRecDepth 20000 in
set_option maxHeartbeats 8000000 in
theorem sp_case22 (L : Nat) (xs : Nat → Int32) (sio : Option Nat) (d : Nat) (Q : Option AV → am_W → Prop) (hLL : L ≤ 3072) (i : Int) (hi : 0 ≤ i ∧ i ≤ 3066) (hil : i ≤ (L : Int) - 6) (dt : Nat → Nat → Int) (hI : InvC dt) (hM : MW (dt 80)) (hM2 : MW (dt 81)) (hk0 : dt 1 0 = dt 80 0) (hk1 : dt 7 3 = dt 80 1) (hk2 : dt 10 3 = dt 80 2) (hk3 : dt 12 3 = dt 80 3) (hk4 : dt 14 3 = dt 80 4) (hk5 : dt 16 3 = dt 80 5) (hk6 : dt 18 0 = dt 81 0) (hk7 : dt 24 3 = dt 81 1) (hk8 : dt 27 3 = dt 81 2) (hk9 : dt 29 3 = dt 81 3) (hk10 : dt 31 3 = dt 81 4) (hk11 : dt 33 3 = dt 81 5) (hk12 : dt 0 2 = dt 79 2) (hk13 : dt 35 1 = dt 79 12) (hk14 : dt 35 2 = dt 79 19) (hk15 : dt 35 3 = dt 79 21) (hd0 : TPL (dt 36) (dt 85) (dt 35 1)) (hd1 : SCL (dt 2) (dt 3) (dt 80)) (hd2 : SCL (dt 19) (dt 20) (dt 81)) (K : ∀ (dt : Nat → Nat → Int) (hI : InvC dt) (hM : MW (dt 80)) (hM2 : MW (dt 81)) (hk0 : dt 1 0 = dt 80 0) (hk1 : dt 7 3 = dt 80 1) (hk2 : dt 10 3 = dt 80 2) (hk3 : dt 12 3 = dt 80 3) (hk4 : dt 14 3 = dt 80 4) (hk5 : dt 16 3 = dt 80 5) (hk6 : dt 18 0 = dt 81 0) (hk7 : dt 24 3 = dt 81 1) (hk8 : dt 27 3 = dt 81 2) (hk9 : dt 29 3 = dt 81 3) (hk10 : dt 31 3 = dt 81 4) (hk11 : dt 33 3 = dt 81 5) (hk12 : dt 0 2 = dt 79 2) (hk13 : dt 35 1 = dt 79 12) (hk14 : dt 35 2 = dt 79 19) (hk15 : dt 35 3 = dt 79 21) (hd0 : TPL (dt 36) (dt 85) (dt 35 1)) (hd1 : SCL (dt 2) (dt 3) (dt 80)) (hd2 : SCL (dt 19) (dt 20) (dt 81)), GO (am_XX L xs sio) (d + 39) 267 1435 [some (.inr (.inr (some 3000))), some (.inr (.inr (some 0))), some (.inr (.inr (some 79))), some (.inl i)] [] (SH, dt) Q) : GO (am_XX L xs sio) (d + 39) 267 1086 [some (.inr (.inr (some 3000))), some (.inr (.inr (some 0))), some (.inr (.inr (some 79))), some (.inl i)] [] (SH, dt) Q := by
  have hF : Fr [0, 1, 2, 3, 4, 5, 6, 7, 8, 9, 10, 11, 12, 13, 14, 15, 16, 17, 18, 19, 20, 21, 22, 23, 24, 25, 26, 27, 28, 29, 30, 31, 32, 33, 34, 35, 36, 37, 38, 39, 40, 41, 42, 43, 44, 45, 46, 47, 48, 49, 50, 51, 52, 53, 54, 55, 56, 57, 58, 59, 60, 61, 62, 63, 64, 65, 66, 67, 68, 69, 70, 71, 72, 73, 74, 75, 76, 77, 78, 79, 80, 81, 82, 83, 84, 85, 86, 87, 88, 89, 90, 91, 92, 93, 94, 95, 96, 97, 98, 99, 100, 101, 102, 103, 104] dt dt := Fr_refl
  refine go_toq PM267 (k := 5) (pc' := 1091) (L' := [some (.inr (.inr (some 3000))), some (.inr (.inr (some 0))), some (.inr (.inr (some 79))), some (.inl i)]) (st' := [.inl (i + 1), .inr (.inr (some 3000)), .inr (.inr (some 0))]) (w' := (SH, dt)) rfl ?_
  have r1 := i32_R (xs ((i + 1).toNat))
  refine go_smpq PM267 (L' := [some (.inr (.inr (some 3000))), some (.inr (.inr (some 0))), some (.inr (.inr (some 79))), some (.inl i)]) (st' := [.inl ((xs ((i + 1).toNat)).toInt), .inr (.inr (some 0))]) (w' := (SH, dt)) rfl rfl (s_iald (n := L) (f := fun j => (xs j).toInt) (am_scr hLL) ⟨by omega, by omega⟩) ?_
  refine go_callq PM267 PM89 (Q' := _) rfl rfl rfl rfl (sp_X5_beside L xs sio (d + 34) dt hI  ((xs ((i + 1).toNat)).toInt) ⟨by omega, by omega⟩ ) ?_
  rintro _ _ ⟨dt3, rfl, hI4, hF5, h2⟩
  refine ⟨rfl, ?_⟩
  have hF6 : Fr [0, 1, 2, 3, 4, 5, 6, 7, 8, 9, 10, 11, 12, 13, 14, 15, 16, 17, 18, 19, 20, 21, 22, 23, 24, 25, 26, 27, 28, 29, 30, 31, 32, 33, 34, 35, 36, 37, 38, 39, 40, 41, 42, 43, 44, 45, 46, 47, 48, 49, 50, 51, 52, 53, 54, 55, 56, 57, 58, 59, 60, 61, 62, 63, 64, 65, 66, 67, 68, 69, 70, 71, 72, 73, 74, 75, 76, 77, 78, 79, 80, 81, 82, 83, 84, 85, 86, 87, 88, 89, 90, 91, 92, 93, 94, 95, 96, 97, 98, 99, 100, 101, 102, 103, 104] dt dt3 := Fr_tr hF hF5 (by decide)
  have hM7 : MW (dt3 80) := MW_fr hM hF5 (by decide)
  have w8 : dt3 1 0 = dt 1 0 := hF5 1 (by decide) 0
  have w9 : dt3 7 3 = dt 7 3 := hF5 7 (by decide) 3
  have w10 : dt3 10 3 = dt 10 3 := hF5 10 (by decide) 3
  have w11 : dt3 12 3 = dt 12 3 := hF5 12 (by decide) 3
  have w12 : dt3 14 3 = dt 14 3 := hF5 14 (by decide) 3
  have w13 : dt3 16 3 = dt 16 3 := hF5 16 (by decide) 3
  have w14 : dt3 18 0 = dt 18 0 := hF5 18 (by decide) 0
  have w15 : dt3 24 3 = dt 24 3 := hF5 24 (by decide) 3
  have w16 : dt3 27 3 = dt 27 3 := hF5 27 (by decide) 3
  have w17 : dt3 29 3 = dt 29 3 := hF5 29 (by decide) 3
  have w18 : dt3 31 3 = dt 31 3 := hF5 31 (by decide) 3
  have w19 : dt3 33 3 = dt 33 3 := hF5 33 (by decide) 3
  have w20 : dt3 0 2 = dt 0 2 := hF5 0 (by decide) 2
  have w21 : dt3 35 1 = dt 35 1 := hF5 35 (by decide) 1
  have w22 : dt3 35 2 = dt 35 2 := hF5 35 (by decide) 2
  have w23 : dt3 35 3 = dt 35 3 := hF5 35 (by decide) 3
  have w24 : dt3 80 0 = dt 80 0 := hF5 80 (by decide) 0
  have w25 : dt3 80 1 = dt 80 1 := hF5 80 (by decide) 1
  have w26 : dt3 80 2 = dt 80 2 := hF5 80 (by decide) 2
  have w27 : dt3 80 3 = dt 80 3 := hF5 80 (by decide) 3
  have w28 : dt3 80 4 = dt 80 4 := hF5 80 (by decide) 4
  have w29 : dt3 80 5 = dt 80 5 := hF5 80 (by decide) 5
  have w30 : dt3 81 0 = dt 81 0 := hF5 81 (by decide) 0
  have w31 : dt3 81 1 = dt 81 1 := hF5 81 (by decide) 1
  have w32 : dt3 81 2 = dt 81 2 := hF5 81 (by decide) 2
  have w33 : dt3 81 3 = dt 81 3 := hF5 81 (by decide) 3
  have w34 : dt3 81 4 = dt 81 4 := hF5 81 (by decide) 4
  have w35 : dt3 81 5 = dt 81 5 := hF5 81 (by decide) 5
  have w36 : dt3 79 2 = dt 79 2 := hF5 79 (by decide) 2
  have w37 : dt3 79 12 = dt 79 12 := hF5 79 (by decide) 12
  have w38 : dt3 79 19 = dt 79 19 := hF5 79 (by decide) 19
  have w39 : dt3 79 21 = dt 79 21 := hF5 79 (by decide) 21
  rcases h2 with ⟨v_h2, rfl, h2r, h2⟩
  have M240 : MW (dt3 81) := MW_frk hM2 hF5 (by decide)
  have C41 : ∀ j : Nat, dt3 2 j = dt 2 j := fun j => (hF5 2 (by decide) j).trans ((fun _ => rfl) j)
  have C42 : ∀ j : Nat, dt3 3 j = dt 3 j := fun j => (hF5 3 (by decide) j).trans ((fun _ => rfl) j)
  have C43 : ∀ j : Nat, dt3 19 j = dt 19 j := fun j => (hF5 19 (by decide) j).trans ((fun _ => rfl) j)
  have C44 : ∀ j : Nat, dt3 20 j = dt 20 j := fun j => (hF5 20 (by decide) j).trans ((fun _ => rfl) j)
  have C45 : ∀ j : Nat, dt3 36 j = dt 36 j := fun j => (hF5 36 (by decide) j).trans ((fun _ => rfl) j)
  have C46 : ∀ j : Nat, dt3 80 j = dt 80 j := fun j => (hF5 80 (by decide) j).trans ((fun _ => rfl) j)
  have C47 : ∀ j : Nat, dt3 81 j = dt 81 j := fun j => (hF5 81 (by decide) j).trans ((fun _ => rfl) j)
  have C48 : ∀ j : Nat, dt3 85 j = dt 85 j := fun j => (hF5 85 (by decide) j).trans ((fun _ => rfl) j)
  refine go_toq PM267 (k := 6) (pc' := 1101) (L' := [some (.inr (.inr (some 3000))), some (.inr (.inr (some 0))), some (.inr (.inr (some 79))), some (.inl i)]) (st' := [.inl (i + 1), .inr (.inr (some 3000)), .inr (.inr (some 79))]) (w' := (SH, dt3)) rfl ?_
  have r49 := i32_R (xs ((i + 1).toNat))
  refine go_smpq PM267 (L' := [some (.inr (.inr (some 3000))), some (.inr (.inr (some 0))), some (.inr (.inr (some 79))), some (.inl i)]) (st' := [.inl ((xs ((i + 1).toNat)).toInt), .inr (.inr (some 79))]) (w' := (SH, dt3)) rfl rfl (s_iald (n := L) (f := fun j => (xs j).toInt) (am_scr hLL) ⟨by omega, by omega⟩) ?_
  refine go_callq PM267 PM232 (Q' := _) rfl rfl rfl rfl (sp_X6_beside L xs sio (d + 31) dt3 hI4 hM7  ((xs ((i + 1).toNat)).toInt) ⟨by omega, by omega⟩ ) ?_
  rintro _ _ ⟨dt51, rfl, hI52, hF53, h50⟩
  refine ⟨rfl, ?_⟩
  have hF54 : Fr [0, 1, 2, 3, 4, 5, 6, 7, 8, 9, 10, 11, 12, 13, 14, 15, 16, 17, 18, 19, 20, 21, 22, 23, 24, 25, 26, 27, 28, 29, 30, 31, 32, 33, 34, 35, 36, 37, 38, 39, 40, 41, 42, 43, 44, 45, 46, 47, 48, 49, 50, 51, 52, 53, 54, 55, 56, 57, 58, 59, 60, 61, 62, 63, 64, 65, 66, 67, 68, 69, 70, 71, 72, 73, 74, 75, 76, 77, 78, 79, 80, 81, 82, 83, 84, 85, 86, 87, 88, 89, 90, 91, 92, 93, 94, 95, 96, 97, 98, 99, 100, 101, 102, 103, 104] dt dt51 := Fr_tr hF6 hF53 (by decide)
  have hM55 : MW (dt51 80) := MW_fr hM7 hF53 (by decide)
  have w56 : dt51 1 0 = dt 1 0 := (hF53 1 (by decide) 0).trans w8
  have w57 : dt51 7 3 = dt 7 3 := (hF53 7 (by decide) 3).trans w9
  have w58 : dt51 10 3 = dt 10 3 := (hF53 10 (by decide) 3).trans w10
  have w59 : dt51 12 3 = dt 12 3 := (hF53 12 (by decide) 3).trans w11
  have w60 : dt51 14 3 = dt 14 3 := (hF53 14 (by decide) 3).trans w12
  have w61 : dt51 16 3 = dt 16 3 := (hF53 16 (by decide) 3).trans w13
  have w62 : dt51 18 0 = dt 18 0 := (hF53 18 (by decide) 0).trans w14
  have w63 : dt51 24 3 = dt 24 3 := (hF53 24 (by decide) 3).trans w15
  have w64 : dt51 27 3 = dt 27 3 := (hF53 27 (by decide) 3).trans w16
  have w65 : dt51 29 3 = dt 29 3 := (hF53 29 (by decide) 3).trans w17
  have w66 : dt51 31 3 = dt 31 3 := (hF53 31 (by decide) 3).trans w18
  have w67 : dt51 33 3 = dt 33 3 := (hF53 33 (by decide) 3).trans w19
  have w68 : dt51 0 2 = dt 0 2 := (hF53 0 (by decide) 2).trans w20
  have w69 : dt51 35 1 = dt 35 1 := (hF53 35 (by decide) 1).trans w21
  have w70 : dt51 35 2 = dt 35 2 := (hF53 35 (by decide) 2).trans w22
  have w71 : dt51 35 3 = dt 35 3 := (hF53 35 (by decide) 3).trans w23
  have w72 : dt51 80 0 = dt 80 0 := (hF53 80 (by decide) 0).trans w24
  have w73 : dt51 80 1 = dt 80 1 := (hF53 80 (by decide) 1).trans w25
  have w74 : dt51 80 2 = dt 80 2 := (hF53 80 (by decide) 2).trans w26
  have w75 : dt51 80 3 = dt 80 3 := (hF53 80 (by decide) 3).trans w27
  have w76 : dt51 80 4 = dt 80 4 := (hF53 80 (by decide) 4).trans w28
  have w77 : dt51 80 5 = dt 80 5 := (hF53 80 (by decide) 5).trans w29
  have w78 : dt51 81 0 = dt 81 0 := (hF53 81 (by decide) 0).trans w30
  have w79 : dt51 81 1 = dt 81 1 := (hF53 81 (by decide) 1).trans w31
  have w80 : dt51 81 2 = dt 81 2 := (hF53 81 (by decide) 2).trans w32
  have w81 : dt51 81 3 = dt 81 3 := (hF53 81 (by decide) 3).trans w33
  have w82 : dt51 81 4 = dt 81 4 := (hF53 81 (by decide) 4).trans w34
  have w83 : dt51 81 5 = dt 81 5 := (hF53 81 (by decide) 5).trans w35
  have w84 : dt51 79 2 = dt 79 2 := (hF53 79 (by decide) 2).trans w36
  have w85 : dt51 79 12 = dt 79 12 := (hF53 79 (by decide) 12).trans w37
  have w86 : dt51 79 19 = dt 79 19 := (hF53 79 (by decide) 19).trans w38
  have w87 : dt51 79 21 = dt 79 21 := (hF53 79 (by decide) 21).trans w39
  rcases h50 with ⟨v_h50, rfl, h50r, h50⟩
  have M288 : MW (dt51 81) := MW_frk M240 hF53 (by decide)
  have C89 : ∀ j : Nat, dt51 2 j = dt 2 j := fun j => (hF53 2 (by decide) j).trans (C41 j)
  have C90 : ∀ j : Nat, dt51 3 j = dt 3 j := fun j => (hF53 3 (by decide) j).trans (C42 j)
  have C91 : ∀ j : Nat, dt51 19 j = dt 19 j := fun j => (hF53 19 (by decide) j).trans (C43 j)
  have C92 : ∀ j : Nat, dt51 20 j = dt 20 j := fun j => (hF53 20 (by decide) j).trans (C44 j)
  have C93 : ∀ j : Nat, dt51 36 j = dt 36 j := fun j => (hF53 36 (by decide) j).trans (C45 j)
  have C94 : ∀ j : Nat, dt51 80 j = dt 80 j := fun j => (hF53 80 (by decide) j).trans (C46 j)
  have C95 : ∀ j : Nat, dt51 81 j = dt 81 j := fun j => (hF53 81 (by decide) j).trans (C47 j)
  have C96 : ∀ j : Nat, dt51 85 j = dt 85 j := fun j => (hF53 85 (by decide) j).trans (C48 j)
  refine go_toq PM267 (k := 2) (pc' := 1435) (L' := [some (.inr (.inr (some 3000))), some (.inr (.inr (some 0))), some (.inr (.inr (some 79))), some (.inl i)]) (st' := []) (w' := (SH, dt51)) rfl ?_
  exact K dt51 hI52 hM55 M288 (w56.trans (hk0.trans w72.symm)) (w57.trans (hk1.trans w73.symm)) (w58.trans (hk2.trans w74.symm)) (w59.trans (hk3.trans w75.symm)) (w60.trans (hk4.trans w76.symm)) (w61.trans (hk5.trans w77.symm)) (w62.trans (hk6.trans w78.symm)) (w63.trans (hk7.trans w79.symm)) (w64.trans (hk8.trans w80.symm)) (w65.trans (hk9.trans w81.symm)) (w66.trans (hk10.trans w82.symm)) (w67.trans (hk11.trans w83.symm)) (w68.trans (hk12.trans w84.symm)) (w69.trans (hk13.trans w85.symm)) (w70.trans (hk14.trans w86.symm)) (w71.trans (hk15.trans w87.symm)) (by first | exact hI | exact TPL_k hd0 C93 C96 (by omega) | (exfalso; omega)) (by first | exact hI | exact SCL_k hd1 hM (fun j _ => C89 j) (fun j _ => C90 j) (fun j _ _ => C94 j) | (exfalso; omega)) (by first | exact hI | exact SCL_k hd2 hM2 (fun j _ => C91 j) (fun j _ => C92 j) (fun j _ _ => C95 j) | (exfalso; omega))
set_option maxRecDepth 20000 in
set_option maxHeartbeats 8000000 in
theorem sp_case23 (L : Nat) (xs : Nat → Int32) (sio : Option Nat) (d : Nat) (Q : Option AV → am_W → Prop) (hLL : L ≤ 3072) (i : Int) (hi : 0 ≤ i ∧ i ≤ 3066) (hil : i ≤ (L : Int) - 6) (dt : Nat → Nat → Int) (hI : InvC dt) (hM : MW (dt 80)) (hM2 : MW (dt 81)) (hk0 : dt 1 0 = dt 80 0) (hk1 : dt 7 3 = dt 80 1) (hk2 : dt 10 3 = dt 80 2) (hk3 : dt 12 3 = dt 80 3) (hk4 : dt 14 3 = dt 80 4) (hk5 : dt 16 3 = dt 80 5) (hk6 : dt 18 0 = dt 81 0) (hk7 : dt 24 3 = dt 81 1) (hk8 : dt 27 3 = dt 81 2) (hk9 : dt 29 3 = dt 81 3) (hk10 : dt 31 3 = dt 81 4) (hk11 : dt 33 3 = dt 81 5) (hk12 : dt 0 2 = dt 79 2) (hk13 : dt 35 1 = dt 79 12) (hk14 : dt 35 2 = dt 79 19) (hk15 : dt 35 3 = dt 79 21) (hd0 : TPL (dt 36) (dt 85) (dt 35 1)) (hd1 : SCL (dt 2) (dt 3) (dt 80)) (hd2 : SCL (dt 19) (dt 20) (dt 81)) (K : ∀ (dt : Nat → Nat → Int) (hI : InvC dt) (hM : MW (dt 80)) (hM2 : MW (dt 81)) (hk0 : dt 1 0 = dt 80 0) (hk1 : dt 7 3 = dt 80 1) (hk2 : dt 10 3 = dt 80 2) (hk3 : dt 12 3 = dt 80 3) (hk4 : dt 14 3 = dt 80 4) (hk5 : dt 16 3 = dt 80 5) (hk6 : dt 18 0 = dt 81 0) (hk7 : dt 24 3 = dt 81 1) (hk8 : dt 27 3 = dt 81 2) (hk9 : dt 29 3 = dt 81 3) (hk10 : dt 31 3 = dt 81 4) (hk11 : dt 33 3 = dt 81 5) (hk12 : dt 0 2 = dt 79 2) (hk13 : dt 35 1 = dt 79 12) (hk14 : dt 35 2 = dt 79 19) (hk15 : dt 35 3 = dt 79 21) (hd0 : TPL (dt 36) (dt 85) (dt 35 1)) (hd1 : SCL (dt 2) (dt 3) (dt 80)) (hd2 : SCL (dt 19) (dt 20) (dt 81)), GO (am_XX L xs sio) (d + 39) 267 1435 [some (.inr (.inr (some 3000))), some (.inr (.inr (some 0))), some (.inr (.inr (some 79))), some (.inl i)] [] (SH, dt) Q) : GO (am_XX L xs sio) (d + 39) 267 1109 [some (.inr (.inr (some 3000))), some (.inr (.inr (some 0))), some (.inr (.inr (some 79))), some (.inl i)] [] (SH, dt) Q := by
  have hF : Fr [0, 1, 2, 3, 4, 5, 6, 7, 8, 9, 10, 11, 12, 13, 14, 15, 16, 17, 18, 19, 20, 21, 22, 23, 24, 25, 26, 27, 28, 29, 30, 31, 32, 33, 34, 35, 36, 37, 38, 39, 40, 41, 42, 43, 44, 45, 46, 47, 48, 49, 50, 51, 52, 53, 54, 55, 56, 57, 58, 59, 60, 61, 62, 63, 64, 65, 66, 67, 68, 69, 70, 71, 72, 73, 74, 75, 76, 77, 78, 79, 80, 81, 82, 83, 84, 85, 86, 87, 88, 89, 90, 91, 92, 93, 94, 95, 96, 97, 98, 99, 100, 101, 102, 103, 104] dt dt := Fr_refl
  refine go_toq PM267 (k := 5) (pc' := 1114) (L' := [some (.inr (.inr (some 3000))), some (.inr (.inr (some 0))), some (.inr (.inr (some 79))), some (.inl i)]) (st' := [.inl (i + 1), .inr (.inr (some 3000)), .inr (.inr (some 0))]) (w' := (SH, dt)) rfl ?_
  have r1 := i32_R (xs ((i + 1).toNat))
  refine go_smpq PM267 (L' := [some (.inr (.inr (some 3000))), some (.inr (.inr (some 0))), some (.inr (.inr (some 79))), some (.inl i)]) (st' := [.inl ((xs ((i + 1).toNat)).toInt), .inr (.inr (some 0))]) (w' := (SH, dt)) rfl rfl (s_iald (n := L) (f := fun j => (xs j).toInt) (am_scr hLL) ⟨by omega, by omega⟩) ?_
  refine go_toq PM267 (k := 4) (pc' := 1119) (L' := [some (.inr (.inr (some 3000))), some (.inr (.inr (some 0))), some (.inr (.inr (some 79))), some (.inl i)]) (st' := [.inl (i + 2), .inr (.inr (some 3000)), .inl ((xs ((i + 1).toNat)).toInt), .inr (.inr (some 0))]) (w' := (SH, dt)) rfl ?_
  have r2 := i32_R (xs ((i + 2).toNat))
  refine go_smpq PM267 (L' := [some (.inr (.inr (some 3000))), some (.inr (.inr (some 0))), some (.inr (.inr (some 79))), some (.inl i)]) (st' := [.inl ((xs ((i + 2).toNat)).toInt), .inl ((xs ((i + 1).toNat)).toInt), .inr (.inr (some 0))]) (w' := (SH, dt)) rfl rfl (s_iald (n := L) (f := fun j => (xs j).toInt) (am_scr hLL) ⟨by omega, by omega⟩) ?_
  refine go_callq PM267 PM90 (Q' := _) rfl rfl rfl rfl (sp_X5_eyes L xs sio (d + 36) dt hI  ((xs ((i + 1).toNat)).toInt) ⟨by omega, by omega⟩ ((xs ((i + 2).toNat)).toInt) ⟨by omega, by omega⟩ ) ?_
  rintro _ _ ⟨dt4, rfl, hI5, hF6, h3⟩
  refine ⟨rfl, ?_⟩
  have hF7 : Fr [0, 1, 2, 3, 4, 5, 6, 7, 8, 9, 10, 11, 12, 13, 14, 15, 16, 17, 18, 19, 20, 21, 22, 23, 24, 25, 26, 27, 28, 29, 30, 31, 32, 33, 34, 35, 36, 37, 38, 39, 40, 41, 42, 43, 44, 45, 46, 47, 48, 49, 50, 51, 52, 53, 54, 55, 56, 57, 58, 59, 60, 61, 62, 63, 64, 65, 66, 67, 68, 69, 70, 71, 72, 73, 74, 75, 76, 77, 78, 79, 80, 81, 82, 83, 84, 85, 86, 87, 88, 89, 90, 91, 92, 93, 94, 95, 96, 97, 98, 99, 100, 101, 102, 103, 104] dt dt4 := Fr_tr hF hF6 (by decide)
  have hM8 : MW (dt4 80) := MW_fr hM hF6 (by decide)
  have w9 : dt4 1 0 = dt 1 0 := hF6 1 (by decide) 0
  have w10 : dt4 7 3 = dt 7 3 := hF6 7 (by decide) 3
  have w11 : dt4 10 3 = dt 10 3 := hF6 10 (by decide) 3
  have w12 : dt4 12 3 = dt 12 3 := hF6 12 (by decide) 3
  have w13 : dt4 16 3 = dt 16 3 := hF6 16 (by decide) 3
  have w14 : dt4 18 0 = dt 18 0 := hF6 18 (by decide) 0
  have w15 : dt4 24 3 = dt 24 3 := hF6 24 (by decide) 3
  have w16 : dt4 27 3 = dt 27 3 := hF6 27 (by decide) 3
  have w17 : dt4 29 3 = dt 29 3 := hF6 29 (by decide) 3
  have w18 : dt4 31 3 = dt 31 3 := hF6 31 (by decide) 3
  have w19 : dt4 33 3 = dt 33 3 := hF6 33 (by decide) 3
  have w20 : dt4 0 2 = dt 0 2 := hF6 0 (by decide) 2
  have w21 : dt4 35 1 = dt 35 1 := hF6 35 (by decide) 1
  have w22 : dt4 35 2 = dt 35 2 := hF6 35 (by decide) 2
  have w23 : dt4 35 3 = dt 35 3 := hF6 35 (by decide) 3
  have w24 : dt4 80 0 = dt 80 0 := hF6 80 (by decide) 0
  have w25 : dt4 80 1 = dt 80 1 := hF6 80 (by decide) 1
  have w26 : dt4 80 2 = dt 80 2 := hF6 80 (by decide) 2
  have w27 : dt4 80 3 = dt 80 3 := hF6 80 (by decide) 3
  have w28 : dt4 80 4 = dt 80 4 := hF6 80 (by decide) 4
  have w29 : dt4 80 5 = dt 80 5 := hF6 80 (by decide) 5
  have w30 : dt4 81 0 = dt 81 0 := hF6 81 (by decide) 0
  have w31 : dt4 81 1 = dt 81 1 := hF6 81 (by decide) 1
  have w32 : dt4 81 2 = dt 81 2 := hF6 81 (by decide) 2
  have w33 : dt4 81 3 = dt 81 3 := hF6 81 (by decide) 3
  have w34 : dt4 81 4 = dt 81 4 := hF6 81 (by decide) 4
  have w35 : dt4 81 5 = dt 81 5 := hF6 81 (by decide) 5
  have w36 : dt4 79 2 = dt 79 2 := hF6 79 (by decide) 2
  have w37 : dt4 79 12 = dt 79 12 := hF6 79 (by decide) 12
  have w38 : dt4 79 19 = dt 79 19 := hF6 79 (by decide) 19
  have w39 : dt4 79 21 = dt 79 21 := hF6 79 (by decide) 21
  rcases h3 with ⟨rfl, h3⟩ | ⟨v_h3, rfl, h3r, h3⟩
  · skip
    obtain ⟨h3_0, h3_1⟩ := h3
    replace h3_0 := hid h3_0
    have w40 : dt4 14 3 = dt 14 3 := h3_1
    have M241 : MW (dt4 81) := MW_frk hM2 hF6 (by decide)
    have C42 : ∀ j : Nat, dt4 2 j = dt 2 j := fun j => (hF6 2 (by decide) j).trans ((fun _ => rfl) j)
    have C43 : ∀ j : Nat, dt4 3 j = dt 3 j := fun j => (hF6 3 (by decide) j).trans ((fun _ => rfl) j)
    have C44 : ∀ j : Nat, dt4 19 j = dt 19 j := fun j => (hF6 19 (by decide) j).trans ((fun _ => rfl) j)
    have C45 : ∀ j : Nat, dt4 20 j = dt 20 j := fun j => (hF6 20 (by decide) j).trans ((fun _ => rfl) j)
    have C46 : ∀ j : Nat, dt4 36 j = dt 36 j := fun j => (hF6 36 (by decide) j).trans ((fun _ => rfl) j)
    have C47 : ∀ j : Nat, dt4 80 j = dt 80 j := fun j => (hF6 80 (by decide) j).trans ((fun _ => rfl) j)
    have C48 : ∀ j : Nat, dt4 81 j = dt 81 j := fun j => (hF6 81 (by decide) j).trans ((fun _ => rfl) j)
    have C49 : ∀ j : Nat, dt4 85 j = dt 85 j := fun j => (hF6 85 (by decide) j).trans ((fun _ => rfl) j)
    refine go_toq PM267 (k := 6) (pc' := 1129) (L' := [some (.inr (.inr (some 3000))), some (.inr (.inr (some 0))), some (.inr (.inr (some 79))), some (.inl i)]) (st' := [.inl (i + 1), .inr (.inr (some 3000)), .inr (.inr (some 79))]) (w' := (SH, dt4)) rfl ?_
    have r50 := i32_R (xs ((i + 1).toNat))
    refine go_smpq PM267 (L' := [some (.inr (.inr (some 3000))), some (.inr (.inr (some 0))), some (.inr (.inr (some 79))), some (.inl i)]) (st' := [.inl ((xs ((i + 1).toNat)).toInt), .inr (.inr (some 79))]) (w' := (SH, dt4)) rfl rfl (s_iald (n := L) (f := fun j => (xs j).toInt) (am_scr hLL) ⟨by (first | omega | (have z0_ := unhid h3_0; omega)), by (first | omega | (have z0_ := unhid h3_0; omega))⟩) ?_
    refine go_toq PM267 (k := 4) (pc' := 1134) (L' := [some (.inr (.inr (some 3000))), some (.inr (.inr (some 0))), some (.inr (.inr (some 79))), some (.inl i)]) (st' := [.inl (i + 2), .inr (.inr (some 3000)), .inl ((xs ((i + 1).toNat)).toInt), .inr (.inr (some 79))]) (w' := (SH, dt4)) rfl ?_
    have r51 := i32_R (xs ((i + 2).toNat))
    refine go_smpq PM267 (L' := [some (.inr (.inr (some 3000))), some (.inr (.inr (some 0))), some (.inr (.inr (some 79))), some (.inl i)]) (st' := [.inl ((xs ((i + 2).toNat)).toInt), .inl ((xs ((i + 1).toNat)).toInt), .inr (.inr (some 79))]) (w' := (SH, dt4)) rfl rfl (s_iald (n := L) (f := fun j => (xs j).toInt) (am_scr hLL) ⟨by (first | omega | (have z0_ := unhid h3_0; omega)), by (first | omega | (have z0_ := unhid h3_0; omega))⟩) ?_
    refine go_callq PM267 PM233 (Q' := _) rfl rfl rfl rfl (sp_X6_eyes_v L xs sio (d + 37) dt4 hI5 hM8  ((xs ((i + 1).toNat)).toInt) ⟨by (first | omega | (have z0_ := unhid h3_0; omega)), by (first | omega | (have z0_ := unhid h3_0; omega))⟩ ((xs ((i + 2).toNat)).toInt) ⟨by (first | omega | (have z0_ := unhid h3_0; omega)), by (first | omega | (have z0_ := unhid h3_0; omega))⟩ ) ?_
    rintro _ _ ⟨dt53, rfl, hI54, hF55, h52⟩
    refine ⟨rfl, ?_⟩
    have hF56 : Fr [0, 1, 2, 3, 4, 5, 6, 7, 8, 9, 10, 11, 12, 13, 14, 15, 16, 17, 18, 19, 20, 21, 22, 23, 24, 25, 26, 27, 28, 29, 30, 31, 32, 33, 34, 35, 36, 37, 38, 39, 40, 41, 42, 43, 44, 45, 46, 47, 48, 49, 50, 51, 52, 53, 54, 55, 56, 57, 58, 59, 60, 61, 62, 63, 64, 65, 66, 67, 68, 69, 70, 71, 72, 73, 74, 75, 76, 77, 78, 79, 80, 81, 82, 83, 84, 85, 86, 87, 88, 89, 90, 91, 92, 93, 94, 95, 96, 97, 98, 99, 100, 101, 102, 103, 104] dt dt53 := Fr_tr hF7 hF55 (by decide)
    have w57 : dt53 1 0 = dt 1 0 := (hF55 1 (by decide) 0).trans w9
    have w58 : dt53 7 3 = dt 7 3 := (hF55 7 (by decide) 3).trans w10
    have w59 : dt53 10 3 = dt 10 3 := (hF55 10 (by decide) 3).trans w11
    have w60 : dt53 12 3 = dt 12 3 := (hF55 12 (by decide) 3).trans w12
    have w61 : dt53 14 3 = dt 14 3 := (hF55 14 (by decide) 3).trans w40
    have w62 : dt53 16 3 = dt 16 3 := (hF55 16 (by decide) 3).trans w13
    have w63 : dt53 18 0 = dt 18 0 := (hF55 18 (by decide) 0).trans w14
    have w64 : dt53 24 3 = dt 24 3 := (hF55 24 (by decide) 3).trans w15
    have w65 : dt53 27 3 = dt 27 3 := (hF55 27 (by decide) 3).trans w16
    have w66 : dt53 29 3 = dt 29 3 := (hF55 29 (by decide) 3).trans w17
    have w67 : dt53 31 3 = dt 31 3 := (hF55 31 (by decide) 3).trans w18
    have w68 : dt53 33 3 = dt 33 3 := (hF55 33 (by decide) 3).trans w19
    have w69 : dt53 0 2 = dt 0 2 := (hF55 0 (by decide) 2).trans w20
    have w70 : dt53 35 1 = dt 35 1 := (hF55 35 (by decide) 1).trans w21
    have w71 : dt53 35 2 = dt 35 2 := (hF55 35 (by decide) 2).trans w22
    have w72 : dt53 35 3 = dt 35 3 := (hF55 35 (by decide) 3).trans w23
    have w73 : dt53 81 0 = dt 81 0 := (hF55 81 (by decide) 0).trans w30
    have w74 : dt53 81 1 = dt 81 1 := (hF55 81 (by decide) 1).trans w31
    have w75 : dt53 81 2 = dt 81 2 := (hF55 81 (by decide) 2).trans w32
    have w76 : dt53 81 3 = dt 81 3 := (hF55 81 (by decide) 3).trans w33
    have w77 : dt53 81 4 = dt 81 4 := (hF55 81 (by decide) 4).trans w34
    have w78 : dt53 81 5 = dt 81 5 := (hF55 81 (by decide) 5).trans w35
    have w79 : dt53 79 2 = dt 79 2 := (hF55 79 (by decide) 2).trans w36
    have w80 : dt53 79 12 = dt 79 12 := (hF55 79 (by decide) 12).trans w37
    have w81 : dt53 79 19 = dt 79 19 := (hF55 79 (by decide) 19).trans w38
    have w82 : dt53 79 21 = dt 79 21 := (hF55 79 (by decide) 21).trans w39
    rcases h52 with ⟨rfl, h52⟩ | ⟨v_h52, rfl, h52r, h52⟩
    · skip
      have hM83 : MW (dt53 80) := h52.2.1
      obtain ⟨h52_0, h52_1, h52_2, h52_3, h52_4, h52_5, h52_6, h52_7, h52_8⟩ := h52
      replace h52_0 := hid h52_0
      have w84 : dt53 80 0 = dt 80 0 := h52_2.trans w24
      have w85 : dt53 80 1 = dt 80 1 := h52_3.trans w25
      have w86 : dt53 80 2 = dt 80 2 := h52_4.trans w26
      have w87 : dt53 80 3 = dt 80 3 := h52_5.trans w27
      have w88 : dt53 80 4 = dt 80 4 := h52_6.trans w28
      have w89 : dt53 80 5 = dt 80 5 := h52_7.trans w29
      have M290 : MW (dt53 81) := MW_frk M241 hF55 (by decide)
      have C91 : ∀ j : Nat, dt53 2 j = dt 2 j := fun j => (hF55 2 (by decide) j).trans (C42 j)
      have C92 : ∀ j : Nat, dt53 3 j = dt 3 j := fun j => (hF55 3 (by decide) j).trans (C43 j)
      have C93 : ∀ j : Nat, dt53 19 j = dt 19 j := fun j => (hF55 19 (by decide) j).trans (C44 j)
      have C94 : ∀ j : Nat, dt53 20 j = dt 20 j := fun j => (hF55 20 (by decide) j).trans (C45 j)
      have C95 : ∀ j : Nat, dt53 36 j = dt 36 j := fun j => (hF55 36 (by decide) j).trans (C46 j)
      have C96 : ∀ j : Nat, dt53 80 j = dt 80 j := fun j => (h52_8 j).trans (C47 j)
      have C97 : ∀ j : Nat, dt53 81 j = dt 81 j := fun j => (hF55 81 (by decide) j).trans (C48 j)
      have C98 : ∀ j : Nat, dt53 85 j = dt 85 j := fun j => (hF55 85 (by decide) j).trans (C49 j)
      refine go_toq PM267 (k := 2) (pc' := 1435) (L' := [some (.inr (.inr (some 3000))), some (.inr (.inr (some 0))), some (.inr (.inr (some 79))), some (.inl i)]) (st' := []) (w' := (SH, dt53)) rfl ?_
      exact K dt53 hI54 hM83 M290 (w57.trans (hk0.trans w84.symm)) (w58.trans (hk1.trans w85.symm)) (w59.trans (hk2.trans w86.symm)) (w60.trans (hk3.trans w87.symm)) (w61.trans (hk4.trans w88.symm)) (w62.trans (hk5.trans w89.symm)) (w63.trans (hk6.trans w73.symm)) (w64.trans (hk7.trans w74.symm)) (w65.trans (hk8.trans w75.symm)) (w66.trans (hk9.trans w76.symm)) (w67.trans (hk10.trans w77.symm)) (w68.trans (hk11.trans w78.symm)) (w69.trans (hk12.trans w79.symm)) (w70.trans (hk13.trans w80.symm)) (w71.trans (hk14.trans w81.symm)) (w72.trans (hk15.trans w82.symm)) (by first | exact hI | exact TPL_k hd0 C95 C98 (by (first | omega | (have z0_ := unhid h3_0; have z1_ := unhid h52_0; omega))) | (exfalso; (first | omega | (have z0_ := unhid h3_0; have z1_ := unhid h52_0; omega)))) (by first | exact hI | exact SCL_k hd1 hM (fun j _ => C91 j) (fun j _ => C92 j) (fun j _ _ => C96 j) | (exfalso; (first | omega | (have z0_ := unhid h3_0; have z1_ := unhid h52_0; omega)))) (by first | exact hI | exact SCL_k hd2 hM2 (fun j _ => C93 j) (fun j _ => C94 j) (fun j _ _ => C97 j) | (exfalso; (first | omega | (have z0_ := unhid h3_0; have z1_ := unhid h52_0; omega))))
    · skip
      have hM99 : MW (dt53 80) := h52.2.2.1
      obtain ⟨h52_0, h52_1, h52_2, h52_3, h52_4, h52_5, h52_6, h52_7, h52_8, h52_9, h52_10, h52_11⟩ := h52
      have w100 : dt53 80 0 = dt 80 0 := h52_4.trans w24
      have w101 : dt53 80 1 = dt 80 1 := h52_5.trans w25
      have w102 : dt53 80 2 = dt 80 2 := h52_6.trans w26
      have w103 : dt53 80 3 = dt 80 3 := h52_7.trans w27
      have w104 : dt53 80 5 = dt 80 5 := h52_8.trans w29
      have M2105 : MW (dt53 81) := MW_frk M241 hF55 (by decide)
      have C106 : ∀ j : Nat, dt53 2 j = dt 2 j := fun j => (hF55 2 (by decide) j).trans (C42 j)
      have C107 : ∀ j : Nat, dt53 3 j = dt 3 j := fun j => (hF55 3 (by decide) j).trans (C43 j)
      have C108 : ∀ j : Nat, dt53 19 j = dt 19 j := fun j => (hF55 19 (by decide) j).trans (C44 j)
      have C109 : ∀ j : Nat, dt53 20 j = dt 20 j := fun j => (hF55 20 (by decide) j).trans (C45 j)
      have C110 : ∀ j : Nat, dt53 36 j = dt 36 j := fun j => (hF55 36 (by decide) j).trans (C46 j)
      have C111 : ∀ j : Nat, dt53 81 j = dt 81 j := fun j => (hF55 81 (by decide) j).trans (C48 j)
      have C112 : ∀ j : Nat, dt53 85 j = dt 85 j := fun j => (hF55 85 (by decide) j).trans (C49 j)
      have F113 : ∀ j : Nat, 6 ≤ j → j < 974 → dt53 80 j = dt 80 j := fun j h1_ h2_ => (h52_9 j (by (first | omega | (have z0_ := unhid h3_0; omega))) (by (first | omega | (have z0_ := unhid h3_0; omega)))).trans (C47 j)
      refine go_toq PM267 (k := 2) (pc' := 1435) (L' := [some (.inr (.inr (some 3000))), some (.inr (.inr (some 0))), some (.inr (.inr (some 79))), some (.inl i)]) (st' := []) (w' := (SH, dt53)) rfl ?_
      exact K dt53 hI54 hM99 M2105 (w57.trans (hk0.trans w100.symm)) (w58.trans (hk1.trans w101.symm)) (w59.trans (hk2.trans w102.symm)) (w60.trans (hk3.trans w103.symm)) (by (first | omega | (have z0_ := unhid h3_0; omega))) (w62.trans (hk5.trans w104.symm)) (w63.trans (hk6.trans w73.symm)) (w64.trans (hk7.trans w74.symm)) (w65.trans (hk8.trans w75.symm)) (w66.trans (hk9.trans w76.symm)) (w67.trans (hk10.trans w77.symm)) (w68.trans (hk11.trans w78.symm)) (w69.trans (hk12.trans w79.symm)) (w70.trans (hk13.trans w80.symm)) (w71.trans (hk14.trans w81.symm)) (w72.trans (hk15.trans w82.symm)) (by first | exact hI | exact TPL_k hd0 C110 C112 (by (first | omega | (have z0_ := unhid h3_0; omega))) | (exfalso; (first | omega | (have z0_ := unhid h3_0; omega)))) (by first | exact hI | exact SCL_k hd1 hM (fun j _ => C106 j) (fun j _ => C107 j) F113 | (exfalso; (first | omega | (have z0_ := unhid h3_0; omega)))) (by first | exact hI | exact SCL_k hd2 hM2 (fun j _ => C108 j) (fun j _ => C109 j) (fun j _ _ => C111 j) | (exfalso; (first | omega | (have z0_ := unhid h3_0; omega))))
  · skip
    obtain ⟨h3_0, h3_1, h3_2⟩ := h3
    have M2114 : MW (dt4 81) := MW_frk hM2 hF6 (by decide)
    have C115 : ∀ j : Nat, dt4 2 j = dt 2 j := fun j => (hF6 2 (by decide) j).trans ((fun _ => rfl) j)
    have C116 : ∀ j : Nat, dt4 3 j = dt 3 j := fun j => (hF6 3 (by decide) j).trans ((fun _ => rfl) j)
    have C117 : ∀ j : Nat, dt4 19 j = dt 19 j := fun j => (hF6 19 (by decide) j).trans ((fun _ => rfl) j)
    have C118 : ∀ j : Nat, dt4 20 j = dt 20 j := fun j => (hF6 20 (by decide) j).trans ((fun _ => rfl) j)
    have C119 : ∀ j : Nat, dt4 36 j = dt 36 j := fun j => (hF6 36 (by decide) j).trans ((fun _ => rfl) j)
    have C120 : ∀ j : Nat, dt4 80 j = dt 80 j := fun j => (hF6 80 (by decide) j).trans ((fun _ => rfl) j)
    have C121 : ∀ j : Nat, dt4 81 j = dt 81 j := fun j => (hF6 81 (by decide) j).trans ((fun _ => rfl) j)
    have C122 : ∀ j : Nat, dt4 85 j = dt 85 j := fun j => (hF6 85 (by decide) j).trans ((fun _ => rfl) j)
    refine go_toq PM267 (k := 6) (pc' := 1129) (L' := [some (.inr (.inr (some 3000))), some (.inr (.inr (some 0))), some (.inr (.inr (some 79))), some (.inl i)]) (st' := [.inl (i + 1), .inr (.inr (some 3000)), .inr (.inr (some 79))]) (w' := (SH, dt4)) rfl ?_
    have r123 := i32_R (xs ((i + 1).toNat))
    refine go_smpq PM267 (L' := [some (.inr (.inr (some 3000))), some (.inr (.inr (some 0))), some (.inr (.inr (some 79))), some (.inl i)]) (st' := [.inl ((xs ((i + 1).toNat)).toInt), .inr (.inr (some 79))]) (w' := (SH, dt4)) rfl rfl (s_iald (n := L) (f := fun j => (xs j).toInt) (am_scr hLL) ⟨by omega, by omega⟩) ?_
    refine go_toq PM267 (k := 4) (pc' := 1134) (L' := [some (.inr (.inr (some 3000))), some (.inr (.inr (some 0))), some (.inr (.inr (some 79))), some (.inl i)]) (st' := [.inl (i + 2), .inr (.inr (some 3000)), .inl ((xs ((i + 1).toNat)).toInt), .inr (.inr (some 79))]) (w' := (SH, dt4)) rfl ?_
    have r124 := i32_R (xs ((i + 2).toNat))
    refine go_smpq PM267 (L' := [some (.inr (.inr (some 3000))), some (.inr (.inr (some 0))), some (.inr (.inr (some 79))), some (.inl i)]) (st' := [.inl ((xs ((i + 2).toNat)).toInt), .inl ((xs ((i + 1).toNat)).toInt), .inr (.inr (some 79))]) (w' := (SH, dt4)) rfl rfl (s_iald (n := L) (f := fun j => (xs j).toInt) (am_scr hLL) ⟨by omega, by omega⟩) ?_
    refine go_callq PM267 PM233 (Q' := _) rfl rfl rfl rfl (sp_X6_eyes_v L xs sio (d + 37) dt4 hI5 hM8  ((xs ((i + 1).toNat)).toInt) ⟨by omega, by omega⟩ ((xs ((i + 2).toNat)).toInt) ⟨by omega, by omega⟩ ) ?_
    rintro _ _ ⟨dt126, rfl, hI127, hF128, h125⟩
    refine ⟨rfl, ?_⟩
    have hF129 : Fr [0, 1, 2, 3, 4, 5, 6, 7, 8, 9, 10, 11, 12, 13, 14, 15, 16, 17, 18, 19, 20, 21, 22, 23, 24, 25, 26, 27, 28, 29, 30, 31, 32, 33, 34, 35, 36, 37, 38, 39, 40, 41, 42, 43, 44, 45, 46, 47, 48, 49, 50, 51, 52, 53, 54, 55, 56, 57, 58, 59, 60, 61, 62, 63, 64, 65, 66, 67, 68, 69, 70, 71, 72, 73, 74, 75, 76, 77, 78, 79, 80, 81, 82, 83, 84, 85, 86, 87, 88, 89, 90, 91, 92, 93, 94, 95, 96, 97, 98, 99, 100, 101, 102, 103, 104] dt dt126 := Fr_tr hF7 hF128 (by decide)
    have w130 : dt126 1 0 = dt 1 0 := (hF128 1 (by decide) 0).trans w9
    have w131 : dt126 7 3 = dt 7 3 := (hF128 7 (by decide) 3).trans w10
    have w132 : dt126 10 3 = dt 10 3 := (hF128 10 (by decide) 3).trans w11
    have w133 : dt126 12 3 = dt 12 3 := (hF128 12 (by decide) 3).trans w12
    have w134 : dt126 14 3 = dt4 14 3 := hF128 14 (by decide) 3
    have w135 : dt126 16 3 = dt 16 3 := (hF128 16 (by decide) 3).trans w13
    have w136 : dt126 18 0 = dt 18 0 := (hF128 18 (by decide) 0).trans w14
    have w137 : dt126 24 3 = dt 24 3 := (hF128 24 (by decide) 3).trans w15
    have w138 : dt126 27 3 = dt 27 3 := (hF128 27 (by decide) 3).trans w16
    have w139 : dt126 29 3 = dt 29 3 := (hF128 29 (by decide) 3).trans w17
    have w140 : dt126 31 3 = dt 31 3 := (hF128 31 (by decide) 3).trans w18
    have w141 : dt126 33 3 = dt 33 3 := (hF128 33 (by decide) 3).trans w19
    have w142 : dt126 0 2 = dt 0 2 := (hF128 0 (by decide) 2).trans w20
    have w143 : dt126 35 1 = dt 35 1 := (hF128 35 (by decide) 1).trans w21
    have w144 : dt126 35 2 = dt 35 2 := (hF128 35 (by decide) 2).trans w22
    have w145 : dt126 35 3 = dt 35 3 := (hF128 35 (by decide) 3).trans w23
    have w146 : dt126 81 0 = dt 81 0 := (hF128 81 (by decide) 0).trans w30
    have w147 : dt126 81 1 = dt 81 1 := (hF128 81 (by decide) 1).trans w31
    have w148 : dt126 81 2 = dt 81 2 := (hF128 81 (by decide) 2).trans w32
    have w149 : dt126 81 3 = dt 81 3 := (hF128 81 (by decide) 3).trans w33
    have w150 : dt126 81 4 = dt 81 4 := (hF128 81 (by decide) 4).trans w34
    have w151 : dt126 81 5 = dt 81 5 := (hF128 81 (by decide) 5).trans w35
    have w152 : dt126 79 2 = dt 79 2 := (hF128 79 (by decide) 2).trans w36
    have w153 : dt126 79 12 = dt 79 12 := (hF128 79 (by decide) 12).trans w37
    have w154 : dt126 79 19 = dt 79 19 := (hF128 79 (by decide) 19).trans w38
    have w155 : dt126 79 21 = dt 79 21 := (hF128 79 (by decide) 21).trans w39
    rcases h125 with ⟨rfl, h125⟩ | ⟨v_h125, rfl, h125r, h125⟩
    · skip
      have hM156 : MW (dt126 80) := h125.2.1
      obtain ⟨h125_0, h125_1, h125_2, h125_3, h125_4, h125_5, h125_6, h125_7, h125_8⟩ := h125
      replace h125_0 := hid h125_0
      have w157 : dt126 80 0 = dt 80 0 := h125_2.trans w24
      have w158 : dt126 80 1 = dt 80 1 := h125_3.trans w25
      have w159 : dt126 80 2 = dt 80 2 := h125_4.trans w26
      have w160 : dt126 80 3 = dt 80 3 := h125_5.trans w27
      have w161 : dt126 80 4 = dt 80 4 := h125_6.trans w28
      have w162 : dt126 80 5 = dt 80 5 := h125_7.trans w29
      have M2163 : MW (dt126 81) := MW_frk M2114 hF128 (by decide)
      have C164 : ∀ j : Nat, dt126 2 j = dt 2 j := fun j => (hF128 2 (by decide) j).trans (C115 j)
      have C165 : ∀ j : Nat, dt126 3 j = dt 3 j := fun j => (hF128 3 (by decide) j).trans (C116 j)
      have C166 : ∀ j : Nat, dt126 19 j = dt 19 j := fun j => (hF128 19 (by decide) j).trans (C117 j)
      have C167 : ∀ j : Nat, dt126 20 j = dt 20 j := fun j => (hF128 20 (by decide) j).trans (C118 j)
      have C168 : ∀ j : Nat, dt126 36 j = dt 36 j := fun j => (hF128 36 (by decide) j).trans (C119 j)
      have C169 : ∀ j : Nat, dt126 80 j = dt 80 j := fun j => (h125_8 j).trans (C120 j)
      have C170 : ∀ j : Nat, dt126 81 j = dt 81 j := fun j => (hF128 81 (by decide) j).trans (C121 j)
      have C171 : ∀ j : Nat, dt126 85 j = dt 85 j := fun j => (hF128 85 (by decide) j).trans (C122 j)
      refine go_toq PM267 (k := 2) (pc' := 1435) (L' := [some (.inr (.inr (some 3000))), some (.inr (.inr (some 0))), some (.inr (.inr (some 79))), some (.inl i)]) (st' := []) (w' := (SH, dt126)) rfl ?_
      exact K dt126 hI127 hM156 M2163 (w130.trans (hk0.trans w157.symm)) (w131.trans (hk1.trans w158.symm)) (w132.trans (hk2.trans w159.symm)) (w133.trans (hk3.trans w160.symm)) (by (first | omega | (have z0_ := unhid h125_0; omega))) (w135.trans (hk5.trans w162.symm)) (w136.trans (hk6.trans w146.symm)) (w137.trans (hk7.trans w147.symm)) (w138.trans (hk8.trans w148.symm)) (w139.trans (hk9.trans w149.symm)) (w140.trans (hk10.trans w150.symm)) (w141.trans (hk11.trans w151.symm)) (w142.trans (hk12.trans w152.symm)) (w143.trans (hk13.trans w153.symm)) (w144.trans (hk14.trans w154.symm)) (w145.trans (hk15.trans w155.symm)) (by first | exact hI | exact TPL_k hd0 C168 C171 (by (first | omega | (have z0_ := unhid h125_0; omega))) | (exfalso; (first | omega | (have z0_ := unhid h125_0; omega)))) (by first | exact hI | exact SCL_k hd1 hM (fun j _ => C164 j) (fun j _ => C165 j) (fun j _ _ => C169 j) | (exfalso; (first | omega | (have z0_ := unhid h125_0; omega)))) (by first | exact hI | exact SCL_k hd2 hM2 (fun j _ => C166 j) (fun j _ => C167 j) (fun j _ _ => C170 j) | (exfalso; (first | omega | (have z0_ := unhid h125_0; omega))))
    · skip
      have hM172 : MW (dt126 80) := h125.2.2.1
      obtain ⟨h125_0, h125_1, h125_2, h125_3, h125_4, h125_5, h125_6, h125_7, h125_8, h125_9, h125_10, h125_11⟩ := h125
      have w173 : dt126 80 0 = dt 80 0 := h125_4.trans w24
      have w174 : dt126 80 1 = dt 80 1 := h125_5.trans w25
      have w175 : dt126 80 2 = dt 80 2 := h125_6.trans w26
      have w176 : dt126 80 3 = dt 80 3 := h125_7.trans w27
      have w177 : dt126 80 5 = dt 80 5 := h125_8.trans w29
      have M2178 : MW (dt126 81) := MW_frk M2114 hF128 (by decide)
      have C179 : ∀ j : Nat, dt126 2 j = dt 2 j := fun j => (hF128 2 (by decide) j).trans (C115 j)
      have C180 : ∀ j : Nat, dt126 3 j = dt 3 j := fun j => (hF128 3 (by decide) j).trans (C116 j)
      have C181 : ∀ j : Nat, dt126 19 j = dt 19 j := fun j => (hF128 19 (by decide) j).trans (C117 j)
      have C182 : ∀ j : Nat, dt126 20 j = dt 20 j := fun j => (hF128 20 (by decide) j).trans (C118 j)
      have C183 : ∀ j : Nat, dt126 36 j = dt 36 j := fun j => (hF128 36 (by decide) j).trans (C119 j)
      have C184 : ∀ j : Nat, dt126 81 j = dt 81 j := fun j => (hF128 81 (by decide) j).trans (C121 j)
      have C185 : ∀ j : Nat, dt126 85 j = dt 85 j := fun j => (hF128 85 (by decide) j).trans (C122 j)
      have F186 : ∀ j : Nat, 6 ≤ j → j < 974 → dt126 80 j = dt 80 j := fun j h1_ h2_ => (h125_9 j (by omega) (by omega)).trans (C120 j)
      refine go_toq PM267 (k := 2) (pc' := 1435) (L' := [some (.inr (.inr (some 3000))), some (.inr (.inr (some 0))), some (.inr (.inr (some 79))), some (.inl i)]) (st' := []) (w' := (SH, dt126)) rfl ?_
      exact K dt126 hI127 hM172 M2178 (w130.trans (hk0.trans w173.symm)) (w131.trans (hk1.trans w174.symm)) (w132.trans (hk2.trans w175.symm)) (w133.trans (hk3.trans w176.symm)) (by omega) (w135.trans (hk5.trans w177.symm)) (w136.trans (hk6.trans w146.symm)) (w137.trans (hk7.trans w147.symm)) (w138.trans (hk8.trans w148.symm)) (w139.trans (hk9.trans w149.symm)) (w140.trans (hk10.trans w150.symm)) (w141.trans (hk11.trans w151.symm)) (w142.trans (hk12.trans w152.symm)) (w143.trans (hk13.trans w153.symm)) (w144.trans (hk14.trans w154.symm)) (w145.trans (hk15.trans w155.symm)) (by first | exact hI | exact TPL_k hd0 C183 C185 (by omega) | (exfalso; omega)) (by first | exact hI | exact SCL_k hd1 hM (fun j _ => C179 j) (fun j _ => C180 j) F186 | (exfalso; omega)) (by first | exact hI | exact SCL_k hd2 hM2 (fun j _ => C181 j) (fun j _ => C182 j) (fun j _ _ => C184 j) | (exfalso; omega))
set_option maxRecDepth 20000 in
set_option maxHeartbeats 8000000 in
theorem sp_case24 (L : Nat) (xs : Nat → Int32) (sio : Option Nat) (d : Nat) (Q : Option AV → am_W → Prop) (hLL : L ≤ 3072) (i : Int) (hi : 0 ≤ i ∧ i ≤ 3066) (hil : i ≤ (L : Int) - 6) (dt : Nat → Nat → Int) (hI : InvC dt) (hM : MW (dt 80)) (hM2 : MW (dt 81)) (hk0 : dt 1 0 = dt 80 0) (hk1 : dt 7 3 = dt 80 1) (hk2 : dt 10 3 = dt 80 2) (hk3 : dt 12 3 = dt 80 3) (hk4 : dt 14 3 = dt 80 4) (hk5 : dt 16 3 = dt 80 5) (hk6 : dt 18 0 = dt 81 0) (hk7 : dt 24 3 = dt 81 1) (hk8 : dt 27 3 = dt 81 2) (hk9 : dt 29 3 = dt 81 3) (hk10 : dt 31 3 = dt 81 4) (hk11 : dt 33 3 = dt 81 5) (hk12 : dt 0 2 = dt 79 2) (hk13 : dt 35 1 = dt 79 12) (hk14 : dt 35 2 = dt 79 19) (hk15 : dt 35 3 = dt 79 21) (hd0 : TPL (dt 36) (dt 85) (dt 35 1)) (hd1 : SCL (dt 2) (dt 3) (dt 80)) (hd2 : SCL (dt 19) (dt 20) (dt 81)) (K : ∀ (dt : Nat → Nat → Int) (hI : InvC dt) (hM : MW (dt 80)) (hM2 : MW (dt 81)) (hk0 : dt 1 0 = dt 80 0) (hk1 : dt 7 3 = dt 80 1) (hk2 : dt 10 3 = dt 80 2) (hk3 : dt 12 3 = dt 80 3) (hk4 : dt 14 3 = dt 80 4) (hk5 : dt 16 3 = dt 80 5) (hk6 : dt 18 0 = dt 81 0) (hk7 : dt 24 3 = dt 81 1) (hk8 : dt 27 3 = dt 81 2) (hk9 : dt 29 3 = dt 81 3) (hk10 : dt 31 3 = dt 81 4) (hk11 : dt 33 3 = dt 81 5) (hk12 : dt 0 2 = dt 79 2) (hk13 : dt 35 1 = dt 79 12) (hk14 : dt 35 2 = dt 79 19) (hk15 : dt 35 3 = dt 79 21) (hd0 : TPL (dt 36) (dt 85) (dt 35 1)) (hd1 : SCL (dt 2) (dt 3) (dt 80)) (hd2 : SCL (dt 19) (dt 20) (dt 81)), GO (am_XX L xs sio) (d + 39) 267 1435 [some (.inr (.inr (some 3000))), some (.inr (.inr (some 0))), some (.inr (.inr (some 79))), some (.inl i)] [] (SH, dt) Q) : GO (am_XX L xs sio) (d + 39) 267 1142 [some (.inr (.inr (some 3000))), some (.inr (.inr (some 0))), some (.inr (.inr (some 79))), some (.inl i)] [] (SH, dt) Q := by
  have hF : Fr [0, 1, 2, 3, 4, 5, 6, 7, 8, 9, 10, 11, 12, 13, 14, 15, 16, 17, 18, 19, 20, 21, 22, 23, 24, 25, 26, 27, 28, 29, 30, 31, 32, 33, 34, 35, 36, 37, 38, 39, 40, 41, 42, 43, 44, 45, 46, 47, 48, 49, 50, 51, 52, 53, 54, 55, 56, 57, 58, 59, 60, 61, 62, 63, 64, 65, 66, 67, 68, 69, 70, 71, 72, 73, 74, 75, 76, 77, 78, 79, 80, 81, 82, 83, 84, 85, 86, 87, 88, 89, 90, 91, 92, 93, 94, 95, 96, 97, 98, 99, 100, 101, 102, 103, 104] dt dt := Fr_refl
  refine go_toq PM267 (k := 5) (pc' := 1147) (L' := [some (.inr (.inr (some 3000))), some (.inr (.inr (some 0))), some (.inr (.inr (some 79))), some (.inl i)]) (st' := [.inl (i + 1), .inr (.inr (some 3000)), .inr (.inr (some 0))]) (w' := (SH, dt)) rfl ?_
  have r1 := i32_R (xs ((i + 1).toNat))
  refine go_smpq PM267 (L' := [some (.inr (.inr (some 3000))), some (.inr (.inr (some 0))), some (.inr (.inr (some 79))), some (.inl i)]) (st' := [.inl ((xs ((i + 1).toNat)).toInt), .inr (.inr (some 0))]) (w' := (SH, dt)) rfl rfl (s_iald (n := L) (f := fun j => (xs j).toInt) (am_scr hLL) ⟨by omega, by omega⟩) ?_
  refine go_callq PM267 PM91 (Q' := _) rfl rfl rfl rfl (sp_X5_way L xs sio (d + 35) dt hI  ((xs ((i + 1).toNat)).toInt) ⟨by omega, by omega⟩ ) ?_
  rintro _ _ ⟨rfl, h2⟩
  refine ⟨rfl, ?_⟩
  rcases h2 with ⟨v_h2, rfl, h2r, h2⟩
  refine go_toq PM267 (k := 6) (pc' := 1157) (L' := [some (.inr (.inr (some 3000))), some (.inr (.inr (some 0))), some (.inr (.inr (some 79))), some (.inl i)]) (st' := [.inl (i + 1), .inr (.inr (some 3000)), .inr (.inr (some 79))]) (w' := (SH, dt)) rfl ?_
  refine go_smpq PM267 (L' := [some (.inr (.inr (some 3000))), some (.inr (.inr (some 0))), some (.inr (.inr (some 79))), some (.inl i)]) (st' := [.inl ((xs ((i + 1).toNat)).toInt), .inr (.inr (some 79))]) (w' := (SH, dt)) rfl rfl (s_iald (n := L) (f := fun j => (xs j).toInt) (am_scr hLL) ⟨by omega, by omega⟩) ?_
  refine go_callq PM267 PM236 (Q' := _) rfl rfl rfl rfl (sp_X6_way L xs sio (d + 36) dt hI hM  ((xs ((i + 1).toNat)).toInt) ⟨by omega, by omega⟩ ) ?_
  rintro _ _ ⟨dt4, rfl, hI5, hF6, h3⟩
  refine ⟨rfl, ?_⟩
  have hF7 : Fr [0, 1, 2, 3, 4, 5, 6, 7, 8, 9, 10, 11, 12, 13, 14, 15, 16, 17, 18, 19, 20, 21, 22, 23, 24, 25, 26, 27, 28, 29, 30, 31, 32, 33, 34, 35, 36, 37, 38, 39, 40, 41, 42, 43, 44, 45, 46, 47, 48, 49, 50, 51, 52, 53, 54, 55, 56, 57, 58, 59, 60, 61, 62, 63, 64, 65, 66, 67, 68, 69, 70, 71, 72, 73, 74, 75, 76, 77, 78, 79, 80, 81, 82, 83, 84, 85, 86, 87, 88, 89, 90, 91, 92, 93, 94, 95, 96, 97, 98, 99, 100, 101, 102, 103, 104] dt dt4 := Fr_tr hF hF6 (by decide)
  have hM8 : MW (dt4 80) := MW_fr hM hF6 (by decide)
  have w9 : dt4 1 0 = dt 1 0 := hF6 1 (by decide) 0
  have w10 : dt4 7 3 = dt 7 3 := hF6 7 (by decide) 3
  have w11 : dt4 10 3 = dt 10 3 := hF6 10 (by decide) 3
  have w12 : dt4 12 3 = dt 12 3 := hF6 12 (by decide) 3
  have w13 : dt4 14 3 = dt 14 3 := hF6 14 (by decide) 3
  have w14 : dt4 16 3 = dt 16 3 := hF6 16 (by decide) 3
  have w15 : dt4 18 0 = dt 18 0 := hF6 18 (by decide) 0
  have w16 : dt4 24 3 = dt 24 3 := hF6 24 (by decide) 3
  have w17 : dt4 27 3 = dt 27 3 := hF6 27 (by decide) 3
  have w18 : dt4 29 3 = dt 29 3 := hF6 29 (by decide) 3
  have w19 : dt4 31 3 = dt 31 3 := hF6 31 (by decide) 3
  have w20 : dt4 33 3 = dt 33 3 := hF6 33 (by decide) 3
  have w21 : dt4 0 2 = dt 0 2 := hF6 0 (by decide) 2
  have w22 : dt4 35 1 = dt 35 1 := hF6 35 (by decide) 1
  have w23 : dt4 35 2 = dt 35 2 := hF6 35 (by decide) 2
  have w24 : dt4 35 3 = dt 35 3 := hF6 35 (by decide) 3
  have w25 : dt4 80 0 = dt 80 0 := hF6 80 (by decide) 0
  have w26 : dt4 80 1 = dt 80 1 := hF6 80 (by decide) 1
  have w27 : dt4 80 2 = dt 80 2 := hF6 80 (by decide) 2
  have w28 : dt4 80 3 = dt 80 3 := hF6 80 (by decide) 3
  have w29 : dt4 80 4 = dt 80 4 := hF6 80 (by decide) 4
  have w30 : dt4 80 5 = dt 80 5 := hF6 80 (by decide) 5
  have w31 : dt4 81 0 = dt 81 0 := hF6 81 (by decide) 0
  have w32 : dt4 81 1 = dt 81 1 := hF6 81 (by decide) 1
  have w33 : dt4 81 2 = dt 81 2 := hF6 81 (by decide) 2
  have w34 : dt4 81 3 = dt 81 3 := hF6 81 (by decide) 3
  have w35 : dt4 81 4 = dt 81 4 := hF6 81 (by decide) 4
  have w36 : dt4 81 5 = dt 81 5 := hF6 81 (by decide) 5
  have w37 : dt4 79 2 = dt 79 2 := hF6 79 (by decide) 2
  have w38 : dt4 79 12 = dt 79 12 := hF6 79 (by decide) 12
  have w39 : dt4 79 19 = dt 79 19 := hF6 79 (by decide) 19
  have w40 : dt4 79 21 = dt 79 21 := hF6 79 (by decide) 21
  rcases h3 with ⟨v_h3, rfl, h3r, h3⟩
  have M241 : MW (dt4 81) := MW_frk hM2 hF6 (by decide)
  have C42 : ∀ j : Nat, dt4 2 j = dt 2 j := fun j => (hF6 2 (by decide) j).trans ((fun _ => rfl) j)
  have C43 : ∀ j : Nat, dt4 3 j = dt 3 j := fun j => (hF6 3 (by decide) j).trans ((fun _ => rfl) j)
  have C44 : ∀ j : Nat, dt4 19 j = dt 19 j := fun j => (hF6 19 (by decide) j).trans ((fun _ => rfl) j)
  have C45 : ∀ j : Nat, dt4 20 j = dt 20 j := fun j => (hF6 20 (by decide) j).trans ((fun _ => rfl) j)
  have C46 : ∀ j : Nat, dt4 36 j = dt 36 j := fun j => (hF6 36 (by decide) j).trans ((fun _ => rfl) j)
  have C47 : ∀ j : Nat, dt4 80 j = dt 80 j := fun j => (hF6 80 (by decide) j).trans ((fun _ => rfl) j)
  have C48 : ∀ j : Nat, dt4 81 j = dt 81 j := fun j => (hF6 81 (by decide) j).trans ((fun _ => rfl) j)
  have C49 : ∀ j : Nat, dt4 85 j = dt 85 j := fun j => (hF6 85 (by decide) j).trans ((fun _ => rfl) j)
  refine go_toq PM267 (k := 2) (pc' := 1435) (L' := [some (.inr (.inr (some 3000))), some (.inr (.inr (some 0))), some (.inr (.inr (some 79))), some (.inl i)]) (st' := []) (w' := (SH, dt4)) rfl ?_
  exact K dt4 hI5 hM8 M241 (w9.trans (hk0.trans w25.symm)) (w10.trans (hk1.trans w26.symm)) (w11.trans (hk2.trans w27.symm)) (w12.trans (hk3.trans w28.symm)) (w13.trans (hk4.trans w29.symm)) (w14.trans (hk5.trans w30.symm)) (w15.trans (hk6.trans w31.symm)) (w16.trans (hk7.trans w32.symm)) (w17.trans (hk8.trans w33.symm)) (w18.trans (hk9.trans w34.symm)) (w19.trans (hk10.trans w35.symm)) (w20.trans (hk11.trans w36.symm)) (w21.trans (hk12.trans w37.symm)) (w22.trans (hk13.trans w38.symm)) (w23.trans (hk14.trans w39.symm)) (w24.trans (hk15.trans w40.symm)) (by first | exact hI | exact TPL_k hd0 C46 C49 (by omega) | (exfalso; omega)) (by first | exact hI | exact SCL_k hd1 hM (fun j _ => C42 j) (fun j _ => C43 j) (fun j _ _ => C47 j) | (exfalso; omega)) (by first | exact hI | exact SCL_k hd2 hM2 (fun j _ => C44 j) (fun j _ => C45 j) (fun j _ _ => C48 j) | (exfalso; omega))
set_option maxRecDepth 20000 in
set_option maxHeartbeats 8000000 in
theorem sp_case25 (L : Nat) (xs : Nat → Int32) (sio : Option Nat) (d : Nat) (Q : Option AV → am_W → Prop) (hLL : L ≤ 3072) (i : Int) (hi : 0 ≤ i ∧ i ≤ 3066) (hil : i ≤ (L : Int) - 6) (dt : Nat → Nat → Int) (hI : InvC dt) (hM : MW (dt 80)) (hM2 : MW (dt 81)) (hk0 : dt 1 0 = dt 80 0) (hk1 : dt 7 3 = dt 80 1) (hk2 : dt 10 3 = dt 80 2) (hk3 : dt 12 3 = dt 80 3) (hk4 : dt 14 3 = dt 80 4) (hk5 : dt 16 3 = dt 80 5) (hk6 : dt 18 0 = dt 81 0) (hk7 : dt 24 3 = dt 81 1) (hk8 : dt 27 3 = dt 81 2) (hk9 : dt 29 3 = dt 81 3) (hk10 : dt 31 3 = dt 81 4) (hk11 : dt 33 3 = dt 81 5) (hk12 : dt 0 2 = dt 79 2) (hk13 : dt 35 1 = dt 79 12) (hk14 : dt 35 2 = dt 79 19) (hk15 : dt 35 3 = dt 79 21) (hd0 : TPL (dt 36) (dt 85) (dt 35 1)) (hd1 : SCL (dt 2) (dt 3) (dt 80)) (hd2 : SCL (dt 19) (dt 20) (dt 81)) (K : ∀ (dt : Nat → Nat → Int) (hI : InvC dt) (hM : MW (dt 80)) (hM2 : MW (dt 81)) (hk0 : dt 1 0 = dt 80 0) (hk1 : dt 7 3 = dt 80 1) (hk2 : dt 10 3 = dt 80 2) (hk3 : dt 12 3 = dt 80 3) (hk4 : dt 14 3 = dt 80 4) (hk5 : dt 16 3 = dt 80 5) (hk6 : dt 18 0 = dt 81 0) (hk7 : dt 24 3 = dt 81 1) (hk8 : dt 27 3 = dt 81 2) (hk9 : dt 29 3 = dt 81 3) (hk10 : dt 31 3 = dt 81 4) (hk11 : dt 33 3 = dt 81 5) (hk12 : dt 0 2 = dt 79 2) (hk13 : dt 35 1 = dt 79 12) (hk14 : dt 35 2 = dt 79 19) (hk15 : dt 35 3 = dt 79 21) (hd0 : TPL (dt 36) (dt 85) (dt 35 1)) (hd1 : SCL (dt 2) (dt 3) (dt 80)) (hd2 : SCL (dt 19) (dt 20) (dt 81)), GO (am_XX L xs sio) (d + 39) 267 1435 [some (.inr (.inr (some 3000))), some (.inr (.inr (some 0))), some (.inr (.inr (some 79))), some (.inl i)] [] (SH, dt) Q) : GO (am_XX L xs sio) (d + 39) 267 1165 [some (.inr (.inr (some 3000))), some (.inr (.inr (some 0))), some (.inr (.inr (some 79))), some (.inl i)] [] (SH, dt) Q := by
  have hF : Fr [0, 1, 2, 3, 4, 5, 6, 7, 8, 9, 10, 11, 12, 13, 14, 15, 16, 17, 18, 19, 20, 21, 22, 23, 24, 25, 26, 27, 28, 29, 30, 31, 32, 33, 34, 35, 36, 37, 38, 39, 40, 41, 42, 43, 44, 45, 46, 47, 48, 49, 50, 51, 52, 53, 54, 55, 56, 57, 58, 59, 60, 61, 62, 63, 64, 65, 66, 67, 68, 69, 70, 71, 72, 73, 74, 75, 76, 77, 78, 79, 80, 81, 82, 83, 84, 85, 86, 87, 88, 89, 90, 91, 92, 93, 94, 95, 96, 97, 98, 99, 100, 101, 102, 103, 104] dt dt := Fr_refl
  refine go_toq PM267 (k := 5) (pc' := 1170) (L' := [some (.inr (.inr (some 3000))), some (.inr (.inr (some 0))), some (.inr (.inr (some 79))), some (.inl i)]) (st' := [.inl (i + 1), .inr (.inr (some 3000)), .inr (.inr (some 0))]) (w' := (SH, dt)) rfl ?_
  have r1 := i32_R (xs ((i + 1).toNat))
  refine go_smpq PM267 (L' := [some (.inr (.inr (some 3000))), some (.inr (.inr (some 0))), some (.inr (.inr (some 79))), some (.inl i)]) (st' := [.inl ((xs ((i + 1).toNat)).toInt), .inr (.inr (some 0))]) (w' := (SH, dt)) rfl rfl (s_iald (n := L) (f := fun j => (xs j).toInt) (am_scr hLL) ⟨by omega, by omega⟩) ?_
  refine go_toq PM267 (k := 4) (pc' := 1175) (L' := [some (.inr (.inr (some 3000))), some (.inr (.inr (some 0))), some (.inr (.inr (some 79))), some (.inl i)]) (st' := [.inl (i + 2), .inr (.inr (some 3000)), .inl ((xs ((i + 1).toNat)).toInt), .inr (.inr (some 0))]) (w' := (SH, dt)) rfl ?_
  have r2 := i32_R (xs ((i + 2).toNat))
  refine go_smpq PM267 (L' := [some (.inr (.inr (some 3000))), some (.inr (.inr (some 0))), some (.inr (.inr (some 79))), some (.inl i)]) (st' := [.inl ((xs ((i + 2).toNat)).toInt), .inl ((xs ((i + 1).toNat)).toInt), .inr (.inr (some 0))]) (w' := (SH, dt)) rfl rfl (s_iald (n := L) (f := fun j => (xs j).toInt) (am_scr hLL) ⟨by omega, by omega⟩) ?_
  refine go_callq PM267 PM92 (Q' := _) rfl rfl rfl rfl (sp_X5_house L xs sio (d + 36) dt hI  ((xs ((i + 1).toNat)).toInt) ⟨by omega, by omega⟩ ((xs ((i + 2).toNat)).toInt) ⟨by omega, by omega⟩ ) ?_
  rintro _ _ ⟨dt4, rfl, hI5, hF6, h3⟩
  refine ⟨rfl, ?_⟩
  have hF7 : Fr [0, 1, 2, 3, 4, 5, 6, 7, 8, 9, 10, 11, 12, 13, 14, 15, 16, 17, 18, 19, 20, 21, 22, 23, 24, 25, 26, 27, 28, 29, 30, 31, 32, 33, 34, 35, 36, 37, 38, 39, 40, 41, 42, 43, 44, 45, 46, 47, 48, 49, 50, 51, 52, 53, 54, 55, 56, 57, 58, 59, 60, 61, 62, 63, 64, 65, 66, 67, 68, 69, 70, 71, 72, 73, 74, 75, 76, 77, 78, 79, 80, 81, 82, 83, 84, 85, 86, 87, 88, 89, 90, 91, 92, 93, 94, 95, 96, 97, 98, 99, 100, 101, 102, 103, 104] dt dt4 := Fr_tr hF hF6 (by decide)
  have hM8 : MW (dt4 80) := MW_fr hM hF6 (by decide)
  have w9 : dt4 1 0 = dt 1 0 := hF6 1 (by decide) 0
  have w10 : dt4 7 3 = dt 7 3 := hF6 7 (by decide) 3
  have w11 : dt4 10 3 = dt 10 3 := hF6 10 (by decide) 3
  have w12 : dt4 12 3 = dt 12 3 := hF6 12 (by decide) 3
  have w13 : dt4 14 3 = dt 14 3 := hF6 14 (by decide) 3
  have w14 : dt4 18 0 = dt 18 0 := hF6 18 (by decide) 0
  have w15 : dt4 24 3 = dt 24 3 := hF6 24 (by decide) 3
  have w16 : dt4 27 3 = dt 27 3 := hF6 27 (by decide) 3
  have w17 : dt4 29 3 = dt 29 3 := hF6 29 (by decide) 3
  have w18 : dt4 31 3 = dt 31 3 := hF6 31 (by decide) 3
  have w19 : dt4 33 3 = dt 33 3 := hF6 33 (by decide) 3
  have w20 : dt4 0 2 = dt 0 2 := hF6 0 (by decide) 2
  have w21 : dt4 35 1 = dt 35 1 := hF6 35 (by decide) 1
  have w22 : dt4 35 2 = dt 35 2 := hF6 35 (by decide) 2
  have w23 : dt4 35 3 = dt 35 3 := hF6 35 (by decide) 3
  have w24 : dt4 80 0 = dt 80 0 := hF6 80 (by decide) 0
  have w25 : dt4 80 1 = dt 80 1 := hF6 80 (by decide) 1
  have w26 : dt4 80 2 = dt 80 2 := hF6 80 (by decide) 2
  have w27 : dt4 80 3 = dt 80 3 := hF6 80 (by decide) 3
  have w28 : dt4 80 4 = dt 80 4 := hF6 80 (by decide) 4
  have w29 : dt4 80 5 = dt 80 5 := hF6 80 (by decide) 5
  have w30 : dt4 81 0 = dt 81 0 := hF6 81 (by decide) 0
  have w31 : dt4 81 1 = dt 81 1 := hF6 81 (by decide) 1
  have w32 : dt4 81 2 = dt 81 2 := hF6 81 (by decide) 2
  have w33 : dt4 81 3 = dt 81 3 := hF6 81 (by decide) 3
  have w34 : dt4 81 4 = dt 81 4 := hF6 81 (by decide) 4
  have w35 : dt4 81 5 = dt 81 5 := hF6 81 (by decide) 5
  have w36 : dt4 79 2 = dt 79 2 := hF6 79 (by decide) 2
  have w37 : dt4 79 12 = dt 79 12 := hF6 79 (by decide) 12
  have w38 : dt4 79 19 = dt 79 19 := hF6 79 (by decide) 19
  have w39 : dt4 79 21 = dt 79 21 := hF6 79 (by decide) 21
  rcases h3 with ⟨rfl, h3⟩ | ⟨v_h3, rfl, h3r, h3⟩
  · skip
    obtain ⟨h3_0, h3_1⟩ := h3
    replace h3_0 := hid h3_0
    have w40 : dt4 16 3 = dt 16 3 := h3_1
    have M241 : MW (dt4 81) := MW_frk hM2 hF6 (by decide)
    have C42 : ∀ j : Nat, dt4 2 j = dt 2 j := fun j => (hF6 2 (by decide) j).trans ((fun _ => rfl) j)
    have C43 : ∀ j : Nat, dt4 3 j = dt 3 j := fun j => (hF6 3 (by decide) j).trans ((fun _ => rfl) j)
    have C44 : ∀ j : Nat, dt4 19 j = dt 19 j := fun j => (hF6 19 (by decide) j).trans ((fun _ => rfl) j)
    have C45 : ∀ j : Nat, dt4 20 j = dt 20 j := fun j => (hF6 20 (by decide) j).trans ((fun _ => rfl) j)
    have C46 : ∀ j : Nat, dt4 36 j = dt 36 j := fun j => (hF6 36 (by decide) j).trans ((fun _ => rfl) j)
    have C47 : ∀ j : Nat, dt4 80 j = dt 80 j := fun j => (hF6 80 (by decide) j).trans ((fun _ => rfl) j)
    have C48 : ∀ j : Nat, dt4 81 j = dt 81 j := fun j => (hF6 81 (by decide) j).trans ((fun _ => rfl) j)
    have C49 : ∀ j : Nat, dt4 85 j = dt 85 j := fun j => (hF6 85 (by decide) j).trans ((fun _ => rfl) j)
    refine go_toq PM267 (k := 6) (pc' := 1185) (L' := [some (.inr (.inr (some 3000))), some (.inr (.inr (some 0))), some (.inr (.inr (some 79))), some (.inl i)]) (st' := [.inl (i + 1), .inr (.inr (some 3000)), .inr (.inr (some 79))]) (w' := (SH, dt4)) rfl ?_
    have r50 := i32_R (xs ((i + 1).toNat))
    refine go_smpq PM267 (L' := [some (.inr (.inr (some 3000))), some (.inr (.inr (some 0))), some (.inr (.inr (some 79))), some (.inl i)]) (st' := [.inl ((xs ((i + 1).toNat)).toInt), .inr (.inr (some 79))]) (w' := (SH, dt4)) rfl rfl (s_iald (n := L) (f := fun j => (xs j).toInt) (am_scr hLL) ⟨by (first | omega | (have z0_ := unhid h3_0; omega)), by (first | omega | (have z0_ := unhid h3_0; omega))⟩) ?_
    refine go_toq PM267 (k := 4) (pc' := 1190) (L' := [some (.inr (.inr (some 3000))), some (.inr (.inr (some 0))), some (.inr (.inr (some 79))), some (.inl i)]) (st' := [.inl (i + 2), .inr (.inr (some 3000)), .inl ((xs ((i + 1).toNat)).toInt), .inr (.inr (some 79))]) (w' := (SH, dt4)) rfl ?_
    have r51 := i32_R (xs ((i + 2).toNat))
    refine go_smpq PM267 (L' := [some (.inr (.inr (some 3000))), some (.inr (.inr (some 0))), some (.inr (.inr (some 79))), some (.inl i)]) (st' := [.inl ((xs ((i + 2).toNat)).toInt), .inl ((xs ((i + 1).toNat)).toInt), .inr (.inr (some 79))]) (w' := (SH, dt4)) rfl rfl (s_iald (n := L) (f := fun j => (xs j).toInt) (am_scr hLL) ⟨by (first | omega | (have z0_ := unhid h3_0; omega)), by (first | omega | (have z0_ := unhid h3_0; omega))⟩) ?_
    refine go_callq PM267 PM237 (Q' := _) rfl rfl rfl rfl (sp_X6_house_v L xs sio (d + 37) dt4 hI5 hM8  ((xs ((i + 1).toNat)).toInt) ⟨by (first | omega | (have z0_ := unhid h3_0; omega)), by (first | omega | (have z0_ := unhid h3_0; omega))⟩ ((xs ((i + 2).toNat)).toInt) ⟨by (first | omega | (have z0_ := unhid h3_0; omega)), by (first | omega | (have z0_ := unhid h3_0; omega))⟩ ) ?_
    rintro _ _ ⟨dt53, rfl, hI54, hF55, h52⟩
    refine ⟨rfl, ?_⟩
    have hF56 : Fr [0, 1, 2, 3, 4, 5, 6, 7, 8, 9, 10, 11, 12, 13, 14, 15, 16, 17, 18, 19, 20, 21, 22, 23, 24, 25, 26, 27, 28, 29, 30, 31, 32, 33, 34, 35, 36, 37, 38, 39, 40, 41, 42, 43, 44, 45, 46, 47, 48, 49, 50, 51, 52, 53, 54, 55, 56, 57, 58, 59, 60, 61, 62, 63, 64, 65, 66, 67, 68, 69, 70, 71, 72, 73, 74, 75, 76, 77, 78, 79, 80, 81, 82, 83, 84, 85, 86, 87, 88, 89, 90, 91, 92, 93, 94, 95, 96, 97, 98, 99, 100, 101, 102, 103, 104] dt dt53 := Fr_tr hF7 hF55 (by decide)
    have w57 : dt53 1 0 = dt 1 0 := (hF55 1 (by decide) 0).trans w9
    have w58 : dt53 7 3 = dt 7 3 := (hF55 7 (by decide) 3).trans w10
    have w59 : dt53 10 3 = dt 10 3 := (hF55 10 (by decide) 3).trans w11
    have w60 : dt53 12 3 = dt 12 3 := (hF55 12 (by decide) 3).trans w12
    have w61 : dt53 14 3 = dt 14 3 := (hF55 14 (by decide) 3).trans w13
    have w62 : dt53 16 3 = dt 16 3 := (hF55 16 (by decide) 3).trans w40
    have w63 : dt53 18 0 = dt 18 0 := (hF55 18 (by decide) 0).trans w14
    have w64 : dt53 24 3 = dt 24 3 := (hF55 24 (by decide) 3).trans w15
    have w65 : dt53 27 3 = dt 27 3 := (hF55 27 (by decide) 3).trans w16
    have w66 : dt53 29 3 = dt 29 3 := (hF55 29 (by decide) 3).trans w17
    have w67 : dt53 31 3 = dt 31 3 := (hF55 31 (by decide) 3).trans w18
    have w68 : dt53 33 3 = dt 33 3 := (hF55 33 (by decide) 3).trans w19
    have w69 : dt53 0 2 = dt 0 2 := (hF55 0 (by decide) 2).trans w20
    have w70 : dt53 35 1 = dt 35 1 := (hF55 35 (by decide) 1).trans w21
    have w71 : dt53 35 2 = dt 35 2 := (hF55 35 (by decide) 2).trans w22
    have w72 : dt53 35 3 = dt 35 3 := (hF55 35 (by decide) 3).trans w23
    have w73 : dt53 81 0 = dt 81 0 := (hF55 81 (by decide) 0).trans w30
    have w74 : dt53 81 1 = dt 81 1 := (hF55 81 (by decide) 1).trans w31
    have w75 : dt53 81 2 = dt 81 2 := (hF55 81 (by decide) 2).trans w32
    have w76 : dt53 81 3 = dt 81 3 := (hF55 81 (by decide) 3).trans w33
    have w77 : dt53 81 4 = dt 81 4 := (hF55 81 (by decide) 4).trans w34
    have w78 : dt53 81 5 = dt 81 5 := (hF55 81 (by decide) 5).trans w35
    have w79 : dt53 79 2 = dt 79 2 := (hF55 79 (by decide) 2).trans w36
    have w80 : dt53 79 12 = dt 79 12 := (hF55 79 (by decide) 12).trans w37
    have w81 : dt53 79 19 = dt 79 19 := (hF55 79 (by decide) 19).trans w38
    have w82 : dt53 79 21 = dt 79 21 := (hF55 79 (by decide) 21).trans w39
    rcases h52 with ⟨rfl, h52⟩ | ⟨v_h52, rfl, h52r, h52⟩
    · skip
      have hM83 : MW (dt53 80) := h52.2.1
      obtain ⟨h52_0, h52_1, h52_2, h52_3, h52_4, h52_5, h52_6, h52_7, h52_8⟩ := h52
      replace h52_0 := hid h52_0
      have w84 : dt53 80 0 = dt 80 0 := h52_2.trans w24
      have w85 : dt53 80 1 = dt 80 1 := h52_3.trans w25
      have w86 : dt53 80 2 = dt 80 2 := h52_4.trans w26
      have w87 : dt53 80 3 = dt 80 3 := h52_5.trans w27
      have w88 : dt53 80 4 = dt 80 4 := h52_6.trans w28
      have w89 : dt53 80 5 = dt 80 5 := h52_7.trans w29
      have M290 : MW (dt53 81) := MW_frk M241 hF55 (by decide)
      have C91 : ∀ j : Nat, dt53 2 j = dt 2 j := fun j => (hF55 2 (by decide) j).trans (C42 j)
      have C92 : ∀ j : Nat, dt53 3 j = dt 3 j := fun j => (hF55 3 (by decide) j).trans (C43 j)
      have C93 : ∀ j : Nat, dt53 19 j = dt 19 j := fun j => (hF55 19 (by decide) j).trans (C44 j)
      have C94 : ∀ j : Nat, dt53 20 j = dt 20 j := fun j => (hF55 20 (by decide) j).trans (C45 j)
      have C95 : ∀ j : Nat, dt53 36 j = dt 36 j := fun j => (hF55 36 (by decide) j).trans (C46 j)
      have C96 : ∀ j : Nat, dt53 80 j = dt 80 j := fun j => (h52_8 j).trans (C47 j)
      have C97 : ∀ j : Nat, dt53 81 j = dt 81 j := fun j => (hF55 81 (by decide) j).trans (C48 j)
      have C98 : ∀ j : Nat, dt53 85 j = dt 85 j := fun j => (hF55 85 (by decide) j).trans (C49 j)
      refine go_toq PM267 (k := 2) (pc' := 1435) (L' := [some (.inr (.inr (some 3000))), some (.inr (.inr (some 0))), some (.inr (.inr (some 79))), some (.inl i)]) (st' := []) (w' := (SH, dt53)) rfl ?_
      exact K dt53 hI54 hM83 M290 (w57.trans (hk0.trans w84.symm)) (w58.trans (hk1.trans w85.symm)) (w59.trans (hk2.trans w86.symm)) (w60.trans (hk3.trans w87.symm)) (w61.trans (hk4.trans w88.symm)) (w62.trans (hk5.trans w89.symm)) (w63.trans (hk6.trans w73.symm)) (w64.trans (hk7.trans w74.symm)) (w65.trans (hk8.trans w75.symm)) (w66.trans (hk9.trans w76.symm)) (w67.trans (hk10.trans w77.symm)) (w68.trans (hk11.trans w78.symm)) (w69.trans (hk12.trans w79.symm)) (w70.trans (hk13.trans w80.symm)) (w71.trans (hk14.trans w81.symm)) (w72.trans (hk15.trans w82.symm)) (by first | exact hI | exact TPL_k hd0 C95 C98 (by (first | omega | (have z0_ := unhid h3_0; have z1_ := unhid h52_0; omega))) | (exfalso; (first | omega | (have z0_ := unhid h3_0; have z1_ := unhid h52_0; omega)))) (by first | exact hI | exact SCL_k hd1 hM (fun j _ => C91 j) (fun j _ => C92 j) (fun j _ _ => C96 j) | (exfalso; (first | omega | (have z0_ := unhid h3_0; have z1_ := unhid h52_0; omega)))) (by first | exact hI | exact SCL_k hd2 hM2 (fun j _ => C93 j) (fun j _ => C94 j) (fun j _ _ => C97 j) | (exfalso; (first | omega | (have z0_ := unhid h3_0; have z1_ := unhid h52_0; omega))))
    · skip
      have hM99 : MW (dt53 80) := h52.2.2.1
      obtain ⟨h52_0, h52_1, h52_2, h52_3, h52_4, h52_5, h52_6, h52_7, h52_8, h52_9, h52_10, h52_11⟩ := h52
      have w100 : dt53 80 0 = dt 80 0 := h52_4.trans w24
      have w101 : dt53 80 1 = dt 80 1 := h52_5.trans w25
      have w102 : dt53 80 2 = dt 80 2 := h52_6.trans w26
      have w103 : dt53 80 3 = dt 80 3 := h52_7.trans w27
      have w104 : dt53 80 4 = dt 80 4 := h52_8.trans w28
      have M2105 : MW (dt53 81) := MW_frk M241 hF55 (by decide)
      have C106 : ∀ j : Nat, dt53 2 j = dt 2 j := fun j => (hF55 2 (by decide) j).trans (C42 j)
      have C107 : ∀ j : Nat, dt53 3 j = dt 3 j := fun j => (hF55 3 (by decide) j).trans (C43 j)
      have C108 : ∀ j : Nat, dt53 19 j = dt 19 j := fun j => (hF55 19 (by decide) j).trans (C44 j)
      have C109 : ∀ j : Nat, dt53 20 j = dt 20 j := fun j => (hF55 20 (by decide) j).trans (C45 j)
      have C110 : ∀ j : Nat, dt53 36 j = dt 36 j := fun j => (hF55 36 (by decide) j).trans (C46 j)
      have C111 : ∀ j : Nat, dt53 81 j = dt 81 j := fun j => (hF55 81 (by decide) j).trans (C48 j)
      have C112 : ∀ j : Nat, dt53 85 j = dt 85 j := fun j => (hF55 85 (by decide) j).trans (C49 j)
      have F113 : ∀ j : Nat, 6 ≤ j → j < 974 → dt53 80 j = dt 80 j := fun j h1_ h2_ => (h52_9 j (by (first | omega | (have z0_ := unhid h3_0; omega))) (by (first | omega | (have z0_ := unhid h3_0; omega)))).trans (C47 j)
      refine go_toq PM267 (k := 2) (pc' := 1435) (L' := [some (.inr (.inr (some 3000))), some (.inr (.inr (some 0))), some (.inr (.inr (some 79))), some (.inl i)]) (st' := []) (w' := (SH, dt53)) rfl ?_
      exact K dt53 hI54 hM99 M2105 (w57.trans (hk0.trans w100.symm)) (w58.trans (hk1.trans w101.symm)) (w59.trans (hk2.trans w102.symm)) (w60.trans (hk3.trans w103.symm)) (w61.trans (hk4.trans w104.symm)) (by (first | omega | (have z0_ := unhid h3_0; omega))) (w63.trans (hk6.trans w73.symm)) (w64.trans (hk7.trans w74.symm)) (w65.trans (hk8.trans w75.symm)) (w66.trans (hk9.trans w76.symm)) (w67.trans (hk10.trans w77.symm)) (w68.trans (hk11.trans w78.symm)) (w69.trans (hk12.trans w79.symm)) (w70.trans (hk13.trans w80.symm)) (w71.trans (hk14.trans w81.symm)) (w72.trans (hk15.trans w82.symm)) (by first | exact hI | exact TPL_k hd0 C110 C112 (by (first | omega | (have z0_ := unhid h3_0; omega))) | (exfalso; (first | omega | (have z0_ := unhid h3_0; omega)))) (by first | exact hI | exact SCL_k hd1 hM (fun j _ => C106 j) (fun j _ => C107 j) F113 | (exfalso; (first | omega | (have z0_ := unhid h3_0; omega)))) (by first | exact hI | exact SCL_k hd2 hM2 (fun j _ => C108 j) (fun j _ => C109 j) (fun j _ _ => C111 j) | (exfalso; (first | omega | (have z0_ := unhid h3_0; omega))))
  · skip
    obtain ⟨h3_0, h3_1, h3_2⟩ := h3
    have M2114 : MW (dt4 81) := MW_frk hM2 hF6 (by decide)
    have C115 : ∀ j : Nat, dt4 2 j = dt 2 j := fun j => (hF6 2 (by decide) j).trans ((fun _ => rfl) j)
    have C116 : ∀ j : Nat, dt4 3 j = dt 3 j := fun j => (hF6 3 (by decide) j).trans ((fun _ => rfl) j)
    have C117 : ∀ j : Nat, dt4 19 j = dt 19 j := fun j => (hF6 19 (by decide) j).trans ((fun _ => rfl) j)
    have C118 : ∀ j : Nat, dt4 20 j = dt 20 j := fun j => (hF6 20 (by decide) j).trans ((fun _ => rfl) j)
    have C119 : ∀ j : Nat, dt4 36 j = dt 36 j := fun j => (hF6 36 (by decide) j).trans ((fun _ => rfl) j)
    have C120 : ∀ j : Nat, dt4 80 j = dt 80 j := fun j => (hF6 80 (by decide) j).trans ((fun _ => rfl) j)
    have C121 : ∀ j : Nat, dt4 81 j = dt 81 j := fun j => (hF6 81 (by decide) j).trans ((fun _ => rfl) j)
    have C122 : ∀ j : Nat, dt4 85 j = dt 85 j := fun j => (hF6 85 (by decide) j).trans ((fun _ => rfl) j)
    refine go_toq PM267 (k := 6) (pc' := 1185) (L' := [some (.inr (.inr (some 3000))), some (.inr (.inr (some 0))), some (.inr (.inr (some 79))), some (.inl i)]) (st' := [.inl (i + 1), .inr (.inr (some 3000)), .inr (.inr (some 79))]) (w' := (SH, dt4)) rfl ?_
    have r123 := i32_R (xs ((i + 1).toNat))
    refine go_smpq PM267 (L' := [some (.inr (.inr (some 3000))), some (.inr (.inr (some 0))), some (.inr (.inr (some 79))), some (.inl i)]) (st' := [.inl ((xs ((i + 1).toNat)).toInt), .inr (.inr (some 79))]) (w' := (SH, dt4)) rfl rfl (s_iald (n := L) (f := fun j => (xs j).toInt) (am_scr hLL) ⟨by omega, by omega⟩) ?_
    refine go_toq PM267 (k := 4) (pc' := 1190) (L' := [some (.inr (.inr (some 3000))), some (.inr (.inr (some 0))), some (.inr (.inr (some 79))), some (.inl i)]) (st' := [.inl (i + 2), .inr (.inr (some 3000)), .inl ((xs ((i + 1).toNat)).toInt), .inr (.inr (some 79))]) (w' := (SH, dt4)) rfl ?_
    have r124 := i32_R (xs ((i + 2).toNat))
    refine go_smpq PM267 (L' := [some (.inr (.inr (some 3000))), some (.inr (.inr (some 0))), some (.inr (.inr (some 79))), some (.inl i)]) (st' := [.inl ((xs ((i + 2).toNat)).toInt), .inl ((xs ((i + 1).toNat)).toInt), .inr (.inr (some 79))]) (w' := (SH, dt4)) rfl rfl (s_iald (n := L) (f := fun j => (xs j).toInt) (am_scr hLL) ⟨by omega, by omega⟩) ?_
    refine go_callq PM267 PM237 (Q' := _) rfl rfl rfl rfl (sp_X6_house_v L xs sio (d + 37) dt4 hI5 hM8  ((xs ((i + 1).toNat)).toInt) ⟨by omega, by omega⟩ ((xs ((i + 2).toNat)).toInt) ⟨by omega, by omega⟩ ) ?_
    rintro _ _ ⟨dt126, rfl, hI127, hF128, h125⟩
    refine ⟨rfl, ?_⟩
    have hF129 : Fr [0, 1, 2, 3, 4, 5, 6, 7, 8, 9, 10, 11, 12, 13, 14, 15, 16, 17, 18, 19, 20, 21, 22, 23, 24, 25, 26, 27, 28, 29, 30, 31, 32, 33, 34, 35, 36, 37, 38, 39, 40, 41, 42, 43, 44, 45, 46, 47, 48, 49, 50, 51, 52, 53, 54, 55, 56, 57, 58, 59, 60, 61, 62, 63, 64, 65, 66, 67, 68, 69, 70, 71, 72, 73, 74, 75, 76, 77, 78, 79, 80, 81, 82, 83, 84, 85, 86, 87, 88, 89, 90, 91, 92, 93, 94, 95, 96, 97, 98, 99, 100, 101, 102, 103, 104] dt dt126 := Fr_tr hF7 hF128 (by decide)
    have w130 : dt126 1 0 = dt 1 0 := (hF128 1 (by decide) 0).trans w9
    have w131 : dt126 7 3 = dt 7 3 := (hF128 7 (by decide) 3).trans w10
    have w132 : dt126 10 3 = dt 10 3 := (hF128 10 (by decide) 3).trans w11
    have w133 : dt126 12 3 = dt 12 3 := (hF128 12 (by decide) 3).trans w12
    have w134 : dt126 14 3 = dt 14 3 := (hF128 14 (by decide) 3).trans w13
    have w135 : dt126 16 3 = dt4 16 3 := hF128 16 (by decide) 3
    have w136 : dt126 18 0 = dt 18 0 := (hF128 18 (by decide) 0).trans w14
    have w137 : dt126 24 3 = dt 24 3 := (hF128 24 (by decide) 3).trans w15
    have w138 : dt126 27 3 = dt 27 3 := (hF128 27 (by decide) 3).trans w16
    have w139 : dt126 29 3 = dt 29 3 := (hF128 29 (by decide) 3).trans w17
    have w140 : dt126 31 3 = dt 31 3 := (hF128 31 (by decide) 3).trans w18
    have w141 : dt126 33 3 = dt 33 3 := (hF128 33 (by decide) 3).trans w19
    have w142 : dt126 0 2 = dt 0 2 := (hF128 0 (by decide) 2).trans w20
    have w143 : dt126 35 1 = dt 35 1 := (hF128 35 (by decide) 1).trans w21
    have w144 : dt126 35 2 = dt 35 2 := (hF128 35 (by decide) 2).trans w22
    have w145 : dt126 35 3 = dt 35 3 := (hF128 35 (by decide) 3).trans w23
    have w146 : dt126 81 0 = dt 81 0 := (hF128 81 (by decide) 0).trans w30
    have w147 : dt126 81 1 = dt 81 1 := (hF128 81 (by decide) 1).trans w31
    have w148 : dt126 81 2 = dt 81 2 := (hF128 81 (by decide) 2).trans w32
    have w149 : dt126 81 3 = dt 81 3 := (hF128 81 (by decide) 3).trans w33
    have w150 : dt126 81 4 = dt 81 4 := (hF128 81 (by decide) 4).trans w34
    have w151 : dt126 81 5 = dt 81 5 := (hF128 81 (by decide) 5).trans w35
    have w152 : dt126 79 2 = dt 79 2 := (hF128 79 (by decide) 2).trans w36
    have w153 : dt126 79 12 = dt 79 12 := (hF128 79 (by decide) 12).trans w37
    have w154 : dt126 79 19 = dt 79 19 := (hF128 79 (by decide) 19).trans w38
    have w155 : dt126 79 21 = dt 79 21 := (hF128 79 (by decide) 21).trans w39
    rcases h125 with ⟨rfl, h125⟩ | ⟨v_h125, rfl, h125r, h125⟩
    · skip
      have hM156 : MW (dt126 80) := h125.2.1
      obtain ⟨h125_0, h125_1, h125_2, h125_3, h125_4, h125_5, h125_6, h125_7, h125_8⟩ := h125
      replace h125_0 := hid h125_0
      have w157 : dt126 80 0 = dt 80 0 := h125_2.trans w24
      have w158 : dt126 80 1 = dt 80 1 := h125_3.trans w25
      have w159 : dt126 80 2 = dt 80 2 := h125_4.trans w26
      have w160 : dt126 80 3 = dt 80 3 := h125_5.trans w27
      have w161 : dt126 80 4 = dt 80 4 := h125_6.trans w28
      have w162 : dt126 80 5 = dt 80 5 := h125_7.trans w29
      have M2163 : MW (dt126 81) := MW_frk M2114 hF128 (by decide)
      have C164 : ∀ j : Nat, dt126 2 j = dt 2 j := fun j => (hF128 2 (by decide) j).trans (C115 j)
      have C165 : ∀ j : Nat, dt126 3 j = dt 3 j := fun j => (hF128 3 (by decide) j).trans (C116 j)
      have C166 : ∀ j : Nat, dt126 19 j = dt 19 j := fun j => (hF128 19 (by decide) j).trans (C117 j)
      have C167 : ∀ j : Nat, dt126 20 j = dt 20 j := fun j => (hF128 20 (by decide) j).trans (C118 j)
      have C168 : ∀ j : Nat, dt126 36 j = dt 36 j := fun j => (hF128 36 (by decide) j).trans (C119 j)
      have C169 : ∀ j : Nat, dt126 80 j = dt 80 j := fun j => (h125_8 j).trans (C120 j)
      have C170 : ∀ j : Nat, dt126 81 j = dt 81 j := fun j => (hF128 81 (by decide) j).trans (C121 j)
      have C171 : ∀ j : Nat, dt126 85 j = dt 85 j := fun j => (hF128 85 (by decide) j).trans (C122 j)
      refine go_toq PM267 (k := 2) (pc' := 1435) (L' := [some (.inr (.inr (some 3000))), some (.inr (.inr (some 0))), some (.inr (.inr (some 79))), some (.inl i)]) (st' := []) (w' := (SH, dt126)) rfl ?_
      exact K dt126 hI127 hM156 M2163 (w130.trans (hk0.trans w157.symm)) (w131.trans (hk1.trans w158.symm)) (w132.trans (hk2.trans w159.symm)) (w133.trans (hk3.trans w160.symm)) (w134.trans (hk4.trans w161.symm)) (by (first | omega | (have z0_ := unhid h125_0; omega))) (w136.trans (hk6.trans w146.symm)) (w137.trans (hk7.trans w147.symm)) (w138.trans (hk8.trans w148.symm)) (w139.trans (hk9.trans w149.symm)) (w140.trans (hk10.trans w150.symm)) (w141.trans (hk11.trans w151.symm)) (w142.trans (hk12.trans w152.symm)) (w143.trans (hk13.trans w153.symm)) (w144.trans (hk14.trans w154.symm)) (w145.trans (hk15.trans w155.symm)) (by first | exact hI | exact TPL_k hd0 C168 C171 (by (first | omega | (have z0_ := unhid h125_0; omega))) | (exfalso; (first | omega | (have z0_ := unhid h125_0; omega)))) (by first | exact hI | exact SCL_k hd1 hM (fun j _ => C164 j) (fun j _ => C165 j) (fun j _ _ => C169 j) | (exfalso; (first | omega | (have z0_ := unhid h125_0; omega)))) (by first | exact hI | exact SCL_k hd2 hM2 (fun j _ => C166 j) (fun j _ => C167 j) (fun j _ _ => C170 j) | (exfalso; (first | omega | (have z0_ := unhid h125_0; omega))))
    · skip
      have hM172 : MW (dt126 80) := h125.2.2.1
      obtain ⟨h125_0, h125_1, h125_2, h125_3, h125_4, h125_5, h125_6, h125_7, h125_8, h125_9, h125_10, h125_11⟩ := h125
      have w173 : dt126 80 0 = dt 80 0 := h125_4.trans w24
      have w174 : dt126 80 1 = dt 80 1 := h125_5.trans w25
      have w175 : dt126 80 2 = dt 80 2 := h125_6.trans w26
      have w176 : dt126 80 3 = dt 80 3 := h125_7.trans w27
      have w177 : dt126 80 4 = dt 80 4 := h125_8.trans w28
      have M2178 : MW (dt126 81) := MW_frk M2114 hF128 (by decide)
      have C179 : ∀ j : Nat, dt126 2 j = dt 2 j := fun j => (hF128 2 (by decide) j).trans (C115 j)
      have C180 : ∀ j : Nat, dt126 3 j = dt 3 j := fun j => (hF128 3 (by decide) j).trans (C116 j)
      have C181 : ∀ j : Nat, dt126 19 j = dt 19 j := fun j => (hF128 19 (by decide) j).trans (C117 j)
      have C182 : ∀ j : Nat, dt126 20 j = dt 20 j := fun j => (hF128 20 (by decide) j).trans (C118 j)
      have C183 : ∀ j : Nat, dt126 36 j = dt 36 j := fun j => (hF128 36 (by decide) j).trans (C119 j)
      have C184 : ∀ j : Nat, dt126 81 j = dt 81 j := fun j => (hF128 81 (by decide) j).trans (C121 j)
      have C185 : ∀ j : Nat, dt126 85 j = dt 85 j := fun j => (hF128 85 (by decide) j).trans (C122 j)
      have F186 : ∀ j : Nat, 6 ≤ j → j < 974 → dt126 80 j = dt 80 j := fun j h1_ h2_ => (h125_9 j (by omega) (by omega)).trans (C120 j)
      refine go_toq PM267 (k := 2) (pc' := 1435) (L' := [some (.inr (.inr (some 3000))), some (.inr (.inr (some 0))), some (.inr (.inr (some 79))), some (.inl i)]) (st' := []) (w' := (SH, dt126)) rfl ?_
      exact K dt126 hI127 hM172 M2178 (w130.trans (hk0.trans w173.symm)) (w131.trans (hk1.trans w174.symm)) (w132.trans (hk2.trans w175.symm)) (w133.trans (hk3.trans w176.symm)) (w134.trans (hk4.trans w177.symm)) (by omega) (w136.trans (hk6.trans w146.symm)) (w137.trans (hk7.trans w147.symm)) (w138.trans (hk8.trans w148.symm)) (w139.trans (hk9.trans w149.symm)) (w140.trans (hk10.trans w150.symm)) (w141.trans (hk11.trans w151.symm)) (w142.trans (hk12.trans w152.symm)) (w143.trans (hk13.trans w153.symm)) (w144.trans (hk14.trans w154.symm)) (w145.trans (hk15.trans w155.symm)) (by first | exact hI | exact TPL_k hd0 C183 C185 (by omega) | (exfalso; omega)) (by first | exact hI | exact SCL_k hd1 hM (fun j _ => C179 j) (fun j _ => C180 j) F186 | (exfalso; omega)) (by first | exact hI | exact SCL_k hd2 hM2 (fun j _ => C181 j) (fun j _ => C182 j) (fun j _ _ => C184 j) | (exfalso; omega))
set_option maxRecDepth 20000 in
set_option maxHeartbeats 8000000 in
theorem sp_case26 (L : Nat) (xs : Nat → Int32) (sio : Option Nat) (d : Nat) (Q : Option AV → am_W → Prop) (hLL : L ≤ 3072) (i : Int) (hi : 0 ≤ i ∧ i ≤ 3066) (hil : i ≤ (L : Int) - 6) (dt : Nat → Nat → Int) (hI : InvC dt) (hM : MW (dt 80)) (hM2 : MW (dt 81)) (hk0 : dt 1 0 = dt 80 0) (hk1 : dt 7 3 = dt 80 1) (hk2 : dt 10 3 = dt 80 2) (hk3 : dt 12 3 = dt 80 3) (hk4 : dt 14 3 = dt 80 4) (hk5 : dt 16 3 = dt 80 5) (hk6 : dt 18 0 = dt 81 0) (hk7 : dt 24 3 = dt 81 1) (hk8 : dt 27 3 = dt 81 2) (hk9 : dt 29 3 = dt 81 3) (hk10 : dt 31 3 = dt 81 4) (hk11 : dt 33 3 = dt 81 5) (hk12 : dt 0 2 = dt 79 2) (hk13 : dt 35 1 = dt 79 12) (hk14 : dt 35 2 = dt 79 19) (hk15 : dt 35 3 = dt 79 21) (hd0 : TPL (dt 36) (dt 85) (dt 35 1)) (hd1 : SCL (dt 2) (dt 3) (dt 80)) (hd2 : SCL (dt 19) (dt 20) (dt 81)) (K : ∀ (dt : Nat → Nat → Int) (hI : InvC dt) (hM : MW (dt 80)) (hM2 : MW (dt 81)) (hk0 : dt 1 0 = dt 80 0) (hk1 : dt 7 3 = dt 80 1) (hk2 : dt 10 3 = dt 80 2) (hk3 : dt 12 3 = dt 80 3) (hk4 : dt 14 3 = dt 80 4) (hk5 : dt 16 3 = dt 80 5) (hk6 : dt 18 0 = dt 81 0) (hk7 : dt 24 3 = dt 81 1) (hk8 : dt 27 3 = dt 81 2) (hk9 : dt 29 3 = dt 81 3) (hk10 : dt 31 3 = dt 81 4) (hk11 : dt 33 3 = dt 81 5) (hk12 : dt 0 2 = dt 79 2) (hk13 : dt 35 1 = dt 79 12) (hk14 : dt 35 2 = dt 79 19) (hk15 : dt 35 3 = dt 79 21) (hd0 : TPL (dt 36) (dt 85) (dt 35 1)) (hd1 : SCL (dt 2) (dt 3) (dt 80)) (hd2 : SCL (dt 19) (dt 20) (dt 81)), GO (am_XX L xs sio) (d + 39) 267 1435 [some (.inr (.inr (some 3000))), some (.inr (.inr (some 0))), some (.inr (.inr (some 79))), some (.inl i)] [] (SH, dt) Q) : GO (am_XX L xs sio) (d + 39) 267 1198 [some (.inr (.inr (some 3000))), some (.inr (.inr (some 0))), some (.inr (.inr (some 79))), some (.inl i)] [] (SH, dt) Q := by
  have hF : Fr [0, 1, 2, 3, 4, 5, 6, 7, 8, 9, 10, 11, 12, 13, 14, 15, 16, 17, 18, 19, 20, 21, 22, 23, 24, 25, 26, 27, 28, 29, 30, 31, 32, 33, 34, 35, 36, 37, 38, 39, 40, 41, 42, 43, 44, 45, 46, 47, 48, 49, 50, 51, 52, 53, 54, 55, 56, 57, 58, 59, 60, 61, 62, 63, 64, 65, 66, 67, 68, 69, 70, 71, 72, 73, 74, 75, 76, 77, 78, 79, 80, 81, 82, 83, 84, 85, 86, 87, 88, 89, 90, 91, 92, 93, 94, 95, 96, 97, 98, 99, 100, 101, 102, 103, 104] dt dt := Fr_refl
  refine go_toq PM267 (k := 5) (pc' := 1203) (L' := [some (.inr (.inr (some 3000))), some (.inr (.inr (some 0))), some (.inr (.inr (some 79))), some (.inl i)]) (st' := [.inl (i + 1), .inr (.inr (some 3000)), .inr (.inr (some 0))]) (w' := (SH, dt)) rfl ?_
  have r1 := i32_R (xs ((i + 1).toNat))
  refine go_smpq PM267 (L' := [some (.inr (.inr (some 3000))), some (.inr (.inr (some 0))), some (.inr (.inr (some 79))), some (.inl i)]) (st' := [.inl ((xs ((i + 1).toNat)).toInt), .inr (.inr (some 0))]) (w' := (SH, dt)) rfl rfl (s_iald (n := L) (f := fun j => (xs j).toInt) (am_scr hLL) ⟨by omega, by omega⟩) ?_
  refine go_callq PM267 PM93 (Q' := _) rfl rfl rfl rfl (sp_X5_houses L xs sio (d + 34) dt hI  ((xs ((i + 1).toNat)).toInt) ⟨by omega, by omega⟩ ) ?_
  rintro _ _ ⟨rfl, h2⟩
  refine ⟨rfl, ?_⟩
  rcases h2 with ⟨v_h2, rfl, h2r, h2⟩
  refine go_toq PM267 (k := 6) (pc' := 1213) (L' := [some (.inr (.inr (some 3000))), some (.inr (.inr (some 0))), some (.inr (.inr (some 79))), some (.inl i)]) (st' := [.inl (i + 1), .inr (.inr (some 3000)), .inr (.inr (some 79))]) (w' := (SH, dt)) rfl ?_
  refine go_smpq PM267 (L' := [some (.inr (.inr (some 3000))), some (.inr (.inr (some 0))), some (.inr (.inr (some 79))), some (.inl i)]) (st' := [.inl ((xs ((i + 1).toNat)).toInt), .inr (.inr (some 79))]) (w' := (SH, dt)) rfl rfl (s_iald (n := L) (f := fun j => (xs j).toInt) (am_scr hLL) ⟨by omega, by omega⟩) ?_
  refine go_callq PM267 PM239 (Q' := _) rfl rfl rfl rfl (sp_X6_houses L xs sio (d + 37) dt hI hM  ((xs ((i + 1).toNat)).toInt) ⟨by omega, by omega⟩ ) ?_
  rintro _ _ ⟨rfl, h3⟩
  refine ⟨rfl, ?_⟩
  rcases h3 with ⟨v_h3, rfl, h3r, h3⟩
  refine go_toq PM267 (k := 2) (pc' := 1435) (L' := [some (.inr (.inr (some 3000))), some (.inr (.inr (some 0))), some (.inr (.inr (some 79))), some (.inl i)]) (st' := []) (w' := (SH, dt)) rfl ?_
  exact K dt hI hM hM2 hk0 hk1 hk2 hk3 hk4 hk5 hk6 hk7 hk8 hk9 hk10 hk11 hk12 hk13 hk14 hk15 (by first | exact hI | exact TPL_k hd0 (fun _ => rfl) (fun _ => rfl) (by omega) | (exfalso; omega)) (by first | exact hI | exact SCL_k hd1 hM (fun j _ => (fun _ => rfl) j) (fun j _ => (fun _ => rfl) j) (fun j _ _ => (fun _ => rfl) j) | (exfalso; omega)) (by first | exact hI | exact SCL_k hd2 hM2 (fun j _ => (fun _ => rfl) j) (fun j _ => (fun _ => rfl) j) (fun j _ _ => (fun _ => rfl) j) | (exfalso; omega))
set_option maxRecDepth 20000 in
set_option maxHeartbeats 8000000 in
theorem sp_case27 (L : Nat) (xs : Nat → Int32) (sio : Option Nat) (d : Nat) (Q : Option AV → am_W → Prop) (hLL : L ≤ 3072) (i : Int) (hi : 0 ≤ i ∧ i ≤ 3066) (hil : i ≤ (L : Int) - 6) (dt : Nat → Nat → Int) (hI : InvC dt) (hM : MW (dt 80)) (hM2 : MW (dt 81)) (hk0 : dt 1 0 = dt 80 0) (hk1 : dt 7 3 = dt 80 1) (hk2 : dt 10 3 = dt 80 2) (hk3 : dt 12 3 = dt 80 3) (hk4 : dt 14 3 = dt 80 4) (hk5 : dt 16 3 = dt 80 5) (hk6 : dt 18 0 = dt 81 0) (hk7 : dt 24 3 = dt 81 1) (hk8 : dt 27 3 = dt 81 2) (hk9 : dt 29 3 = dt 81 3) (hk10 : dt 31 3 = dt 81 4) (hk11 : dt 33 3 = dt 81 5) (hk12 : dt 0 2 = dt 79 2) (hk13 : dt 35 1 = dt 79 12) (hk14 : dt 35 2 = dt 79 19) (hk15 : dt 35 3 = dt 79 21) (hd0 : TPL (dt 36) (dt 85) (dt 35 1)) (hd1 : SCL (dt 2) (dt 3) (dt 80)) (hd2 : SCL (dt 19) (dt 20) (dt 81)) (K : ∀ (dt : Nat → Nat → Int) (hI : InvC dt) (hM : MW (dt 80)) (hM2 : MW (dt 81)) (hk0 : dt 1 0 = dt 80 0) (hk1 : dt 7 3 = dt 80 1) (hk2 : dt 10 3 = dt 80 2) (hk3 : dt 12 3 = dt 80 3) (hk4 : dt 14 3 = dt 80 4) (hk5 : dt 16 3 = dt 80 5) (hk6 : dt 18 0 = dt 81 0) (hk7 : dt 24 3 = dt 81 1) (hk8 : dt 27 3 = dt 81 2) (hk9 : dt 29 3 = dt 81 3) (hk10 : dt 31 3 = dt 81 4) (hk11 : dt 33 3 = dt 81 5) (hk12 : dt 0 2 = dt 79 2) (hk13 : dt 35 1 = dt 79 12) (hk14 : dt 35 2 = dt 79 19) (hk15 : dt 35 3 = dt 79 21) (hd0 : TPL (dt 36) (dt 85) (dt 35 1)) (hd1 : SCL (dt 2) (dt 3) (dt 80)) (hd2 : SCL (dt 19) (dt 20) (dt 81)), GO (am_XX L xs sio) (d + 39) 267 1435 [some (.inr (.inr (some 3000))), some (.inr (.inr (some 0))), some (.inr (.inr (some 79))), some (.inl i)] [] (SH, dt) Q) : GO (am_XX L xs sio) (d + 39) 267 1221 [some (.inr (.inr (some 3000))), some (.inr (.inr (some 0))), some (.inr (.inr (some 79))), some (.inl i)] [] (SH, dt) Q := by
  have hF : Fr [0, 1, 2, 3, 4, 5, 6, 7, 8, 9, 10, 11, 12, 13, 14, 15, 16, 17, 18, 19, 20, 21, 22, 23, 24, 25, 26, 27, 28, 29, 30, 31, 32, 33, 34, 35, 36, 37, 38, 39, 40, 41, 42, 43, 44, 45, 46, 47, 48, 49, 50, 51, 52, 53, 54, 55, 56, 57, 58, 59, 60, 61, 62, 63, 64, 65, 66, 67, 68, 69, 70, 71, 72, 73, 74, 75, 76, 77, 78, 79, 80, 81, 82, 83, 84, 85, 86, 87, 88, 89, 90, 91, 92, 93, 94, 95, 96, 97, 98, 99, 100, 101, 102, 103, 104] dt dt := Fr_refl
  refine go_toq PM267 (k := 5) (pc' := 1226) (L' := [some (.inr (.inr (some 3000))), some (.inr (.inr (some 0))), some (.inr (.inr (some 79))), some (.inl i)]) (st' := [.inl (i + 1), .inr (.inr (some 3000)), .inr (.inr (some 0))]) (w' := (SH, dt)) rfl ?_
  have r1 := i32_R (xs ((i + 1).toNat))
  refine go_smpq PM267 (L' := [some (.inr (.inr (some 3000))), some (.inr (.inr (some 0))), some (.inr (.inr (some 79))), some (.inl i)]) (st' := [.inl ((xs ((i + 1).toNat)).toInt), .inr (.inr (some 0))]) (w' := (SH, dt)) rfl rfl (s_iald (n := L) (f := fun j => (xs j).toInt) (am_scr hLL) ⟨by omega, by omega⟩) ?_
  refine go_toq PM267 (k := 4) (pc' := 1231) (L' := [some (.inr (.inr (some 3000))), some (.inr (.inr (some 0))), some (.inr (.inr (some 79))), some (.inl i)]) (st' := [.inl (i + 2), .inr (.inr (some 3000)), .inl ((xs ((i + 1).toNat)).toInt), .inr (.inr (some 0))]) (w' := (SH, dt)) rfl ?_
  have r2 := i32_R (xs ((i + 2).toNat))
  refine go_smpq PM267 (L' := [some (.inr (.inr (some 3000))), some (.inr (.inr (some 0))), some (.inr (.inr (some 79))), some (.inl i)]) (st' := [.inl ((xs ((i + 2).toNat)).toInt), .inl ((xs ((i + 1).toNat)).toInt), .inr (.inr (some 0))]) (w' := (SH, dt)) rfl rfl (s_iald (n := L) (f := fun j => (xs j).toInt) (am_scr hLL) ⟨by omega, by omega⟩) ?_
  refine go_callq PM267 PM94 (Q' := _) rfl rfl rfl rfl (sp_X5_sorts L xs sio (d + 33) dt hI  ((xs ((i + 1).toNat)).toInt) ⟨by omega, by omega⟩ ((xs ((i + 2).toNat)).toInt) ⟨by omega, by omega⟩ ) ?_
  rintro _ _ ⟨dt4, rfl, hI5, hF6, h3⟩
  refine ⟨rfl, ?_⟩
  have hF7 : Fr [0, 1, 2, 3, 4, 5, 6, 7, 8, 9, 10, 11, 12, 13, 14, 15, 16, 17, 18, 19, 20, 21, 22, 23, 24, 25, 26, 27, 28, 29, 30, 31, 32, 33, 34, 35, 36, 37, 38, 39, 40, 41, 42, 43, 44, 45, 46, 47, 48, 49, 50, 51, 52, 53, 54, 55, 56, 57, 58, 59, 60, 61, 62, 63, 64, 65, 66, 67, 68, 69, 70, 71, 72, 73, 74, 75, 76, 77, 78, 79, 80, 81, 82, 83, 84, 85, 86, 87, 88, 89, 90, 91, 92, 93, 94, 95, 96, 97, 98, 99, 100, 101, 102, 103, 104] dt dt4 := Fr_tr hF hF6 (by decide)
  have hM8 : MW (dt4 80) := MW_fr hM hF6 (by decide)
  have w9 : dt4 1 0 = dt 1 0 := hF6 1 (by decide) 0
  have w10 : dt4 7 3 = dt 7 3 := hF6 7 (by decide) 3
  have w11 : dt4 10 3 = dt 10 3 := hF6 10 (by decide) 3
  have w12 : dt4 12 3 = dt 12 3 := hF6 12 (by decide) 3
  have w13 : dt4 14 3 = dt 14 3 := hF6 14 (by decide) 3
  have w14 : dt4 16 3 = dt 16 3 := hF6 16 (by decide) 3
  have w15 : dt4 18 0 = dt 18 0 := hF6 18 (by decide) 0
  have w16 : dt4 24 3 = dt 24 3 := hF6 24 (by decide) 3
  have w17 : dt4 27 3 = dt 27 3 := hF6 27 (by decide) 3
  have w18 : dt4 29 3 = dt 29 3 := hF6 29 (by decide) 3
  have w19 : dt4 31 3 = dt 31 3 := hF6 31 (by decide) 3
  have w20 : dt4 33 3 = dt 33 3 := hF6 33 (by decide) 3
  have w21 : dt4 0 2 = dt 0 2 := hF6 0 (by decide) 2
  have w22 : dt4 35 1 = dt 35 1 := hF6 35 (by decide) 1
  have w23 : dt4 35 2 = dt 35 2 := hF6 35 (by decide) 2
  have w24 : dt4 35 3 = dt 35 3 := hF6 35 (by decide) 3
  have w25 : dt4 80 0 = dt 80 0 := hF6 80 (by decide) 0
  have w26 : dt4 80 1 = dt 80 1 := hF6 80 (by decide) 1
  have w27 : dt4 80 2 = dt 80 2 := hF6 80 (by decide) 2
  have w28 : dt4 80 3 = dt 80 3 := hF6 80 (by decide) 3
  have w29 : dt4 80 4 = dt 80 4 := hF6 80 (by decide) 4
  have w30 : dt4 80 5 = dt 80 5 := hF6 80 (by decide) 5
  have w31 : dt4 81 0 = dt 81 0 := hF6 81 (by decide) 0
  have w32 : dt4 81 1 = dt 81 1 := hF6 81 (by decide) 1
  have w33 : dt4 81 2 = dt 81 2 := hF6 81 (by decide) 2
  have w34 : dt4 81 3 = dt 81 3 := hF6 81 (by decide) 3
  have w35 : dt4 81 4 = dt 81 4 := hF6 81 (by decide) 4
  have w36 : dt4 81 5 = dt 81 5 := hF6 81 (by decide) 5
  have w37 : dt4 79 2 = dt 79 2 := hF6 79 (by decide) 2
  have w38 : dt4 79 12 = dt 79 12 := hF6 79 (by decide) 12
  have w39 : dt4 79 19 = dt 79 19 := hF6 79 (by decide) 19
  have w40 : dt4 79 21 = dt 79 21 := hF6 79 (by decide) 21
  rcases h3 with ⟨v_h3, rfl, h3r, h3⟩
  have M241 : MW (dt4 81) := MW_frk hM2 hF6 (by decide)
  have C42 : ∀ j : Nat, dt4 2 j = dt 2 j := fun j => (hF6 2 (by decide) j).trans ((fun _ => rfl) j)
  have C43 : ∀ j : Nat, dt4 3 j = dt 3 j := fun j => (hF6 3 (by decide) j).trans ((fun _ => rfl) j)
  have C44 : ∀ j : Nat, dt4 19 j = dt 19 j := fun j => (hF6 19 (by decide) j).trans ((fun _ => rfl) j)
  have C45 : ∀ j : Nat, dt4 20 j = dt 20 j := fun j => (hF6 20 (by decide) j).trans ((fun _ => rfl) j)
  have C46 : ∀ j : Nat, dt4 36 j = dt 36 j := fun j => (hF6 36 (by decide) j).trans ((fun _ => rfl) j)
  have C47 : ∀ j : Nat, dt4 80 j = dt 80 j := fun j => (hF6 80 (by decide) j).trans ((fun _ => rfl) j)
  have C48 : ∀ j : Nat, dt4 81 j = dt 81 j := fun j => (hF6 81 (by decide) j).trans ((fun _ => rfl) j)
  have C49 : ∀ j : Nat, dt4 85 j = dt 85 j := fun j => (hF6 85 (by decide) j).trans ((fun _ => rfl) j)
  refine go_toq PM267 (k := 6) (pc' := 1241) (L' := [some (.inr (.inr (some 3000))), some (.inr (.inr (some 0))), some (.inr (.inr (some 79))), some (.inl i)]) (st' := [.inl (i + 1), .inr (.inr (some 3000)), .inr (.inr (some 79))]) (w' := (SH, dt4)) rfl ?_
  have r50 := i32_R (xs ((i + 1).toNat))
  refine go_smpq PM267 (L' := [some (.inr (.inr (some 3000))), some (.inr (.inr (some 0))), some (.inr (.inr (some 79))), some (.inl i)]) (st' := [.inl ((xs ((i + 1).toNat)).toInt), .inr (.inr (some 79))]) (w' := (SH, dt4)) rfl rfl (s_iald (n := L) (f := fun j => (xs j).toInt) (am_scr hLL) ⟨by omega, by omega⟩) ?_
  refine go_toq PM267 (k := 4) (pc' := 1246) (L' := [some (.inr (.inr (some 3000))), some (.inr (.inr (some 0))), some (.inr (.inr (some 79))), some (.inl i)]) (st' := [.inl (i + 2), .inr (.inr (some 3000)), .inl ((xs ((i + 1).toNat)).toInt), .inr (.inr (some 79))]) (w' := (SH, dt4)) rfl ?_
  have r51 := i32_R (xs ((i + 2).toNat))
  refine go_smpq PM267 (L' := [some (.inr (.inr (some 3000))), some (.inr (.inr (some 0))), some (.inr (.inr (some 79))), some (.inl i)]) (st' := [.inl ((xs ((i + 2).toNat)).toInt), .inl ((xs ((i + 1).toNat)).toInt), .inr (.inr (some 79))]) (w' := (SH, dt4)) rfl rfl (s_iald (n := L) (f := fun j => (xs j).toInt) (am_scr hLL) ⟨by omega, by omega⟩) ?_
  refine go_callq PM267 PM240 (Q' := _) rfl rfl rfl rfl (sp_X6_sorts L xs sio (d + 31) dt4 hI5 hM8  ((xs ((i + 1).toNat)).toInt) ⟨by omega, by omega⟩ ((xs ((i + 2).toNat)).toInt) ⟨by omega, by omega⟩ ) ?_
  rintro _ _ ⟨dt53, rfl, hI54, hF55, h52⟩
  refine ⟨rfl, ?_⟩
  have hF56 : Fr [0, 1, 2, 3, 4, 5, 6, 7, 8, 9, 10, 11, 12, 13, 14, 15, 16, 17, 18, 19, 20, 21, 22, 23, 24, 25, 26, 27, 28, 29, 30, 31, 32, 33, 34, 35, 36, 37, 38, 39, 40, 41, 42, 43, 44, 45, 46, 47, 48, 49, 50, 51, 52, 53, 54, 55, 56, 57, 58, 59, 60, 61, 62, 63, 64, 65, 66, 67, 68, 69, 70, 71, 72, 73, 74, 75, 76, 77, 78, 79, 80, 81, 82, 83, 84, 85, 86, 87, 88, 89, 90, 91, 92, 93, 94, 95, 96, 97, 98, 99, 100, 101, 102, 103, 104] dt dt53 := Fr_tr hF7 hF55 (by decide)
  have hM57 : MW (dt53 80) := MW_fr hM8 hF55 (by decide)
  have w58 : dt53 1 0 = dt 1 0 := (hF55 1 (by decide) 0).trans w9
  have w59 : dt53 7 3 = dt 7 3 := (hF55 7 (by decide) 3).trans w10
  have w60 : dt53 10 3 = dt 10 3 := (hF55 10 (by decide) 3).trans w11
  have w61 : dt53 12 3 = dt 12 3 := (hF55 12 (by decide) 3).trans w12
  have w62 : dt53 14 3 = dt 14 3 := (hF55 14 (by decide) 3).trans w13
  have w63 : dt53 16 3 = dt 16 3 := (hF55 16 (by decide) 3).trans w14
  have w64 : dt53 18 0 = dt 18 0 := (hF55 18 (by decide) 0).trans w15
  have w65 : dt53 24 3 = dt 24 3 := (hF55 24 (by decide) 3).trans w16
  have w66 : dt53 27 3 = dt 27 3 := (hF55 27 (by decide) 3).trans w17
  have w67 : dt53 29 3 = dt 29 3 := (hF55 29 (by decide) 3).trans w18
  have w68 : dt53 31 3 = dt 31 3 := (hF55 31 (by decide) 3).trans w19
  have w69 : dt53 33 3 = dt 33 3 := (hF55 33 (by decide) 3).trans w20
  have w70 : dt53 0 2 = dt 0 2 := (hF55 0 (by decide) 2).trans w21
  have w71 : dt53 35 1 = dt 35 1 := (hF55 35 (by decide) 1).trans w22
  have w72 : dt53 35 2 = dt 35 2 := (hF55 35 (by decide) 2).trans w23
  have w73 : dt53 35 3 = dt 35 3 := (hF55 35 (by decide) 3).trans w24
  have w74 : dt53 80 0 = dt 80 0 := (hF55 80 (by decide) 0).trans w25
  have w75 : dt53 80 1 = dt 80 1 := (hF55 80 (by decide) 1).trans w26
  have w76 : dt53 80 2 = dt 80 2 := (hF55 80 (by decide) 2).trans w27
  have w77 : dt53 80 3 = dt 80 3 := (hF55 80 (by decide) 3).trans w28
  have w78 : dt53 80 4 = dt 80 4 := (hF55 80 (by decide) 4).trans w29
  have w79 : dt53 80 5 = dt 80 5 := (hF55 80 (by decide) 5).trans w30
  have w80 : dt53 81 0 = dt 81 0 := (hF55 81 (by decide) 0).trans w31
  have w81 : dt53 81 1 = dt 81 1 := (hF55 81 (by decide) 1).trans w32
  have w82 : dt53 81 2 = dt 81 2 := (hF55 81 (by decide) 2).trans w33
  have w83 : dt53 81 3 = dt 81 3 := (hF55 81 (by decide) 3).trans w34
  have w84 : dt53 81 4 = dt 81 4 := (hF55 81 (by decide) 4).trans w35
  have w85 : dt53 81 5 = dt 81 5 := (hF55 81 (by decide) 5).trans w36
  have w86 : dt53 79 2 = dt 79 2 := (hF55 79 (by decide) 2).trans w37
  have w87 : dt53 79 12 = dt 79 12 := (hF55 79 (by decide) 12).trans w38
  have w88 : dt53 79 19 = dt 79 19 := (hF55 79 (by decide) 19).trans w39
  have w89 : dt53 79 21 = dt 79 21 := (hF55 79 (by decide) 21).trans w40
  rcases h52 with ⟨v_h52, rfl, h52r, h52⟩
  have M290 : MW (dt53 81) := MW_frk M241 hF55 (by decide)
  have C91 : ∀ j : Nat, dt53 2 j = dt 2 j := fun j => (hF55 2 (by decide) j).trans (C42 j)
  have C92 : ∀ j : Nat, dt53 3 j = dt 3 j := fun j => (hF55 3 (by decide) j).trans (C43 j)
  have C93 : ∀ j : Nat, dt53 19 j = dt 19 j := fun j => (hF55 19 (by decide) j).trans (C44 j)
  have C94 : ∀ j : Nat, dt53 20 j = dt 20 j := fun j => (hF55 20 (by decide) j).trans (C45 j)
  have C95 : ∀ j : Nat, dt53 36 j = dt 36 j := fun j => (hF55 36 (by decide) j).trans (C46 j)
  have C96 : ∀ j : Nat, dt53 80 j = dt 80 j := fun j => (hF55 80 (by decide) j).trans (C47 j)
  have C97 : ∀ j : Nat, dt53 81 j = dt 81 j := fun j => (hF55 81 (by decide) j).trans (C48 j)
  have C98 : ∀ j : Nat, dt53 85 j = dt 85 j := fun j => (hF55 85 (by decide) j).trans (C49 j)
  refine go_toq PM267 (k := 2) (pc' := 1435) (L' := [some (.inr (.inr (some 3000))), some (.inr (.inr (some 0))), some (.inr (.inr (some 79))), some (.inl i)]) (st' := []) (w' := (SH, dt53)) rfl ?_
  exact K dt53 hI54 hM57 M290 (w58.trans (hk0.trans w74.symm)) (w59.trans (hk1.trans w75.symm)) (w60.trans (hk2.trans w76.symm)) (w61.trans (hk3.trans w77.symm)) (w62.trans (hk4.trans w78.symm)) (w63.trans (hk5.trans w79.symm)) (w64.trans (hk6.trans w80.symm)) (w65.trans (hk7.trans w81.symm)) (w66.trans (hk8.trans w82.symm)) (w67.trans (hk9.trans w83.symm)) (w68.trans (hk10.trans w84.symm)) (w69.trans (hk11.trans w85.symm)) (w70.trans (hk12.trans w86.symm)) (w71.trans (hk13.trans w87.symm)) (w72.trans (hk14.trans w88.symm)) (w73.trans (hk15.trans w89.symm)) (by first | exact hI | exact TPL_k hd0 C95 C98 (by omega) | (exfalso; omega)) (by first | exact hI | exact SCL_k hd1 hM (fun j _ => C91 j) (fun j _ => C92 j) (fun j _ _ => C96 j) | (exfalso; omega)) (by first | exact hI | exact SCL_k hd2 hM2 (fun j _ => C93 j) (fun j _ => C94 j) (fun j _ _ => C97 j) | (exfalso; omega))
set_option maxRecDepth 20000 in
set_option maxHeartbeats 8000000 in
theorem sp_case28 (L : Nat) (xs : Nat → Int32) (sio : Option Nat) (d : Nat) (Q : Option AV → am_W → Prop) (hLL : L ≤ 3072) (i : Int) (hi : 0 ≤ i ∧ i ≤ 3066) (hil : i ≤ (L : Int) - 6) (dt : Nat → Nat → Int) (hI : InvC dt) (hM : MW (dt 80)) (hM2 : MW (dt 81)) (hk0 : dt 1 0 = dt 80 0) (hk1 : dt 7 3 = dt 80 1) (hk2 : dt 10 3 = dt 80 2) (hk3 : dt 12 3 = dt 80 3) (hk4 : dt 14 3 = dt 80 4) (hk5 : dt 16 3 = dt 80 5) (hk6 : dt 18 0 = dt 81 0) (hk7 : dt 24 3 = dt 81 1) (hk8 : dt 27 3 = dt 81 2) (hk9 : dt 29 3 = dt 81 3) (hk10 : dt 31 3 = dt 81 4) (hk11 : dt 33 3 = dt 81 5) (hk12 : dt 0 2 = dt 79 2) (hk13 : dt 35 1 = dt 79 12) (hk14 : dt 35 2 = dt 79 19) (hk15 : dt 35 3 = dt 79 21) (hd0 : TPL (dt 36) (dt 85) (dt 35 1)) (hd1 : SCL (dt 2) (dt 3) (dt 80)) (hd2 : SCL (dt 19) (dt 20) (dt 81)) (K : ∀ (dt : Nat → Nat → Int) (hI : InvC dt) (hM : MW (dt 80)) (hM2 : MW (dt 81)) (hk0 : dt 1 0 = dt 80 0) (hk1 : dt 7 3 = dt 80 1) (hk2 : dt 10 3 = dt 80 2) (hk3 : dt 12 3 = dt 80 3) (hk4 : dt 14 3 = dt 80 4) (hk5 : dt 16 3 = dt 80 5) (hk6 : dt 18 0 = dt 81 0) (hk7 : dt 24 3 = dt 81 1) (hk8 : dt 27 3 = dt 81 2) (hk9 : dt 29 3 = dt 81 3) (hk10 : dt 31 3 = dt 81 4) (hk11 : dt 33 3 = dt 81 5) (hk12 : dt 0 2 = dt 79 2) (hk13 : dt 35 1 = dt 79 12) (hk14 : dt 35 2 = dt 79 19) (hk15 : dt 35 3 = dt 79 21) (hd0 : TPL (dt 36) (dt 85) (dt 35 1)) (hd1 : SCL (dt 2) (dt 3) (dt 80)) (hd2 : SCL (dt 19) (dt 20) (dt 81)), GO (am_XX L xs sio) (d + 39) 267 1435 [some (.inr (.inr (some 3000))), some (.inr (.inr (some 0))), some (.inr (.inr (some 79))), some (.inl i)] [] (SH, dt) Q) : GO (am_XX L xs sio) (d + 39) 267 1254 [some (.inr (.inr (some 3000))), some (.inr (.inr (some 0))), some (.inr (.inr (some 79))), some (.inl i)] [] (SH, dt) Q := by
  have hF : Fr [0, 1, 2, 3, 4, 5, 6, 7, 8, 9, 10, 11, 12, 13, 14, 15, 16, 17, 18, 19, 20, 21, 22, 23, 24, 25, 26, 27, 28, 29, 30, 31, 32, 33, 34, 35, 36, 37, 38, 39, 40, 41, 42, 43, 44, 45, 46, 47, 48, 49, 50, 51, 52, 53, 54, 55, 56, 57, 58, 59, 60, 61, 62, 63, 64, 65, 66, 67, 68, 69, 70, 71, 72, 73, 74, 75, 76, 77, 78, 79, 80, 81, 82, 83, 84, 85, 86, 87, 88, 89, 90, 91, 92, 93, 94, 95, 96, 97, 98, 99, 100, 101, 102, 103, 104] dt dt := Fr_refl
  refine go_toq PM267 (k := 5) (pc' := 1259) (L' := [some (.inr (.inr (some 3000))), some (.inr (.inr (some 0))), some (.inr (.inr (some 79))), some (.inl i)]) (st' := [.inl (i + 1), .inr (.inr (some 3000)), .inr (.inr (some 0))]) (w' := (SH, dt)) rfl ?_
  have r1 := i32_R (xs ((i + 1).toNat))
  refine go_smpq PM267 (L' := [some (.inr (.inr (some 3000))), some (.inr (.inr (some 0))), some (.inr (.inr (some 79))), some (.inl i)]) (st' := [.inl ((xs ((i + 1).toNat)).toInt), .inr (.inr (some 0))]) (w' := (SH, dt)) rfl rfl (s_iald (n := L) (f := fun j => (xs j).toInt) (am_scr hLL) ⟨by omega, by omega⟩) ?_
  refine go_toq PM267 (k := 4) (pc' := 1264) (L' := [some (.inr (.inr (some 3000))), some (.inr (.inr (some 0))), some (.inr (.inr (some 79))), some (.inl i)]) (st' := [.inl (i + 2), .inr (.inr (some 3000)), .inl ((xs ((i + 1).toNat)).toInt), .inr (.inr (some 0))]) (w' := (SH, dt)) rfl ?_
  have r2 := i32_R (xs ((i + 2).toNat))
  refine go_smpq PM267 (L' := [some (.inr (.inr (some 3000))), some (.inr (.inr (some 0))), some (.inr (.inr (some 79))), some (.inl i)]) (st' := [.inl ((xs ((i + 2).toNat)).toInt), .inl ((xs ((i + 1).toNat)).toInt), .inr (.inr (some 0))]) (w' := (SH, dt)) rfl rfl (s_iald (n := L) (f := fun j => (xs j).toInt) (am_scr hLL) ⟨by omega, by omega⟩) ?_
  refine go_callq PM267 PM95 (Q' := _) rfl rfl rfl rfl (sp_X5_curve L xs sio (d + 33) dt hI  ((xs ((i + 1).toNat)).toInt) ⟨by omega, by omega⟩ ((xs ((i + 2).toNat)).toInt) ⟨by omega, by omega⟩ ) ?_
  rintro _ _ ⟨dt4, rfl, hI5, hF6, h3⟩
  refine ⟨rfl, ?_⟩
  have hF7 : Fr [0, 1, 2, 3, 4, 5, 6, 7, 8, 9, 10, 11, 12, 13, 14, 15, 16, 17, 18, 19, 20, 21, 22, 23, 24, 25, 26, 27, 28, 29, 30, 31, 32, 33, 34, 35, 36, 37, 38, 39, 40, 41, 42, 43, 44, 45, 46, 47, 48, 49, 50, 51, 52, 53, 54, 55, 56, 57, 58, 59, 60, 61, 62, 63, 64, 65, 66, 67, 68, 69, 70, 71, 72, 73, 74, 75, 76, 77, 78, 79, 80, 81, 82, 83, 84, 85, 86, 87, 88, 89, 90, 91, 92, 93, 94, 95, 96, 97, 98, 99, 100, 101, 102, 103, 104] dt dt4 := Fr_tr hF hF6 (by decide)
  have hM8 : MW (dt4 80) := MW_fr hM hF6 (by decide)
  have w9 : dt4 1 0 = dt 1 0 := hF6 1 (by decide) 0
  have w10 : dt4 7 3 = dt 7 3 := hF6 7 (by decide) 3
  have w11 : dt4 10 3 = dt 10 3 := hF6 10 (by decide) 3
  have w12 : dt4 12 3 = dt 12 3 := hF6 12 (by decide) 3
  have w13 : dt4 14 3 = dt 14 3 := hF6 14 (by decide) 3
  have w14 : dt4 16 3 = dt 16 3 := hF6 16 (by decide) 3
  have w15 : dt4 18 0 = dt 18 0 := hF6 18 (by decide) 0
  have w16 : dt4 24 3 = dt 24 3 := hF6 24 (by decide) 3
  have w17 : dt4 27 3 = dt 27 3 := hF6 27 (by decide) 3
  have w18 : dt4 29 3 = dt 29 3 := hF6 29 (by decide) 3
  have w19 : dt4 31 3 = dt 31 3 := hF6 31 (by decide) 3
  have w20 : dt4 33 3 = dt 33 3 := hF6 33 (by decide) 3
  have w21 : dt4 0 2 = dt 0 2 := hF6 0 (by decide) 2
  have w22 : dt4 35 1 = dt 35 1 := hF6 35 (by decide) 1
  have w23 : dt4 35 2 = dt 35 2 := hF6 35 (by decide) 2
  have w24 : dt4 35 3 = dt 35 3 := hF6 35 (by decide) 3
  have w25 : dt4 80 0 = dt 80 0 := hF6 80 (by decide) 0
  have w26 : dt4 80 1 = dt 80 1 := hF6 80 (by decide) 1
  have w27 : dt4 80 2 = dt 80 2 := hF6 80 (by decide) 2
  have w28 : dt4 80 3 = dt 80 3 := hF6 80 (by decide) 3
  have w29 : dt4 80 4 = dt 80 4 := hF6 80 (by decide) 4
  have w30 : dt4 80 5 = dt 80 5 := hF6 80 (by decide) 5
  have w31 : dt4 81 0 = dt 81 0 := hF6 81 (by decide) 0
  have w32 : dt4 81 1 = dt 81 1 := hF6 81 (by decide) 1
  have w33 : dt4 81 2 = dt 81 2 := hF6 81 (by decide) 2
  have w34 : dt4 81 3 = dt 81 3 := hF6 81 (by decide) 3
  have w35 : dt4 81 4 = dt 81 4 := hF6 81 (by decide) 4
  have w36 : dt4 81 5 = dt 81 5 := hF6 81 (by decide) 5
  have w37 : dt4 79 2 = dt 79 2 := hF6 79 (by decide) 2
  have w38 : dt4 79 12 = dt 79 12 := hF6 79 (by decide) 12
  have w39 : dt4 79 19 = dt 79 19 := hF6 79 (by decide) 19
  have w40 : dt4 79 21 = dt 79 21 := hF6 79 (by decide) 21
  rcases h3 with ⟨v_h3, rfl, h3r, h3⟩
  have M241 : MW (dt4 81) := MW_frk hM2 hF6 (by decide)
  have C42 : ∀ j : Nat, dt4 2 j = dt 2 j := fun j => (hF6 2 (by decide) j).trans ((fun _ => rfl) j)
  have C43 : ∀ j : Nat, dt4 3 j = dt 3 j := fun j => (hF6 3 (by decide) j).trans ((fun _ => rfl) j)
  have C44 : ∀ j : Nat, dt4 19 j = dt 19 j := fun j => (hF6 19 (by decide) j).trans ((fun _ => rfl) j)
  have C45 : ∀ j : Nat, dt4 20 j = dt 20 j := fun j => (hF6 20 (by decide) j).trans ((fun _ => rfl) j)
  have C46 : ∀ j : Nat, dt4 36 j = dt 36 j := fun j => (hF6 36 (by decide) j).trans ((fun _ => rfl) j)
  have C47 : ∀ j : Nat, dt4 80 j = dt 80 j := fun j => (hF6 80 (by decide) j).trans ((fun _ => rfl) j)
  have C48 : ∀ j : Nat, dt4 81 j = dt 81 j := fun j => (hF6 81 (by decide) j).trans ((fun _ => rfl) j)
  have C49 : ∀ j : Nat, dt4 85 j = dt 85 j := fun j => (hF6 85 (by decide) j).trans ((fun _ => rfl) j)
  refine go_toq PM267 (k := 6) (pc' := 1274) (L' := [some (.inr (.inr (some 3000))), some (.inr (.inr (some 0))), some (.inr (.inr (some 79))), some (.inl i)]) (st' := [.inl (i + 1), .inr (.inr (some 3000)), .inr (.inr (some 79))]) (w' := (SH, dt4)) rfl ?_
  have r50 := i32_R (xs ((i + 1).toNat))
  refine go_smpq PM267 (L' := [some (.inr (.inr (some 3000))), some (.inr (.inr (some 0))), some (.inr (.inr (some 79))), some (.inl i)]) (st' := [.inl ((xs ((i + 1).toNat)).toInt), .inr (.inr (some 79))]) (w' := (SH, dt4)) rfl rfl (s_iald (n := L) (f := fun j => (xs j).toInt) (am_scr hLL) ⟨by omega, by omega⟩) ?_
  refine go_toq PM267 (k := 4) (pc' := 1279) (L' := [some (.inr (.inr (some 3000))), some (.inr (.inr (some 0))), some (.inr (.inr (some 79))), some (.inl i)]) (st' := [.inl (i + 2), .inr (.inr (some 3000)), .inl ((xs ((i + 1).toNat)).toInt), .inr (.inr (some 79))]) (w' := (SH, dt4)) rfl ?_
  have r51 := i32_R (xs ((i + 2).toNat))
  refine go_smpq PM267 (L' := [some (.inr (.inr (some 3000))), some (.inr (.inr (some 0))), some (.inr (.inr (some 79))), some (.inl i)]) (st' := [.inl ((xs ((i + 2).toNat)).toInt), .inl ((xs ((i + 1).toNat)).toInt), .inr (.inr (some 79))]) (w' := (SH, dt4)) rfl rfl (s_iald (n := L) (f := fun j => (xs j).toInt) (am_scr hLL) ⟨by omega, by omega⟩) ?_
  refine go_callq PM267 PM242 (Q' := _) rfl rfl rfl rfl (sp_X6_curve_k L xs sio (d + 30) dt4 hI5 hM8  ((xs ((i + 1).toNat)).toInt) ⟨by omega, by omega⟩ ((xs ((i + 2).toNat)).toInt) ⟨by omega, by omega⟩ ) ?_
  rintro _ _ ⟨dt53, rfl, hI54, hF55, h52⟩
  refine ⟨rfl, ?_⟩
  have hF56 : Fr [0, 1, 2, 3, 4, 5, 6, 7, 8, 9, 10, 11, 12, 13, 14, 15, 16, 17, 18, 19, 20, 21, 22, 23, 24, 25, 26, 27, 28, 29, 30, 31, 32, 33, 34, 35, 36, 37, 38, 39, 40, 41, 42, 43, 44, 45, 46, 47, 48, 49, 50, 51, 52, 53, 54, 55, 56, 57, 58, 59, 60, 61, 62, 63, 64, 65, 66, 67, 68, 69, 70, 71, 72, 73, 74, 75, 76, 77, 78, 79, 80, 81, 82, 83, 84, 85, 86, 87, 88, 89, 90, 91, 92, 93, 94, 95, 96, 97, 98, 99, 100, 101, 102, 103, 104] dt dt53 := Fr_tr hF7 hF55 (by decide)
  have hM57 : MW (dt53 80) := MW_fr hM8 hF55 (by decide)
  have w58 : dt53 1 0 = dt 1 0 := (hF55 1 (by decide) 0).trans w9
  have w59 : dt53 7 3 = dt 7 3 := (hF55 7 (by decide) 3).trans w10
  have w60 : dt53 10 3 = dt 10 3 := (hF55 10 (by decide) 3).trans w11
  have w61 : dt53 12 3 = dt 12 3 := (hF55 12 (by decide) 3).trans w12
  have w62 : dt53 14 3 = dt 14 3 := (hF55 14 (by decide) 3).trans w13
  have w63 : dt53 16 3 = dt 16 3 := (hF55 16 (by decide) 3).trans w14
  have w64 : dt53 18 0 = dt 18 0 := (hF55 18 (by decide) 0).trans w15
  have w65 : dt53 24 3 = dt 24 3 := (hF55 24 (by decide) 3).trans w16
  have w66 : dt53 27 3 = dt 27 3 := (hF55 27 (by decide) 3).trans w17
  have w67 : dt53 29 3 = dt 29 3 := (hF55 29 (by decide) 3).trans w18
  have w68 : dt53 31 3 = dt 31 3 := (hF55 31 (by decide) 3).trans w19
  have w69 : dt53 33 3 = dt 33 3 := (hF55 33 (by decide) 3).trans w20
  have w70 : dt53 0 2 = dt 0 2 := (hF55 0 (by decide) 2).trans w21
  have w71 : dt53 35 1 = dt 35 1 := (hF55 35 (by decide) 1).trans w22
  have w72 : dt53 35 2 = dt 35 2 := (hF55 35 (by decide) 2).trans w23
  have w73 : dt53 35 3 = dt 35 3 := (hF55 35 (by decide) 3).trans w24
  have w74 : dt53 80 0 = dt 80 0 := (hF55 80 (by decide) 0).trans w25
  have w75 : dt53 80 1 = dt 80 1 := (hF55 80 (by decide) 1).trans w26
  have w76 : dt53 80 2 = dt 80 2 := (hF55 80 (by decide) 2).trans w27
  have w77 : dt53 80 3 = dt 80 3 := (hF55 80 (by decide) 3).trans w28
  have w78 : dt53 80 4 = dt 80 4 := (hF55 80 (by decide) 4).trans w29
  have w79 : dt53 80 5 = dt 80 5 := (hF55 80 (by decide) 5).trans w30
  have w80 : dt53 81 0 = dt 81 0 := (hF55 81 (by decide) 0).trans w31
  have w81 : dt53 81 1 = dt 81 1 := (hF55 81 (by decide) 1).trans w32
  have w82 : dt53 81 2 = dt 81 2 := (hF55 81 (by decide) 2).trans w33
  have w83 : dt53 81 3 = dt 81 3 := (hF55 81 (by decide) 3).trans w34
  have w84 : dt53 81 4 = dt 81 4 := (hF55 81 (by decide) 4).trans w35
  have w85 : dt53 81 5 = dt 81 5 := (hF55 81 (by decide) 5).trans w36
  rcases h52 with ⟨v_h52, rfl, h52r, h52⟩
  obtain ⟨h52_0, h52_1, h52_2, h52_3⟩ := h52
  have w86 : dt53 79 2 = dt 79 2 := h52_0.trans w37
  have w87 : dt53 79 12 = dt 79 12 := h52_1.trans w38
  have w88 : dt53 79 19 = dt 79 19 := h52_2.trans w39
  have w89 : dt53 79 21 = dt 79 21 := h52_3.trans w40
  have M290 : MW (dt53 81) := MW_frk M241 hF55 (by decide)
  have C91 : ∀ j : Nat, dt53 2 j = dt 2 j := fun j => (hF55 2 (by decide) j).trans (C42 j)
  have C92 : ∀ j : Nat, dt53 3 j = dt 3 j := fun j => (hF55 3 (by decide) j).trans (C43 j)
  have C93 : ∀ j : Nat, dt53 19 j = dt 19 j := fun j => (hF55 19 (by decide) j).trans (C44 j)
  have C94 : ∀ j : Nat, dt53 20 j = dt 20 j := fun j => (hF55 20 (by decide) j).trans (C45 j)
  have C95 : ∀ j : Nat, dt53 36 j = dt 36 j := fun j => (hF55 36 (by decide) j).trans (C46 j)
  have C96 : ∀ j : Nat, dt53 80 j = dt 80 j := fun j => (hF55 80 (by decide) j).trans (C47 j)
  have C97 : ∀ j : Nat, dt53 81 j = dt 81 j := fun j => (hF55 81 (by decide) j).trans (C48 j)
  have C98 : ∀ j : Nat, dt53 85 j = dt 85 j := fun j => (hF55 85 (by decide) j).trans (C49 j)
  refine go_toq PM267 (k := 2) (pc' := 1435) (L' := [some (.inr (.inr (some 3000))), some (.inr (.inr (some 0))), some (.inr (.inr (some 79))), some (.inl i)]) (st' := []) (w' := (SH, dt53)) rfl ?_
  exact K dt53 hI54 hM57 M290 (w58.trans (hk0.trans w74.symm)) (w59.trans (hk1.trans w75.symm)) (w60.trans (hk2.trans w76.symm)) (w61.trans (hk3.trans w77.symm)) (w62.trans (hk4.trans w78.symm)) (w63.trans (hk5.trans w79.symm)) (w64.trans (hk6.trans w80.symm)) (w65.trans (hk7.trans w81.symm)) (w66.trans (hk8.trans w82.symm)) (w67.trans (hk9.trans w83.symm)) (w68.trans (hk10.trans w84.symm)) (w69.trans (hk11.trans w85.symm)) (w70.trans (hk12.trans w86.symm)) (w71.trans (hk13.trans w87.symm)) (w72.trans (hk14.trans w88.symm)) (w73.trans (hk15.trans w89.symm)) (by first | exact hI | exact TPL_k hd0 C95 C98 (by omega) | (exfalso; omega)) (by first | exact hI | exact SCL_k hd1 hM (fun j _ => C91 j) (fun j _ => C92 j) (fun j _ _ => C96 j) | (exfalso; omega)) (by first | exact hI | exact SCL_k hd2 hM2 (fun j _ => C93 j) (fun j _ => C94 j) (fun j _ _ => C97 j) | (exfalso; omega))
set_option maxRecDepth 20000 in
set_option maxHeartbeats 8000000 in
theorem sp_case29 (L : Nat) (xs : Nat → Int32) (sio : Option Nat) (d : Nat) (Q : Option AV → am_W → Prop) (hLL : L ≤ 3072) (i : Int) (hi : 0 ≤ i ∧ i ≤ 3066) (hil : i ≤ (L : Int) - 6) (dt : Nat → Nat → Int) (hI : InvC dt) (hM : MW (dt 80)) (hM2 : MW (dt 81)) (hk0 : dt 1 0 = dt 80 0) (hk1 : dt 7 3 = dt 80 1) (hk2 : dt 10 3 = dt 80 2) (hk3 : dt 12 3 = dt 80 3) (hk4 : dt 14 3 = dt 80 4) (hk5 : dt 16 3 = dt 80 5) (hk6 : dt 18 0 = dt 81 0) (hk7 : dt 24 3 = dt 81 1) (hk8 : dt 27 3 = dt 81 2) (hk9 : dt 29 3 = dt 81 3) (hk10 : dt 31 3 = dt 81 4) (hk11 : dt 33 3 = dt 81 5) (hk12 : dt 0 2 = dt 79 2) (hk13 : dt 35 1 = dt 79 12) (hk14 : dt 35 2 = dt 79 19) (hk15 : dt 35 3 = dt 79 21) (hd0 : TPL (dt 36) (dt 85) (dt 35 1)) (hd1 : SCL (dt 2) (dt 3) (dt 80)) (hd2 : SCL (dt 19) (dt 20) (dt 81)) (K : ∀ (dt : Nat → Nat → Int) (hI : InvC dt) (hM : MW (dt 80)) (hM2 : MW (dt 81)) (hk0 : dt 1 0 = dt 80 0) (hk1 : dt 7 3 = dt 80 1) (hk2 : dt 10 3 = dt 80 2) (hk3 : dt 12 3 = dt 80 3) (hk4 : dt 14 3 = dt 80 4) (hk5 : dt 16 3 = dt 80 5) (hk6 : dt 18 0 = dt 81 0) (hk7 : dt 24 3 = dt 81 1) (hk8 : dt 27 3 = dt 81 2) (hk9 : dt 29 3 = dt 81 3) (hk10 : dt 31 3 = dt 81 4) (hk11 : dt 33 3 = dt 81 5) (hk12 : dt 0 2 = dt 79 2) (hk13 : dt 35 1 = dt 79 12) (hk14 : dt 35 2 = dt 79 19) (hk15 : dt 35 3 = dt 79 21) (hd0 : TPL (dt 36) (dt 85) (dt 35 1)) (hd1 : SCL (dt 2) (dt 3) (dt 80)) (hd2 : SCL (dt 19) (dt 20) (dt 81)), GO (am_XX L xs sio) (d + 39) 267 1435 [some (.inr (.inr (some 3000))), some (.inr (.inr (some 0))), some (.inr (.inr (some 79))), some (.inl i)] [] (SH, dt) Q) : GO (am_XX L xs sio) (d + 39) 267 1287 [some (.inr (.inr (some 3000))), some (.inr (.inr (some 0))), some (.inr (.inr (some 79))), some (.inl i)] [] (SH, dt) Q := by
  have hF : Fr [0, 1, 2, 3, 4, 5, 6, 7, 8, 9, 10, 11, 12, 13, 14, 15, 16, 17, 18, 19, 20, 21, 22, 23, 24, 25, 26, 27, 28, 29, 30, 31, 32, 33, 34, 35, 36, 37, 38, 39, 40, 41, 42, 43, 44, 45, 46, 47, 48, 49, 50, 51, 52, 53, 54, 55, 56, 57, 58, 59, 60, 61, 62, 63, 64, 65, 66, 67, 68, 69, 70, 71, 72, 73, 74, 75, 76, 77, 78, 79, 80, 81, 82, 83, 84, 85, 86, 87, 88, 89, 90, 91, 92, 93, 94, 95, 96, 97, 98, 99, 100, 101, 102, 103, 104] dt dt := Fr_refl
  refine go_toq PM267 (k := 5) (pc' := 1292) (L' := [some (.inr (.inr (some 3000))), some (.inr (.inr (some 0))), some (.inr (.inr (some 79))), some (.inl i)]) (st' := [.inl (i + 1), .inr (.inr (some 3000)), .inr (.inr (some 0))]) (w' := (SH, dt)) rfl ?_
  have r1 := i32_R (xs ((i + 1).toNat))
  refine go_smpq PM267 (L' := [some (.inr (.inr (some 3000))), some (.inr (.inr (some 0))), some (.inr (.inr (some 79))), some (.inl i)]) (st' := [.inl ((xs ((i + 1).toNat)).toInt), .inr (.inr (some 0))]) (w' := (SH, dt)) rfl rfl (s_iald (n := L) (f := fun j => (xs j).toInt) (am_scr hLL) ⟨by omega, by omega⟩) ?_
  refine go_callq PM267 PM96 (Q' := _) rfl rfl rfl rfl (sp_X5_score L xs sio (d + 32) dt hI  ((xs ((i + 1).toNat)).toInt) ⟨by omega, by omega⟩ ) ?_
  rintro _ _ ⟨dt3, rfl, hI4, hF5, h2⟩
  refine ⟨rfl, ?_⟩
  have hF6 : Fr [0, 1, 2, 3, 4, 5, 6, 7, 8, 9, 10, 11, 12, 13, 14, 15, 16, 17, 18, 19, 20, 21, 22, 23, 24, 25, 26, 27, 28, 29, 30, 31, 32, 33, 34, 35, 36, 37, 38, 39, 40, 41, 42, 43, 44, 45, 46, 47, 48, 49, 50, 51, 52, 53, 54, 55, 56, 57, 58, 59, 60, 61, 62, 63, 64, 65, 66, 67, 68, 69, 70, 71, 72, 73, 74, 75, 76, 77, 78, 79, 80, 81, 82, 83, 84, 85, 86, 87, 88, 89, 90, 91, 92, 93, 94, 95, 96, 97, 98, 99, 100, 101, 102, 103, 104] dt dt3 := Fr_tr hF hF5 (by decide)
  have hM7 : MW (dt3 80) := MW_fr hM hF5 (by decide)
  have w8 : dt3 1 0 = dt 1 0 := hF5 1 (by decide) 0
  have w9 : dt3 7 3 = dt 7 3 := hF5 7 (by decide) 3
  have w10 : dt3 10 3 = dt 10 3 := hF5 10 (by decide) 3
  have w11 : dt3 12 3 = dt 12 3 := hF5 12 (by decide) 3
  have w12 : dt3 14 3 = dt 14 3 := hF5 14 (by decide) 3
  have w13 : dt3 16 3 = dt 16 3 := hF5 16 (by decide) 3
  have w14 : dt3 18 0 = dt 18 0 := hF5 18 (by decide) 0
  have w15 : dt3 24 3 = dt 24 3 := hF5 24 (by decide) 3
  have w16 : dt3 27 3 = dt 27 3 := hF5 27 (by decide) 3
  have w17 : dt3 29 3 = dt 29 3 := hF5 29 (by decide) 3
  have w18 : dt3 31 3 = dt 31 3 := hF5 31 (by decide) 3
  have w19 : dt3 33 3 = dt 33 3 := hF5 33 (by decide) 3
  have w20 : dt3 0 2 = dt 0 2 := hF5 0 (by decide) 2
  have w21 : dt3 35 1 = dt 35 1 := hF5 35 (by decide) 1
  have w22 : dt3 35 2 = dt 35 2 := hF5 35 (by decide) 2
  have w23 : dt3 35 3 = dt 35 3 := hF5 35 (by decide) 3
  have w24 : dt3 80 0 = dt 80 0 := hF5 80 (by decide) 0
  have w25 : dt3 80 1 = dt 80 1 := hF5 80 (by decide) 1
  have w26 : dt3 80 2 = dt 80 2 := hF5 80 (by decide) 2
  have w27 : dt3 80 3 = dt 80 3 := hF5 80 (by decide) 3
  have w28 : dt3 80 4 = dt 80 4 := hF5 80 (by decide) 4
  have w29 : dt3 80 5 = dt 80 5 := hF5 80 (by decide) 5
  have w30 : dt3 81 0 = dt 81 0 := hF5 81 (by decide) 0
  have w31 : dt3 81 1 = dt 81 1 := hF5 81 (by decide) 1
  have w32 : dt3 81 2 = dt 81 2 := hF5 81 (by decide) 2
  have w33 : dt3 81 3 = dt 81 3 := hF5 81 (by decide) 3
  have w34 : dt3 81 4 = dt 81 4 := hF5 81 (by decide) 4
  have w35 : dt3 81 5 = dt 81 5 := hF5 81 (by decide) 5
  have w36 : dt3 79 2 = dt 79 2 := hF5 79 (by decide) 2
  have w37 : dt3 79 12 = dt 79 12 := hF5 79 (by decide) 12
  have w38 : dt3 79 19 = dt 79 19 := hF5 79 (by decide) 19
  have w39 : dt3 79 21 = dt 79 21 := hF5 79 (by decide) 21
  rcases h2 with ⟨v_h2, rfl, h2r, h2⟩
  have M240 : MW (dt3 81) := MW_frk hM2 hF5 (by decide)
  have C41 : ∀ j : Nat, dt3 2 j = dt 2 j := fun j => (hF5 2 (by decide) j).trans ((fun _ => rfl) j)
  have C42 : ∀ j : Nat, dt3 3 j = dt 3 j := fun j => (hF5 3 (by decide) j).trans ((fun _ => rfl) j)
  have C43 : ∀ j : Nat, dt3 19 j = dt 19 j := fun j => (hF5 19 (by decide) j).trans ((fun _ => rfl) j)
  have C44 : ∀ j : Nat, dt3 20 j = dt 20 j := fun j => (hF5 20 (by decide) j).trans ((fun _ => rfl) j)
  have C45 : ∀ j : Nat, dt3 36 j = dt 36 j := fun j => (hF5 36 (by decide) j).trans ((fun _ => rfl) j)
  have C46 : ∀ j : Nat, dt3 80 j = dt 80 j := fun j => (hF5 80 (by decide) j).trans ((fun _ => rfl) j)
  have C47 : ∀ j : Nat, dt3 81 j = dt 81 j := fun j => (hF5 81 (by decide) j).trans ((fun _ => rfl) j)
  have C48 : ∀ j : Nat, dt3 85 j = dt 85 j := fun j => (hF5 85 (by decide) j).trans ((fun _ => rfl) j)
  refine go_toq PM267 (k := 6) (pc' := 1302) (L' := [some (.inr (.inr (some 3000))), some (.inr (.inr (some 0))), some (.inr (.inr (some 79))), some (.inl i)]) (st' := [.inl (i + 1), .inr (.inr (some 3000)), .inr (.inr (some 79))]) (w' := (SH, dt3)) rfl ?_
  have r49 := i32_R (xs ((i + 1).toNat))
  refine go_smpq PM267 (L' := [some (.inr (.inr (some 3000))), some (.inr (.inr (some 0))), some (.inr (.inr (some 79))), some (.inl i)]) (st' := [.inl ((xs ((i + 1).toNat)).toInt), .inr (.inr (some 79))]) (w' := (SH, dt3)) rfl rfl (s_iald (n := L) (f := fun j => (xs j).toInt) (am_scr hLL) ⟨by omega, by omega⟩) ?_
  refine go_callq PM267 PM245 (Q' := _) rfl rfl rfl rfl (sp_X6_score L xs sio (d + 30) dt3 hI4 hM7  ((xs ((i + 1).toNat)).toInt) ⟨by omega, by omega⟩ ) ?_
  rintro _ _ ⟨dt51, rfl, hI52, hF53, h50⟩
  refine ⟨rfl, ?_⟩
  have hF54 : Fr [0, 1, 2, 3, 4, 5, 6, 7, 8, 9, 10, 11, 12, 13, 14, 15, 16, 17, 18, 19, 20, 21, 22, 23, 24, 25, 26, 27, 28, 29, 30, 31, 32, 33, 34, 35, 36, 37, 38, 39, 40, 41, 42, 43, 44, 45, 46, 47, 48, 49, 50, 51, 52, 53, 54, 55, 56, 57, 58, 59, 60, 61, 62, 63, 64, 65, 66, 67, 68, 69, 70, 71, 72, 73, 74, 75, 76, 77, 78, 79, 80, 81, 82, 83, 84, 85, 86, 87, 88, 89, 90, 91, 92, 93, 94, 95, 96, 97, 98, 99, 100, 101, 102, 103, 104] dt dt51 := Fr_tr hF6 hF53 (by decide)
  have hM55 : MW (dt51 80) := MW_fr hM7 hF53 (by decide)
  have w56 : dt51 1 0 = dt 1 0 := (hF53 1 (by decide) 0).trans w8
  have w57 : dt51 7 3 = dt 7 3 := (hF53 7 (by decide) 3).trans w9
  have w58 : dt51 10 3 = dt 10 3 := (hF53 10 (by decide) 3).trans w10
  have w59 : dt51 12 3 = dt 12 3 := (hF53 12 (by decide) 3).trans w11
  have w60 : dt51 14 3 = dt 14 3 := (hF53 14 (by decide) 3).trans w12
  have w61 : dt51 16 3 = dt 16 3 := (hF53 16 (by decide) 3).trans w13
  have w62 : dt51 18 0 = dt 18 0 := (hF53 18 (by decide) 0).trans w14
  have w63 : dt51 24 3 = dt 24 3 := (hF53 24 (by decide) 3).trans w15
  have w64 : dt51 27 3 = dt 27 3 := (hF53 27 (by decide) 3).trans w16
  have w65 : dt51 29 3 = dt 29 3 := (hF53 29 (by decide) 3).trans w17
  have w66 : dt51 31 3 = dt 31 3 := (hF53 31 (by decide) 3).trans w18
  have w67 : dt51 33 3 = dt 33 3 := (hF53 33 (by decide) 3).trans w19
  have w68 : dt51 0 2 = dt 0 2 := (hF53 0 (by decide) 2).trans w20
  have w69 : dt51 35 1 = dt 35 1 := (hF53 35 (by decide) 1).trans w21
  have w70 : dt51 35 2 = dt 35 2 := (hF53 35 (by decide) 2).trans w22
  have w71 : dt51 35 3 = dt 35 3 := (hF53 35 (by decide) 3).trans w23
  have w72 : dt51 80 0 = dt 80 0 := (hF53 80 (by decide) 0).trans w24
  have w73 : dt51 80 1 = dt 80 1 := (hF53 80 (by decide) 1).trans w25
  have w74 : dt51 80 2 = dt 80 2 := (hF53 80 (by decide) 2).trans w26
  have w75 : dt51 80 3 = dt 80 3 := (hF53 80 (by decide) 3).trans w27
  have w76 : dt51 80 4 = dt 80 4 := (hF53 80 (by decide) 4).trans w28
  have w77 : dt51 80 5 = dt 80 5 := (hF53 80 (by decide) 5).trans w29
  have w78 : dt51 81 0 = dt 81 0 := (hF53 81 (by decide) 0).trans w30
  have w79 : dt51 81 1 = dt 81 1 := (hF53 81 (by decide) 1).trans w31
  have w80 : dt51 81 2 = dt 81 2 := (hF53 81 (by decide) 2).trans w32
  have w81 : dt51 81 3 = dt 81 3 := (hF53 81 (by decide) 3).trans w33
  have w82 : dt51 81 4 = dt 81 4 := (hF53 81 (by decide) 4).trans w34
  have w83 : dt51 81 5 = dt 81 5 := (hF53 81 (by decide) 5).trans w35
  have w84 : dt51 79 2 = dt 79 2 := (hF53 79 (by decide) 2).trans w36
  have w85 : dt51 79 12 = dt 79 12 := (hF53 79 (by decide) 12).trans w37
  have w86 : dt51 79 19 = dt 79 19 := (hF53 79 (by decide) 19).trans w38
  have w87 : dt51 79 21 = dt 79 21 := (hF53 79 (by decide) 21).trans w39
  rcases h50 with ⟨v_h50, rfl, h50r, h50⟩
  have M288 : MW (dt51 81) := MW_frk M240 hF53 (by decide)
  have C89 : ∀ j : Nat, dt51 2 j = dt 2 j := fun j => (hF53 2 (by decide) j).trans (C41 j)
  have C90 : ∀ j : Nat, dt51 3 j = dt 3 j := fun j => (hF53 3 (by decide) j).trans (C42 j)
  have C91 : ∀ j : Nat, dt51 19 j = dt 19 j := fun j => (hF53 19 (by decide) j).trans (C43 j)
  have C92 : ∀ j : Nat, dt51 20 j = dt 20 j := fun j => (hF53 20 (by decide) j).trans (C44 j)
  have C93 : ∀ j : Nat, dt51 36 j = dt 36 j := fun j => (hF53 36 (by decide) j).trans (C45 j)
  have C94 : ∀ j : Nat, dt51 80 j = dt 80 j := fun j => (hF53 80 (by decide) j).trans (C46 j)
  have C95 : ∀ j : Nat, dt51 81 j = dt 81 j := fun j => (hF53 81 (by decide) j).trans (C47 j)
  have C96 : ∀ j : Nat, dt51 85 j = dt 85 j := fun j => (hF53 85 (by decide) j).trans (C48 j)
  refine go_toq PM267 (k := 2) (pc' := 1435) (L' := [some (.inr (.inr (some 3000))), some (.inr (.inr (some 0))), some (.inr (.inr (some 79))), some (.inl i)]) (st' := []) (w' := (SH, dt51)) rfl ?_
  exact K dt51 hI52 hM55 M288 (w56.trans (hk0.trans w72.symm)) (w57.trans (hk1.trans w73.symm)) (w58.trans (hk2.trans w74.symm)) (w59.trans (hk3.trans w75.symm)) (w60.trans (hk4.trans w76.symm)) (w61.trans (hk5.trans w77.symm)) (w62.trans (hk6.trans w78.symm)) (w63.trans (hk7.trans w79.symm)) (w64.trans (hk8.trans w80.symm)) (w65.trans (hk9.trans w81.symm)) (w66.trans (hk10.trans w82.symm)) (w67.trans (hk11.trans w83.symm)) (w68.trans (hk12.trans w84.symm)) (w69.trans (hk13.trans w85.symm)) (w70.trans (hk14.trans w86.symm)) (w71.trans (hk15.trans w87.symm)) (by first | exact hI | exact TPL_k hd0 C93 C96 (by omega) | (exfalso; omega)) (by first | exact hI | exact SCL_k hd1 hM (fun j _ => C89 j) (fun j _ => C90 j) (fun j _ _ => C94 j) | (exfalso; omega)) (by first | exact hI | exact SCL_k hd2 hM2 (fun j _ => C91 j) (fun j _ => C92 j) (fun j _ _ => C95 j) | (exfalso; omega))
set_option maxRecDepth 20000 in
set_option maxHeartbeats 8000000 in
theorem sp_case30 (L : Nat) (xs : Nat → Int32) (sio : Option Nat) (d : Nat) (Q : Option AV → am_W → Prop) (hLL : L ≤ 3072) (i : Int) (hi : 0 ≤ i ∧ i ≤ 3066) (hil : i ≤ (L : Int) - 6) (dt : Nat → Nat → Int) (hI : InvC dt) (hM : MW (dt 80)) (hM2 : MW (dt 81)) (hk0 : dt 1 0 = dt 80 0) (hk1 : dt 7 3 = dt 80 1) (hk2 : dt 10 3 = dt 80 2) (hk3 : dt 12 3 = dt 80 3) (hk4 : dt 14 3 = dt 80 4) (hk5 : dt 16 3 = dt 80 5) (hk6 : dt 18 0 = dt 81 0) (hk7 : dt 24 3 = dt 81 1) (hk8 : dt 27 3 = dt 81 2) (hk9 : dt 29 3 = dt 81 3) (hk10 : dt 31 3 = dt 81 4) (hk11 : dt 33 3 = dt 81 5) (hk12 : dt 0 2 = dt 79 2) (hk13 : dt 35 1 = dt 79 12) (hk14 : dt 35 2 = dt 79 19) (hk15 : dt 35 3 = dt 79 21) (hd0 : TPL (dt 36) (dt 85) (dt 35 1)) (hd1 : SCL (dt 2) (dt 3) (dt 80)) (hd2 : SCL (dt 19) (dt 20) (dt 81)) (K : ∀ (dt : Nat → Nat → Int) (hI : InvC dt) (hM : MW (dt 80)) (hM2 : MW (dt 81)) (hk0 : dt 1 0 = dt 80 0) (hk1 : dt 7 3 = dt 80 1) (hk2 : dt 10 3 = dt 80 2) (hk3 : dt 12 3 = dt 80 3) (hk4 : dt 14 3 = dt 80 4) (hk5 : dt 16 3 = dt 80 5) (hk6 : dt 18 0 = dt 81 0) (hk7 : dt 24 3 = dt 81 1) (hk8 : dt 27 3 = dt 81 2) (hk9 : dt 29 3 = dt 81 3) (hk10 : dt 31 3 = dt 81 4) (hk11 : dt 33 3 = dt 81 5) (hk12 : dt 0 2 = dt 79 2) (hk13 : dt 35 1 = dt 79 12) (hk14 : dt 35 2 = dt 79 19) (hk15 : dt 35 3 = dt 79 21) (hd0 : TPL (dt 36) (dt 85) (dt 35 1)) (hd1 : SCL (dt 2) (dt 3) (dt 80)) (hd2 : SCL (dt 19) (dt 20) (dt 81)), GO (am_XX L xs sio) (d + 39) 267 1435 [some (.inr (.inr (some 3000))), some (.inr (.inr (some 0))), some (.inr (.inr (some 79))), some (.inl i)] [] (SH, dt) Q) : GO (am_XX L xs sio) (d + 39) 267 1310 [some (.inr (.inr (some 3000))), some (.inr (.inr (some 0))), some (.inr (.inr (some 79))), some (.inl i)] [] (SH, dt) Q := by
  have hF : Fr [0, 1, 2, 3, 4, 5, 6, 7, 8, 9, 10, 11, 12, 13, 14, 15, 16, 17, 18, 19, 20, 21, 22, 23, 24, 25, 26, 27, 28, 29, 30, 31, 32, 33, 34, 35, 36, 37, 38, 39, 40, 41, 42, 43, 44, 45, 46, 47, 48, 49, 50, 51, 52, 53, 54, 55, 56, 57, 58, 59, 60, 61, 62, 63, 64, 65, 66, 67, 68, 69, 70, 71, 72, 73, 74, 75, 76, 77, 78, 79, 80, 81, 82, 83, 84, 85, 86, 87, 88, 89, 90, 91, 92, 93, 94, 95, 96, 97, 98, 99, 100, 101, 102, 103, 104] dt dt := Fr_refl
  refine go_toq PM267 (k := 5) (pc' := 1315) (L' := [some (.inr (.inr (some 3000))), some (.inr (.inr (some 0))), some (.inr (.inr (some 79))), some (.inl i)]) (st' := [.inl (i + 1), .inr (.inr (some 3000)), .inr (.inr (some 0))]) (w' := (SH, dt)) rfl ?_
  have r1 := i32_R (xs ((i + 1).toNat))
  refine go_smpq PM267 (L' := [some (.inr (.inr (some 3000))), some (.inr (.inr (some 0))), some (.inr (.inr (some 79))), some (.inl i)]) (st' := [.inl ((xs ((i + 1).toNat)).toInt), .inr (.inr (some 0))]) (w' := (SH, dt)) rfl rfl (s_iald (n := L) (f := fun j => (xs j).toInt) (am_scr hLL) ⟨by omega, by omega⟩) ?_
  refine go_toq PM267 (k := 4) (pc' := 1320) (L' := [some (.inr (.inr (some 3000))), some (.inr (.inr (some 0))), some (.inr (.inr (some 79))), some (.inl i)]) (st' := [.inl (i + 2), .inr (.inr (some 3000)), .inl ((xs ((i + 1).toNat)).toInt), .inr (.inr (some 0))]) (w' := (SH, dt)) rfl ?_
  have r2 := i32_R (xs ((i + 2).toNat))
  refine go_smpq PM267 (L' := [some (.inr (.inr (some 3000))), some (.inr (.inr (some 0))), some (.inr (.inr (some 79))), some (.inl i)]) (st' := [.inl ((xs ((i + 2).toNat)).toInt), .inl ((xs ((i + 1).toNat)).toInt), .inr (.inr (some 0))]) (w' := (SH, dt)) rfl rfl (s_iald (n := L) (f := fun j => (xs j).toInt) (am_scr hLL) ⟨by omega, by omega⟩) ?_
  refine go_toq PM267 (k := 4) (pc' := 1325) (L' := [some (.inr (.inr (some 3000))), some (.inr (.inr (some 0))), some (.inr (.inr (some 79))), some (.inl i)]) (st' := [.inl (i + 3), .inr (.inr (some 3000)), .inl ((xs ((i + 2).toNat)).toInt), .inl ((xs ((i + 1).toNat)).toInt), .inr (.inr (some 0))]) (w' := (SH, dt)) rfl ?_
  have r3 := i32_R (xs ((i + 3).toNat))
  refine go_smpq PM267 (L' := [some (.inr (.inr (some 3000))), some (.inr (.inr (some 0))), some (.inr (.inr (some 79))), some (.inl i)]) (st' := [.inl ((xs ((i + 3).toNat)).toInt), .inl ((xs ((i + 2).toNat)).toInt), .inl ((xs ((i + 1).toNat)).toInt), .inr (.inr (some 0))]) (w' := (SH, dt)) rfl rfl (s_iald (n := L) (f := fun j => (xs j).toInt) (am_scr hLL) ⟨by omega, by omega⟩) ?_
  refine go_toq PM267 (k := 4) (pc' := 1330) (L' := [some (.inr (.inr (some 3000))), some (.inr (.inr (some 0))), some (.inr (.inr (some 79))), some (.inl i)]) (st' := [.inl (i + 4), .inr (.inr (some 3000)), .inl ((xs ((i + 3).toNat)).toInt), .inl ((xs ((i + 2).toNat)).toInt), .inl ((xs ((i + 1).toNat)).toInt), .inr (.inr (some 0))]) (w' := (SH, dt)) rfl ?_
  have r4 := i32_R (xs ((i + 4).toNat))
  refine go_smpq PM267 (L' := [some (.inr (.inr (some 3000))), some (.inr (.inr (some 0))), some (.inr (.inr (some 79))), some (.inl i)]) (st' := [.inl ((xs ((i + 4).toNat)).toInt), .inl ((xs ((i + 3).toNat)).toInt), .inl ((xs ((i + 2).toNat)).toInt), .inl ((xs ((i + 1).toNat)).toInt), .inr (.inr (some 0))]) (w' := (SH, dt)) rfl rfl (s_iald (n := L) (f := fun j => (xs j).toInt) (am_scr hLL) ⟨by omega, by omega⟩) ?_
  refine go_toq PM267 (k := 4) (pc' := 1335) (L' := [some (.inr (.inr (some 3000))), some (.inr (.inr (some 0))), some (.inr (.inr (some 79))), some (.inl i)]) (st' := [.inl (i + 5), .inr (.inr (some 3000)), .inl ((xs ((i + 4).toNat)).toInt), .inl ((xs ((i + 3).toNat)).toInt), .inl ((xs ((i + 2).toNat)).toInt), .inl ((xs ((i + 1).toNat)).toInt), .inr (.inr (some 0))]) (w' := (SH, dt)) rfl ?_
  have r5 := i32_R (xs ((i + 5).toNat))
  refine go_smpq PM267 (L' := [some (.inr (.inr (some 3000))), some (.inr (.inr (some 0))), some (.inr (.inr (some 79))), some (.inl i)]) (st' := [.inl ((xs ((i + 5).toNat)).toInt), .inl ((xs ((i + 4).toNat)).toInt), .inl ((xs ((i + 3).toNat)).toInt), .inl ((xs ((i + 2).toNat)).toInt), .inl ((xs ((i + 1).toNat)).toInt), .inr (.inr (some 0))]) (w' := (SH, dt)) rfl rfl (s_iald (n := L) (f := fun j => (xs j).toInt) (am_scr hLL) ⟨by omega, by omega⟩) ?_
  refine go_callq PM267 PM97 (Q' := _) rfl rfl rfl rfl (sp_X5_next L xs sio (d + 32) dt hI  ((xs ((i + 1).toNat)).toInt) ⟨by omega, by omega⟩ ((xs ((i + 2).toNat)).toInt) ⟨by omega, by omega⟩ ((xs ((i + 3).toNat)).toInt) ⟨by omega, by omega⟩ ((xs ((i + 4).toNat)).toInt) ⟨by omega, by omega⟩ ((xs ((i + 5).toNat)).toInt) ⟨by omega, by omega⟩ ) ?_
  rintro _ _ ⟨dt7, rfl, hI8, hF9, h6⟩
  refine ⟨rfl, ?_⟩
  have hF10 : Fr [0, 1, 2, 3, 4, 5, 6, 7, 8, 9, 10, 11, 12, 13, 14, 15, 16, 17, 18, 19, 20, 21, 22, 23, 24, 25, 26, 27, 28, 29, 30, 31, 32, 33, 34, 35, 36, 37, 38, 39, 40, 41, 42, 43, 44, 45, 46, 47, 48, 49, 50, 51, 52, 53, 54, 55, 56, 57, 58, 59, 60, 61, 62, 63, 64, 65, 66, 67, 68, 69, 70, 71, 72, 73, 74, 75, 76, 77, 78, 79, 80, 81, 82, 83, 84, 85, 86, 87, 88, 89, 90, 91, 92, 93, 94, 95, 96, 97, 98, 99, 100, 101, 102, 103, 104] dt dt7 := Fr_tr hF hF9 (by decide)
  have hM11 : MW (dt7 80) := MW_fr hM hF9 (by decide)
  have w12 : dt7 1 0 = dt 1 0 := hF9 1 (by decide) 0
  have w13 : dt7 7 3 = dt 7 3 := hF9 7 (by decide) 3
  have w14 : dt7 10 3 = dt 10 3 := hF9 10 (by decide) 3
  have w15 : dt7 12 3 = dt 12 3 := hF9 12 (by decide) 3
  have w16 : dt7 14 3 = dt 14 3 := hF9 14 (by decide) 3
  have w17 : dt7 16 3 = dt 16 3 := hF9 16 (by decide) 3
  have w18 : dt7 18 0 = dt 18 0 := hF9 18 (by decide) 0
  have w19 : dt7 24 3 = dt 24 3 := hF9 24 (by decide) 3
  have w20 : dt7 27 3 = dt 27 3 := hF9 27 (by decide) 3
  have w21 : dt7 29 3 = dt 29 3 := hF9 29 (by decide) 3
  have w22 : dt7 31 3 = dt 31 3 := hF9 31 (by decide) 3
  have w23 : dt7 33 3 = dt 33 3 := hF9 33 (by decide) 3
  have w24 : dt7 0 2 = dt 0 2 := hF9 0 (by decide) 2
  have w25 : dt7 35 1 = dt 35 1 := hF9 35 (by decide) 1
  have w26 : dt7 35 2 = dt 35 2 := hF9 35 (by decide) 2
  have w27 : dt7 35 3 = dt 35 3 := hF9 35 (by decide) 3
  have w28 : dt7 80 0 = dt 80 0 := hF9 80 (by decide) 0
  have w29 : dt7 80 1 = dt 80 1 := hF9 80 (by decide) 1
  have w30 : dt7 80 2 = dt 80 2 := hF9 80 (by decide) 2
  have w31 : dt7 80 3 = dt 80 3 := hF9 80 (by decide) 3
  have w32 : dt7 80 4 = dt 80 4 := hF9 80 (by decide) 4
  have w33 : dt7 80 5 = dt 80 5 := hF9 80 (by decide) 5
  have w34 : dt7 81 0 = dt 81 0 := hF9 81 (by decide) 0
  have w35 : dt7 81 1 = dt 81 1 := hF9 81 (by decide) 1
  have w36 : dt7 81 2 = dt 81 2 := hF9 81 (by decide) 2
  have w37 : dt7 81 3 = dt 81 3 := hF9 81 (by decide) 3
  have w38 : dt7 81 4 = dt 81 4 := hF9 81 (by decide) 4
  have w39 : dt7 81 5 = dt 81 5 := hF9 81 (by decide) 5
  have w40 : dt7 79 2 = dt 79 2 := hF9 79 (by decide) 2
  have w41 : dt7 79 12 = dt 79 12 := hF9 79 (by decide) 12
  have w42 : dt7 79 19 = dt 79 19 := hF9 79 (by decide) 19
  have w43 : dt7 79 21 = dt 79 21 := hF9 79 (by decide) 21
  rcases h6 with ⟨v_h6, rfl, h6r, h6⟩
  have M244 : MW (dt7 81) := MW_frk hM2 hF9 (by decide)
  have C45 : ∀ j : Nat, dt7 2 j = dt 2 j := fun j => (hF9 2 (by decide) j).trans ((fun _ => rfl) j)
  have C46 : ∀ j : Nat, dt7 3 j = dt 3 j := fun j => (hF9 3 (by decide) j).trans ((fun _ => rfl) j)
  have C47 : ∀ j : Nat, dt7 19 j = dt 19 j := fun j => (hF9 19 (by decide) j).trans ((fun _ => rfl) j)
  have C48 : ∀ j : Nat, dt7 20 j = dt 20 j := fun j => (hF9 20 (by decide) j).trans ((fun _ => rfl) j)
  have C49 : ∀ j : Nat, dt7 36 j = dt 36 j := fun j => (hF9 36 (by decide) j).trans ((fun _ => rfl) j)
  have C50 : ∀ j : Nat, dt7 80 j = dt 80 j := fun j => (hF9 80 (by decide) j).trans ((fun _ => rfl) j)
  have C51 : ∀ j : Nat, dt7 81 j = dt 81 j := fun j => (hF9 81 (by decide) j).trans ((fun _ => rfl) j)
  have C52 : ∀ j : Nat, dt7 85 j = dt 85 j := fun j => (hF9 85 (by decide) j).trans ((fun _ => rfl) j)
  refine go_toq PM267 (k := 6) (pc' := 1345) (L' := [some (.inr (.inr (some 3000))), some (.inr (.inr (some 0))), some (.inr (.inr (some 79))), some (.inl i)]) (st' := [.inl (i + 1), .inr (.inr (some 3000)), .inr (.inr (some 79))]) (w' := (SH, dt7)) rfl ?_
  have r53 := i32_R (xs ((i + 1).toNat))
  refine go_smpq PM267 (L' := [some (.inr (.inr (some 3000))), some (.inr (.inr (some 0))), some (.inr (.inr (some 79))), some (.inl i)]) (st' := [.inl ((xs ((i + 1).toNat)).toInt), .inr (.inr (some 79))]) (w' := (SH, dt7)) rfl rfl (s_iald (n := L) (f := fun j => (xs j).toInt) (am_scr hLL) ⟨by omega, by omega⟩) ?_
  refine go_toq PM267 (k := 4) (pc' := 1350) (L' := [some (.inr (.inr (some 3000))), some (.inr (.inr (some 0))), some (.inr (.inr (some 79))), some (.inl i)]) (st' := [.inl (i + 2), .inr (.inr (some 3000)), .inl ((xs ((i + 1).toNat)).toInt), .inr (.inr (some 79))]) (w' := (SH, dt7)) rfl ?_
  have r54 := i32_R (xs ((i + 2).toNat))
  refine go_smpq PM267 (L' := [some (.inr (.inr (some 3000))), some (.inr (.inr (some 0))), some (.inr (.inr (some 79))), some (.inl i)]) (st' := [.inl ((xs ((i + 2).toNat)).toInt), .inl ((xs ((i + 1).toNat)).toInt), .inr (.inr (some 79))]) (w' := (SH, dt7)) rfl rfl (s_iald (n := L) (f := fun j => (xs j).toInt) (am_scr hLL) ⟨by omega, by omega⟩) ?_
  refine go_toq PM267 (k := 4) (pc' := 1355) (L' := [some (.inr (.inr (some 3000))), some (.inr (.inr (some 0))), some (.inr (.inr (some 79))), some (.inl i)]) (st' := [.inl (i + 3), .inr (.inr (some 3000)), .inl ((xs ((i + 2).toNat)).toInt), .inl ((xs ((i + 1).toNat)).toInt), .inr (.inr (some 79))]) (w' := (SH, dt7)) rfl ?_
  have r55 := i32_R (xs ((i + 3).toNat))
  refine go_smpq PM267 (L' := [some (.inr (.inr (some 3000))), some (.inr (.inr (some 0))), some (.inr (.inr (some 79))), some (.inl i)]) (st' := [.inl ((xs ((i + 3).toNat)).toInt), .inl ((xs ((i + 2).toNat)).toInt), .inl ((xs ((i + 1).toNat)).toInt), .inr (.inr (some 79))]) (w' := (SH, dt7)) rfl rfl (s_iald (n := L) (f := fun j => (xs j).toInt) (am_scr hLL) ⟨by omega, by omega⟩) ?_
  refine go_toq PM267 (k := 4) (pc' := 1360) (L' := [some (.inr (.inr (some 3000))), some (.inr (.inr (some 0))), some (.inr (.inr (some 79))), some (.inl i)]) (st' := [.inl (i + 4), .inr (.inr (some 3000)), .inl ((xs ((i + 3).toNat)).toInt), .inl ((xs ((i + 2).toNat)).toInt), .inl ((xs ((i + 1).toNat)).toInt), .inr (.inr (some 79))]) (w' := (SH, dt7)) rfl ?_
  have r56 := i32_R (xs ((i + 4).toNat))
  refine go_smpq PM267 (L' := [some (.inr (.inr (some 3000))), some (.inr (.inr (some 0))), some (.inr (.inr (some 79))), some (.inl i)]) (st' := [.inl ((xs ((i + 4).toNat)).toInt), .inl ((xs ((i + 3).toNat)).toInt), .inl ((xs ((i + 2).toNat)).toInt), .inl ((xs ((i + 1).toNat)).toInt), .inr (.inr (some 79))]) (w' := (SH, dt7)) rfl rfl (s_iald (n := L) (f := fun j => (xs j).toInt) (am_scr hLL) ⟨by omega, by omega⟩) ?_
  refine go_toq PM267 (k := 4) (pc' := 1365) (L' := [some (.inr (.inr (some 3000))), some (.inr (.inr (some 0))), some (.inr (.inr (some 79))), some (.inl i)]) (st' := [.inl (i + 5), .inr (.inr (some 3000)), .inl ((xs ((i + 4).toNat)).toInt), .inl ((xs ((i + 3).toNat)).toInt), .inl ((xs ((i + 2).toNat)).toInt), .inl ((xs ((i + 1).toNat)).toInt), .inr (.inr (some 79))]) (w' := (SH, dt7)) rfl ?_
  have r57 := i32_R (xs ((i + 5).toNat))
  refine go_smpq PM267 (L' := [some (.inr (.inr (some 3000))), some (.inr (.inr (some 0))), some (.inr (.inr (some 79))), some (.inl i)]) (st' := [.inl ((xs ((i + 5).toNat)).toInt), .inl ((xs ((i + 4).toNat)).toInt), .inl ((xs ((i + 3).toNat)).toInt), .inl ((xs ((i + 2).toNat)).toInt), .inl ((xs ((i + 1).toNat)).toInt), .inr (.inr (some 79))]) (w' := (SH, dt7)) rfl rfl (s_iald (n := L) (f := fun j => (xs j).toInt) (am_scr hLL) ⟨by omega, by omega⟩) ?_
  refine go_callq PM267 PM246 (Q' := _) rfl rfl rfl rfl (sp_X6_next L xs sio (d + 31) dt7 hI8 hM11  ((xs ((i + 1).toNat)).toInt) ⟨by omega, by omega⟩ ((xs ((i + 2).toNat)).toInt) ⟨by omega, by omega⟩ ((xs ((i + 3).toNat)).toInt) ⟨by omega, by omega⟩ ((xs ((i + 4).toNat)).toInt) ⟨by omega, by omega⟩ ((xs ((i + 5).toNat)).toInt) ⟨by omega, by omega⟩ ) ?_
  rintro _ _ ⟨dt59, rfl, hI60, hF61, h58⟩
  refine ⟨rfl, ?_⟩
  have hF62 : Fr [0, 1, 2, 3, 4, 5, 6, 7, 8, 9, 10, 11, 12, 13, 14, 15, 16, 17, 18, 19, 20, 21, 22, 23, 24, 25, 26, 27, 28, 29, 30, 31, 32, 33, 34, 35, 36, 37, 38, 39, 40, 41, 42, 43, 44, 45, 46, 47, 48, 49, 50, 51, 52, 53, 54, 55, 56, 57, 58, 59, 60, 61, 62, 63, 64, 65, 66, 67, 68, 69, 70, 71, 72, 73, 74, 75, 76, 77, 78, 79, 80, 81, 82, 83, 84, 85, 86, 87, 88, 89, 90, 91, 92, 93, 94, 95, 96, 97, 98, 99, 100, 101, 102, 103, 104] dt dt59 := Fr_tr hF10 hF61 (by decide)
  have hM63 : MW (dt59 80) := MW_fr hM11 hF61 (by decide)
  have w64 : dt59 1 0 = dt 1 0 := (hF61 1 (by decide) 0).trans w12
  have w65 : dt59 7 3 = dt 7 3 := (hF61 7 (by decide) 3).trans w13
  have w66 : dt59 10 3 = dt 10 3 := (hF61 10 (by decide) 3).trans w14
  have w67 : dt59 12 3 = dt 12 3 := (hF61 12 (by decide) 3).trans w15
  have w68 : dt59 14 3 = dt 14 3 := (hF61 14 (by decide) 3).trans w16
  have w69 : dt59 16 3 = dt 16 3 := (hF61 16 (by decide) 3).trans w17
  have w70 : dt59 18 0 = dt 18 0 := (hF61 18 (by decide) 0).trans w18
  have w71 : dt59 24 3 = dt 24 3 := (hF61 24 (by decide) 3).trans w19
  have w72 : dt59 27 3 = dt 27 3 := (hF61 27 (by decide) 3).trans w20
  have w73 : dt59 29 3 = dt 29 3 := (hF61 29 (by decide) 3).trans w21
  have w74 : dt59 31 3 = dt 31 3 := (hF61 31 (by decide) 3).trans w22
  have w75 : dt59 33 3 = dt 33 3 := (hF61 33 (by decide) 3).trans w23
  have w76 : dt59 0 2 = dt 0 2 := (hF61 0 (by decide) 2).trans w24
  have w77 : dt59 35 1 = dt 35 1 := (hF61 35 (by decide) 1).trans w25
  have w78 : dt59 35 2 = dt 35 2 := (hF61 35 (by decide) 2).trans w26
  have w79 : dt59 35 3 = dt 35 3 := (hF61 35 (by decide) 3).trans w27
  have w80 : dt59 80 0 = dt 80 0 := (hF61 80 (by decide) 0).trans w28
  have w81 : dt59 80 1 = dt 80 1 := (hF61 80 (by decide) 1).trans w29
  have w82 : dt59 80 2 = dt 80 2 := (hF61 80 (by decide) 2).trans w30
  have w83 : dt59 80 3 = dt 80 3 := (hF61 80 (by decide) 3).trans w31
  have w84 : dt59 80 4 = dt 80 4 := (hF61 80 (by decide) 4).trans w32
  have w85 : dt59 80 5 = dt 80 5 := (hF61 80 (by decide) 5).trans w33
  have w86 : dt59 81 0 = dt 81 0 := (hF61 81 (by decide) 0).trans w34
  have w87 : dt59 81 1 = dt 81 1 := (hF61 81 (by decide) 1).trans w35
  have w88 : dt59 81 2 = dt 81 2 := (hF61 81 (by decide) 2).trans w36
  have w89 : dt59 81 3 = dt 81 3 := (hF61 81 (by decide) 3).trans w37
  have w90 : dt59 81 4 = dt 81 4 := (hF61 81 (by decide) 4).trans w38
  have w91 : dt59 81 5 = dt 81 5 := (hF61 81 (by decide) 5).trans w39
  have w92 : dt59 79 2 = dt 79 2 := (hF61 79 (by decide) 2).trans w40
  have w93 : dt59 79 12 = dt 79 12 := (hF61 79 (by decide) 12).trans w41
  have w94 : dt59 79 19 = dt 79 19 := (hF61 79 (by decide) 19).trans w42
  have w95 : dt59 79 21 = dt 79 21 := (hF61 79 (by decide) 21).trans w43
  rcases h58 with ⟨v_h58, rfl, h58r, h58⟩
  have M296 : MW (dt59 81) := MW_frk M244 hF61 (by decide)
  have C97 : ∀ j : Nat, dt59 2 j = dt 2 j := fun j => (hF61 2 (by decide) j).trans (C45 j)
  have C98 : ∀ j : Nat, dt59 3 j = dt 3 j := fun j => (hF61 3 (by decide) j).trans (C46 j)
  have C99 : ∀ j : Nat, dt59 19 j = dt 19 j := fun j => (hF61 19 (by decide) j).trans (C47 j)
  have C100 : ∀ j : Nat, dt59 20 j = dt 20 j := fun j => (hF61 20 (by decide) j).trans (C48 j)
  have C101 : ∀ j : Nat, dt59 36 j = dt 36 j := fun j => (hF61 36 (by decide) j).trans (C49 j)
  have C102 : ∀ j : Nat, dt59 80 j = dt 80 j := fun j => (hF61 80 (by decide) j).trans (C50 j)
  have C103 : ∀ j : Nat, dt59 81 j = dt 81 j := fun j => (hF61 81 (by decide) j).trans (C51 j)
  have C104 : ∀ j : Nat, dt59 85 j = dt 85 j := fun j => (hF61 85 (by decide) j).trans (C52 j)
  refine go_toq PM267 (k := 2) (pc' := 1435) (L' := [some (.inr (.inr (some 3000))), some (.inr (.inr (some 0))), some (.inr (.inr (some 79))), some (.inl i)]) (st' := []) (w' := (SH, dt59)) rfl ?_
  exact K dt59 hI60 hM63 M296 (w64.trans (hk0.trans w80.symm)) (w65.trans (hk1.trans w81.symm)) (w66.trans (hk2.trans w82.symm)) (w67.trans (hk3.trans w83.symm)) (w68.trans (hk4.trans w84.symm)) (w69.trans (hk5.trans w85.symm)) (w70.trans (hk6.trans w86.symm)) (w71.trans (hk7.trans w87.symm)) (w72.trans (hk8.trans w88.symm)) (w73.trans (hk9.trans w89.symm)) (w74.trans (hk10.trans w90.symm)) (w75.trans (hk11.trans w91.symm)) (w76.trans (hk12.trans w92.symm)) (w77.trans (hk13.trans w93.symm)) (w78.trans (hk14.trans w94.symm)) (w79.trans (hk15.trans w95.symm)) (by first | exact hI | exact TPL_k hd0 C101 C104 (by omega) | (exfalso; omega)) (by first | exact hI | exact SCL_k hd1 hM (fun j _ => C97 j) (fun j _ => C98 j) (fun j _ _ => C102 j) | (exfalso; omega)) (by first | exact hI | exact SCL_k hd2 hM2 (fun j _ => C99 j) (fun j _ => C100 j) (fun j _ _ => C103 j) | (exfalso; omega))
set_option maxRecDepth 20000 in
set_option maxHeartbeats 8000000 in
theorem sp_case31 (L : Nat) (xs : Nat → Int32) (sio : Option Nat) (d : Nat) (Q : Option AV → am_W → Prop) (hLL : L ≤ 3072) (i : Int) (hi : 0 ≤ i ∧ i ≤ 3066) (hil : i ≤ (L : Int) - 6) (dt : Nat → Nat → Int) (hI : InvC dt) (hM : MW (dt 80)) (hM2 : MW (dt 81)) (hk0 : dt 1 0 = dt 80 0) (hk1 : dt 7 3 = dt 80 1) (hk2 : dt 10 3 = dt 80 2) (hk3 : dt 12 3 = dt 80 3) (hk4 : dt 14 3 = dt 80 4) (hk5 : dt 16 3 = dt 80 5) (hk6 : dt 18 0 = dt 81 0) (hk7 : dt 24 3 = dt 81 1) (hk8 : dt 27 3 = dt 81 2) (hk9 : dt 29 3 = dt 81 3) (hk10 : dt 31 3 = dt 81 4) (hk11 : dt 33 3 = dt 81 5) (hk12 : dt 0 2 = dt 79 2) (hk13 : dt 35 1 = dt 79 12) (hk14 : dt 35 2 = dt 79 19) (hk15 : dt 35 3 = dt 79 21) (hd0 : TPL (dt 36) (dt 85) (dt 35 1)) (hd1 : SCL (dt 2) (dt 3) (dt 80)) (hd2 : SCL (dt 19) (dt 20) (dt 81)) (K : ∀ (dt : Nat → Nat → Int) (hI : InvC dt) (hM : MW (dt 80)) (hM2 : MW (dt 81)) (hk0 : dt 1 0 = dt 80 0) (hk1 : dt 7 3 = dt 80 1) (hk2 : dt 10 3 = dt 80 2) (hk3 : dt 12 3 = dt 80 3) (hk4 : dt 14 3 = dt 80 4) (hk5 : dt 16 3 = dt 80 5) (hk6 : dt 18 0 = dt 81 0) (hk7 : dt 24 3 = dt 81 1) (hk8 : dt 27 3 = dt 81 2) (hk9 : dt 29 3 = dt 81 3) (hk10 : dt 31 3 = dt 81 4) (hk11 : dt 33 3 = dt 81 5) (hk12 : dt 0 2 = dt 79 2) (hk13 : dt 35 1 = dt 79 12) (hk14 : dt 35 2 = dt 79 19) (hk15 : dt 35 3 = dt 79 21) (hd0 : TPL (dt 36) (dt 85) (dt 35 1)) (hd1 : SCL (dt 2) (dt 3) (dt 80)) (hd2 : SCL (dt 19) (dt 20) (dt 81)), GO (am_XX L xs sio) (d + 39) 267 1435 [some (.inr (.inr (some 3000))), some (.inr (.inr (some 0))), some (.inr (.inr (some 79))), some (.inl i)] [] (SH, dt) Q) : GO (am_XX L xs sio) (d + 39) 267 1373 [some (.inr (.inr (some 3000))), some (.inr (.inr (some 0))), some (.inr (.inr (some 79))), some (.inl i)] [] (SH, dt) Q := by
  have hF : Fr [0, 1, 2, 3, 4, 5, 6, 7, 8, 9, 10, 11, 12, 13, 14, 15, 16, 17, 18, 19, 20, 21, 22, 23, 24, 25, 26, 27, 28, 29, 30, 31, 32, 33, 34, 35, 36, 37, 38, 39, 40, 41, 42, 43, 44, 45, 46, 47, 48, 49, 50, 51, 52, 53, 54, 55, 56, 57, 58, 59, 60, 61, 62, 63, 64, 65, 66, 67, 68, 69, 70, 71, 72, 73, 74, 75, 76, 77, 78, 79, 80, 81, 82, 83, 84, 85, 86, 87, 88, 89, 90, 91, 92, 93, 94, 95, 96, 97, 98, 99, 100, 101, 102, 103, 104] dt dt := Fr_refl
  refine go_toq PM267 (k := 5) (pc' := 1378) (L' := [some (.inr (.inr (some 3000))), some (.inr (.inr (some 0))), some (.inr (.inr (some 79))), some (.inl i)]) (st' := [.inl (i + 1), .inr (.inr (some 3000)), .inr (.inr (some 0))]) (w' := (SH, dt)) rfl ?_
  have r1 := i32_R (xs ((i + 1).toNat))
  refine go_smpq PM267 (L' := [some (.inr (.inr (some 3000))), some (.inr (.inr (some 0))), some (.inr (.inr (some 79))), some (.inl i)]) (st' := [.inl ((xs ((i + 1).toNat)).toInt), .inr (.inr (some 0))]) (w' := (SH, dt)) rfl rfl (s_iald (n := L) (f := fun j => (xs j).toInt) (am_scr hLL) ⟨by omega, by omega⟩) ?_
  refine go_ifq PM267 (k := 0) (p1 := 1386) (p2 := 1382) (L' := [some (.inr (.inr (some 3000))), some (.inr (.inr (some 0))), some (.inr (.inr (some 79))), some (.inl i)]) (st' := [.inr (.inr (some 0))]) (w' := (SH, dt)) rfl (z_eq (a := (xs ((i + 1).toNat)).toInt) ⟨by omega, by omega⟩) (fun c2 => ?_) (fun c2 => ?_)
  · skip
    refine go_toq PM267 (k := 1) (pc' := 1387) (L' := [some (.inr (.inr (some 3000))), some (.inr (.inr (some 0))), some (.inr (.inr (some 79))), some (.inl i)]) (st' := [.inl 0, .inr (.inr (some 0))]) (w' := (SH, dt)) rfl ?_
    refine go_callq PM267 PM98 (Q' := _) rfl rfl rfl rfl (sp_X5_image_0s L xs sio (d + 35) dt hI   ) ?_
    rintro _ _ ⟨dt4, rfl, hI5, hF6, h3⟩
    refine ⟨rfl, ?_⟩
    have hF7 : Fr [0, 1, 2, 3, 4, 5, 6, 7, 8, 9, 10, 11, 12, 13, 14, 15, 16, 17, 18, 19, 20, 21, 22, 23, 24, 25, 26, 27, 28, 29, 30, 31, 32, 33, 34, 35, 36, 37, 38, 39, 40, 41, 42, 43, 44, 45, 46, 47, 48, 49, 50, 51, 52, 53, 54, 55, 56, 57, 58, 59, 60, 61, 62, 63, 64, 65, 66, 67, 68, 69, 70, 71, 72, 73, 74, 75, 76, 77, 78, 79, 80, 81, 82, 83, 84, 85, 86, 87, 88, 89, 90, 91, 92, 93, 94, 95, 96, 97, 98, 99, 100, 101, 102, 103, 104] dt dt4 := Fr_tr hF hF6 (by decide)
    have hM8 : MW (dt4 80) := MW_fr hM hF6 (by decide)
    have w9 : dt4 18 0 = dt 18 0 := hF6 18 (by decide) 0
    have w10 : dt4 24 3 = dt 24 3 := hF6 24 (by decide) 3
    have w11 : dt4 27 3 = dt 27 3 := hF6 27 (by decide) 3
    have w12 : dt4 29 3 = dt 29 3 := hF6 29 (by decide) 3
    have w13 : dt4 31 3 = dt 31 3 := hF6 31 (by decide) 3
    have w14 : dt4 33 3 = dt 33 3 := hF6 33 (by decide) 3
    have w15 : dt4 0 2 = dt 0 2 := hF6 0 (by decide) 2
    have w16 : dt4 35 1 = dt 35 1 := hF6 35 (by decide) 1
    have w17 : dt4 35 2 = dt 35 2 := hF6 35 (by decide) 2
    have w18 : dt4 35 3 = dt 35 3 := hF6 35 (by decide) 3
    have w19 : dt4 80 0 = dt 80 0 := hF6 80 (by decide) 0
    have w20 : dt4 80 1 = dt 80 1 := hF6 80 (by decide) 1
    have w21 : dt4 80 2 = dt 80 2 := hF6 80 (by decide) 2
    have w22 : dt4 80 3 = dt 80 3 := hF6 80 (by decide) 3
    have w23 : dt4 80 4 = dt 80 4 := hF6 80 (by decide) 4
    have w24 : dt4 80 5 = dt 80 5 := hF6 80 (by decide) 5
    have w25 : dt4 81 0 = dt 81 0 := hF6 81 (by decide) 0
    have w26 : dt4 81 1 = dt 81 1 := hF6 81 (by decide) 1
    have w27 : dt4 81 2 = dt 81 2 := hF6 81 (by decide) 2
    have w28 : dt4 81 3 = dt 81 3 := hF6 81 (by decide) 3
    have w29 : dt4 81 4 = dt 81 4 := hF6 81 (by decide) 4
    have w30 : dt4 81 5 = dt 81 5 := hF6 81 (by decide) 5
    have w31 : dt4 79 2 = dt 79 2 := hF6 79 (by decide) 2
    have w32 : dt4 79 12 = dt 79 12 := hF6 79 (by decide) 12
    have w33 : dt4 79 19 = dt 79 19 := hF6 79 (by decide) 19
    have w34 : dt4 79 21 = dt 79 21 := hF6 79 (by decide) 21
    rcases h3 with ⟨v_h3, rfl, h3r, h3⟩ | ⟨v_h3, rfl, h3r, h3⟩
    · skip
      obtain ⟨h3_0, h3_1, h3_2, h3_3, h3_4, h3_5, h3_6, h3_7, h3_8, h3_9, h3_10, h3_11, h3_12, h3_13, h3_14, h3_15, h3_16, h3_17, h3_18⟩ := h3
      have w35 : dt4 18 0 = dt 18 0 := h3_9
      have w36 : dt4 24 3 = dt 24 3 := h3_10
      have w37 : dt4 27 3 = dt 27 3 := h3_11
      have w38 : dt4 29 3 = dt 29 3 := h3_12
      have w39 : dt4 31 3 = dt 31 3 := h3_13
      have w40 : dt4 33 3 = dt 33 3 := h3_14
      have M241 : MW (dt4 81) := MW_frk hM2 hF6 (by decide)
      have C42 : ∀ j : Nat, dt4 19 j = dt 19 j := fun j => (hF6 19 (by decide) j).trans ((fun _ => rfl) j)
      have C43 : ∀ j : Nat, dt4 20 j = dt 20 j := fun j => (hF6 20 (by decide) j).trans ((fun _ => rfl) j)
      have C44 : ∀ j : Nat, dt4 36 j = dt 36 j := fun j => (hF6 36 (by decide) j).trans ((fun _ => rfl) j)
      have C45 : ∀ j : Nat, dt4 80 j = dt 80 j := fun j => (hF6 80 (by decide) j).trans ((fun _ => rfl) j)
      have C46 : ∀ j : Nat, dt4 81 j = dt 81 j := fun j => (hF6 81 (by decide) j).trans ((fun _ => rfl) j)
      have C47 : ∀ j : Nat, dt4 85 j = dt 85 j := fun j => (hF6 85 (by decide) j).trans ((fun _ => rfl) j)
      refine go_toq PM267 (k := 6) (pc' := 1396) (L' := [some (.inr (.inr (some 3000))), some (.inr (.inr (some 0))), some (.inr (.inr (some 79))), some (.inl i)]) (st' := [.inl (i + 1), .inr (.inr (some 3000)), .inr (.inr (some 79))]) (w' := (SH, dt4)) rfl ?_
      have r48 := i32_R (xs ((i + 1).toNat))
      refine go_smpq PM267 (L' := [some (.inr (.inr (some 3000))), some (.inr (.inr (some 0))), some (.inr (.inr (some 79))), some (.inl i)]) (st' := [.inl ((xs ((i + 1).toNat)).toInt), .inr (.inr (some 79))]) (w' := (SH, dt4)) rfl rfl (s_iald (n := L) (f := fun j => (xs j).toInt) (am_scr hLL) ⟨by omega, by omega⟩) ?_
      refine go_ifq PM267 (k := 0) (p1 := 1404) (p2 := 1400) (L' := [some (.inr (.inr (some 3000))), some (.inr (.inr (some 0))), some (.inr (.inr (some 79))), some (.inl i)]) (st' := [.inr (.inr (some 79))]) (w' := (SH, dt4)) rfl (z_eq (a := (xs ((i + 1).toNat)).toInt) ⟨by omega, by omega⟩) (fun c49 => ?_) (fun c49 => ?_)
      · skip
        refine go_toq PM267 (k := 1) (pc' := 1405) (L' := [some (.inr (.inr (some 3000))), some (.inr (.inr (some 0))), some (.inr (.inr (some 79))), some (.inl i)]) (st' := [.inl 0, .inr (.inr (some 79))]) (w' := (SH, dt4)) rfl ?_
        refine go_callq PM267 PM247 (Q' := _) rfl rfl rfl rfl (sp_X6_image_0v L xs sio (d + 38) dt4 hI5 hM8   (by first | exact True.intro | with_reducible assumption | rfl | omega | trivial | exact M241 | exact hd1)) ?_
        rintro _ _ ⟨dt51, rfl, hI52, hF53, h50⟩
        refine ⟨rfl, ?_⟩
        have hF54 : Fr [0, 1, 2, 3, 4, 5, 6, 7, 8, 9, 10, 11, 12, 13, 14, 15, 16, 17, 18, 19, 20, 21, 22, 23, 24, 25, 26, 27, 28, 29, 30, 31, 32, 33, 34, 35, 36, 37, 38, 39, 40, 41, 42, 43, 44, 45, 46, 47, 48, 49, 50, 51, 52, 53, 54, 55, 56, 57, 58, 59, 60, 61, 62, 63, 64, 65, 66, 67, 68, 69, 70, 71, 72, 73, 74, 75, 76, 77, 78, 79, 80, 81, 82, 83, 84, 85, 86, 87, 88, 89, 90, 91, 92, 93, 94, 95, 96, 97, 98, 99, 100, 101, 102, 103, 104] dt dt51 := Fr_tr hF7 hF53 (by decide)
        have w55 : dt51 1 0 = dt4 1 0 := hF53 1 (by decide) 0
        have w56 : dt51 7 3 = dt4 7 3 := hF53 7 (by decide) 3
        have w57 : dt51 10 3 = dt4 10 3 := hF53 10 (by decide) 3
        have w58 : dt51 12 3 = dt4 12 3 := hF53 12 (by decide) 3
        have w59 : dt51 14 3 = dt4 14 3 := hF53 14 (by decide) 3
        have w60 : dt51 16 3 = dt4 16 3 := hF53 16 (by decide) 3
        have w61 : dt51 18 0 = dt 18 0 := (hF53 18 (by decide) 0).trans w35
        have w62 : dt51 24 3 = dt 24 3 := (hF53 24 (by decide) 3).trans w36
        have w63 : dt51 27 3 = dt 27 3 := (hF53 27 (by decide) 3).trans w37
        have w64 : dt51 29 3 = dt 29 3 := (hF53 29 (by decide) 3).trans w38
        have w65 : dt51 31 3 = dt 31 3 := (hF53 31 (by decide) 3).trans w39
        have w66 : dt51 33 3 = dt 33 3 := (hF53 33 (by decide) 3).trans w40
        have w67 : dt51 0 2 = dt 0 2 := (hF53 0 (by decide) 2).trans w15
        have w68 : dt51 35 1 = dt 35 1 := (hF53 35 (by decide) 1).trans w16
        have w69 : dt51 35 2 = dt 35 2 := (hF53 35 (by decide) 2).trans w17
        have w70 : dt51 35 3 = dt 35 3 := (hF53 35 (by decide) 3).trans w18
        have w71 : dt51 81 0 = dt 81 0 := (hF53 81 (by decide) 0).trans w25
        have w72 : dt51 81 1 = dt 81 1 := (hF53 81 (by decide) 1).trans w26
        have w73 : dt51 81 2 = dt 81 2 := (hF53 81 (by decide) 2).trans w27
        have w74 : dt51 81 3 = dt 81 3 := (hF53 81 (by decide) 3).trans w28
        have w75 : dt51 81 4 = dt 81 4 := (hF53 81 (by decide) 4).trans w29
        have w76 : dt51 81 5 = dt 81 5 := (hF53 81 (by decide) 5).trans w30
        rcases h50 with ⟨rfl, h50⟩ | ⟨rfl, h50⟩
        · skip
          have hM77 : MW (dt51 80) := h50.2.2.1
          obtain ⟨h50_0, h50_1, h50_2, h50_3, h50_4, h50_5, h50_6, h50_7, h50_8, h50_9, h50_10⟩ := h50
          have w78 : dt51 79 12 = dt 79 12 := h50_8.trans w32
          have w79 : dt51 79 19 = dt 79 19 := h50_9.trans w33
          have w80 : dt51 79 21 = dt 79 21 := h50_10.trans w34
          have M281 : MW (dt51 81) := MW_frk M241 hF53 (by decide)
          have y82 := h50_4 0 (by decide)
          have y83 := h50_4 1 (by decide)
          have y84 := h50_4 2 (by decide)
          have y85 := h50_4 3 (by decide)
          have y86 := h50_4 4 (by decide)
          have y87 := h50_4 5 (by decide)
          have y88 := h50_5 0 (by decide)
          have y89 := h50_5 1 (by decide)
          have y90 := h50_5 2 (by decide)
          have y91 := h50_5 3 (by decide)
          have y92 := h50_5 4 (by decide)
          have y93 := h50_5 5 (by decide)
          have C94 : ∀ j : Nat, dt51 19 j = dt 19 j := fun j => (hF53 19 (by decide) j).trans (C42 j)
          have C95 : ∀ j : Nat, dt51 20 j = dt 20 j := fun j => (hF53 20 (by decide) j).trans (C43 j)
          have C96 : ∀ j : Nat, dt51 36 j = dt 36 j := fun j => (hF53 36 (by decide) j).trans (C44 j)
          have C97 : ∀ j : Nat, dt51 81 j = dt 81 j := fun j => (hF53 81 (by decide) j).trans (C46 j)
          have C98 : ∀ j : Nat, dt51 85 j = dt 85 j := fun j => (hF53 85 (by decide) j).trans (C47 j)
          have C99 : ∀ j : Nat, j < 192 → dt51 2 j = dt 19 j := fun j hj => (hF53 2 (by decide) j).trans (h3_15 j hj)
          have C100 : ∀ j : Nat, j < 8 → dt51 3 j = dt 20 j := fun j hj => (hF53 3 (by decide) j).trans (h3_16 j hj)
          have C101 : ∀ j : Nat, j < 192 → dt51 19 j = dt 19 j := fun j hj => (hF53 19 (by decide) j).trans (h3_17 j hj)
          have C102 : ∀ j : Nat, j < 8 → dt51 20 j = dt 20 j := fun j hj => (hF53 20 (by decide) j).trans (h3_18 j hj)
          have F103 : ∀ j : Nat, 6 ≤ j → j < 974 → dt51 80 j = dt 80 j := fun j _ hj => (h50_6 j (by omega)).trans (C45 j)
          have S104 : SCL (dt51 2) (dt51 3) (dt51 80) := by first | exact SCL_k hd2 hM2 C99 C100 F103 | (exfalso; omega)
          have F105 : ∀ j : Nat, 6 ≤ j → j < 974 → dt51 81 j = dt 81 j := fun j _ hj => (h50_7 j (by omega)).trans (C46 j)
          have S106 : SCL (dt51 19) (dt51 20) (dt51 81) := by first | exact SCL_k hd2 hM2 C101 C102 F105 | (exfalso; omega)
          refine go_toq PM267 (k := 2) (pc' := 1435) (L' := [some (.inr (.inr (some 3000))), some (.inr (.inr (some 0))), some (.inr (.inr (some 79))), some (.inl i)]) (st' := []) (w' := (SH, dt51)) rfl ?_
          exact K dt51 hI52 hM77 M281 (by first | omega | (simp only [*]; done) | simp only [*]) (by omega) (by omega) (by omega) (by omega) (by omega) (w61.trans (hk6.trans w71.symm)) (w62.trans (hk7.trans w72.symm)) (w63.trans (hk8.trans w73.symm)) (w64.trans (hk9.trans w74.symm)) (w65.trans (hk10.trans w75.symm)) (w66.trans (hk11.trans w76.symm)) (by omega) (w68.trans (hk13.trans w78.symm)) (w69.trans (hk14.trans w79.symm)) (w70.trans (hk15.trans w80.symm)) (by first | exact hI | exact TPL_k hd0 C96 C98 (by omega) | (exfalso; omega)) (by first | exact S104 | exact SCL_k hd1 hM (fun j _ => hI j) (fun j _ => hI j) hI | (exfalso; omega)) (by first | exact S106 | exact SCL_k hd2 hM2 (fun j _ => C94 j) (fun j _ => C95 j) (fun j _ _ => C97 j) | (exfalso; omega))
        · skip
          have hM107 : MW (dt51 80) := h50.2.2.1
          obtain ⟨h50_0, h50_1, h50_2, h50_3, h50_4, h50_5, h50_6, h50_7, h50_8, h50_9, h50_10⟩ := h50
          replace h50_0 := hid h50_0
          have w108 : dt51 79 12 = dt 79 12 := h50_8.trans w32
          have w109 : dt51 79 19 = dt 79 19 := h50_9.trans w33
          have w110 : dt51 79 21 = dt 79 21 := h50_10.trans w34
          have M2111 : MW (dt51 81) := MW_frk M241 hF53 (by decide)
          have y112 := h50_4 0 (by decide)
          have y113 := h50_4 1 (by decide)
          have y114 := h50_4 2 (by decide)
          have y115 := h50_4 3 (by decide)
          have y116 := h50_4 4 (by decide)
          have y117 := h50_4 5 (by decide)
          have y118 := h50_5 0 (by decide)
          have y119 := h50_5 1 (by decide)
          have y120 := h50_5 2 (by decide)
          have y121 := h50_5 3 (by decide)
          have y122 := h50_5 4 (by decide)
          have y123 := h50_5 5 (by decide)
          have C124 : ∀ j : Nat, dt51 19 j = dt 19 j := fun j => (hF53 19 (by decide) j).trans (C42 j)
          have C125 : ∀ j : Nat, dt51 20 j = dt 20 j := fun j => (hF53 20 (by decide) j).trans (C43 j)
          have C126 : ∀ j : Nat, dt51 36 j = dt 36 j := fun j => (hF53 36 (by decide) j).trans (C44 j)
          have C127 : ∀ j : Nat, dt51 81 j = dt 81 j := fun j => (hF53 81 (by decide) j).trans (C46 j)
          have C128 : ∀ j : Nat, dt51 85 j = dt 85 j := fun j => (hF53 85 (by decide) j).trans (C47 j)
          have C129 : ∀ j : Nat, j < 192 → dt51 2 j = dt 19 j := fun j hj => (hF53 2 (by decide) j).trans (h3_15 j hj)
          have C130 : ∀ j : Nat, j < 8 → dt51 3 j = dt 20 j := fun j hj => (hF53 3 (by decide) j).trans (h3_16 j hj)
          have C131 : ∀ j : Nat, j < 192 → dt51 19 j = dt 19 j := fun j hj => (hF53 19 (by decide) j).trans (h3_17 j hj)
          have C132 : ∀ j : Nat, j < 8 → dt51 20 j = dt 20 j := fun j hj => (hF53 20 (by decide) j).trans (h3_18 j hj)
          have F133 : ∀ j : Nat, 6 ≤ j → j < 974 → dt51 80 j = dt 81 j := fun j _ hj => (h50_6 j (by (first | omega | (have z0_ := unhid h50_0; omega)))).trans (C46 j)
          have S134 : SCL (dt51 2) (dt51 3) (dt51 80) := by first | exact SCL_k hd2 hM2 C129 C130 F133 | (exfalso; (first | omega | (have z0_ := unhid h50_0; omega)))
          have F135 : ∀ j : Nat, 6 ≤ j → j < 974 → dt51 81 j = dt 81 j := fun j _ hj => (h50_7 j (by (first | omega | (have z0_ := unhid h50_0; omega)))).trans (C46 j)
          have S136 : SCL (dt51 19) (dt51 20) (dt51 81) := by first | exact SCL_k hd2 hM2 C131 C132 F135 | (exfalso; (first | omega | (have z0_ := unhid h50_0; omega)))
          refine go_toq PM267 (k := 2) (pc' := 1435) (L' := [some (.inr (.inr (some 3000))), some (.inr (.inr (some 0))), some (.inr (.inr (some 79))), some (.inl i)]) (st' := []) (w' := (SH, dt51)) rfl ?_
          exact K dt51 hI52 hM107 M2111 (by first | (first | omega | (have z0_ := unhid h50_0; omega)) | (simp only [*]; done) | simp only [*]) (by (first | omega | (have z0_ := unhid h50_0; omega))) (by (first | omega | (have z0_ := unhid h50_0; omega))) (by (first | omega | (have z0_ := unhid h50_0; omega))) (by (first | omega | (have z0_ := unhid h50_0; omega))) (by (first | omega | (have z0_ := unhid h50_0; omega))) (w61.trans (hk6.trans w71.symm)) (w62.trans (hk7.trans w72.symm)) (w63.trans (hk8.trans w73.symm)) (w64.trans (hk9.trans w74.symm)) (w65.trans (hk10.trans w75.symm)) (w66.trans (hk11.trans w76.symm)) (by (first | omega | (have z0_ := unhid h50_0; omega))) (w68.trans (hk13.trans w108.symm)) (w69.trans (hk14.trans w109.symm)) (w70.trans (hk15.trans w110.symm)) (by first | exact hI | exact TPL_k hd0 C126 C128 (by (first | omega | (have z0_ := unhid h50_0; omega))) | (exfalso; (first | omega | (have z0_ := unhid h50_0; omega)))) (by first | exact S134 | exact SCL_k hd1 hM (fun j _ => hI j) (fun j _ => hI j) hI | (exfalso; (first | omega | (have z0_ := unhid h50_0; omega)))) (by first | exact S136 | exact SCL_k hd2 hM2 (fun j _ => C124 j) (fun j _ => C125 j) (fun j _ _ => C127 j) | (exfalso; (first | omega | (have z0_ := unhid h50_0; omega))))
      · skip
        replace c49 := hid c49
        refine go_toq PM267 (k := 2) (pc' := 1405) (L' := [some (.inr (.inr (some 3000))), some (.inr (.inr (some 0))), some (.inr (.inr (some 79))), some (.inl i)]) (st' := [.inl 1, .inr (.inr (some 79))]) (w' := (SH, dt4)) rfl ?_
        refine go_callq PM267 PM247 (Q' := _) rfl rfl rfl rfl (sp_X6_image_1v L xs sio (d + 38) dt4 hI5 hM8   ) ?_
        rintro _ _ ⟨dt138, rfl, hI139, hF140, h137⟩
        refine ⟨rfl, ?_⟩
        have hF141 : Fr [0, 1, 2, 3, 4, 5, 6, 7, 8, 9, 10, 11, 12, 13, 14, 15, 16, 17, 18, 19, 20, 21, 22, 23, 24, 25, 26, 27, 28, 29, 30, 31, 32, 33, 34, 35, 36, 37, 38, 39, 40, 41, 42, 43, 44, 45, 46, 47, 48, 49, 50, 51, 52, 53, 54, 55, 56, 57, 58, 59, 60, 61, 62, 63, 64, 65, 66, 67, 68, 69, 70, 71, 72, 73, 74, 75, 76, 77, 78, 79, 80, 81, 82, 83, 84, 85, 86, 87, 88, 89, 90, 91, 92, 93, 94, 95, 96, 97, 98, 99, 100, 101, 102, 103, 104] dt dt138 := Fr_tr hF7 hF140 (by decide)
        have hM142 : MW (dt138 80) := MW_fr hM8 hF140 (by decide)
        have w143 : dt138 1 0 = dt4 1 0 := hF140 1 (by decide) 0
        have w144 : dt138 7 3 = dt4 7 3 := hF140 7 (by decide) 3
        have w145 : dt138 10 3 = dt4 10 3 := hF140 10 (by decide) 3
        have w146 : dt138 12 3 = dt4 12 3 := hF140 12 (by decide) 3
        have w147 : dt138 14 3 = dt4 14 3 := hF140 14 (by decide) 3
        have w148 : dt138 16 3 = dt4 16 3 := hF140 16 (by decide) 3
        have w149 : dt138 18 0 = dt 18 0 := (hF140 18 (by decide) 0).trans w35
        have w150 : dt138 24 3 = dt 24 3 := (hF140 24 (by decide) 3).trans w36
        have w151 : dt138 27 3 = dt 27 3 := (hF140 27 (by decide) 3).trans w37
        have w152 : dt138 29 3 = dt 29 3 := (hF140 29 (by decide) 3).trans w38
        have w153 : dt138 31 3 = dt 31 3 := (hF140 31 (by decide) 3).trans w39
        have w154 : dt138 33 3 = dt 33 3 := (hF140 33 (by decide) 3).trans w40
        have w155 : dt138 0 2 = dt 0 2 := (hF140 0 (by decide) 2).trans w15
        have w156 : dt138 35 1 = dt 35 1 := (hF140 35 (by decide) 1).trans w16
        have w157 : dt138 35 2 = dt 35 2 := (hF140 35 (by decide) 2).trans w17
        have w158 : dt138 35 3 = dt 35 3 := (hF140 35 (by decide) 3).trans w18
        have w159 : dt138 80 0 = dt 80 0 := (hF140 80 (by decide) 0).trans w19
        have w160 : dt138 80 1 = dt 80 1 := (hF140 80 (by decide) 1).trans w20
        have w161 : dt138 80 2 = dt 80 2 := (hF140 80 (by decide) 2).trans w21
        have w162 : dt138 80 3 = dt 80 3 := (hF140 80 (by decide) 3).trans w22
        have w163 : dt138 80 4 = dt 80 4 := (hF140 80 (by decide) 4).trans w23
        have w164 : dt138 80 5 = dt 80 5 := (hF140 80 (by decide) 5).trans w24
        rcases h137 with ⟨rfl, h137⟩
        have hM165 : MW (dt138 80) := h137.2.1
        obtain ⟨h137_0, h137_1, h137_2, h137_3, h137_4, h137_5, h137_6, h137_7, h137_8, h137_9⟩ := h137
        have w166 : dt138 79 12 = dt 79 12 := h137_7.trans w32
        have w167 : dt138 79 19 = dt 79 19 := h137_8.trans w33
        have w168 : dt138 79 21 = dt 79 21 := h137_9.trans w34
        have y169 := h137_3 0 (by decide)
        have y170 := h137_3 1 (by decide)
        have y171 := h137_3 2 (by decide)
        have y172 := h137_3 3 (by decide)
        have y173 := h137_3 4 (by decide)
        have y174 := h137_3 5 (by decide)
        have y175 := h137_4 0 (by decide)
        have y176 := h137_4 1 (by decide)
        have y177 := h137_4 2 (by decide)
        have y178 := h137_4 3 (by decide)
        have y179 := h137_4 4 (by decide)
        have y180 := h137_4 5 (by decide)
        have C181 : ∀ j : Nat, dt138 19 j = dt 19 j := fun j => (hF140 19 (by decide) j).trans (C42 j)
        have C182 : ∀ j : Nat, dt138 20 j = dt 20 j := fun j => (hF140 20 (by decide) j).trans (C43 j)
        have C183 : ∀ j : Nat, dt138 36 j = dt 36 j := fun j => (hF140 36 (by decide) j).trans (C44 j)
        have C184 : ∀ j : Nat, dt138 80 j = dt 80 j := fun j => (hF140 80 (by decide) j).trans (C45 j)
        have C185 : ∀ j : Nat, dt138 85 j = dt 85 j := fun j => (hF140 85 (by decide) j).trans (C47 j)
        have C186 : ∀ j : Nat, j < 192 → dt138 2 j = dt 19 j := fun j hj => (hF140 2 (by decide) j).trans (h3_15 j hj)
        have C187 : ∀ j : Nat, j < 8 → dt138 3 j = dt 20 j := fun j hj => (hF140 3 (by decide) j).trans (h3_16 j hj)
        have C188 : ∀ j : Nat, j < 192 → dt138 19 j = dt 19 j := fun j hj => (hF140 19 (by decide) j).trans (h3_17 j hj)
        have C189 : ∀ j : Nat, j < 8 → dt138 20 j = dt 20 j := fun j hj => (hF140 20 (by decide) j).trans (h3_18 j hj)
        have F190 : ∀ j : Nat, 6 ≤ j → j < 974 → dt138 80 j = dt 80 j := fun j _ hj => (h137_5 j (by (first | omega | (have z0_ := unhid c49; omega)))).trans (C45 j)
        have S191 : SCL (dt138 2) (dt138 3) (dt138 80) := by first | exact SCL_k hd2 hM2 C186 C187 F190 | (exfalso; (first | omega | (have z0_ := unhid c49; omega)))
        have F192 : ∀ j : Nat, 6 ≤ j → j < 974 → dt138 81 j = dt 80 j := fun j _ hj => (h137_6 j (by (first | omega | (have z0_ := unhid c49; omega)))).trans (C45 j)
        have S193 : SCL (dt138 19) (dt138 20) (dt138 81) := by first | exact SCL_k hd2 hM2 C188 C189 F192 | (exfalso; (first | omega | (have z0_ := unhid c49; omega)))
        refine go_toq PM267 (k := 2) (pc' := 1435) (L' := [some (.inr (.inr (some 3000))), some (.inr (.inr (some 0))), some (.inr (.inr (some 79))), some (.inl i)]) (st' := []) (w' := (SH, dt138)) rfl ?_
        exact K dt138 hI139 hM165 h137_2 (by first | (first | omega | (have z0_ := unhid c49; omega)) | (simp only [*]; done) | simp only [*]) (by (first | omega | (have z0_ := unhid c49; omega))) (by (first | omega | (have z0_ := unhid c49; omega))) (by (first | omega | (have z0_ := unhid c49; omega))) (by (first | omega | (have z0_ := unhid c49; omega))) (by (first | omega | (have z0_ := unhid c49; omega))) (by (first | omega | (have z0_ := unhid c49; omega))) (by (first | omega | (have z0_ := unhid c49; omega))) (by (first | omega | (have z0_ := unhid c49; omega))) (by (first | omega | (have z0_ := unhid c49; omega))) (by (first | omega | (have z0_ := unhid c49; omega))) (by (first | omega | (have z0_ := unhid c49; omega))) (by (first | omega | (have z0_ := unhid c49; omega))) (w156.trans (hk13.trans w166.symm)) (w157.trans (hk14.trans w167.symm)) (w158.trans (hk15.trans w168.symm)) (by first | exact hI | exact TPL_k hd0 C183 C185 (by (first | omega | (have z0_ := unhid c49; omega))) | (exfalso; (first | omega | (have z0_ := unhid c49; omega)))) (by first | exact S191 | exact SCL_k hd1 hM (fun j _ => hI j) (fun j _ => hI j) (fun j _ _ => C184 j) | (exfalso; (first | omega | (have z0_ := unhid c49; omega)))) (by first | exact S193 | exact SCL_k hd2 hM2 (fun j _ => C181 j) (fun j _ => C182 j) hI | (exfalso; (first | omega | (have z0_ := unhid c49; omega))))
    · skip
      obtain ⟨h3_0, h3_1, h3_2, h3_3, h3_4, h3_5, h3_6, h3_7, h3_8, h3_9, h3_10, h3_11, h3_12, h3_13, h3_14, h3_15, h3_16, h3_17, h3_18⟩ := h3
      have w194 : dt4 1 0 = dt 1 0 := h3_3
      have w195 : dt4 7 3 = dt 7 3 := h3_4
      have w196 : dt4 10 3 = dt 10 3 := h3_5
      have w197 : dt4 12 3 = dt 12 3 := h3_6
      have w198 : dt4 14 3 = dt 14 3 := h3_7
      have w199 : dt4 16 3 = dt 16 3 := h3_8
      have w200 : dt4 18 0 = dt 18 0 := h3_9
      have w201 : dt4 24 3 = dt 24 3 := h3_10
      have w202 : dt4 27 3 = dt 27 3 := h3_11
      have w203 : dt4 29 3 = dt 29 3 := h3_12
      have w204 : dt4 31 3 = dt 31 3 := h3_13
      have w205 : dt4 33 3 = dt 33 3 := h3_14
      have M2206 : MW (dt4 81) := MW_frk hM2 hF6 (by decide)
      have C207 : ∀ j : Nat, dt4 19 j = dt 19 j := fun j => (hF6 19 (by decide) j).trans ((fun _ => rfl) j)
      have C208 : ∀ j : Nat, dt4 20 j = dt 20 j := fun j => (hF6 20 (by decide) j).trans ((fun _ => rfl) j)
      have C209 : ∀ j : Nat, dt4 36 j = dt 36 j := fun j => (hF6 36 (by decide) j).trans ((fun _ => rfl) j)
      have C210 : ∀ j : Nat, dt4 80 j = dt 80 j := fun j => (hF6 80 (by decide) j).trans ((fun _ => rfl) j)
      have C211 : ∀ j : Nat, dt4 81 j = dt 81 j := fun j => (hF6 81 (by decide) j).trans ((fun _ => rfl) j)
      have C212 : ∀ j : Nat, dt4 85 j = dt 85 j := fun j => (hF6 85 (by decide) j).trans ((fun _ => rfl) j)
      refine go_toq PM267 (k := 6) (pc' := 1396) (L' := [some (.inr (.inr (some 3000))), some (.inr (.inr (some 0))), some (.inr (.inr (some 79))), some (.inl i)]) (st' := [.inl (i + 1), .inr (.inr (some 3000)), .inr (.inr (some 79))]) (w' := (SH, dt4)) rfl ?_
      have r213 := i32_R (xs ((i + 1).toNat))
      refine go_smpq PM267 (L' := [some (.inr (.inr (some 3000))), some (.inr (.inr (some 0))), some (.inr (.inr (some 79))), some (.inl i)]) (st' := [.inl ((xs ((i + 1).toNat)).toInt), .inr (.inr (some 79))]) (w' := (SH, dt4)) rfl rfl (s_iald (n := L) (f := fun j => (xs j).toInt) (am_scr hLL) ⟨by omega, by omega⟩) ?_
      refine go_ifq PM267 (k := 0) (p1 := 1404) (p2 := 1400) (L' := [some (.inr (.inr (some 3000))), some (.inr (.inr (some 0))), some (.inr (.inr (some 79))), some (.inl i)]) (st' := [.inr (.inr (some 79))]) (w' := (SH, dt4)) rfl (z_eq (a := (xs ((i + 1).toNat)).toInt) ⟨by omega, by omega⟩) (fun c214 => ?_) (fun c214 => ?_)
      · skip
        refine go_toq PM267 (k := 1) (pc' := 1405) (L' := [some (.inr (.inr (some 3000))), some (.inr (.inr (some 0))), some (.inr (.inr (some 79))), some (.inl i)]) (st' := [.inl 0, .inr (.inr (some 79))]) (w' := (SH, dt4)) rfl ?_
        refine go_callq PM267 PM247 (Q' := _) rfl rfl rfl rfl (sp_X6_image_0v L xs sio (d + 38) dt4 hI5 hM8   (by first | exact True.intro | with_reducible assumption | rfl | omega | trivial | exact M2206 | exact hd1)) ?_
        rintro _ _ ⟨dt216, rfl, hI217, hF218, h215⟩
        refine ⟨rfl, ?_⟩
        have hF219 : Fr [0, 1, 2, 3, 4, 5, 6, 7, 8, 9, 10, 11, 12, 13, 14, 15, 16, 17, 18, 19, 20, 21, 22, 23, 24, 25, 26, 27, 28, 29, 30, 31, 32, 33, 34, 35, 36, 37, 38, 39, 40, 41, 42, 43, 44, 45, 46, 47, 48, 49, 50, 51, 52, 53, 54, 55, 56, 57, 58, 59, 60, 61, 62, 63, 64, 65, 66, 67, 68, 69, 70, 71, 72, 73, 74, 75, 76, 77, 78, 79, 80, 81, 82, 83, 84, 85, 86, 87, 88, 89, 90, 91, 92, 93, 94, 95, 96, 97, 98, 99, 100, 101, 102, 103, 104] dt dt216 := Fr_tr hF7 hF218 (by decide)
        have w220 : dt216 1 0 = dt 1 0 := (hF218 1 (by decide) 0).trans w194
        have w221 : dt216 7 3 = dt 7 3 := (hF218 7 (by decide) 3).trans w195
        have w222 : dt216 10 3 = dt 10 3 := (hF218 10 (by decide) 3).trans w196
        have w223 : dt216 12 3 = dt 12 3 := (hF218 12 (by decide) 3).trans w197
        have w224 : dt216 14 3 = dt 14 3 := (hF218 14 (by decide) 3).trans w198
        have w225 : dt216 16 3 = dt 16 3 := (hF218 16 (by decide) 3).trans w199
        have w226 : dt216 18 0 = dt 18 0 := (hF218 18 (by decide) 0).trans w200
        have w227 : dt216 24 3 = dt 24 3 := (hF218 24 (by decide) 3).trans w201
        have w228 : dt216 27 3 = dt 27 3 := (hF218 27 (by decide) 3).trans w202
        have w229 : dt216 29 3 = dt 29 3 := (hF218 29 (by decide) 3).trans w203
        have w230 : dt216 31 3 = dt 31 3 := (hF218 31 (by decide) 3).trans w204
        have w231 : dt216 33 3 = dt 33 3 := (hF218 33 (by decide) 3).trans w205
        have w232 : dt216 0 2 = dt 0 2 := (hF218 0 (by decide) 2).trans w15
        have w233 : dt216 35 1 = dt 35 1 := (hF218 35 (by decide) 1).trans w16
        have w234 : dt216 35 2 = dt 35 2 := (hF218 35 (by decide) 2).trans w17
        have w235 : dt216 35 3 = dt 35 3 := (hF218 35 (by decide) 3).trans w18
        have w236 : dt216 81 0 = dt 81 0 := (hF218 81 (by decide) 0).trans w25
        have w237 : dt216 81 1 = dt 81 1 := (hF218 81 (by decide) 1).trans w26
        have w238 : dt216 81 2 = dt 81 2 := (hF218 81 (by decide) 2).trans w27
        have w239 : dt216 81 3 = dt 81 3 := (hF218 81 (by decide) 3).trans w28
        have w240 : dt216 81 4 = dt 81 4 := (hF218 81 (by decide) 4).trans w29
        have w241 : dt216 81 5 = dt 81 5 := (hF218 81 (by decide) 5).trans w30
        rcases h215 with ⟨rfl, h215⟩ | ⟨rfl, h215⟩
        · skip
          have hM242 : MW (dt216 80) := h215.2.2.1
          obtain ⟨h215_0, h215_1, h215_2, h215_3, h215_4, h215_5, h215_6, h215_7, h215_8, h215_9, h215_10⟩ := h215
          have w243 : dt216 79 12 = dt 79 12 := h215_8.trans w32
          have w244 : dt216 79 19 = dt 79 19 := h215_9.trans w33
          have w245 : dt216 79 21 = dt 79 21 := h215_10.trans w34
          have M2246 : MW (dt216 81) := MW_frk M2206 hF218 (by decide)
          have y247 := h215_4 0 (by decide)
          have y248 := h215_4 1 (by decide)
          have y249 := h215_4 2 (by decide)
          have y250 := h215_4 3 (by decide)
          have y251 := h215_4 4 (by decide)
          have y252 := h215_4 5 (by decide)
          have y253 := h215_5 0 (by decide)
          have y254 := h215_5 1 (by decide)
          have y255 := h215_5 2 (by decide)
          have y256 := h215_5 3 (by decide)
          have y257 := h215_5 4 (by decide)
          have y258 := h215_5 5 (by decide)
          have C259 : ∀ j : Nat, dt216 19 j = dt 19 j := fun j => (hF218 19 (by decide) j).trans (C207 j)
          have C260 : ∀ j : Nat, dt216 20 j = dt 20 j := fun j => (hF218 20 (by decide) j).trans (C208 j)
          have C261 : ∀ j : Nat, dt216 36 j = dt 36 j := fun j => (hF218 36 (by decide) j).trans (C209 j)
          have C262 : ∀ j : Nat, dt216 81 j = dt 81 j := fun j => (hF218 81 (by decide) j).trans (C211 j)
          have C263 : ∀ j : Nat, dt216 85 j = dt 85 j := fun j => (hF218 85 (by decide) j).trans (C212 j)
          have C264 : ∀ j : Nat, j < 192 → dt216 2 j = dt 2 j := fun j hj => (hF218 2 (by decide) j).trans (h3_15 j hj)
          have C265 : ∀ j : Nat, j < 8 → dt216 3 j = dt 3 j := fun j hj => (hF218 3 (by decide) j).trans (h3_16 j hj)
          have C266 : ∀ j : Nat, j < 192 → dt216 19 j = dt 19 j := fun j hj => (hF218 19 (by decide) j).trans (h3_17 j hj)
          have C267 : ∀ j : Nat, j < 8 → dt216 20 j = dt 20 j := fun j hj => (hF218 20 (by decide) j).trans (h3_18 j hj)
          have F268 : ∀ j : Nat, 6 ≤ j → j < 974 → dt216 80 j = dt 80 j := fun j _ hj => (h215_6 j (by omega)).trans (C210 j)
          have S269 : SCL (dt216 2) (dt216 3) (dt216 80) := by first | exact SCL_k hd1 hM C264 C265 F268 | (exfalso; omega)
          have F270 : ∀ j : Nat, 6 ≤ j → j < 974 → dt216 81 j = dt 81 j := fun j _ hj => (h215_7 j (by omega)).trans (C211 j)
          have S271 : SCL (dt216 19) (dt216 20) (dt216 81) := by first | exact SCL_k hd2 hM2 C266 C267 F270 | (exfalso; omega)
          refine go_toq PM267 (k := 2) (pc' := 1435) (L' := [some (.inr (.inr (some 3000))), some (.inr (.inr (some 0))), some (.inr (.inr (some 79))), some (.inl i)]) (st' := []) (w' := (SH, dt216)) rfl ?_
          exact K dt216 hI217 hM242 M2246 (by first | omega | (simp only [*]; done) | simp only [*]) (by omega) (by omega) (by omega) (by omega) (by omega) (w226.trans (hk6.trans w236.symm)) (w227.trans (hk7.trans w237.symm)) (w228.trans (hk8.trans w238.symm)) (w229.trans (hk9.trans w239.symm)) (w230.trans (hk10.trans w240.symm)) (w231.trans (hk11.trans w241.symm)) (by omega) (w233.trans (hk13.trans w243.symm)) (w234.trans (hk14.trans w244.symm)) (w235.trans (hk15.trans w245.symm)) (by first | exact hI | exact TPL_k hd0 C261 C263 (by omega) | (exfalso; omega)) (by first | exact S269 | exact SCL_k hd1 hM (fun j _ => hI j) (fun j _ => hI j) hI | (exfalso; omega)) (by first | exact S271 | exact SCL_k hd2 hM2 (fun j _ => C259 j) (fun j _ => C260 j) (fun j _ _ => C262 j) | (exfalso; omega))
        · skip
          have hM272 : MW (dt216 80) := h215.2.2.1
          obtain ⟨h215_0, h215_1, h215_2, h215_3, h215_4, h215_5, h215_6, h215_7, h215_8, h215_9, h215_10⟩ := h215
          replace h215_0 := hid h215_0
          have w273 : dt216 79 12 = dt 79 12 := h215_8.trans w32
          have w274 : dt216 79 19 = dt 79 19 := h215_9.trans w33
          have w275 : dt216 79 21 = dt 79 21 := h215_10.trans w34
          have M2276 : MW (dt216 81) := MW_frk M2206 hF218 (by decide)
          have y277 := h215_4 0 (by decide)
          have y278 := h215_4 1 (by decide)
          have y279 := h215_4 2 (by decide)
          have y280 := h215_4 3 (by decide)
          have y281 := h215_4 4 (by decide)
          have y282 := h215_4 5 (by decide)
          have y283 := h215_5 0 (by decide)
          have y284 := h215_5 1 (by decide)
          have y285 := h215_5 2 (by decide)
          have y286 := h215_5 3 (by decide)
          have y287 := h215_5 4 (by decide)
          have y288 := h215_5 5 (by decide)
          have C289 : ∀ j : Nat, dt216 19 j = dt 19 j := fun j => (hF218 19 (by decide) j).trans (C207 j)
          have C290 : ∀ j : Nat, dt216 20 j = dt 20 j := fun j => (hF218 20 (by decide) j).trans (C208 j)
          have C291 : ∀ j : Nat, dt216 36 j = dt 36 j := fun j => (hF218 36 (by decide) j).trans (C209 j)
          have C292 : ∀ j : Nat, dt216 81 j = dt 81 j := fun j => (hF218 81 (by decide) j).trans (C211 j)
          have C293 : ∀ j : Nat, dt216 85 j = dt 85 j := fun j => (hF218 85 (by decide) j).trans (C212 j)
          have C294 : ∀ j : Nat, j < 192 → dt216 2 j = dt 2 j := fun j hj => (hF218 2 (by decide) j).trans (h3_15 j hj)
          have C295 : ∀ j : Nat, j < 8 → dt216 3 j = dt 3 j := fun j hj => (hF218 3 (by decide) j).trans (h3_16 j hj)
          have C296 : ∀ j : Nat, j < 192 → dt216 19 j = dt 19 j := fun j hj => (hF218 19 (by decide) j).trans (h3_17 j hj)
          have C297 : ∀ j : Nat, j < 8 → dt216 20 j = dt 20 j := fun j hj => (hF218 20 (by decide) j).trans (h3_18 j hj)
          have F298 : ∀ j : Nat, 6 ≤ j → j < 974 → dt216 80 j = dt 81 j := fun j _ hj => (h215_6 j (by (first | omega | (have z0_ := unhid h215_0; omega)))).trans (C211 j)
          have S299 : SCL (dt216 2) (dt216 3) (dt216 80) := by first | exact SCL_k hd1 hM C294 C295 F298 | (exfalso; (first | omega | (have z0_ := unhid h215_0; omega)))
          have F300 : ∀ j : Nat, 6 ≤ j → j < 974 → dt216 81 j = dt 81 j := fun j _ hj => (h215_7 j (by (first | omega | (have z0_ := unhid h215_0; omega)))).trans (C211 j)
          have S301 : SCL (dt216 19) (dt216 20) (dt216 81) := by first | exact SCL_k hd2 hM2 C296 C297 F300 | (exfalso; (first | omega | (have z0_ := unhid h215_0; omega)))
          refine go_toq PM267 (k := 2) (pc' := 1435) (L' := [some (.inr (.inr (some 3000))), some (.inr (.inr (some 0))), some (.inr (.inr (some 79))), some (.inl i)]) (st' := []) (w' := (SH, dt216)) rfl ?_
          exact K dt216 hI217 hM272 M2276 (by first | (first | omega | (have z0_ := unhid h215_0; omega)) | (simp only [*]; done) | simp only [*]) (by (first | omega | (have z0_ := unhid h215_0; omega))) (by (first | omega | (have z0_ := unhid h215_0; omega))) (by (first | omega | (have z0_ := unhid h215_0; omega))) (by (first | omega | (have z0_ := unhid h215_0; omega))) (by (first | omega | (have z0_ := unhid h215_0; omega))) (w226.trans (hk6.trans w236.symm)) (w227.trans (hk7.trans w237.symm)) (w228.trans (hk8.trans w238.symm)) (w229.trans (hk9.trans w239.symm)) (w230.trans (hk10.trans w240.symm)) (w231.trans (hk11.trans w241.symm)) (by (first | omega | (have z0_ := unhid h215_0; omega))) (w233.trans (hk13.trans w273.symm)) (w234.trans (hk14.trans w274.symm)) (w235.trans (hk15.trans w275.symm)) (by first | exact hI | exact TPL_k hd0 C291 C293 (by (first | omega | (have z0_ := unhid h215_0; omega))) | (exfalso; (first | omega | (have z0_ := unhid h215_0; omega)))) (by first | exact S299 | exact SCL_k hd1 hM (fun j _ => hI j) (fun j _ => hI j) hI | (exfalso; (first | omega | (have z0_ := unhid h215_0; omega)))) (by first | exact S301 | exact SCL_k hd2 hM2 (fun j _ => C289 j) (fun j _ => C290 j) (fun j _ _ => C292 j) | (exfalso; (first | omega | (have z0_ := unhid h215_0; omega))))
      · skip
        replace c214 := hid c214
        refine go_toq PM267 (k := 2) (pc' := 1405) (L' := [some (.inr (.inr (some 3000))), some (.inr (.inr (some 0))), some (.inr (.inr (some 79))), some (.inl i)]) (st' := [.inl 1, .inr (.inr (some 79))]) (w' := (SH, dt4)) rfl ?_
        refine go_callq PM267 PM247 (Q' := _) rfl rfl rfl rfl (sp_X6_image_1v L xs sio (d + 38) dt4 hI5 hM8   ) ?_
        rintro _ _ ⟨dt303, rfl, hI304, hF305, h302⟩
        refine ⟨rfl, ?_⟩
        have hF306 : Fr [0, 1, 2, 3, 4, 5, 6, 7, 8, 9, 10, 11, 12, 13, 14, 15, 16, 17, 18, 19, 20, 21, 22, 23, 24, 25, 26, 27, 28, 29, 30, 31, 32, 33, 34, 35, 36, 37, 38, 39, 40, 41, 42, 43, 44, 45, 46, 47, 48, 49, 50, 51, 52, 53, 54, 55, 56, 57, 58, 59, 60, 61, 62, 63, 64, 65, 66, 67, 68, 69, 70, 71, 72, 73, 74, 75, 76, 77, 78, 79, 80, 81, 82, 83, 84, 85, 86, 87, 88, 89, 90, 91, 92, 93, 94, 95, 96, 97, 98, 99, 100, 101, 102, 103, 104] dt dt303 := Fr_tr hF7 hF305 (by decide)
        have hM307 : MW (dt303 80) := MW_fr hM8 hF305 (by decide)
        have w308 : dt303 1 0 = dt 1 0 := (hF305 1 (by decide) 0).trans w194
        have w309 : dt303 7 3 = dt 7 3 := (hF305 7 (by decide) 3).trans w195
        have w310 : dt303 10 3 = dt 10 3 := (hF305 10 (by decide) 3).trans w196
        have w311 : dt303 12 3 = dt 12 3 := (hF305 12 (by decide) 3).trans w197
        have w312 : dt303 14 3 = dt 14 3 := (hF305 14 (by decide) 3).trans w198
        have w313 : dt303 16 3 = dt 16 3 := (hF305 16 (by decide) 3).trans w199
        have w314 : dt303 18 0 = dt 18 0 := (hF305 18 (by decide) 0).trans w200
        have w315 : dt303 24 3 = dt 24 3 := (hF305 24 (by decide) 3).trans w201
        have w316 : dt303 27 3 = dt 27 3 := (hF305 27 (by decide) 3).trans w202
        have w317 : dt303 29 3 = dt 29 3 := (hF305 29 (by decide) 3).trans w203
        have w318 : dt303 31 3 = dt 31 3 := (hF305 31 (by decide) 3).trans w204
        have w319 : dt303 33 3 = dt 33 3 := (hF305 33 (by decide) 3).trans w205
        have w320 : dt303 0 2 = dt 0 2 := (hF305 0 (by decide) 2).trans w15
        have w321 : dt303 35 1 = dt 35 1 := (hF305 35 (by decide) 1).trans w16
        have w322 : dt303 35 2 = dt 35 2 := (hF305 35 (by decide) 2).trans w17
        have w323 : dt303 35 3 = dt 35 3 := (hF305 35 (by decide) 3).trans w18
        have w324 : dt303 80 0 = dt 80 0 := (hF305 80 (by decide) 0).trans w19
        have w325 : dt303 80 1 = dt 80 1 := (hF305 80 (by decide) 1).trans w20
        have w326 : dt303 80 2 = dt 80 2 := (hF305 80 (by decide) 2).trans w21
        have w327 : dt303 80 3 = dt 80 3 := (hF305 80 (by decide) 3).trans w22
        have w328 : dt303 80 4 = dt 80 4 := (hF305 80 (by decide) 4).trans w23
        have w329 : dt303 80 5 = dt 80 5 := (hF305 80 (by decide) 5).trans w24
        rcases h302 with ⟨rfl, h302⟩
        have hM330 : MW (dt303 80) := h302.2.1
        obtain ⟨h302_0, h302_1, h302_2, h302_3, h302_4, h302_5, h302_6, h302_7, h302_8, h302_9⟩ := h302
        have w331 : dt303 79 12 = dt 79 12 := h302_7.trans w32
        have w332 : dt303 79 19 = dt 79 19 := h302_8.trans w33
        have w333 : dt303 79 21 = dt 79 21 := h302_9.trans w34
        have y334 := h302_3 0 (by decide)
        have y335 := h302_3 1 (by decide)
        have y336 := h302_3 2 (by decide)
        have y337 := h302_3 3 (by decide)
        have y338 := h302_3 4 (by decide)
        have y339 := h302_3 5 (by decide)
        have y340 := h302_4 0 (by decide)
        have y341 := h302_4 1 (by decide)
        have y342 := h302_4 2 (by decide)
        have y343 := h302_4 3 (by decide)
        have y344 := h302_4 4 (by decide)
        have y345 := h302_4 5 (by decide)
        have C346 : ∀ j : Nat, dt303 19 j = dt 19 j := fun j => (hF305 19 (by decide) j).trans (C207 j)
        have C347 : ∀ j : Nat, dt303 20 j = dt 20 j := fun j => (hF305 20 (by decide) j).trans (C208 j)
        have C348 : ∀ j : Nat, dt303 36 j = dt 36 j := fun j => (hF305 36 (by decide) j).trans (C209 j)
        have C349 : ∀ j : Nat, dt303 80 j = dt 80 j := fun j => (hF305 80 (by decide) j).trans (C210 j)
        have C350 : ∀ j : Nat, dt303 85 j = dt 85 j := fun j => (hF305 85 (by decide) j).trans (C212 j)
        have C351 : ∀ j : Nat, j < 192 → dt303 2 j = dt 2 j := fun j hj => (hF305 2 (by decide) j).trans (h3_15 j hj)
        have C352 : ∀ j : Nat, j < 8 → dt303 3 j = dt 3 j := fun j hj => (hF305 3 (by decide) j).trans (h3_16 j hj)
        have C353 : ∀ j : Nat, j < 192 → dt303 19 j = dt 19 j := fun j hj => (hF305 19 (by decide) j).trans (h3_17 j hj)
        have C354 : ∀ j : Nat, j < 8 → dt303 20 j = dt 20 j := fun j hj => (hF305 20 (by decide) j).trans (h3_18 j hj)
        have F355 : ∀ j : Nat, 6 ≤ j → j < 974 → dt303 80 j = dt 80 j := fun j _ hj => (h302_5 j (by (first | omega | (have z0_ := unhid c214; omega)))).trans (C210 j)
        have S356 : SCL (dt303 2) (dt303 3) (dt303 80) := by first | exact SCL_k hd1 hM C351 C352 F355 | (exfalso; (first | omega | (have z0_ := unhid c214; omega)))
        have F357 : ∀ j : Nat, 6 ≤ j → j < 974 → dt303 81 j = dt 80 j := fun j _ hj => (h302_6 j (by (first | omega | (have z0_ := unhid c214; omega)))).trans (C210 j)
        have S358 : SCL (dt303 19) (dt303 20) (dt303 81) := by first | exact SCL_k hd2 hM2 C353 C354 F357 | (exfalso; (first | omega | (have z0_ := unhid c214; omega)))
        refine go_toq PM267 (k := 2) (pc' := 1435) (L' := [some (.inr (.inr (some 3000))), some (.inr (.inr (some 0))), some (.inr (.inr (some 79))), some (.inl i)]) (st' := []) (w' := (SH, dt303)) rfl ?_
        exact K dt303 hI304 hM330 h302_2 (w308.trans (hk0.trans w324.symm)) (w309.trans (hk1.trans w325.symm)) (w310.trans (hk2.trans w326.symm)) (w311.trans (hk3.trans w327.symm)) (w312.trans (hk4.trans w328.symm)) (w313.trans (hk5.trans w329.symm)) (by (first | omega | (have z0_ := unhid c214; omega))) (by (first | omega | (have z0_ := unhid c214; omega))) (by (first | omega | (have z0_ := unhid c214; omega))) (by (first | omega | (have z0_ := unhid c214; omega))) (by (first | omega | (have z0_ := unhid c214; omega))) (by (first | omega | (have z0_ := unhid c214; omega))) (by (first | omega | (have z0_ := unhid c214; omega))) (w321.trans (hk13.trans w331.symm)) (w322.trans (hk14.trans w332.symm)) (w323.trans (hk15.trans w333.symm)) (by first | exact hI | exact TPL_k hd0 C348 C350 (by (first | omega | (have z0_ := unhid c214; omega))) | (exfalso; (first | omega | (have z0_ := unhid c214; omega)))) (by first | exact S356 | exact SCL_k hd1 hM (fun j _ => hI j) (fun j _ => hI j) (fun j _ _ => C349 j) | (exfalso; (first | omega | (have z0_ := unhid c214; omega)))) (by first | exact S358 | exact SCL_k hd2 hM2 (fun j _ => C346 j) (fun j _ => C347 j) hI | (exfalso; (first | omega | (have z0_ := unhid c214; omega))))
  · skip
    replace c2 := hid c2
    refine go_toq PM267 (k := 2) (pc' := 1387) (L' := [some (.inr (.inr (some 3000))), some (.inr (.inr (some 0))), some (.inr (.inr (some 79))), some (.inl i)]) (st' := [.inl 1, .inr (.inr (some 0))]) (w' := (SH, dt)) rfl ?_
    refine go_callq PM267 PM98 (Q' := _) rfl rfl rfl rfl (sp_X5_image_1s L xs sio (d + 35) dt hI   ) ?_
    rintro _ _ ⟨dt360, rfl, hI361, hF362, h359⟩
    refine ⟨rfl, ?_⟩
    have hF363 : Fr [0, 1, 2, 3, 4, 5, 6, 7, 8, 9, 10, 11, 12, 13, 14, 15, 16, 17, 18, 19, 20, 21, 22, 23, 24, 25, 26, 27, 28, 29, 30, 31, 32, 33, 34, 35, 36, 37, 38, 39, 40, 41, 42, 43, 44, 45, 46, 47, 48, 49, 50, 51, 52, 53, 54, 55, 56, 57, 58, 59, 60, 61, 62, 63, 64, 65, 66, 67, 68, 69, 70, 71, 72, 73, 74, 75, 76, 77, 78, 79, 80, 81, 82, 83, 84, 85, 86, 87, 88, 89, 90, 91, 92, 93, 94, 95, 96, 97, 98, 99, 100, 101, 102, 103, 104] dt dt360 := Fr_tr hF hF362 (by decide)
    have hM364 : MW (dt360 80) := MW_fr hM hF362 (by decide)
    have w365 : dt360 1 0 = dt 1 0 := hF362 1 (by decide) 0
    have w366 : dt360 7 3 = dt 7 3 := hF362 7 (by decide) 3
    have w367 : dt360 10 3 = dt 10 3 := hF362 10 (by decide) 3
    have w368 : dt360 12 3 = dt 12 3 := hF362 12 (by decide) 3
    have w369 : dt360 14 3 = dt 14 3 := hF362 14 (by decide) 3
    have w370 : dt360 16 3 = dt 16 3 := hF362 16 (by decide) 3
    have w371 : dt360 35 1 = dt 35 1 := hF362 35 (by decide) 1
    have w372 : dt360 35 2 = dt 35 2 := hF362 35 (by decide) 2
    have w373 : dt360 35 3 = dt 35 3 := hF362 35 (by decide) 3
    have w374 : dt360 80 0 = dt 80 0 := hF362 80 (by decide) 0
    have w375 : dt360 80 1 = dt 80 1 := hF362 80 (by decide) 1
    have w376 : dt360 80 2 = dt 80 2 := hF362 80 (by decide) 2
    have w377 : dt360 80 3 = dt 80 3 := hF362 80 (by decide) 3
    have w378 : dt360 80 4 = dt 80 4 := hF362 80 (by decide) 4
    have w379 : dt360 80 5 = dt 80 5 := hF362 80 (by decide) 5
    have w380 : dt360 81 0 = dt 81 0 := hF362 81 (by decide) 0
    have w381 : dt360 81 1 = dt 81 1 := hF362 81 (by decide) 1
    have w382 : dt360 81 2 = dt 81 2 := hF362 81 (by decide) 2
    have w383 : dt360 81 3 = dt 81 3 := hF362 81 (by decide) 3
    have w384 : dt360 81 4 = dt 81 4 := hF362 81 (by decide) 4
    have w385 : dt360 81 5 = dt 81 5 := hF362 81 (by decide) 5
    have w386 : dt360 79 2 = dt 79 2 := hF362 79 (by decide) 2
    have w387 : dt360 79 12 = dt 79 12 := hF362 79 (by decide) 12
    have w388 : dt360 79 19 = dt 79 19 := hF362 79 (by decide) 19
    have w389 : dt360 79 21 = dt 79 21 := hF362 79 (by decide) 21
    rcases h359 with ⟨v_h359, rfl, h359r, h359⟩
    obtain ⟨h359_0, h359_1, h359_2, h359_3, h359_4, h359_5, h359_6, h359_7, h359_8, h359_9, h359_10, h359_11, h359_12, h359_13, h359_14, h359_15, h359_16, h359_17⟩ := h359
    have w390 : dt360 1 0 = dt 1 0 := h359_2
    have w391 : dt360 7 3 = dt 7 3 := h359_3
    have w392 : dt360 10 3 = dt 10 3 := h359_4
    have w393 : dt360 12 3 = dt 12 3 := h359_5
    have w394 : dt360 14 3 = dt 14 3 := h359_6
    have w395 : dt360 16 3 = dt 16 3 := h359_7
    have M2396 : MW (dt360 81) := MW_frk hM2 hF362 (by decide)
    have C397 : ∀ j : Nat, dt360 2 j = dt 2 j := fun j => (hF362 2 (by decide) j).trans ((fun _ => rfl) j)
    have C398 : ∀ j : Nat, dt360 3 j = dt 3 j := fun j => (hF362 3 (by decide) j).trans ((fun _ => rfl) j)
    have C399 : ∀ j : Nat, dt360 36 j = dt 36 j := fun j => (hF362 36 (by decide) j).trans ((fun _ => rfl) j)
    have C400 : ∀ j : Nat, dt360 80 j = dt 80 j := fun j => (hF362 80 (by decide) j).trans ((fun _ => rfl) j)
    have C401 : ∀ j : Nat, dt360 81 j = dt 81 j := fun j => (hF362 81 (by decide) j).trans ((fun _ => rfl) j)
    have C402 : ∀ j : Nat, dt360 85 j = dt 85 j := fun j => (hF362 85 (by decide) j).trans ((fun _ => rfl) j)
    refine go_toq PM267 (k := 6) (pc' := 1396) (L' := [some (.inr (.inr (some 3000))), some (.inr (.inr (some 0))), some (.inr (.inr (some 79))), some (.inl i)]) (st' := [.inl (i + 1), .inr (.inr (some 3000)), .inr (.inr (some 79))]) (w' := (SH, dt360)) rfl ?_
    have r403 := i32_R (xs ((i + 1).toNat))
    refine go_smpq PM267 (L' := [some (.inr (.inr (some 3000))), some (.inr (.inr (some 0))), some (.inr (.inr (some 79))), some (.inl i)]) (st' := [.inl ((xs ((i + 1).toNat)).toInt), .inr (.inr (some 79))]) (w' := (SH, dt360)) rfl rfl (s_iald (n := L) (f := fun j => (xs j).toInt) (am_scr hLL) ⟨by (first | omega | (have z0_ := unhid c2; omega)), by (first | omega | (have z0_ := unhid c2; omega))⟩) ?_
    refine go_ifq PM267 (k := 0) (p1 := 1404) (p2 := 1400) (L' := [some (.inr (.inr (some 3000))), some (.inr (.inr (some 0))), some (.inr (.inr (some 79))), some (.inl i)]) (st' := [.inr (.inr (some 79))]) (w' := (SH, dt360)) rfl (z_eq (a := (xs ((i + 1).toNat)).toInt) ⟨by (first | omega | (have z0_ := unhid c2; omega)), by (first | omega | (have z0_ := unhid c2; omega))⟩) (fun c404 => ?_) (fun c404 => ?_)
    · skip
      refine go_toq PM267 (k := 1) (pc' := 1405) (L' := [some (.inr (.inr (some 3000))), some (.inr (.inr (some 0))), some (.inr (.inr (some 79))), some (.inl i)]) (st' := [.inl 0, .inr (.inr (some 79))]) (w' := (SH, dt360)) rfl ?_
      refine go_callq PM267 PM247 (Q' := _) rfl rfl rfl rfl (sp_X6_image_0v L xs sio (d + 38) dt360 hI361 hM364   (by first | exact True.intro | with_reducible assumption | exact unhid (by with_reducible assumption) | rfl | (first | omega | (have z0_ := unhid c2; omega)) | trivial | exact M2396 | exact hd1)) ?_
      rintro _ _ ⟨dt406, rfl, hI407, hF408, h405⟩
      refine ⟨rfl, ?_⟩
      have hF409 : Fr [0, 1, 2, 3, 4, 5, 6, 7, 8, 9, 10, 11, 12, 13, 14, 15, 16, 17, 18, 19, 20, 21, 22, 23, 24, 25, 26, 27, 28, 29, 30, 31, 32, 33, 34, 35, 36, 37, 38, 39, 40, 41, 42, 43, 44, 45, 46, 47, 48, 49, 50, 51, 52, 53, 54, 55, 56, 57, 58, 59, 60, 61, 62, 63, 64, 65, 66, 67, 68, 69, 70, 71, 72, 73, 74, 75, 76, 77, 78, 79, 80, 81, 82, 83, 84, 85, 86, 87, 88, 89, 90, 91, 92, 93, 94, 95, 96, 97, 98, 99, 100, 101, 102, 103, 104] dt dt406 := Fr_tr hF363 hF408 (by decide)
      have w410 : dt406 1 0 = dt 1 0 := (hF408 1 (by decide) 0).trans w390
      have w411 : dt406 7 3 = dt 7 3 := (hF408 7 (by decide) 3).trans w391
      have w412 : dt406 10 3 = dt 10 3 := (hF408 10 (by decide) 3).trans w392
      have w413 : dt406 12 3 = dt 12 3 := (hF408 12 (by decide) 3).trans w393
      have w414 : dt406 14 3 = dt 14 3 := (hF408 14 (by decide) 3).trans w394
      have w415 : dt406 16 3 = dt 16 3 := (hF408 16 (by decide) 3).trans w395
      have w416 : dt406 18 0 = dt360 18 0 := hF408 18 (by decide) 0
      have w417 : dt406 24 3 = dt360 24 3 := hF408 24 (by decide) 3
      have w418 : dt406 27 3 = dt360 27 3 := hF408 27 (by decide) 3
      have w419 : dt406 29 3 = dt360 29 3 := hF408 29 (by decide) 3
      have w420 : dt406 31 3 = dt360 31 3 := hF408 31 (by decide) 3
      have w421 : dt406 33 3 = dt360 33 3 := hF408 33 (by decide) 3
      have w422 : dt406 0 2 = dt360 0 2 := hF408 0 (by decide) 2
      have w423 : dt406 35 1 = dt 35 1 := (hF408 35 (by decide) 1).trans w371
      have w424 : dt406 35 2 = dt 35 2 := (hF408 35 (by decide) 2).trans w372
      have w425 : dt406 35 3 = dt 35 3 := (hF408 35 (by decide) 3).trans w373
      have w426 : dt406 81 0 = dt 81 0 := (hF408 81 (by decide) 0).trans w380
      have w427 : dt406 81 1 = dt 81 1 := (hF408 81 (by decide) 1).trans w381
      have w428 : dt406 81 2 = dt 81 2 := (hF408 81 (by decide) 2).trans w382
      have w429 : dt406 81 3 = dt 81 3 := (hF408 81 (by decide) 3).trans w383
      have w430 : dt406 81 4 = dt 81 4 := (hF408 81 (by decide) 4).trans w384
      have w431 : dt406 81 5 = dt 81 5 := (hF408 81 (by decide) 5).trans w385
      rcases h405 with ⟨rfl, h405⟩ | ⟨rfl, h405⟩
      · skip
        have hM432 : MW (dt406 80) := h405.2.2.1
        obtain ⟨h405_0, h405_1, h405_2, h405_3, h405_4, h405_5, h405_6, h405_7, h405_8, h405_9, h405_10⟩ := h405
        have w433 : dt406 79 12 = dt 79 12 := h405_8.trans w387
        have w434 : dt406 79 19 = dt 79 19 := h405_9.trans w388
        have w435 : dt406 79 21 = dt 79 21 := h405_10.trans w389
        have M2436 : MW (dt406 81) := MW_frk M2396 hF408 (by decide)
        have y437 := h405_4 0 (by decide)
        have y438 := h405_4 1 (by decide)
        have y439 := h405_4 2 (by decide)
        have y440 := h405_4 3 (by decide)
        have y441 := h405_4 4 (by decide)
        have y442 := h405_4 5 (by decide)
        have y443 := h405_5 0 (by decide)
        have y444 := h405_5 1 (by decide)
        have y445 := h405_5 2 (by decide)
        have y446 := h405_5 3 (by decide)
        have y447 := h405_5 4 (by decide)
        have y448 := h405_5 5 (by decide)
        have C449 : ∀ j : Nat, dt406 2 j = dt 2 j := fun j => (hF408 2 (by decide) j).trans (C397 j)
        have C450 : ∀ j : Nat, dt406 3 j = dt 3 j := fun j => (hF408 3 (by decide) j).trans (C398 j)
        have C451 : ∀ j : Nat, dt406 36 j = dt 36 j := fun j => (hF408 36 (by decide) j).trans (C399 j)
        have C452 : ∀ j : Nat, dt406 81 j = dt 81 j := fun j => (hF408 81 (by decide) j).trans (C401 j)
        have C453 : ∀ j : Nat, dt406 85 j = dt 85 j := fun j => (hF408 85 (by decide) j).trans (C402 j)
        have C454 : ∀ j : Nat, j < 192 → dt406 2 j = dt 2 j := fun j hj => (hF408 2 (by decide) j).trans (h359_14 j hj)
        have C455 : ∀ j : Nat, j < 8 → dt406 3 j = dt 3 j := fun j hj => (hF408 3 (by decide) j).trans (h359_15 j hj)
        have C456 : ∀ j : Nat, j < 192 → dt406 19 j = dt 2 j := fun j hj => (hF408 19 (by decide) j).trans (h359_16 j hj)
        have C457 : ∀ j : Nat, j < 8 → dt406 20 j = dt 3 j := fun j hj => (hF408 20 (by decide) j).trans (h359_17 j hj)
        have F458 : ∀ j : Nat, 6 ≤ j → j < 974 → dt406 80 j = dt 80 j := fun j _ hj => (h405_6 j (by (first | omega | (have z0_ := unhid c2; omega)))).trans (C400 j)
        have S459 : SCL (dt406 2) (dt406 3) (dt406 80) := by first | exact SCL_k hd1 hM C454 C455 F458 | (exfalso; (first | omega | (have z0_ := unhid c2; omega)))
        have F460 : ∀ j : Nat, 6 ≤ j → j < 974 → dt406 81 j = dt 81 j := fun j _ hj => (h405_7 j (by (first | omega | (have z0_ := unhid c2; omega)))).trans (C401 j)
        have S461 : SCL (dt406 19) (dt406 20) (dt406 81) := by first | exact SCL_k hd1 hM C456 C457 F460 | (exfalso; (first | omega | (have z0_ := unhid c2; omega)))
        refine go_toq PM267 (k := 2) (pc' := 1435) (L' := [some (.inr (.inr (some 3000))), some (.inr (.inr (some 0))), some (.inr (.inr (some 79))), some (.inl i)]) (st' := []) (w' := (SH, dt406)) rfl ?_
        exact K dt406 hI407 hM432 M2436 (by first | (first | omega | (have z0_ := unhid c2; omega)) | (simp only [*]; done) | simp only [*]) (by (first | omega | (have z0_ := unhid c2; omega))) (by (first | omega | (have z0_ := unhid c2; omega))) (by (first | omega | (have z0_ := unhid c2; omega))) (by (first | omega | (have z0_ := unhid c2; omega))) (by (first | omega | (have z0_ := unhid c2; omega))) (by (first | omega | (have z0_ := unhid c2; omega))) (by (first | omega | (have z0_ := unhid c2; omega))) (by (first | omega | (have z0_ := unhid c2; omega))) (by (first | omega | (have z0_ := unhid c2; omega))) (by (first | omega | (have z0_ := unhid c2; omega))) (by (first | omega | (have z0_ := unhid c2; omega))) (by (first | omega | (have z0_ := unhid c2; omega))) (w423.trans (hk13.trans w433.symm)) (w424.trans (hk14.trans w434.symm)) (w425.trans (hk15.trans w435.symm)) (by first | exact hI | exact TPL_k hd0 C451 C453 (by (first | omega | (have z0_ := unhid c2; omega))) | (exfalso; (first | omega | (have z0_ := unhid c2; omega)))) (by first | exact S459 | exact SCL_k hd1 hM (fun j _ => C449 j) (fun j _ => C450 j) hI | (exfalso; (first | omega | (have z0_ := unhid c2; omega)))) (by first | exact S461 | exact SCL_k hd2 hM2 (fun j _ => hI j) (fun j _ => hI j) (fun j _ _ => C452 j) | (exfalso; (first | omega | (have z0_ := unhid c2; omega))))
      · skip
        have hM462 : MW (dt406 80) := h405.2.2.1
        obtain ⟨h405_0, h405_1, h405_2, h405_3, h405_4, h405_5, h405_6, h405_7, h405_8, h405_9, h405_10⟩ := h405
        replace h405_0 := hid h405_0
        have w463 : dt406 79 12 = dt 79 12 := h405_8.trans w387
        have w464 : dt406 79 19 = dt 79 19 := h405_9.trans w388
        have w465 : dt406 79 21 = dt 79 21 := h405_10.trans w389
        have M2466 : MW (dt406 81) := MW_frk M2396 hF408 (by decide)
        have y467 := h405_4 0 (by decide)
        have y468 := h405_4 1 (by decide)
        have y469 := h405_4 2 (by decide)
        have y470 := h405_4 3 (by decide)
        have y471 := h405_4 4 (by decide)
        have y472 := h405_4 5 (by decide)
        have y473 := h405_5 0 (by decide)
        have y474 := h405_5 1 (by decide)
        have y475 := h405_5 2 (by decide)
        have y476 := h405_5 3 (by decide)
        have y477 := h405_5 4 (by decide)
        have y478 := h405_5 5 (by decide)
        have C479 : ∀ j : Nat, dt406 2 j = dt 2 j := fun j => (hF408 2 (by decide) j).trans (C397 j)
        have C480 : ∀ j : Nat, dt406 3 j = dt 3 j := fun j => (hF408 3 (by decide) j).trans (C398 j)
        have C481 : ∀ j : Nat, dt406 36 j = dt 36 j := fun j => (hF408 36 (by decide) j).trans (C399 j)
        have C482 : ∀ j : Nat, dt406 81 j = dt 81 j := fun j => (hF408 81 (by decide) j).trans (C401 j)
        have C483 : ∀ j : Nat, dt406 85 j = dt 85 j := fun j => (hF408 85 (by decide) j).trans (C402 j)
        have C484 : ∀ j : Nat, j < 192 → dt406 2 j = dt 2 j := fun j hj => (hF408 2 (by decide) j).trans (h359_14 j hj)
        have C485 : ∀ j : Nat, j < 8 → dt406 3 j = dt 3 j := fun j hj => (hF408 3 (by decide) j).trans (h359_15 j hj)
        have C486 : ∀ j : Nat, j < 192 → dt406 19 j = dt 2 j := fun j hj => (hF408 19 (by decide) j).trans (h359_16 j hj)
        have C487 : ∀ j : Nat, j < 8 → dt406 20 j = dt 3 j := fun j hj => (hF408 20 (by decide) j).trans (h359_17 j hj)
        have F488 : ∀ j : Nat, 6 ≤ j → j < 974 → dt406 80 j = dt 81 j := fun j _ hj => (h405_6 j (by (first | omega | (have z0_ := unhid c2; have z1_ := unhid h405_0; omega)))).trans (C401 j)
        have S489 : SCL (dt406 2) (dt406 3) (dt406 80) := by first | exact SCL_k hd1 hM C484 C485 F488 | (exfalso; (first | omega | (have z0_ := unhid c2; have z1_ := unhid h405_0; omega)))
        have F490 : ∀ j : Nat, 6 ≤ j → j < 974 → dt406 81 j = dt 81 j := fun j _ hj => (h405_7 j (by (first | omega | (have z0_ := unhid c2; have z1_ := unhid h405_0; omega)))).trans (C401 j)
        have S491 : SCL (dt406 19) (dt406 20) (dt406 81) := by first | exact SCL_k hd1 hM C486 C487 F490 | (exfalso; (first | omega | (have z0_ := unhid c2; have z1_ := unhid h405_0; omega)))
        refine go_toq PM267 (k := 2) (pc' := 1435) (L' := [some (.inr (.inr (some 3000))), some (.inr (.inr (some 0))), some (.inr (.inr (some 79))), some (.inl i)]) (st' := []) (w' := (SH, dt406)) rfl ?_
        exact K dt406 hI407 hM462 M2466 (by first | (first | omega | (have z0_ := unhid c2; have z1_ := unhid h405_0; omega)) | (simp only [*]; done) | simp only [*]) (by (first | omega | (have z0_ := unhid c2; have z1_ := unhid h405_0; omega))) (by (first | omega | (have z0_ := unhid c2; have z1_ := unhid h405_0; omega))) (by (first | omega | (have z0_ := unhid c2; have z1_ := unhid h405_0; omega))) (by (first | omega | (have z0_ := unhid c2; have z1_ := unhid h405_0; omega))) (by (first | omega | (have z0_ := unhid c2; have z1_ := unhid h405_0; omega))) (by (first | omega | (have z0_ := unhid c2; have z1_ := unhid h405_0; omega))) (by (first | omega | (have z0_ := unhid c2; have z1_ := unhid h405_0; omega))) (by (first | omega | (have z0_ := unhid c2; have z1_ := unhid h405_0; omega))) (by (first | omega | (have z0_ := unhid c2; have z1_ := unhid h405_0; omega))) (by (first | omega | (have z0_ := unhid c2; have z1_ := unhid h405_0; omega))) (by (first | omega | (have z0_ := unhid c2; have z1_ := unhid h405_0; omega))) (by (first | omega | (have z0_ := unhid c2; have z1_ := unhid h405_0; omega))) (w423.trans (hk13.trans w463.symm)) (w424.trans (hk14.trans w464.symm)) (w425.trans (hk15.trans w465.symm)) (by first | exact hI | exact TPL_k hd0 C481 C483 (by (first | omega | (have z0_ := unhid c2; have z1_ := unhid h405_0; omega))) | (exfalso; (first | omega | (have z0_ := unhid c2; have z1_ := unhid h405_0; omega)))) (by first | exact S489 | exact SCL_k hd1 hM (fun j _ => C479 j) (fun j _ => C480 j) hI | (exfalso; (first | omega | (have z0_ := unhid c2; have z1_ := unhid h405_0; omega)))) (by first | exact S491 | exact SCL_k hd2 hM2 (fun j _ => hI j) (fun j _ => hI j) (fun j _ _ => C482 j) | (exfalso; (first | omega | (have z0_ := unhid c2; have z1_ := unhid h405_0; omega))))
    · skip
      replace c404 := hid c404
      refine go_toq PM267 (k := 2) (pc' := 1405) (L' := [some (.inr (.inr (some 3000))), some (.inr (.inr (some 0))), some (.inr (.inr (some 79))), some (.inl i)]) (st' := [.inl 1, .inr (.inr (some 79))]) (w' := (SH, dt360)) rfl ?_
      refine go_callq PM267 PM247 (Q' := _) rfl rfl rfl rfl (sp_X6_image_1v L xs sio (d + 38) dt360 hI361 hM364   ) ?_
      rintro _ _ ⟨dt493, rfl, hI494, hF495, h492⟩
      refine ⟨rfl, ?_⟩
      have hF496 : Fr [0, 1, 2, 3, 4, 5, 6, 7, 8, 9, 10, 11, 12, 13, 14, 15, 16, 17, 18, 19, 20, 21, 22, 23, 24, 25, 26, 27, 28, 29, 30, 31, 32, 33, 34, 35, 36, 37, 38, 39, 40, 41, 42, 43, 44, 45, 46, 47, 48, 49, 50, 51, 52, 53, 54, 55, 56, 57, 58, 59, 60, 61, 62, 63, 64, 65, 66, 67, 68, 69, 70, 71, 72, 73, 74, 75, 76, 77, 78, 79, 80, 81, 82, 83, 84, 85, 86, 87, 88, 89, 90, 91, 92, 93, 94, 95, 96, 97, 98, 99, 100, 101, 102, 103, 104] dt dt493 := Fr_tr hF363 hF495 (by decide)
      have hM497 : MW (dt493 80) := MW_fr hM364 hF495 (by decide)
      have w498 : dt493 1 0 = dt 1 0 := (hF495 1 (by decide) 0).trans w390
      have w499 : dt493 7 3 = dt 7 3 := (hF495 7 (by decide) 3).trans w391
      have w500 : dt493 10 3 = dt 10 3 := (hF495 10 (by decide) 3).trans w392
      have w501 : dt493 12 3 = dt 12 3 := (hF495 12 (by decide) 3).trans w393
      have w502 : dt493 14 3 = dt 14 3 := (hF495 14 (by decide) 3).trans w394
      have w503 : dt493 16 3 = dt 16 3 := (hF495 16 (by decide) 3).trans w395
      have w504 : dt493 18 0 = dt360 18 0 := hF495 18 (by decide) 0
      have w505 : dt493 24 3 = dt360 24 3 := hF495 24 (by decide) 3
      have w506 : dt493 27 3 = dt360 27 3 := hF495 27 (by decide) 3
      have w507 : dt493 29 3 = dt360 29 3 := hF495 29 (by decide) 3
      have w508 : dt493 31 3 = dt360 31 3 := hF495 31 (by decide) 3
      have w509 : dt493 33 3 = dt360 33 3 := hF495 33 (by decide) 3
      have w510 : dt493 0 2 = dt360 0 2 := hF495 0 (by decide) 2
      have w511 : dt493 35 1 = dt 35 1 := (hF495 35 (by decide) 1).trans w371
      have w512 : dt493 35 2 = dt 35 2 := (hF495 35 (by decide) 2).trans w372
      have w513 : dt493 35 3 = dt 35 3 := (hF495 35 (by decide) 3).trans w373
      have w514 : dt493 80 0 = dt 80 0 := (hF495 80 (by decide) 0).trans w374
      have w515 : dt493 80 1 = dt 80 1 := (hF495 80 (by decide) 1).trans w375
      have w516 : dt493 80 2 = dt 80 2 := (hF495 80 (by decide) 2).trans w376
      have w517 : dt493 80 3 = dt 80 3 := (hF495 80 (by decide) 3).trans w377
      have w518 : dt493 80 4 = dt 80 4 := (hF495 80 (by decide) 4).trans w378
      have w519 : dt493 80 5 = dt 80 5 := (hF495 80 (by decide) 5).trans w379
      rcases h492 with ⟨rfl, h492⟩
      have hM520 : MW (dt493 80) := h492.2.1
      obtain ⟨h492_0, h492_1, h492_2, h492_3, h492_4, h492_5, h492_6, h492_7, h492_8, h492_9⟩ := h492
      have w521 : dt493 79 12 = dt 79 12 := h492_7.trans w387
      have w522 : dt493 79 19 = dt 79 19 := h492_8.trans w388
      have w523 : dt493 79 21 = dt 79 21 := h492_9.trans w389
      have y524 := h492_3 0 (by decide)
      have y525 := h492_3 1 (by decide)
      have y526 := h492_3 2 (by decide)
      have y527 := h492_3 3 (by decide)
      have y528 := h492_3 4 (by decide)
      have y529 := h492_3 5 (by decide)
      have y530 := h492_4 0 (by decide)
      have y531 := h492_4 1 (by decide)
      have y532 := h492_4 2 (by decide)
      have y533 := h492_4 3 (by decide)
      have y534 := h492_4 4 (by decide)
      have y535 := h492_4 5 (by decide)
      have C536 : ∀ j : Nat, dt493 2 j = dt 2 j := fun j => (hF495 2 (by decide) j).trans (C397 j)
      have C537 : ∀ j : Nat, dt493 3 j = dt 3 j := fun j => (hF495 3 (by decide) j).trans (C398 j)
      have C538 : ∀ j : Nat, dt493 36 j = dt 36 j := fun j => (hF495 36 (by decide) j).trans (C399 j)
      have C539 : ∀ j : Nat, dt493 80 j = dt 80 j := fun j => (hF495 80 (by decide) j).trans (C400 j)
      have C540 : ∀ j : Nat, dt493 85 j = dt 85 j := fun j => (hF495 85 (by decide) j).trans (C402 j)
      have C541 : ∀ j : Nat, j < 192 → dt493 2 j = dt 2 j := fun j hj => (hF495 2 (by decide) j).trans (h359_14 j hj)
      have C542 : ∀ j : Nat, j < 8 → dt493 3 j = dt 3 j := fun j hj => (hF495 3 (by decide) j).trans (h359_15 j hj)
      have C543 : ∀ j : Nat, j < 192 → dt493 19 j = dt 2 j := fun j hj => (hF495 19 (by decide) j).trans (h359_16 j hj)
      have C544 : ∀ j : Nat, j < 8 → dt493 20 j = dt 3 j := fun j hj => (hF495 20 (by decide) j).trans (h359_17 j hj)
      have F545 : ∀ j : Nat, 6 ≤ j → j < 974 → dt493 80 j = dt 80 j := fun j _ hj => (h492_5 j (by (first | omega | (have z0_ := unhid c2; have z1_ := unhid c404; omega)))).trans (C400 j)
      have S546 : SCL (dt493 2) (dt493 3) (dt493 80) := by first | exact SCL_k hd1 hM C541 C542 F545 | (exfalso; (first | omega | (have z0_ := unhid c2; have z1_ := unhid c404; omega)))
      have F547 : ∀ j : Nat, 6 ≤ j → j < 974 → dt493 81 j = dt 80 j := fun j _ hj => (h492_6 j (by (first | omega | (have z0_ := unhid c2; have z1_ := unhid c404; omega)))).trans (C400 j)
      have S548 : SCL (dt493 19) (dt493 20) (dt493 81) := by first | exact SCL_k hd1 hM C543 C544 F547 | (exfalso; (first | omega | (have z0_ := unhid c2; have z1_ := unhid c404; omega)))
      refine go_toq PM267 (k := 2) (pc' := 1435) (L' := [some (.inr (.inr (some 3000))), some (.inr (.inr (some 0))), some (.inr (.inr (some 79))), some (.inl i)]) (st' := []) (w' := (SH, dt493)) rfl ?_
      exact K dt493 hI494 hM520 h492_2 (w498.trans (hk0.trans w514.symm)) (w499.trans (hk1.trans w515.symm)) (w500.trans (hk2.trans w516.symm)) (w501.trans (hk3.trans w517.symm)) (w502.trans (hk4.trans w518.symm)) (w503.trans (hk5.trans w519.symm)) (by (first | omega | (have z0_ := unhid c2; have z1_ := unhid c404; omega))) (by (first | omega | (have z0_ := unhid c2; have z1_ := unhid c404; omega))) (by (first | omega | (have z0_ := unhid c2; have z1_ := unhid c404; omega))) (by (first | omega | (have z0_ := unhid c2; have z1_ := unhid c404; omega))) (by (first | omega | (have z0_ := unhid c2; have z1_ := unhid c404; omega))) (by (first | omega | (have z0_ := unhid c2; have z1_ := unhid c404; omega))) (by (first | omega | (have z0_ := unhid c2; have z1_ := unhid c404; omega))) (w511.trans (hk13.trans w521.symm)) (w512.trans (hk14.trans w522.symm)) (w513.trans (hk15.trans w523.symm)) (by first | exact hI | exact TPL_k hd0 C538 C540 (by (first | omega | (have z0_ := unhid c2; have z1_ := unhid c404; omega))) | (exfalso; (first | omega | (have z0_ := unhid c2; have z1_ := unhid c404; omega)))) (by first | exact S546 | exact SCL_k hd1 hM (fun j _ => C536 j) (fun j _ => C537 j) (fun j _ _ => C539 j) | (exfalso; (first | omega | (have z0_ := unhid c2; have z1_ := unhid c404; omega)))) (by first | exact S548 | exact SCL_k hd2 hM2 (fun j _ => hI j) (fun j _ => hI j) hI | (exfalso; (first | omega | (have z0_ := unhid c2; have z1_ := unhid c404; omega))))
set_option maxRecDepth 20000 in
set_option maxHeartbeats 8000000 in
theorem sp_case32 (L : Nat) (xs : Nat → Int32) (sio : Option Nat) (d : Nat) (Q : Option AV → am_W → Prop) (hLL : L ≤ 3072) (i : Int) (hi : 0 ≤ i ∧ i ≤ 3066) (hil : i ≤ (L : Int) - 6) (dt : Nat → Nat → Int) (hI : InvC dt) (hM : MW (dt 80)) (hM2 : MW (dt 81)) (hk0 : dt 1 0 = dt 80 0) (hk1 : dt 7 3 = dt 80 1) (hk2 : dt 10 3 = dt 80 2) (hk3 : dt 12 3 = dt 80 3) (hk4 : dt 14 3 = dt 80 4) (hk5 : dt 16 3 = dt 80 5) (hk6 : dt 18 0 = dt 81 0) (hk7 : dt 24 3 = dt 81 1) (hk8 : dt 27 3 = dt 81 2) (hk9 : dt 29 3 = dt 81 3) (hk10 : dt 31 3 = dt 81 4) (hk11 : dt 33 3 = dt 81 5) (hk12 : dt 0 2 = dt 79 2) (hk13 : dt 35 1 = dt 79 12) (hk14 : dt 35 2 = dt 79 19) (hk15 : dt 35 3 = dt 79 21) (hd0 : TPL (dt 36) (dt 85) (dt 35 1)) (hd1 : SCL (dt 2) (dt 3) (dt 80)) (hd2 : SCL (dt 19) (dt 20) (dt 81)) (K : ∀ (dt : Nat → Nat → Int) (hI : InvC dt) (hM : MW (dt 80)) (hM2 : MW (dt 81)) (hk0 : dt 1 0 = dt 80 0) (hk1 : dt 7 3 = dt 80 1) (hk2 : dt 10 3 = dt 80 2) (hk3 : dt 12 3 = dt 80 3) (hk4 : dt 14 3 = dt 80 4) (hk5 : dt 16 3 = dt 80 5) (hk6 : dt 18 0 = dt 81 0) (hk7 : dt 24 3 = dt 81 1) (hk8 : dt 27 3 = dt 81 2) (hk9 : dt 29 3 = dt 81 3) (hk10 : dt 31 3 = dt 81 4) (hk11 : dt 33 3 = dt 81 5) (hk12 : dt 0 2 = dt 79 2) (hk13 : dt 35 1 = dt 79 12) (hk14 : dt 35 2 = dt 79 19) (hk15 : dt 35 3 = dt 79 21) (hd0 : TPL (dt 36) (dt 85) (dt 35 1)) (hd1 : SCL (dt 2) (dt 3) (dt 80)) (hd2 : SCL (dt 19) (dt 20) (dt 81)), GO (am_XX L xs sio) (d + 39) 267 1435 [some (.inr (.inr (some 3000))), some (.inr (.inr (some 0))), some (.inr (.inr (some 79))), some (.inl i)] [] (SH, dt) Q) : GO (am_XX L xs sio) (d + 39) 267 1412 [some (.inr (.inr (some 3000))), some (.inr (.inr (some 0))), some (.inr (.inr (some 79))), some (.inl i)] [] (SH, dt) Q := by
  have hF : Fr [0, 1, 2, 3, 4, 5, 6, 7, 8, 9, 10, 11, 12, 13, 14, 15, 16, 17, 18, 19, 20, 21, 22, 23, 24, 25, 26, 27, 28, 29, 30, 31, 32, 33, 34, 35, 36, 37, 38, 39, 40, 41, 42, 43, 44, 45, 46, 47, 48, 49, 50, 51, 52, 53, 54, 55, 56, 57, 58, 59, 60, 61, 62, 63, 64, 65, 66, 67, 68, 69, 70, 71, 72, 73, 74, 75, 76, 77, 78, 79, 80, 81, 82, 83, 84, 85, 86, 87, 88, 89, 90, 91, 92, 93, 94, 95, 96, 97, 98, 99, 100, 101, 102, 103, 104] dt dt := Fr_refl
  refine go_toq PM267 (k := 5) (pc' := 1417) (L' := [some (.inr (.inr (some 3000))), some (.inr (.inr (some 0))), some (.inr (.inr (some 79))), some (.inl i)]) (st' := [.inl (i + 1), .inr (.inr (some 3000)), .inr (.inr (some 0))]) (w' := (SH, dt)) rfl ?_
  have r1 := i32_R (xs ((i + 1).toNat))
  refine go_smpq PM267 (L' := [some (.inr (.inr (some 3000))), some (.inr (.inr (some 0))), some (.inr (.inr (some 79))), some (.inl i)]) (st' := [.inl ((xs ((i + 1).toNat)).toInt), .inr (.inr (some 0))]) (w' := (SH, dt)) rfl rfl (s_iald (n := L) (f := fun j => (xs j).toInt) (am_scr hLL) ⟨by omega, by omega⟩) ?_
  refine go_callq PM267 PM99 (Q' := _) rfl rfl rfl rfl (sp_X5_look L xs sio (d + 38) dt hI  ((xs ((i + 1).toNat)).toInt) ⟨by omega, by omega⟩ ) ?_
  rintro _ _ ⟨rfl, h2⟩
  refine ⟨rfl, ?_⟩
  rcases h2 with ⟨rfl, h2⟩ | ⟨rfl, h2⟩ | ⟨rfl, h2⟩ | ⟨rfl, h2⟩ | ⟨rfl, h2⟩ | ⟨rfl, h2⟩ | ⟨rfl, h2⟩ | ⟨rfl, h2⟩ | ⟨rfl, h2⟩
  · skip
    refine go_toq PM267 (k := 6) (pc' := 1427) (L' := [some (.inr (.inr (some 3000))), some (.inr (.inr (some 0))), some (.inr (.inr (some 79))), some (.inl i)]) (st' := [.inl (i + 1), .inr (.inr (some 3000)), .inr (.inr (some 79))]) (w' := (SH, dt)) rfl ?_
    refine go_smpq PM267 (L' := [some (.inr (.inr (some 3000))), some (.inr (.inr (some 0))), some (.inr (.inr (some 79))), some (.inl i)]) (st' := [.inl ((xs ((i + 1).toNat)).toInt), .inr (.inr (some 79))]) (w' := (SH, dt)) rfl rfl (s_iald (n := L) (f := fun j => (xs j).toInt) (am_scr hLL) ⟨by omega, by omega⟩) ?_
    refine go_callq PM267 PM248 (Q' := _) rfl rfl rfl rfl (sp_X6_look L xs sio (d + 38) dt hI  ((xs ((i + 1).toNat)).toInt) ⟨by omega, by omega⟩ ) ?_
    rintro _ _ ⟨rfl, h3⟩
    refine ⟨rfl, ?_⟩
    rcases h3 with ⟨rfl, h3⟩ | ⟨rfl, h3⟩ | ⟨rfl, h3⟩ | ⟨rfl, h3⟩ | ⟨rfl, h3⟩ | ⟨rfl, h3⟩ | ⟨rfl, h3⟩ | ⟨rfl, h3⟩ | ⟨rfl, h3⟩
    · skip
      refine go_toq PM267 (k := 2) (pc' := 1435) (L' := [some (.inr (.inr (some 3000))), some (.inr (.inr (some 0))), some (.inr (.inr (some 79))), some (.inl i)]) (st' := []) (w' := (SH, dt)) rfl ?_
      exact K dt hI hM hM2 hk0 hk1 hk2 hk3 hk4 hk5 hk6 hk7 hk8 hk9 hk10 hk11 hk12 hk13 hk14 hk15 (by first | exact hI | exact TPL_k hd0 (fun _ => rfl) (fun _ => rfl) (by omega) | (exfalso; omega)) (by first | exact hI | exact SCL_k hd1 hM (fun j _ => (fun _ => rfl) j) (fun j _ => (fun _ => rfl) j) (fun j _ _ => (fun _ => rfl) j) | (exfalso; omega)) (by first | exact hI | exact SCL_k hd2 hM2 (fun j _ => (fun _ => rfl) j) (fun j _ => (fun _ => rfl) j) (fun j _ _ => (fun _ => rfl) j) | (exfalso; omega))
    · skip
      refine go_toq PM267 (k := 2) (pc' := 1435) (L' := [some (.inr (.inr (some 3000))), some (.inr (.inr (some 0))), some (.inr (.inr (some 79))), some (.inl i)]) (st' := []) (w' := (SH, dt)) rfl ?_
      exact K dt hI hM hM2 hk0 hk1 hk2 hk3 hk4 hk5 hk6 hk7 hk8 hk9 hk10 hk11 hk12 hk13 hk14 hk15 (by first | exact hI | exact TPL_k hd0 (fun _ => rfl) (fun _ => rfl) (by omega) | (exfalso; omega)) (by first | exact hI | exact SCL_k hd1 hM (fun j _ => (fun _ => rfl) j) (fun j _ => (fun _ => rfl) j) (fun j _ _ => (fun _ => rfl) j) | (exfalso; omega)) (by first | exact hI | exact SCL_k hd2 hM2 (fun j _ => (fun _ => rfl) j) (fun j _ => (fun _ => rfl) j) (fun j _ _ => (fun _ => rfl) j) | (exfalso; omega))
    · skip
      refine go_toq PM267 (k := 2) (pc' := 1435) (L' := [some (.inr (.inr (some 3000))), some (.inr (.inr (some 0))), some (.inr (.inr (some 79))), some (.inl i)]) (st' := []) (w' := (SH, dt)) rfl ?_
      exact K dt hI hM hM2 hk0 hk1 hk2 hk3 hk4 hk5 hk6 hk7 hk8 hk9 hk10 hk11 hk12 hk13 hk14 hk15 (by first | exact hI | exact TPL_k hd0 (fun _ => rfl) (fun _ => rfl) (by omega) | (exfalso; omega)) (by first | exact hI | exact SCL_k hd1 hM (fun j _ => (fun _ => rfl) j) (fun j _ => (fun _ => rfl) j) (fun j _ _ => (fun _ => rfl) j) | (exfalso; omega)) (by first | exact hI | exact SCL_k hd2 hM2 (fun j _ => (fun _ => rfl) j) (fun j _ => (fun _ => rfl) j) (fun j _ _ => (fun _ => rfl) j) | (exfalso; omega))
    · skip
      refine go_toq PM267 (k := 2) (pc' := 1435) (L' := [some (.inr (.inr (some 3000))), some (.inr (.inr (some 0))), some (.inr (.inr (some 79))), some (.inl i)]) (st' := []) (w' := (SH, dt)) rfl ?_
      exact K dt hI hM hM2 hk0 hk1 hk2 hk3 hk4 hk5 hk6 hk7 hk8 hk9 hk10 hk11 hk12 hk13 hk14 hk15 (by first | exact hI | exact TPL_k hd0 (fun _ => rfl) (fun _ => rfl) (by omega) | (exfalso; omega)) (by first | exact hI | exact SCL_k hd1 hM (fun j _ => (fun _ => rfl) j) (fun j _ => (fun _ => rfl) j) (fun j _ _ => (fun _ => rfl) j) | (exfalso; omega)) (by first | exact hI | exact SCL_k hd2 hM2 (fun j _ => (fun _ => rfl) j) (fun j _ => (fun _ => rfl) j) (fun j _ _ => (fun _ => rfl) j) | (exfalso; omega))
    · skip
      refine go_toq PM267 (k := 2) (pc' := 1435) (L' := [some (.inr (.inr (some 3000))), some (.inr (.inr (some 0))), some (.inr (.inr (some 79))), some (.inl i)]) (st' := []) (w' := (SH, dt)) rfl ?_
      exact K dt hI hM hM2 hk0 hk1 hk2 hk3 hk4 hk5 hk6 hk7 hk8 hk9 hk10 hk11 hk12 hk13 hk14 hk15 (by first | exact hI | exact TPL_k hd0 (fun _ => rfl) (fun _ => rfl) (by omega) | (exfalso; omega)) (by first | exact hI | exact SCL_k hd1 hM (fun j _ => (fun _ => rfl) j) (fun j _ => (fun _ => rfl) j) (fun j _ _ => (fun _ => rfl) j) | (exfalso; omega)) (by first | exact hI | exact SCL_k hd2 hM2 (fun j _ => (fun _ => rfl) j) (fun j _ => (fun _ => rfl) j) (fun j _ _ => (fun _ => rfl) j) | (exfalso; omega))
    · skip
      refine go_toq PM267 (k := 2) (pc' := 1435) (L' := [some (.inr (.inr (some 3000))), some (.inr (.inr (some 0))), some (.inr (.inr (some 79))), some (.inl i)]) (st' := []) (w' := (SH, dt)) rfl ?_
      exact K dt hI hM hM2 hk0 hk1 hk2 hk3 hk4 hk5 hk6 hk7 hk8 hk9 hk10 hk11 hk12 hk13 hk14 hk15 (by first | exact hI | exact TPL_k hd0 (fun _ => rfl) (fun _ => rfl) (by omega) | (exfalso; omega)) (by first | exact hI | exact SCL_k hd1 hM (fun j _ => (fun _ => rfl) j) (fun j _ => (fun _ => rfl) j) (fun j _ _ => (fun _ => rfl) j) | (exfalso; omega)) (by first | exact hI | exact SCL_k hd2 hM2 (fun j _ => (fun _ => rfl) j) (fun j _ => (fun _ => rfl) j) (fun j _ _ => (fun _ => rfl) j) | (exfalso; omega))
    · skip
      obtain ⟨h3_0, h3_1⟩ := h3
      replace h3_1 := hid h3_1
      refine go_toq PM267 (k := 2) (pc' := 1435) (L' := [some (.inr (.inr (some 3000))), some (.inr (.inr (some 0))), some (.inr (.inr (some 79))), some (.inl i)]) (st' := []) (w' := (SH, dt)) rfl ?_
      exact K dt hI hM hM2 hk0 hk1 hk2 hk3 hk4 hk5 hk6 hk7 hk8 hk9 hk10 hk11 hk12 hk13 hk14 hk15 (by first | exact hI | exact TPL_k hd0 (fun _ => rfl) (fun _ => rfl) (by (first | omega | (have z0_ := unhid h3_1; omega))) | (exfalso; (first | omega | (have z0_ := unhid h3_1; omega)))) (by first | exact hI | exact SCL_k hd1 hM (fun j _ => (fun _ => rfl) j) (fun j _ => (fun _ => rfl) j) (fun j _ _ => (fun _ => rfl) j) | (exfalso; (first | omega | (have z0_ := unhid h3_1; omega)))) (by first | exact hI | exact SCL_k hd2 hM2 (fun j _ => (fun _ => rfl) j) (fun j _ => (fun _ => rfl) j) (fun j _ _ => (fun _ => rfl) j) | (exfalso; (first | omega | (have z0_ := unhid h3_1; omega))))
    · skip
      obtain ⟨h3_0, h3_1⟩ := h3
      refine go_toq PM267 (k := 2) (pc' := 1435) (L' := [some (.inr (.inr (some 3000))), some (.inr (.inr (some 0))), some (.inr (.inr (some 79))), some (.inl i)]) (st' := []) (w' := (SH, dt)) rfl ?_
      exact K dt hI hM hM2 hk0 hk1 hk2 hk3 hk4 hk5 hk6 hk7 hk8 hk9 hk10 hk11 hk12 hk13 hk14 hk15 (by first | exact hI | exact TPL_k hd0 (fun _ => rfl) (fun _ => rfl) (by omega) | (exfalso; omega)) (by first | exact hI | exact SCL_k hd1 hM (fun j _ => (fun _ => rfl) j) (fun j _ => (fun _ => rfl) j) (fun j _ _ => (fun _ => rfl) j) | (exfalso; omega)) (by first | exact hI | exact SCL_k hd2 hM2 (fun j _ => (fun _ => rfl) j) (fun j _ => (fun _ => rfl) j) (fun j _ _ => (fun _ => rfl) j) | (exfalso; omega))
    · skip
      refine go_toq PM267 (k := 2) (pc' := 1435) (L' := [some (.inr (.inr (some 3000))), some (.inr (.inr (some 0))), some (.inr (.inr (some 79))), some (.inl i)]) (st' := []) (w' := (SH, dt)) rfl ?_
      exact K dt hI hM hM2 hk0 hk1 hk2 hk3 hk4 hk5 hk6 hk7 hk8 hk9 hk10 hk11 hk12 hk13 hk14 hk15 (by first | exact hI | exact TPL_k hd0 (fun _ => rfl) (fun _ => rfl) (by omega) | (exfalso; omega)) (by first | exact hI | exact SCL_k hd1 hM (fun j _ => (fun _ => rfl) j) (fun j _ => (fun _ => rfl) j) (fun j _ _ => (fun _ => rfl) j) | (exfalso; omega)) (by first | exact hI | exact SCL_k hd2 hM2 (fun j _ => (fun _ => rfl) j) (fun j _ => (fun _ => rfl) j) (fun j _ _ => (fun _ => rfl) j) | (exfalso; omega))
  · skip
    refine go_toq PM267 (k := 6) (pc' := 1427) (L' := [some (.inr (.inr (some 3000))), some (.inr (.inr (some 0))), some (.inr (.inr (some 79))), some (.inl i)]) (st' := [.inl (i + 1), .inr (.inr (some 3000)), .inr (.inr (some 79))]) (w' := (SH, dt)) rfl ?_
    refine go_smpq PM267 (L' := [some (.inr (.inr (some 3000))), some (.inr (.inr (some 0))), some (.inr (.inr (some 79))), some (.inl i)]) (st' := [.inl ((xs ((i + 1).toNat)).toInt), .inr (.inr (some 79))]) (w' := (SH, dt)) rfl rfl (s_iald (n := L) (f := fun j => (xs j).toInt) (am_scr hLL) ⟨by omega, by omega⟩) ?_
    refine go_callq PM267 PM248 (Q' := _) rfl rfl rfl rfl (sp_X6_look L xs sio (d + 38) dt hI  ((xs ((i + 1).toNat)).toInt) ⟨by omega, by omega⟩ ) ?_
    rintro _ _ ⟨rfl, h4⟩
    refine ⟨rfl, ?_⟩
    rcases h4 with ⟨rfl, h4⟩ | ⟨rfl, h4⟩ | ⟨rfl, h4⟩ | ⟨rfl, h4⟩ | ⟨rfl, h4⟩ | ⟨rfl, h4⟩ | ⟨rfl, h4⟩ | ⟨rfl, h4⟩ | ⟨rfl, h4⟩
    · skip
      refine go_toq PM267 (k := 2) (pc' := 1435) (L' := [some (.inr (.inr (some 3000))), some (.inr (.inr (some 0))), some (.inr (.inr (some 79))), some (.inl i)]) (st' := []) (w' := (SH, dt)) rfl ?_
      exact K dt hI hM hM2 hk0 hk1 hk2 hk3 hk4 hk5 hk6 hk7 hk8 hk9 hk10 hk11 hk12 hk13 hk14 hk15 (by first | exact hI | exact TPL_k hd0 (fun _ => rfl) (fun _ => rfl) (by omega) | (exfalso; omega)) (by first | exact hI | exact SCL_k hd1 hM (fun j _ => (fun _ => rfl) j) (fun j _ => (fun _ => rfl) j) (fun j _ _ => (fun _ => rfl) j) | (exfalso; omega)) (by first | exact hI | exact SCL_k hd2 hM2 (fun j _ => (fun _ => rfl) j) (fun j _ => (fun _ => rfl) j) (fun j _ _ => (fun _ => rfl) j) | (exfalso; omega))
    · skip
      refine go_toq PM267 (k := 2) (pc' := 1435) (L' := [some (.inr (.inr (some 3000))), some (.inr (.inr (some 0))), some (.inr (.inr (some 79))), some (.inl i)]) (st' := []) (w' := (SH, dt)) rfl ?_
      exact K dt hI hM hM2 hk0 hk1 hk2 hk3 hk4 hk5 hk6 hk7 hk8 hk9 hk10 hk11 hk12 hk13 hk14 hk15 (by first | exact hI | exact TPL_k hd0 (fun _ => rfl) (fun _ => rfl) (by omega) | (exfalso; omega)) (by first | exact hI | exact SCL_k hd1 hM (fun j _ => (fun _ => rfl) j) (fun j _ => (fun _ => rfl) j) (fun j _ _ => (fun _ => rfl) j) | (exfalso; omega)) (by first | exact hI | exact SCL_k hd2 hM2 (fun j _ => (fun _ => rfl) j) (fun j _ => (fun _ => rfl) j) (fun j _ _ => (fun _ => rfl) j) | (exfalso; omega))
    · skip
      refine go_toq PM267 (k := 2) (pc' := 1435) (L' := [some (.inr (.inr (some 3000))), some (.inr (.inr (some 0))), some (.inr (.inr (some 79))), some (.inl i)]) (st' := []) (w' := (SH, dt)) rfl ?_
      exact K dt hI hM hM2 hk0 hk1 hk2 hk3 hk4 hk5 hk6 hk7 hk8 hk9 hk10 hk11 hk12 hk13 hk14 hk15 (by first | exact hI | exact TPL_k hd0 (fun _ => rfl) (fun _ => rfl) (by omega) | (exfalso; omega)) (by first | exact hI | exact SCL_k hd1 hM (fun j _ => (fun _ => rfl) j) (fun j _ => (fun _ => rfl) j) (fun j _ _ => (fun _ => rfl) j) | (exfalso; omega)) (by first | exact hI | exact SCL_k hd2 hM2 (fun j _ => (fun _ => rfl) j) (fun j _ => (fun _ => rfl) j) (fun j _ _ => (fun _ => rfl) j) | (exfalso; omega))
    · skip
      refine go_toq PM267 (k := 2) (pc' := 1435) (L' := [some (.inr (.inr (some 3000))), some (.inr (.inr (some 0))), some (.inr (.inr (some 79))), some (.inl i)]) (st' := []) (w' := (SH, dt)) rfl ?_
      exact K dt hI hM hM2 hk0 hk1 hk2 hk3 hk4 hk5 hk6 hk7 hk8 hk9 hk10 hk11 hk12 hk13 hk14 hk15 (by first | exact hI | exact TPL_k hd0 (fun _ => rfl) (fun _ => rfl) (by omega) | (exfalso; omega)) (by first | exact hI | exact SCL_k hd1 hM (fun j _ => (fun _ => rfl) j) (fun j _ => (fun _ => rfl) j) (fun j _ _ => (fun _ => rfl) j) | (exfalso; omega)) (by first | exact hI | exact SCL_k hd2 hM2 (fun j _ => (fun _ => rfl) j) (fun j _ => (fun _ => rfl) j) (fun j _ _ => (fun _ => rfl) j) | (exfalso; omega))
    · skip
      refine go_toq PM267 (k := 2) (pc' := 1435) (L' := [some (.inr (.inr (some 3000))), some (.inr (.inr (some 0))), some (.inr (.inr (some 79))), some (.inl i)]) (st' := []) (w' := (SH, dt)) rfl ?_
      exact K dt hI hM hM2 hk0 hk1 hk2 hk3 hk4 hk5 hk6 hk7 hk8 hk9 hk10 hk11 hk12 hk13 hk14 hk15 (by first | exact hI | exact TPL_k hd0 (fun _ => rfl) (fun _ => rfl) (by omega) | (exfalso; omega)) (by first | exact hI | exact SCL_k hd1 hM (fun j _ => (fun _ => rfl) j) (fun j _ => (fun _ => rfl) j) (fun j _ _ => (fun _ => rfl) j) | (exfalso; omega)) (by first | exact hI | exact SCL_k hd2 hM2 (fun j _ => (fun _ => rfl) j) (fun j _ => (fun _ => rfl) j) (fun j _ _ => (fun _ => rfl) j) | (exfalso; omega))
    · skip
      refine go_toq PM267 (k := 2) (pc' := 1435) (L' := [some (.inr (.inr (some 3000))), some (.inr (.inr (some 0))), some (.inr (.inr (some 79))), some (.inl i)]) (st' := []) (w' := (SH, dt)) rfl ?_
      exact K dt hI hM hM2 hk0 hk1 hk2 hk3 hk4 hk5 hk6 hk7 hk8 hk9 hk10 hk11 hk12 hk13 hk14 hk15 (by first | exact hI | exact TPL_k hd0 (fun _ => rfl) (fun _ => rfl) (by omega) | (exfalso; omega)) (by first | exact hI | exact SCL_k hd1 hM (fun j _ => (fun _ => rfl) j) (fun j _ => (fun _ => rfl) j) (fun j _ _ => (fun _ => rfl) j) | (exfalso; omega)) (by first | exact hI | exact SCL_k hd2 hM2 (fun j _ => (fun _ => rfl) j) (fun j _ => (fun _ => rfl) j) (fun j _ _ => (fun _ => rfl) j) | (exfalso; omega))
    · skip
      obtain ⟨h4_0, h4_1⟩ := h4
      replace h4_1 := hid h4_1
      refine go_toq PM267 (k := 2) (pc' := 1435) (L' := [some (.inr (.inr (some 3000))), some (.inr (.inr (some 0))), some (.inr (.inr (some 79))), some (.inl i)]) (st' := []) (w' := (SH, dt)) rfl ?_
      exact K dt hI hM hM2 hk0 hk1 hk2 hk3 hk4 hk5 hk6 hk7 hk8 hk9 hk10 hk11 hk12 hk13 hk14 hk15 (by first | exact hI | exact TPL_k hd0 (fun _ => rfl) (fun _ => rfl) (by (first | omega | (have z0_ := unhid h4_1; omega))) | (exfalso; (first | omega | (have z0_ := unhid h4_1; omega)))) (by first | exact hI | exact SCL_k hd1 hM (fun j _ => (fun _ => rfl) j) (fun j _ => (fun _ => rfl) j) (fun j _ _ => (fun _ => rfl) j) | (exfalso; (first | omega | (have z0_ := unhid h4_1; omega)))) (by first | exact hI | exact SCL_k hd2 hM2 (fun j _ => (fun _ => rfl) j) (fun j _ => (fun _ => rfl) j) (fun j _ _ => (fun _ => rfl) j) | (exfalso; (first | omega | (have z0_ := unhid h4_1; omega))))
    · skip
      obtain ⟨h4_0, h4_1⟩ := h4
      refine go_toq PM267 (k := 2) (pc' := 1435) (L' := [some (.inr (.inr (some 3000))), some (.inr (.inr (some 0))), some (.inr (.inr (some 79))), some (.inl i)]) (st' := []) (w' := (SH, dt)) rfl ?_
      exact K dt hI hM hM2 hk0 hk1 hk2 hk3 hk4 hk5 hk6 hk7 hk8 hk9 hk10 hk11 hk12 hk13 hk14 hk15 (by first | exact hI | exact TPL_k hd0 (fun _ => rfl) (fun _ => rfl) (by omega) | (exfalso; omega)) (by first | exact hI | exact SCL_k hd1 hM (fun j _ => (fun _ => rfl) j) (fun j _ => (fun _ => rfl) j) (fun j _ _ => (fun _ => rfl) j) | (exfalso; omega)) (by first | exact hI | exact SCL_k hd2 hM2 (fun j _ => (fun _ => rfl) j) (fun j _ => (fun _ => rfl) j) (fun j _ _ => (fun _ => rfl) j) | (exfalso; omega))
    · skip
      refine go_toq PM267 (k := 2) (pc' := 1435) (L' := [some (.inr (.inr (some 3000))), some (.inr (.inr (some 0))), some (.inr (.inr (some 79))), some (.inl i)]) (st' := []) (w' := (SH, dt)) rfl ?_
      exact K dt hI hM hM2 hk0 hk1 hk2 hk3 hk4 hk5 hk6 hk7 hk8 hk9 hk10 hk11 hk12 hk13 hk14 hk15 (by first | exact hI | exact TPL_k hd0 (fun _ => rfl) (fun _ => rfl) (by omega) | (exfalso; omega)) (by first | exact hI | exact SCL_k hd1 hM (fun j _ => (fun _ => rfl) j) (fun j _ => (fun _ => rfl) j) (fun j _ _ => (fun _ => rfl) j) | (exfalso; omega)) (by first | exact hI | exact SCL_k hd2 hM2 (fun j _ => (fun _ => rfl) j) (fun j _ => (fun _ => rfl) j) (fun j _ _ => (fun _ => rfl) j) | (exfalso; omega))
  · skip
    refine go_toq PM267 (k := 6) (pc' := 1427) (L' := [some (.inr (.inr (some 3000))), some (.inr (.inr (some 0))), some (.inr (.inr (some 79))), some (.inl i)]) (st' := [.inl (i + 1), .inr (.inr (some 3000)), .inr (.inr (some 79))]) (w' := (SH, dt)) rfl ?_
    refine go_smpq PM267 (L' := [some (.inr (.inr (some 3000))), some (.inr (.inr (some 0))), some (.inr (.inr (some 79))), some (.inl i)]) (st' := [.inl ((xs ((i + 1).toNat)).toInt), .inr (.inr (some 79))]) (w' := (SH, dt)) rfl rfl (s_iald (n := L) (f := fun j => (xs j).toInt) (am_scr hLL) ⟨by omega, by omega⟩) ?_
    refine go_callq PM267 PM248 (Q' := _) rfl rfl rfl rfl (sp_X6_look L xs sio (d + 38) dt hI  ((xs ((i + 1).toNat)).toInt) ⟨by omega, by omega⟩ ) ?_
    rintro _ _ ⟨rfl, h5⟩
    refine ⟨rfl, ?_⟩
    rcases h5 with ⟨rfl, h5⟩ | ⟨rfl, h5⟩ | ⟨rfl, h5⟩ | ⟨rfl, h5⟩ | ⟨rfl, h5⟩ | ⟨rfl, h5⟩ | ⟨rfl, h5⟩ | ⟨rfl, h5⟩ | ⟨rfl, h5⟩
    · skip
      refine go_toq PM267 (k := 2) (pc' := 1435) (L' := [some (.inr (.inr (some 3000))), some (.inr (.inr (some 0))), some (.inr (.inr (some 79))), some (.inl i)]) (st' := []) (w' := (SH, dt)) rfl ?_
      exact K dt hI hM hM2 hk0 hk1 hk2 hk3 hk4 hk5 hk6 hk7 hk8 hk9 hk10 hk11 hk12 hk13 hk14 hk15 (by first | exact hI | exact TPL_k hd0 (fun _ => rfl) (fun _ => rfl) (by omega) | (exfalso; omega)) (by first | exact hI | exact SCL_k hd1 hM (fun j _ => (fun _ => rfl) j) (fun j _ => (fun _ => rfl) j) (fun j _ _ => (fun _ => rfl) j) | (exfalso; omega)) (by first | exact hI | exact SCL_k hd2 hM2 (fun j _ => (fun _ => rfl) j) (fun j _ => (fun _ => rfl) j) (fun j _ _ => (fun _ => rfl) j) | (exfalso; omega))
    · skip
      refine go_toq PM267 (k := 2) (pc' := 1435) (L' := [some (.inr (.inr (some 3000))), some (.inr (.inr (some 0))), some (.inr (.inr (some 79))), some (.inl i)]) (st' := []) (w' := (SH, dt)) rfl ?_
      exact K dt hI hM hM2 hk0 hk1 hk2 hk3 hk4 hk5 hk6 hk7 hk8 hk9 hk10 hk11 hk12 hk13 hk14 hk15 (by first | exact hI | exact TPL_k hd0 (fun _ => rfl) (fun _ => rfl) (by omega) | (exfalso; omega)) (by first | exact hI | exact SCL_k hd1 hM (fun j _ => (fun _ => rfl) j) (fun j _ => (fun _ => rfl) j) (fun j _ _ => (fun _ => rfl) j) | (exfalso; omega)) (by first | exact hI | exact SCL_k hd2 hM2 (fun j _ => (fun _ => rfl) j) (fun j _ => (fun _ => rfl) j) (fun j _ _ => (fun _ => rfl) j) | (exfalso; omega))
    · skip
      refine go_toq PM267 (k := 2) (pc' := 1435) (L' := [some (.inr (.inr (some 3000))), some (.inr (.inr (some 0))), some (.inr (.inr (some 79))), some (.inl i)]) (st' := []) (w' := (SH, dt)) rfl ?_
      exact K dt hI hM hM2 hk0 hk1 hk2 hk3 hk4 hk5 hk6 hk7 hk8 hk9 hk10 hk11 hk12 hk13 hk14 hk15 (by first | exact hI | exact TPL_k hd0 (fun _ => rfl) (fun _ => rfl) (by omega) | (exfalso; omega)) (by first | exact hI | exact SCL_k hd1 hM (fun j _ => (fun _ => rfl) j) (fun j _ => (fun _ => rfl) j) (fun j _ _ => (fun _ => rfl) j) | (exfalso; omega)) (by first | exact hI | exact SCL_k hd2 hM2 (fun j _ => (fun _ => rfl) j) (fun j _ => (fun _ => rfl) j) (fun j _ _ => (fun _ => rfl) j) | (exfalso; omega))
    · skip
      refine go_toq PM267 (k := 2) (pc' := 1435) (L' := [some (.inr (.inr (some 3000))), some (.inr (.inr (some 0))), some (.inr (.inr (some 79))), some (.inl i)]) (st' := []) (w' := (SH, dt)) rfl ?_
      exact K dt hI hM hM2 hk0 hk1 hk2 hk3 hk4 hk5 hk6 hk7 hk8 hk9 hk10 hk11 hk12 hk13 hk14 hk15 (by first | exact hI | exact TPL_k hd0 (fun _ => rfl) (fun _ => rfl) (by omega) | (exfalso; omega)) (by first | exact hI | exact SCL_k hd1 hM (fun j _ => (fun _ => rfl) j) (fun j _ => (fun _ => rfl) j) (fun j _ _ => (fun _ => rfl) j) | (exfalso; omega)) (by first | exact hI | exact SCL_k hd2 hM2 (fun j _ => (fun _ => rfl) j) (fun j _ => (fun _ => rfl) j) (fun j _ _ => (fun _ => rfl) j) | (exfalso; omega))
    · skip
      refine go_toq PM267 (k := 2) (pc' := 1435) (L' := [some (.inr (.inr (some 3000))), some (.inr (.inr (some 0))), some (.inr (.inr (some 79))), some (.inl i)]) (st' := []) (w' := (SH, dt)) rfl ?_
      exact K dt hI hM hM2 hk0 hk1 hk2 hk3 hk4 hk5 hk6 hk7 hk8 hk9 hk10 hk11 hk12 hk13 hk14 hk15 (by first | exact hI | exact TPL_k hd0 (fun _ => rfl) (fun _ => rfl) (by omega) | (exfalso; omega)) (by first | exact hI | exact SCL_k hd1 hM (fun j _ => (fun _ => rfl) j) (fun j _ => (fun _ => rfl) j) (fun j _ _ => (fun _ => rfl) j) | (exfalso; omega)) (by first | exact hI | exact SCL_k hd2 hM2 (fun j _ => (fun _ => rfl) j) (fun j _ => (fun _ => rfl) j) (fun j _ _ => (fun _ => rfl) j) | (exfalso; omega))
    · skip
      refine go_toq PM267 (k := 2) (pc' := 1435) (L' := [some (.inr (.inr (some 3000))), some (.inr (.inr (some 0))), some (.inr (.inr (some 79))), some (.inl i)]) (st' := []) (w' := (SH, dt)) rfl ?_
      exact K dt hI hM hM2 hk0 hk1 hk2 hk3 hk4 hk5 hk6 hk7 hk8 hk9 hk10 hk11 hk12 hk13 hk14 hk15 (by first | exact hI | exact TPL_k hd0 (fun _ => rfl) (fun _ => rfl) (by omega) | (exfalso; omega)) (by first | exact hI | exact SCL_k hd1 hM (fun j _ => (fun _ => rfl) j) (fun j _ => (fun _ => rfl) j) (fun j _ _ => (fun _ => rfl) j) | (exfalso; omega)) (by first | exact hI | exact SCL_k hd2 hM2 (fun j _ => (fun _ => rfl) j) (fun j _ => (fun _ => rfl) j) (fun j _ _ => (fun _ => rfl) j) | (exfalso; omega))
    · skip
      obtain ⟨h5_0, h5_1⟩ := h5
      replace h5_1 := hid h5_1
      refine go_toq PM267 (k := 2) (pc' := 1435) (L' := [some (.inr (.inr (some 3000))), some (.inr (.inr (some 0))), some (.inr (.inr (some 79))), some (.inl i)]) (st' := []) (w' := (SH, dt)) rfl ?_
      exact K dt hI hM hM2 hk0 hk1 hk2 hk3 hk4 hk5 hk6 hk7 hk8 hk9 hk10 hk11 hk12 hk13 hk14 hk15 (by first | exact hI | exact TPL_k hd0 (fun _ => rfl) (fun _ => rfl) (by (first | omega | (have z0_ := unhid h5_1; omega))) | (exfalso; (first | omega | (have z0_ := unhid h5_1; omega)))) (by first | exact hI | exact SCL_k hd1 hM (fun j _ => (fun _ => rfl) j) (fun j _ => (fun _ => rfl) j) (fun j _ _ => (fun _ => rfl) j) | (exfalso; (first | omega | (have z0_ := unhid h5_1; omega)))) (by first | exact hI | exact SCL_k hd2 hM2 (fun j _ => (fun _ => rfl) j) (fun j _ => (fun _ => rfl) j) (fun j _ _ => (fun _ => rfl) j) | (exfalso; (first | omega | (have z0_ := unhid h5_1; omega))))
    · skip
      obtain ⟨h5_0, h5_1⟩ := h5
      refine go_toq PM267 (k := 2) (pc' := 1435) (L' := [some (.inr (.inr (some 3000))), some (.inr (.inr (some 0))), some (.inr (.inr (some 79))), some (.inl i)]) (st' := []) (w' := (SH, dt)) rfl ?_
      exact K dt hI hM hM2 hk0 hk1 hk2 hk3 hk4 hk5 hk6 hk7 hk8 hk9 hk10 hk11 hk12 hk13 hk14 hk15 (by first | exact hI | exact TPL_k hd0 (fun _ => rfl) (fun _ => rfl) (by omega) | (exfalso; omega)) (by first | exact hI | exact SCL_k hd1 hM (fun j _ => (fun _ => rfl) j) (fun j _ => (fun _ => rfl) j) (fun j _ _ => (fun _ => rfl) j) | (exfalso; omega)) (by first | exact hI | exact SCL_k hd2 hM2 (fun j _ => (fun _ => rfl) j) (fun j _ => (fun _ => rfl) j) (fun j _ _ => (fun _ => rfl) j) | (exfalso; omega))
    · skip
      refine go_toq PM267 (k := 2) (pc' := 1435) (L' := [some (.inr (.inr (some 3000))), some (.inr (.inr (some 0))), some (.inr (.inr (some 79))), some (.inl i)]) (st' := []) (w' := (SH, dt)) rfl ?_
      exact K dt hI hM hM2 hk0 hk1 hk2 hk3 hk4 hk5 hk6 hk7 hk8 hk9 hk10 hk11 hk12 hk13 hk14 hk15 (by first | exact hI | exact TPL_k hd0 (fun _ => rfl) (fun _ => rfl) (by omega) | (exfalso; omega)) (by first | exact hI | exact SCL_k hd1 hM (fun j _ => (fun _ => rfl) j) (fun j _ => (fun _ => rfl) j) (fun j _ _ => (fun _ => rfl) j) | (exfalso; omega)) (by first | exact hI | exact SCL_k hd2 hM2 (fun j _ => (fun _ => rfl) j) (fun j _ => (fun _ => rfl) j) (fun j _ _ => (fun _ => rfl) j) | (exfalso; omega))
  · skip
    refine go_toq PM267 (k := 6) (pc' := 1427) (L' := [some (.inr (.inr (some 3000))), some (.inr (.inr (some 0))), some (.inr (.inr (some 79))), some (.inl i)]) (st' := [.inl (i + 1), .inr (.inr (some 3000)), .inr (.inr (some 79))]) (w' := (SH, dt)) rfl ?_
    refine go_smpq PM267 (L' := [some (.inr (.inr (some 3000))), some (.inr (.inr (some 0))), some (.inr (.inr (some 79))), some (.inl i)]) (st' := [.inl ((xs ((i + 1).toNat)).toInt), .inr (.inr (some 79))]) (w' := (SH, dt)) rfl rfl (s_iald (n := L) (f := fun j => (xs j).toInt) (am_scr hLL) ⟨by omega, by omega⟩) ?_
    refine go_callq PM267 PM248 (Q' := _) rfl rfl rfl rfl (sp_X6_look L xs sio (d + 38) dt hI  ((xs ((i + 1).toNat)).toInt) ⟨by omega, by omega⟩ ) ?_
    rintro _ _ ⟨rfl, h6⟩
    refine ⟨rfl, ?_⟩
    rcases h6 with ⟨rfl, h6⟩ | ⟨rfl, h6⟩ | ⟨rfl, h6⟩ | ⟨rfl, h6⟩ | ⟨rfl, h6⟩ | ⟨rfl, h6⟩ | ⟨rfl, h6⟩ | ⟨rfl, h6⟩ | ⟨rfl, h6⟩
    · skip
      refine go_toq PM267 (k := 2) (pc' := 1435) (L' := [some (.inr (.inr (some 3000))), some (.inr (.inr (some 0))), some (.inr (.inr (some 79))), some (.inl i)]) (st' := []) (w' := (SH, dt)) rfl ?_
      exact K dt hI hM hM2 hk0 hk1 hk2 hk3 hk4 hk5 hk6 hk7 hk8 hk9 hk10 hk11 hk12 hk13 hk14 hk15 (by first | exact hI | exact TPL_k hd0 (fun _ => rfl) (fun _ => rfl) (by omega) | (exfalso; omega)) (by first | exact hI | exact SCL_k hd1 hM (fun j _ => (fun _ => rfl) j) (fun j _ => (fun _ => rfl) j) (fun j _ _ => (fun _ => rfl) j) | (exfalso; omega)) (by first | exact hI | exact SCL_k hd2 hM2 (fun j _ => (fun _ => rfl) j) (fun j _ => (fun _ => rfl) j) (fun j _ _ => (fun _ => rfl) j) | (exfalso; omega))
    · skip
      refine go_toq PM267 (k := 2) (pc' := 1435) (L' := [some (.inr (.inr (some 3000))), some (.inr (.inr (some 0))), some (.inr (.inr (some 79))), some (.inl i)]) (st' := []) (w' := (SH, dt)) rfl ?_
      exact K dt hI hM hM2 hk0 hk1 hk2 hk3 hk4 hk5 hk6 hk7 hk8 hk9 hk10 hk11 hk12 hk13 hk14 hk15 (by first | exact hI | exact TPL_k hd0 (fun _ => rfl) (fun _ => rfl) (by omega) | (exfalso; omega)) (by first | exact hI | exact SCL_k hd1 hM (fun j _ => (fun _ => rfl) j) (fun j _ => (fun _ => rfl) j) (fun j _ _ => (fun _ => rfl) j) | (exfalso; omega)) (by first | exact hI | exact SCL_k hd2 hM2 (fun j _ => (fun _ => rfl) j) (fun j _ => (fun _ => rfl) j) (fun j _ _ => (fun _ => rfl) j) | (exfalso; omega))
    · skip
      refine go_toq PM267 (k := 2) (pc' := 1435) (L' := [some (.inr (.inr (some 3000))), some (.inr (.inr (some 0))), some (.inr (.inr (some 79))), some (.inl i)]) (st' := []) (w' := (SH, dt)) rfl ?_
      exact K dt hI hM hM2 hk0 hk1 hk2 hk3 hk4 hk5 hk6 hk7 hk8 hk9 hk10 hk11 hk12 hk13 hk14 hk15 (by first | exact hI | exact TPL_k hd0 (fun _ => rfl) (fun _ => rfl) (by omega) | (exfalso; omega)) (by first | exact hI | exact SCL_k hd1 hM (fun j _ => (fun _ => rfl) j) (fun j _ => (fun _ => rfl) j) (fun j _ _ => (fun _ => rfl) j) | (exfalso; omega)) (by first | exact hI | exact SCL_k hd2 hM2 (fun j _ => (fun _ => rfl) j) (fun j _ => (fun _ => rfl) j) (fun j _ _ => (fun _ => rfl) j) | (exfalso; omega))
    · skip
      refine go_toq PM267 (k := 2) (pc' := 1435) (L' := [some (.inr (.inr (some 3000))), some (.inr (.inr (some 0))), some (.inr (.inr (some 79))), some (.inl i)]) (st' := []) (w' := (SH, dt)) rfl ?_
      exact K dt hI hM hM2 hk0 hk1 hk2 hk3 hk4 hk5 hk6 hk7 hk8 hk9 hk10 hk11 hk12 hk13 hk14 hk15 (by first | exact hI | exact TPL_k hd0 (fun _ => rfl) (fun _ => rfl) (by omega) | (exfalso; omega)) (by first | exact hI | exact SCL_k hd1 hM (fun j _ => (fun _ => rfl) j) (fun j _ => (fun _ => rfl) j) (fun j _ _ => (fun _ => rfl) j) | (exfalso; omega)) (by first | exact hI | exact SCL_k hd2 hM2 (fun j _ => (fun _ => rfl) j) (fun j _ => (fun _ => rfl) j) (fun j _ _ => (fun _ => rfl) j) | (exfalso; omega))
    · skip
      refine go_toq PM267 (k := 2) (pc' := 1435) (L' := [some (.inr (.inr (some 3000))), some (.inr (.inr (some 0))), some (.inr (.inr (some 79))), some (.inl i)]) (st' := []) (w' := (SH, dt)) rfl ?_
      exact K dt hI hM hM2 hk0 hk1 hk2 hk3 hk4 hk5 hk6 hk7 hk8 hk9 hk10 hk11 hk12 hk13 hk14 hk15 (by first | exact hI | exact TPL_k hd0 (fun _ => rfl) (fun _ => rfl) (by omega) | (exfalso; omega)) (by first | exact hI | exact SCL_k hd1 hM (fun j _ => (fun _ => rfl) j) (fun j _ => (fun _ => rfl) j) (fun j _ _ => (fun _ => rfl) j) | (exfalso; omega)) (by first | exact hI | exact SCL_k hd2 hM2 (fun j _ => (fun _ => rfl) j) (fun j _ => (fun _ => rfl) j) (fun j _ _ => (fun _ => rfl) j) | (exfalso; omega))
    · skip
      refine go_toq PM267 (k := 2) (pc' := 1435) (L' := [some (.inr (.inr (some 3000))), some (.inr (.inr (some 0))), some (.inr (.inr (some 79))), some (.inl i)]) (st' := []) (w' := (SH, dt)) rfl ?_
      exact K dt hI hM hM2 hk0 hk1 hk2 hk3 hk4 hk5 hk6 hk7 hk8 hk9 hk10 hk11 hk12 hk13 hk14 hk15 (by first | exact hI | exact TPL_k hd0 (fun _ => rfl) (fun _ => rfl) (by omega) | (exfalso; omega)) (by first | exact hI | exact SCL_k hd1 hM (fun j _ => (fun _ => rfl) j) (fun j _ => (fun _ => rfl) j) (fun j _ _ => (fun _ => rfl) j) | (exfalso; omega)) (by first | exact hI | exact SCL_k hd2 hM2 (fun j _ => (fun _ => rfl) j) (fun j _ => (fun _ => rfl) j) (fun j _ _ => (fun _ => rfl) j) | (exfalso; omega))
    · skip
      obtain ⟨h6_0, h6_1⟩ := h6
      replace h6_1 := hid h6_1
      refine go_toq PM267 (k := 2) (pc' := 1435) (L' := [some (.inr (.inr (some 3000))), some (.inr (.inr (some 0))), some (.inr (.inr (some 79))), some (.inl i)]) (st' := []) (w' := (SH, dt)) rfl ?_
      exact K dt hI hM hM2 hk0 hk1 hk2 hk3 hk4 hk5 hk6 hk7 hk8 hk9 hk10 hk11 hk12 hk13 hk14 hk15 (by first | exact hI | exact TPL_k hd0 (fun _ => rfl) (fun _ => rfl) (by (first | omega | (have z0_ := unhid h6_1; omega))) | (exfalso; (first | omega | (have z0_ := unhid h6_1; omega)))) (by first | exact hI | exact SCL_k hd1 hM (fun j _ => (fun _ => rfl) j) (fun j _ => (fun _ => rfl) j) (fun j _ _ => (fun _ => rfl) j) | (exfalso; (first | omega | (have z0_ := unhid h6_1; omega)))) (by first | exact hI | exact SCL_k hd2 hM2 (fun j _ => (fun _ => rfl) j) (fun j _ => (fun _ => rfl) j) (fun j _ _ => (fun _ => rfl) j) | (exfalso; (first | omega | (have z0_ := unhid h6_1; omega))))
    · skip
      obtain ⟨h6_0, h6_1⟩ := h6
      refine go_toq PM267 (k := 2) (pc' := 1435) (L' := [some (.inr (.inr (some 3000))), some (.inr (.inr (some 0))), some (.inr (.inr (some 79))), some (.inl i)]) (st' := []) (w' := (SH, dt)) rfl ?_
      exact K dt hI hM hM2 hk0 hk1 hk2 hk3 hk4 hk5 hk6 hk7 hk8 hk9 hk10 hk11 hk12 hk13 hk14 hk15 (by first | exact hI | exact TPL_k hd0 (fun _ => rfl) (fun _ => rfl) (by omega) | (exfalso; omega)) (by first | exact hI | exact SCL_k hd1 hM (fun j _ => (fun _ => rfl) j) (fun j _ => (fun _ => rfl) j) (fun j _ _ => (fun _ => rfl) j) | (exfalso; omega)) (by first | exact hI | exact SCL_k hd2 hM2 (fun j _ => (fun _ => rfl) j) (fun j _ => (fun _ => rfl) j) (fun j _ _ => (fun _ => rfl) j) | (exfalso; omega))
    · skip
      refine go_toq PM267 (k := 2) (pc' := 1435) (L' := [some (.inr (.inr (some 3000))), some (.inr (.inr (some 0))), some (.inr (.inr (some 79))), some (.inl i)]) (st' := []) (w' := (SH, dt)) rfl ?_
      exact K dt hI hM hM2 hk0 hk1 hk2 hk3 hk4 hk5 hk6 hk7 hk8 hk9 hk10 hk11 hk12 hk13 hk14 hk15 (by first | exact hI | exact TPL_k hd0 (fun _ => rfl) (fun _ => rfl) (by omega) | (exfalso; omega)) (by first | exact hI | exact SCL_k hd1 hM (fun j _ => (fun _ => rfl) j) (fun j _ => (fun _ => rfl) j) (fun j _ _ => (fun _ => rfl) j) | (exfalso; omega)) (by first | exact hI | exact SCL_k hd2 hM2 (fun j _ => (fun _ => rfl) j) (fun j _ => (fun _ => rfl) j) (fun j _ _ => (fun _ => rfl) j) | (exfalso; omega))
  · skip
    refine go_toq PM267 (k := 6) (pc' := 1427) (L' := [some (.inr (.inr (some 3000))), some (.inr (.inr (some 0))), some (.inr (.inr (some 79))), some (.inl i)]) (st' := [.inl (i + 1), .inr (.inr (some 3000)), .inr (.inr (some 79))]) (w' := (SH, dt)) rfl ?_
    refine go_smpq PM267 (L' := [some (.inr (.inr (some 3000))), some (.inr (.inr (some 0))), some (.inr (.inr (some 79))), some (.inl i)]) (st' := [.inl ((xs ((i + 1).toNat)).toInt), .inr (.inr (some 79))]) (w' := (SH, dt)) rfl rfl (s_iald (n := L) (f := fun j => (xs j).toInt) (am_scr hLL) ⟨by omega, by omega⟩) ?_
    refine go_callq PM267 PM248 (Q' := _) rfl rfl rfl rfl (sp_X6_look L xs sio (d + 38) dt hI  ((xs ((i + 1).toNat)).toInt) ⟨by omega, by omega⟩ ) ?_
    rintro _ _ ⟨rfl, h7⟩
    refine ⟨rfl, ?_⟩
    rcases h7 with ⟨rfl, h7⟩ | ⟨rfl, h7⟩ | ⟨rfl, h7⟩ | ⟨rfl, h7⟩ | ⟨rfl, h7⟩ | ⟨rfl, h7⟩ | ⟨rfl, h7⟩ | ⟨rfl, h7⟩ | ⟨rfl, h7⟩
    · skip
      refine go_toq PM267 (k := 2) (pc' := 1435) (L' := [some (.inr (.inr (some 3000))), some (.inr (.inr (some 0))), some (.inr (.inr (some 79))), some (.inl i)]) (st' := []) (w' := (SH, dt)) rfl ?_
      exact K dt hI hM hM2 hk0 hk1 hk2 hk3 hk4 hk5 hk6 hk7 hk8 hk9 hk10 hk11 hk12 hk13 hk14 hk15 (by first | exact hI | exact TPL_k hd0 (fun _ => rfl) (fun _ => rfl) (by omega) | (exfalso; omega)) (by first | exact hI | exact SCL_k hd1 hM (fun j _ => (fun _ => rfl) j) (fun j _ => (fun _ => rfl) j) (fun j _ _ => (fun _ => rfl) j) | (exfalso; omega)) (by first | exact hI | exact SCL_k hd2 hM2 (fun j _ => (fun _ => rfl) j) (fun j _ => (fun _ => rfl) j) (fun j _ _ => (fun _ => rfl) j) | (exfalso; omega))
    · skip
      refine go_toq PM267 (k := 2) (pc' := 1435) (L' := [some (.inr (.inr (some 3000))), some (.inr (.inr (some 0))), some (.inr (.inr (some 79))), some (.inl i)]) (st' := []) (w' := (SH, dt)) rfl ?_
      exact K dt hI hM hM2 hk0 hk1 hk2 hk3 hk4 hk5 hk6 hk7 hk8 hk9 hk10 hk11 hk12 hk13 hk14 hk15 (by first | exact hI | exact TPL_k hd0 (fun _ => rfl) (fun _ => rfl) (by omega) | (exfalso; omega)) (by first | exact hI | exact SCL_k hd1 hM (fun j _ => (fun _ => rfl) j) (fun j _ => (fun _ => rfl) j) (fun j _ _ => (fun _ => rfl) j) | (exfalso; omega)) (by first | exact hI | exact SCL_k hd2 hM2 (fun j _ => (fun _ => rfl) j) (fun j _ => (fun _ => rfl) j) (fun j _ _ => (fun _ => rfl) j) | (exfalso; omega))
    · skip
      refine go_toq PM267 (k := 2) (pc' := 1435) (L' := [some (.inr (.inr (some 3000))), some (.inr (.inr (some 0))), some (.inr (.inr (some 79))), some (.inl i)]) (st' := []) (w' := (SH, dt)) rfl ?_
      exact K dt hI hM hM2 hk0 hk1 hk2 hk3 hk4 hk5 hk6 hk7 hk8 hk9 hk10 hk11 hk12 hk13 hk14 hk15 (by first | exact hI | exact TPL_k hd0 (fun _ => rfl) (fun _ => rfl) (by omega) | (exfalso; omega)) (by first | exact hI | exact SCL_k hd1 hM (fun j _ => (fun _ => rfl) j) (fun j _ => (fun _ => rfl) j) (fun j _ _ => (fun _ => rfl) j) | (exfalso; omega)) (by first | exact hI | exact SCL_k hd2 hM2 (fun j _ => (fun _ => rfl) j) (fun j _ => (fun _ => rfl) j) (fun j _ _ => (fun _ => rfl) j) | (exfalso; omega))
    · skip
      refine go_toq PM267 (k := 2) (pc' := 1435) (L' := [some (.inr (.inr (some 3000))), some (.inr (.inr (some 0))), some (.inr (.inr (some 79))), some (.inl i)]) (st' := []) (w' := (SH, dt)) rfl ?_
      exact K dt hI hM hM2 hk0 hk1 hk2 hk3 hk4 hk5 hk6 hk7 hk8 hk9 hk10 hk11 hk12 hk13 hk14 hk15 (by first | exact hI | exact TPL_k hd0 (fun _ => rfl) (fun _ => rfl) (by omega) | (exfalso; omega)) (by first | exact hI | exact SCL_k hd1 hM (fun j _ => (fun _ => rfl) j) (fun j _ => (fun _ => rfl) j) (fun j _ _ => (fun _ => rfl) j) | (exfalso; omega)) (by first | exact hI | exact SCL_k hd2 hM2 (fun j _ => (fun _ => rfl) j) (fun j _ => (fun _ => rfl) j) (fun j _ _ => (fun _ => rfl) j) | (exfalso; omega))
    · skip
      refine go_toq PM267 (k := 2) (pc' := 1435) (L' := [some (.inr (.inr (some 3000))), some (.inr (.inr (some 0))), some (.inr (.inr (some 79))), some (.inl i)]) (st' := []) (w' := (SH, dt)) rfl ?_
      exact K dt hI hM hM2 hk0 hk1 hk2 hk3 hk4 hk5 hk6 hk7 hk8 hk9 hk10 hk11 hk12 hk13 hk14 hk15 (by first | exact hI | exact TPL_k hd0 (fun _ => rfl) (fun _ => rfl) (by omega) | (exfalso; omega)) (by first | exact hI | exact SCL_k hd1 hM (fun j _ => (fun _ => rfl) j) (fun j _ => (fun _ => rfl) j) (fun j _ _ => (fun _ => rfl) j) | (exfalso; omega)) (by first | exact hI | exact SCL_k hd2 hM2 (fun j _ => (fun _ => rfl) j) (fun j _ => (fun _ => rfl) j) (fun j _ _ => (fun _ => rfl) j) | (exfalso; omega))
    · skip
      refine go_toq PM267 (k := 2) (pc' := 1435) (L' := [some (.inr (.inr (some 3000))), some (.inr (.inr (some 0))), some (.inr (.inr (some 79))), some (.inl i)]) (st' := []) (w' := (SH, dt)) rfl ?_
      exact K dt hI hM hM2 hk0 hk1 hk2 hk3 hk4 hk5 hk6 hk7 hk8 hk9 hk10 hk11 hk12 hk13 hk14 hk15 (by first | exact hI | exact TPL_k hd0 (fun _ => rfl) (fun _ => rfl) (by omega) | (exfalso; omega)) (by first | exact hI | exact SCL_k hd1 hM (fun j _ => (fun _ => rfl) j) (fun j _ => (fun _ => rfl) j) (fun j _ _ => (fun _ => rfl) j) | (exfalso; omega)) (by first | exact hI | exact SCL_k hd2 hM2 (fun j _ => (fun _ => rfl) j) (fun j _ => (fun _ => rfl) j) (fun j _ _ => (fun _ => rfl) j) | (exfalso; omega))
    · skip
      obtain ⟨h7_0, h7_1⟩ := h7
      replace h7_1 := hid h7_1
      refine go_toq PM267 (k := 2) (pc' := 1435) (L' := [some (.inr (.inr (some 3000))), some (.inr (.inr (some 0))), some (.inr (.inr (some 79))), some (.inl i)]) (st' := []) (w' := (SH, dt)) rfl ?_
      exact K dt hI hM hM2 hk0 hk1 hk2 hk3 hk4 hk5 hk6 hk7 hk8 hk9 hk10 hk11 hk12 hk13 hk14 hk15 (by first | exact hI | exact TPL_k hd0 (fun _ => rfl) (fun _ => rfl) (by (first | omega | (have z0_ := unhid h7_1; omega))) | (exfalso; (first | omega | (have z0_ := unhid h7_1; omega)))) (by first | exact hI | exact SCL_k hd1 hM (fun j _ => (fun _ => rfl) j) (fun j _ => (fun _ => rfl) j) (fun j _ _ => (fun _ => rfl) j) | (exfalso; (first | omega | (have z0_ := unhid h7_1; omega)))) (by first | exact hI | exact SCL_k hd2 hM2 (fun j _ => (fun _ => rfl) j) (fun j _ => (fun _ => rfl) j) (fun j _ _ => (fun _ => rfl) j) | (exfalso; (first | omega | (have z0_ := unhid h7_1; omega))))
    · skip
      obtain ⟨h7_0, h7_1⟩ := h7
      refine go_toq PM267 (k := 2) (pc' := 1435) (L' := [some (.inr (.inr (some 3000))), some (.inr (.inr (some 0))), some (.inr (.inr (some 79))), some (.inl i)]) (st' := []) (w' := (SH, dt)) rfl ?_
      exact K dt hI hM hM2 hk0 hk1 hk2 hk3 hk4 hk5 hk6 hk7 hk8 hk9 hk10 hk11 hk12 hk13 hk14 hk15 (by first | exact hI | exact TPL_k hd0 (fun _ => rfl) (fun _ => rfl) (by omega) | (exfalso; omega)) (by first | exact hI | exact SCL_k hd1 hM (fun j _ => (fun _ => rfl) j) (fun j _ => (fun _ => rfl) j) (fun j _ _ => (fun _ => rfl) j) | (exfalso; omega)) (by first | exact hI | exact SCL_k hd2 hM2 (fun j _ => (fun _ => rfl) j) (fun j _ => (fun _ => rfl) j) (fun j _ _ => (fun _ => rfl) j) | (exfalso; omega))
    · skip
      refine go_toq PM267 (k := 2) (pc' := 1435) (L' := [some (.inr (.inr (some 3000))), some (.inr (.inr (some 0))), some (.inr (.inr (some 79))), some (.inl i)]) (st' := []) (w' := (SH, dt)) rfl ?_
      exact K dt hI hM hM2 hk0 hk1 hk2 hk3 hk4 hk5 hk6 hk7 hk8 hk9 hk10 hk11 hk12 hk13 hk14 hk15 (by first | exact hI | exact TPL_k hd0 (fun _ => rfl) (fun _ => rfl) (by omega) | (exfalso; omega)) (by first | exact hI | exact SCL_k hd1 hM (fun j _ => (fun _ => rfl) j) (fun j _ => (fun _ => rfl) j) (fun j _ _ => (fun _ => rfl) j) | (exfalso; omega)) (by first | exact hI | exact SCL_k hd2 hM2 (fun j _ => (fun _ => rfl) j) (fun j _ => (fun _ => rfl) j) (fun j _ _ => (fun _ => rfl) j) | (exfalso; omega))
  · skip
    refine go_toq PM267 (k := 6) (pc' := 1427) (L' := [some (.inr (.inr (some 3000))), some (.inr (.inr (some 0))), some (.inr (.inr (some 79))), some (.inl i)]) (st' := [.inl (i + 1), .inr (.inr (some 3000)), .inr (.inr (some 79))]) (w' := (SH, dt)) rfl ?_
    refine go_smpq PM267 (L' := [some (.inr (.inr (some 3000))), some (.inr (.inr (some 0))), some (.inr (.inr (some 79))), some (.inl i)]) (st' := [.inl ((xs ((i + 1).toNat)).toInt), .inr (.inr (some 79))]) (w' := (SH, dt)) rfl rfl (s_iald (n := L) (f := fun j => (xs j).toInt) (am_scr hLL) ⟨by omega, by omega⟩) ?_
    refine go_callq PM267 PM248 (Q' := _) rfl rfl rfl rfl (sp_X6_look L xs sio (d + 38) dt hI  ((xs ((i + 1).toNat)).toInt) ⟨by omega, by omega⟩ ) ?_
    rintro _ _ ⟨rfl, h8⟩
    refine ⟨rfl, ?_⟩
    rcases h8 with ⟨rfl, h8⟩ | ⟨rfl, h8⟩ | ⟨rfl, h8⟩ | ⟨rfl, h8⟩ | ⟨rfl, h8⟩ | ⟨rfl, h8⟩ | ⟨rfl, h8⟩ | ⟨rfl, h8⟩ | ⟨rfl, h8⟩
    · skip
      refine go_toq PM267 (k := 2) (pc' := 1435) (L' := [some (.inr (.inr (some 3000))), some (.inr (.inr (some 0))), some (.inr (.inr (some 79))), some (.inl i)]) (st' := []) (w' := (SH, dt)) rfl ?_
      exact K dt hI hM hM2 hk0 hk1 hk2 hk3 hk4 hk5 hk6 hk7 hk8 hk9 hk10 hk11 hk12 hk13 hk14 hk15 (by first | exact hI | exact TPL_k hd0 (fun _ => rfl) (fun _ => rfl) (by omega) | (exfalso; omega)) (by first | exact hI | exact SCL_k hd1 hM (fun j _ => (fun _ => rfl) j) (fun j _ => (fun _ => rfl) j) (fun j _ _ => (fun _ => rfl) j) | (exfalso; omega)) (by first | exact hI | exact SCL_k hd2 hM2 (fun j _ => (fun _ => rfl) j) (fun j _ => (fun _ => rfl) j) (fun j _ _ => (fun _ => rfl) j) | (exfalso; omega))
    · skip
      refine go_toq PM267 (k := 2) (pc' := 1435) (L' := [some (.inr (.inr (some 3000))), some (.inr (.inr (some 0))), some (.inr (.inr (some 79))), some (.inl i)]) (st' := []) (w' := (SH, dt)) rfl ?_
      exact K dt hI hM hM2 hk0 hk1 hk2 hk3 hk4 hk5 hk6 hk7 hk8 hk9 hk10 hk11 hk12 hk13 hk14 hk15 (by first | exact hI | exact TPL_k hd0 (fun _ => rfl) (fun _ => rfl) (by omega) | (exfalso; omega)) (by first | exact hI | exact SCL_k hd1 hM (fun j _ => (fun _ => rfl) j) (fun j _ => (fun _ => rfl) j) (fun j _ _ => (fun _ => rfl) j) | (exfalso; omega)) (by first | exact hI | exact SCL_k hd2 hM2 (fun j _ => (fun _ => rfl) j) (fun j _ => (fun _ => rfl) j) (fun j _ _ => (fun _ => rfl) j) | (exfalso; omega))
    · skip
      refine go_toq PM267 (k := 2) (pc' := 1435) (L' := [some (.inr (.inr (some 3000))), some (.inr (.inr (some 0))), some (.inr (.inr (some 79))), some (.inl i)]) (st' := []) (w' := (SH, dt)) rfl ?_
      exact K dt hI hM hM2 hk0 hk1 hk2 hk3 hk4 hk5 hk6 hk7 hk8 hk9 hk10 hk11 hk12 hk13 hk14 hk15 (by first | exact hI | exact TPL_k hd0 (fun _ => rfl) (fun _ => rfl) (by omega) | (exfalso; omega)) (by first | exact hI | exact SCL_k hd1 hM (fun j _ => (fun _ => rfl) j) (fun j _ => (fun _ => rfl) j) (fun j _ _ => (fun _ => rfl) j) | (exfalso; omega)) (by first | exact hI | exact SCL_k hd2 hM2 (fun j _ => (fun _ => rfl) j) (fun j _ => (fun _ => rfl) j) (fun j _ _ => (fun _ => rfl) j) | (exfalso; omega))
    · skip
      refine go_toq PM267 (k := 2) (pc' := 1435) (L' := [some (.inr (.inr (some 3000))), some (.inr (.inr (some 0))), some (.inr (.inr (some 79))), some (.inl i)]) (st' := []) (w' := (SH, dt)) rfl ?_
      exact K dt hI hM hM2 hk0 hk1 hk2 hk3 hk4 hk5 hk6 hk7 hk8 hk9 hk10 hk11 hk12 hk13 hk14 hk15 (by first | exact hI | exact TPL_k hd0 (fun _ => rfl) (fun _ => rfl) (by omega) | (exfalso; omega)) (by first | exact hI | exact SCL_k hd1 hM (fun j _ => (fun _ => rfl) j) (fun j _ => (fun _ => rfl) j) (fun j _ _ => (fun _ => rfl) j) | (exfalso; omega)) (by first | exact hI | exact SCL_k hd2 hM2 (fun j _ => (fun _ => rfl) j) (fun j _ => (fun _ => rfl) j) (fun j _ _ => (fun _ => rfl) j) | (exfalso; omega))
    · skip
      refine go_toq PM267 (k := 2) (pc' := 1435) (L' := [some (.inr (.inr (some 3000))), some (.inr (.inr (some 0))), some (.inr (.inr (some 79))), some (.inl i)]) (st' := []) (w' := (SH, dt)) rfl ?_
      exact K dt hI hM hM2 hk0 hk1 hk2 hk3 hk4 hk5 hk6 hk7 hk8 hk9 hk10 hk11 hk12 hk13 hk14 hk15 (by first | exact hI | exact TPL_k hd0 (fun _ => rfl) (fun _ => rfl) (by omega) | (exfalso; omega)) (by first | exact hI | exact SCL_k hd1 hM (fun j _ => (fun _ => rfl) j) (fun j _ => (fun _ => rfl) j) (fun j _ _ => (fun _ => rfl) j) | (exfalso; omega)) (by first | exact hI | exact SCL_k hd2 hM2 (fun j _ => (fun _ => rfl) j) (fun j _ => (fun _ => rfl) j) (fun j _ _ => (fun _ => rfl) j) | (exfalso; omega))
    · skip
      refine go_toq PM267 (k := 2) (pc' := 1435) (L' := [some (.inr (.inr (some 3000))), some (.inr (.inr (some 0))), some (.inr (.inr (some 79))), some (.inl i)]) (st' := []) (w' := (SH, dt)) rfl ?_
      exact K dt hI hM hM2 hk0 hk1 hk2 hk3 hk4 hk5 hk6 hk7 hk8 hk9 hk10 hk11 hk12 hk13 hk14 hk15 (by first | exact hI | exact TPL_k hd0 (fun _ => rfl) (fun _ => rfl) (by omega) | (exfalso; omega)) (by first | exact hI | exact SCL_k hd1 hM (fun j _ => (fun _ => rfl) j) (fun j _ => (fun _ => rfl) j) (fun j _ _ => (fun _ => rfl) j) | (exfalso; omega)) (by first | exact hI | exact SCL_k hd2 hM2 (fun j _ => (fun _ => rfl) j) (fun j _ => (fun _ => rfl) j) (fun j _ _ => (fun _ => rfl) j) | (exfalso; omega))
    · skip
      obtain ⟨h8_0, h8_1⟩ := h8
      replace h8_1 := hid h8_1
      refine go_toq PM267 (k := 2) (pc' := 1435) (L' := [some (.inr (.inr (some 3000))), some (.inr (.inr (some 0))), some (.inr (.inr (some 79))), some (.inl i)]) (st' := []) (w' := (SH, dt)) rfl ?_
      exact K dt hI hM hM2 hk0 hk1 hk2 hk3 hk4 hk5 hk6 hk7 hk8 hk9 hk10 hk11 hk12 hk13 hk14 hk15 (by first | exact hI | exact TPL_k hd0 (fun _ => rfl) (fun _ => rfl) (by (first | omega | (have z0_ := unhid h8_1; omega))) | (exfalso; (first | omega | (have z0_ := unhid h8_1; omega)))) (by first | exact hI | exact SCL_k hd1 hM (fun j _ => (fun _ => rfl) j) (fun j _ => (fun _ => rfl) j) (fun j _ _ => (fun _ => rfl) j) | (exfalso; (first | omega | (have z0_ := unhid h8_1; omega)))) (by first | exact hI | exact SCL_k hd2 hM2 (fun j _ => (fun _ => rfl) j) (fun j _ => (fun _ => rfl) j) (fun j _ _ => (fun _ => rfl) j) | (exfalso; (first | omega | (have z0_ := unhid h8_1; omega))))
    · skip
      obtain ⟨h8_0, h8_1⟩ := h8
      refine go_toq PM267 (k := 2) (pc' := 1435) (L' := [some (.inr (.inr (some 3000))), some (.inr (.inr (some 0))), some (.inr (.inr (some 79))), some (.inl i)]) (st' := []) (w' := (SH, dt)) rfl ?_
      exact K dt hI hM hM2 hk0 hk1 hk2 hk3 hk4 hk5 hk6 hk7 hk8 hk9 hk10 hk11 hk12 hk13 hk14 hk15 (by first | exact hI | exact TPL_k hd0 (fun _ => rfl) (fun _ => rfl) (by omega) | (exfalso; omega)) (by first | exact hI | exact SCL_k hd1 hM (fun j _ => (fun _ => rfl) j) (fun j _ => (fun _ => rfl) j) (fun j _ _ => (fun _ => rfl) j) | (exfalso; omega)) (by first | exact hI | exact SCL_k hd2 hM2 (fun j _ => (fun _ => rfl) j) (fun j _ => (fun _ => rfl) j) (fun j _ _ => (fun _ => rfl) j) | (exfalso; omega))
    · skip
      refine go_toq PM267 (k := 2) (pc' := 1435) (L' := [some (.inr (.inr (some 3000))), some (.inr (.inr (some 0))), some (.inr (.inr (some 79))), some (.inl i)]) (st' := []) (w' := (SH, dt)) rfl ?_
      exact K dt hI hM hM2 hk0 hk1 hk2 hk3 hk4 hk5 hk6 hk7 hk8 hk9 hk10 hk11 hk12 hk13 hk14 hk15 (by first | exact hI | exact TPL_k hd0 (fun _ => rfl) (fun _ => rfl) (by omega) | (exfalso; omega)) (by first | exact hI | exact SCL_k hd1 hM (fun j _ => (fun _ => rfl) j) (fun j _ => (fun _ => rfl) j) (fun j _ _ => (fun _ => rfl) j) | (exfalso; omega)) (by first | exact hI | exact SCL_k hd2 hM2 (fun j _ => (fun _ => rfl) j) (fun j _ => (fun _ => rfl) j) (fun j _ _ => (fun _ => rfl) j) | (exfalso; omega))
  · skip
    obtain ⟨h2_0, h2_1⟩ := h2
    refine go_toq PM267 (k := 6) (pc' := 1427) (L' := [some (.inr (.inr (some 3000))), some (.inr (.inr (some 0))), some (.inr (.inr (some 79))), some (.inl i)]) (st' := [.inl (i + 1), .inr (.inr (some 3000)), .inr (.inr (some 79))]) (w' := (SH, dt)) rfl ?_
    refine go_smpq PM267 (L' := [some (.inr (.inr (some 3000))), some (.inr (.inr (some 0))), some (.inr (.inr (some 79))), some (.inl i)]) (st' := [.inl ((xs ((i + 1).toNat)).toInt), .inr (.inr (some 79))]) (w' := (SH, dt)) rfl rfl (s_iald (n := L) (f := fun j => (xs j).toInt) (am_scr hLL) ⟨by omega, by omega⟩) ?_
    refine go_callq PM267 PM248 (Q' := _) rfl rfl rfl rfl (sp_X6_look L xs sio (d + 38) dt hI  ((xs ((i + 1).toNat)).toInt) ⟨by omega, by omega⟩ ) ?_
    rintro _ _ ⟨rfl, h9⟩
    refine ⟨rfl, ?_⟩
    rcases h9 with ⟨rfl, h9⟩ | ⟨rfl, h9⟩ | ⟨rfl, h9⟩ | ⟨rfl, h9⟩ | ⟨rfl, h9⟩ | ⟨rfl, h9⟩ | ⟨rfl, h9⟩ | ⟨rfl, h9⟩ | ⟨rfl, h9⟩
    · skip
      refine go_toq PM267 (k := 2) (pc' := 1435) (L' := [some (.inr (.inr (some 3000))), some (.inr (.inr (some 0))), some (.inr (.inr (some 79))), some (.inl i)]) (st' := []) (w' := (SH, dt)) rfl ?_
      exact K dt hI hM hM2 hk0 hk1 hk2 hk3 hk4 hk5 hk6 hk7 hk8 hk9 hk10 hk11 hk12 hk13 hk14 hk15 (by first | exact hI | exact TPL_k hd0 (fun _ => rfl) (fun _ => rfl) (by omega) | (exfalso; omega)) (by first | exact hI | exact SCL_k hd1 hM (fun j _ => (fun _ => rfl) j) (fun j _ => (fun _ => rfl) j) (fun j _ _ => (fun _ => rfl) j) | (exfalso; omega)) (by first | exact hI | exact SCL_k hd2 hM2 (fun j _ => (fun _ => rfl) j) (fun j _ => (fun _ => rfl) j) (fun j _ _ => (fun _ => rfl) j) | (exfalso; omega))
    · skip
      refine go_toq PM267 (k := 2) (pc' := 1435) (L' := [some (.inr (.inr (some 3000))), some (.inr (.inr (some 0))), some (.inr (.inr (some 79))), some (.inl i)]) (st' := []) (w' := (SH, dt)) rfl ?_
      exact K dt hI hM hM2 hk0 hk1 hk2 hk3 hk4 hk5 hk6 hk7 hk8 hk9 hk10 hk11 hk12 hk13 hk14 hk15 (by first | exact hI | exact TPL_k hd0 (fun _ => rfl) (fun _ => rfl) (by omega) | (exfalso; omega)) (by first | exact hI | exact SCL_k hd1 hM (fun j _ => (fun _ => rfl) j) (fun j _ => (fun _ => rfl) j) (fun j _ _ => (fun _ => rfl) j) | (exfalso; omega)) (by first | exact hI | exact SCL_k hd2 hM2 (fun j _ => (fun _ => rfl) j) (fun j _ => (fun _ => rfl) j) (fun j _ _ => (fun _ => rfl) j) | (exfalso; omega))
    · skip
      refine go_toq PM267 (k := 2) (pc' := 1435) (L' := [some (.inr (.inr (some 3000))), some (.inr (.inr (some 0))), some (.inr (.inr (some 79))), some (.inl i)]) (st' := []) (w' := (SH, dt)) rfl ?_
      exact K dt hI hM hM2 hk0 hk1 hk2 hk3 hk4 hk5 hk6 hk7 hk8 hk9 hk10 hk11 hk12 hk13 hk14 hk15 (by first | exact hI | exact TPL_k hd0 (fun _ => rfl) (fun _ => rfl) (by omega) | (exfalso; omega)) (by first | exact hI | exact SCL_k hd1 hM (fun j _ => (fun _ => rfl) j) (fun j _ => (fun _ => rfl) j) (fun j _ _ => (fun _ => rfl) j) | (exfalso; omega)) (by first | exact hI | exact SCL_k hd2 hM2 (fun j _ => (fun _ => rfl) j) (fun j _ => (fun _ => rfl) j) (fun j _ _ => (fun _ => rfl) j) | (exfalso; omega))
    · skip
      refine go_toq PM267 (k := 2) (pc' := 1435) (L' := [some (.inr (.inr (some 3000))), some (.inr (.inr (some 0))), some (.inr (.inr (some 79))), some (.inl i)]) (st' := []) (w' := (SH, dt)) rfl ?_
      exact K dt hI hM hM2 hk0 hk1 hk2 hk3 hk4 hk5 hk6 hk7 hk8 hk9 hk10 hk11 hk12 hk13 hk14 hk15 (by first | exact hI | exact TPL_k hd0 (fun _ => rfl) (fun _ => rfl) (by omega) | (exfalso; omega)) (by first | exact hI | exact SCL_k hd1 hM (fun j _ => (fun _ => rfl) j) (fun j _ => (fun _ => rfl) j) (fun j _ _ => (fun _ => rfl) j) | (exfalso; omega)) (by first | exact hI | exact SCL_k hd2 hM2 (fun j _ => (fun _ => rfl) j) (fun j _ => (fun _ => rfl) j) (fun j _ _ => (fun _ => rfl) j) | (exfalso; omega))
    · skip
      refine go_toq PM267 (k := 2) (pc' := 1435) (L' := [some (.inr (.inr (some 3000))), some (.inr (.inr (some 0))), some (.inr (.inr (some 79))), some (.inl i)]) (st' := []) (w' := (SH, dt)) rfl ?_
      exact K dt hI hM hM2 hk0 hk1 hk2 hk3 hk4 hk5 hk6 hk7 hk8 hk9 hk10 hk11 hk12 hk13 hk14 hk15 (by first | exact hI | exact TPL_k hd0 (fun _ => rfl) (fun _ => rfl) (by omega) | (exfalso; omega)) (by first | exact hI | exact SCL_k hd1 hM (fun j _ => (fun _ => rfl) j) (fun j _ => (fun _ => rfl) j) (fun j _ _ => (fun _ => rfl) j) | (exfalso; omega)) (by first | exact hI | exact SCL_k hd2 hM2 (fun j _ => (fun _ => rfl) j) (fun j _ => (fun _ => rfl) j) (fun j _ _ => (fun _ => rfl) j) | (exfalso; omega))
    · skip
      refine go_toq PM267 (k := 2) (pc' := 1435) (L' := [some (.inr (.inr (some 3000))), some (.inr (.inr (some 0))), some (.inr (.inr (some 79))), some (.inl i)]) (st' := []) (w' := (SH, dt)) rfl ?_
      exact K dt hI hM hM2 hk0 hk1 hk2 hk3 hk4 hk5 hk6 hk7 hk8 hk9 hk10 hk11 hk12 hk13 hk14 hk15 (by first | exact hI | exact TPL_k hd0 (fun _ => rfl) (fun _ => rfl) (by omega) | (exfalso; omega)) (by first | exact hI | exact SCL_k hd1 hM (fun j _ => (fun _ => rfl) j) (fun j _ => (fun _ => rfl) j) (fun j _ _ => (fun _ => rfl) j) | (exfalso; omega)) (by first | exact hI | exact SCL_k hd2 hM2 (fun j _ => (fun _ => rfl) j) (fun j _ => (fun _ => rfl) j) (fun j _ _ => (fun _ => rfl) j) | (exfalso; omega))
    · skip
      obtain ⟨h9_0, h9_1⟩ := h9
      replace h9_1 := hid h9_1
      refine go_toq PM267 (k := 2) (pc' := 1435) (L' := [some (.inr (.inr (some 3000))), some (.inr (.inr (some 0))), some (.inr (.inr (some 79))), some (.inl i)]) (st' := []) (w' := (SH, dt)) rfl ?_
      exact K dt hI hM hM2 hk0 hk1 hk2 hk3 hk4 hk5 hk6 hk7 hk8 hk9 hk10 hk11 hk12 hk13 hk14 hk15 (by first | exact hI | exact TPL_k hd0 (fun _ => rfl) (fun _ => rfl) (by (first | omega | (have z0_ := unhid h9_1; omega))) | (exfalso; (first | omega | (have z0_ := unhid h9_1; omega)))) (by first | exact hI | exact SCL_k hd1 hM (fun j _ => (fun _ => rfl) j) (fun j _ => (fun _ => rfl) j) (fun j _ _ => (fun _ => rfl) j) | (exfalso; (first | omega | (have z0_ := unhid h9_1; omega)))) (by first | exact hI | exact SCL_k hd2 hM2 (fun j _ => (fun _ => rfl) j) (fun j _ => (fun _ => rfl) j) (fun j _ _ => (fun _ => rfl) j) | (exfalso; (first | omega | (have z0_ := unhid h9_1; omega))))
    · skip
      obtain ⟨h9_0, h9_1⟩ := h9
      refine go_toq PM267 (k := 2) (pc' := 1435) (L' := [some (.inr (.inr (some 3000))), some (.inr (.inr (some 0))), some (.inr (.inr (some 79))), some (.inl i)]) (st' := []) (w' := (SH, dt)) rfl ?_
      exact K dt hI hM hM2 hk0 hk1 hk2 hk3 hk4 hk5 hk6 hk7 hk8 hk9 hk10 hk11 hk12 hk13 hk14 hk15 (by first | exact hI | exact TPL_k hd0 (fun _ => rfl) (fun _ => rfl) (by omega) | (exfalso; omega)) (by first | exact hI | exact SCL_k hd1 hM (fun j _ => (fun _ => rfl) j) (fun j _ => (fun _ => rfl) j) (fun j _ _ => (fun _ => rfl) j) | (exfalso; omega)) (by first | exact hI | exact SCL_k hd2 hM2 (fun j _ => (fun _ => rfl) j) (fun j _ => (fun _ => rfl) j) (fun j _ _ => (fun _ => rfl) j) | (exfalso; omega))
    · skip
      refine go_toq PM267 (k := 2) (pc' := 1435) (L' := [some (.inr (.inr (some 3000))), some (.inr (.inr (some 0))), some (.inr (.inr (some 79))), some (.inl i)]) (st' := []) (w' := (SH, dt)) rfl ?_
      exact K dt hI hM hM2 hk0 hk1 hk2 hk3 hk4 hk5 hk6 hk7 hk8 hk9 hk10 hk11 hk12 hk13 hk14 hk15 (by first | exact hI | exact TPL_k hd0 (fun _ => rfl) (fun _ => rfl) (by omega) | (exfalso; omega)) (by first | exact hI | exact SCL_k hd1 hM (fun j _ => (fun _ => rfl) j) (fun j _ => (fun _ => rfl) j) (fun j _ _ => (fun _ => rfl) j) | (exfalso; omega)) (by first | exact hI | exact SCL_k hd2 hM2 (fun j _ => (fun _ => rfl) j) (fun j _ => (fun _ => rfl) j) (fun j _ _ => (fun _ => rfl) j) | (exfalso; omega))
  · skip
    obtain ⟨h2_0, h2_1⟩ := h2
    refine go_toq PM267 (k := 6) (pc' := 1427) (L' := [some (.inr (.inr (some 3000))), some (.inr (.inr (some 0))), some (.inr (.inr (some 79))), some (.inl i)]) (st' := [.inl (i + 1), .inr (.inr (some 3000)), .inr (.inr (some 79))]) (w' := (SH, dt)) rfl ?_
    refine go_smpq PM267 (L' := [some (.inr (.inr (some 3000))), some (.inr (.inr (some 0))), some (.inr (.inr (some 79))), some (.inl i)]) (st' := [.inl ((xs ((i + 1).toNat)).toInt), .inr (.inr (some 79))]) (w' := (SH, dt)) rfl rfl (s_iald (n := L) (f := fun j => (xs j).toInt) (am_scr hLL) ⟨by omega, by omega⟩) ?_
    refine go_callq PM267 PM248 (Q' := _) rfl rfl rfl rfl (sp_X6_look L xs sio (d + 38) dt hI  ((xs ((i + 1).toNat)).toInt) ⟨by omega, by omega⟩ ) ?_
    rintro _ _ ⟨rfl, h10⟩
    refine ⟨rfl, ?_⟩
    rcases h10 with ⟨rfl, h10⟩ | ⟨rfl, h10⟩ | ⟨rfl, h10⟩ | ⟨rfl, h10⟩ | ⟨rfl, h10⟩ | ⟨rfl, h10⟩ | ⟨rfl, h10⟩ | ⟨rfl, h10⟩ | ⟨rfl, h10⟩
    · skip
      refine go_toq PM267 (k := 2) (pc' := 1435) (L' := [some (.inr (.inr (some 3000))), some (.inr (.inr (some 0))), some (.inr (.inr (some 79))), some (.inl i)]) (st' := []) (w' := (SH, dt)) rfl ?_
      exact K dt hI hM hM2 hk0 hk1 hk2 hk3 hk4 hk5 hk6 hk7 hk8 hk9 hk10 hk11 hk12 hk13 hk14 hk15 (by first | exact hI | exact TPL_k hd0 (fun _ => rfl) (fun _ => rfl) (by omega) | (exfalso; omega)) (by first | exact hI | exact SCL_k hd1 hM (fun j _ => (fun _ => rfl) j) (fun j _ => (fun _ => rfl) j) (fun j _ _ => (fun _ => rfl) j) | (exfalso; omega)) (by first | exact hI | exact SCL_k hd2 hM2 (fun j _ => (fun _ => rfl) j) (fun j _ => (fun _ => rfl) j) (fun j _ _ => (fun _ => rfl) j) | (exfalso; omega))
    · skip
      refine go_toq PM267 (k := 2) (pc' := 1435) (L' := [some (.inr (.inr (some 3000))), some (.inr (.inr (some 0))), some (.inr (.inr (some 79))), some (.inl i)]) (st' := []) (w' := (SH, dt)) rfl ?_
      exact K dt hI hM hM2 hk0 hk1 hk2 hk3 hk4 hk5 hk6 hk7 hk8 hk9 hk10 hk11 hk12 hk13 hk14 hk15 (by first | exact hI | exact TPL_k hd0 (fun _ => rfl) (fun _ => rfl) (by omega) | (exfalso; omega)) (by first | exact hI | exact SCL_k hd1 hM (fun j _ => (fun _ => rfl) j) (fun j _ => (fun _ => rfl) j) (fun j _ _ => (fun _ => rfl) j) | (exfalso; omega)) (by first | exact hI | exact SCL_k hd2 hM2 (fun j _ => (fun _ => rfl) j) (fun j _ => (fun _ => rfl) j) (fun j _ _ => (fun _ => rfl) j) | (exfalso; omega))
    · skip
      refine go_toq PM267 (k := 2) (pc' := 1435) (L' := [some (.inr (.inr (some 3000))), some (.inr (.inr (some 0))), some (.inr (.inr (some 79))), some (.inl i)]) (st' := []) (w' := (SH, dt)) rfl ?_
      exact K dt hI hM hM2 hk0 hk1 hk2 hk3 hk4 hk5 hk6 hk7 hk8 hk9 hk10 hk11 hk12 hk13 hk14 hk15 (by first | exact hI | exact TPL_k hd0 (fun _ => rfl) (fun _ => rfl) (by omega) | (exfalso; omega)) (by first | exact hI | exact SCL_k hd1 hM (fun j _ => (fun _ => rfl) j) (fun j _ => (fun _ => rfl) j) (fun j _ _ => (fun _ => rfl) j) | (exfalso; omega)) (by first | exact hI | exact SCL_k hd2 hM2 (fun j _ => (fun _ => rfl) j) (fun j _ => (fun _ => rfl) j) (fun j _ _ => (fun _ => rfl) j) | (exfalso; omega))
    · skip
      refine go_toq PM267 (k := 2) (pc' := 1435) (L' := [some (.inr (.inr (some 3000))), some (.inr (.inr (some 0))), some (.inr (.inr (some 79))), some (.inl i)]) (st' := []) (w' := (SH, dt)) rfl ?_
      exact K dt hI hM hM2 hk0 hk1 hk2 hk3 hk4 hk5 hk6 hk7 hk8 hk9 hk10 hk11 hk12 hk13 hk14 hk15 (by first | exact hI | exact TPL_k hd0 (fun _ => rfl) (fun _ => rfl) (by omega) | (exfalso; omega)) (by first | exact hI | exact SCL_k hd1 hM (fun j _ => (fun _ => rfl) j) (fun j _ => (fun _ => rfl) j) (fun j _ _ => (fun _ => rfl) j) | (exfalso; omega)) (by first | exact hI | exact SCL_k hd2 hM2 (fun j _ => (fun _ => rfl) j) (fun j _ => (fun _ => rfl) j) (fun j _ _ => (fun _ => rfl) j) | (exfalso; omega))
    · skip
      refine go_toq PM267 (k := 2) (pc' := 1435) (L' := [some (.inr (.inr (some 3000))), some (.inr (.inr (some 0))), some (.inr (.inr (some 79))), some (.inl i)]) (st' := []) (w' := (SH, dt)) rfl ?_
      exact K dt hI hM hM2 hk0 hk1 hk2 hk3 hk4 hk5 hk6 hk7 hk8 hk9 hk10 hk11 hk12 hk13 hk14 hk15 (by first | exact hI | exact TPL_k hd0 (fun _ => rfl) (fun _ => rfl) (by omega) | (exfalso; omega)) (by first | exact hI | exact SCL_k hd1 hM (fun j _ => (fun _ => rfl) j) (fun j _ => (fun _ => rfl) j) (fun j _ _ => (fun _ => rfl) j) | (exfalso; omega)) (by first | exact hI | exact SCL_k hd2 hM2 (fun j _ => (fun _ => rfl) j) (fun j _ => (fun _ => rfl) j) (fun j _ _ => (fun _ => rfl) j) | (exfalso; omega))
    · skip
      refine go_toq PM267 (k := 2) (pc' := 1435) (L' := [some (.inr (.inr (some 3000))), some (.inr (.inr (some 0))), some (.inr (.inr (some 79))), some (.inl i)]) (st' := []) (w' := (SH, dt)) rfl ?_
      exact K dt hI hM hM2 hk0 hk1 hk2 hk3 hk4 hk5 hk6 hk7 hk8 hk9 hk10 hk11 hk12 hk13 hk14 hk15 (by first | exact hI | exact TPL_k hd0 (fun _ => rfl) (fun _ => rfl) (by omega) | (exfalso; omega)) (by first | exact hI | exact SCL_k hd1 hM (fun j _ => (fun _ => rfl) j) (fun j _ => (fun _ => rfl) j) (fun j _ _ => (fun _ => rfl) j) | (exfalso; omega)) (by first | exact hI | exact SCL_k hd2 hM2 (fun j _ => (fun _ => rfl) j) (fun j _ => (fun _ => rfl) j) (fun j _ _ => (fun _ => rfl) j) | (exfalso; omega))
    · skip
      obtain ⟨h10_0, h10_1⟩ := h10
      replace h10_1 := hid h10_1
      refine go_toq PM267 (k := 2) (pc' := 1435) (L' := [some (.inr (.inr (some 3000))), some (.inr (.inr (some 0))), some (.inr (.inr (some 79))), some (.inl i)]) (st' := []) (w' := (SH, dt)) rfl ?_
      exact K dt hI hM hM2 hk0 hk1 hk2 hk3 hk4 hk5 hk6 hk7 hk8 hk9 hk10 hk11 hk12 hk13 hk14 hk15 (by first | exact hI | exact TPL_k hd0 (fun _ => rfl) (fun _ => rfl) (by (first | omega | (have z0_ := unhid h10_1; omega))) | (exfalso; (first | omega | (have z0_ := unhid h10_1; omega)))) (by first | exact hI | exact SCL_k hd1 hM (fun j _ => (fun _ => rfl) j) (fun j _ => (fun _ => rfl) j) (fun j _ _ => (fun _ => rfl) j) | (exfalso; (first | omega | (have z0_ := unhid h10_1; omega)))) (by first | exact hI | exact SCL_k hd2 hM2 (fun j _ => (fun _ => rfl) j) (fun j _ => (fun _ => rfl) j) (fun j _ _ => (fun _ => rfl) j) | (exfalso; (first | omega | (have z0_ := unhid h10_1; omega))))
    · skip
      obtain ⟨h10_0, h10_1⟩ := h10
      refine go_toq PM267 (k := 2) (pc' := 1435) (L' := [some (.inr (.inr (some 3000))), some (.inr (.inr (some 0))), some (.inr (.inr (some 79))), some (.inl i)]) (st' := []) (w' := (SH, dt)) rfl ?_
      exact K dt hI hM hM2 hk0 hk1 hk2 hk3 hk4 hk5 hk6 hk7 hk8 hk9 hk10 hk11 hk12 hk13 hk14 hk15 (by first | exact hI | exact TPL_k hd0 (fun _ => rfl) (fun _ => rfl) (by omega) | (exfalso; omega)) (by first | exact hI | exact SCL_k hd1 hM (fun j _ => (fun _ => rfl) j) (fun j _ => (fun _ => rfl) j) (fun j _ _ => (fun _ => rfl) j) | (exfalso; omega)) (by first | exact hI | exact SCL_k hd2 hM2 (fun j _ => (fun _ => rfl) j) (fun j _ => (fun _ => rfl) j) (fun j _ _ => (fun _ => rfl) j) | (exfalso; omega))
    · skip
      refine go_toq PM267 (k := 2) (pc' := 1435) (L' := [some (.inr (.inr (some 3000))), some (.inr (.inr (some 0))), some (.inr (.inr (some 79))), some (.inl i)]) (st' := []) (w' := (SH, dt)) rfl ?_
      exact K dt hI hM hM2 hk0 hk1 hk2 hk3 hk4 hk5 hk6 hk7 hk8 hk9 hk10 hk11 hk12 hk13 hk14 hk15 (by first | exact hI | exact TPL_k hd0 (fun _ => rfl) (fun _ => rfl) (by omega) | (exfalso; omega)) (by first | exact hI | exact SCL_k hd1 hM (fun j _ => (fun _ => rfl) j) (fun j _ => (fun _ => rfl) j) (fun j _ _ => (fun _ => rfl) j) | (exfalso; omega)) (by first | exact hI | exact SCL_k hd2 hM2 (fun j _ => (fun _ => rfl) j) (fun j _ => (fun _ => rfl) j) (fun j _ _ => (fun _ => rfl) j) | (exfalso; omega))
  · skip
    refine go_toq PM267 (k := 6) (pc' := 1427) (L' := [some (.inr (.inr (some 3000))), some (.inr (.inr (some 0))), some (.inr (.inr (some 79))), some (.inl i)]) (st' := [.inl (i + 1), .inr (.inr (some 3000)), .inr (.inr (some 79))]) (w' := (SH, dt)) rfl ?_
    refine go_smpq PM267 (L' := [some (.inr (.inr (some 3000))), some (.inr (.inr (some 0))), some (.inr (.inr (some 79))), some (.inl i)]) (st' := [.inl ((xs ((i + 1).toNat)).toInt), .inr (.inr (some 79))]) (w' := (SH, dt)) rfl rfl (s_iald (n := L) (f := fun j => (xs j).toInt) (am_scr hLL) ⟨by omega, by omega⟩) ?_
    refine go_callq PM267 PM248 (Q' := _) rfl rfl rfl rfl (sp_X6_look L xs sio (d + 38) dt hI  ((xs ((i + 1).toNat)).toInt) ⟨by omega, by omega⟩ ) ?_
    rintro _ _ ⟨rfl, h11⟩
    refine ⟨rfl, ?_⟩
    rcases h11 with ⟨rfl, h11⟩ | ⟨rfl, h11⟩ | ⟨rfl, h11⟩ | ⟨rfl, h11⟩ | ⟨rfl, h11⟩ | ⟨rfl, h11⟩ | ⟨rfl, h11⟩ | ⟨rfl, h11⟩ | ⟨rfl, h11⟩
    · skip
      refine go_toq PM267 (k := 2) (pc' := 1435) (L' := [some (.inr (.inr (some 3000))), some (.inr (.inr (some 0))), some (.inr (.inr (some 79))), some (.inl i)]) (st' := []) (w' := (SH, dt)) rfl ?_
      exact K dt hI hM hM2 hk0 hk1 hk2 hk3 hk4 hk5 hk6 hk7 hk8 hk9 hk10 hk11 hk12 hk13 hk14 hk15 (by first | exact hI | exact TPL_k hd0 (fun _ => rfl) (fun _ => rfl) (by omega) | (exfalso; omega)) (by first | exact hI | exact SCL_k hd1 hM (fun j _ => (fun _ => rfl) j) (fun j _ => (fun _ => rfl) j) (fun j _ _ => (fun _ => rfl) j) | (exfalso; omega)) (by first | exact hI | exact SCL_k hd2 hM2 (fun j _ => (fun _ => rfl) j) (fun j _ => (fun _ => rfl) j) (fun j _ _ => (fun _ => rfl) j) | (exfalso; omega))
    · skip
      refine go_toq PM267 (k := 2) (pc' := 1435) (L' := [some (.inr (.inr (some 3000))), some (.inr (.inr (some 0))), some (.inr (.inr (some 79))), some (.inl i)]) (st' := []) (w' := (SH, dt)) rfl ?_
      exact K dt hI hM hM2 hk0 hk1 hk2 hk3 hk4 hk5 hk6 hk7 hk8 hk9 hk10 hk11 hk12 hk13 hk14 hk15 (by first | exact hI | exact TPL_k hd0 (fun _ => rfl) (fun _ => rfl) (by omega) | (exfalso; omega)) (by first | exact hI | exact SCL_k hd1 hM (fun j _ => (fun _ => rfl) j) (fun j _ => (fun _ => rfl) j) (fun j _ _ => (fun _ => rfl) j) | (exfalso; omega)) (by first | exact hI | exact SCL_k hd2 hM2 (fun j _ => (fun _ => rfl) j) (fun j _ => (fun _ => rfl) j) (fun j _ _ => (fun _ => rfl) j) | (exfalso; omega))
    · skip
      refine go_toq PM267 (k := 2) (pc' := 1435) (L' := [some (.inr (.inr (some 3000))), some (.inr (.inr (some 0))), some (.inr (.inr (some 79))), some (.inl i)]) (st' := []) (w' := (SH, dt)) rfl ?_
      exact K dt hI hM hM2 hk0 hk1 hk2 hk3 hk4 hk5 hk6 hk7 hk8 hk9 hk10 hk11 hk12 hk13 hk14 hk15 (by first | exact hI | exact TPL_k hd0 (fun _ => rfl) (fun _ => rfl) (by omega) | (exfalso; omega)) (by first | exact hI | exact SCL_k hd1 hM (fun j _ => (fun _ => rfl) j) (fun j _ => (fun _ => rfl) j) (fun j _ _ => (fun _ => rfl) j) | (exfalso; omega)) (by first | exact hI | exact SCL_k hd2 hM2 (fun j _ => (fun _ => rfl) j) (fun j _ => (fun _ => rfl) j) (fun j _ _ => (fun _ => rfl) j) | (exfalso; omega))
    · skip
      refine go_toq PM267 (k := 2) (pc' := 1435) (L' := [some (.inr (.inr (some 3000))), some (.inr (.inr (some 0))), some (.inr (.inr (some 79))), some (.inl i)]) (st' := []) (w' := (SH, dt)) rfl ?_
      exact K dt hI hM hM2 hk0 hk1 hk2 hk3 hk4 hk5 hk6 hk7 hk8 hk9 hk10 hk11 hk12 hk13 hk14 hk15 (by first | exact hI | exact TPL_k hd0 (fun _ => rfl) (fun _ => rfl) (by omega) | (exfalso; omega)) (by first | exact hI | exact SCL_k hd1 hM (fun j _ => (fun _ => rfl) j) (fun j _ => (fun _ => rfl) j) (fun j _ _ => (fun _ => rfl) j) | (exfalso; omega)) (by first | exact hI | exact SCL_k hd2 hM2 (fun j _ => (fun _ => rfl) j) (fun j _ => (fun _ => rfl) j) (fun j _ _ => (fun _ => rfl) j) | (exfalso; omega))
    · skip
      refine go_toq PM267 (k := 2) (pc' := 1435) (L' := [some (.inr (.inr (some 3000))), some (.inr (.inr (some 0))), some (.inr (.inr (some 79))), some (.inl i)]) (st' := []) (w' := (SH, dt)) rfl ?_
      exact K dt hI hM hM2 hk0 hk1 hk2 hk3 hk4 hk5 hk6 hk7 hk8 hk9 hk10 hk11 hk12 hk13 hk14 hk15 (by first | exact hI | exact TPL_k hd0 (fun _ => rfl) (fun _ => rfl) (by omega) | (exfalso; omega)) (by first | exact hI | exact SCL_k hd1 hM (fun j _ => (fun _ => rfl) j) (fun j _ => (fun _ => rfl) j) (fun j _ _ => (fun _ => rfl) j) | (exfalso; omega)) (by first | exact hI | exact SCL_k hd2 hM2 (fun j _ => (fun _ => rfl) j) (fun j _ => (fun _ => rfl) j) (fun j _ _ => (fun _ => rfl) j) | (exfalso; omega))
    · skip
      refine go_toq PM267 (k := 2) (pc' := 1435) (L' := [some (.inr (.inr (some 3000))), some (.inr (.inr (some 0))), some (.inr (.inr (some 79))), some (.inl i)]) (st' := []) (w' := (SH, dt)) rfl ?_
      exact K dt hI hM hM2 hk0 hk1 hk2 hk3 hk4 hk5 hk6 hk7 hk8 hk9 hk10 hk11 hk12 hk13 hk14 hk15 (by first | exact hI | exact TPL_k hd0 (fun _ => rfl) (fun _ => rfl) (by omega) | (exfalso; omega)) (by first | exact hI | exact SCL_k hd1 hM (fun j _ => (fun _ => rfl) j) (fun j _ => (fun _ => rfl) j) (fun j _ _ => (fun _ => rfl) j) | (exfalso; omega)) (by first | exact hI | exact SCL_k hd2 hM2 (fun j _ => (fun _ => rfl) j) (fun j _ => (fun _ => rfl) j) (fun j _ _ => (fun _ => rfl) j) | (exfalso; omega))
    · skip
      obtain ⟨h11_0, h11_1⟩ := h11
      replace h11_1 := hid h11_1
      refine go_toq PM267 (k := 2) (pc' := 1435) (L' := [some (.inr (.inr (some 3000))), some (.inr (.inr (some 0))), some (.inr (.inr (some 79))), some (.inl i)]) (st' := []) (w' := (SH, dt)) rfl ?_
      exact K dt hI hM hM2 hk0 hk1 hk2 hk3 hk4 hk5 hk6 hk7 hk8 hk9 hk10 hk11 hk12 hk13 hk14 hk15 (by first | exact hI | exact TPL_k hd0 (fun _ => rfl) (fun _ => rfl) (by (first | omega | (have z0_ := unhid h11_1; omega))) | (exfalso; (first | omega | (have z0_ := unhid h11_1; omega)))) (by first | exact hI | exact SCL_k hd1 hM (fun j _ => (fun _ => rfl) j) (fun j _ => (fun _ => rfl) j) (fun j _ _ => (fun _ => rfl) j) | (exfalso; (first | omega | (have z0_ := unhid h11_1; omega)))) (by first | exact hI | exact SCL_k hd2 hM2 (fun j _ => (fun _ => rfl) j) (fun j _ => (fun _ => rfl) j) (fun j _ _ => (fun _ => rfl) j) | (exfalso; (first | omega | (have z0_ := unhid h11_1; omega))))
    · skip
      obtain ⟨h11_0, h11_1⟩ := h11
      refine go_toq PM267 (k := 2) (pc' := 1435) (L' := [some (.inr (.inr (some 3000))), some (.inr (.inr (some 0))), some (.inr (.inr (some 79))), some (.inl i)]) (st' := []) (w' := (SH, dt)) rfl ?_
      exact K dt hI hM hM2 hk0 hk1 hk2 hk3 hk4 hk5 hk6 hk7 hk8 hk9 hk10 hk11 hk12 hk13 hk14 hk15 (by first | exact hI | exact TPL_k hd0 (fun _ => rfl) (fun _ => rfl) (by omega) | (exfalso; omega)) (by first | exact hI | exact SCL_k hd1 hM (fun j _ => (fun _ => rfl) j) (fun j _ => (fun _ => rfl) j) (fun j _ _ => (fun _ => rfl) j) | (exfalso; omega)) (by first | exact hI | exact SCL_k hd2 hM2 (fun j _ => (fun _ => rfl) j) (fun j _ => (fun _ => rfl) j) (fun j _ _ => (fun _ => rfl) j) | (exfalso; omega))
    · skip
      refine go_toq PM267 (k := 2) (pc' := 1435) (L' := [some (.inr (.inr (some 3000))), some (.inr (.inr (some 0))), some (.inr (.inr (some 79))), some (.inl i)]) (st' := []) (w' := (SH, dt)) rfl ?_
      exact K dt hI hM hM2 hk0 hk1 hk2 hk3 hk4 hk5 hk6 hk7 hk8 hk9 hk10 hk11 hk12 hk13 hk14 hk15 (by first | exact hI | exact TPL_k hd0 (fun _ => rfl) (fun _ => rfl) (by omega) | (exfalso; omega)) (by first | exact hI | exact SCL_k hd1 hM (fun j _ => (fun _ => rfl) j) (fun j _ => (fun _ => rfl) j) (fun j _ _ => (fun _ => rfl) j) | (exfalso; omega)) (by first | exact hI | exact SCL_k hd2 hM2 (fun j _ => (fun _ => rfl) j) (fun j _ => (fun _ => rfl) j) (fun j _ _ => (fun _ => rfl) j) | (exfalso; omega))
