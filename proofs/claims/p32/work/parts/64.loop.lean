set_option maxRecDepth 20000 in
set_option maxHeartbeats 8000000 in
theorem sp_case22 (L : Nat) (xs : Nat → Int32) (sio : Option Nat) (d : Nat) (Q : Option AV → am_W → Prop) (hLL : L ≤ 3072) (i : Int) (hi : 0 ≤ i ∧ i ≤ 3066) (hil : i ≤ (L : Int) - 6) (dt : Nat → Nat → Int) (hI : InvC dt) (hM : MW (dt 80)) (hM2 : MW (dt 81)) (hk0 : dt 1 0 = dt 80 0) (hk1 : dt 7 3 = dt 80 1) (hk2 : dt 10 3 = dt 80 2) (hk3 : dt 12 3 = dt 80 3) (hk4 : dt 14 3 = dt 80 4) (hk5 : dt 16 3 = dt 80 5) (hk6 : dt 18 0 = dt 81 0) (hk7 : dt 24 3 = dt 81 1) (hk8 : dt 27 3 = dt 81 2) (hk9 : dt 29 3 = dt 81 3) (hk10 : dt 31 3 = dt 81 4) (hk11 : dt 33 3 = dt 81 5) (hk12 : dt 0 2 = dt 79 2) (hk13 : dt 35 1 = dt 79 12) (hk14 : dt 35 2 = dt 79 19) (hk15 : dt 35 3 = dt 79 21) (hd0 : TPL (dt 36) (dt 85) (dt 35 1)) (hd1 : SCL (dt 2) (dt 3) (dt 80)) (hd2 : SCL (dt 19) (dt 20) (dt 81)) (hd3 : QRL (dt 8) (dt 80)) (hd4 : QRL (dt 25) (dt 81)) (hd5 : SDL (dt 9) (dt 80)) (hd6 : SDL (dt 26) (dt 81)) (hd7 : LWL (dt 4) (dt 5) (dt 6) (dt 80)) (hd8 : LWL (dt 21) (dt 22) (dt 23) (dt 81)) (hd9 : CHL (dt 11) (dt 80)) (hd10 : CHL (dt 28) (dt 81)) (K : ∀ (dt : Nat → Nat → Int) (hI : InvC dt) (hM : MW (dt 80)) (hM2 : MW (dt 81)) (hk0 : dt 1 0 = dt 80 0) (hk1 : dt 7 3 = dt 80 1) (hk2 : dt 10 3 = dt 80 2) (hk3 : dt 12 3 = dt 80 3) (hk4 : dt 14 3 = dt 80 4) (hk5 : dt 16 3 = dt 80 5) (hk6 : dt 18 0 = dt 81 0) (hk7 : dt 24 3 = dt 81 1) (hk8 : dt 27 3 = dt 81 2) (hk9 : dt 29 3 = dt 81 3) (hk10 : dt 31 3 = dt 81 4) (hk11 : dt 33 3 = dt 81 5) (hk12 : dt 0 2 = dt 79 2) (hk13 : dt 35 1 = dt 79 12) (hk14 : dt 35 2 = dt 79 19) (hk15 : dt 35 3 = dt 79 21) (hd0 : TPL (dt 36) (dt 85) (dt 35 1)) (hd1 : SCL (dt 2) (dt 3) (dt 80)) (hd2 : SCL (dt 19) (dt 20) (dt 81)) (hd3 : QRL (dt 8) (dt 80)) (hd4 : QRL (dt 25) (dt 81)) (hd5 : SDL (dt 9) (dt 80)) (hd6 : SDL (dt 26) (dt 81)) (hd7 : LWL (dt 4) (dt 5) (dt 6) (dt 80)) (hd8 : LWL (dt 21) (dt 22) (dt 23) (dt 81)) (hd9 : CHL (dt 11) (dt 80)) (hd10 : CHL (dt 28) (dt 81)), GO (am_XX L xs sio) (d + 39) 267 1435 [some (.inr (.inr (some 3000))), some (.inr (.inr (some 0))), some (.inr (.inr (some 79))), some (.inl i)] [] (SH, dt) Q) : GO (am_XX L xs sio) (d + 39) 267 1086 [some (.inr (.inr (some 3000))), some (.inr (.inr (some 0))), some (.inr (.inr (some 79))), some (.inl i)] [] (SH, dt) Q := by
  have hF : Fr [0, 1, 2, 3, 4, 5, 6, 7, 8, 9, 10, 11, 12, 13, 14, 15, 16, 17, 18, 19, 20, 21, 22, 23, 24, 25, 26, 27, 28, 29, 30, 31, 32, 33, 34, 35, 36, 37, 38, 39, 40, 41, 42, 43, 44, 45, 46, 47, 48, 49, 50, 51, 52, 53, 54, 55, 56, 57, 58, 59, 60, 61, 62, 63, 64, 65, 66, 67, 68, 69, 70, 71, 72, 73, 74, 75, 76, 77, 78, 79, 80, 81, 82, 83, 84, 85, 86, 87, 88, 89, 90, 91, 92, 93, 94, 95, 96, 97, 98, 99, 100, 101, 102, 103, 104] dt dt := Fr_refl
  have hqo := QOC_R hd3 hM hk1
  have hb1_ := hM.1.1
  have hb2_ := hM.1.2.1
  have hb3_ := hM.1.2.2.1
  have halk : ALK dt (dt 80) := ⟨hd7, hd3, hd5, hd9, hk1, hk2⟩
  refine go_toq PM267 (k := 5) (pc' := 1091) (L' := [some (.inr (.inr (some 3000))), some (.inr (.inr (some 0))), some (.inr (.inr (some 79))), some (.inl i)]) (st' := [.inl (i + 1), .inr (.inr (some 3000)), .inr (.inr (some 0))]) (w' := (SH, dt)) rfl ?_
  have r1 := i32_R (xs ((i + 1).toNat))
  refine go_smpq PM267 (L' := [some (.inr (.inr (some 3000))), some (.inr (.inr (some 0))), some (.inr (.inr (some 79))), some (.inl i)]) (st' := [.inl ((xs ((i + 1).toNat)).toInt), .inr (.inr (some 0))]) (w' := (SH, dt)) rfl rfl (s_iald (n := L) (f := fun j => (xs j).toInt) (am_scr hLL) ⟨by omega, by omega⟩) ?_
  refine go_callq PM267 PM89 (Q' := _) rfl rfl rfl rfl (sp_X5_beside L xs sio (d + 34) dt hI  ((xs ((i + 1).toNat)).toInt) ⟨by omega, by omega⟩ ) ?_
  rintro _ _ ⟨dt3, rfl, hI4, hF5, h2⟩
  refine ⟨rfl, ?_⟩
  have hF6 : Fr [0, 1, 2, 3, 4, 5, 6, 7, 8, 9, 10, 11, 12, 13, 14, 15, 16, 17, 18, 19, 20, 21, 22, 23, 24, 25, 26, 27, 28, 29, 30, 31, 32, 33, 34, 35, 36, 37, 38, 39, 40, 41, 42, 43, 44, 45, 46, 47, 48, 49, 50, 51, 52, 53, 54, 55, 56, 57, 58, 59, 60, 61, 62, 63, 64, 65, 66, 67, 68, 69, 70, 71, 72, 73, 74, 75, 76, 77, 78, 79, 80, 81, 82, 83, 84, 85, 86, 87, 88, 89, 90, 91, 92, 93, 94, 95, 96, 97, 98, 99, 100, 101, 102, 103, 104] dt dt3 := Fr_tr hF hF5 (by decide)
  have hM7 : MW (dt3 80) := MW_fr hM hF5 (by decide)
  have w8 : dt3 1 0 = dt 1 0 := hF5 1 (by decide) 0
  have w9 : dt3 7 3 = dt 7 3 := hF5 7 (by decide) 3
  have w10 : dt3 10 3 = dt 10 3 := hF5 10 (by decide) 3
  have w11 : dt3 12 3 = dt 12 3 := hF5 12 (by decide) 3
  have w12 : dt3 14 3 = dt 14 3 := hF5 14 (by decide) 3
  have w13 : dt3 16 3 = dt 16 3 := hF5 16 (by decide) 3
  have w14 : dt3 18 0 = dt 18 0 := hF5 18 (by decide) 0
  have w15 : dt3 24 3 = dt 24 3 := hF5 24 (by decide) 3
  have w16 : dt3 27 3 = dt 27 3 := hF5 27 (by decide) 3
  have w17 : dt3 29 3 = dt 29 3 := hF5 29 (by decide) 3
  have w18 : dt3 31 3 = dt 31 3 := hF5 31 (by decide) 3
  have w19 : dt3 33 3 = dt 33 3 := hF5 33 (by decide) 3
  have w20 : dt3 0 2 = dt 0 2 := hF5 0 (by decide) 2
  have w21 : dt3 35 1 = dt 35 1 := hF5 35 (by decide) 1
  have w22 : dt3 35 2 = dt 35 2 := hF5 35 (by decide) 2
  have w23 : dt3 35 3 = dt 35 3 := hF5 35 (by decide) 3
  have w24 : dt3 80 0 = dt 80 0 := hF5 80 (by decide) 0
  have w25 : dt3 80 1 = dt 80 1 := hF5 80 (by decide) 1
  have w26 : dt3 80 2 = dt 80 2 := hF5 80 (by decide) 2
  have w27 : dt3 80 3 = dt 80 3 := hF5 80 (by decide) 3
  have w28 : dt3 80 4 = dt 80 4 := hF5 80 (by decide) 4
  have w29 : dt3 80 5 = dt 80 5 := hF5 80 (by decide) 5
  have w30 : dt3 81 0 = dt 81 0 := hF5 81 (by decide) 0
  have w31 : dt3 81 1 = dt 81 1 := hF5 81 (by decide) 1
  have w32 : dt3 81 2 = dt 81 2 := hF5 81 (by decide) 2
  have w33 : dt3 81 3 = dt 81 3 := hF5 81 (by decide) 3
  have w34 : dt3 81 4 = dt 81 4 := hF5 81 (by decide) 4
  have w35 : dt3 81 5 = dt 81 5 := hF5 81 (by decide) 5
  have w36 : dt3 79 2 = dt 79 2 := hF5 79 (by decide) 2
  have w37 : dt3 79 12 = dt 79 12 := hF5 79 (by decide) 12
  have w38 : dt3 79 19 = dt 79 19 := hF5 79 (by decide) 19
  have w39 : dt3 79 21 = dt 79 21 := hF5 79 (by decide) 21
  rcases h2 with ⟨v_h2, rfl, h2r, h2⟩
  have M240 : MW (dt3 81) := MW_frk hM2 hF5 (by decide)
  have C41 : ∀ j : Nat, dt3 2 j = dt 2 j := fun j => (hF5 2 (by decide) j).trans ((fun _ => rfl) j)
  have C42 : ∀ j : Nat, dt3 3 j = dt 3 j := fun j => (hF5 3 (by decide) j).trans ((fun _ => rfl) j)
  have C43 : ∀ j : Nat, dt3 4 j = dt 4 j := fun j => (hF5 4 (by decide) j).trans ((fun _ => rfl) j)
  have C44 : ∀ j : Nat, dt3 5 j = dt 5 j := fun j => (hF5 5 (by decide) j).trans ((fun _ => rfl) j)
  have C45 : ∀ j : Nat, dt3 6 j = dt 6 j := fun j => (hF5 6 (by decide) j).trans ((fun _ => rfl) j)
  have C46 : ∀ j : Nat, dt3 8 j = dt 8 j := fun j => (hF5 8 (by decide) j).trans ((fun _ => rfl) j)
  have C47 : ∀ j : Nat, dt3 9 j = dt 9 j := fun j => (hF5 9 (by decide) j).trans ((fun _ => rfl) j)
  have C48 : ∀ j : Nat, dt3 11 j = dt 11 j := fun j => (hF5 11 (by decide) j).trans ((fun _ => rfl) j)
  have C49 : ∀ j : Nat, dt3 19 j = dt 19 j := fun j => (hF5 19 (by decide) j).trans ((fun _ => rfl) j)
  have C50 : ∀ j : Nat, dt3 20 j = dt 20 j := fun j => (hF5 20 (by decide) j).trans ((fun _ => rfl) j)
  have C51 : ∀ j : Nat, dt3 21 j = dt 21 j := fun j => (hF5 21 (by decide) j).trans ((fun _ => rfl) j)
  have C52 : ∀ j : Nat, dt3 22 j = dt 22 j := fun j => (hF5 22 (by decide) j).trans ((fun _ => rfl) j)
  have C53 : ∀ j : Nat, dt3 23 j = dt 23 j := fun j => (hF5 23 (by decide) j).trans ((fun _ => rfl) j)
  have C54 : ∀ j : Nat, dt3 25 j = dt 25 j := fun j => (hF5 25 (by decide) j).trans ((fun _ => rfl) j)
  have C55 : ∀ j : Nat, dt3 26 j = dt 26 j := fun j => (hF5 26 (by decide) j).trans ((fun _ => rfl) j)
  have C56 : ∀ j : Nat, dt3 28 j = dt 28 j := fun j => (hF5 28 (by decide) j).trans ((fun _ => rfl) j)
  have C57 : ∀ j : Nat, dt3 36 j = dt 36 j := fun j => (hF5 36 (by decide) j).trans ((fun _ => rfl) j)
  have C58 : ∀ j : Nat, dt3 80 j = dt 80 j := fun j => (hF5 80 (by decide) j).trans ((fun _ => rfl) j)
  have C59 : ∀ j : Nat, dt3 81 j = dt 81 j := fun j => (hF5 81 (by decide) j).trans ((fun _ => rfl) j)
  have C60 : ∀ j : Nat, dt3 85 j = dt 85 j := fun j => (hF5 85 (by decide) j).trans ((fun _ => rfl) j)
  refine go_toq PM267 (k := 6) (pc' := 1101) (L' := [some (.inr (.inr (some 3000))), some (.inr (.inr (some 0))), some (.inr (.inr (some 79))), some (.inl i)]) (st' := [.inl (i + 1), .inr (.inr (some 3000)), .inr (.inr (some 79))]) (w' := (SH, dt3)) rfl ?_
  have r61 := i32_R (xs ((i + 1).toNat))
  refine go_smpq PM267 (L' := [some (.inr (.inr (some 3000))), some (.inr (.inr (some 0))), some (.inr (.inr (some 79))), some (.inl i)]) (st' := [.inl ((xs ((i + 1).toNat)).toInt), .inr (.inr (some 79))]) (w' := (SH, dt3)) rfl rfl (s_iald (n := L) (f := fun j => (xs j).toInt) (am_scr hLL) ⟨by omega, by omega⟩) ?_
  refine go_callq PM267 PM232 (Q' := _) rfl rfl rfl rfl (sp_X6_beside L xs sio (d + 31) dt3 hI4 hM7  ((xs ((i + 1).toNat)).toInt) ⟨by omega, by omega⟩ ) ?_
  rintro _ _ ⟨dt63, rfl, hI64, hF65, h62⟩
  refine ⟨rfl, ?_⟩
  have hF66 : Fr [0, 1, 2, 3, 4, 5, 6, 7, 8, 9, 10, 11, 12, 13, 14, 15, 16, 17, 18, 19, 20, 21, 22, 23, 24, 25, 26, 27, 28, 29, 30, 31, 32, 33, 34, 35, 36, 37, 38, 39, 40, 41, 42, 43, 44, 45, 46, 47, 48, 49, 50, 51, 52, 53, 54, 55, 56, 57, 58, 59, 60, 61, 62, 63, 64, 65, 66, 67, 68, 69, 70, 71, 72, 73, 74, 75, 76, 77, 78, 79, 80, 81, 82, 83, 84, 85, 86, 87, 88, 89, 90, 91, 92, 93, 94, 95, 96, 97, 98, 99, 100, 101, 102, 103, 104] dt dt63 := Fr_tr hF6 hF65 (by decide)
  have hM67 : MW (dt63 80) := MW_fr hM7 hF65 (by decide)
  have w68 : dt63 1 0 = dt 1 0 := (hF65 1 (by decide) 0).trans w8
  have w69 : dt63 7 3 = dt 7 3 := (hF65 7 (by decide) 3).trans w9
  have w70 : dt63 10 3 = dt 10 3 := (hF65 10 (by decide) 3).trans w10
  have w71 : dt63 12 3 = dt 12 3 := (hF65 12 (by decide) 3).trans w11
  have w72 : dt63 14 3 = dt 14 3 := (hF65 14 (by decide) 3).trans w12
  have w73 : dt63 16 3 = dt 16 3 := (hF65 16 (by decide) 3).trans w13
  have w74 : dt63 18 0 = dt 18 0 := (hF65 18 (by decide) 0).trans w14
  have w75 : dt63 24 3 = dt 24 3 := (hF65 24 (by decide) 3).trans w15
  have w76 : dt63 27 3 = dt 27 3 := (hF65 27 (by decide) 3).trans w16
  have w77 : dt63 29 3 = dt 29 3 := (hF65 29 (by decide) 3).trans w17
  have w78 : dt63 31 3 = dt 31 3 := (hF65 31 (by decide) 3).trans w18
  have w79 : dt63 33 3 = dt 33 3 := (hF65 33 (by decide) 3).trans w19
  have w80 : dt63 0 2 = dt 0 2 := (hF65 0 (by decide) 2).trans w20
  have w81 : dt63 35 1 = dt 35 1 := (hF65 35 (by decide) 1).trans w21
  have w82 : dt63 35 2 = dt 35 2 := (hF65 35 (by decide) 2).trans w22
  have w83 : dt63 35 3 = dt 35 3 := (hF65 35 (by decide) 3).trans w23
  have w84 : dt63 80 0 = dt 80 0 := (hF65 80 (by decide) 0).trans w24
  have w85 : dt63 80 1 = dt 80 1 := (hF65 80 (by decide) 1).trans w25
  have w86 : dt63 80 2 = dt 80 2 := (hF65 80 (by decide) 2).trans w26
  have w87 : dt63 80 3 = dt 80 3 := (hF65 80 (by decide) 3).trans w27
  have w88 : dt63 80 4 = dt 80 4 := (hF65 80 (by decide) 4).trans w28
  have w89 : dt63 80 5 = dt 80 5 := (hF65 80 (by decide) 5).trans w29
  have w90 : dt63 81 0 = dt 81 0 := (hF65 81 (by decide) 0).trans w30
  have w91 : dt63 81 1 = dt 81 1 := (hF65 81 (by decide) 1).trans w31
  have w92 : dt63 81 2 = dt 81 2 := (hF65 81 (by decide) 2).trans w32
  have w93 : dt63 81 3 = dt 81 3 := (hF65 81 (by decide) 3).trans w33
  have w94 : dt63 81 4 = dt 81 4 := (hF65 81 (by decide) 4).trans w34
  have w95 : dt63 81 5 = dt 81 5 := (hF65 81 (by decide) 5).trans w35
  have w96 : dt63 79 2 = dt 79 2 := (hF65 79 (by decide) 2).trans w36
  have w97 : dt63 79 12 = dt 79 12 := (hF65 79 (by decide) 12).trans w37
  have w98 : dt63 79 19 = dt 79 19 := (hF65 79 (by decide) 19).trans w38
  have w99 : dt63 79 21 = dt 79 21 := (hF65 79 (by decide) 21).trans w39
  rcases h62 with ⟨v_h62, rfl, h62r, h62⟩
  have M2100 : MW (dt63 81) := MW_frk M240 hF65 (by decide)
  have C101 : ∀ j : Nat, dt63 2 j = dt 2 j := fun j => (hF65 2 (by decide) j).trans (C41 j)
  have C102 : ∀ j : Nat, dt63 3 j = dt 3 j := fun j => (hF65 3 (by decide) j).trans (C42 j)
  have C103 : ∀ j : Nat, dt63 4 j = dt 4 j := fun j => (hF65 4 (by decide) j).trans (C43 j)
  have C104 : ∀ j : Nat, dt63 5 j = dt 5 j := fun j => (hF65 5 (by decide) j).trans (C44 j)
  have C105 : ∀ j : Nat, dt63 6 j = dt 6 j := fun j => (hF65 6 (by decide) j).trans (C45 j)
  have C106 : ∀ j : Nat, dt63 8 j = dt 8 j := fun j => (hF65 8 (by decide) j).trans (C46 j)
  have C107 : ∀ j : Nat, dt63 9 j = dt 9 j := fun j => (hF65 9 (by decide) j).trans (C47 j)
  have C108 : ∀ j : Nat, dt63 11 j = dt 11 j := fun j => (hF65 11 (by decide) j).trans (C48 j)
  have C109 : ∀ j : Nat, dt63 19 j = dt 19 j := fun j => (hF65 19 (by decide) j).trans (C49 j)
  have C110 : ∀ j : Nat, dt63 20 j = dt 20 j := fun j => (hF65 20 (by decide) j).trans (C50 j)
  have C111 : ∀ j : Nat, dt63 21 j = dt 21 j := fun j => (hF65 21 (by decide) j).trans (C51 j)
  have C112 : ∀ j : Nat, dt63 22 j = dt 22 j := fun j => (hF65 22 (by decide) j).trans (C52 j)
  have C113 : ∀ j : Nat, dt63 23 j = dt 23 j := fun j => (hF65 23 (by decide) j).trans (C53 j)
  have C114 : ∀ j : Nat, dt63 25 j = dt 25 j := fun j => (hF65 25 (by decide) j).trans (C54 j)
  have C115 : ∀ j : Nat, dt63 26 j = dt 26 j := fun j => (hF65 26 (by decide) j).trans (C55 j)
  have C116 : ∀ j : Nat, dt63 28 j = dt 28 j := fun j => (hF65 28 (by decide) j).trans (C56 j)
  have C117 : ∀ j : Nat, dt63 36 j = dt 36 j := fun j => (hF65 36 (by decide) j).trans (C57 j)
  have C118 : ∀ j : Nat, dt63 80 j = dt 80 j := fun j => (hF65 80 (by decide) j).trans (C58 j)
  have C119 : ∀ j : Nat, dt63 81 j = dt 81 j := fun j => (hF65 81 (by decide) j).trans (C59 j)
  have C120 : ∀ j : Nat, dt63 85 j = dt 85 j := fun j => (hF65 85 (by decide) j).trans (C60 j)
  refine go_toq PM267 (k := 2) (pc' := 1435) (L' := [some (.inr (.inr (some 3000))), some (.inr (.inr (some 0))), some (.inr (.inr (some 79))), some (.inl i)]) (st' := []) (w' := (SH, dt63)) rfl ?_
  exact K dt63 hI64 hM67 M2100 (w68.trans (hk0.trans w84.symm)) (w69.trans (hk1.trans w85.symm)) (w70.trans (hk2.trans w86.symm)) (w71.trans (hk3.trans w87.symm)) (w72.trans (hk4.trans w88.symm)) (w73.trans (hk5.trans w89.symm)) (w74.trans (hk6.trans w90.symm)) (w75.trans (hk7.trans w91.symm)) (w76.trans (hk8.trans w92.symm)) (w77.trans (hk9.trans w93.symm)) (w78.trans (hk10.trans w94.symm)) (w79.trans (hk11.trans w95.symm)) (w80.trans (hk12.trans w96.symm)) (w81.trans (hk13.trans w97.symm)) (w82.trans (hk14.trans w98.symm)) (w83.trans (hk15.trans w99.symm)) (by first | exact hI | exact TPL_k hd0 C117 C120 (by omega) | (exfalso; omega)) (by first | exact hI | exact SCL_k hd1 hM (fun j _ => C101 j) (fun j _ => C102 j) (fun j _ _ => C118 j) | (exfalso; omega)) (by first | exact hI | exact SCL_k hd2 hM2 (fun j _ => C109 j) (fun j _ => C110 j) (fun j _ _ => C119 j) | (exfalso; omega)) (by first | exact hI | exact QRL_k hd3 hM (fun j _ => C106 j) (C118 1) (fun j _ _ => C118 j) | (exfalso; omega)) (by first | exact hI | exact QRL_k hd4 hM2 (fun j _ => C114 j) (C119 1) (fun j _ _ => C119 j) | (exfalso; omega)) (by first | exact hI | exact SDL_k hd5 hM (fun j _ => C107 j) (C118 1) (fun j _ _ => C118 j) (fun j _ _ => C118 j) | (exfalso; omega)) (by first | exact hI | exact SDL_k hd6 hM2 (fun j _ => C115 j) (C119 1) (fun j _ _ => C119 j) (fun j _ _ => C119 j) | (exfalso; omega)) (by first | exact hI | exact LWL_k hd7 hM (fun j _ => C103 j) (fun j _ => C104 j) (fun j _ => C105 j) (fun j _ _ => C118 j) | (exfalso; omega)) (by first | exact hI | exact LWL_k hd8 hM2 (fun j _ => C111 j) (fun j _ => C112 j) (fun j _ => C113 j) (fun j _ _ => C119 j) | (exfalso; omega)) (by first | exact hI | exact CHL_k hd9 hM (fun j _ => C108 j) (by omega) (fun j _ _ => C118 j) | (exfalso; omega)) (by first | exact hI | exact CHL_k hd10 hM2 (fun j _ => C116 j) (by omega) (fun j _ _ => C119 j) | (exfalso; omega))
set_option maxRecDepth 20000 in
set_option maxHeartbeats 8000000 in
theorem sp_case23 (L : Nat) (xs : Nat → Int32) (sio : Option Nat) (d : Nat) (Q : Option AV → am_W → Prop) (hLL : L ≤ 3072) (i : Int) (hi : 0 ≤ i ∧ i ≤ 3066) (hil : i ≤ (L : Int) - 6) (dt : Nat → Nat → Int) (hI : InvC dt) (hM : MW (dt 80)) (hM2 : MW (dt 81)) (hk0 : dt 1 0 = dt 80 0) (hk1 : dt 7 3 = dt 80 1) (hk2 : dt 10 3 = dt 80 2) (hk3 : dt 12 3 = dt 80 3) (hk4 : dt 14 3 = dt 80 4) (hk5 : dt 16 3 = dt 80 5) (hk6 : dt 18 0 = dt 81 0) (hk7 : dt 24 3 = dt 81 1) (hk8 : dt 27 3 = dt 81 2) (hk9 : dt 29 3 = dt 81 3) (hk10 : dt 31 3 = dt 81 4) (hk11 : dt 33 3 = dt 81 5) (hk12 : dt 0 2 = dt 79 2) (hk13 : dt 35 1 = dt 79 12) (hk14 : dt 35 2 = dt 79 19) (hk15 : dt 35 3 = dt 79 21) (hd0 : TPL (dt 36) (dt 85) (dt 35 1)) (hd1 : SCL (dt 2) (dt 3) (dt 80)) (hd2 : SCL (dt 19) (dt 20) (dt 81)) (hd3 : QRL (dt 8) (dt 80)) (hd4 : QRL (dt 25) (dt 81)) (hd5 : SDL (dt 9) (dt 80)) (hd6 : SDL (dt 26) (dt 81)) (hd7 : LWL (dt 4) (dt 5) (dt 6) (dt 80)) (hd8 : LWL (dt 21) (dt 22) (dt 23) (dt 81)) (hd9 : CHL (dt 11) (dt 80)) (hd10 : CHL (dt 28) (dt 81)) (K : ∀ (dt : Nat → Nat → Int) (hI : InvC dt) (hM : MW (dt 80)) (hM2 : MW (dt 81)) (hk0 : dt 1 0 = dt 80 0) (hk1 : dt 7 3 = dt 80 1) (hk2 : dt 10 3 = dt 80 2) (hk3 : dt 12 3 = dt 80 3) (hk4 : dt 14 3 = dt 80 4) (hk5 : dt 16 3 = dt 80 5) (hk6 : dt 18 0 = dt 81 0) (hk7 : dt 24 3 = dt 81 1) (hk8 : dt 27 3 = dt 81 2) (hk9 : dt 29 3 = dt 81 3) (hk10 : dt 31 3 = dt 81 4) (hk11 : dt 33 3 = dt 81 5) (hk12 : dt 0 2 = dt 79 2) (hk13 : dt 35 1 = dt 79 12) (hk14 : dt 35 2 = dt 79 19) (hk15 : dt 35 3 = dt 79 21) (hd0 : TPL (dt 36) (dt 85) (dt 35 1)) (hd1 : SCL (dt 2) (dt 3) (dt 80)) (hd2 : SCL (dt 19) (dt 20) (dt 81)) (hd3 : QRL (dt 8) (dt 80)) (hd4 : QRL (dt 25) (dt 81)) (hd5 : SDL (dt 9) (dt 80)) (hd6 : SDL (dt 26) (dt 81)) (hd7 : LWL (dt 4) (dt 5) (dt 6) (dt 80)) (hd8 : LWL (dt 21) (dt 22) (dt 23) (dt 81)) (hd9 : CHL (dt 11) (dt 80)) (hd10 : CHL (dt 28) (dt 81)), GO (am_XX L xs sio) (d + 39) 267 1435 [some (.inr (.inr (some 3000))), some (.inr (.inr (some 0))), some (.inr (.inr (some 79))), some (.inl i)] [] (SH, dt) Q) : GO (am_XX L xs sio) (d + 39) 267 1109 [some (.inr (.inr (some 3000))), some (.inr (.inr (some 0))), some (.inr (.inr (some 79))), some (.inl i)] [] (SH, dt) Q := by
  have hF : Fr [0, 1, 2, 3, 4, 5, 6, 7, 8, 9, 10, 11, 12, 13, 14, 15, 16, 17, 18, 19, 20, 21, 22, 23, 24, 25, 26, 27, 28, 29, 30, 31, 32, 33, 34, 35, 36, 37, 38, 39, 40, 41, 42, 43, 44, 45, 46, 47, 48, 49, 50, 51, 52, 53, 54, 55, 56, 57, 58, 59, 60, 61, 62, 63, 64, 65, 66, 67, 68, 69, 70, 71, 72, 73, 74, 75, 76, 77, 78, 79, 80, 81, 82, 83, 84, 85, 86, 87, 88, 89, 90, 91, 92, 93, 94, 95, 96, 97, 98, 99, 100, 101, 102, 103, 104] dt dt := Fr_refl
  have hqo := QOC_R hd3 hM hk1
  have hb1_ := hM.1.1
  have hb2_ := hM.1.2.1
  have hb3_ := hM.1.2.2.1
  have halk : ALK dt (dt 80) := ⟨hd7, hd3, hd5, hd9, hk1, hk2⟩
  refine go_toq PM267 (k := 5) (pc' := 1114) (L' := [some (.inr (.inr (some 3000))), some (.inr (.inr (some 0))), some (.inr (.inr (some 79))), some (.inl i)]) (st' := [.inl (i + 1), .inr (.inr (some 3000)), .inr (.inr (some 0))]) (w' := (SH, dt)) rfl ?_
  have r1 := i32_R (xs ((i + 1).toNat))
  refine go_smpq PM267 (L' := [some (.inr (.inr (some 3000))), some (.inr (.inr (some 0))), some (.inr (.inr (some 79))), some (.inl i)]) (st' := [.inl ((xs ((i + 1).toNat)).toInt), .inr (.inr (some 0))]) (w' := (SH, dt)) rfl rfl (s_iald (n := L) (f := fun j => (xs j).toInt) (am_scr hLL) ⟨by omega, by omega⟩) ?_
  refine go_toq PM267 (k := 4) (pc' := 1119) (L' := [some (.inr (.inr (some 3000))), some (.inr (.inr (some 0))), some (.inr (.inr (some 79))), some (.inl i)]) (st' := [.inl (i + 2), .inr (.inr (some 3000)), .inl ((xs ((i + 1).toNat)).toInt), .inr (.inr (some 0))]) (w' := (SH, dt)) rfl ?_
  have r2 := i32_R (xs ((i + 2).toNat))
  refine go_smpq PM267 (L' := [some (.inr (.inr (some 3000))), some (.inr (.inr (some 0))), some (.inr (.inr (some 79))), some (.inl i)]) (st' := [.inl ((xs ((i + 2).toNat)).toInt), .inl ((xs ((i + 1).toNat)).toInt), .inr (.inr (some 0))]) (w' := (SH, dt)) rfl rfl (s_iald (n := L) (f := fun j => (xs j).toInt) (am_scr hLL) ⟨by omega, by omega⟩) ?_
  refine go_callq PM267 PM90 (Q' := _) rfl rfl rfl rfl (sp_X5_eyes L xs sio (d + 36) dt hI  ((xs ((i + 1).toNat)).toInt) ⟨by omega, by omega⟩ ((xs ((i + 2).toNat)).toInt) ⟨by omega, by omega⟩ ) ?_
  rintro _ _ ⟨dt4, rfl, hI5, hF6, h3⟩
  refine ⟨rfl, ?_⟩
  have hF7 : Fr [0, 1, 2, 3, 4, 5, 6, 7, 8, 9, 10, 11, 12, 13, 14, 15, 16, 17, 18, 19, 20, 21, 22, 23, 24, 25, 26, 27, 28, 29, 30, 31, 32, 33, 34, 35, 36, 37, 38, 39, 40, 41, 42, 43, 44, 45, 46, 47, 48, 49, 50, 51, 52, 53, 54, 55, 56, 57, 58, 59, 60, 61, 62, 63, 64, 65, 66, 67, 68, 69, 70, 71, 72, 73, 74, 75, 76, 77, 78, 79, 80, 81, 82, 83, 84, 85, 86, 87, 88, 89, 90, 91, 92, 93, 94, 95, 96, 97, 98, 99, 100, 101, 102, 103, 104] dt dt4 := Fr_tr hF hF6 (by decide)
  have hM8 : MW (dt4 80) := MW_fr hM hF6 (by decide)
  have w9 : dt4 1 0 = dt 1 0 := hF6 1 (by decide) 0
  have w10 : dt4 7 3 = dt 7 3 := hF6 7 (by decide) 3
  have w11 : dt4 10 3 = dt 10 3 := hF6 10 (by decide) 3
  have w12 : dt4 12 3 = dt 12 3 := hF6 12 (by decide) 3
  have w13 : dt4 16 3 = dt 16 3 := hF6 16 (by decide) 3
  have w14 : dt4 18 0 = dt 18 0 := hF6 18 (by decide) 0
  have w15 : dt4 24 3 = dt 24 3 := hF6 24 (by decide) 3
  have w16 : dt4 27 3 = dt 27 3 := hF6 27 (by decide) 3
  have w17 : dt4 29 3 = dt 29 3 := hF6 29 (by decide) 3
  have w18 : dt4 31 3 = dt 31 3 := hF6 31 (by decide) 3
  have w19 : dt4 33 3 = dt 33 3 := hF6 33 (by decide) 3
  have w20 : dt4 0 2 = dt 0 2 := hF6 0 (by decide) 2
  have w21 : dt4 35 1 = dt 35 1 := hF6 35 (by decide) 1
  have w22 : dt4 35 2 = dt 35 2 := hF6 35 (by decide) 2
  have w23 : dt4 35 3 = dt 35 3 := hF6 35 (by decide) 3
  have w24 : dt4 80 0 = dt 80 0 := hF6 80 (by decide) 0
  have w25 : dt4 80 1 = dt 80 1 := hF6 80 (by decide) 1
  have w26 : dt4 80 2 = dt 80 2 := hF6 80 (by decide) 2
  have w27 : dt4 80 3 = dt 80 3 := hF6 80 (by decide) 3
  have w28 : dt4 80 4 = dt 80 4 := hF6 80 (by decide) 4
  have w29 : dt4 80 5 = dt 80 5 := hF6 80 (by decide) 5
  have w30 : dt4 81 0 = dt 81 0 := hF6 81 (by decide) 0
  have w31 : dt4 81 1 = dt 81 1 := hF6 81 (by decide) 1
  have w32 : dt4 81 2 = dt 81 2 := hF6 81 (by decide) 2
  have w33 : dt4 81 3 = dt 81 3 := hF6 81 (by decide) 3
  have w34 : dt4 81 4 = dt 81 4 := hF6 81 (by decide) 4
  have w35 : dt4 81 5 = dt 81 5 := hF6 81 (by decide) 5
  have w36 : dt4 79 2 = dt 79 2 := hF6 79 (by decide) 2
  have w37 : dt4 79 12 = dt 79 12 := hF6 79 (by decide) 12
  have w38 : dt4 79 19 = dt 79 19 := hF6 79 (by decide) 19
  have w39 : dt4 79 21 = dt 79 21 := hF6 79 (by decide) 21
  rcases h3 with ⟨rfl, h3⟩ | ⟨v_h3, rfl, h3r, h3⟩
  · skip
    obtain ⟨h3_0, h3_1⟩ := h3
    replace h3_0 := hid h3_0
    have w40 : dt4 14 3 = dt 14 3 := h3_1
    have M241 : MW (dt4 81) := MW_frk hM2 hF6 (by decide)
    have C42 : ∀ j : Nat, dt4 2 j = dt 2 j := fun j => (hF6 2 (by decide) j).trans ((fun _ => rfl) j)
    have C43 : ∀ j : Nat, dt4 3 j = dt 3 j := fun j => (hF6 3 (by decide) j).trans ((fun _ => rfl) j)
    have C44 : ∀ j : Nat, dt4 4 j = dt 4 j := fun j => (hF6 4 (by decide) j).trans ((fun _ => rfl) j)
    have C45 : ∀ j : Nat, dt4 5 j = dt 5 j := fun j => (hF6 5 (by decide) j).trans ((fun _ => rfl) j)
    have C46 : ∀ j : Nat, dt4 6 j = dt 6 j := fun j => (hF6 6 (by decide) j).trans ((fun _ => rfl) j)
    have C47 : ∀ j : Nat, dt4 8 j = dt 8 j := fun j => (hF6 8 (by decide) j).trans ((fun _ => rfl) j)
    have C48 : ∀ j : Nat, dt4 9 j = dt 9 j := fun j => (hF6 9 (by decide) j).trans ((fun _ => rfl) j)
    have C49 : ∀ j : Nat, dt4 11 j = dt 11 j := fun j => (hF6 11 (by decide) j).trans ((fun _ => rfl) j)
    have C50 : ∀ j : Nat, dt4 19 j = dt 19 j := fun j => (hF6 19 (by decide) j).trans ((fun _ => rfl) j)
    have C51 : ∀ j : Nat, dt4 20 j = dt 20 j := fun j => (hF6 20 (by decide) j).trans ((fun _ => rfl) j)
    have C52 : ∀ j : Nat, dt4 21 j = dt 21 j := fun j => (hF6 21 (by decide) j).trans ((fun _ => rfl) j)
    have C53 : ∀ j : Nat, dt4 22 j = dt 22 j := fun j => (hF6 22 (by decide) j).trans ((fun _ => rfl) j)
    have C54 : ∀ j : Nat, dt4 23 j = dt 23 j := fun j => (hF6 23 (by decide) j).trans ((fun _ => rfl) j)
    have C55 : ∀ j : Nat, dt4 25 j = dt 25 j := fun j => (hF6 25 (by decide) j).trans ((fun _ => rfl) j)
    have C56 : ∀ j : Nat, dt4 26 j = dt 26 j := fun j => (hF6 26 (by decide) j).trans ((fun _ => rfl) j)
    have C57 : ∀ j : Nat, dt4 28 j = dt 28 j := fun j => (hF6 28 (by decide) j).trans ((fun _ => rfl) j)
    have C58 : ∀ j : Nat, dt4 36 j = dt 36 j := fun j => (hF6 36 (by decide) j).trans ((fun _ => rfl) j)
    have C59 : ∀ j : Nat, dt4 80 j = dt 80 j := fun j => (hF6 80 (by decide) j).trans ((fun _ => rfl) j)
    have C60 : ∀ j : Nat, dt4 81 j = dt 81 j := fun j => (hF6 81 (by decide) j).trans ((fun _ => rfl) j)
    have C61 : ∀ j : Nat, dt4 85 j = dt 85 j := fun j => (hF6 85 (by decide) j).trans ((fun _ => rfl) j)
    refine go_toq PM267 (k := 6) (pc' := 1129) (L' := [some (.inr (.inr (some 3000))), some (.inr (.inr (some 0))), some (.inr (.inr (some 79))), some (.inl i)]) (st' := [.inl (i + 1), .inr (.inr (some 3000)), .inr (.inr (some 79))]) (w' := (SH, dt4)) rfl ?_
    have r62 := i32_R (xs ((i + 1).toNat))
    refine go_smpq PM267 (L' := [some (.inr (.inr (some 3000))), some (.inr (.inr (some 0))), some (.inr (.inr (some 79))), some (.inl i)]) (st' := [.inl ((xs ((i + 1).toNat)).toInt), .inr (.inr (some 79))]) (w' := (SH, dt4)) rfl rfl (s_iald (n := L) (f := fun j => (xs j).toInt) (am_scr hLL) ⟨by (first | omega | (have z0_ := unhid h3_0; omega)), by (first | omega | (have z0_ := unhid h3_0; omega))⟩) ?_
    refine go_toq PM267 (k := 4) (pc' := 1134) (L' := [some (.inr (.inr (some 3000))), some (.inr (.inr (some 0))), some (.inr (.inr (some 79))), some (.inl i)]) (st' := [.inl (i + 2), .inr (.inr (some 3000)), .inl ((xs ((i + 1).toNat)).toInt), .inr (.inr (some 79))]) (w' := (SH, dt4)) rfl ?_
    have r63 := i32_R (xs ((i + 2).toNat))
    refine go_smpq PM267 (L' := [some (.inr (.inr (some 3000))), some (.inr (.inr (some 0))), some (.inr (.inr (some 79))), some (.inl i)]) (st' := [.inl ((xs ((i + 2).toNat)).toInt), .inl ((xs ((i + 1).toNat)).toInt), .inr (.inr (some 79))]) (w' := (SH, dt4)) rfl rfl (s_iald (n := L) (f := fun j => (xs j).toInt) (am_scr hLL) ⟨by (first | omega | (have z0_ := unhid h3_0; omega)), by (first | omega | (have z0_ := unhid h3_0; omega))⟩) ?_
    refine go_callq PM267 PM233 (Q' := _) rfl rfl rfl rfl (sp_X6_eyes_v L xs sio (d + 37) dt4 hI5 hM8  ((xs ((i + 1).toNat)).toInt) ⟨by (first | omega | (have z0_ := unhid h3_0; omega)), by (first | omega | (have z0_ := unhid h3_0; omega))⟩ ((xs ((i + 2).toNat)).toInt) ⟨by (first | omega | (have z0_ := unhid h3_0; omega)), by (first | omega | (have z0_ := unhid h3_0; omega))⟩ ) ?_
    rintro _ _ ⟨dt65, rfl, hI66, hF67, h64⟩
    refine ⟨rfl, ?_⟩
    have hF68 : Fr [0, 1, 2, 3, 4, 5, 6, 7, 8, 9, 10, 11, 12, 13, 14, 15, 16, 17, 18, 19, 20, 21, 22, 23, 24, 25, 26, 27, 28, 29, 30, 31, 32, 33, 34, 35, 36, 37, 38, 39, 40, 41, 42, 43, 44, 45, 46, 47, 48, 49, 50, 51, 52, 53, 54, 55, 56, 57, 58, 59, 60, 61, 62, 63, 64, 65, 66, 67, 68, 69, 70, 71, 72, 73, 74, 75, 76, 77, 78, 79, 80, 81, 82, 83, 84, 85, 86, 87, 88, 89, 90, 91, 92, 93, 94, 95, 96, 97, 98, 99, 100, 101, 102, 103, 104] dt dt65 := Fr_tr hF7 hF67 (by decide)
    have w69 : dt65 1 0 = dt 1 0 := (hF67 1 (by decide) 0).trans w9
    have w70 : dt65 7 3 = dt 7 3 := (hF67 7 (by decide) 3).trans w10
    have w71 : dt65 10 3 = dt 10 3 := (hF67 10 (by decide) 3).trans w11
    have w72 : dt65 12 3 = dt 12 3 := (hF67 12 (by decide) 3).trans w12
    have w73 : dt65 14 3 = dt 14 3 := (hF67 14 (by decide) 3).trans w40
    have w74 : dt65 16 3 = dt 16 3 := (hF67 16 (by decide) 3).trans w13
    have w75 : dt65 18 0 = dt 18 0 := (hF67 18 (by decide) 0).trans w14
    have w76 : dt65 24 3 = dt 24 3 := (hF67 24 (by decide) 3).trans w15
    have w77 : dt65 27 3 = dt 27 3 := (hF67 27 (by decide) 3).trans w16
    have w78 : dt65 29 3 = dt 29 3 := (hF67 29 (by decide) 3).trans w17
    have w79 : dt65 31 3 = dt 31 3 := (hF67 31 (by decide) 3).trans w18
    have w80 : dt65 33 3 = dt 33 3 := (hF67 33 (by decide) 3).trans w19
    have w81 : dt65 0 2 = dt 0 2 := (hF67 0 (by decide) 2).trans w20
    have w82 : dt65 35 1 = dt 35 1 := (hF67 35 (by decide) 1).trans w21
    have w83 : dt65 35 2 = dt 35 2 := (hF67 35 (by decide) 2).trans w22
    have w84 : dt65 35 3 = dt 35 3 := (hF67 35 (by decide) 3).trans w23
    have w85 : dt65 81 0 = dt 81 0 := (hF67 81 (by decide) 0).trans w30
    have w86 : dt65 81 1 = dt 81 1 := (hF67 81 (by decide) 1).trans w31
    have w87 : dt65 81 2 = dt 81 2 := (hF67 81 (by decide) 2).trans w32
    have w88 : dt65 81 3 = dt 81 3 := (hF67 81 (by decide) 3).trans w33
    have w89 : dt65 81 4 = dt 81 4 := (hF67 81 (by decide) 4).trans w34
    have w90 : dt65 81 5 = dt 81 5 := (hF67 81 (by decide) 5).trans w35
    have w91 : dt65 79 2 = dt 79 2 := (hF67 79 (by decide) 2).trans w36
    have w92 : dt65 79 12 = dt 79 12 := (hF67 79 (by decide) 12).trans w37
    have w93 : dt65 79 19 = dt 79 19 := (hF67 79 (by decide) 19).trans w38
    have w94 : dt65 79 21 = dt 79 21 := (hF67 79 (by decide) 21).trans w39
    rcases h64 with ⟨rfl, h64⟩ | ⟨v_h64, rfl, h64r, h64⟩
    · skip
      have hM95 : MW (dt65 80) := h64.2.1
      obtain ⟨h64_0, h64_1, h64_2, h64_3, h64_4, h64_5, h64_6, h64_7, h64_8⟩ := h64
      replace h64_0 := hid h64_0
      have w96 : dt65 80 0 = dt 80 0 := h64_2.trans w24
      have w97 : dt65 80 1 = dt 80 1 := h64_3.trans w25
      have w98 : dt65 80 2 = dt 80 2 := h64_4.trans w26
      have w99 : dt65 80 3 = dt 80 3 := h64_5.trans w27
      have w100 : dt65 80 4 = dt 80 4 := h64_6.trans w28
      have w101 : dt65 80 5 = dt 80 5 := h64_7.trans w29
      have M2102 : MW (dt65 81) := MW_frk M241 hF67 (by decide)
      have C103 : ∀ j : Nat, dt65 2 j = dt 2 j := fun j => (hF67 2 (by decide) j).trans (C42 j)
      have C104 : ∀ j : Nat, dt65 3 j = dt 3 j := fun j => (hF67 3 (by decide) j).trans (C43 j)
      have C105 : ∀ j : Nat, dt65 4 j = dt 4 j := fun j => (hF67 4 (by decide) j).trans (C44 j)
      have C106 : ∀ j : Nat, dt65 5 j = dt 5 j := fun j => (hF67 5 (by decide) j).trans (C45 j)
      have C107 : ∀ j : Nat, dt65 6 j = dt 6 j := fun j => (hF67 6 (by decide) j).trans (C46 j)
      have C108 : ∀ j : Nat, dt65 8 j = dt 8 j := fun j => (hF67 8 (by decide) j).trans (C47 j)
      have C109 : ∀ j : Nat, dt65 9 j = dt 9 j := fun j => (hF67 9 (by decide) j).trans (C48 j)
      have C110 : ∀ j : Nat, dt65 11 j = dt 11 j := fun j => (hF67 11 (by decide) j).trans (C49 j)
      have C111 : ∀ j : Nat, dt65 19 j = dt 19 j := fun j => (hF67 19 (by decide) j).trans (C50 j)
      have C112 : ∀ j : Nat, dt65 20 j = dt 20 j := fun j => (hF67 20 (by decide) j).trans (C51 j)
      have C113 : ∀ j : Nat, dt65 21 j = dt 21 j := fun j => (hF67 21 (by decide) j).trans (C52 j)
      have C114 : ∀ j : Nat, dt65 22 j = dt 22 j := fun j => (hF67 22 (by decide) j).trans (C53 j)
      have C115 : ∀ j : Nat, dt65 23 j = dt 23 j := fun j => (hF67 23 (by decide) j).trans (C54 j)
      have C116 : ∀ j : Nat, dt65 25 j = dt 25 j := fun j => (hF67 25 (by decide) j).trans (C55 j)
      have C117 : ∀ j : Nat, dt65 26 j = dt 26 j := fun j => (hF67 26 (by decide) j).trans (C56 j)
      have C118 : ∀ j : Nat, dt65 28 j = dt 28 j := fun j => (hF67 28 (by decide) j).trans (C57 j)
      have C119 : ∀ j : Nat, dt65 36 j = dt 36 j := fun j => (hF67 36 (by decide) j).trans (C58 j)
      have C120 : ∀ j : Nat, dt65 80 j = dt 80 j := fun j => (h64_8 j).trans (C59 j)
      have C121 : ∀ j : Nat, dt65 81 j = dt 81 j := fun j => (hF67 81 (by decide) j).trans (C60 j)
      have C122 : ∀ j : Nat, dt65 85 j = dt 85 j := fun j => (hF67 85 (by decide) j).trans (C61 j)
      refine go_toq PM267 (k := 2) (pc' := 1435) (L' := [some (.inr (.inr (some 3000))), some (.inr (.inr (some 0))), some (.inr (.inr (some 79))), some (.inl i)]) (st' := []) (w' := (SH, dt65)) rfl ?_
      exact K dt65 hI66 hM95 M2102 (w69.trans (hk0.trans w96.symm)) (w70.trans (hk1.trans w97.symm)) (w71.trans (hk2.trans w98.symm)) (w72.trans (hk3.trans w99.symm)) (w73.trans (hk4.trans w100.symm)) (w74.trans (hk5.trans w101.symm)) (w75.trans (hk6.trans w85.symm)) (w76.trans (hk7.trans w86.symm)) (w77.trans (hk8.trans w87.symm)) (w78.trans (hk9.trans w88.symm)) (w79.trans (hk10.trans w89.symm)) (w80.trans (hk11.trans w90.symm)) (w81.trans (hk12.trans w91.symm)) (w82.trans (hk13.trans w92.symm)) (w83.trans (hk14.trans w93.symm)) (w84.trans (hk15.trans w94.symm)) (by first | exact hI | exact TPL_k hd0 C119 C122 (by (first | omega | (have z0_ := unhid h3_0; have z1_ := unhid h64_0; omega))) | (exfalso; (first | omega | (have z0_ := unhid h3_0; have z1_ := unhid h64_0; omega)))) (by first | exact hI | exact SCL_k hd1 hM (fun j _ => C103 j) (fun j _ => C104 j) (fun j _ _ => C120 j) | (exfalso; (first | omega | (have z0_ := unhid h3_0; have z1_ := unhid h64_0; omega)))) (by first | exact hI | exact SCL_k hd2 hM2 (fun j _ => C111 j) (fun j _ => C112 j) (fun j _ _ => C121 j) | (exfalso; (first | omega | (have z0_ := unhid h3_0; have z1_ := unhid h64_0; omega)))) (by first | exact hI | exact QRL_k hd3 hM (fun j _ => C108 j) (C120 1) (fun j _ _ => C120 j) | (exfalso; (first | omega | (have z0_ := unhid h3_0; have z1_ := unhid h64_0; omega)))) (by first | exact hI | exact QRL_k hd4 hM2 (fun j _ => C116 j) (C121 1) (fun j _ _ => C121 j) | (exfalso; (first | omega | (have z0_ := unhid h3_0; have z1_ := unhid h64_0; omega)))) (by first | exact hI | exact SDL_k hd5 hM (fun j _ => C109 j) (C120 1) (fun j _ _ => C120 j) (fun j _ _ => C120 j) | (exfalso; (first | omega | (have z0_ := unhid h3_0; have z1_ := unhid h64_0; omega)))) (by first | exact hI | exact SDL_k hd6 hM2 (fun j _ => C117 j) (C121 1) (fun j _ _ => C121 j) (fun j _ _ => C121 j) | (exfalso; (first | omega | (have z0_ := unhid h3_0; have z1_ := unhid h64_0; omega)))) (by first | exact hI | exact LWL_k hd7 hM (fun j _ => C105 j) (fun j _ => C106 j) (fun j _ => C107 j) (fun j _ _ => C120 j) | (exfalso; (first | omega | (have z0_ := unhid h3_0; have z1_ := unhid h64_0; omega)))) (by first | exact hI | exact LWL_k hd8 hM2 (fun j _ => C113 j) (fun j _ => C114 j) (fun j _ => C115 j) (fun j _ _ => C121 j) | (exfalso; (first | omega | (have z0_ := unhid h3_0; have z1_ := unhid h64_0; omega)))) (by first | exact hI | exact CHL_k hd9 hM (fun j _ => C110 j) (by (first | omega | (have z0_ := unhid h3_0; have z1_ := unhid h64_0; omega))) (fun j _ _ => C120 j) | (exfalso; (first | omega | (have z0_ := unhid h3_0; have z1_ := unhid h64_0; omega)))) (by first | exact hI | exact CHL_k hd10 hM2 (fun j _ => C118 j) (by (first | omega | (have z0_ := unhid h3_0; have z1_ := unhid h64_0; omega))) (fun j _ _ => C121 j) | (exfalso; (first | omega | (have z0_ := unhid h3_0; have z1_ := unhid h64_0; omega))))
    · skip
      have hM123 : MW (dt65 80) := h64.2.2.1
      obtain ⟨h64_0, h64_1, h64_2, h64_3, h64_4, h64_5, h64_6, h64_7, h64_8, h64_9, h64_10, h64_11⟩ := h64
      have w124 : dt65 80 0 = dt 80 0 := h64_4.trans w24
      have w125 : dt65 80 1 = dt 80 1 := h64_5.trans w25
      have w126 : dt65 80 2 = dt 80 2 := h64_6.trans w26
      have w127 : dt65 80 3 = dt 80 3 := h64_7.trans w27
      have w128 : dt65 80 5 = dt 80 5 := h64_8.trans w29
      have M2129 : MW (dt65 81) := MW_frk M241 hF67 (by decide)
      have C130 : ∀ j : Nat, dt65 2 j = dt 2 j := fun j => (hF67 2 (by decide) j).trans (C42 j)
      have C131 : ∀ j : Nat, dt65 3 j = dt 3 j := fun j => (hF67 3 (by decide) j).trans (C43 j)
      have C132 : ∀ j : Nat, dt65 4 j = dt 4 j := fun j => (hF67 4 (by decide) j).trans (C44 j)
      have C133 : ∀ j : Nat, dt65 5 j = dt 5 j := fun j => (hF67 5 (by decide) j).trans (C45 j)
      have C134 : ∀ j : Nat, dt65 6 j = dt 6 j := fun j => (hF67 6 (by decide) j).trans (C46 j)
      have C135 : ∀ j : Nat, dt65 8 j = dt 8 j := fun j => (hF67 8 (by decide) j).trans (C47 j)
      have C136 : ∀ j : Nat, dt65 9 j = dt 9 j := fun j => (hF67 9 (by decide) j).trans (C48 j)
      have C137 : ∀ j : Nat, dt65 11 j = dt 11 j := fun j => (hF67 11 (by decide) j).trans (C49 j)
      have C138 : ∀ j : Nat, dt65 19 j = dt 19 j := fun j => (hF67 19 (by decide) j).trans (C50 j)
      have C139 : ∀ j : Nat, dt65 20 j = dt 20 j := fun j => (hF67 20 (by decide) j).trans (C51 j)
      have C140 : ∀ j : Nat, dt65 21 j = dt 21 j := fun j => (hF67 21 (by decide) j).trans (C52 j)
      have C141 : ∀ j : Nat, dt65 22 j = dt 22 j := fun j => (hF67 22 (by decide) j).trans (C53 j)
      have C142 : ∀ j : Nat, dt65 23 j = dt 23 j := fun j => (hF67 23 (by decide) j).trans (C54 j)
      have C143 : ∀ j : Nat, dt65 25 j = dt 25 j := fun j => (hF67 25 (by decide) j).trans (C55 j)
      have C144 : ∀ j : Nat, dt65 26 j = dt 26 j := fun j => (hF67 26 (by decide) j).trans (C56 j)
      have C145 : ∀ j : Nat, dt65 28 j = dt 28 j := fun j => (hF67 28 (by decide) j).trans (C57 j)
      have C146 : ∀ j : Nat, dt65 36 j = dt 36 j := fun j => (hF67 36 (by decide) j).trans (C58 j)
      have C147 : ∀ j : Nat, dt65 81 j = dt 81 j := fun j => (hF67 81 (by decide) j).trans (C60 j)
      have C148 : ∀ j : Nat, dt65 85 j = dt 85 j := fun j => (hF67 85 (by decide) j).trans (C61 j)
      have F149 : ∀ j : Nat, 6 ≤ j → j < 974 → dt65 80 j = dt 80 j := fun j h1_ h2_ => (h64_9 j (by (first | omega | (have z0_ := unhid h3_0; omega))) (by (first | omega | (have z0_ := unhid h3_0; omega)))).trans (C59 j)
      have F150 : ∀ j : Nat, 974 ≤ j → j < 5320 → dt65 80 j = dt 80 j := fun j h1_ h2_ => (h64_9 j (by (first | omega | (have z0_ := unhid h3_0; omega))) (by (first | omega | (have z0_ := unhid h3_0; omega)))).trans (C59 j)
      have F151 : ∀ j : Nat, 5320 ≤ j → j < 5380 → dt65 80 j = dt 80 j := fun j h1_ h2_ => (h64_9 j (by (first | omega | (have z0_ := unhid h3_0; omega))) (by (first | omega | (have z0_ := unhid h3_0; omega)))).trans (C59 j)
      have F152 : dt65 80 1 = dt 80 1 := (h64_9 1 (by (first | omega | (have z0_ := unhid h3_0; omega))) (by (first | omega | (have z0_ := unhid h3_0; omega)))).trans (C59 1)
      have F153 : ∀ j : Nat, 5380 ≤ j → j < 5540 → dt65 80 j = dt 80 j := fun j h1_ h2_ => (h64_9 j (by (first | omega | (have z0_ := unhid h3_0; omega))) (by (first | omega | (have z0_ := unhid h3_0; omega)))).trans (C59 j)
      refine go_toq PM267 (k := 2) (pc' := 1435) (L' := [some (.inr (.inr (some 3000))), some (.inr (.inr (some 0))), some (.inr (.inr (some 79))), some (.inl i)]) (st' := []) (w' := (SH, dt65)) rfl ?_
      exact K dt65 hI66 hM123 M2129 (w69.trans (hk0.trans w124.symm)) (w70.trans (hk1.trans w125.symm)) (w71.trans (hk2.trans w126.symm)) (w72.trans (hk3.trans w127.symm)) (by (first | omega | (have z0_ := unhid h3_0; omega))) (w74.trans (hk5.trans w128.symm)) (w75.trans (hk6.trans w85.symm)) (w76.trans (hk7.trans w86.symm)) (w77.trans (hk8.trans w87.symm)) (w78.trans (hk9.trans w88.symm)) (w79.trans (hk10.trans w89.symm)) (w80.trans (hk11.trans w90.symm)) (w81.trans (hk12.trans w91.symm)) (w82.trans (hk13.trans w92.symm)) (w83.trans (hk14.trans w93.symm)) (w84.trans (hk15.trans w94.symm)) (by first | exact hI | exact TPL_k hd0 C146 C148 (by (first | omega | (have z0_ := unhid h3_0; omega))) | (exfalso; (first | omega | (have z0_ := unhid h3_0; omega)))) (by first | exact hI | exact SCL_k hd1 hM (fun j _ => C130 j) (fun j _ => C131 j) F149 | (exfalso; (first | omega | (have z0_ := unhid h3_0; omega)))) (by first | exact hI | exact SCL_k hd2 hM2 (fun j _ => C138 j) (fun j _ => C139 j) (fun j _ _ => C147 j) | (exfalso; (first | omega | (have z0_ := unhid h3_0; omega)))) (by first | exact hI | exact QRL_k hd3 hM (fun j _ => C135 j) F152 F151 | (exfalso; (first | omega | (have z0_ := unhid h3_0; omega)))) (by first | exact hI | exact QRL_k hd4 hM2 (fun j _ => C143 j) (C147 1) (fun j _ _ => C147 j) | (exfalso; (first | omega | (have z0_ := unhid h3_0; omega)))) (by first | exact hI | exact SDL_k hd5 hM (fun j _ => C136 j) F152 F149 F151 | (exfalso; (first | omega | (have z0_ := unhid h3_0; omega)))) (by first | exact hI | exact SDL_k hd6 hM2 (fun j _ => C144 j) (C147 1) (fun j _ _ => C147 j) (fun j _ _ => C147 j) | (exfalso; (first | omega | (have z0_ := unhid h3_0; omega)))) (by first | exact hI | exact LWL_k hd7 hM (fun j _ => C132 j) (fun j _ => C133 j) (fun j _ => C134 j) F150 | (exfalso; (first | omega | (have z0_ := unhid h3_0; omega)))) (by first | exact hI | exact LWL_k hd8 hM2 (fun j _ => C140 j) (fun j _ => C141 j) (fun j _ => C142 j) (fun j _ _ => C147 j) | (exfalso; (first | omega | (have z0_ := unhid h3_0; omega)))) (by first | exact hI | exact CHL_k hd9 hM (fun j _ => C137 j) (by (first | omega | (have z0_ := unhid h3_0; omega))) F153 | (exfalso; (first | omega | (have z0_ := unhid h3_0; omega)))) (by first | exact hI | exact CHL_k hd10 hM2 (fun j _ => C145 j) (by (first | omega | (have z0_ := unhid h3_0; omega))) (fun j _ _ => C147 j) | (exfalso; (first | omega | (have z0_ := unhid h3_0; omega))))
  · skip
    obtain ⟨h3_0, h3_1, h3_2⟩ := h3
    have M2154 : MW (dt4 81) := MW_frk hM2 hF6 (by decide)
    have C155 : ∀ j : Nat, dt4 2 j = dt 2 j := fun j => (hF6 2 (by decide) j).trans ((fun _ => rfl) j)
    have C156 : ∀ j : Nat, dt4 3 j = dt 3 j := fun j => (hF6 3 (by decide) j).trans ((fun _ => rfl) j)
    have C157 : ∀ j : Nat, dt4 4 j = dt 4 j := fun j => (hF6 4 (by decide) j).trans ((fun _ => rfl) j)
    have C158 : ∀ j : Nat, dt4 5 j = dt 5 j := fun j => (hF6 5 (by decide) j).trans ((fun _ => rfl) j)
    have C159 : ∀ j : Nat, dt4 6 j = dt 6 j := fun j => (hF6 6 (by decide) j).trans ((fun _ => rfl) j)
    have C160 : ∀ j : Nat, dt4 8 j = dt 8 j := fun j => (hF6 8 (by decide) j).trans ((fun _ => rfl) j)
    have C161 : ∀ j : Nat, dt4 9 j = dt 9 j := fun j => (hF6 9 (by decide) j).trans ((fun _ => rfl) j)
    have C162 : ∀ j : Nat, dt4 11 j = dt 11 j := fun j => (hF6 11 (by decide) j).trans ((fun _ => rfl) j)
    have C163 : ∀ j : Nat, dt4 19 j = dt 19 j := fun j => (hF6 19 (by decide) j).trans ((fun _ => rfl) j)
    have C164 : ∀ j : Nat, dt4 20 j = dt 20 j := fun j => (hF6 20 (by decide) j).trans ((fun _ => rfl) j)
    have C165 : ∀ j : Nat, dt4 21 j = dt 21 j := fun j => (hF6 21 (by decide) j).trans ((fun _ => rfl) j)
    have C166 : ∀ j : Nat, dt4 22 j = dt 22 j := fun j => (hF6 22 (by decide) j).trans ((fun _ => rfl) j)
    have C167 : ∀ j : Nat, dt4 23 j = dt 23 j := fun j => (hF6 23 (by decide) j).trans ((fun _ => rfl) j)
    have C168 : ∀ j : Nat, dt4 25 j = dt 25 j := fun j => (hF6 25 (by decide) j).trans ((fun _ => rfl) j)
    have C169 : ∀ j : Nat, dt4 26 j = dt 26 j := fun j => (hF6 26 (by decide) j).trans ((fun _ => rfl) j)
    have C170 : ∀ j : Nat, dt4 28 j = dt 28 j := fun j => (hF6 28 (by decide) j).trans ((fun _ => rfl) j)
    have C171 : ∀ j : Nat, dt4 36 j = dt 36 j := fun j => (hF6 36 (by decide) j).trans ((fun _ => rfl) j)
    have C172 : ∀ j : Nat, dt4 80 j = dt 80 j := fun j => (hF6 80 (by decide) j).trans ((fun _ => rfl) j)
    have C173 : ∀ j : Nat, dt4 81 j = dt 81 j := fun j => (hF6 81 (by decide) j).trans ((fun _ => rfl) j)
    have C174 : ∀ j : Nat, dt4 85 j = dt 85 j := fun j => (hF6 85 (by decide) j).trans ((fun _ => rfl) j)
    refine go_toq PM267 (k := 6) (pc' := 1129) (L' := [some (.inr (.inr (some 3000))), some (.inr (.inr (some 0))), some (.inr (.inr (some 79))), some (.inl i)]) (st' := [.inl (i + 1), .inr (.inr (some 3000)), .inr (.inr (some 79))]) (w' := (SH, dt4)) rfl ?_
    have r175 := i32_R (xs ((i + 1).toNat))
    refine go_smpq PM267 (L' := [some (.inr (.inr (some 3000))), some (.inr (.inr (some 0))), some (.inr (.inr (some 79))), some (.inl i)]) (st' := [.inl ((xs ((i + 1).toNat)).toInt), .inr (.inr (some 79))]) (w' := (SH, dt4)) rfl rfl (s_iald (n := L) (f := fun j => (xs j).toInt) (am_scr hLL) ⟨by omega, by omega⟩) ?_
    refine go_toq PM267 (k := 4) (pc' := 1134) (L' := [some (.inr (.inr (some 3000))), some (.inr (.inr (some 0))), some (.inr (.inr (some 79))), some (.inl i)]) (st' := [.inl (i + 2), .inr (.inr (some 3000)), .inl ((xs ((i + 1).toNat)).toInt), .inr (.inr (some 79))]) (w' := (SH, dt4)) rfl ?_
    have r176 := i32_R (xs ((i + 2).toNat))
    refine go_smpq PM267 (L' := [some (.inr (.inr (some 3000))), some (.inr (.inr (some 0))), some (.inr (.inr (some 79))), some (.inl i)]) (st' := [.inl ((xs ((i + 2).toNat)).toInt), .inl ((xs ((i + 1).toNat)).toInt), .inr (.inr (some 79))]) (w' := (SH, dt4)) rfl rfl (s_iald (n := L) (f := fun j => (xs j).toInt) (am_scr hLL) ⟨by omega, by omega⟩) ?_
    refine go_callq PM267 PM233 (Q' := _) rfl rfl rfl rfl (sp_X6_eyes_v L xs sio (d + 37) dt4 hI5 hM8  ((xs ((i + 1).toNat)).toInt) ⟨by omega, by omega⟩ ((xs ((i + 2).toNat)).toInt) ⟨by omega, by omega⟩ ) ?_
    rintro _ _ ⟨dt178, rfl, hI179, hF180, h177⟩
    refine ⟨rfl, ?_⟩
    have hF181 : Fr [0, 1, 2, 3, 4, 5, 6, 7, 8, 9, 10, 11, 12, 13, 14, 15, 16, 17, 18, 19, 20, 21, 22, 23, 24, 25, 26, 27, 28, 29, 30, 31, 32, 33, 34, 35, 36, 37, 38, 39, 40, 41, 42, 43, 44, 45, 46, 47, 48, 49, 50, 51, 52, 53, 54, 55, 56, 57, 58, 59, 60, 61, 62, 63, 64, 65, 66, 67, 68, 69, 70, 71, 72, 73, 74, 75, 76, 77, 78, 79, 80, 81, 82, 83, 84, 85, 86, 87, 88, 89, 90, 91, 92, 93, 94, 95, 96, 97, 98, 99, 100, 101, 102, 103, 104] dt dt178 := Fr_tr hF7 hF180 (by decide)
    have w182 : dt178 1 0 = dt 1 0 := (hF180 1 (by decide) 0).trans w9
    have w183 : dt178 7 3 = dt 7 3 := (hF180 7 (by decide) 3).trans w10
    have w184 : dt178 10 3 = dt 10 3 := (hF180 10 (by decide) 3).trans w11
    have w185 : dt178 12 3 = dt 12 3 := (hF180 12 (by decide) 3).trans w12
    have w186 : dt178 14 3 = dt4 14 3 := hF180 14 (by decide) 3
    have w187 : dt178 16 3 = dt 16 3 := (hF180 16 (by decide) 3).trans w13
    have w188 : dt178 18 0 = dt 18 0 := (hF180 18 (by decide) 0).trans w14
    have w189 : dt178 24 3 = dt 24 3 := (hF180 24 (by decide) 3).trans w15
    have w190 : dt178 27 3 = dt 27 3 := (hF180 27 (by decide) 3).trans w16
    have w191 : dt178 29 3 = dt 29 3 := (hF180 29 (by decide) 3).trans w17
    have w192 : dt178 31 3 = dt 31 3 := (hF180 31 (by decide) 3).trans w18
    have w193 : dt178 33 3 = dt 33 3 := (hF180 33 (by decide) 3).trans w19
    have w194 : dt178 0 2 = dt 0 2 := (hF180 0 (by decide) 2).trans w20
    have w195 : dt178 35 1 = dt 35 1 := (hF180 35 (by decide) 1).trans w21
    have w196 : dt178 35 2 = dt 35 2 := (hF180 35 (by decide) 2).trans w22
    have w197 : dt178 35 3 = dt 35 3 := (hF180 35 (by decide) 3).trans w23
    have w198 : dt178 81 0 = dt 81 0 := (hF180 81 (by decide) 0).trans w30
    have w199 : dt178 81 1 = dt 81 1 := (hF180 81 (by decide) 1).trans w31
    have w200 : dt178 81 2 = dt 81 2 := (hF180 81 (by decide) 2).trans w32
    have w201 : dt178 81 3 = dt 81 3 := (hF180 81 (by decide) 3).trans w33
    have w202 : dt178 81 4 = dt 81 4 := (hF180 81 (by decide) 4).trans w34
    have w203 : dt178 81 5 = dt 81 5 := (hF180 81 (by decide) 5).trans w35
    have w204 : dt178 79 2 = dt 79 2 := (hF180 79 (by decide) 2).trans w36
    have w205 : dt178 79 12 = dt 79 12 := (hF180 79 (by decide) 12).trans w37
    have w206 : dt178 79 19 = dt 79 19 := (hF180 79 (by decide) 19).trans w38
    have w207 : dt178 79 21 = dt 79 21 := (hF180 79 (by decide) 21).trans w39
    rcases h177 with ⟨rfl, h177⟩ | ⟨v_h177, rfl, h177r, h177⟩
    · skip
      have hM208 : MW (dt178 80) := h177.2.1
      obtain ⟨h177_0, h177_1, h177_2, h177_3, h177_4, h177_5, h177_6, h177_7, h177_8⟩ := h177
      replace h177_0 := hid h177_0
      have w209 : dt178 80 0 = dt 80 0 := h177_2.trans w24
      have w210 : dt178 80 1 = dt 80 1 := h177_3.trans w25
      have w211 : dt178 80 2 = dt 80 2 := h177_4.trans w26
      have w212 : dt178 80 3 = dt 80 3 := h177_5.trans w27
      have w213 : dt178 80 4 = dt 80 4 := h177_6.trans w28
      have w214 : dt178 80 5 = dt 80 5 := h177_7.trans w29
      have M2215 : MW (dt178 81) := MW_frk M2154 hF180 (by decide)
      have C216 : ∀ j : Nat, dt178 2 j = dt 2 j := fun j => (hF180 2 (by decide) j).trans (C155 j)
      have C217 : ∀ j : Nat, dt178 3 j = dt 3 j := fun j => (hF180 3 (by decide) j).trans (C156 j)
      have C218 : ∀ j : Nat, dt178 4 j = dt 4 j := fun j => (hF180 4 (by decide) j).trans (C157 j)
      have C219 : ∀ j : Nat, dt178 5 j = dt 5 j := fun j => (hF180 5 (by decide) j).trans (C158 j)
      have C220 : ∀ j : Nat, dt178 6 j = dt 6 j := fun j => (hF180 6 (by decide) j).trans (C159 j)
      have C221 : ∀ j : Nat, dt178 8 j = dt 8 j := fun j => (hF180 8 (by decide) j).trans (C160 j)
      have C222 : ∀ j : Nat, dt178 9 j = dt 9 j := fun j => (hF180 9 (by decide) j).trans (C161 j)
      have C223 : ∀ j : Nat, dt178 11 j = dt 11 j := fun j => (hF180 11 (by decide) j).trans (C162 j)
      have C224 : ∀ j : Nat, dt178 19 j = dt 19 j := fun j => (hF180 19 (by decide) j).trans (C163 j)
      have C225 : ∀ j : Nat, dt178 20 j = dt 20 j := fun j => (hF180 20 (by decide) j).trans (C164 j)
      have C226 : ∀ j : Nat, dt178 21 j = dt 21 j := fun j => (hF180 21 (by decide) j).trans (C165 j)
      have C227 : ∀ j : Nat, dt178 22 j = dt 22 j := fun j => (hF180 22 (by decide) j).trans (C166 j)
      have C228 : ∀ j : Nat, dt178 23 j = dt 23 j := fun j => (hF180 23 (by decide) j).trans (C167 j)
      have C229 : ∀ j : Nat, dt178 25 j = dt 25 j := fun j => (hF180 25 (by decide) j).trans (C168 j)
      have C230 : ∀ j : Nat, dt178 26 j = dt 26 j := fun j => (hF180 26 (by decide) j).trans (C169 j)
      have C231 : ∀ j : Nat, dt178 28 j = dt 28 j := fun j => (hF180 28 (by decide) j).trans (C170 j)
      have C232 : ∀ j : Nat, dt178 36 j = dt 36 j := fun j => (hF180 36 (by decide) j).trans (C171 j)
      have C233 : ∀ j : Nat, dt178 80 j = dt 80 j := fun j => (h177_8 j).trans (C172 j)
      have C234 : ∀ j : Nat, dt178 81 j = dt 81 j := fun j => (hF180 81 (by decide) j).trans (C173 j)
      have C235 : ∀ j : Nat, dt178 85 j = dt 85 j := fun j => (hF180 85 (by decide) j).trans (C174 j)
      refine go_toq PM267 (k := 2) (pc' := 1435) (L' := [some (.inr (.inr (some 3000))), some (.inr (.inr (some 0))), some (.inr (.inr (some 79))), some (.inl i)]) (st' := []) (w' := (SH, dt178)) rfl ?_
      exact K dt178 hI179 hM208 M2215 (w182.trans (hk0.trans w209.symm)) (w183.trans (hk1.trans w210.symm)) (w184.trans (hk2.trans w211.symm)) (w185.trans (hk3.trans w212.symm)) (by (first | omega | (have z0_ := unhid h177_0; omega))) (w187.trans (hk5.trans w214.symm)) (w188.trans (hk6.trans w198.symm)) (w189.trans (hk7.trans w199.symm)) (w190.trans (hk8.trans w200.symm)) (w191.trans (hk9.trans w201.symm)) (w192.trans (hk10.trans w202.symm)) (w193.trans (hk11.trans w203.symm)) (w194.trans (hk12.trans w204.symm)) (w195.trans (hk13.trans w205.symm)) (w196.trans (hk14.trans w206.symm)) (w197.trans (hk15.trans w207.symm)) (by first | exact hI | exact TPL_k hd0 C232 C235 (by (first | omega | (have z0_ := unhid h177_0; omega))) | (exfalso; (first | omega | (have z0_ := unhid h177_0; omega)))) (by first | exact hI | exact SCL_k hd1 hM (fun j _ => C216 j) (fun j _ => C217 j) (fun j _ _ => C233 j) | (exfalso; (first | omega | (have z0_ := unhid h177_0; omega)))) (by first | exact hI | exact SCL_k hd2 hM2 (fun j _ => C224 j) (fun j _ => C225 j) (fun j _ _ => C234 j) | (exfalso; (first | omega | (have z0_ := unhid h177_0; omega)))) (by first | exact hI | exact QRL_k hd3 hM (fun j _ => C221 j) (C233 1) (fun j _ _ => C233 j) | (exfalso; (first | omega | (have z0_ := unhid h177_0; omega)))) (by first | exact hI | exact QRL_k hd4 hM2 (fun j _ => C229 j) (C234 1) (fun j _ _ => C234 j) | (exfalso; (first | omega | (have z0_ := unhid h177_0; omega)))) (by first | exact hI | exact SDL_k hd5 hM (fun j _ => C222 j) (C233 1) (fun j _ _ => C233 j) (fun j _ _ => C233 j) | (exfalso; (first | omega | (have z0_ := unhid h177_0; omega)))) (by first | exact hI | exact SDL_k hd6 hM2 (fun j _ => C230 j) (C234 1) (fun j _ _ => C234 j) (fun j _ _ => C234 j) | (exfalso; (first | omega | (have z0_ := unhid h177_0; omega)))) (by first | exact hI | exact LWL_k hd7 hM (fun j _ => C218 j) (fun j _ => C219 j) (fun j _ => C220 j) (fun j _ _ => C233 j) | (exfalso; (first | omega | (have z0_ := unhid h177_0; omega)))) (by first | exact hI | exact LWL_k hd8 hM2 (fun j _ => C226 j) (fun j _ => C227 j) (fun j _ => C228 j) (fun j _ _ => C234 j) | (exfalso; (first | omega | (have z0_ := unhid h177_0; omega)))) (by first | exact hI | exact CHL_k hd9 hM (fun j _ => C223 j) (by (first | omega | (have z0_ := unhid h177_0; omega))) (fun j _ _ => C233 j) | (exfalso; (first | omega | (have z0_ := unhid h177_0; omega)))) (by first | exact hI | exact CHL_k hd10 hM2 (fun j _ => C231 j) (by (first | omega | (have z0_ := unhid h177_0; omega))) (fun j _ _ => C234 j) | (exfalso; (first | omega | (have z0_ := unhid h177_0; omega))))
    · skip
      have hM236 : MW (dt178 80) := h177.2.2.1
      obtain ⟨h177_0, h177_1, h177_2, h177_3, h177_4, h177_5, h177_6, h177_7, h177_8, h177_9, h177_10, h177_11⟩ := h177
      have w237 : dt178 80 0 = dt 80 0 := h177_4.trans w24
      have w238 : dt178 80 1 = dt 80 1 := h177_5.trans w25
      have w239 : dt178 80 2 = dt 80 2 := h177_6.trans w26
      have w240 : dt178 80 3 = dt 80 3 := h177_7.trans w27
      have w241 : dt178 80 5 = dt 80 5 := h177_8.trans w29
      have M2242 : MW (dt178 81) := MW_frk M2154 hF180 (by decide)
      have C243 : ∀ j : Nat, dt178 2 j = dt 2 j := fun j => (hF180 2 (by decide) j).trans (C155 j)
      have C244 : ∀ j : Nat, dt178 3 j = dt 3 j := fun j => (hF180 3 (by decide) j).trans (C156 j)
      have C245 : ∀ j : Nat, dt178 4 j = dt 4 j := fun j => (hF180 4 (by decide) j).trans (C157 j)
      have C246 : ∀ j : Nat, dt178 5 j = dt 5 j := fun j => (hF180 5 (by decide) j).trans (C158 j)
      have C247 : ∀ j : Nat, dt178 6 j = dt 6 j := fun j => (hF180 6 (by decide) j).trans (C159 j)
      have C248 : ∀ j : Nat, dt178 8 j = dt 8 j := fun j => (hF180 8 (by decide) j).trans (C160 j)
      have C249 : ∀ j : Nat, dt178 9 j = dt 9 j := fun j => (hF180 9 (by decide) j).trans (C161 j)
      have C250 : ∀ j : Nat, dt178 11 j = dt 11 j := fun j => (hF180 11 (by decide) j).trans (C162 j)
      have C251 : ∀ j : Nat, dt178 19 j = dt 19 j := fun j => (hF180 19 (by decide) j).trans (C163 j)
      have C252 : ∀ j : Nat, dt178 20 j = dt 20 j := fun j => (hF180 20 (by decide) j).trans (C164 j)
      have C253 : ∀ j : Nat, dt178 21 j = dt 21 j := fun j => (hF180 21 (by decide) j).trans (C165 j)
      have C254 : ∀ j : Nat, dt178 22 j = dt 22 j := fun j => (hF180 22 (by decide) j).trans (C166 j)
      have C255 : ∀ j : Nat, dt178 23 j = dt 23 j := fun j => (hF180 23 (by decide) j).trans (C167 j)
      have C256 : ∀ j : Nat, dt178 25 j = dt 25 j := fun j => (hF180 25 (by decide) j).trans (C168 j)
      have C257 : ∀ j : Nat, dt178 26 j = dt 26 j := fun j => (hF180 26 (by decide) j).trans (C169 j)
      have C258 : ∀ j : Nat, dt178 28 j = dt 28 j := fun j => (hF180 28 (by decide) j).trans (C170 j)
      have C259 : ∀ j : Nat, dt178 36 j = dt 36 j := fun j => (hF180 36 (by decide) j).trans (C171 j)
      have C260 : ∀ j : Nat, dt178 81 j = dt 81 j := fun j => (hF180 81 (by decide) j).trans (C173 j)
      have C261 : ∀ j : Nat, dt178 85 j = dt 85 j := fun j => (hF180 85 (by decide) j).trans (C174 j)
      have F262 : ∀ j : Nat, 6 ≤ j → j < 974 → dt178 80 j = dt 80 j := fun j h1_ h2_ => (h177_9 j (by omega) (by omega)).trans (C172 j)
      have F263 : ∀ j : Nat, 974 ≤ j → j < 5320 → dt178 80 j = dt 80 j := fun j h1_ h2_ => (h177_9 j (by omega) (by omega)).trans (C172 j)
      have F264 : ∀ j : Nat, 5320 ≤ j → j < 5380 → dt178 80 j = dt 80 j := fun j h1_ h2_ => (h177_9 j (by omega) (by omega)).trans (C172 j)
      have F265 : dt178 80 1 = dt 80 1 := (h177_9 1 (by omega) (by omega)).trans (C172 1)
      have F266 : ∀ j : Nat, 5380 ≤ j → j < 5540 → dt178 80 j = dt 80 j := fun j h1_ h2_ => (h177_9 j (by omega) (by omega)).trans (C172 j)
      refine go_toq PM267 (k := 2) (pc' := 1435) (L' := [some (.inr (.inr (some 3000))), some (.inr (.inr (some 0))), some (.inr (.inr (some 79))), some (.inl i)]) (st' := []) (w' := (SH, dt178)) rfl ?_
      exact K dt178 hI179 hM236 M2242 (w182.trans (hk0.trans w237.symm)) (w183.trans (hk1.trans w238.symm)) (w184.trans (hk2.trans w239.symm)) (w185.trans (hk3.trans w240.symm)) (by omega) (w187.trans (hk5.trans w241.symm)) (w188.trans (hk6.trans w198.symm)) (w189.trans (hk7.trans w199.symm)) (w190.trans (hk8.trans w200.symm)) (w191.trans (hk9.trans w201.symm)) (w192.trans (hk10.trans w202.symm)) (w193.trans (hk11.trans w203.symm)) (w194.trans (hk12.trans w204.symm)) (w195.trans (hk13.trans w205.symm)) (w196.trans (hk14.trans w206.symm)) (w197.trans (hk15.trans w207.symm)) (by first | exact hI | exact TPL_k hd0 C259 C261 (by omega) | (exfalso; omega)) (by first | exact hI | exact SCL_k hd1 hM (fun j _ => C243 j) (fun j _ => C244 j) F262 | (exfalso; omega)) (by first | exact hI | exact SCL_k hd2 hM2 (fun j _ => C251 j) (fun j _ => C252 j) (fun j _ _ => C260 j) | (exfalso; omega)) (by first | exact hI | exact QRL_k hd3 hM (fun j _ => C248 j) F265 F264 | (exfalso; omega)) (by first | exact hI | exact QRL_k hd4 hM2 (fun j _ => C256 j) (C260 1) (fun j _ _ => C260 j) | (exfalso; omega)) (by first | exact hI | exact SDL_k hd5 hM (fun j _ => C249 j) F265 F262 F264 | (exfalso; omega)) (by first | exact hI | exact SDL_k hd6 hM2 (fun j _ => C257 j) (C260 1) (fun j _ _ => C260 j) (fun j _ _ => C260 j) | (exfalso; omega)) (by first | exact hI | exact LWL_k hd7 hM (fun j _ => C245 j) (fun j _ => C246 j) (fun j _ => C247 j) F263 | (exfalso; omega)) (by first | exact hI | exact LWL_k hd8 hM2 (fun j _ => C253 j) (fun j _ => C254 j) (fun j _ => C255 j) (fun j _ _ => C260 j) | (exfalso; omega)) (by first | exact hI | exact CHL_k hd9 hM (fun j _ => C250 j) (by omega) F266 | (exfalso; omega)) (by first | exact hI | exact CHL_k hd10 hM2 (fun j _ => C258 j) (by omega) (fun j _ _ => C260 j) | (exfalso; omega))
set_option maxRecDepth 20000 in
set_option maxHeartbeats 8000000 in
theorem sp_case24 (L : Nat) (xs : Nat → Int32) (sio : Option Nat) (d : Nat) (Q : Option AV → am_W → Prop) (hLL : L ≤ 3072) (i : Int) (hi : 0 ≤ i ∧ i ≤ 3066) (hil : i ≤ (L : Int) - 6) (dt : Nat → Nat → Int) (hI : InvC dt) (hM : MW (dt 80)) (hM2 : MW (dt 81)) (hk0 : dt 1 0 = dt 80 0) (hk1 : dt 7 3 = dt 80 1) (hk2 : dt 10 3 = dt 80 2) (hk3 : dt 12 3 = dt 80 3) (hk4 : dt 14 3 = dt 80 4) (hk5 : dt 16 3 = dt 80 5) (hk6 : dt 18 0 = dt 81 0) (hk7 : dt 24 3 = dt 81 1) (hk8 : dt 27 3 = dt 81 2) (hk9 : dt 29 3 = dt 81 3) (hk10 : dt 31 3 = dt 81 4) (hk11 : dt 33 3 = dt 81 5) (hk12 : dt 0 2 = dt 79 2) (hk13 : dt 35 1 = dt 79 12) (hk14 : dt 35 2 = dt 79 19) (hk15 : dt 35 3 = dt 79 21) (hd0 : TPL (dt 36) (dt 85) (dt 35 1)) (hd1 : SCL (dt 2) (dt 3) (dt 80)) (hd2 : SCL (dt 19) (dt 20) (dt 81)) (hd3 : QRL (dt 8) (dt 80)) (hd4 : QRL (dt 25) (dt 81)) (hd5 : SDL (dt 9) (dt 80)) (hd6 : SDL (dt 26) (dt 81)) (hd7 : LWL (dt 4) (dt 5) (dt 6) (dt 80)) (hd8 : LWL (dt 21) (dt 22) (dt 23) (dt 81)) (hd9 : CHL (dt 11) (dt 80)) (hd10 : CHL (dt 28) (dt 81)) (K : ∀ (dt : Nat → Nat → Int) (hI : InvC dt) (hM : MW (dt 80)) (hM2 : MW (dt 81)) (hk0 : dt 1 0 = dt 80 0) (hk1 : dt 7 3 = dt 80 1) (hk2 : dt 10 3 = dt 80 2) (hk3 : dt 12 3 = dt 80 3) (hk4 : dt 14 3 = dt 80 4) (hk5 : dt 16 3 = dt 80 5) (hk6 : dt 18 0 = dt 81 0) (hk7 : dt 24 3 = dt 81 1) (hk8 : dt 27 3 = dt 81 2) (hk9 : dt 29 3 = dt 81 3) (hk10 : dt 31 3 = dt 81 4) (hk11 : dt 33 3 = dt 81 5) (hk12 : dt 0 2 = dt 79 2) (hk13 : dt 35 1 = dt 79 12) (hk14 : dt 35 2 = dt 79 19) (hk15 : dt 35 3 = dt 79 21) (hd0 : TPL (dt 36) (dt 85) (dt 35 1)) (hd1 : SCL (dt 2) (dt 3) (dt 80)) (hd2 : SCL (dt 19) (dt 20) (dt 81)) (hd3 : QRL (dt 8) (dt 80)) (hd4 : QRL (dt 25) (dt 81)) (hd5 : SDL (dt 9) (dt 80)) (hd6 : SDL (dt 26) (dt 81)) (hd7 : LWL (dt 4) (dt 5) (dt 6) (dt 80)) (hd8 : LWL (dt 21) (dt 22) (dt 23) (dt 81)) (hd9 : CHL (dt 11) (dt 80)) (hd10 : CHL (dt 28) (dt 81)), GO (am_XX L xs sio) (d + 39) 267 1435 [some (.inr (.inr (some 3000))), some (.inr (.inr (some 0))), some (.inr (.inr (some 79))), some (.inl i)] [] (SH, dt) Q) : GO (am_XX L xs sio) (d + 39) 267 1142 [some (.inr (.inr (some 3000))), some (.inr (.inr (some 0))), some (.inr (.inr (some 79))), some (.inl i)] [] (SH, dt) Q := by
  have hF : Fr [0, 1, 2, 3, 4, 5, 6, 7, 8, 9, 10, 11, 12, 13, 14, 15, 16, 17, 18, 19, 20, 21, 22, 23, 24, 25, 26, 27, 28, 29, 30, 31, 32, 33, 34, 35, 36, 37, 38, 39, 40, 41, 42, 43, 44, 45, 46, 47, 48, 49, 50, 51, 52, 53, 54, 55, 56, 57, 58, 59, 60, 61, 62, 63, 64, 65, 66, 67, 68, 69, 70, 71, 72, 73, 74, 75, 76, 77, 78, 79, 80, 81, 82, 83, 84, 85, 86, 87, 88, 89, 90, 91, 92, 93, 94, 95, 96, 97, 98, 99, 100, 101, 102, 103, 104] dt dt := Fr_refl
  have hqo := QOC_R hd3 hM hk1
  have hb1_ := hM.1.1
  have hb2_ := hM.1.2.1
  have hb3_ := hM.1.2.2.1
  have halk : ALK dt (dt 80) := ⟨hd7, hd3, hd5, hd9, hk1, hk2⟩
  refine go_toq PM267 (k := 5) (pc' := 1147) (L' := [some (.inr (.inr (some 3000))), some (.inr (.inr (some 0))), some (.inr (.inr (some 79))), some (.inl i)]) (st' := [.inl (i + 1), .inr (.inr (some 3000)), .inr (.inr (some 0))]) (w' := (SH, dt)) rfl ?_
  have r1 := i32_R (xs ((i + 1).toNat))
  refine go_smpq PM267 (L' := [some (.inr (.inr (some 3000))), some (.inr (.inr (some 0))), some (.inr (.inr (some 79))), some (.inl i)]) (st' := [.inl ((xs ((i + 1).toNat)).toInt), .inr (.inr (some 0))]) (w' := (SH, dt)) rfl rfl (s_iald (n := L) (f := fun j => (xs j).toInt) (am_scr hLL) ⟨by omega, by omega⟩) ?_
  refine go_callq PM267 PM91 (Q' := _) rfl rfl rfl rfl (sp_X5_way L xs sio (d + 35) dt hI  ((xs ((i + 1).toNat)).toInt) ⟨by omega, by omega⟩ ) ?_
  rintro _ _ ⟨rfl, h2⟩
  refine ⟨rfl, ?_⟩
  rcases h2 with ⟨v_h2, rfl, h2r, h2⟩
  refine go_toq PM267 (k := 6) (pc' := 1157) (L' := [some (.inr (.inr (some 3000))), some (.inr (.inr (some 0))), some (.inr (.inr (some 79))), some (.inl i)]) (st' := [.inl (i + 1), .inr (.inr (some 3000)), .inr (.inr (some 79))]) (w' := (SH, dt)) rfl ?_
  refine go_smpq PM267 (L' := [some (.inr (.inr (some 3000))), some (.inr (.inr (some 0))), some (.inr (.inr (some 79))), some (.inl i)]) (st' := [.inl ((xs ((i + 1).toNat)).toInt), .inr (.inr (some 79))]) (w' := (SH, dt)) rfl rfl (s_iald (n := L) (f := fun j => (xs j).toInt) (am_scr hLL) ⟨by omega, by omega⟩) ?_
  refine go_callq PM267 PM236 (Q' := _) rfl rfl rfl rfl (sp_X6_way L xs sio (d + 36) dt hI hM  ((xs ((i + 1).toNat)).toInt) ⟨by omega, by omega⟩ ) ?_
  rintro _ _ ⟨dt4, rfl, hI5, hF6, h3⟩
  refine ⟨rfl, ?_⟩
  have hF7 : Fr [0, 1, 2, 3, 4, 5, 6, 7, 8, 9, 10, 11, 12, 13, 14, 15, 16, 17, 18, 19, 20, 21, 22, 23, 24, 25, 26, 27, 28, 29, 30, 31, 32, 33, 34, 35, 36, 37, 38, 39, 40, 41, 42, 43, 44, 45, 46, 47, 48, 49, 50, 51, 52, 53, 54, 55, 56, 57, 58, 59, 60, 61, 62, 63, 64, 65, 66, 67, 68, 69, 70, 71, 72, 73, 74, 75, 76, 77, 78, 79, 80, 81, 82, 83, 84, 85, 86, 87, 88, 89, 90, 91, 92, 93, 94, 95, 96, 97, 98, 99, 100, 101, 102, 103, 104] dt dt4 := Fr_tr hF hF6 (by decide)
  have hM8 : MW (dt4 80) := MW_fr hM hF6 (by decide)
  have w9 : dt4 1 0 = dt 1 0 := hF6 1 (by decide) 0
  have w10 : dt4 7 3 = dt 7 3 := hF6 7 (by decide) 3
  have w11 : dt4 10 3 = dt 10 3 := hF6 10 (by decide) 3
  have w12 : dt4 12 3 = dt 12 3 := hF6 12 (by decide) 3
  have w13 : dt4 14 3 = dt 14 3 := hF6 14 (by decide) 3
  have w14 : dt4 16 3 = dt 16 3 := hF6 16 (by decide) 3
  have w15 : dt4 18 0 = dt 18 0 := hF6 18 (by decide) 0
  have w16 : dt4 24 3 = dt 24 3 := hF6 24 (by decide) 3
  have w17 : dt4 27 3 = dt 27 3 := hF6 27 (by decide) 3
  have w18 : dt4 29 3 = dt 29 3 := hF6 29 (by decide) 3
  have w19 : dt4 31 3 = dt 31 3 := hF6 31 (by decide) 3
  have w20 : dt4 33 3 = dt 33 3 := hF6 33 (by decide) 3
  have w21 : dt4 0 2 = dt 0 2 := hF6 0 (by decide) 2
  have w22 : dt4 35 1 = dt 35 1 := hF6 35 (by decide) 1
  have w23 : dt4 35 2 = dt 35 2 := hF6 35 (by decide) 2
  have w24 : dt4 35 3 = dt 35 3 := hF6 35 (by decide) 3
  have w25 : dt4 80 0 = dt 80 0 := hF6 80 (by decide) 0
  have w26 : dt4 80 1 = dt 80 1 := hF6 80 (by decide) 1
  have w27 : dt4 80 2 = dt 80 2 := hF6 80 (by decide) 2
  have w28 : dt4 80 3 = dt 80 3 := hF6 80 (by decide) 3
  have w29 : dt4 80 4 = dt 80 4 := hF6 80 (by decide) 4
  have w30 : dt4 80 5 = dt 80 5 := hF6 80 (by decide) 5
  have w31 : dt4 81 0 = dt 81 0 := hF6 81 (by decide) 0
  have w32 : dt4 81 1 = dt 81 1 := hF6 81 (by decide) 1
  have w33 : dt4 81 2 = dt 81 2 := hF6 81 (by decide) 2
  have w34 : dt4 81 3 = dt 81 3 := hF6 81 (by decide) 3
  have w35 : dt4 81 4 = dt 81 4 := hF6 81 (by decide) 4
  have w36 : dt4 81 5 = dt 81 5 := hF6 81 (by decide) 5
  have w37 : dt4 79 2 = dt 79 2 := hF6 79 (by decide) 2
  have w38 : dt4 79 12 = dt 79 12 := hF6 79 (by decide) 12
  have w39 : dt4 79 19 = dt 79 19 := hF6 79 (by decide) 19
  have w40 : dt4 79 21 = dt 79 21 := hF6 79 (by decide) 21
  rcases h3 with ⟨v_h3, rfl, h3r, h3⟩
  have M241 : MW (dt4 81) := MW_frk hM2 hF6 (by decide)
  have C42 : ∀ j : Nat, dt4 2 j = dt 2 j := fun j => (hF6 2 (by decide) j).trans ((fun _ => rfl) j)
  have C43 : ∀ j : Nat, dt4 3 j = dt 3 j := fun j => (hF6 3 (by decide) j).trans ((fun _ => rfl) j)
  have C44 : ∀ j : Nat, dt4 4 j = dt 4 j := fun j => (hF6 4 (by decide) j).trans ((fun _ => rfl) j)
  have C45 : ∀ j : Nat, dt4 5 j = dt 5 j := fun j => (hF6 5 (by decide) j).trans ((fun _ => rfl) j)
  have C46 : ∀ j : Nat, dt4 6 j = dt 6 j := fun j => (hF6 6 (by decide) j).trans ((fun _ => rfl) j)
  have C47 : ∀ j : Nat, dt4 8 j = dt 8 j := fun j => (hF6 8 (by decide) j).trans ((fun _ => rfl) j)
  have C48 : ∀ j : Nat, dt4 9 j = dt 9 j := fun j => (hF6 9 (by decide) j).trans ((fun _ => rfl) j)
  have C49 : ∀ j : Nat, dt4 11 j = dt 11 j := fun j => (hF6 11 (by decide) j).trans ((fun _ => rfl) j)
  have C50 : ∀ j : Nat, dt4 19 j = dt 19 j := fun j => (hF6 19 (by decide) j).trans ((fun _ => rfl) j)
  have C51 : ∀ j : Nat, dt4 20 j = dt 20 j := fun j => (hF6 20 (by decide) j).trans ((fun _ => rfl) j)
  have C52 : ∀ j : Nat, dt4 21 j = dt 21 j := fun j => (hF6 21 (by decide) j).trans ((fun _ => rfl) j)
  have C53 : ∀ j : Nat, dt4 22 j = dt 22 j := fun j => (hF6 22 (by decide) j).trans ((fun _ => rfl) j)
  have C54 : ∀ j : Nat, dt4 23 j = dt 23 j := fun j => (hF6 23 (by decide) j).trans ((fun _ => rfl) j)
  have C55 : ∀ j : Nat, dt4 25 j = dt 25 j := fun j => (hF6 25 (by decide) j).trans ((fun _ => rfl) j)
  have C56 : ∀ j : Nat, dt4 26 j = dt 26 j := fun j => (hF6 26 (by decide) j).trans ((fun _ => rfl) j)
  have C57 : ∀ j : Nat, dt4 28 j = dt 28 j := fun j => (hF6 28 (by decide) j).trans ((fun _ => rfl) j)
  have C58 : ∀ j : Nat, dt4 36 j = dt 36 j := fun j => (hF6 36 (by decide) j).trans ((fun _ => rfl) j)
  have C59 : ∀ j : Nat, dt4 80 j = dt 80 j := fun j => (hF6 80 (by decide) j).trans ((fun _ => rfl) j)
  have C60 : ∀ j : Nat, dt4 81 j = dt 81 j := fun j => (hF6 81 (by decide) j).trans ((fun _ => rfl) j)
  have C61 : ∀ j : Nat, dt4 85 j = dt 85 j := fun j => (hF6 85 (by decide) j).trans ((fun _ => rfl) j)
  refine go_toq PM267 (k := 2) (pc' := 1435) (L' := [some (.inr (.inr (some 3000))), some (.inr (.inr (some 0))), some (.inr (.inr (some 79))), some (.inl i)]) (st' := []) (w' := (SH, dt4)) rfl ?_
  exact K dt4 hI5 hM8 M241 (w9.trans (hk0.trans w25.symm)) (w10.trans (hk1.trans w26.symm)) (w11.trans (hk2.trans w27.symm)) (w12.trans (hk3.trans w28.symm)) (w13.trans (hk4.trans w29.symm)) (w14.trans (hk5.trans w30.symm)) (w15.trans (hk6.trans w31.symm)) (w16.trans (hk7.trans w32.symm)) (w17.trans (hk8.trans w33.symm)) (w18.trans (hk9.trans w34.symm)) (w19.trans (hk10.trans w35.symm)) (w20.trans (hk11.trans w36.symm)) (w21.trans (hk12.trans w37.symm)) (w22.trans (hk13.trans w38.symm)) (w23.trans (hk14.trans w39.symm)) (w24.trans (hk15.trans w40.symm)) (by first | exact hI | exact TPL_k hd0 C58 C61 (by omega) | (exfalso; omega)) (by first | exact hI | exact SCL_k hd1 hM (fun j _ => C42 j) (fun j _ => C43 j) (fun j _ _ => C59 j) | (exfalso; omega)) (by first | exact hI | exact SCL_k hd2 hM2 (fun j _ => C50 j) (fun j _ => C51 j) (fun j _ _ => C60 j) | (exfalso; omega)) (by first | exact hI | exact QRL_k hd3 hM (fun j _ => C47 j) (C59 1) (fun j _ _ => C59 j) | (exfalso; omega)) (by first | exact hI | exact QRL_k hd4 hM2 (fun j _ => C55 j) (C60 1) (fun j _ _ => C60 j) | (exfalso; omega)) (by first | exact hI | exact SDL_k hd5 hM (fun j _ => C48 j) (C59 1) (fun j _ _ => C59 j) (fun j _ _ => C59 j) | (exfalso; omega)) (by first | exact hI | exact SDL_k hd6 hM2 (fun j _ => C56 j) (C60 1) (fun j _ _ => C60 j) (fun j _ _ => C60 j) | (exfalso; omega)) (by first | exact hI | exact LWL_k hd7 hM (fun j _ => C44 j) (fun j _ => C45 j) (fun j _ => C46 j) (fun j _ _ => C59 j) | (exfalso; omega)) (by first | exact hI | exact LWL_k hd8 hM2 (fun j _ => C52 j) (fun j _ => C53 j) (fun j _ => C54 j) (fun j _ _ => C60 j) | (exfalso; omega)) (by first | exact hI | exact CHL_k hd9 hM (fun j _ => C49 j) (by omega) (fun j _ _ => C59 j) | (exfalso; omega)) (by first | exact hI | exact CHL_k hd10 hM2 (fun j _ => C57 j) (by omega) (fun j _ _ => C60 j) | (exfalso; omega))
set_option maxRecDepth 20000 in
set_option maxHeartbeats 8000000 in
theorem sp_case25 (L : Nat) (xs : Nat → Int32) (sio : Option Nat) (d : Nat) (Q : Option AV → am_W → Prop) (hLL : L ≤ 3072) (i : Int) (hi : 0 ≤ i ∧ i ≤ 3066) (hil : i ≤ (L : Int) - 6) (dt : Nat → Nat → Int) (hI : InvC dt) (hM : MW (dt 80)) (hM2 : MW (dt 81)) (hk0 : dt 1 0 = dt 80 0) (hk1 : dt 7 3 = dt 80 1) (hk2 : dt 10 3 = dt 80 2) (hk3 : dt 12 3 = dt 80 3) (hk4 : dt 14 3 = dt 80 4) (hk5 : dt 16 3 = dt 80 5) (hk6 : dt 18 0 = dt 81 0) (hk7 : dt 24 3 = dt 81 1) (hk8 : dt 27 3 = dt 81 2) (hk9 : dt 29 3 = dt 81 3) (hk10 : dt 31 3 = dt 81 4) (hk11 : dt 33 3 = dt 81 5) (hk12 : dt 0 2 = dt 79 2) (hk13 : dt 35 1 = dt 79 12) (hk14 : dt 35 2 = dt 79 19) (hk15 : dt 35 3 = dt 79 21) (hd0 : TPL (dt 36) (dt 85) (dt 35 1)) (hd1 : SCL (dt 2) (dt 3) (dt 80)) (hd2 : SCL (dt 19) (dt 20) (dt 81)) (hd3 : QRL (dt 8) (dt 80)) (hd4 : QRL (dt 25) (dt 81)) (hd5 : SDL (dt 9) (dt 80)) (hd6 : SDL (dt 26) (dt 81)) (hd7 : LWL (dt 4) (dt 5) (dt 6) (dt 80)) (hd8 : LWL (dt 21) (dt 22) (dt 23) (dt 81)) (hd9 : CHL (dt 11) (dt 80)) (hd10 : CHL (dt 28) (dt 81)) (K : ∀ (dt : Nat → Nat → Int) (hI : InvC dt) (hM : MW (dt 80)) (hM2 : MW (dt 81)) (hk0 : dt 1 0 = dt 80 0) (hk1 : dt 7 3 = dt 80 1) (hk2 : dt 10 3 = dt 80 2) (hk3 : dt 12 3 = dt 80 3) (hk4 : dt 14 3 = dt 80 4) (hk5 : dt 16 3 = dt 80 5) (hk6 : dt 18 0 = dt 81 0) (hk7 : dt 24 3 = dt 81 1) (hk8 : dt 27 3 = dt 81 2) (hk9 : dt 29 3 = dt 81 3) (hk10 : dt 31 3 = dt 81 4) (hk11 : dt 33 3 = dt 81 5) (hk12 : dt 0 2 = dt 79 2) (hk13 : dt 35 1 = dt 79 12) (hk14 : dt 35 2 = dt 79 19) (hk15 : dt 35 3 = dt 79 21) (hd0 : TPL (dt 36) (dt 85) (dt 35 1)) (hd1 : SCL (dt 2) (dt 3) (dt 80)) (hd2 : SCL (dt 19) (dt 20) (dt 81)) (hd3 : QRL (dt 8) (dt 80)) (hd4 : QRL (dt 25) (dt 81)) (hd5 : SDL (dt 9) (dt 80)) (hd6 : SDL (dt 26) (dt 81)) (hd7 : LWL (dt 4) (dt 5) (dt 6) (dt 80)) (hd8 : LWL (dt 21) (dt 22) (dt 23) (dt 81)) (hd9 : CHL (dt 11) (dt 80)) (hd10 : CHL (dt 28) (dt 81)), GO (am_XX L xs sio) (d + 39) 267 1435 [some (.inr (.inr (some 3000))), some (.inr (.inr (some 0))), some (.inr (.inr (some 79))), some (.inl i)] [] (SH, dt) Q) : GO (am_XX L xs sio) (d + 39) 267 1165 [some (.inr (.inr (some 3000))), some (.inr (.inr (some 0))), some (.inr (.inr (some 79))), some (.inl i)] [] (SH, dt) Q := by
  have hF : Fr [0, 1, 2, 3, 4, 5, 6, 7, 8, 9, 10, 11, 12, 13, 14, 15, 16, 17, 18, 19, 20, 21, 22, 23, 24, 25, 26, 27, 28, 29, 30, 31, 32, 33, 34, 35, 36, 37, 38, 39, 40, 41, 42, 43, 44, 45, 46, 47, 48, 49, 50, 51, 52, 53, 54, 55, 56, 57, 58, 59, 60, 61, 62, 63, 64, 65, 66, 67, 68, 69, 70, 71, 72, 73, 74, 75, 76, 77, 78, 79, 80, 81, 82, 83, 84, 85, 86, 87, 88, 89, 90, 91, 92, 93, 94, 95, 96, 97, 98, 99, 100, 101, 102, 103, 104] dt dt := Fr_refl
  have hqo := QOC_R hd3 hM hk1
  have hb1_ := hM.1.1
  have hb2_ := hM.1.2.1
  have hb3_ := hM.1.2.2.1
  have halk : ALK dt (dt 80) := ⟨hd7, hd3, hd5, hd9, hk1, hk2⟩
  refine go_toq PM267 (k := 5) (pc' := 1170) (L' := [some (.inr (.inr (some 3000))), some (.inr (.inr (some 0))), some (.inr (.inr (some 79))), some (.inl i)]) (st' := [.inl (i + 1), .inr (.inr (some 3000)), .inr (.inr (some 0))]) (w' := (SH, dt)) rfl ?_
  have r1 := i32_R (xs ((i + 1).toNat))
  refine go_smpq PM267 (L' := [some (.inr (.inr (some 3000))), some (.inr (.inr (some 0))), some (.inr (.inr (some 79))), some (.inl i)]) (st' := [.inl ((xs ((i + 1).toNat)).toInt), .inr (.inr (some 0))]) (w' := (SH, dt)) rfl rfl (s_iald (n := L) (f := fun j => (xs j).toInt) (am_scr hLL) ⟨by omega, by omega⟩) ?_
  refine go_toq PM267 (k := 4) (pc' := 1175) (L' := [some (.inr (.inr (some 3000))), some (.inr (.inr (some 0))), some (.inr (.inr (some 79))), some (.inl i)]) (st' := [.inl (i + 2), .inr (.inr (some 3000)), .inl ((xs ((i + 1).toNat)).toInt), .inr (.inr (some 0))]) (w' := (SH, dt)) rfl ?_
  have r2 := i32_R (xs ((i + 2).toNat))
  refine go_smpq PM267 (L' := [some (.inr (.inr (some 3000))), some (.inr (.inr (some 0))), some (.inr (.inr (some 79))), some (.inl i)]) (st' := [.inl ((xs ((i + 2).toNat)).toInt), .inl ((xs ((i + 1).toNat)).toInt), .inr (.inr (some 0))]) (w' := (SH, dt)) rfl rfl (s_iald (n := L) (f := fun j => (xs j).toInt) (am_scr hLL) ⟨by omega, by omega⟩) ?_
  refine go_callq PM267 PM92 (Q' := _) rfl rfl rfl rfl (sp_X5_house L xs sio (d + 36) dt hI  ((xs ((i + 1).toNat)).toInt) ⟨by omega, by omega⟩ ((xs ((i + 2).toNat)).toInt) ⟨by omega, by omega⟩ ) ?_
  rintro _ _ ⟨dt4, rfl, hI5, hF6, h3⟩
  refine ⟨rfl, ?_⟩
  have hF7 : Fr [0, 1, 2, 3, 4, 5, 6, 7, 8, 9, 10, 11, 12, 13, 14, 15, 16, 17, 18, 19, 20, 21, 22, 23, 24, 25, 26, 27, 28, 29, 30, 31, 32, 33, 34, 35, 36, 37, 38, 39, 40, 41, 42, 43, 44, 45, 46, 47, 48, 49, 50, 51, 52, 53, 54, 55, 56, 57, 58, 59, 60, 61, 62, 63, 64, 65, 66, 67, 68, 69, 70, 71, 72, 73, 74, 75, 76, 77, 78, 79, 80, 81, 82, 83, 84, 85, 86, 87, 88, 89, 90, 91, 92, 93, 94, 95, 96, 97, 98, 99, 100, 101, 102, 103, 104] dt dt4 := Fr_tr hF hF6 (by decide)
  have hM8 : MW (dt4 80) := MW_fr hM hF6 (by decide)
  have w9 : dt4 1 0 = dt 1 0 := hF6 1 (by decide) 0
  have w10 : dt4 7 3 = dt 7 3 := hF6 7 (by decide) 3
  have w11 : dt4 10 3 = dt 10 3 := hF6 10 (by decide) 3
  have w12 : dt4 12 3 = dt 12 3 := hF6 12 (by decide) 3
  have w13 : dt4 14 3 = dt 14 3 := hF6 14 (by decide) 3
  have w14 : dt4 18 0 = dt 18 0 := hF6 18 (by decide) 0
  have w15 : dt4 24 3 = dt 24 3 := hF6 24 (by decide) 3
  have w16 : dt4 27 3 = dt 27 3 := hF6 27 (by decide) 3
  have w17 : dt4 29 3 = dt 29 3 := hF6 29 (by decide) 3
  have w18 : dt4 31 3 = dt 31 3 := hF6 31 (by decide) 3
  have w19 : dt4 33 3 = dt 33 3 := hF6 33 (by decide) 3
  have w20 : dt4 0 2 = dt 0 2 := hF6 0 (by decide) 2
  have w21 : dt4 35 1 = dt 35 1 := hF6 35 (by decide) 1
  have w22 : dt4 35 2 = dt 35 2 := hF6 35 (by decide) 2
  have w23 : dt4 35 3 = dt 35 3 := hF6 35 (by decide) 3
  have w24 : dt4 80 0 = dt 80 0 := hF6 80 (by decide) 0
  have w25 : dt4 80 1 = dt 80 1 := hF6 80 (by decide) 1
  have w26 : dt4 80 2 = dt 80 2 := hF6 80 (by decide) 2
  have w27 : dt4 80 3 = dt 80 3 := hF6 80 (by decide) 3
  have w28 : dt4 80 4 = dt 80 4 := hF6 80 (by decide) 4
  have w29 : dt4 80 5 = dt 80 5 := hF6 80 (by decide) 5
  have w30 : dt4 81 0 = dt 81 0 := hF6 81 (by decide) 0
  have w31 : dt4 81 1 = dt 81 1 := hF6 81 (by decide) 1
  have w32 : dt4 81 2 = dt 81 2 := hF6 81 (by decide) 2
  have w33 : dt4 81 3 = dt 81 3 := hF6 81 (by decide) 3
  have w34 : dt4 81 4 = dt 81 4 := hF6 81 (by decide) 4
  have w35 : dt4 81 5 = dt 81 5 := hF6 81 (by decide) 5
  have w36 : dt4 79 2 = dt 79 2 := hF6 79 (by decide) 2
  have w37 : dt4 79 12 = dt 79 12 := hF6 79 (by decide) 12
  have w38 : dt4 79 19 = dt 79 19 := hF6 79 (by decide) 19
  have w39 : dt4 79 21 = dt 79 21 := hF6 79 (by decide) 21
  rcases h3 with ⟨rfl, h3⟩ | ⟨v_h3, rfl, h3r, h3⟩
  · skip
    obtain ⟨h3_0, h3_1⟩ := h3
    replace h3_0 := hid h3_0
    have w40 : dt4 16 3 = dt 16 3 := h3_1
    have M241 : MW (dt4 81) := MW_frk hM2 hF6 (by decide)
    have C42 : ∀ j : Nat, dt4 2 j = dt 2 j := fun j => (hF6 2 (by decide) j).trans ((fun _ => rfl) j)
    have C43 : ∀ j : Nat, dt4 3 j = dt 3 j := fun j => (hF6 3 (by decide) j).trans ((fun _ => rfl) j)
    have C44 : ∀ j : Nat, dt4 4 j = dt 4 j := fun j => (hF6 4 (by decide) j).trans ((fun _ => rfl) j)
    have C45 : ∀ j : Nat, dt4 5 j = dt 5 j := fun j => (hF6 5 (by decide) j).trans ((fun _ => rfl) j)
    have C46 : ∀ j : Nat, dt4 6 j = dt 6 j := fun j => (hF6 6 (by decide) j).trans ((fun _ => rfl) j)
    have C47 : ∀ j : Nat, dt4 8 j = dt 8 j := fun j => (hF6 8 (by decide) j).trans ((fun _ => rfl) j)
    have C48 : ∀ j : Nat, dt4 9 j = dt 9 j := fun j => (hF6 9 (by decide) j).trans ((fun _ => rfl) j)
    have C49 : ∀ j : Nat, dt4 11 j = dt 11 j := fun j => (hF6 11 (by decide) j).trans ((fun _ => rfl) j)
    have C50 : ∀ j : Nat, dt4 19 j = dt 19 j := fun j => (hF6 19 (by decide) j).trans ((fun _ => rfl) j)
    have C51 : ∀ j : Nat, dt4 20 j = dt 20 j := fun j => (hF6 20 (by decide) j).trans ((fun _ => rfl) j)
    have C52 : ∀ j : Nat, dt4 21 j = dt 21 j := fun j => (hF6 21 (by decide) j).trans ((fun _ => rfl) j)
    have C53 : ∀ j : Nat, dt4 22 j = dt 22 j := fun j => (hF6 22 (by decide) j).trans ((fun _ => rfl) j)
    have C54 : ∀ j : Nat, dt4 23 j = dt 23 j := fun j => (hF6 23 (by decide) j).trans ((fun _ => rfl) j)
    have C55 : ∀ j : Nat, dt4 25 j = dt 25 j := fun j => (hF6 25 (by decide) j).trans ((fun _ => rfl) j)
    have C56 : ∀ j : Nat, dt4 26 j = dt 26 j := fun j => (hF6 26 (by decide) j).trans ((fun _ => rfl) j)
    have C57 : ∀ j : Nat, dt4 28 j = dt 28 j := fun j => (hF6 28 (by decide) j).trans ((fun _ => rfl) j)
    have C58 : ∀ j : Nat, dt4 36 j = dt 36 j := fun j => (hF6 36 (by decide) j).trans ((fun _ => rfl) j)
    have C59 : ∀ j : Nat, dt4 80 j = dt 80 j := fun j => (hF6 80 (by decide) j).trans ((fun _ => rfl) j)
    have C60 : ∀ j : Nat, dt4 81 j = dt 81 j := fun j => (hF6 81 (by decide) j).trans ((fun _ => rfl) j)
    have C61 : ∀ j : Nat, dt4 85 j = dt 85 j := fun j => (hF6 85 (by decide) j).trans ((fun _ => rfl) j)
    refine go_toq PM267 (k := 6) (pc' := 1185) (L' := [some (.inr (.inr (some 3000))), some (.inr (.inr (some 0))), some (.inr (.inr (some 79))), some (.inl i)]) (st' := [.inl (i + 1), .inr (.inr (some 3000)), .inr (.inr (some 79))]) (w' := (SH, dt4)) rfl ?_
    have r62 := i32_R (xs ((i + 1).toNat))
    refine go_smpq PM267 (L' := [some (.inr (.inr (some 3000))), some (.inr (.inr (some 0))), some (.inr (.inr (some 79))), some (.inl i)]) (st' := [.inl ((xs ((i + 1).toNat)).toInt), .inr (.inr (some 79))]) (w' := (SH, dt4)) rfl rfl (s_iald (n := L) (f := fun j => (xs j).toInt) (am_scr hLL) ⟨by (first | omega | (have z0_ := unhid h3_0; omega)), by (first | omega | (have z0_ := unhid h3_0; omega))⟩) ?_
    refine go_toq PM267 (k := 4) (pc' := 1190) (L' := [some (.inr (.inr (some 3000))), some (.inr (.inr (some 0))), some (.inr (.inr (some 79))), some (.inl i)]) (st' := [.inl (i + 2), .inr (.inr (some 3000)), .inl ((xs ((i + 1).toNat)).toInt), .inr (.inr (some 79))]) (w' := (SH, dt4)) rfl ?_
    have r63 := i32_R (xs ((i + 2).toNat))
    refine go_smpq PM267 (L' := [some (.inr (.inr (some 3000))), some (.inr (.inr (some 0))), some (.inr (.inr (some 79))), some (.inl i)]) (st' := [.inl ((xs ((i + 2).toNat)).toInt), .inl ((xs ((i + 1).toNat)).toInt), .inr (.inr (some 79))]) (w' := (SH, dt4)) rfl rfl (s_iald (n := L) (f := fun j => (xs j).toInt) (am_scr hLL) ⟨by (first | omega | (have z0_ := unhid h3_0; omega)), by (first | omega | (have z0_ := unhid h3_0; omega))⟩) ?_
    refine go_callq PM267 PM237 (Q' := _) rfl rfl rfl rfl (sp_X6_house_v L xs sio (d + 37) dt4 hI5 hM8  ((xs ((i + 1).toNat)).toInt) ⟨by (first | omega | (have z0_ := unhid h3_0; omega)), by (first | omega | (have z0_ := unhid h3_0; omega))⟩ ((xs ((i + 2).toNat)).toInt) ⟨by (first | omega | (have z0_ := unhid h3_0; omega)), by (first | omega | (have z0_ := unhid h3_0; omega))⟩ ) ?_
    rintro _ _ ⟨dt65, rfl, hI66, hF67, h64⟩
    refine ⟨rfl, ?_⟩
    have hF68 : Fr [0, 1, 2, 3, 4, 5, 6, 7, 8, 9, 10, 11, 12, 13, 14, 15, 16, 17, 18, 19, 20, 21, 22, 23, 24, 25, 26, 27, 28, 29, 30, 31, 32, 33, 34, 35, 36, 37, 38, 39, 40, 41, 42, 43, 44, 45, 46, 47, 48, 49, 50, 51, 52, 53, 54, 55, 56, 57, 58, 59, 60, 61, 62, 63, 64, 65, 66, 67, 68, 69, 70, 71, 72, 73, 74, 75, 76, 77, 78, 79, 80, 81, 82, 83, 84, 85, 86, 87, 88, 89, 90, 91, 92, 93, 94, 95, 96, 97, 98, 99, 100, 101, 102, 103, 104] dt dt65 := Fr_tr hF7 hF67 (by decide)
    have w69 : dt65 1 0 = dt 1 0 := (hF67 1 (by decide) 0).trans w9
    have w70 : dt65 7 3 = dt 7 3 := (hF67 7 (by decide) 3).trans w10
    have w71 : dt65 10 3 = dt 10 3 := (hF67 10 (by decide) 3).trans w11
    have w72 : dt65 12 3 = dt 12 3 := (hF67 12 (by decide) 3).trans w12
    have w73 : dt65 14 3 = dt 14 3 := (hF67 14 (by decide) 3).trans w13
    have w74 : dt65 16 3 = dt 16 3 := (hF67 16 (by decide) 3).trans w40
    have w75 : dt65 18 0 = dt 18 0 := (hF67 18 (by decide) 0).trans w14
    have w76 : dt65 24 3 = dt 24 3 := (hF67 24 (by decide) 3).trans w15
    have w77 : dt65 27 3 = dt 27 3 := (hF67 27 (by decide) 3).trans w16
    have w78 : dt65 29 3 = dt 29 3 := (hF67 29 (by decide) 3).trans w17
    have w79 : dt65 31 3 = dt 31 3 := (hF67 31 (by decide) 3).trans w18
    have w80 : dt65 33 3 = dt 33 3 := (hF67 33 (by decide) 3).trans w19
    have w81 : dt65 0 2 = dt 0 2 := (hF67 0 (by decide) 2).trans w20
    have w82 : dt65 35 1 = dt 35 1 := (hF67 35 (by decide) 1).trans w21
    have w83 : dt65 35 2 = dt 35 2 := (hF67 35 (by decide) 2).trans w22
    have w84 : dt65 35 3 = dt 35 3 := (hF67 35 (by decide) 3).trans w23
    have w85 : dt65 81 0 = dt 81 0 := (hF67 81 (by decide) 0).trans w30
    have w86 : dt65 81 1 = dt 81 1 := (hF67 81 (by decide) 1).trans w31
    have w87 : dt65 81 2 = dt 81 2 := (hF67 81 (by decide) 2).trans w32
    have w88 : dt65 81 3 = dt 81 3 := (hF67 81 (by decide) 3).trans w33
    have w89 : dt65 81 4 = dt 81 4 := (hF67 81 (by decide) 4).trans w34
    have w90 : dt65 81 5 = dt 81 5 := (hF67 81 (by decide) 5).trans w35
    have w91 : dt65 79 2 = dt 79 2 := (hF67 79 (by decide) 2).trans w36
    have w92 : dt65 79 12 = dt 79 12 := (hF67 79 (by decide) 12).trans w37
    have w93 : dt65 79 19 = dt 79 19 := (hF67 79 (by decide) 19).trans w38
    have w94 : dt65 79 21 = dt 79 21 := (hF67 79 (by decide) 21).trans w39
    rcases h64 with ⟨rfl, h64⟩ | ⟨v_h64, rfl, h64r, h64⟩
    · skip
      have hM95 : MW (dt65 80) := h64.2.1
      obtain ⟨h64_0, h64_1, h64_2, h64_3, h64_4, h64_5, h64_6, h64_7, h64_8⟩ := h64
      replace h64_0 := hid h64_0
      have w96 : dt65 80 0 = dt 80 0 := h64_2.trans w24
      have w97 : dt65 80 1 = dt 80 1 := h64_3.trans w25
      have w98 : dt65 80 2 = dt 80 2 := h64_4.trans w26
      have w99 : dt65 80 3 = dt 80 3 := h64_5.trans w27
      have w100 : dt65 80 4 = dt 80 4 := h64_6.trans w28
      have w101 : dt65 80 5 = dt 80 5 := h64_7.trans w29
      have M2102 : MW (dt65 81) := MW_frk M241 hF67 (by decide)
      have C103 : ∀ j : Nat, dt65 2 j = dt 2 j := fun j => (hF67 2 (by decide) j).trans (C42 j)
      have C104 : ∀ j : Nat, dt65 3 j = dt 3 j := fun j => (hF67 3 (by decide) j).trans (C43 j)
      have C105 : ∀ j : Nat, dt65 4 j = dt 4 j := fun j => (hF67 4 (by decide) j).trans (C44 j)
      have C106 : ∀ j : Nat, dt65 5 j = dt 5 j := fun j => (hF67 5 (by decide) j).trans (C45 j)
      have C107 : ∀ j : Nat, dt65 6 j = dt 6 j := fun j => (hF67 6 (by decide) j).trans (C46 j)
      have C108 : ∀ j : Nat, dt65 8 j = dt 8 j := fun j => (hF67 8 (by decide) j).trans (C47 j)
      have C109 : ∀ j : Nat, dt65 9 j = dt 9 j := fun j => (hF67 9 (by decide) j).trans (C48 j)
      have C110 : ∀ j : Nat, dt65 11 j = dt 11 j := fun j => (hF67 11 (by decide) j).trans (C49 j)
      have C111 : ∀ j : Nat, dt65 19 j = dt 19 j := fun j => (hF67 19 (by decide) j).trans (C50 j)
      have C112 : ∀ j : Nat, dt65 20 j = dt 20 j := fun j => (hF67 20 (by decide) j).trans (C51 j)
      have C113 : ∀ j : Nat, dt65 21 j = dt 21 j := fun j => (hF67 21 (by decide) j).trans (C52 j)
      have C114 : ∀ j : Nat, dt65 22 j = dt 22 j := fun j => (hF67 22 (by decide) j).trans (C53 j)
      have C115 : ∀ j : Nat, dt65 23 j = dt 23 j := fun j => (hF67 23 (by decide) j).trans (C54 j)
      have C116 : ∀ j : Nat, dt65 25 j = dt 25 j := fun j => (hF67 25 (by decide) j).trans (C55 j)
      have C117 : ∀ j : Nat, dt65 26 j = dt 26 j := fun j => (hF67 26 (by decide) j).trans (C56 j)
      have C118 : ∀ j : Nat, dt65 28 j = dt 28 j := fun j => (hF67 28 (by decide) j).trans (C57 j)
      have C119 : ∀ j : Nat, dt65 36 j = dt 36 j := fun j => (hF67 36 (by decide) j).trans (C58 j)
      have C120 : ∀ j : Nat, dt65 80 j = dt 80 j := fun j => (h64_8 j).trans (C59 j)
      have C121 : ∀ j : Nat, dt65 81 j = dt 81 j := fun j => (hF67 81 (by decide) j).trans (C60 j)
      have C122 : ∀ j : Nat, dt65 85 j = dt 85 j := fun j => (hF67 85 (by decide) j).trans (C61 j)
      refine go_toq PM267 (k := 2) (pc' := 1435) (L' := [some (.inr (.inr (some 3000))), some (.inr (.inr (some 0))), some (.inr (.inr (some 79))), some (.inl i)]) (st' := []) (w' := (SH, dt65)) rfl ?_
      exact K dt65 hI66 hM95 M2102 (w69.trans (hk0.trans w96.symm)) (w70.trans (hk1.trans w97.symm)) (w71.trans (hk2.trans w98.symm)) (w72.trans (hk3.trans w99.symm)) (w73.trans (hk4.trans w100.symm)) (w74.trans (hk5.trans w101.symm)) (w75.trans (hk6.trans w85.symm)) (w76.trans (hk7.trans w86.symm)) (w77.trans (hk8.trans w87.symm)) (w78.trans (hk9.trans w88.symm)) (w79.trans (hk10.trans w89.symm)) (w80.trans (hk11.trans w90.symm)) (w81.trans (hk12.trans w91.symm)) (w82.trans (hk13.trans w92.symm)) (w83.trans (hk14.trans w93.symm)) (w84.trans (hk15.trans w94.symm)) (by first | exact hI | exact TPL_k hd0 C119 C122 (by (first | omega | (have z0_ := unhid h3_0; have z1_ := unhid h64_0; omega))) | (exfalso; (first | omega | (have z0_ := unhid h3_0; have z1_ := unhid h64_0; omega)))) (by first | exact hI | exact SCL_k hd1 hM (fun j _ => C103 j) (fun j _ => C104 j) (fun j _ _ => C120 j) | (exfalso; (first | omega | (have z0_ := unhid h3_0; have z1_ := unhid h64_0; omega)))) (by first | exact hI | exact SCL_k hd2 hM2 (fun j _ => C111 j) (fun j _ => C112 j) (fun j _ _ => C121 j) | (exfalso; (first | omega | (have z0_ := unhid h3_0; have z1_ := unhid h64_0; omega)))) (by first | exact hI | exact QRL_k hd3 hM (fun j _ => C108 j) (C120 1) (fun j _ _ => C120 j) | (exfalso; (first | omega | (have z0_ := unhid h3_0; have z1_ := unhid h64_0; omega)))) (by first | exact hI | exact QRL_k hd4 hM2 (fun j _ => C116 j) (C121 1) (fun j _ _ => C121 j) | (exfalso; (first | omega | (have z0_ := unhid h3_0; have z1_ := unhid h64_0; omega)))) (by first | exact hI | exact SDL_k hd5 hM (fun j _ => C109 j) (C120 1) (fun j _ _ => C120 j) (fun j _ _ => C120 j) | (exfalso; (first | omega | (have z0_ := unhid h3_0; have z1_ := unhid h64_0; omega)))) (by first | exact hI | exact SDL_k hd6 hM2 (fun j _ => C117 j) (C121 1) (fun j _ _ => C121 j) (fun j _ _ => C121 j) | (exfalso; (first | omega | (have z0_ := unhid h3_0; have z1_ := unhid h64_0; omega)))) (by first | exact hI | exact LWL_k hd7 hM (fun j _ => C105 j) (fun j _ => C106 j) (fun j _ => C107 j) (fun j _ _ => C120 j) | (exfalso; (first | omega | (have z0_ := unhid h3_0; have z1_ := unhid h64_0; omega)))) (by first | exact hI | exact LWL_k hd8 hM2 (fun j _ => C113 j) (fun j _ => C114 j) (fun j _ => C115 j) (fun j _ _ => C121 j) | (exfalso; (first | omega | (have z0_ := unhid h3_0; have z1_ := unhid h64_0; omega)))) (by first | exact hI | exact CHL_k hd9 hM (fun j _ => C110 j) (by (first | omega | (have z0_ := unhid h3_0; have z1_ := unhid h64_0; omega))) (fun j _ _ => C120 j) | (exfalso; (first | omega | (have z0_ := unhid h3_0; have z1_ := unhid h64_0; omega)))) (by first | exact hI | exact CHL_k hd10 hM2 (fun j _ => C118 j) (by (first | omega | (have z0_ := unhid h3_0; have z1_ := unhid h64_0; omega))) (fun j _ _ => C121 j) | (exfalso; (first | omega | (have z0_ := unhid h3_0; have z1_ := unhid h64_0; omega))))
    · skip
      have hM123 : MW (dt65 80) := h64.2.2.1
      obtain ⟨h64_0, h64_1, h64_2, h64_3, h64_4, h64_5, h64_6, h64_7, h64_8, h64_9, h64_10, h64_11⟩ := h64
      have w124 : dt65 80 0 = dt 80 0 := h64_4.trans w24
      have w125 : dt65 80 1 = dt 80 1 := h64_5.trans w25
      have w126 : dt65 80 2 = dt 80 2 := h64_6.trans w26
      have w127 : dt65 80 3 = dt 80 3 := h64_7.trans w27
      have w128 : dt65 80 4 = dt 80 4 := h64_8.trans w28
      have M2129 : MW (dt65 81) := MW_frk M241 hF67 (by decide)
      have C130 : ∀ j : Nat, dt65 2 j = dt 2 j := fun j => (hF67 2 (by decide) j).trans (C42 j)
      have C131 : ∀ j : Nat, dt65 3 j = dt 3 j := fun j => (hF67 3 (by decide) j).trans (C43 j)
      have C132 : ∀ j : Nat, dt65 4 j = dt 4 j := fun j => (hF67 4 (by decide) j).trans (C44 j)
      have C133 : ∀ j : Nat, dt65 5 j = dt 5 j := fun j => (hF67 5 (by decide) j).trans (C45 j)
      have C134 : ∀ j : Nat, dt65 6 j = dt 6 j := fun j => (hF67 6 (by decide) j).trans (C46 j)
      have C135 : ∀ j : Nat, dt65 8 j = dt 8 j := fun j => (hF67 8 (by decide) j).trans (C47 j)
      have C136 : ∀ j : Nat, dt65 9 j = dt 9 j := fun j => (hF67 9 (by decide) j).trans (C48 j)
      have C137 : ∀ j : Nat, dt65 11 j = dt 11 j := fun j => (hF67 11 (by decide) j).trans (C49 j)
      have C138 : ∀ j : Nat, dt65 19 j = dt 19 j := fun j => (hF67 19 (by decide) j).trans (C50 j)
      have C139 : ∀ j : Nat, dt65 20 j = dt 20 j := fun j => (hF67 20 (by decide) j).trans (C51 j)
      have C140 : ∀ j : Nat, dt65 21 j = dt 21 j := fun j => (hF67 21 (by decide) j).trans (C52 j)
      have C141 : ∀ j : Nat, dt65 22 j = dt 22 j := fun j => (hF67 22 (by decide) j).trans (C53 j)
      have C142 : ∀ j : Nat, dt65 23 j = dt 23 j := fun j => (hF67 23 (by decide) j).trans (C54 j)
      have C143 : ∀ j : Nat, dt65 25 j = dt 25 j := fun j => (hF67 25 (by decide) j).trans (C55 j)
      have C144 : ∀ j : Nat, dt65 26 j = dt 26 j := fun j => (hF67 26 (by decide) j).trans (C56 j)
      have C145 : ∀ j : Nat, dt65 28 j = dt 28 j := fun j => (hF67 28 (by decide) j).trans (C57 j)
      have C146 : ∀ j : Nat, dt65 36 j = dt 36 j := fun j => (hF67 36 (by decide) j).trans (C58 j)
      have C147 : ∀ j : Nat, dt65 81 j = dt 81 j := fun j => (hF67 81 (by decide) j).trans (C60 j)
      have C148 : ∀ j : Nat, dt65 85 j = dt 85 j := fun j => (hF67 85 (by decide) j).trans (C61 j)
      have F149 : ∀ j : Nat, 6 ≤ j → j < 974 → dt65 80 j = dt 80 j := fun j h1_ h2_ => (h64_9 j (by (first | omega | (have z0_ := unhid h3_0; omega))) (by (first | omega | (have z0_ := unhid h3_0; omega)))).trans (C59 j)
      have F150 : ∀ j : Nat, 974 ≤ j → j < 5320 → dt65 80 j = dt 80 j := fun j h1_ h2_ => (h64_9 j (by (first | omega | (have z0_ := unhid h3_0; omega))) (by (first | omega | (have z0_ := unhid h3_0; omega)))).trans (C59 j)
      have F151 : ∀ j : Nat, 5320 ≤ j → j < 5380 → dt65 80 j = dt 80 j := fun j h1_ h2_ => (h64_9 j (by (first | omega | (have z0_ := unhid h3_0; omega))) (by (first | omega | (have z0_ := unhid h3_0; omega)))).trans (C59 j)
      have F152 : dt65 80 1 = dt 80 1 := (h64_9 1 (by (first | omega | (have z0_ := unhid h3_0; omega))) (by (first | omega | (have z0_ := unhid h3_0; omega)))).trans (C59 1)
      have F153 : ∀ j : Nat, 5380 ≤ j → j < 5540 → dt65 80 j = dt 80 j := fun j h1_ h2_ => (h64_9 j (by (first | omega | (have z0_ := unhid h3_0; omega))) (by (first | omega | (have z0_ := unhid h3_0; omega)))).trans (C59 j)
      refine go_toq PM267 (k := 2) (pc' := 1435) (L' := [some (.inr (.inr (some 3000))), some (.inr (.inr (some 0))), some (.inr (.inr (some 79))), some (.inl i)]) (st' := []) (w' := (SH, dt65)) rfl ?_
      exact K dt65 hI66 hM123 M2129 (w69.trans (hk0.trans w124.symm)) (w70.trans (hk1.trans w125.symm)) (w71.trans (hk2.trans w126.symm)) (w72.trans (hk3.trans w127.symm)) (w73.trans (hk4.trans w128.symm)) (by (first | omega | (have z0_ := unhid h3_0; omega))) (w75.trans (hk6.trans w85.symm)) (w76.trans (hk7.trans w86.symm)) (w77.trans (hk8.trans w87.symm)) (w78.trans (hk9.trans w88.symm)) (w79.trans (hk10.trans w89.symm)) (w80.trans (hk11.trans w90.symm)) (w81.trans (hk12.trans w91.symm)) (w82.trans (hk13.trans w92.symm)) (w83.trans (hk14.trans w93.symm)) (w84.trans (hk15.trans w94.symm)) (by first | exact hI | exact TPL_k hd0 C146 C148 (by (first | omega | (have z0_ := unhid h3_0; omega))) | (exfalso; (first | omega | (have z0_ := unhid h3_0; omega)))) (by first | exact hI | exact SCL_k hd1 hM (fun j _ => C130 j) (fun j _ => C131 j) F149 | (exfalso; (first | omega | (have z0_ := unhid h3_0; omega)))) (by first | exact hI | exact SCL_k hd2 hM2 (fun j _ => C138 j) (fun j _ => C139 j) (fun j _ _ => C147 j) | (exfalso; (first | omega | (have z0_ := unhid h3_0; omega)))) (by first | exact hI | exact QRL_k hd3 hM (fun j _ => C135 j) F152 F151 | (exfalso; (first | omega | (have z0_ := unhid h3_0; omega)))) (by first | exact hI | exact QRL_k hd4 hM2 (fun j _ => C143 j) (C147 1) (fun j _ _ => C147 j) | (exfalso; (first | omega | (have z0_ := unhid h3_0; omega)))) (by first | exact hI | exact SDL_k hd5 hM (fun j _ => C136 j) F152 F149 F151 | (exfalso; (first | omega | (have z0_ := unhid h3_0; omega)))) (by first | exact hI | exact SDL_k hd6 hM2 (fun j _ => C144 j) (C147 1) (fun j _ _ => C147 j) (fun j _ _ => C147 j) | (exfalso; (first | omega | (have z0_ := unhid h3_0; omega)))) (by first | exact hI | exact LWL_k hd7 hM (fun j _ => C132 j) (fun j _ => C133 j) (fun j _ => C134 j) F150 | (exfalso; (first | omega | (have z0_ := unhid h3_0; omega)))) (by first | exact hI | exact LWL_k hd8 hM2 (fun j _ => C140 j) (fun j _ => C141 j) (fun j _ => C142 j) (fun j _ _ => C147 j) | (exfalso; (first | omega | (have z0_ := unhid h3_0; omega)))) (by first | exact hI | exact CHL_k hd9 hM (fun j _ => C137 j) (by (first | omega | (have z0_ := unhid h3_0; omega))) F153 | (exfalso; (first | omega | (have z0_ := unhid h3_0; omega)))) (by first | exact hI | exact CHL_k hd10 hM2 (fun j _ => C145 j) (by (first | omega | (have z0_ := unhid h3_0; omega))) (fun j _ _ => C147 j) | (exfalso; (first | omega | (have z0_ := unhid h3_0; omega))))
  · skip
    obtain ⟨h3_0, h3_1, h3_2⟩ := h3
    have M2154 : MW (dt4 81) := MW_frk hM2 hF6 (by decide)
    have C155 : ∀ j : Nat, dt4 2 j = dt 2 j := fun j => (hF6 2 (by decide) j).trans ((fun _ => rfl) j)
    have C156 : ∀ j : Nat, dt4 3 j = dt 3 j := fun j => (hF6 3 (by decide) j).trans ((fun _ => rfl) j)
    have C157 : ∀ j : Nat, dt4 4 j = dt 4 j := fun j => (hF6 4 (by decide) j).trans ((fun _ => rfl) j)
    have C158 : ∀ j : Nat, dt4 5 j = dt 5 j := fun j => (hF6 5 (by decide) j).trans ((fun _ => rfl) j)
    have C159 : ∀ j : Nat, dt4 6 j = dt 6 j := fun j => (hF6 6 (by decide) j).trans ((fun _ => rfl) j)
    have C160 : ∀ j : Nat, dt4 8 j = dt 8 j := fun j => (hF6 8 (by decide) j).trans ((fun _ => rfl) j)
    have C161 : ∀ j : Nat, dt4 9 j = dt 9 j := fun j => (hF6 9 (by decide) j).trans ((fun _ => rfl) j)
    have C162 : ∀ j : Nat, dt4 11 j = dt 11 j := fun j => (hF6 11 (by decide) j).trans ((fun _ => rfl) j)
    have C163 : ∀ j : Nat, dt4 19 j = dt 19 j := fun j => (hF6 19 (by decide) j).trans ((fun _ => rfl) j)
    have C164 : ∀ j : Nat, dt4 20 j = dt 20 j := fun j => (hF6 20 (by decide) j).trans ((fun _ => rfl) j)
    have C165 : ∀ j : Nat, dt4 21 j = dt 21 j := fun j => (hF6 21 (by decide) j).trans ((fun _ => rfl) j)
    have C166 : ∀ j : Nat, dt4 22 j = dt 22 j := fun j => (hF6 22 (by decide) j).trans ((fun _ => rfl) j)
    have C167 : ∀ j : Nat, dt4 23 j = dt 23 j := fun j => (hF6 23 (by decide) j).trans ((fun _ => rfl) j)
    have C168 : ∀ j : Nat, dt4 25 j = dt 25 j := fun j => (hF6 25 (by decide) j).trans ((fun _ => rfl) j)
    have C169 : ∀ j : Nat, dt4 26 j = dt 26 j := fun j => (hF6 26 (by decide) j).trans ((fun _ => rfl) j)
    have C170 : ∀ j : Nat, dt4 28 j = dt 28 j := fun j => (hF6 28 (by decide) j).trans ((fun _ => rfl) j)
    have C171 : ∀ j : Nat, dt4 36 j = dt 36 j := fun j => (hF6 36 (by decide) j).trans ((fun _ => rfl) j)
    have C172 : ∀ j : Nat, dt4 80 j = dt 80 j := fun j => (hF6 80 (by decide) j).trans ((fun _ => rfl) j)
    have C173 : ∀ j : Nat, dt4 81 j = dt 81 j := fun j => (hF6 81 (by decide) j).trans ((fun _ => rfl) j)
    have C174 : ∀ j : Nat, dt4 85 j = dt 85 j := fun j => (hF6 85 (by decide) j).trans ((fun _ => rfl) j)
    refine go_toq PM267 (k := 6) (pc' := 1185) (L' := [some (.inr (.inr (some 3000))), some (.inr (.inr (some 0))), some (.inr (.inr (some 79))), some (.inl i)]) (st' := [.inl (i + 1), .inr (.inr (some 3000)), .inr (.inr (some 79))]) (w' := (SH, dt4)) rfl ?_
    have r175 := i32_R (xs ((i + 1).toNat))
    refine go_smpq PM267 (L' := [some (.inr (.inr (some 3000))), some (.inr (.inr (some 0))), some (.inr (.inr (some 79))), some (.inl i)]) (st' := [.inl ((xs ((i + 1).toNat)).toInt), .inr (.inr (some 79))]) (w' := (SH, dt4)) rfl rfl (s_iald (n := L) (f := fun j => (xs j).toInt) (am_scr hLL) ⟨by omega, by omega⟩) ?_
    refine go_toq PM267 (k := 4) (pc' := 1190) (L' := [some (.inr (.inr (some 3000))), some (.inr (.inr (some 0))), some (.inr (.inr (some 79))), some (.inl i)]) (st' := [.inl (i + 2), .inr (.inr (some 3000)), .inl ((xs ((i + 1).toNat)).toInt), .inr (.inr (some 79))]) (w' := (SH, dt4)) rfl ?_
    have r176 := i32_R (xs ((i + 2).toNat))
    refine go_smpq PM267 (L' := [some (.inr (.inr (some 3000))), some (.inr (.inr (some 0))), some (.inr (.inr (some 79))), some (.inl i)]) (st' := [.inl ((xs ((i + 2).toNat)).toInt), .inl ((xs ((i + 1).toNat)).toInt), .inr (.inr (some 79))]) (w' := (SH, dt4)) rfl rfl (s_iald (n := L) (f := fun j => (xs j).toInt) (am_scr hLL) ⟨by omega, by omega⟩) ?_
    refine go_callq PM267 PM237 (Q' := _) rfl rfl rfl rfl (sp_X6_house_v L xs sio (d + 37) dt4 hI5 hM8  ((xs ((i + 1).toNat)).toInt) ⟨by omega, by omega⟩ ((xs ((i + 2).toNat)).toInt) ⟨by omega, by omega⟩ ) ?_
    rintro _ _ ⟨dt178, rfl, hI179, hF180, h177⟩
    refine ⟨rfl, ?_⟩
    have hF181 : Fr [0, 1, 2, 3, 4, 5, 6, 7, 8, 9, 10, 11, 12, 13, 14, 15, 16, 17, 18, 19, 20, 21, 22, 23, 24, 25, 26, 27, 28, 29, 30, 31, 32, 33, 34, 35, 36, 37, 38, 39, 40, 41, 42, 43, 44, 45, 46, 47, 48, 49, 50, 51, 52, 53, 54, 55, 56, 57, 58, 59, 60, 61, 62, 63, 64, 65, 66, 67, 68, 69, 70, 71, 72, 73, 74, 75, 76, 77, 78, 79, 80, 81, 82, 83, 84, 85, 86, 87, 88, 89, 90, 91, 92, 93, 94, 95, 96, 97, 98, 99, 100, 101, 102, 103, 104] dt dt178 := Fr_tr hF7 hF180 (by decide)
    have w182 : dt178 1 0 = dt 1 0 := (hF180 1 (by decide) 0).trans w9
    have w183 : dt178 7 3 = dt 7 3 := (hF180 7 (by decide) 3).trans w10
    have w184 : dt178 10 3 = dt 10 3 := (hF180 10 (by decide) 3).trans w11
    have w185 : dt178 12 3 = dt 12 3 := (hF180 12 (by decide) 3).trans w12
    have w186 : dt178 14 3 = dt 14 3 := (hF180 14 (by decide) 3).trans w13
    have w187 : dt178 16 3 = dt4 16 3 := hF180 16 (by decide) 3
    have w188 : dt178 18 0 = dt 18 0 := (hF180 18 (by decide) 0).trans w14
    have w189 : dt178 24 3 = dt 24 3 := (hF180 24 (by decide) 3).trans w15
    have w190 : dt178 27 3 = dt 27 3 := (hF180 27 (by decide) 3).trans w16
    have w191 : dt178 29 3 = dt 29 3 := (hF180 29 (by decide) 3).trans w17
    have w192 : dt178 31 3 = dt 31 3 := (hF180 31 (by decide) 3).trans w18
    have w193 : dt178 33 3 = dt 33 3 := (hF180 33 (by decide) 3).trans w19
    have w194 : dt178 0 2 = dt 0 2 := (hF180 0 (by decide) 2).trans w20
    have w195 : dt178 35 1 = dt 35 1 := (hF180 35 (by decide) 1).trans w21
    have w196 : dt178 35 2 = dt 35 2 := (hF180 35 (by decide) 2).trans w22
    have w197 : dt178 35 3 = dt 35 3 := (hF180 35 (by decide) 3).trans w23
    have w198 : dt178 81 0 = dt 81 0 := (hF180 81 (by decide) 0).trans w30
    have w199 : dt178 81 1 = dt 81 1 := (hF180 81 (by decide) 1).trans w31
    have w200 : dt178 81 2 = dt 81 2 := (hF180 81 (by decide) 2).trans w32
    have w201 : dt178 81 3 = dt 81 3 := (hF180 81 (by decide) 3).trans w33
    have w202 : dt178 81 4 = dt 81 4 := (hF180 81 (by decide) 4).trans w34
    have w203 : dt178 81 5 = dt 81 5 := (hF180 81 (by decide) 5).trans w35
    have w204 : dt178 79 2 = dt 79 2 := (hF180 79 (by decide) 2).trans w36
    have w205 : dt178 79 12 = dt 79 12 := (hF180 79 (by decide) 12).trans w37
    have w206 : dt178 79 19 = dt 79 19 := (hF180 79 (by decide) 19).trans w38
    have w207 : dt178 79 21 = dt 79 21 := (hF180 79 (by decide) 21).trans w39
    rcases h177 with ⟨rfl, h177⟩ | ⟨v_h177, rfl, h177r, h177⟩
    · skip
      have hM208 : MW (dt178 80) := h177.2.1
      obtain ⟨h177_0, h177_1, h177_2, h177_3, h177_4, h177_5, h177_6, h177_7, h177_8⟩ := h177
      replace h177_0 := hid h177_0
      have w209 : dt178 80 0 = dt 80 0 := h177_2.trans w24
      have w210 : dt178 80 1 = dt 80 1 := h177_3.trans w25
      have w211 : dt178 80 2 = dt 80 2 := h177_4.trans w26
      have w212 : dt178 80 3 = dt 80 3 := h177_5.trans w27
      have w213 : dt178 80 4 = dt 80 4 := h177_6.trans w28
      have w214 : dt178 80 5 = dt 80 5 := h177_7.trans w29
      have M2215 : MW (dt178 81) := MW_frk M2154 hF180 (by decide)
      have C216 : ∀ j : Nat, dt178 2 j = dt 2 j := fun j => (hF180 2 (by decide) j).trans (C155 j)
      have C217 : ∀ j : Nat, dt178 3 j = dt 3 j := fun j => (hF180 3 (by decide) j).trans (C156 j)
      have C218 : ∀ j : Nat, dt178 4 j = dt 4 j := fun j => (hF180 4 (by decide) j).trans (C157 j)
      have C219 : ∀ j : Nat, dt178 5 j = dt 5 j := fun j => (hF180 5 (by decide) j).trans (C158 j)
      have C220 : ∀ j : Nat, dt178 6 j = dt 6 j := fun j => (hF180 6 (by decide) j).trans (C159 j)
      have C221 : ∀ j : Nat, dt178 8 j = dt 8 j := fun j => (hF180 8 (by decide) j).trans (C160 j)
      have C222 : ∀ j : Nat, dt178 9 j = dt 9 j := fun j => (hF180 9 (by decide) j).trans (C161 j)
      have C223 : ∀ j : Nat, dt178 11 j = dt 11 j := fun j => (hF180 11 (by decide) j).trans (C162 j)
      have C224 : ∀ j : Nat, dt178 19 j = dt 19 j := fun j => (hF180 19 (by decide) j).trans (C163 j)
      have C225 : ∀ j : Nat, dt178 20 j = dt 20 j := fun j => (hF180 20 (by decide) j).trans (C164 j)
      have C226 : ∀ j : Nat, dt178 21 j = dt 21 j := fun j => (hF180 21 (by decide) j).trans (C165 j)
      have C227 : ∀ j : Nat, dt178 22 j = dt 22 j := fun j => (hF180 22 (by decide) j).trans (C166 j)
      have C228 : ∀ j : Nat, dt178 23 j = dt 23 j := fun j => (hF180 23 (by decide) j).trans (C167 j)
      have C229 : ∀ j : Nat, dt178 25 j = dt 25 j := fun j => (hF180 25 (by decide) j).trans (C168 j)
      have C230 : ∀ j : Nat, dt178 26 j = dt 26 j := fun j => (hF180 26 (by decide) j).trans (C169 j)
      have C231 : ∀ j : Nat, dt178 28 j = dt 28 j := fun j => (hF180 28 (by decide) j).trans (C170 j)
      have C232 : ∀ j : Nat, dt178 36 j = dt 36 j := fun j => (hF180 36 (by decide) j).trans (C171 j)
      have C233 : ∀ j : Nat, dt178 80 j = dt 80 j := fun j => (h177_8 j).trans (C172 j)
      have C234 : ∀ j : Nat, dt178 81 j = dt 81 j := fun j => (hF180 81 (by decide) j).trans (C173 j)
      have C235 : ∀ j : Nat, dt178 85 j = dt 85 j := fun j => (hF180 85 (by decide) j).trans (C174 j)
      refine go_toq PM267 (k := 2) (pc' := 1435) (L' := [some (.inr (.inr (some 3000))), some (.inr (.inr (some 0))), some (.inr (.inr (some 79))), some (.inl i)]) (st' := []) (w' := (SH, dt178)) rfl ?_
      exact K dt178 hI179 hM208 M2215 (w182.trans (hk0.trans w209.symm)) (w183.trans (hk1.trans w210.symm)) (w184.trans (hk2.trans w211.symm)) (w185.trans (hk3.trans w212.symm)) (w186.trans (hk4.trans w213.symm)) (by (first | omega | (have z0_ := unhid h177_0; omega))) (w188.trans (hk6.trans w198.symm)) (w189.trans (hk7.trans w199.symm)) (w190.trans (hk8.trans w200.symm)) (w191.trans (hk9.trans w201.symm)) (w192.trans (hk10.trans w202.symm)) (w193.trans (hk11.trans w203.symm)) (w194.trans (hk12.trans w204.symm)) (w195.trans (hk13.trans w205.symm)) (w196.trans (hk14.trans w206.symm)) (w197.trans (hk15.trans w207.symm)) (by first | exact hI | exact TPL_k hd0 C232 C235 (by (first | omega | (have z0_ := unhid h177_0; omega))) | (exfalso; (first | omega | (have z0_ := unhid h177_0; omega)))) (by first | exact hI | exact SCL_k hd1 hM (fun j _ => C216 j) (fun j _ => C217 j) (fun j _ _ => C233 j) | (exfalso; (first | omega | (have z0_ := unhid h177_0; omega)))) (by first | exact hI | exact SCL_k hd2 hM2 (fun j _ => C224 j) (fun j _ => C225 j) (fun j _ _ => C234 j) | (exfalso; (first | omega | (have z0_ := unhid h177_0; omega)))) (by first | exact hI | exact QRL_k hd3 hM (fun j _ => C221 j) (C233 1) (fun j _ _ => C233 j) | (exfalso; (first | omega | (have z0_ := unhid h177_0; omega)))) (by first | exact hI | exact QRL_k hd4 hM2 (fun j _ => C229 j) (C234 1) (fun j _ _ => C234 j) | (exfalso; (first | omega | (have z0_ := unhid h177_0; omega)))) (by first | exact hI | exact SDL_k hd5 hM (fun j _ => C222 j) (C233 1) (fun j _ _ => C233 j) (fun j _ _ => C233 j) | (exfalso; (first | omega | (have z0_ := unhid h177_0; omega)))) (by first | exact hI | exact SDL_k hd6 hM2 (fun j _ => C230 j) (C234 1) (fun j _ _ => C234 j) (fun j _ _ => C234 j) | (exfalso; (first | omega | (have z0_ := unhid h177_0; omega)))) (by first | exact hI | exact LWL_k hd7 hM (fun j _ => C218 j) (fun j _ => C219 j) (fun j _ => C220 j) (fun j _ _ => C233 j) | (exfalso; (first | omega | (have z0_ := unhid h177_0; omega)))) (by first | exact hI | exact LWL_k hd8 hM2 (fun j _ => C226 j) (fun j _ => C227 j) (fun j _ => C228 j) (fun j _ _ => C234 j) | (exfalso; (first | omega | (have z0_ := unhid h177_0; omega)))) (by first | exact hI | exact CHL_k hd9 hM (fun j _ => C223 j) (by (first | omega | (have z0_ := unhid h177_0; omega))) (fun j _ _ => C233 j) | (exfalso; (first | omega | (have z0_ := unhid h177_0; omega)))) (by first | exact hI | exact CHL_k hd10 hM2 (fun j _ => C231 j) (by (first | omega | (have z0_ := unhid h177_0; omega))) (fun j _ _ => C234 j) | (exfalso; (first | omega | (have z0_ := unhid h177_0; omega))))
    · skip
      have hM236 : MW (dt178 80) := h177.2.2.1
      obtain ⟨h177_0, h177_1, h177_2, h177_3, h177_4, h177_5, h177_6, h177_7, h177_8, h177_9, h177_10, h177_11⟩ := h177
      have w237 : dt178 80 0 = dt 80 0 := h177_4.trans w24
      have w238 : dt178 80 1 = dt 80 1 := h177_5.trans w25
      have w239 : dt178 80 2 = dt 80 2 := h177_6.trans w26
      have w240 : dt178 80 3 = dt 80 3 := h177_7.trans w27
      have w241 : dt178 80 4 = dt 80 4 := h177_8.trans w28
      have M2242 : MW (dt178 81) := MW_frk M2154 hF180 (by decide)
      have C243 : ∀ j : Nat, dt178 2 j = dt 2 j := fun j => (hF180 2 (by decide) j).trans (C155 j)
      have C244 : ∀ j : Nat, dt178 3 j = dt 3 j := fun j => (hF180 3 (by decide) j).trans (C156 j)
      have C245 : ∀ j : Nat, dt178 4 j = dt 4 j := fun j => (hF180 4 (by decide) j).trans (C157 j)
      have C246 : ∀ j : Nat, dt178 5 j = dt 5 j := fun j => (hF180 5 (by decide) j).trans (C158 j)
      have C247 : ∀ j : Nat, dt178 6 j = dt 6 j := fun j => (hF180 6 (by decide) j).trans (C159 j)
      have C248 : ∀ j : Nat, dt178 8 j = dt 8 j := fun j => (hF180 8 (by decide) j).trans (C160 j)
      have C249 : ∀ j : Nat, dt178 9 j = dt 9 j := fun j => (hF180 9 (by decide) j).trans (C161 j)
      have C250 : ∀ j : Nat, dt178 11 j = dt 11 j := fun j => (hF180 11 (by decide) j).trans (C162 j)
      have C251 : ∀ j : Nat, dt178 19 j = dt 19 j := fun j => (hF180 19 (by decide) j).trans (C163 j)
      have C252 : ∀ j : Nat, dt178 20 j = dt 20 j := fun j => (hF180 20 (by decide) j).trans (C164 j)
      have C253 : ∀ j : Nat, dt178 21 j = dt 21 j := fun j => (hF180 21 (by decide) j).trans (C165 j)
      have C254 : ∀ j : Nat, dt178 22 j = dt 22 j := fun j => (hF180 22 (by decide) j).trans (C166 j)
      have C255 : ∀ j : Nat, dt178 23 j = dt 23 j := fun j => (hF180 23 (by decide) j).trans (C167 j)
      have C256 : ∀ j : Nat, dt178 25 j = dt 25 j := fun j => (hF180 25 (by decide) j).trans (C168 j)
      have C257 : ∀ j : Nat, dt178 26 j = dt 26 j := fun j => (hF180 26 (by decide) j).trans (C169 j)
      have C258 : ∀ j : Nat, dt178 28 j = dt 28 j := fun j => (hF180 28 (by decide) j).trans (C170 j)
      have C259 : ∀ j : Nat, dt178 36 j = dt 36 j := fun j => (hF180 36 (by decide) j).trans (C171 j)
      have C260 : ∀ j : Nat, dt178 81 j = dt 81 j := fun j => (hF180 81 (by decide) j).trans (C173 j)
      have C261 : ∀ j : Nat, dt178 85 j = dt 85 j := fun j => (hF180 85 (by decide) j).trans (C174 j)
      have F262 : ∀ j : Nat, 6 ≤ j → j < 974 → dt178 80 j = dt 80 j := fun j h1_ h2_ => (h177_9 j (by omega) (by omega)).trans (C172 j)
      have F263 : ∀ j : Nat, 974 ≤ j → j < 5320 → dt178 80 j = dt 80 j := fun j h1_ h2_ => (h177_9 j (by omega) (by omega)).trans (C172 j)
      have F264 : ∀ j : Nat, 5320 ≤ j → j < 5380 → dt178 80 j = dt 80 j := fun j h1_ h2_ => (h177_9 j (by omega) (by omega)).trans (C172 j)
      have F265 : dt178 80 1 = dt 80 1 := (h177_9 1 (by omega) (by omega)).trans (C172 1)
      have F266 : ∀ j : Nat, 5380 ≤ j → j < 5540 → dt178 80 j = dt 80 j := fun j h1_ h2_ => (h177_9 j (by omega) (by omega)).trans (C172 j)
      refine go_toq PM267 (k := 2) (pc' := 1435) (L' := [some (.inr (.inr (some 3000))), some (.inr (.inr (some 0))), some (.inr (.inr (some 79))), some (.inl i)]) (st' := []) (w' := (SH, dt178)) rfl ?_
      exact K dt178 hI179 hM236 M2242 (w182.trans (hk0.trans w237.symm)) (w183.trans (hk1.trans w238.symm)) (w184.trans (hk2.trans w239.symm)) (w185.trans (hk3.trans w240.symm)) (w186.trans (hk4.trans w241.symm)) (by omega) (w188.trans (hk6.trans w198.symm)) (w189.trans (hk7.trans w199.symm)) (w190.trans (hk8.trans w200.symm)) (w191.trans (hk9.trans w201.symm)) (w192.trans (hk10.trans w202.symm)) (w193.trans (hk11.trans w203.symm)) (w194.trans (hk12.trans w204.symm)) (w195.trans (hk13.trans w205.symm)) (w196.trans (hk14.trans w206.symm)) (w197.trans (hk15.trans w207.symm)) (by first | exact hI | exact TPL_k hd0 C259 C261 (by omega) | (exfalso; omega)) (by first | exact hI | exact SCL_k hd1 hM (fun j _ => C243 j) (fun j _ => C244 j) F262 | (exfalso; omega)) (by first | exact hI | exact SCL_k hd2 hM2 (fun j _ => C251 j) (fun j _ => C252 j) (fun j _ _ => C260 j) | (exfalso; omega)) (by first | exact hI | exact QRL_k hd3 hM (fun j _ => C248 j) F265 F264 | (exfalso; omega)) (by first | exact hI | exact QRL_k hd4 hM2 (fun j _ => C256 j) (C260 1) (fun j _ _ => C260 j) | (exfalso; omega)) (by first | exact hI | exact SDL_k hd5 hM (fun j _ => C249 j) F265 F262 F264 | (exfalso; omega)) (by first | exact hI | exact SDL_k hd6 hM2 (fun j _ => C257 j) (C260 1) (fun j _ _ => C260 j) (fun j _ _ => C260 j) | (exfalso; omega)) (by first | exact hI | exact LWL_k hd7 hM (fun j _ => C245 j) (fun j _ => C246 j) (fun j _ => C247 j) F263 | (exfalso; omega)) (by first | exact hI | exact LWL_k hd8 hM2 (fun j _ => C253 j) (fun j _ => C254 j) (fun j _ => C255 j) (fun j _ _ => C260 j) | (exfalso; omega)) (by first | exact hI | exact CHL_k hd9 hM (fun j _ => C250 j) (by omega) F266 | (exfalso; omega)) (by first | exact hI | exact CHL_k hd10 hM2 (fun j _ => C258 j) (by omega) (fun j _ _ => C260 j) | (exfalso; omega))
set_option maxRecDepth 20000 in
set_option maxHeartbeats 8000000 in
theorem sp_case26 (L : Nat) (xs : Nat → Int32) (sio : Option Nat) (d : Nat) (Q : Option AV → am_W → Prop) (hLL : L ≤ 3072) (i : Int) (hi : 0 ≤ i ∧ i ≤ 3066) (hil : i ≤ (L : Int) - 6) (dt : Nat → Nat → Int) (hI : InvC dt) (hM : MW (dt 80)) (hM2 : MW (dt 81)) (hk0 : dt 1 0 = dt 80 0) (hk1 : dt 7 3 = dt 80 1) (hk2 : dt 10 3 = dt 80 2) (hk3 : dt 12 3 = dt 80 3) (hk4 : dt 14 3 = dt 80 4) (hk5 : dt 16 3 = dt 80 5) (hk6 : dt 18 0 = dt 81 0) (hk7 : dt 24 3 = dt 81 1) (hk8 : dt 27 3 = dt 81 2) (hk9 : dt 29 3 = dt 81 3) (hk10 : dt 31 3 = dt 81 4) (hk11 : dt 33 3 = dt 81 5) (hk12 : dt 0 2 = dt 79 2) (hk13 : dt 35 1 = dt 79 12) (hk14 : dt 35 2 = dt 79 19) (hk15 : dt 35 3 = dt 79 21) (hd0 : TPL (dt 36) (dt 85) (dt 35 1)) (hd1 : SCL (dt 2) (dt 3) (dt 80)) (hd2 : SCL (dt 19) (dt 20) (dt 81)) (hd3 : QRL (dt 8) (dt 80)) (hd4 : QRL (dt 25) (dt 81)) (hd5 : SDL (dt 9) (dt 80)) (hd6 : SDL (dt 26) (dt 81)) (hd7 : LWL (dt 4) (dt 5) (dt 6) (dt 80)) (hd8 : LWL (dt 21) (dt 22) (dt 23) (dt 81)) (hd9 : CHL (dt 11) (dt 80)) (hd10 : CHL (dt 28) (dt 81)) (K : ∀ (dt : Nat → Nat → Int) (hI : InvC dt) (hM : MW (dt 80)) (hM2 : MW (dt 81)) (hk0 : dt 1 0 = dt 80 0) (hk1 : dt 7 3 = dt 80 1) (hk2 : dt 10 3 = dt 80 2) (hk3 : dt 12 3 = dt 80 3) (hk4 : dt 14 3 = dt 80 4) (hk5 : dt 16 3 = dt 80 5) (hk6 : dt 18 0 = dt 81 0) (hk7 : dt 24 3 = dt 81 1) (hk8 : dt 27 3 = dt 81 2) (hk9 : dt 29 3 = dt 81 3) (hk10 : dt 31 3 = dt 81 4) (hk11 : dt 33 3 = dt 81 5) (hk12 : dt 0 2 = dt 79 2) (hk13 : dt 35 1 = dt 79 12) (hk14 : dt 35 2 = dt 79 19) (hk15 : dt 35 3 = dt 79 21) (hd0 : TPL (dt 36) (dt 85) (dt 35 1)) (hd1 : SCL (dt 2) (dt 3) (dt 80)) (hd2 : SCL (dt 19) (dt 20) (dt 81)) (hd3 : QRL (dt 8) (dt 80)) (hd4 : QRL (dt 25) (dt 81)) (hd5 : SDL (dt 9) (dt 80)) (hd6 : SDL (dt 26) (dt 81)) (hd7 : LWL (dt 4) (dt 5) (dt 6) (dt 80)) (hd8 : LWL (dt 21) (dt 22) (dt 23) (dt 81)) (hd9 : CHL (dt 11) (dt 80)) (hd10 : CHL (dt 28) (dt 81)), GO (am_XX L xs sio) (d + 39) 267 1435 [some (.inr (.inr (some 3000))), some (.inr (.inr (some 0))), some (.inr (.inr (some 79))), some (.inl i)] [] (SH, dt) Q) : GO (am_XX L xs sio) (d + 39) 267 1198 [some (.inr (.inr (some 3000))), some (.inr (.inr (some 0))), some (.inr (.inr (some 79))), some (.inl i)] [] (SH, dt) Q := by
  have hF : Fr [0, 1, 2, 3, 4, 5, 6, 7, 8, 9, 10, 11, 12, 13, 14, 15, 16, 17, 18, 19, 20, 21, 22, 23, 24, 25, 26, 27, 28, 29, 30, 31, 32, 33, 34, 35, 36, 37, 38, 39, 40, 41, 42, 43, 44, 45, 46, 47, 48, 49, 50, 51, 52, 53, 54, 55, 56, 57, 58, 59, 60, 61, 62, 63, 64, 65, 66, 67, 68, 69, 70, 71, 72, 73, 74, 75, 76, 77, 78, 79, 80, 81, 82, 83, 84, 85, 86, 87, 88, 89, 90, 91, 92, 93, 94, 95, 96, 97, 98, 99, 100, 101, 102, 103, 104] dt dt := Fr_refl
  have hqo := QOC_R hd3 hM hk1
  have hb1_ := hM.1.1
  have hb2_ := hM.1.2.1
  have hb3_ := hM.1.2.2.1
  have halk : ALK dt (dt 80) := ⟨hd7, hd3, hd5, hd9, hk1, hk2⟩
  refine go_toq PM267 (k := 5) (pc' := 1203) (L' := [some (.inr (.inr (some 3000))), some (.inr (.inr (some 0))), some (.inr (.inr (some 79))), some (.inl i)]) (st' := [.inl (i + 1), .inr (.inr (some 3000)), .inr (.inr (some 0))]) (w' := (SH, dt)) rfl ?_
  have r1 := i32_R (xs ((i + 1).toNat))
  refine go_smpq PM267 (L' := [some (.inr (.inr (some 3000))), some (.inr (.inr (some 0))), some (.inr (.inr (some 79))), some (.inl i)]) (st' := [.inl ((xs ((i + 1).toNat)).toInt), .inr (.inr (some 0))]) (w' := (SH, dt)) rfl rfl (s_iald (n := L) (f := fun j => (xs j).toInt) (am_scr hLL) ⟨by omega, by omega⟩) ?_
  refine go_callq PM267 PM93 (Q' := _) rfl rfl rfl rfl (sp_X5_houses L xs sio (d + 34) dt hI  ((xs ((i + 1).toNat)).toInt) ⟨by omega, by omega⟩ ) ?_
  rintro _ _ ⟨rfl, h2⟩
  refine ⟨rfl, ?_⟩
  rcases h2 with ⟨v_h2, rfl, h2r, h2⟩
  refine go_toq PM267 (k := 6) (pc' := 1213) (L' := [some (.inr (.inr (some 3000))), some (.inr (.inr (some 0))), some (.inr (.inr (some 79))), some (.inl i)]) (st' := [.inl (i + 1), .inr (.inr (some 3000)), .inr (.inr (some 79))]) (w' := (SH, dt)) rfl ?_
  refine go_smpq PM267 (L' := [some (.inr (.inr (some 3000))), some (.inr (.inr (some 0))), some (.inr (.inr (some 79))), some (.inl i)]) (st' := [.inl ((xs ((i + 1).toNat)).toInt), .inr (.inr (some 79))]) (w' := (SH, dt)) rfl rfl (s_iald (n := L) (f := fun j => (xs j).toInt) (am_scr hLL) ⟨by omega, by omega⟩) ?_
  refine go_callq PM267 PM239 (Q' := _) rfl rfl rfl rfl (sp_X6_houses L xs sio (d + 37) dt hI hM  ((xs ((i + 1).toNat)).toInt) ⟨by omega, by omega⟩ ) ?_
  rintro _ _ ⟨rfl, h3⟩
  refine ⟨rfl, ?_⟩
  rcases h3 with ⟨v_h3, rfl, h3r, h3⟩
  refine go_toq PM267 (k := 2) (pc' := 1435) (L' := [some (.inr (.inr (some 3000))), some (.inr (.inr (some 0))), some (.inr (.inr (some 79))), some (.inl i)]) (st' := []) (w' := (SH, dt)) rfl ?_
  exact K dt hI hM hM2 hk0 hk1 hk2 hk3 hk4 hk5 hk6 hk7 hk8 hk9 hk10 hk11 hk12 hk13 hk14 hk15 (by first | exact hI | exact TPL_k hd0 (fun _ => rfl) (fun _ => rfl) (by omega) | (exfalso; omega)) (by first | exact hI | exact SCL_k hd1 hM (fun j _ => (fun _ => rfl) j) (fun j _ => (fun _ => rfl) j) (fun j _ _ => (fun _ => rfl) j) | (exfalso; omega)) (by first | exact hI | exact SCL_k hd2 hM2 (fun j _ => (fun _ => rfl) j) (fun j _ => (fun _ => rfl) j) (fun j _ _ => (fun _ => rfl) j) | (exfalso; omega)) (by first | exact hI | exact QRL_k hd3 hM (fun j _ => (fun _ => rfl) j) ((fun _ => rfl) 1) (fun j _ _ => (fun _ => rfl) j) | (exfalso; omega)) (by first | exact hI | exact QRL_k hd4 hM2 (fun j _ => (fun _ => rfl) j) ((fun _ => rfl) 1) (fun j _ _ => (fun _ => rfl) j) | (exfalso; omega)) (by first | exact hI | exact SDL_k hd5 hM (fun j _ => (fun _ => rfl) j) ((fun _ => rfl) 1) (fun j _ _ => (fun _ => rfl) j) (fun j _ _ => (fun _ => rfl) j) | (exfalso; omega)) (by first | exact hI | exact SDL_k hd6 hM2 (fun j _ => (fun _ => rfl) j) ((fun _ => rfl) 1) (fun j _ _ => (fun _ => rfl) j) (fun j _ _ => (fun _ => rfl) j) | (exfalso; omega)) (by first | exact hI | exact LWL_k hd7 hM (fun j _ => (fun _ => rfl) j) (fun j _ => (fun _ => rfl) j) (fun j _ => (fun _ => rfl) j) (fun j _ _ => (fun _ => rfl) j) | (exfalso; omega)) (by first | exact hI | exact LWL_k hd8 hM2 (fun j _ => (fun _ => rfl) j) (fun j _ => (fun _ => rfl) j) (fun j _ => (fun _ => rfl) j) (fun j _ _ => (fun _ => rfl) j) | (exfalso; omega)) (by first | exact hI | exact CHL_k hd9 hM (fun j _ => (fun _ => rfl) j) (by omega) (fun j _ _ => (fun _ => rfl) j) | (exfalso; omega)) (by first | exact hI | exact CHL_k hd10 hM2 (fun j _ => (fun _ => rfl) j) (by omega) (fun j _ _ => (fun _ => rfl) j) | (exfalso; omega))
set_option maxRecDepth 20000 in
set_option maxHeartbeats 8000000 in
theorem sp_case27 (L : Nat) (xs : Nat → Int32) (sio : Option Nat) (d : Nat) (Q : Option AV → am_W → Prop) (hLL : L ≤ 3072) (i : Int) (hi : 0 ≤ i ∧ i ≤ 3066) (hil : i ≤ (L : Int) - 6) (dt : Nat → Nat → Int) (hI : InvC dt) (hM : MW (dt 80)) (hM2 : MW (dt 81)) (hk0 : dt 1 0 = dt 80 0) (hk1 : dt 7 3 = dt 80 1) (hk2 : dt 10 3 = dt 80 2) (hk3 : dt 12 3 = dt 80 3) (hk4 : dt 14 3 = dt 80 4) (hk5 : dt 16 3 = dt 80 5) (hk6 : dt 18 0 = dt 81 0) (hk7 : dt 24 3 = dt 81 1) (hk8 : dt 27 3 = dt 81 2) (hk9 : dt 29 3 = dt 81 3) (hk10 : dt 31 3 = dt 81 4) (hk11 : dt 33 3 = dt 81 5) (hk12 : dt 0 2 = dt 79 2) (hk13 : dt 35 1 = dt 79 12) (hk14 : dt 35 2 = dt 79 19) (hk15 : dt 35 3 = dt 79 21) (hd0 : TPL (dt 36) (dt 85) (dt 35 1)) (hd1 : SCL (dt 2) (dt 3) (dt 80)) (hd2 : SCL (dt 19) (dt 20) (dt 81)) (hd3 : QRL (dt 8) (dt 80)) (hd4 : QRL (dt 25) (dt 81)) (hd5 : SDL (dt 9) (dt 80)) (hd6 : SDL (dt 26) (dt 81)) (hd7 : LWL (dt 4) (dt 5) (dt 6) (dt 80)) (hd8 : LWL (dt 21) (dt 22) (dt 23) (dt 81)) (hd9 : CHL (dt 11) (dt 80)) (hd10 : CHL (dt 28) (dt 81)) (K : ∀ (dt : Nat → Nat → Int) (hI : InvC dt) (hM : MW (dt 80)) (hM2 : MW (dt 81)) (hk0 : dt 1 0 = dt 80 0) (hk1 : dt 7 3 = dt 80 1) (hk2 : dt 10 3 = dt 80 2) (hk3 : dt 12 3 = dt 80 3) (hk4 : dt 14 3 = dt 80 4) (hk5 : dt 16 3 = dt 80 5) (hk6 : dt 18 0 = dt 81 0) (hk7 : dt 24 3 = dt 81 1) (hk8 : dt 27 3 = dt 81 2) (hk9 : dt 29 3 = dt 81 3) (hk10 : dt 31 3 = dt 81 4) (hk11 : dt 33 3 = dt 81 5) (hk12 : dt 0 2 = dt 79 2) (hk13 : dt 35 1 = dt 79 12) (hk14 : dt 35 2 = dt 79 19) (hk15 : dt 35 3 = dt 79 21) (hd0 : TPL (dt 36) (dt 85) (dt 35 1)) (hd1 : SCL (dt 2) (dt 3) (dt 80)) (hd2 : SCL (dt 19) (dt 20) (dt 81)) (hd3 : QRL (dt 8) (dt 80)) (hd4 : QRL (dt 25) (dt 81)) (hd5 : SDL (dt 9) (dt 80)) (hd6 : SDL (dt 26) (dt 81)) (hd7 : LWL (dt 4) (dt 5) (dt 6) (dt 80)) (hd8 : LWL (dt 21) (dt 22) (dt 23) (dt 81)) (hd9 : CHL (dt 11) (dt 80)) (hd10 : CHL (dt 28) (dt 81)), GO (am_XX L xs sio) (d + 39) 267 1435 [some (.inr (.inr (some 3000))), some (.inr (.inr (some 0))), some (.inr (.inr (some 79))), some (.inl i)] [] (SH, dt) Q) : GO (am_XX L xs sio) (d + 39) 267 1221 [some (.inr (.inr (some 3000))), some (.inr (.inr (some 0))), some (.inr (.inr (some 79))), some (.inl i)] [] (SH, dt) Q := by
  have hF : Fr [0, 1, 2, 3, 4, 5, 6, 7, 8, 9, 10, 11, 12, 13, 14, 15, 16, 17, 18, 19, 20, 21, 22, 23, 24, 25, 26, 27, 28, 29, 30, 31, 32, 33, 34, 35, 36, 37, 38, 39, 40, 41, 42, 43, 44, 45, 46, 47, 48, 49, 50, 51, 52, 53, 54, 55, 56, 57, 58, 59, 60, 61, 62, 63, 64, 65, 66, 67, 68, 69, 70, 71, 72, 73, 74, 75, 76, 77, 78, 79, 80, 81, 82, 83, 84, 85, 86, 87, 88, 89, 90, 91, 92, 93, 94, 95, 96, 97, 98, 99, 100, 101, 102, 103, 104] dt dt := Fr_refl
  have hqo := QOC_R hd3 hM hk1
  have hb1_ := hM.1.1
  have hb2_ := hM.1.2.1
  have hb3_ := hM.1.2.2.1
  have halk : ALK dt (dt 80) := ⟨hd7, hd3, hd5, hd9, hk1, hk2⟩
  refine go_toq PM267 (k := 5) (pc' := 1226) (L' := [some (.inr (.inr (some 3000))), some (.inr (.inr (some 0))), some (.inr (.inr (some 79))), some (.inl i)]) (st' := [.inl (i + 1), .inr (.inr (some 3000)), .inr (.inr (some 0))]) (w' := (SH, dt)) rfl ?_
  have r1 := i32_R (xs ((i + 1).toNat))
  refine go_smpq PM267 (L' := [some (.inr (.inr (some 3000))), some (.inr (.inr (some 0))), some (.inr (.inr (some 79))), some (.inl i)]) (st' := [.inl ((xs ((i + 1).toNat)).toInt), .inr (.inr (some 0))]) (w' := (SH, dt)) rfl rfl (s_iald (n := L) (f := fun j => (xs j).toInt) (am_scr hLL) ⟨by omega, by omega⟩) ?_
  refine go_toq PM267 (k := 4) (pc' := 1231) (L' := [some (.inr (.inr (some 3000))), some (.inr (.inr (some 0))), some (.inr (.inr (some 79))), some (.inl i)]) (st' := [.inl (i + 2), .inr (.inr (some 3000)), .inl ((xs ((i + 1).toNat)).toInt), .inr (.inr (some 0))]) (w' := (SH, dt)) rfl ?_
  have r2 := i32_R (xs ((i + 2).toNat))
  refine go_smpq PM267 (L' := [some (.inr (.inr (some 3000))), some (.inr (.inr (some 0))), some (.inr (.inr (some 79))), some (.inl i)]) (st' := [.inl ((xs ((i + 2).toNat)).toInt), .inl ((xs ((i + 1).toNat)).toInt), .inr (.inr (some 0))]) (w' := (SH, dt)) rfl rfl (s_iald (n := L) (f := fun j => (xs j).toInt) (am_scr hLL) ⟨by omega, by omega⟩) ?_
  refine go_callq PM267 PM94 (Q' := _) rfl rfl rfl rfl (sp_X5_sorts L xs sio (d + 33) dt hI  ((xs ((i + 1).toNat)).toInt) ⟨by omega, by omega⟩ ((xs ((i + 2).toNat)).toInt) ⟨by omega, by omega⟩ ) ?_
  rintro _ _ ⟨dt4, rfl, hI5, hF6, h3⟩
  refine ⟨rfl, ?_⟩
  have hF7 : Fr [0, 1, 2, 3, 4, 5, 6, 7, 8, 9, 10, 11, 12, 13, 14, 15, 16, 17, 18, 19, 20, 21, 22, 23, 24, 25, 26, 27, 28, 29, 30, 31, 32, 33, 34, 35, 36, 37, 38, 39, 40, 41, 42, 43, 44, 45, 46, 47, 48, 49, 50, 51, 52, 53, 54, 55, 56, 57, 58, 59, 60, 61, 62, 63, 64, 65, 66, 67, 68, 69, 70, 71, 72, 73, 74, 75, 76, 77, 78, 79, 80, 81, 82, 83, 84, 85, 86, 87, 88, 89, 90, 91, 92, 93, 94, 95, 96, 97, 98, 99, 100, 101, 102, 103, 104] dt dt4 := Fr_tr hF hF6 (by decide)
  have hM8 : MW (dt4 80) := MW_fr hM hF6 (by decide)
  have w9 : dt4 1 0 = dt 1 0 := hF6 1 (by decide) 0
  have w10 : dt4 7 3 = dt 7 3 := hF6 7 (by decide) 3
  have w11 : dt4 10 3 = dt 10 3 := hF6 10 (by decide) 3
  have w12 : dt4 12 3 = dt 12 3 := hF6 12 (by decide) 3
  have w13 : dt4 14 3 = dt 14 3 := hF6 14 (by decide) 3
  have w14 : dt4 16 3 = dt 16 3 := hF6 16 (by decide) 3
  have w15 : dt4 18 0 = dt 18 0 := hF6 18 (by decide) 0
  have w16 : dt4 24 3 = dt 24 3 := hF6 24 (by decide) 3
  have w17 : dt4 27 3 = dt 27 3 := hF6 27 (by decide) 3
  have w18 : dt4 29 3 = dt 29 3 := hF6 29 (by decide) 3
  have w19 : dt4 31 3 = dt 31 3 := hF6 31 (by decide) 3
  have w20 : dt4 33 3 = dt 33 3 := hF6 33 (by decide) 3
  have w21 : dt4 0 2 = dt 0 2 := hF6 0 (by decide) 2
  have w22 : dt4 35 1 = dt 35 1 := hF6 35 (by decide) 1
  have w23 : dt4 35 2 = dt 35 2 := hF6 35 (by decide) 2
  have w24 : dt4 35 3 = dt 35 3 := hF6 35 (by decide) 3
  have w25 : dt4 80 0 = dt 80 0 := hF6 80 (by decide) 0
  have w26 : dt4 80 1 = dt 80 1 := hF6 80 (by decide) 1
  have w27 : dt4 80 2 = dt 80 2 := hF6 80 (by decide) 2
  have w28 : dt4 80 3 = dt 80 3 := hF6 80 (by decide) 3
  have w29 : dt4 80 4 = dt 80 4 := hF6 80 (by decide) 4
  have w30 : dt4 80 5 = dt 80 5 := hF6 80 (by decide) 5
  have w31 : dt4 81 0 = dt 81 0 := hF6 81 (by decide) 0
  have w32 : dt4 81 1 = dt 81 1 := hF6 81 (by decide) 1
  have w33 : dt4 81 2 = dt 81 2 := hF6 81 (by decide) 2
  have w34 : dt4 81 3 = dt 81 3 := hF6 81 (by decide) 3
  have w35 : dt4 81 4 = dt 81 4 := hF6 81 (by decide) 4
  have w36 : dt4 81 5 = dt 81 5 := hF6 81 (by decide) 5
  have w37 : dt4 79 2 = dt 79 2 := hF6 79 (by decide) 2
  have w38 : dt4 79 12 = dt 79 12 := hF6 79 (by decide) 12
  have w39 : dt4 79 19 = dt 79 19 := hF6 79 (by decide) 19
  have w40 : dt4 79 21 = dt 79 21 := hF6 79 (by decide) 21
  rcases h3 with ⟨v_h3, rfl, h3r, h3⟩
  have M241 : MW (dt4 81) := MW_frk hM2 hF6 (by decide)
  have C42 : ∀ j : Nat, dt4 2 j = dt 2 j := fun j => (hF6 2 (by decide) j).trans ((fun _ => rfl) j)
  have C43 : ∀ j : Nat, dt4 3 j = dt 3 j := fun j => (hF6 3 (by decide) j).trans ((fun _ => rfl) j)
  have C44 : ∀ j : Nat, dt4 4 j = dt 4 j := fun j => (hF6 4 (by decide) j).trans ((fun _ => rfl) j)
  have C45 : ∀ j : Nat, dt4 5 j = dt 5 j := fun j => (hF6 5 (by decide) j).trans ((fun _ => rfl) j)
  have C46 : ∀ j : Nat, dt4 6 j = dt 6 j := fun j => (hF6 6 (by decide) j).trans ((fun _ => rfl) j)
  have C47 : ∀ j : Nat, dt4 8 j = dt 8 j := fun j => (hF6 8 (by decide) j).trans ((fun _ => rfl) j)
  have C48 : ∀ j : Nat, dt4 9 j = dt 9 j := fun j => (hF6 9 (by decide) j).trans ((fun _ => rfl) j)
  have C49 : ∀ j : Nat, dt4 11 j = dt 11 j := fun j => (hF6 11 (by decide) j).trans ((fun _ => rfl) j)
  have C50 : ∀ j : Nat, dt4 19 j = dt 19 j := fun j => (hF6 19 (by decide) j).trans ((fun _ => rfl) j)
  have C51 : ∀ j : Nat, dt4 20 j = dt 20 j := fun j => (hF6 20 (by decide) j).trans ((fun _ => rfl) j)
  have C52 : ∀ j : Nat, dt4 21 j = dt 21 j := fun j => (hF6 21 (by decide) j).trans ((fun _ => rfl) j)
  have C53 : ∀ j : Nat, dt4 22 j = dt 22 j := fun j => (hF6 22 (by decide) j).trans ((fun _ => rfl) j)
  have C54 : ∀ j : Nat, dt4 23 j = dt 23 j := fun j => (hF6 23 (by decide) j).trans ((fun _ => rfl) j)
  have C55 : ∀ j : Nat, dt4 25 j = dt 25 j := fun j => (hF6 25 (by decide) j).trans ((fun _ => rfl) j)
  have C56 : ∀ j : Nat, dt4 26 j = dt 26 j := fun j => (hF6 26 (by decide) j).trans ((fun _ => rfl) j)
  have C57 : ∀ j : Nat, dt4 28 j = dt 28 j := fun j => (hF6 28 (by decide) j).trans ((fun _ => rfl) j)
  have C58 : ∀ j : Nat, dt4 36 j = dt 36 j := fun j => (hF6 36 (by decide) j).trans ((fun _ => rfl) j)
  have C59 : ∀ j : Nat, dt4 80 j = dt 80 j := fun j => (hF6 80 (by decide) j).trans ((fun _ => rfl) j)
  have C60 : ∀ j : Nat, dt4 81 j = dt 81 j := fun j => (hF6 81 (by decide) j).trans ((fun _ => rfl) j)
  have C61 : ∀ j : Nat, dt4 85 j = dt 85 j := fun j => (hF6 85 (by decide) j).trans ((fun _ => rfl) j)
  refine go_toq PM267 (k := 6) (pc' := 1241) (L' := [some (.inr (.inr (some 3000))), some (.inr (.inr (some 0))), some (.inr (.inr (some 79))), some (.inl i)]) (st' := [.inl (i + 1), .inr (.inr (some 3000)), .inr (.inr (some 79))]) (w' := (SH, dt4)) rfl ?_
  have r62 := i32_R (xs ((i + 1).toNat))
  refine go_smpq PM267 (L' := [some (.inr (.inr (some 3000))), some (.inr (.inr (some 0))), some (.inr (.inr (some 79))), some (.inl i)]) (st' := [.inl ((xs ((i + 1).toNat)).toInt), .inr (.inr (some 79))]) (w' := (SH, dt4)) rfl rfl (s_iald (n := L) (f := fun j => (xs j).toInt) (am_scr hLL) ⟨by omega, by omega⟩) ?_
  refine go_toq PM267 (k := 4) (pc' := 1246) (L' := [some (.inr (.inr (some 3000))), some (.inr (.inr (some 0))), some (.inr (.inr (some 79))), some (.inl i)]) (st' := [.inl (i + 2), .inr (.inr (some 3000)), .inl ((xs ((i + 1).toNat)).toInt), .inr (.inr (some 79))]) (w' := (SH, dt4)) rfl ?_
  have r63 := i32_R (xs ((i + 2).toNat))
  refine go_smpq PM267 (L' := [some (.inr (.inr (some 3000))), some (.inr (.inr (some 0))), some (.inr (.inr (some 79))), some (.inl i)]) (st' := [.inl ((xs ((i + 2).toNat)).toInt), .inl ((xs ((i + 1).toNat)).toInt), .inr (.inr (some 79))]) (w' := (SH, dt4)) rfl rfl (s_iald (n := L) (f := fun j => (xs j).toInt) (am_scr hLL) ⟨by omega, by omega⟩) ?_
  refine go_callq PM267 PM240 (Q' := _) rfl rfl rfl rfl (sp_X6_sorts L xs sio (d + 31) dt4 hI5 hM8  ((xs ((i + 1).toNat)).toInt) ⟨by omega, by omega⟩ ((xs ((i + 2).toNat)).toInt) ⟨by omega, by omega⟩ ) ?_
  rintro _ _ ⟨dt65, rfl, hI66, hF67, h64⟩
  refine ⟨rfl, ?_⟩
  have hF68 : Fr [0, 1, 2, 3, 4, 5, 6, 7, 8, 9, 10, 11, 12, 13, 14, 15, 16, 17, 18, 19, 20, 21, 22, 23, 24, 25, 26, 27, 28, 29, 30, 31, 32, 33, 34, 35, 36, 37, 38, 39, 40, 41, 42, 43, 44, 45, 46, 47, 48, 49, 50, 51, 52, 53, 54, 55, 56, 57, 58, 59, 60, 61, 62, 63, 64, 65, 66, 67, 68, 69, 70, 71, 72, 73, 74, 75, 76, 77, 78, 79, 80, 81, 82, 83, 84, 85, 86, 87, 88, 89, 90, 91, 92, 93, 94, 95, 96, 97, 98, 99, 100, 101, 102, 103, 104] dt dt65 := Fr_tr hF7 hF67 (by decide)
  have hM69 : MW (dt65 80) := MW_fr hM8 hF67 (by decide)
  have w70 : dt65 1 0 = dt 1 0 := (hF67 1 (by decide) 0).trans w9
  have w71 : dt65 7 3 = dt 7 3 := (hF67 7 (by decide) 3).trans w10
  have w72 : dt65 10 3 = dt 10 3 := (hF67 10 (by decide) 3).trans w11
  have w73 : dt65 12 3 = dt 12 3 := (hF67 12 (by decide) 3).trans w12
  have w74 : dt65 14 3 = dt 14 3 := (hF67 14 (by decide) 3).trans w13
  have w75 : dt65 16 3 = dt 16 3 := (hF67 16 (by decide) 3).trans w14
  have w76 : dt65 18 0 = dt 18 0 := (hF67 18 (by decide) 0).trans w15
  have w77 : dt65 24 3 = dt 24 3 := (hF67 24 (by decide) 3).trans w16
  have w78 : dt65 27 3 = dt 27 3 := (hF67 27 (by decide) 3).trans w17
  have w79 : dt65 29 3 = dt 29 3 := (hF67 29 (by decide) 3).trans w18
  have w80 : dt65 31 3 = dt 31 3 := (hF67 31 (by decide) 3).trans w19
  have w81 : dt65 33 3 = dt 33 3 := (hF67 33 (by decide) 3).trans w20
  have w82 : dt65 0 2 = dt 0 2 := (hF67 0 (by decide) 2).trans w21
  have w83 : dt65 35 1 = dt 35 1 := (hF67 35 (by decide) 1).trans w22
  have w84 : dt65 35 2 = dt 35 2 := (hF67 35 (by decide) 2).trans w23
  have w85 : dt65 35 3 = dt 35 3 := (hF67 35 (by decide) 3).trans w24
  have w86 : dt65 80 0 = dt 80 0 := (hF67 80 (by decide) 0).trans w25
  have w87 : dt65 80 1 = dt 80 1 := (hF67 80 (by decide) 1).trans w26
  have w88 : dt65 80 2 = dt 80 2 := (hF67 80 (by decide) 2).trans w27
  have w89 : dt65 80 3 = dt 80 3 := (hF67 80 (by decide) 3).trans w28
  have w90 : dt65 80 4 = dt 80 4 := (hF67 80 (by decide) 4).trans w29
  have w91 : dt65 80 5 = dt 80 5 := (hF67 80 (by decide) 5).trans w30
  have w92 : dt65 81 0 = dt 81 0 := (hF67 81 (by decide) 0).trans w31
  have w93 : dt65 81 1 = dt 81 1 := (hF67 81 (by decide) 1).trans w32
  have w94 : dt65 81 2 = dt 81 2 := (hF67 81 (by decide) 2).trans w33
  have w95 : dt65 81 3 = dt 81 3 := (hF67 81 (by decide) 3).trans w34
  have w96 : dt65 81 4 = dt 81 4 := (hF67 81 (by decide) 4).trans w35
  have w97 : dt65 81 5 = dt 81 5 := (hF67 81 (by decide) 5).trans w36
  have w98 : dt65 79 2 = dt 79 2 := (hF67 79 (by decide) 2).trans w37
  have w99 : dt65 79 12 = dt 79 12 := (hF67 79 (by decide) 12).trans w38
  have w100 : dt65 79 19 = dt 79 19 := (hF67 79 (by decide) 19).trans w39
  have w101 : dt65 79 21 = dt 79 21 := (hF67 79 (by decide) 21).trans w40
  rcases h64 with ⟨v_h64, rfl, h64r, h64⟩
  have M2102 : MW (dt65 81) := MW_frk M241 hF67 (by decide)
  have C103 : ∀ j : Nat, dt65 2 j = dt 2 j := fun j => (hF67 2 (by decide) j).trans (C42 j)
  have C104 : ∀ j : Nat, dt65 3 j = dt 3 j := fun j => (hF67 3 (by decide) j).trans (C43 j)
  have C105 : ∀ j : Nat, dt65 4 j = dt 4 j := fun j => (hF67 4 (by decide) j).trans (C44 j)
  have C106 : ∀ j : Nat, dt65 5 j = dt 5 j := fun j => (hF67 5 (by decide) j).trans (C45 j)
  have C107 : ∀ j : Nat, dt65 6 j = dt 6 j := fun j => (hF67 6 (by decide) j).trans (C46 j)
  have C108 : ∀ j : Nat, dt65 8 j = dt 8 j := fun j => (hF67 8 (by decide) j).trans (C47 j)
  have C109 : ∀ j : Nat, dt65 9 j = dt 9 j := fun j => (hF67 9 (by decide) j).trans (C48 j)
  have C110 : ∀ j : Nat, dt65 11 j = dt 11 j := fun j => (hF67 11 (by decide) j).trans (C49 j)
  have C111 : ∀ j : Nat, dt65 19 j = dt 19 j := fun j => (hF67 19 (by decide) j).trans (C50 j)
  have C112 : ∀ j : Nat, dt65 20 j = dt 20 j := fun j => (hF67 20 (by decide) j).trans (C51 j)
  have C113 : ∀ j : Nat, dt65 21 j = dt 21 j := fun j => (hF67 21 (by decide) j).trans (C52 j)
  have C114 : ∀ j : Nat, dt65 22 j = dt 22 j := fun j => (hF67 22 (by decide) j).trans (C53 j)
  have C115 : ∀ j : Nat, dt65 23 j = dt 23 j := fun j => (hF67 23 (by decide) j).trans (C54 j)
  have C116 : ∀ j : Nat, dt65 25 j = dt 25 j := fun j => (hF67 25 (by decide) j).trans (C55 j)
  have C117 : ∀ j : Nat, dt65 26 j = dt 26 j := fun j => (hF67 26 (by decide) j).trans (C56 j)
  have C118 : ∀ j : Nat, dt65 28 j = dt 28 j := fun j => (hF67 28 (by decide) j).trans (C57 j)
  have C119 : ∀ j : Nat, dt65 36 j = dt 36 j := fun j => (hF67 36 (by decide) j).trans (C58 j)
  have C120 : ∀ j : Nat, dt65 80 j = dt 80 j := fun j => (hF67 80 (by decide) j).trans (C59 j)
  have C121 : ∀ j : Nat, dt65 81 j = dt 81 j := fun j => (hF67 81 (by decide) j).trans (C60 j)
  have C122 : ∀ j : Nat, dt65 85 j = dt 85 j := fun j => (hF67 85 (by decide) j).trans (C61 j)
  refine go_toq PM267 (k := 2) (pc' := 1435) (L' := [some (.inr (.inr (some 3000))), some (.inr (.inr (some 0))), some (.inr (.inr (some 79))), some (.inl i)]) (st' := []) (w' := (SH, dt65)) rfl ?_
  exact K dt65 hI66 hM69 M2102 (w70.trans (hk0.trans w86.symm)) (w71.trans (hk1.trans w87.symm)) (w72.trans (hk2.trans w88.symm)) (w73.trans (hk3.trans w89.symm)) (w74.trans (hk4.trans w90.symm)) (w75.trans (hk5.trans w91.symm)) (w76.trans (hk6.trans w92.symm)) (w77.trans (hk7.trans w93.symm)) (w78.trans (hk8.trans w94.symm)) (w79.trans (hk9.trans w95.symm)) (w80.trans (hk10.trans w96.symm)) (w81.trans (hk11.trans w97.symm)) (w82.trans (hk12.trans w98.symm)) (w83.trans (hk13.trans w99.symm)) (w84.trans (hk14.trans w100.symm)) (w85.trans (hk15.trans w101.symm)) (by first | exact hI | exact TPL_k hd0 C119 C122 (by omega) | (exfalso; omega)) (by first | exact hI | exact SCL_k hd1 hM (fun j _ => C103 j) (fun j _ => C104 j) (fun j _ _ => C120 j) | (exfalso; omega)) (by first | exact hI | exact SCL_k hd2 hM2 (fun j _ => C111 j) (fun j _ => C112 j) (fun j _ _ => C121 j) | (exfalso; omega)) (by first | exact hI | exact QRL_k hd3 hM (fun j _ => C108 j) (C120 1) (fun j _ _ => C120 j) | (exfalso; omega)) (by first | exact hI | exact QRL_k hd4 hM2 (fun j _ => C116 j) (C121 1) (fun j _ _ => C121 j) | (exfalso; omega)) (by first | exact hI | exact SDL_k hd5 hM (fun j _ => C109 j) (C120 1) (fun j _ _ => C120 j) (fun j _ _ => C120 j) | (exfalso; omega)) (by first | exact hI | exact SDL_k hd6 hM2 (fun j _ => C117 j) (C121 1) (fun j _ _ => C121 j) (fun j _ _ => C121 j) | (exfalso; omega)) (by first | exact hI | exact LWL_k hd7 hM (fun j _ => C105 j) (fun j _ => C106 j) (fun j _ => C107 j) (fun j _ _ => C120 j) | (exfalso; omega)) (by first | exact hI | exact LWL_k hd8 hM2 (fun j _ => C113 j) (fun j _ => C114 j) (fun j _ => C115 j) (fun j _ _ => C121 j) | (exfalso; omega)) (by first | exact hI | exact CHL_k hd9 hM (fun j _ => C110 j) (by omega) (fun j _ _ => C120 j) | (exfalso; omega)) (by first | exact hI | exact CHL_k hd10 hM2 (fun j _ => C118 j) (by omega) (fun j _ _ => C121 j) | (exfalso; omega))
set_option maxRecDepth 20000 in
set_option maxHeartbeats 8000000 in
theorem sp_case28 (L : Nat) (xs : Nat → Int32) (sio : Option Nat) (d : Nat) (Q : Option AV → am_W → Prop) (hLL : L ≤ 3072) (i : Int) (hi : 0 ≤ i ∧ i ≤ 3066) (hil : i ≤ (L : Int) - 6) (dt : Nat → Nat → Int) (hI : InvC dt) (hM : MW (dt 80)) (hM2 : MW (dt 81)) (hk0 : dt 1 0 = dt 80 0) (hk1 : dt 7 3 = dt 80 1) (hk2 : dt 10 3 = dt 80 2) (hk3 : dt 12 3 = dt 80 3) (hk4 : dt 14 3 = dt 80 4) (hk5 : dt 16 3 = dt 80 5) (hk6 : dt 18 0 = dt 81 0) (hk7 : dt 24 3 = dt 81 1) (hk8 : dt 27 3 = dt 81 2) (hk9 : dt 29 3 = dt 81 3) (hk10 : dt 31 3 = dt 81 4) (hk11 : dt 33 3 = dt 81 5) (hk12 : dt 0 2 = dt 79 2) (hk13 : dt 35 1 = dt 79 12) (hk14 : dt 35 2 = dt 79 19) (hk15 : dt 35 3 = dt 79 21) (hd0 : TPL (dt 36) (dt 85) (dt 35 1)) (hd1 : SCL (dt 2) (dt 3) (dt 80)) (hd2 : SCL (dt 19) (dt 20) (dt 81)) (hd3 : QRL (dt 8) (dt 80)) (hd4 : QRL (dt 25) (dt 81)) (hd5 : SDL (dt 9) (dt 80)) (hd6 : SDL (dt 26) (dt 81)) (hd7 : LWL (dt 4) (dt 5) (dt 6) (dt 80)) (hd8 : LWL (dt 21) (dt 22) (dt 23) (dt 81)) (hd9 : CHL (dt 11) (dt 80)) (hd10 : CHL (dt 28) (dt 81)) (K : ∀ (dt : Nat → Nat → Int) (hI : InvC dt) (hM : MW (dt 80)) (hM2 : MW (dt 81)) (hk0 : dt 1 0 = dt 80 0) (hk1 : dt 7 3 = dt 80 1) (hk2 : dt 10 3 = dt 80 2) (hk3 : dt 12 3 = dt 80 3) (hk4 : dt 14 3 = dt 80 4) (hk5 : dt 16 3 = dt 80 5) (hk6 : dt 18 0 = dt 81 0) (hk7 : dt 24 3 = dt 81 1) (hk8 : dt 27 3 = dt 81 2) (hk9 : dt 29 3 = dt 81 3) (hk10 : dt 31 3 = dt 81 4) (hk11 : dt 33 3 = dt 81 5) (hk12 : dt 0 2 = dt 79 2) (hk13 : dt 35 1 = dt 79 12) (hk14 : dt 35 2 = dt 79 19) (hk15 : dt 35 3 = dt 79 21) (hd0 : TPL (dt 36) (dt 85) (dt 35 1)) (hd1 : SCL (dt 2) (dt 3) (dt 80)) (hd2 : SCL (dt 19) (dt 20) (dt 81)) (hd3 : QRL (dt 8) (dt 80)) (hd4 : QRL (dt 25) (dt 81)) (hd5 : SDL (dt 9) (dt 80)) (hd6 : SDL (dt 26) (dt 81)) (hd7 : LWL (dt 4) (dt 5) (dt 6) (dt 80)) (hd8 : LWL (dt 21) (dt 22) (dt 23) (dt 81)) (hd9 : CHL (dt 11) (dt 80)) (hd10 : CHL (dt 28) (dt 81)), GO (am_XX L xs sio) (d + 39) 267 1435 [some (.inr (.inr (some 3000))), some (.inr (.inr (some 0))), some (.inr (.inr (some 79))), some (.inl i)] [] (SH, dt) Q) : GO (am_XX L xs sio) (d + 39) 267 1254 [some (.inr (.inr (some 3000))), some (.inr (.inr (some 0))), some (.inr (.inr (some 79))), some (.inl i)] [] (SH, dt) Q := by
  have hF : Fr [0, 1, 2, 3, 4, 5, 6, 7, 8, 9, 10, 11, 12, 13, 14, 15, 16, 17, 18, 19, 20, 21, 22, 23, 24, 25, 26, 27, 28, 29, 30, 31, 32, 33, 34, 35, 36, 37, 38, 39, 40, 41, 42, 43, 44, 45, 46, 47, 48, 49, 50, 51, 52, 53, 54, 55, 56, 57, 58, 59, 60, 61, 62, 63, 64, 65, 66, 67, 68, 69, 70, 71, 72, 73, 74, 75, 76, 77, 78, 79, 80, 81, 82, 83, 84, 85, 86, 87, 88, 89, 90, 91, 92, 93, 94, 95, 96, 97, 98, 99, 100, 101, 102, 103, 104] dt dt := Fr_refl
  have hqo := QOC_R hd3 hM hk1
  have hb1_ := hM.1.1
  have hb2_ := hM.1.2.1
  have hb3_ := hM.1.2.2.1
  have halk : ALK dt (dt 80) := ⟨hd7, hd3, hd5, hd9, hk1, hk2⟩
  refine go_toq PM267 (k := 5) (pc' := 1259) (L' := [some (.inr (.inr (some 3000))), some (.inr (.inr (some 0))), some (.inr (.inr (some 79))), some (.inl i)]) (st' := [.inl (i + 1), .inr (.inr (some 3000)), .inr (.inr (some 0))]) (w' := (SH, dt)) rfl ?_
  have r1 := i32_R (xs ((i + 1).toNat))
  refine go_smpq PM267 (L' := [some (.inr (.inr (some 3000))), some (.inr (.inr (some 0))), some (.inr (.inr (some 79))), some (.inl i)]) (st' := [.inl ((xs ((i + 1).toNat)).toInt), .inr (.inr (some 0))]) (w' := (SH, dt)) rfl rfl (s_iald (n := L) (f := fun j => (xs j).toInt) (am_scr hLL) ⟨by omega, by omega⟩) ?_
  refine go_toq PM267 (k := 4) (pc' := 1264) (L' := [some (.inr (.inr (some 3000))), some (.inr (.inr (some 0))), some (.inr (.inr (some 79))), some (.inl i)]) (st' := [.inl (i + 2), .inr (.inr (some 3000)), .inl ((xs ((i + 1).toNat)).toInt), .inr (.inr (some 0))]) (w' := (SH, dt)) rfl ?_
  have r2 := i32_R (xs ((i + 2).toNat))
  refine go_smpq PM267 (L' := [some (.inr (.inr (some 3000))), some (.inr (.inr (some 0))), some (.inr (.inr (some 79))), some (.inl i)]) (st' := [.inl ((xs ((i + 2).toNat)).toInt), .inl ((xs ((i + 1).toNat)).toInt), .inr (.inr (some 0))]) (w' := (SH, dt)) rfl rfl (s_iald (n := L) (f := fun j => (xs j).toInt) (am_scr hLL) ⟨by omega, by omega⟩) ?_
  refine go_callq PM267 PM95 (Q' := _) rfl rfl rfl rfl (sp_X5_curve L xs sio (d + 33) dt hI  ((xs ((i + 1).toNat)).toInt) ⟨by omega, by omega⟩ ((xs ((i + 2).toNat)).toInt) ⟨by omega, by omega⟩ ) ?_
  rintro _ _ ⟨dt4, rfl, hI5, hF6, h3⟩
  refine ⟨rfl, ?_⟩
  have hF7 : Fr [0, 1, 2, 3, 4, 5, 6, 7, 8, 9, 10, 11, 12, 13, 14, 15, 16, 17, 18, 19, 20, 21, 22, 23, 24, 25, 26, 27, 28, 29, 30, 31, 32, 33, 34, 35, 36, 37, 38, 39, 40, 41, 42, 43, 44, 45, 46, 47, 48, 49, 50, 51, 52, 53, 54, 55, 56, 57, 58, 59, 60, 61, 62, 63, 64, 65, 66, 67, 68, 69, 70, 71, 72, 73, 74, 75, 76, 77, 78, 79, 80, 81, 82, 83, 84, 85, 86, 87, 88, 89, 90, 91, 92, 93, 94, 95, 96, 97, 98, 99, 100, 101, 102, 103, 104] dt dt4 := Fr_tr hF hF6 (by decide)
  have hM8 : MW (dt4 80) := MW_fr hM hF6 (by decide)
  have w9 : dt4 1 0 = dt 1 0 := hF6 1 (by decide) 0
  have w10 : dt4 7 3 = dt 7 3 := hF6 7 (by decide) 3
  have w11 : dt4 10 3 = dt 10 3 := hF6 10 (by decide) 3
  have w12 : dt4 12 3 = dt 12 3 := hF6 12 (by decide) 3
  have w13 : dt4 14 3 = dt 14 3 := hF6 14 (by decide) 3
  have w14 : dt4 16 3 = dt 16 3 := hF6 16 (by decide) 3
  have w15 : dt4 18 0 = dt 18 0 := hF6 18 (by decide) 0
  have w16 : dt4 24 3 = dt 24 3 := hF6 24 (by decide) 3
  have w17 : dt4 27 3 = dt 27 3 := hF6 27 (by decide) 3
  have w18 : dt4 29 3 = dt 29 3 := hF6 29 (by decide) 3
  have w19 : dt4 31 3 = dt 31 3 := hF6 31 (by decide) 3
  have w20 : dt4 33 3 = dt 33 3 := hF6 33 (by decide) 3
  have w21 : dt4 0 2 = dt 0 2 := hF6 0 (by decide) 2
  have w22 : dt4 35 1 = dt 35 1 := hF6 35 (by decide) 1
  have w23 : dt4 35 2 = dt 35 2 := hF6 35 (by decide) 2
  have w24 : dt4 35 3 = dt 35 3 := hF6 35 (by decide) 3
  have w25 : dt4 80 0 = dt 80 0 := hF6 80 (by decide) 0
  have w26 : dt4 80 1 = dt 80 1 := hF6 80 (by decide) 1
  have w27 : dt4 80 2 = dt 80 2 := hF6 80 (by decide) 2
  have w28 : dt4 80 3 = dt 80 3 := hF6 80 (by decide) 3
  have w29 : dt4 80 4 = dt 80 4 := hF6 80 (by decide) 4
  have w30 : dt4 80 5 = dt 80 5 := hF6 80 (by decide) 5
  have w31 : dt4 81 0 = dt 81 0 := hF6 81 (by decide) 0
  have w32 : dt4 81 1 = dt 81 1 := hF6 81 (by decide) 1
  have w33 : dt4 81 2 = dt 81 2 := hF6 81 (by decide) 2
  have w34 : dt4 81 3 = dt 81 3 := hF6 81 (by decide) 3
  have w35 : dt4 81 4 = dt 81 4 := hF6 81 (by decide) 4
  have w36 : dt4 81 5 = dt 81 5 := hF6 81 (by decide) 5
  have w37 : dt4 79 2 = dt 79 2 := hF6 79 (by decide) 2
  have w38 : dt4 79 12 = dt 79 12 := hF6 79 (by decide) 12
  have w39 : dt4 79 19 = dt 79 19 := hF6 79 (by decide) 19
  have w40 : dt4 79 21 = dt 79 21 := hF6 79 (by decide) 21
  rcases h3 with ⟨v_h3, rfl, h3r, h3⟩
  have M241 : MW (dt4 81) := MW_frk hM2 hF6 (by decide)
  have C42 : ∀ j : Nat, dt4 2 j = dt 2 j := fun j => (hF6 2 (by decide) j).trans ((fun _ => rfl) j)
  have C43 : ∀ j : Nat, dt4 3 j = dt 3 j := fun j => (hF6 3 (by decide) j).trans ((fun _ => rfl) j)
  have C44 : ∀ j : Nat, dt4 4 j = dt 4 j := fun j => (hF6 4 (by decide) j).trans ((fun _ => rfl) j)
  have C45 : ∀ j : Nat, dt4 5 j = dt 5 j := fun j => (hF6 5 (by decide) j).trans ((fun _ => rfl) j)
  have C46 : ∀ j : Nat, dt4 6 j = dt 6 j := fun j => (hF6 6 (by decide) j).trans ((fun _ => rfl) j)
  have C47 : ∀ j : Nat, dt4 8 j = dt 8 j := fun j => (hF6 8 (by decide) j).trans ((fun _ => rfl) j)
  have C48 : ∀ j : Nat, dt4 9 j = dt 9 j := fun j => (hF6 9 (by decide) j).trans ((fun _ => rfl) j)
  have C49 : ∀ j : Nat, dt4 11 j = dt 11 j := fun j => (hF6 11 (by decide) j).trans ((fun _ => rfl) j)
  have C50 : ∀ j : Nat, dt4 19 j = dt 19 j := fun j => (hF6 19 (by decide) j).trans ((fun _ => rfl) j)
  have C51 : ∀ j : Nat, dt4 20 j = dt 20 j := fun j => (hF6 20 (by decide) j).trans ((fun _ => rfl) j)
  have C52 : ∀ j : Nat, dt4 21 j = dt 21 j := fun j => (hF6 21 (by decide) j).trans ((fun _ => rfl) j)
  have C53 : ∀ j : Nat, dt4 22 j = dt 22 j := fun j => (hF6 22 (by decide) j).trans ((fun _ => rfl) j)
  have C54 : ∀ j : Nat, dt4 23 j = dt 23 j := fun j => (hF6 23 (by decide) j).trans ((fun _ => rfl) j)
  have C55 : ∀ j : Nat, dt4 25 j = dt 25 j := fun j => (hF6 25 (by decide) j).trans ((fun _ => rfl) j)
  have C56 : ∀ j : Nat, dt4 26 j = dt 26 j := fun j => (hF6 26 (by decide) j).trans ((fun _ => rfl) j)
  have C57 : ∀ j : Nat, dt4 28 j = dt 28 j := fun j => (hF6 28 (by decide) j).trans ((fun _ => rfl) j)
  have C58 : ∀ j : Nat, dt4 36 j = dt 36 j := fun j => (hF6 36 (by decide) j).trans ((fun _ => rfl) j)
  have C59 : ∀ j : Nat, dt4 80 j = dt 80 j := fun j => (hF6 80 (by decide) j).trans ((fun _ => rfl) j)
  have C60 : ∀ j : Nat, dt4 81 j = dt 81 j := fun j => (hF6 81 (by decide) j).trans ((fun _ => rfl) j)
  have C61 : ∀ j : Nat, dt4 85 j = dt 85 j := fun j => (hF6 85 (by decide) j).trans ((fun _ => rfl) j)
  refine go_toq PM267 (k := 6) (pc' := 1274) (L' := [some (.inr (.inr (some 3000))), some (.inr (.inr (some 0))), some (.inr (.inr (some 79))), some (.inl i)]) (st' := [.inl (i + 1), .inr (.inr (some 3000)), .inr (.inr (some 79))]) (w' := (SH, dt4)) rfl ?_
  have r62 := i32_R (xs ((i + 1).toNat))
  refine go_smpq PM267 (L' := [some (.inr (.inr (some 3000))), some (.inr (.inr (some 0))), some (.inr (.inr (some 79))), some (.inl i)]) (st' := [.inl ((xs ((i + 1).toNat)).toInt), .inr (.inr (some 79))]) (w' := (SH, dt4)) rfl rfl (s_iald (n := L) (f := fun j => (xs j).toInt) (am_scr hLL) ⟨by omega, by omega⟩) ?_
  refine go_toq PM267 (k := 4) (pc' := 1279) (L' := [some (.inr (.inr (some 3000))), some (.inr (.inr (some 0))), some (.inr (.inr (some 79))), some (.inl i)]) (st' := [.inl (i + 2), .inr (.inr (some 3000)), .inl ((xs ((i + 1).toNat)).toInt), .inr (.inr (some 79))]) (w' := (SH, dt4)) rfl ?_
  have r63 := i32_R (xs ((i + 2).toNat))
  refine go_smpq PM267 (L' := [some (.inr (.inr (some 3000))), some (.inr (.inr (some 0))), some (.inr (.inr (some 79))), some (.inl i)]) (st' := [.inl ((xs ((i + 2).toNat)).toInt), .inl ((xs ((i + 1).toNat)).toInt), .inr (.inr (some 79))]) (w' := (SH, dt4)) rfl rfl (s_iald (n := L) (f := fun j => (xs j).toInt) (am_scr hLL) ⟨by omega, by omega⟩) ?_
  refine go_callq PM267 PM242 (Q' := _) rfl rfl rfl rfl (sp_X6_curve_k L xs sio (d + 30) dt4 hI5 hM8  ((xs ((i + 1).toNat)).toInt) ⟨by omega, by omega⟩ ((xs ((i + 2).toNat)).toInt) ⟨by omega, by omega⟩ ) ?_
  rintro _ _ ⟨dt65, rfl, hI66, hF67, h64⟩
  refine ⟨rfl, ?_⟩
  have hF68 : Fr [0, 1, 2, 3, 4, 5, 6, 7, 8, 9, 10, 11, 12, 13, 14, 15, 16, 17, 18, 19, 20, 21, 22, 23, 24, 25, 26, 27, 28, 29, 30, 31, 32, 33, 34, 35, 36, 37, 38, 39, 40, 41, 42, 43, 44, 45, 46, 47, 48, 49, 50, 51, 52, 53, 54, 55, 56, 57, 58, 59, 60, 61, 62, 63, 64, 65, 66, 67, 68, 69, 70, 71, 72, 73, 74, 75, 76, 77, 78, 79, 80, 81, 82, 83, 84, 85, 86, 87, 88, 89, 90, 91, 92, 93, 94, 95, 96, 97, 98, 99, 100, 101, 102, 103, 104] dt dt65 := Fr_tr hF7 hF67 (by decide)
  have hM69 : MW (dt65 80) := MW_fr hM8 hF67 (by decide)
  have w70 : dt65 1 0 = dt 1 0 := (hF67 1 (by decide) 0).trans w9
  have w71 : dt65 7 3 = dt 7 3 := (hF67 7 (by decide) 3).trans w10
  have w72 : dt65 10 3 = dt 10 3 := (hF67 10 (by decide) 3).trans w11
  have w73 : dt65 12 3 = dt 12 3 := (hF67 12 (by decide) 3).trans w12
  have w74 : dt65 14 3 = dt 14 3 := (hF67 14 (by decide) 3).trans w13
  have w75 : dt65 16 3 = dt 16 3 := (hF67 16 (by decide) 3).trans w14
  have w76 : dt65 18 0 = dt 18 0 := (hF67 18 (by decide) 0).trans w15
  have w77 : dt65 24 3 = dt 24 3 := (hF67 24 (by decide) 3).trans w16
  have w78 : dt65 27 3 = dt 27 3 := (hF67 27 (by decide) 3).trans w17
  have w79 : dt65 29 3 = dt 29 3 := (hF67 29 (by decide) 3).trans w18
  have w80 : dt65 31 3 = dt 31 3 := (hF67 31 (by decide) 3).trans w19
  have w81 : dt65 33 3 = dt 33 3 := (hF67 33 (by decide) 3).trans w20
  have w82 : dt65 0 2 = dt 0 2 := (hF67 0 (by decide) 2).trans w21
  have w83 : dt65 35 1 = dt 35 1 := (hF67 35 (by decide) 1).trans w22
  have w84 : dt65 35 2 = dt 35 2 := (hF67 35 (by decide) 2).trans w23
  have w85 : dt65 35 3 = dt 35 3 := (hF67 35 (by decide) 3).trans w24
  have w86 : dt65 80 0 = dt 80 0 := (hF67 80 (by decide) 0).trans w25
  have w87 : dt65 80 1 = dt 80 1 := (hF67 80 (by decide) 1).trans w26
  have w88 : dt65 80 2 = dt 80 2 := (hF67 80 (by decide) 2).trans w27
  have w89 : dt65 80 3 = dt 80 3 := (hF67 80 (by decide) 3).trans w28
  have w90 : dt65 80 4 = dt 80 4 := (hF67 80 (by decide) 4).trans w29
  have w91 : dt65 80 5 = dt 80 5 := (hF67 80 (by decide) 5).trans w30
  have w92 : dt65 81 0 = dt 81 0 := (hF67 81 (by decide) 0).trans w31
  have w93 : dt65 81 1 = dt 81 1 := (hF67 81 (by decide) 1).trans w32
  have w94 : dt65 81 2 = dt 81 2 := (hF67 81 (by decide) 2).trans w33
  have w95 : dt65 81 3 = dt 81 3 := (hF67 81 (by decide) 3).trans w34
  have w96 : dt65 81 4 = dt 81 4 := (hF67 81 (by decide) 4).trans w35
  have w97 : dt65 81 5 = dt 81 5 := (hF67 81 (by decide) 5).trans w36
  rcases h64 with ⟨v_h64, rfl, h64r, h64⟩
  obtain ⟨h64_0, h64_1, h64_2, h64_3⟩ := h64
  have w98 : dt65 79 2 = dt 79 2 := h64_0.trans w37
  have w99 : dt65 79 12 = dt 79 12 := h64_1.trans w38
  have w100 : dt65 79 19 = dt 79 19 := h64_2.trans w39
  have w101 : dt65 79 21 = dt 79 21 := h64_3.trans w40
  have M2102 : MW (dt65 81) := MW_frk M241 hF67 (by decide)
  have C103 : ∀ j : Nat, dt65 2 j = dt 2 j := fun j => (hF67 2 (by decide) j).trans (C42 j)
  have C104 : ∀ j : Nat, dt65 3 j = dt 3 j := fun j => (hF67 3 (by decide) j).trans (C43 j)
  have C105 : ∀ j : Nat, dt65 4 j = dt 4 j := fun j => (hF67 4 (by decide) j).trans (C44 j)
  have C106 : ∀ j : Nat, dt65 5 j = dt 5 j := fun j => (hF67 5 (by decide) j).trans (C45 j)
  have C107 : ∀ j : Nat, dt65 6 j = dt 6 j := fun j => (hF67 6 (by decide) j).trans (C46 j)
  have C108 : ∀ j : Nat, dt65 8 j = dt 8 j := fun j => (hF67 8 (by decide) j).trans (C47 j)
  have C109 : ∀ j : Nat, dt65 9 j = dt 9 j := fun j => (hF67 9 (by decide) j).trans (C48 j)
  have C110 : ∀ j : Nat, dt65 11 j = dt 11 j := fun j => (hF67 11 (by decide) j).trans (C49 j)
  have C111 : ∀ j : Nat, dt65 19 j = dt 19 j := fun j => (hF67 19 (by decide) j).trans (C50 j)
  have C112 : ∀ j : Nat, dt65 20 j = dt 20 j := fun j => (hF67 20 (by decide) j).trans (C51 j)
  have C113 : ∀ j : Nat, dt65 21 j = dt 21 j := fun j => (hF67 21 (by decide) j).trans (C52 j)
  have C114 : ∀ j : Nat, dt65 22 j = dt 22 j := fun j => (hF67 22 (by decide) j).trans (C53 j)
  have C115 : ∀ j : Nat, dt65 23 j = dt 23 j := fun j => (hF67 23 (by decide) j).trans (C54 j)
  have C116 : ∀ j : Nat, dt65 25 j = dt 25 j := fun j => (hF67 25 (by decide) j).trans (C55 j)
  have C117 : ∀ j : Nat, dt65 26 j = dt 26 j := fun j => (hF67 26 (by decide) j).trans (C56 j)
  have C118 : ∀ j : Nat, dt65 28 j = dt 28 j := fun j => (hF67 28 (by decide) j).trans (C57 j)
  have C119 : ∀ j : Nat, dt65 36 j = dt 36 j := fun j => (hF67 36 (by decide) j).trans (C58 j)
  have C120 : ∀ j : Nat, dt65 80 j = dt 80 j := fun j => (hF67 80 (by decide) j).trans (C59 j)
  have C121 : ∀ j : Nat, dt65 81 j = dt 81 j := fun j => (hF67 81 (by decide) j).trans (C60 j)
  have C122 : ∀ j : Nat, dt65 85 j = dt 85 j := fun j => (hF67 85 (by decide) j).trans (C61 j)
  refine go_toq PM267 (k := 2) (pc' := 1435) (L' := [some (.inr (.inr (some 3000))), some (.inr (.inr (some 0))), some (.inr (.inr (some 79))), some (.inl i)]) (st' := []) (w' := (SH, dt65)) rfl ?_
  exact K dt65 hI66 hM69 M2102 (w70.trans (hk0.trans w86.symm)) (w71.trans (hk1.trans w87.symm)) (w72.trans (hk2.trans w88.symm)) (w73.trans (hk3.trans w89.symm)) (w74.trans (hk4.trans w90.symm)) (w75.trans (hk5.trans w91.symm)) (w76.trans (hk6.trans w92.symm)) (w77.trans (hk7.trans w93.symm)) (w78.trans (hk8.trans w94.symm)) (w79.trans (hk9.trans w95.symm)) (w80.trans (hk10.trans w96.symm)) (w81.trans (hk11.trans w97.symm)) (w82.trans (hk12.trans w98.symm)) (w83.trans (hk13.trans w99.symm)) (w84.trans (hk14.trans w100.symm)) (w85.trans (hk15.trans w101.symm)) (by first | exact hI | exact TPL_k hd0 C119 C122 (by omega) | (exfalso; omega)) (by first | exact hI | exact SCL_k hd1 hM (fun j _ => C103 j) (fun j _ => C104 j) (fun j _ _ => C120 j) | (exfalso; omega)) (by first | exact hI | exact SCL_k hd2 hM2 (fun j _ => C111 j) (fun j _ => C112 j) (fun j _ _ => C121 j) | (exfalso; omega)) (by first | exact hI | exact QRL_k hd3 hM (fun j _ => C108 j) (C120 1) (fun j _ _ => C120 j) | (exfalso; omega)) (by first | exact hI | exact QRL_k hd4 hM2 (fun j _ => C116 j) (C121 1) (fun j _ _ => C121 j) | (exfalso; omega)) (by first | exact hI | exact SDL_k hd5 hM (fun j _ => C109 j) (C120 1) (fun j _ _ => C120 j) (fun j _ _ => C120 j) | (exfalso; omega)) (by first | exact hI | exact SDL_k hd6 hM2 (fun j _ => C117 j) (C121 1) (fun j _ _ => C121 j) (fun j _ _ => C121 j) | (exfalso; omega)) (by first | exact hI | exact LWL_k hd7 hM (fun j _ => C105 j) (fun j _ => C106 j) (fun j _ => C107 j) (fun j _ _ => C120 j) | (exfalso; omega)) (by first | exact hI | exact LWL_k hd8 hM2 (fun j _ => C113 j) (fun j _ => C114 j) (fun j _ => C115 j) (fun j _ _ => C121 j) | (exfalso; omega)) (by first | exact hI | exact CHL_k hd9 hM (fun j _ => C110 j) (by omega) (fun j _ _ => C120 j) | (exfalso; omega)) (by first | exact hI | exact CHL_k hd10 hM2 (fun j _ => C118 j) (by omega) (fun j _ _ => C121 j) | (exfalso; omega))
set_option maxRecDepth 20000 in
set_option maxHeartbeats 8000000 in
theorem sp_case29 (L : Nat) (xs : Nat → Int32) (sio : Option Nat) (d : Nat) (Q : Option AV → am_W → Prop) (hLL : L ≤ 3072) (i : Int) (hi : 0 ≤ i ∧ i ≤ 3066) (hil : i ≤ (L : Int) - 6) (dt : Nat → Nat → Int) (hI : InvC dt) (hM : MW (dt 80)) (hM2 : MW (dt 81)) (hk0 : dt 1 0 = dt 80 0) (hk1 : dt 7 3 = dt 80 1) (hk2 : dt 10 3 = dt 80 2) (hk3 : dt 12 3 = dt 80 3) (hk4 : dt 14 3 = dt 80 4) (hk5 : dt 16 3 = dt 80 5) (hk6 : dt 18 0 = dt 81 0) (hk7 : dt 24 3 = dt 81 1) (hk8 : dt 27 3 = dt 81 2) (hk9 : dt 29 3 = dt 81 3) (hk10 : dt 31 3 = dt 81 4) (hk11 : dt 33 3 = dt 81 5) (hk12 : dt 0 2 = dt 79 2) (hk13 : dt 35 1 = dt 79 12) (hk14 : dt 35 2 = dt 79 19) (hk15 : dt 35 3 = dt 79 21) (hd0 : TPL (dt 36) (dt 85) (dt 35 1)) (hd1 : SCL (dt 2) (dt 3) (dt 80)) (hd2 : SCL (dt 19) (dt 20) (dt 81)) (hd3 : QRL (dt 8) (dt 80)) (hd4 : QRL (dt 25) (dt 81)) (hd5 : SDL (dt 9) (dt 80)) (hd6 : SDL (dt 26) (dt 81)) (hd7 : LWL (dt 4) (dt 5) (dt 6) (dt 80)) (hd8 : LWL (dt 21) (dt 22) (dt 23) (dt 81)) (hd9 : CHL (dt 11) (dt 80)) (hd10 : CHL (dt 28) (dt 81)) (K : ∀ (dt : Nat → Nat → Int) (hI : InvC dt) (hM : MW (dt 80)) (hM2 : MW (dt 81)) (hk0 : dt 1 0 = dt 80 0) (hk1 : dt 7 3 = dt 80 1) (hk2 : dt 10 3 = dt 80 2) (hk3 : dt 12 3 = dt 80 3) (hk4 : dt 14 3 = dt 80 4) (hk5 : dt 16 3 = dt 80 5) (hk6 : dt 18 0 = dt 81 0) (hk7 : dt 24 3 = dt 81 1) (hk8 : dt 27 3 = dt 81 2) (hk9 : dt 29 3 = dt 81 3) (hk10 : dt 31 3 = dt 81 4) (hk11 : dt 33 3 = dt 81 5) (hk12 : dt 0 2 = dt 79 2) (hk13 : dt 35 1 = dt 79 12) (hk14 : dt 35 2 = dt 79 19) (hk15 : dt 35 3 = dt 79 21) (hd0 : TPL (dt 36) (dt 85) (dt 35 1)) (hd1 : SCL (dt 2) (dt 3) (dt 80)) (hd2 : SCL (dt 19) (dt 20) (dt 81)) (hd3 : QRL (dt 8) (dt 80)) (hd4 : QRL (dt 25) (dt 81)) (hd5 : SDL (dt 9) (dt 80)) (hd6 : SDL (dt 26) (dt 81)) (hd7 : LWL (dt 4) (dt 5) (dt 6) (dt 80)) (hd8 : LWL (dt 21) (dt 22) (dt 23) (dt 81)) (hd9 : CHL (dt 11) (dt 80)) (hd10 : CHL (dt 28) (dt 81)), GO (am_XX L xs sio) (d + 39) 267 1435 [some (.inr (.inr (some 3000))), some (.inr (.inr (some 0))), some (.inr (.inr (some 79))), some (.inl i)] [] (SH, dt) Q) : GO (am_XX L xs sio) (d + 39) 267 1287 [some (.inr (.inr (some 3000))), some (.inr (.inr (some 0))), some (.inr (.inr (some 79))), some (.inl i)] [] (SH, dt) Q := by
  have hF : Fr [0, 1, 2, 3, 4, 5, 6, 7, 8, 9, 10, 11, 12, 13, 14, 15, 16, 17, 18, 19, 20, 21, 22, 23, 24, 25, 26, 27, 28, 29, 30, 31, 32, 33, 34, 35, 36, 37, 38, 39, 40, 41, 42, 43, 44, 45, 46, 47, 48, 49, 50, 51, 52, 53, 54, 55, 56, 57, 58, 59, 60, 61, 62, 63, 64, 65, 66, 67, 68, 69, 70, 71, 72, 73, 74, 75, 76, 77, 78, 79, 80, 81, 82, 83, 84, 85, 86, 87, 88, 89, 90, 91, 92, 93, 94, 95, 96, 97, 98, 99, 100, 101, 102, 103, 104] dt dt := Fr_refl
  have hqo := QOC_R hd3 hM hk1
  have hb1_ := hM.1.1
  have hb2_ := hM.1.2.1
  have hb3_ := hM.1.2.2.1
  have halk : ALK dt (dt 80) := ⟨hd7, hd3, hd5, hd9, hk1, hk2⟩
  refine go_toq PM267 (k := 5) (pc' := 1292) (L' := [some (.inr (.inr (some 3000))), some (.inr (.inr (some 0))), some (.inr (.inr (some 79))), some (.inl i)]) (st' := [.inl (i + 1), .inr (.inr (some 3000)), .inr (.inr (some 0))]) (w' := (SH, dt)) rfl ?_
  have r1 := i32_R (xs ((i + 1).toNat))
  refine go_smpq PM267 (L' := [some (.inr (.inr (some 3000))), some (.inr (.inr (some 0))), some (.inr (.inr (some 79))), some (.inl i)]) (st' := [.inl ((xs ((i + 1).toNat)).toInt), .inr (.inr (some 0))]) (w' := (SH, dt)) rfl rfl (s_iald (n := L) (f := fun j => (xs j).toInt) (am_scr hLL) ⟨by omega, by omega⟩) ?_
  refine go_callq PM267 PM96 (Q' := _) rfl rfl rfl rfl (sp_X5_score L xs sio (d + 32) dt hI  ((xs ((i + 1).toNat)).toInt) ⟨by omega, by omega⟩ ) ?_
  rintro _ _ ⟨dt3, rfl, hI4, hF5, h2⟩
  refine ⟨rfl, ?_⟩
  have hF6 : Fr [0, 1, 2, 3, 4, 5, 6, 7, 8, 9, 10, 11, 12, 13, 14, 15, 16, 17, 18, 19, 20, 21, 22, 23, 24, 25, 26, 27, 28, 29, 30, 31, 32, 33, 34, 35, 36, 37, 38, 39, 40, 41, 42, 43, 44, 45, 46, 47, 48, 49, 50, 51, 52, 53, 54, 55, 56, 57, 58, 59, 60, 61, 62, 63, 64, 65, 66, 67, 68, 69, 70, 71, 72, 73, 74, 75, 76, 77, 78, 79, 80, 81, 82, 83, 84, 85, 86, 87, 88, 89, 90, 91, 92, 93, 94, 95, 96, 97, 98, 99, 100, 101, 102, 103, 104] dt dt3 := Fr_tr hF hF5 (by decide)
  have hM7 : MW (dt3 80) := MW_fr hM hF5 (by decide)
  have w8 : dt3 1 0 = dt 1 0 := hF5 1 (by decide) 0
  have w9 : dt3 7 3 = dt 7 3 := hF5 7 (by decide) 3
  have w10 : dt3 10 3 = dt 10 3 := hF5 10 (by decide) 3
  have w11 : dt3 12 3 = dt 12 3 := hF5 12 (by decide) 3
  have w12 : dt3 14 3 = dt 14 3 := hF5 14 (by decide) 3
  have w13 : dt3 16 3 = dt 16 3 := hF5 16 (by decide) 3
  have w14 : dt3 18 0 = dt 18 0 := hF5 18 (by decide) 0
  have w15 : dt3 24 3 = dt 24 3 := hF5 24 (by decide) 3
  have w16 : dt3 27 3 = dt 27 3 := hF5 27 (by decide) 3
  have w17 : dt3 29 3 = dt 29 3 := hF5 29 (by decide) 3
  have w18 : dt3 31 3 = dt 31 3 := hF5 31 (by decide) 3
  have w19 : dt3 33 3 = dt 33 3 := hF5 33 (by decide) 3
  have w20 : dt3 0 2 = dt 0 2 := hF5 0 (by decide) 2
  have w21 : dt3 35 1 = dt 35 1 := hF5 35 (by decide) 1
  have w22 : dt3 35 2 = dt 35 2 := hF5 35 (by decide) 2
  have w23 : dt3 35 3 = dt 35 3 := hF5 35 (by decide) 3
  have w24 : dt3 80 0 = dt 80 0 := hF5 80 (by decide) 0
  have w25 : dt3 80 1 = dt 80 1 := hF5 80 (by decide) 1
  have w26 : dt3 80 2 = dt 80 2 := hF5 80 (by decide) 2
  have w27 : dt3 80 3 = dt 80 3 := hF5 80 (by decide) 3
  have w28 : dt3 80 4 = dt 80 4 := hF5 80 (by decide) 4
  have w29 : dt3 80 5 = dt 80 5 := hF5 80 (by decide) 5
  have w30 : dt3 81 0 = dt 81 0 := hF5 81 (by decide) 0
  have w31 : dt3 81 1 = dt 81 1 := hF5 81 (by decide) 1
  have w32 : dt3 81 2 = dt 81 2 := hF5 81 (by decide) 2
  have w33 : dt3 81 3 = dt 81 3 := hF5 81 (by decide) 3
  have w34 : dt3 81 4 = dt 81 4 := hF5 81 (by decide) 4
  have w35 : dt3 81 5 = dt 81 5 := hF5 81 (by decide) 5
  have w36 : dt3 79 2 = dt 79 2 := hF5 79 (by decide) 2
  have w37 : dt3 79 12 = dt 79 12 := hF5 79 (by decide) 12
  have w38 : dt3 79 19 = dt 79 19 := hF5 79 (by decide) 19
  have w39 : dt3 79 21 = dt 79 21 := hF5 79 (by decide) 21
  rcases h2 with ⟨v_h2, rfl, h2r, h2⟩
  have M240 : MW (dt3 81) := MW_frk hM2 hF5 (by decide)
  have C41 : ∀ j : Nat, dt3 2 j = dt 2 j := fun j => (hF5 2 (by decide) j).trans ((fun _ => rfl) j)
  have C42 : ∀ j : Nat, dt3 3 j = dt 3 j := fun j => (hF5 3 (by decide) j).trans ((fun _ => rfl) j)
  have C43 : ∀ j : Nat, dt3 4 j = dt 4 j := fun j => (hF5 4 (by decide) j).trans ((fun _ => rfl) j)
  have C44 : ∀ j : Nat, dt3 5 j = dt 5 j := fun j => (hF5 5 (by decide) j).trans ((fun _ => rfl) j)
  have C45 : ∀ j : Nat, dt3 6 j = dt 6 j := fun j => (hF5 6 (by decide) j).trans ((fun _ => rfl) j)
  have C46 : ∀ j : Nat, dt3 8 j = dt 8 j := fun j => (hF5 8 (by decide) j).trans ((fun _ => rfl) j)
  have C47 : ∀ j : Nat, dt3 9 j = dt 9 j := fun j => (hF5 9 (by decide) j).trans ((fun _ => rfl) j)
  have C48 : ∀ j : Nat, dt3 11 j = dt 11 j := fun j => (hF5 11 (by decide) j).trans ((fun _ => rfl) j)
  have C49 : ∀ j : Nat, dt3 19 j = dt 19 j := fun j => (hF5 19 (by decide) j).trans ((fun _ => rfl) j)
  have C50 : ∀ j : Nat, dt3 20 j = dt 20 j := fun j => (hF5 20 (by decide) j).trans ((fun _ => rfl) j)
  have C51 : ∀ j : Nat, dt3 21 j = dt 21 j := fun j => (hF5 21 (by decide) j).trans ((fun _ => rfl) j)
  have C52 : ∀ j : Nat, dt3 22 j = dt 22 j := fun j => (hF5 22 (by decide) j).trans ((fun _ => rfl) j)
  have C53 : ∀ j : Nat, dt3 23 j = dt 23 j := fun j => (hF5 23 (by decide) j).trans ((fun _ => rfl) j)
  have C54 : ∀ j : Nat, dt3 25 j = dt 25 j := fun j => (hF5 25 (by decide) j).trans ((fun _ => rfl) j)
  have C55 : ∀ j : Nat, dt3 26 j = dt 26 j := fun j => (hF5 26 (by decide) j).trans ((fun _ => rfl) j)
  have C56 : ∀ j : Nat, dt3 28 j = dt 28 j := fun j => (hF5 28 (by decide) j).trans ((fun _ => rfl) j)
  have C57 : ∀ j : Nat, dt3 36 j = dt 36 j := fun j => (hF5 36 (by decide) j).trans ((fun _ => rfl) j)
  have C58 : ∀ j : Nat, dt3 80 j = dt 80 j := fun j => (hF5 80 (by decide) j).trans ((fun _ => rfl) j)
  have C59 : ∀ j : Nat, dt3 81 j = dt 81 j := fun j => (hF5 81 (by decide) j).trans ((fun _ => rfl) j)
  have C60 : ∀ j : Nat, dt3 85 j = dt 85 j := fun j => (hF5 85 (by decide) j).trans ((fun _ => rfl) j)
  refine go_toq PM267 (k := 6) (pc' := 1302) (L' := [some (.inr (.inr (some 3000))), some (.inr (.inr (some 0))), some (.inr (.inr (some 79))), some (.inl i)]) (st' := [.inl (i + 1), .inr (.inr (some 3000)), .inr (.inr (some 79))]) (w' := (SH, dt3)) rfl ?_
  have r61 := i32_R (xs ((i + 1).toNat))
  refine go_smpq PM267 (L' := [some (.inr (.inr (some 3000))), some (.inr (.inr (some 0))), some (.inr (.inr (some 79))), some (.inl i)]) (st' := [.inl ((xs ((i + 1).toNat)).toInt), .inr (.inr (some 79))]) (w' := (SH, dt3)) rfl rfl (s_iald (n := L) (f := fun j => (xs j).toInt) (am_scr hLL) ⟨by omega, by omega⟩) ?_
  refine go_callq PM267 PM245 (Q' := _) rfl rfl rfl rfl (sp_X6_score L xs sio (d + 30) dt3 hI4 hM7  ((xs ((i + 1).toNat)).toInt) ⟨by omega, by omega⟩ ) ?_
  rintro _ _ ⟨dt63, rfl, hI64, hF65, h62⟩
  refine ⟨rfl, ?_⟩
  have hF66 : Fr [0, 1, 2, 3, 4, 5, 6, 7, 8, 9, 10, 11, 12, 13, 14, 15, 16, 17, 18, 19, 20, 21, 22, 23, 24, 25, 26, 27, 28, 29, 30, 31, 32, 33, 34, 35, 36, 37, 38, 39, 40, 41, 42, 43, 44, 45, 46, 47, 48, 49, 50, 51, 52, 53, 54, 55, 56, 57, 58, 59, 60, 61, 62, 63, 64, 65, 66, 67, 68, 69, 70, 71, 72, 73, 74, 75, 76, 77, 78, 79, 80, 81, 82, 83, 84, 85, 86, 87, 88, 89, 90, 91, 92, 93, 94, 95, 96, 97, 98, 99, 100, 101, 102, 103, 104] dt dt63 := Fr_tr hF6 hF65 (by decide)
  have hM67 : MW (dt63 80) := MW_fr hM7 hF65 (by decide)
  have w68 : dt63 1 0 = dt 1 0 := (hF65 1 (by decide) 0).trans w8
  have w69 : dt63 7 3 = dt 7 3 := (hF65 7 (by decide) 3).trans w9
  have w70 : dt63 10 3 = dt 10 3 := (hF65 10 (by decide) 3).trans w10
  have w71 : dt63 12 3 = dt 12 3 := (hF65 12 (by decide) 3).trans w11
  have w72 : dt63 14 3 = dt 14 3 := (hF65 14 (by decide) 3).trans w12
  have w73 : dt63 16 3 = dt 16 3 := (hF65 16 (by decide) 3).trans w13
  have w74 : dt63 18 0 = dt 18 0 := (hF65 18 (by decide) 0).trans w14
  have w75 : dt63 24 3 = dt 24 3 := (hF65 24 (by decide) 3).trans w15
  have w76 : dt63 27 3 = dt 27 3 := (hF65 27 (by decide) 3).trans w16
  have w77 : dt63 29 3 = dt 29 3 := (hF65 29 (by decide) 3).trans w17
  have w78 : dt63 31 3 = dt 31 3 := (hF65 31 (by decide) 3).trans w18
  have w79 : dt63 33 3 = dt 33 3 := (hF65 33 (by decide) 3).trans w19
  have w80 : dt63 0 2 = dt 0 2 := (hF65 0 (by decide) 2).trans w20
  have w81 : dt63 35 1 = dt 35 1 := (hF65 35 (by decide) 1).trans w21
  have w82 : dt63 35 2 = dt 35 2 := (hF65 35 (by decide) 2).trans w22
  have w83 : dt63 35 3 = dt 35 3 := (hF65 35 (by decide) 3).trans w23
  have w84 : dt63 80 0 = dt 80 0 := (hF65 80 (by decide) 0).trans w24
  have w85 : dt63 80 1 = dt 80 1 := (hF65 80 (by decide) 1).trans w25
  have w86 : dt63 80 2 = dt 80 2 := (hF65 80 (by decide) 2).trans w26
  have w87 : dt63 80 3 = dt 80 3 := (hF65 80 (by decide) 3).trans w27
  have w88 : dt63 80 4 = dt 80 4 := (hF65 80 (by decide) 4).trans w28
  have w89 : dt63 80 5 = dt 80 5 := (hF65 80 (by decide) 5).trans w29
  have w90 : dt63 81 0 = dt 81 0 := (hF65 81 (by decide) 0).trans w30
  have w91 : dt63 81 1 = dt 81 1 := (hF65 81 (by decide) 1).trans w31
  have w92 : dt63 81 2 = dt 81 2 := (hF65 81 (by decide) 2).trans w32
  have w93 : dt63 81 3 = dt 81 3 := (hF65 81 (by decide) 3).trans w33
  have w94 : dt63 81 4 = dt 81 4 := (hF65 81 (by decide) 4).trans w34
  have w95 : dt63 81 5 = dt 81 5 := (hF65 81 (by decide) 5).trans w35
  have w96 : dt63 79 2 = dt 79 2 := (hF65 79 (by decide) 2).trans w36
  have w97 : dt63 79 12 = dt 79 12 := (hF65 79 (by decide) 12).trans w37
  have w98 : dt63 79 19 = dt 79 19 := (hF65 79 (by decide) 19).trans w38
  have w99 : dt63 79 21 = dt 79 21 := (hF65 79 (by decide) 21).trans w39
  rcases h62 with ⟨v_h62, rfl, h62r, h62⟩
  have M2100 : MW (dt63 81) := MW_frk M240 hF65 (by decide)
  have C101 : ∀ j : Nat, dt63 2 j = dt 2 j := fun j => (hF65 2 (by decide) j).trans (C41 j)
  have C102 : ∀ j : Nat, dt63 3 j = dt 3 j := fun j => (hF65 3 (by decide) j).trans (C42 j)
  have C103 : ∀ j : Nat, dt63 4 j = dt 4 j := fun j => (hF65 4 (by decide) j).trans (C43 j)
  have C104 : ∀ j : Nat, dt63 5 j = dt 5 j := fun j => (hF65 5 (by decide) j).trans (C44 j)
  have C105 : ∀ j : Nat, dt63 6 j = dt 6 j := fun j => (hF65 6 (by decide) j).trans (C45 j)
  have C106 : ∀ j : Nat, dt63 8 j = dt 8 j := fun j => (hF65 8 (by decide) j).trans (C46 j)
  have C107 : ∀ j : Nat, dt63 9 j = dt 9 j := fun j => (hF65 9 (by decide) j).trans (C47 j)
  have C108 : ∀ j : Nat, dt63 11 j = dt 11 j := fun j => (hF65 11 (by decide) j).trans (C48 j)
  have C109 : ∀ j : Nat, dt63 19 j = dt 19 j := fun j => (hF65 19 (by decide) j).trans (C49 j)
  have C110 : ∀ j : Nat, dt63 20 j = dt 20 j := fun j => (hF65 20 (by decide) j).trans (C50 j)
  have C111 : ∀ j : Nat, dt63 21 j = dt 21 j := fun j => (hF65 21 (by decide) j).trans (C51 j)
  have C112 : ∀ j : Nat, dt63 22 j = dt 22 j := fun j => (hF65 22 (by decide) j).trans (C52 j)
  have C113 : ∀ j : Nat, dt63 23 j = dt 23 j := fun j => (hF65 23 (by decide) j).trans (C53 j)
  have C114 : ∀ j : Nat, dt63 25 j = dt 25 j := fun j => (hF65 25 (by decide) j).trans (C54 j)
  have C115 : ∀ j : Nat, dt63 26 j = dt 26 j := fun j => (hF65 26 (by decide) j).trans (C55 j)
  have C116 : ∀ j : Nat, dt63 28 j = dt 28 j := fun j => (hF65 28 (by decide) j).trans (C56 j)
  have C117 : ∀ j : Nat, dt63 36 j = dt 36 j := fun j => (hF65 36 (by decide) j).trans (C57 j)
  have C118 : ∀ j : Nat, dt63 80 j = dt 80 j := fun j => (hF65 80 (by decide) j).trans (C58 j)
  have C119 : ∀ j : Nat, dt63 81 j = dt 81 j := fun j => (hF65 81 (by decide) j).trans (C59 j)
  have C120 : ∀ j : Nat, dt63 85 j = dt 85 j := fun j => (hF65 85 (by decide) j).trans (C60 j)
  refine go_toq PM267 (k := 2) (pc' := 1435) (L' := [some (.inr (.inr (some 3000))), some (.inr (.inr (some 0))), some (.inr (.inr (some 79))), some (.inl i)]) (st' := []) (w' := (SH, dt63)) rfl ?_
  exact K dt63 hI64 hM67 M2100 (w68.trans (hk0.trans w84.symm)) (w69.trans (hk1.trans w85.symm)) (w70.trans (hk2.trans w86.symm)) (w71.trans (hk3.trans w87.symm)) (w72.trans (hk4.trans w88.symm)) (w73.trans (hk5.trans w89.symm)) (w74.trans (hk6.trans w90.symm)) (w75.trans (hk7.trans w91.symm)) (w76.trans (hk8.trans w92.symm)) (w77.trans (hk9.trans w93.symm)) (w78.trans (hk10.trans w94.symm)) (w79.trans (hk11.trans w95.symm)) (w80.trans (hk12.trans w96.symm)) (w81.trans (hk13.trans w97.symm)) (w82.trans (hk14.trans w98.symm)) (w83.trans (hk15.trans w99.symm)) (by first | exact hI | exact TPL_k hd0 C117 C120 (by omega) | (exfalso; omega)) (by first | exact hI | exact SCL_k hd1 hM (fun j _ => C101 j) (fun j _ => C102 j) (fun j _ _ => C118 j) | (exfalso; omega)) (by first | exact hI | exact SCL_k hd2 hM2 (fun j _ => C109 j) (fun j _ => C110 j) (fun j _ _ => C119 j) | (exfalso; omega)) (by first | exact hI | exact QRL_k hd3 hM (fun j _ => C106 j) (C118 1) (fun j _ _ => C118 j) | (exfalso; omega)) (by first | exact hI | exact QRL_k hd4 hM2 (fun j _ => C114 j) (C119 1) (fun j _ _ => C119 j) | (exfalso; omega)) (by first | exact hI | exact SDL_k hd5 hM (fun j _ => C107 j) (C118 1) (fun j _ _ => C118 j) (fun j _ _ => C118 j) | (exfalso; omega)) (by first | exact hI | exact SDL_k hd6 hM2 (fun j _ => C115 j) (C119 1) (fun j _ _ => C119 j) (fun j _ _ => C119 j) | (exfalso; omega)) (by first | exact hI | exact LWL_k hd7 hM (fun j _ => C103 j) (fun j _ => C104 j) (fun j _ => C105 j) (fun j _ _ => C118 j) | (exfalso; omega)) (by first | exact hI | exact LWL_k hd8 hM2 (fun j _ => C111 j) (fun j _ => C112 j) (fun j _ => C113 j) (fun j _ _ => C119 j) | (exfalso; omega)) (by first | exact hI | exact CHL_k hd9 hM (fun j _ => C108 j) (by omega) (fun j _ _ => C118 j) | (exfalso; omega)) (by first | exact hI | exact CHL_k hd10 hM2 (fun j _ => C116 j) (by omega) (fun j _ _ => C119 j) | (exfalso; omega))
set_option maxRecDepth 20000 in
set_option maxHeartbeats 8000000 in
theorem sp_case30 (L : Nat) (xs : Nat → Int32) (sio : Option Nat) (d : Nat) (Q : Option AV → am_W → Prop) (hLL : L ≤ 3072) (i : Int) (hi : 0 ≤ i ∧ i ≤ 3066) (hil : i ≤ (L : Int) - 6) (dt : Nat → Nat → Int) (hI : InvC dt) (hM : MW (dt 80)) (hM2 : MW (dt 81)) (hk0 : dt 1 0 = dt 80 0) (hk1 : dt 7 3 = dt 80 1) (hk2 : dt 10 3 = dt 80 2) (hk3 : dt 12 3 = dt 80 3) (hk4 : dt 14 3 = dt 80 4) (hk5 : dt 16 3 = dt 80 5) (hk6 : dt 18 0 = dt 81 0) (hk7 : dt 24 3 = dt 81 1) (hk8 : dt 27 3 = dt 81 2) (hk9 : dt 29 3 = dt 81 3) (hk10 : dt 31 3 = dt 81 4) (hk11 : dt 33 3 = dt 81 5) (hk12 : dt 0 2 = dt 79 2) (hk13 : dt 35 1 = dt 79 12) (hk14 : dt 35 2 = dt 79 19) (hk15 : dt 35 3 = dt 79 21) (hd0 : TPL (dt 36) (dt 85) (dt 35 1)) (hd1 : SCL (dt 2) (dt 3) (dt 80)) (hd2 : SCL (dt 19) (dt 20) (dt 81)) (hd3 : QRL (dt 8) (dt 80)) (hd4 : QRL (dt 25) (dt 81)) (hd5 : SDL (dt 9) (dt 80)) (hd6 : SDL (dt 26) (dt 81)) (hd7 : LWL (dt 4) (dt 5) (dt 6) (dt 80)) (hd8 : LWL (dt 21) (dt 22) (dt 23) (dt 81)) (hd9 : CHL (dt 11) (dt 80)) (hd10 : CHL (dt 28) (dt 81)) (K : ∀ (dt : Nat → Nat → Int) (hI : InvC dt) (hM : MW (dt 80)) (hM2 : MW (dt 81)) (hk0 : dt 1 0 = dt 80 0) (hk1 : dt 7 3 = dt 80 1) (hk2 : dt 10 3 = dt 80 2) (hk3 : dt 12 3 = dt 80 3) (hk4 : dt 14 3 = dt 80 4) (hk5 : dt 16 3 = dt 80 5) (hk6 : dt 18 0 = dt 81 0) (hk7 : dt 24 3 = dt 81 1) (hk8 : dt 27 3 = dt 81 2) (hk9 : dt 29 3 = dt 81 3) (hk10 : dt 31 3 = dt 81 4) (hk11 : dt 33 3 = dt 81 5) (hk12 : dt 0 2 = dt 79 2) (hk13 : dt 35 1 = dt 79 12) (hk14 : dt 35 2 = dt 79 19) (hk15 : dt 35 3 = dt 79 21) (hd0 : TPL (dt 36) (dt 85) (dt 35 1)) (hd1 : SCL (dt 2) (dt 3) (dt 80)) (hd2 : SCL (dt 19) (dt 20) (dt 81)) (hd3 : QRL (dt 8) (dt 80)) (hd4 : QRL (dt 25) (dt 81)) (hd5 : SDL (dt 9) (dt 80)) (hd6 : SDL (dt 26) (dt 81)) (hd7 : LWL (dt 4) (dt 5) (dt 6) (dt 80)) (hd8 : LWL (dt 21) (dt 22) (dt 23) (dt 81)) (hd9 : CHL (dt 11) (dt 80)) (hd10 : CHL (dt 28) (dt 81)), GO (am_XX L xs sio) (d + 39) 267 1435 [some (.inr (.inr (some 3000))), some (.inr (.inr (some 0))), some (.inr (.inr (some 79))), some (.inl i)] [] (SH, dt) Q) : GO (am_XX L xs sio) (d + 39) 267 1310 [some (.inr (.inr (some 3000))), some (.inr (.inr (some 0))), some (.inr (.inr (some 79))), some (.inl i)] [] (SH, dt) Q := by
  have hF : Fr [0, 1, 2, 3, 4, 5, 6, 7, 8, 9, 10, 11, 12, 13, 14, 15, 16, 17, 18, 19, 20, 21, 22, 23, 24, 25, 26, 27, 28, 29, 30, 31, 32, 33, 34, 35, 36, 37, 38, 39, 40, 41, 42, 43, 44, 45, 46, 47, 48, 49, 50, 51, 52, 53, 54, 55, 56, 57, 58, 59, 60, 61, 62, 63, 64, 65, 66, 67, 68, 69, 70, 71, 72, 73, 74, 75, 76, 77, 78, 79, 80, 81, 82, 83, 84, 85, 86, 87, 88, 89, 90, 91, 92, 93, 94, 95, 96, 97, 98, 99, 100, 101, 102, 103, 104] dt dt := Fr_refl
  have hqo := QOC_R hd3 hM hk1
  have hb1_ := hM.1.1
  have hb2_ := hM.1.2.1
  have hb3_ := hM.1.2.2.1
  have halk : ALK dt (dt 80) := ⟨hd7, hd3, hd5, hd9, hk1, hk2⟩
  have r1 : (-2147483648) ≤ dt 1 0 ∧ dt 1 0 ≤ 2147483647 := InvC_get hI 1 0 rfl rfl
  have r2 : 0 ≤ dt 7 3 ∧ dt 7 3 ≤ 12 := InvC_get hI 7 3 rfl rfl
  have r3 : 0 ≤ dt 10 3 ∧ dt 10 3 ≤ 40 := InvC_get hI 10 3 rfl rfl
  have r4 : 0 ≤ dt 12 3 ∧ dt 12 3 ≤ 300 := InvC_get hI 12 3 rfl rfl
  have r5 : 0 ≤ dt 14 3 ∧ dt 14 3 ≤ 40 := InvC_get hI 14 3 rfl rfl
  have r6 : 0 ≤ dt 16 3 ∧ dt 16 3 ≤ 20 := InvC_get hI 16 3 rfl rfl
  have r7 : (-2147483648) ≤ dt 18 0 ∧ dt 18 0 ≤ 2147483647 := InvC_get hI 18 0 rfl rfl
  have r8 : 0 ≤ dt 24 3 ∧ dt 24 3 ≤ 12 := InvC_get hI 24 3 rfl rfl
  have r9 : 0 ≤ dt 27 3 ∧ dt 27 3 ≤ 40 := InvC_get hI 27 3 rfl rfl
  have r10 : 0 ≤ dt 29 3 ∧ dt 29 3 ≤ 300 := InvC_get hI 29 3 rfl rfl
  have r11 : 0 ≤ dt 31 3 ∧ dt 31 3 ≤ 40 := InvC_get hI 31 3 rfl rfl
  have r12 : 0 ≤ dt 33 3 ∧ dt 33 3 ≤ 20 := InvC_get hI 33 3 rfl rfl
  have r13 : 0 ≤ dt 0 2 ∧ dt 0 2 ≤ 1 := InvC_get hI 0 2 rfl rfl
  have r14 : 0 ≤ dt 35 1 ∧ dt 35 1 ≤ 500 := InvC_get hI 35 1 rfl rfl
  have r15 : (-2147483648) ≤ dt 35 2 ∧ dt 35 2 ≤ 2147483647 := InvC_get hI 35 2 rfl rfl
  have r16 : (-2147483648) ≤ dt 35 3 ∧ dt 35 3 ≤ 2147483647 := InvC_get hI 35 3 rfl rfl
  have r17 : (-2147483648) ≤ dt 80 0 ∧ dt 80 0 ≤ 2147483647 := InvC_get hI 80 0 rfl rfl
  have r18 : (-2147483648) ≤ dt 80 1 ∧ dt 80 1 ≤ 2147483647 := InvC_get hI 80 1 rfl rfl
  have r19 := MW_n hM
  have r20 : (-2147483648) ≤ dt 80 2 ∧ dt 80 2 ≤ 2147483647 := InvC_get hI 80 2 rfl rfl
  have r21 : (-2147483648) ≤ dt 80 3 ∧ dt 80 3 ≤ 2147483647 := InvC_get hI 80 3 rfl rfl
  have r22 : (-2147483648) ≤ dt 80 4 ∧ dt 80 4 ≤ 2147483647 := InvC_get hI 80 4 rfl rfl
  have r23 : (-2147483648) ≤ dt 80 5 ∧ dt 80 5 ≤ 2147483647 := InvC_get hI 80 5 rfl rfl
  have r24 : (-2147483648) ≤ dt 81 0 ∧ dt 81 0 ≤ 2147483647 := InvC_get hI 81 0 rfl rfl
  have r25 : (-2147483648) ≤ dt 81 1 ∧ dt 81 1 ≤ 2147483647 := InvC_get hI 81 1 rfl rfl
  have r26 : (-2147483648) ≤ dt 81 2 ∧ dt 81 2 ≤ 2147483647 := InvC_get hI 81 2 rfl rfl
  have r27 : (-2147483648) ≤ dt 81 3 ∧ dt 81 3 ≤ 2147483647 := InvC_get hI 81 3 rfl rfl
  have r28 : (-2147483648) ≤ dt 81 4 ∧ dt 81 4 ≤ 2147483647 := InvC_get hI 81 4 rfl rfl
  have r29 : (-2147483648) ≤ dt 81 5 ∧ dt 81 5 ≤ 2147483647 := InvC_get hI 81 5 rfl rfl
  have r30 : 0 ≤ dt 79 2 ∧ dt 79 2 ≤ 1 := InvC_get hI 79 2 rfl rfl
  have r31 : 0 ≤ dt 79 12 ∧ dt 79 12 ≤ 500 := InvC_get hI 79 12 rfl rfl
  have r32 : (-2147483648) ≤ dt 79 19 ∧ dt 79 19 ≤ 2147483647 := InvC_get hI 79 19 rfl rfl
  have r33 : (-2147483648) ≤ dt 79 21 ∧ dt 79 21 ≤ 2147483647 := InvC_get hI 79 21 rfl rfl
  refine go_toq PM267 (k := 5) (pc' := 1315) (L' := [some (.inr (.inr (some 3000))), some (.inr (.inr (some 0))), some (.inr (.inr (some 79))), some (.inl i)]) (st' := [.inl (i + 1), .inr (.inr (some 3000)), .inr (.inr (some 0))]) (w' := (SH, dt)) rfl ?_
  have r34 := i32_R (xs ((i + 1).toNat))
  refine go_smpq PM267 (L' := [some (.inr (.inr (some 3000))), some (.inr (.inr (some 0))), some (.inr (.inr (some 79))), some (.inl i)]) (st' := [.inl ((xs ((i + 1).toNat)).toInt), .inr (.inr (some 0))]) (w' := (SH, dt)) rfl rfl (s_iald (n := L) (f := fun j => (xs j).toInt) (am_scr hLL) ⟨by omega, by omega⟩) ?_
  refine go_toq PM267 (k := 4) (pc' := 1320) (L' := [some (.inr (.inr (some 3000))), some (.inr (.inr (some 0))), some (.inr (.inr (some 79))), some (.inl i)]) (st' := [.inl (i + 2), .inr (.inr (some 3000)), .inl ((xs ((i + 1).toNat)).toInt), .inr (.inr (some 0))]) (w' := (SH, dt)) rfl ?_
  have r35 := i32_R (xs ((i + 2).toNat))
  refine go_smpq PM267 (L' := [some (.inr (.inr (some 3000))), some (.inr (.inr (some 0))), some (.inr (.inr (some 79))), some (.inl i)]) (st' := [.inl ((xs ((i + 2).toNat)).toInt), .inl ((xs ((i + 1).toNat)).toInt), .inr (.inr (some 0))]) (w' := (SH, dt)) rfl rfl (s_iald (n := L) (f := fun j => (xs j).toInt) (am_scr hLL) ⟨by omega, by omega⟩) ?_
  refine go_toq PM267 (k := 4) (pc' := 1325) (L' := [some (.inr (.inr (some 3000))), some (.inr (.inr (some 0))), some (.inr (.inr (some 79))), some (.inl i)]) (st' := [.inl (i + 3), .inr (.inr (some 3000)), .inl ((xs ((i + 2).toNat)).toInt), .inl ((xs ((i + 1).toNat)).toInt), .inr (.inr (some 0))]) (w' := (SH, dt)) rfl ?_
  have r36 := i32_R (xs ((i + 3).toNat))
  refine go_smpq PM267 (L' := [some (.inr (.inr (some 3000))), some (.inr (.inr (some 0))), some (.inr (.inr (some 79))), some (.inl i)]) (st' := [.inl ((xs ((i + 3).toNat)).toInt), .inl ((xs ((i + 2).toNat)).toInt), .inl ((xs ((i + 1).toNat)).toInt), .inr (.inr (some 0))]) (w' := (SH, dt)) rfl rfl (s_iald (n := L) (f := fun j => (xs j).toInt) (am_scr hLL) ⟨by omega, by omega⟩) ?_
  refine go_toq PM267 (k := 4) (pc' := 1330) (L' := [some (.inr (.inr (some 3000))), some (.inr (.inr (some 0))), some (.inr (.inr (some 79))), some (.inl i)]) (st' := [.inl (i + 4), .inr (.inr (some 3000)), .inl ((xs ((i + 3).toNat)).toInt), .inl ((xs ((i + 2).toNat)).toInt), .inl ((xs ((i + 1).toNat)).toInt), .inr (.inr (some 0))]) (w' := (SH, dt)) rfl ?_
  have r37 := i32_R (xs ((i + 4).toNat))
  refine go_smpq PM267 (L' := [some (.inr (.inr (some 3000))), some (.inr (.inr (some 0))), some (.inr (.inr (some 79))), some (.inl i)]) (st' := [.inl ((xs ((i + 4).toNat)).toInt), .inl ((xs ((i + 3).toNat)).toInt), .inl ((xs ((i + 2).toNat)).toInt), .inl ((xs ((i + 1).toNat)).toInt), .inr (.inr (some 0))]) (w' := (SH, dt)) rfl rfl (s_iald (n := L) (f := fun j => (xs j).toInt) (am_scr hLL) ⟨by omega, by omega⟩) ?_
  refine go_toq PM267 (k := 4) (pc' := 1335) (L' := [some (.inr (.inr (some 3000))), some (.inr (.inr (some 0))), some (.inr (.inr (some 79))), some (.inl i)]) (st' := [.inl (i + 5), .inr (.inr (some 3000)), .inl ((xs ((i + 4).toNat)).toInt), .inl ((xs ((i + 3).toNat)).toInt), .inl ((xs ((i + 2).toNat)).toInt), .inl ((xs ((i + 1).toNat)).toInt), .inr (.inr (some 0))]) (w' := (SH, dt)) rfl ?_
  have r38 := i32_R (xs ((i + 5).toNat))
  refine go_smpq PM267 (L' := [some (.inr (.inr (some 3000))), some (.inr (.inr (some 0))), some (.inr (.inr (some 79))), some (.inl i)]) (st' := [.inl ((xs ((i + 5).toNat)).toInt), .inl ((xs ((i + 4).toNat)).toInt), .inl ((xs ((i + 3).toNat)).toInt), .inl ((xs ((i + 2).toNat)).toInt), .inl ((xs ((i + 1).toNat)).toInt), .inr (.inr (some 0))]) (w' := (SH, dt)) rfl rfl (s_iald (n := L) (f := fun j => (xs j).toInt) (am_scr hLL) ⟨by omega, by omega⟩) ?_
  refine go_callq PM267 PM97 (Q' := _) rfl rfl rfl rfl (sp_X5_next_f L xs sio (d + 32) dt hI (dt 80) hM ((xs ((i + 1).toNat)).toInt) ⟨by omega, by omega⟩ ((xs ((i + 2).toNat)).toInt) ⟨by omega, by omega⟩ ((xs ((i + 3).toNat)).toInt) ⟨by omega, by omega⟩ ((xs ((i + 4).toNat)).toInt) ⟨by omega, by omega⟩ ((xs ((i + 5).toNat)).toInt) ⟨by omega, by omega⟩ (by first | exact True.intro | with_reducible assumption | rfl | omega | trivial | exact hM2 | exact hd1 | exact hqo | exact halk)) ?_
  rintro _ _ ⟨dt40, rfl, hI41, hF42, h39⟩
  refine ⟨rfl, ?_⟩
  have hF43 : Fr [0, 1, 2, 3, 4, 5, 6, 7, 8, 9, 10, 11, 12, 13, 14, 15, 16, 17, 18, 19, 20, 21, 22, 23, 24, 25, 26, 27, 28, 29, 30, 31, 32, 33, 34, 35, 36, 37, 38, 39, 40, 41, 42, 43, 44, 45, 46, 47, 48, 49, 50, 51, 52, 53, 54, 55, 56, 57, 58, 59, 60, 61, 62, 63, 64, 65, 66, 67, 68, 69, 70, 71, 72, 73, 74, 75, 76, 77, 78, 79, 80, 81, 82, 83, 84, 85, 86, 87, 88, 89, 90, 91, 92, 93, 94, 95, 96, 97, 98, 99, 100, 101, 102, 103, 104] dt dt40 := Fr_tr hF hF42 (by decide)
  have hM44 : MW (dt40 80) := MW_fr hM hF42 (by decide)
  have w45 : dt40 1 0 = dt 1 0 := hF42 1 (by decide) 0
  have w46 : dt40 7 3 = dt 7 3 := hF42 7 (by decide) 3
  have w47 : dt40 10 3 = dt 10 3 := hF42 10 (by decide) 3
  have w48 : dt40 12 3 = dt 12 3 := hF42 12 (by decide) 3
  have w49 : dt40 14 3 = dt 14 3 := hF42 14 (by decide) 3
  have w50 : dt40 16 3 = dt 16 3 := hF42 16 (by decide) 3
  have w51 : dt40 18 0 = dt 18 0 := hF42 18 (by decide) 0
  have w52 : dt40 24 3 = dt 24 3 := hF42 24 (by decide) 3
  have w53 : dt40 27 3 = dt 27 3 := hF42 27 (by decide) 3
  have w54 : dt40 29 3 = dt 29 3 := hF42 29 (by decide) 3
  have w55 : dt40 31 3 = dt 31 3 := hF42 31 (by decide) 3
  have w56 : dt40 33 3 = dt 33 3 := hF42 33 (by decide) 3
  have w57 : dt40 0 2 = dt 0 2 := hF42 0 (by decide) 2
  have w58 : dt40 35 1 = dt 35 1 := hF42 35 (by decide) 1
  have w59 : dt40 35 2 = dt 35 2 := hF42 35 (by decide) 2
  have w60 : dt40 35 3 = dt 35 3 := hF42 35 (by decide) 3
  have w61 : dt40 80 0 = dt 80 0 := hF42 80 (by decide) 0
  have w62 : dt40 80 1 = dt 80 1 := hF42 80 (by decide) 1
  have w63 : dt40 80 2 = dt 80 2 := hF42 80 (by decide) 2
  have w64 : dt40 80 3 = dt 80 3 := hF42 80 (by decide) 3
  have w65 : dt40 80 4 = dt 80 4 := hF42 80 (by decide) 4
  have w66 : dt40 80 5 = dt 80 5 := hF42 80 (by decide) 5
  have w67 : dt40 81 0 = dt 81 0 := hF42 81 (by decide) 0
  have w68 : dt40 81 1 = dt 81 1 := hF42 81 (by decide) 1
  have w69 : dt40 81 2 = dt 81 2 := hF42 81 (by decide) 2
  have w70 : dt40 81 3 = dt 81 3 := hF42 81 (by decide) 3
  have w71 : dt40 81 4 = dt 81 4 := hF42 81 (by decide) 4
  have w72 : dt40 81 5 = dt 81 5 := hF42 81 (by decide) 5
  have w73 : dt40 79 2 = dt 79 2 := hF42 79 (by decide) 2
  have w74 : dt40 79 12 = dt 79 12 := hF42 79 (by decide) 12
  have w75 : dt40 79 19 = dt 79 19 := hF42 79 (by decide) 19
  have w76 : dt40 79 21 = dt 79 21 := hF42 79 (by decide) 21
  rcases h39 with ⟨rfl, h39⟩ | ⟨v_h39, rfl, h39r, h39⟩
  · skip
    have M277 : MW (dt40 81) := MW_frk hM2 hF42 (by decide)
    have C78 : ∀ j : Nat, dt40 2 j = dt 2 j := fun j => (hF42 2 (by decide) j).trans ((fun _ => rfl) j)
    have C79 : ∀ j : Nat, dt40 3 j = dt 3 j := fun j => (hF42 3 (by decide) j).trans ((fun _ => rfl) j)
    have C80 : ∀ j : Nat, dt40 4 j = dt 4 j := fun j => (hF42 4 (by decide) j).trans ((fun _ => rfl) j)
    have C81 : ∀ j : Nat, dt40 5 j = dt 5 j := fun j => (hF42 5 (by decide) j).trans ((fun _ => rfl) j)
    have C82 : ∀ j : Nat, dt40 6 j = dt 6 j := fun j => (hF42 6 (by decide) j).trans ((fun _ => rfl) j)
    have C83 : ∀ j : Nat, dt40 8 j = dt 8 j := fun j => (hF42 8 (by decide) j).trans ((fun _ => rfl) j)
    have C84 : ∀ j : Nat, dt40 9 j = dt 9 j := fun j => (hF42 9 (by decide) j).trans ((fun _ => rfl) j)
    have C85 : ∀ j : Nat, dt40 11 j = dt 11 j := fun j => (hF42 11 (by decide) j).trans ((fun _ => rfl) j)
    have C86 : ∀ j : Nat, dt40 19 j = dt 19 j := fun j => (hF42 19 (by decide) j).trans ((fun _ => rfl) j)
    have C87 : ∀ j : Nat, dt40 20 j = dt 20 j := fun j => (hF42 20 (by decide) j).trans ((fun _ => rfl) j)
    have C88 : ∀ j : Nat, dt40 21 j = dt 21 j := fun j => (hF42 21 (by decide) j).trans ((fun _ => rfl) j)
    have C89 : ∀ j : Nat, dt40 22 j = dt 22 j := fun j => (hF42 22 (by decide) j).trans ((fun _ => rfl) j)
    have C90 : ∀ j : Nat, dt40 23 j = dt 23 j := fun j => (hF42 23 (by decide) j).trans ((fun _ => rfl) j)
    have C91 : ∀ j : Nat, dt40 25 j = dt 25 j := fun j => (hF42 25 (by decide) j).trans ((fun _ => rfl) j)
    have C92 : ∀ j : Nat, dt40 26 j = dt 26 j := fun j => (hF42 26 (by decide) j).trans ((fun _ => rfl) j)
    have C93 : ∀ j : Nat, dt40 28 j = dt 28 j := fun j => (hF42 28 (by decide) j).trans ((fun _ => rfl) j)
    have C94 : ∀ j : Nat, dt40 36 j = dt 36 j := fun j => (hF42 36 (by decide) j).trans ((fun _ => rfl) j)
    have C95 : ∀ j : Nat, dt40 80 j = dt 80 j := fun j => (hF42 80 (by decide) j).trans ((fun _ => rfl) j)
    have C96 : ∀ j : Nat, dt40 81 j = dt 81 j := fun j => (hF42 81 (by decide) j).trans ((fun _ => rfl) j)
    have C97 : ∀ j : Nat, dt40 85 j = dt 85 j := fun j => (hF42 85 (by decide) j).trans ((fun _ => rfl) j)
    refine go_toq PM267 (k := 5) (pc' := 1344) (L' := [some (.inr (.inr (some 3000))), some (.inr (.inr (some 0))), some (.inr (.inr (some 79))), some (.inl i)]) (st' := [.inl (i + 1), .inr (.inr (some 3000)), .inr (.inr (some 79)), .inl (-1)]) (w' := (SH, dt40)) rfl ?_
    have r98 := i32_R (xs ((i + 1).toNat))
    refine go_smpq PM267 (L' := [some (.inr (.inr (some 3000))), some (.inr (.inr (some 0))), some (.inr (.inr (some 79))), some (.inl i)]) (st' := [.inl ((xs ((i + 1).toNat)).toInt), .inr (.inr (some 79)), .inl (-1)]) (w' := (SH, dt40)) rfl rfl (s_iald (n := L) (f := fun j => (xs j).toInt) (am_scr hLL) ⟨by omega, by omega⟩) ?_
    refine go_toq PM267 (k := 4) (pc' := 1349) (L' := [some (.inr (.inr (some 3000))), some (.inr (.inr (some 0))), some (.inr (.inr (some 79))), some (.inl i)]) (st' := [.inl (i + 2), .inr (.inr (some 3000)), .inl ((xs ((i + 1).toNat)).toInt), .inr (.inr (some 79)), .inl (-1)]) (w' := (SH, dt40)) rfl ?_
    have r99 := i32_R (xs ((i + 2).toNat))
    refine go_smpq PM267 (L' := [some (.inr (.inr (some 3000))), some (.inr (.inr (some 0))), some (.inr (.inr (some 79))), some (.inl i)]) (st' := [.inl ((xs ((i + 2).toNat)).toInt), .inl ((xs ((i + 1).toNat)).toInt), .inr (.inr (some 79)), .inl (-1)]) (w' := (SH, dt40)) rfl rfl (s_iald (n := L) (f := fun j => (xs j).toInt) (am_scr hLL) ⟨by omega, by omega⟩) ?_
    refine go_toq PM267 (k := 4) (pc' := 1354) (L' := [some (.inr (.inr (some 3000))), some (.inr (.inr (some 0))), some (.inr (.inr (some 79))), some (.inl i)]) (st' := [.inl (i + 3), .inr (.inr (some 3000)), .inl ((xs ((i + 2).toNat)).toInt), .inl ((xs ((i + 1).toNat)).toInt), .inr (.inr (some 79)), .inl (-1)]) (w' := (SH, dt40)) rfl ?_
    have r100 := i32_R (xs ((i + 3).toNat))
    refine go_smpq PM267 (L' := [some (.inr (.inr (some 3000))), some (.inr (.inr (some 0))), some (.inr (.inr (some 79))), some (.inl i)]) (st' := [.inl ((xs ((i + 3).toNat)).toInt), .inl ((xs ((i + 2).toNat)).toInt), .inl ((xs ((i + 1).toNat)).toInt), .inr (.inr (some 79)), .inl (-1)]) (w' := (SH, dt40)) rfl rfl (s_iald (n := L) (f := fun j => (xs j).toInt) (am_scr hLL) ⟨by omega, by omega⟩) ?_
    refine go_toq PM267 (k := 4) (pc' := 1359) (L' := [some (.inr (.inr (some 3000))), some (.inr (.inr (some 0))), some (.inr (.inr (some 79))), some (.inl i)]) (st' := [.inl (i + 4), .inr (.inr (some 3000)), .inl ((xs ((i + 3).toNat)).toInt), .inl ((xs ((i + 2).toNat)).toInt), .inl ((xs ((i + 1).toNat)).toInt), .inr (.inr (some 79)), .inl (-1)]) (w' := (SH, dt40)) rfl ?_
    have r101 := i32_R (xs ((i + 4).toNat))
    refine go_smpq PM267 (L' := [some (.inr (.inr (some 3000))), some (.inr (.inr (some 0))), some (.inr (.inr (some 79))), some (.inl i)]) (st' := [.inl ((xs ((i + 4).toNat)).toInt), .inl ((xs ((i + 3).toNat)).toInt), .inl ((xs ((i + 2).toNat)).toInt), .inl ((xs ((i + 1).toNat)).toInt), .inr (.inr (some 79)), .inl (-1)]) (w' := (SH, dt40)) rfl rfl (s_iald (n := L) (f := fun j => (xs j).toInt) (am_scr hLL) ⟨by omega, by omega⟩) ?_
    refine go_toq PM267 (k := 4) (pc' := 1364) (L' := [some (.inr (.inr (some 3000))), some (.inr (.inr (some 0))), some (.inr (.inr (some 79))), some (.inl i)]) (st' := [.inl (i + 5), .inr (.inr (some 3000)), .inl ((xs ((i + 4).toNat)).toInt), .inl ((xs ((i + 3).toNat)).toInt), .inl ((xs ((i + 2).toNat)).toInt), .inl ((xs ((i + 1).toNat)).toInt), .inr (.inr (some 79)), .inl (-1)]) (w' := (SH, dt40)) rfl ?_
    have r102 := i32_R (xs ((i + 5).toNat))
    refine go_smpq PM267 (L' := [some (.inr (.inr (some 3000))), some (.inr (.inr (some 0))), some (.inr (.inr (some 79))), some (.inl i)]) (st' := [.inl ((xs ((i + 5).toNat)).toInt), .inl ((xs ((i + 4).toNat)).toInt), .inl ((xs ((i + 3).toNat)).toInt), .inl ((xs ((i + 2).toNat)).toInt), .inl ((xs ((i + 1).toNat)).toInt), .inr (.inr (some 79)), .inl (-1)]) (w' := (SH, dt40)) rfl rfl (s_iald (n := L) (f := fun j => (xs j).toInt) (am_scr hLL) ⟨by omega, by omega⟩) ?_
    refine go_callq PM267 PM246 (Q' := _) rfl rfl rfl rfl (sp_X6_next_f L xs sio (d + 31) dt40 hI41 hM44  ((xs ((i + 1).toNat)).toInt) ⟨by omega, by omega⟩ ((xs ((i + 2).toNat)).toInt) ⟨by omega, by omega⟩ ((xs ((i + 3).toNat)).toInt) ⟨by omega, by omega⟩ ((xs ((i + 4).toNat)).toInt) ⟨by omega, by omega⟩ ((xs ((i + 5).toNat)).toInt) ⟨by omega, by omega⟩ ) ?_
    rintro _ _ ⟨dt104, rfl, hI105, hF106, h103⟩
    refine ⟨rfl, ?_⟩
    have hF107 : Fr [0, 1, 2, 3, 4, 5, 6, 7, 8, 9, 10, 11, 12, 13, 14, 15, 16, 17, 18, 19, 20, 21, 22, 23, 24, 25, 26, 27, 28, 29, 30, 31, 32, 33, 34, 35, 36, 37, 38, 39, 40, 41, 42, 43, 44, 45, 46, 47, 48, 49, 50, 51, 52, 53, 54, 55, 56, 57, 58, 59, 60, 61, 62, 63, 64, 65, 66, 67, 68, 69, 70, 71, 72, 73, 74, 75, 76, 77, 78, 79, 80, 81, 82, 83, 84, 85, 86, 87, 88, 89, 90, 91, 92, 93, 94, 95, 96, 97, 98, 99, 100, 101, 102, 103, 104] dt dt104 := Fr_tr hF43 hF106 (by decide)
    have hM108 : MW (dt104 80) := MW_fr hM44 hF106 (by decide)
    have w109 : dt104 1 0 = dt 1 0 := (hF106 1 (by decide) 0).trans w45
    have w110 : dt104 7 3 = dt 7 3 := (hF106 7 (by decide) 3).trans w46
    have w111 : dt104 10 3 = dt 10 3 := (hF106 10 (by decide) 3).trans w47
    have w112 : dt104 12 3 = dt 12 3 := (hF106 12 (by decide) 3).trans w48
    have w113 : dt104 14 3 = dt 14 3 := (hF106 14 (by decide) 3).trans w49
    have w114 : dt104 16 3 = dt 16 3 := (hF106 16 (by decide) 3).trans w50
    have w115 : dt104 18 0 = dt 18 0 := (hF106 18 (by decide) 0).trans w51
    have w116 : dt104 24 3 = dt 24 3 := (hF106 24 (by decide) 3).trans w52
    have w117 : dt104 27 3 = dt 27 3 := (hF106 27 (by decide) 3).trans w53
    have w118 : dt104 29 3 = dt 29 3 := (hF106 29 (by decide) 3).trans w54
    have w119 : dt104 31 3 = dt 31 3 := (hF106 31 (by decide) 3).trans w55
    have w120 : dt104 33 3 = dt 33 3 := (hF106 33 (by decide) 3).trans w56
    have w121 : dt104 0 2 = dt 0 2 := (hF106 0 (by decide) 2).trans w57
    have w122 : dt104 35 1 = dt 35 1 := (hF106 35 (by decide) 1).trans w58
    have w123 : dt104 35 2 = dt 35 2 := (hF106 35 (by decide) 2).trans w59
    have w124 : dt104 35 3 = dt 35 3 := (hF106 35 (by decide) 3).trans w60
    have w125 : dt104 80 0 = dt 80 0 := (hF106 80 (by decide) 0).trans w61
    have w126 : dt104 80 1 = dt 80 1 := (hF106 80 (by decide) 1).trans w62
    have w127 : dt104 80 2 = dt 80 2 := (hF106 80 (by decide) 2).trans w63
    have w128 : dt104 80 3 = dt 80 3 := (hF106 80 (by decide) 3).trans w64
    have w129 : dt104 80 4 = dt 80 4 := (hF106 80 (by decide) 4).trans w65
    have w130 : dt104 80 5 = dt 80 5 := (hF106 80 (by decide) 5).trans w66
    have w131 : dt104 81 0 = dt 81 0 := (hF106 81 (by decide) 0).trans w67
    have w132 : dt104 81 1 = dt 81 1 := (hF106 81 (by decide) 1).trans w68
    have w133 : dt104 81 2 = dt 81 2 := (hF106 81 (by decide) 2).trans w69
    have w134 : dt104 81 3 = dt 81 3 := (hF106 81 (by decide) 3).trans w70
    have w135 : dt104 81 4 = dt 81 4 := (hF106 81 (by decide) 4).trans w71
    have w136 : dt104 81 5 = dt 81 5 := (hF106 81 (by decide) 5).trans w72
    have w137 : dt104 79 2 = dt 79 2 := (hF106 79 (by decide) 2).trans w73
    have w138 : dt104 79 12 = dt 79 12 := (hF106 79 (by decide) 12).trans w74
    have w139 : dt104 79 19 = dt 79 19 := (hF106 79 (by decide) 19).trans w75
    have w140 : dt104 79 21 = dt 79 21 := (hF106 79 (by decide) 21).trans w76
    rcases h103 with ⟨rfl, h103⟩ | ⟨v_h103, rfl, h103r, h103⟩
    · skip
      have M2141 : MW (dt104 81) := MW_frk M277 hF106 (by decide)
      have C142 : ∀ j : Nat, dt104 2 j = dt 2 j := fun j => (hF106 2 (by decide) j).trans (C78 j)
      have C143 : ∀ j : Nat, dt104 3 j = dt 3 j := fun j => (hF106 3 (by decide) j).trans (C79 j)
      have C144 : ∀ j : Nat, dt104 4 j = dt 4 j := fun j => (hF106 4 (by decide) j).trans (C80 j)
      have C145 : ∀ j : Nat, dt104 5 j = dt 5 j := fun j => (hF106 5 (by decide) j).trans (C81 j)
      have C146 : ∀ j : Nat, dt104 6 j = dt 6 j := fun j => (hF106 6 (by decide) j).trans (C82 j)
      have C147 : ∀ j : Nat, dt104 8 j = dt 8 j := fun j => (hF106 8 (by decide) j).trans (C83 j)
      have C148 : ∀ j : Nat, dt104 9 j = dt 9 j := fun j => (hF106 9 (by decide) j).trans (C84 j)
      have C149 : ∀ j : Nat, dt104 11 j = dt 11 j := fun j => (hF106 11 (by decide) j).trans (C85 j)
      have C150 : ∀ j : Nat, dt104 19 j = dt 19 j := fun j => (hF106 19 (by decide) j).trans (C86 j)
      have C151 : ∀ j : Nat, dt104 20 j = dt 20 j := fun j => (hF106 20 (by decide) j).trans (C87 j)
      have C152 : ∀ j : Nat, dt104 21 j = dt 21 j := fun j => (hF106 21 (by decide) j).trans (C88 j)
      have C153 : ∀ j : Nat, dt104 22 j = dt 22 j := fun j => (hF106 22 (by decide) j).trans (C89 j)
      have C154 : ∀ j : Nat, dt104 23 j = dt 23 j := fun j => (hF106 23 (by decide) j).trans (C90 j)
      have C155 : ∀ j : Nat, dt104 25 j = dt 25 j := fun j => (hF106 25 (by decide) j).trans (C91 j)
      have C156 : ∀ j : Nat, dt104 26 j = dt 26 j := fun j => (hF106 26 (by decide) j).trans (C92 j)
      have C157 : ∀ j : Nat, dt104 28 j = dt 28 j := fun j => (hF106 28 (by decide) j).trans (C93 j)
      have C158 : ∀ j : Nat, dt104 36 j = dt 36 j := fun j => (hF106 36 (by decide) j).trans (C94 j)
      have C159 : ∀ j : Nat, dt104 80 j = dt 80 j := fun j => (hF106 80 (by decide) j).trans (C95 j)
      have C160 : ∀ j : Nat, dt104 81 j = dt 81 j := fun j => (hF106 81 (by decide) j).trans (C96 j)
      have C161 : ∀ j : Nat, dt104 85 j = dt 85 j := fun j => (hF106 85 (by decide) j).trans (C97 j)
      refine go_toq PM267 (k := 1) (pc' := 1435) (L' := [some (.inr (.inr (some 3000))), some (.inr (.inr (some 0))), some (.inr (.inr (some 79))), some (.inl i)]) (st' := []) (w' := (SH, dt104)) rfl ?_
      exact K dt104 hI105 hM108 M2141 (w109.trans (hk0.trans w125.symm)) (w110.trans (hk1.trans w126.symm)) (w111.trans (hk2.trans w127.symm)) (w112.trans (hk3.trans w128.symm)) (w113.trans (hk4.trans w129.symm)) (w114.trans (hk5.trans w130.symm)) (w115.trans (hk6.trans w131.symm)) (w116.trans (hk7.trans w132.symm)) (w117.trans (hk8.trans w133.symm)) (w118.trans (hk9.trans w134.symm)) (w119.trans (hk10.trans w135.symm)) (w120.trans (hk11.trans w136.symm)) (w121.trans (hk12.trans w137.symm)) (w122.trans (hk13.trans w138.symm)) (w123.trans (hk14.trans w139.symm)) (w124.trans (hk15.trans w140.symm)) (by first | exact hI | exact TPL_k hd0 C158 C161 (by omega) | (exfalso; omega)) (by first | exact hI | exact SCL_k hd1 hM (fun j _ => C142 j) (fun j _ => C143 j) (fun j _ _ => C159 j) | (exfalso; omega)) (by first | exact hI | exact SCL_k hd2 hM2 (fun j _ => C150 j) (fun j _ => C151 j) (fun j _ _ => C160 j) | (exfalso; omega)) (by first | exact hI | exact QRL_k hd3 hM (fun j _ => C147 j) (C159 1) (fun j _ _ => C159 j) | (exfalso; omega)) (by first | exact hI | exact QRL_k hd4 hM2 (fun j _ => C155 j) (C160 1) (fun j _ _ => C160 j) | (exfalso; omega)) (by first | exact hI | exact SDL_k hd5 hM (fun j _ => C148 j) (C159 1) (fun j _ _ => C159 j) (fun j _ _ => C159 j) | (exfalso; omega)) (by first | exact hI | exact SDL_k hd6 hM2 (fun j _ => C156 j) (C160 1) (fun j _ _ => C160 j) (fun j _ _ => C160 j) | (exfalso; omega)) (by first | exact hI | exact LWL_k hd7 hM (fun j _ => C144 j) (fun j _ => C145 j) (fun j _ => C146 j) (fun j _ _ => C159 j) | (exfalso; omega)) (by first | exact hI | exact LWL_k hd8 hM2 (fun j _ => C152 j) (fun j _ => C153 j) (fun j _ => C154 j) (fun j _ _ => C160 j) | (exfalso; omega)) (by first | exact hI | exact CHL_k hd9 hM (fun j _ => C149 j) (by omega) (fun j _ _ => C159 j) | (exfalso; omega)) (by first | exact hI | exact CHL_k hd10 hM2 (fun j _ => C157 j) (by omega) (fun j _ _ => C160 j) | (exfalso; omega))
    · skip
      obtain ⟨h103_0, h103_1⟩ := h103
      have M2162 : MW (dt104 81) := MW_frk M277 hF106 (by decide)
      rw [show dt40 80 = dt 80 from funext C95] at h103_1
      rw [show dt 80 1 = dt 7 3 from hk1.symm] at h103_1
      have C163 : ∀ j : Nat, dt104 2 j = dt 2 j := fun j => (hF106 2 (by decide) j).trans (C78 j)
      have C164 : ∀ j : Nat, dt104 3 j = dt 3 j := fun j => (hF106 3 (by decide) j).trans (C79 j)
      have C165 : ∀ j : Nat, dt104 4 j = dt 4 j := fun j => (hF106 4 (by decide) j).trans (C80 j)
      have C166 : ∀ j : Nat, dt104 5 j = dt 5 j := fun j => (hF106 5 (by decide) j).trans (C81 j)
      have C167 : ∀ j : Nat, dt104 6 j = dt 6 j := fun j => (hF106 6 (by decide) j).trans (C82 j)
      have C168 : ∀ j : Nat, dt104 8 j = dt 8 j := fun j => (hF106 8 (by decide) j).trans (C83 j)
      have C169 : ∀ j : Nat, dt104 9 j = dt 9 j := fun j => (hF106 9 (by decide) j).trans (C84 j)
      have C170 : ∀ j : Nat, dt104 11 j = dt 11 j := fun j => (hF106 11 (by decide) j).trans (C85 j)
      have C171 : ∀ j : Nat, dt104 19 j = dt 19 j := fun j => (hF106 19 (by decide) j).trans (C86 j)
      have C172 : ∀ j : Nat, dt104 20 j = dt 20 j := fun j => (hF106 20 (by decide) j).trans (C87 j)
      have C173 : ∀ j : Nat, dt104 21 j = dt 21 j := fun j => (hF106 21 (by decide) j).trans (C88 j)
      have C174 : ∀ j : Nat, dt104 22 j = dt 22 j := fun j => (hF106 22 (by decide) j).trans (C89 j)
      have C175 : ∀ j : Nat, dt104 23 j = dt 23 j := fun j => (hF106 23 (by decide) j).trans (C90 j)
      have C176 : ∀ j : Nat, dt104 25 j = dt 25 j := fun j => (hF106 25 (by decide) j).trans (C91 j)
      have C177 : ∀ j : Nat, dt104 26 j = dt 26 j := fun j => (hF106 26 (by decide) j).trans (C92 j)
      have C178 : ∀ j : Nat, dt104 28 j = dt 28 j := fun j => (hF106 28 (by decide) j).trans (C93 j)
      have C179 : ∀ j : Nat, dt104 36 j = dt 36 j := fun j => (hF106 36 (by decide) j).trans (C94 j)
      have C180 : ∀ j : Nat, dt104 80 j = dt 80 j := fun j => (hF106 80 (by decide) j).trans (C95 j)
      have C181 : ∀ j : Nat, dt104 81 j = dt 81 j := fun j => (hF106 81 (by decide) j).trans (C96 j)
      have C182 : ∀ j : Nat, dt104 85 j = dt 85 j := fun j => (hF106 85 (by decide) j).trans (C97 j)
      refine go_ifq PM267 (k := 0) (p1 := 1435) (p2 := 1371) (L' := [some (.inr (.inr (some 3000))), some (.inr (.inr (some 0))), some (.inr (.inr (some 79))), some (.inl i)]) (st' := []) (w' := (SH, dt104)) rfl (c_eq (a := (-1)) (b := v_h103) ⟨by decide, by decide⟩ (by first | exact bnd h103r (by decide) (by decide) | exact ⟨by omega, by omega⟩)) (fun c183 => ?_) (fun c183 => ?_)
      · skip
        exact K dt104 hI105 hM108 M2162 (w109.trans (hk0.trans w125.symm)) (w110.trans (hk1.trans w126.symm)) (w111.trans (hk2.trans w127.symm)) (w112.trans (hk3.trans w128.symm)) (w113.trans (hk4.trans w129.symm)) (w114.trans (hk5.trans w130.symm)) (w115.trans (hk6.trans w131.symm)) (w116.trans (hk7.trans w132.symm)) (w117.trans (hk8.trans w133.symm)) (w118.trans (hk9.trans w134.symm)) (w119.trans (hk10.trans w135.symm)) (w120.trans (hk11.trans w136.symm)) (w121.trans (hk12.trans w137.symm)) (w122.trans (hk13.trans w138.symm)) (w123.trans (hk14.trans w139.symm)) (w124.trans (hk15.trans w140.symm)) (by first | exact hI | exact TPL_k hd0 C179 C182 (by omega) | (exfalso; omega)) (by first | exact hI | exact SCL_k hd1 hM (fun j _ => C163 j) (fun j _ => C164 j) (fun j _ _ => C180 j) | (exfalso; omega)) (by first | exact hI | exact SCL_k hd2 hM2 (fun j _ => C171 j) (fun j _ => C172 j) (fun j _ _ => C181 j) | (exfalso; omega)) (by first | exact hI | exact QRL_k hd3 hM (fun j _ => C168 j) (C180 1) (fun j _ _ => C180 j) | (exfalso; omega)) (by first | exact hI | exact QRL_k hd4 hM2 (fun j _ => C176 j) (C181 1) (fun j _ _ => C181 j) | (exfalso; omega)) (by first | exact hI | exact SDL_k hd5 hM (fun j _ => C169 j) (C180 1) (fun j _ _ => C180 j) (fun j _ _ => C180 j) | (exfalso; omega)) (by first | exact hI | exact SDL_k hd6 hM2 (fun j _ => C177 j) (C181 1) (fun j _ _ => C181 j) (fun j _ _ => C181 j) | (exfalso; omega)) (by first | exact hI | exact LWL_k hd7 hM (fun j _ => C165 j) (fun j _ => C166 j) (fun j _ => C167 j) (fun j _ _ => C180 j) | (exfalso; omega)) (by first | exact hI | exact LWL_k hd8 hM2 (fun j _ => C173 j) (fun j _ => C174 j) (fun j _ => C175 j) (fun j _ _ => C181 j) | (exfalso; omega)) (by first | exact hI | exact CHL_k hd9 hM (fun j _ => C170 j) (by omega) (fun j _ _ => C180 j) | (exfalso; omega)) (by first | exact hI | exact CHL_k hd10 hM2 (fun j _ => C178 j) (by omega) (fun j _ _ => C181 j) | (exfalso; omega))
      · skip
        replace c183 := hid c183
        exfalso; (first | omega | (have z0_ := unhid c183; omega))
  · skip
    obtain ⟨h39_0, h39_1⟩ := h39
    have M2184 : MW (dt40 81) := MW_frk hM2 hF42 (by decide)
    have C185 : ∀ j : Nat, dt40 2 j = dt 2 j := fun j => (hF42 2 (by decide) j).trans ((fun _ => rfl) j)
    have C186 : ∀ j : Nat, dt40 3 j = dt 3 j := fun j => (hF42 3 (by decide) j).trans ((fun _ => rfl) j)
    have C187 : ∀ j : Nat, dt40 4 j = dt 4 j := fun j => (hF42 4 (by decide) j).trans ((fun _ => rfl) j)
    have C188 : ∀ j : Nat, dt40 5 j = dt 5 j := fun j => (hF42 5 (by decide) j).trans ((fun _ => rfl) j)
    have C189 : ∀ j : Nat, dt40 6 j = dt 6 j := fun j => (hF42 6 (by decide) j).trans ((fun _ => rfl) j)
    have C190 : ∀ j : Nat, dt40 8 j = dt 8 j := fun j => (hF42 8 (by decide) j).trans ((fun _ => rfl) j)
    have C191 : ∀ j : Nat, dt40 9 j = dt 9 j := fun j => (hF42 9 (by decide) j).trans ((fun _ => rfl) j)
    have C192 : ∀ j : Nat, dt40 11 j = dt 11 j := fun j => (hF42 11 (by decide) j).trans ((fun _ => rfl) j)
    have C193 : ∀ j : Nat, dt40 19 j = dt 19 j := fun j => (hF42 19 (by decide) j).trans ((fun _ => rfl) j)
    have C194 : ∀ j : Nat, dt40 20 j = dt 20 j := fun j => (hF42 20 (by decide) j).trans ((fun _ => rfl) j)
    have C195 : ∀ j : Nat, dt40 21 j = dt 21 j := fun j => (hF42 21 (by decide) j).trans ((fun _ => rfl) j)
    have C196 : ∀ j : Nat, dt40 22 j = dt 22 j := fun j => (hF42 22 (by decide) j).trans ((fun _ => rfl) j)
    have C197 : ∀ j : Nat, dt40 23 j = dt 23 j := fun j => (hF42 23 (by decide) j).trans ((fun _ => rfl) j)
    have C198 : ∀ j : Nat, dt40 25 j = dt 25 j := fun j => (hF42 25 (by decide) j).trans ((fun _ => rfl) j)
    have C199 : ∀ j : Nat, dt40 26 j = dt 26 j := fun j => (hF42 26 (by decide) j).trans ((fun _ => rfl) j)
    have C200 : ∀ j : Nat, dt40 28 j = dt 28 j := fun j => (hF42 28 (by decide) j).trans ((fun _ => rfl) j)
    have C201 : ∀ j : Nat, dt40 36 j = dt 36 j := fun j => (hF42 36 (by decide) j).trans ((fun _ => rfl) j)
    have C202 : ∀ j : Nat, dt40 80 j = dt 80 j := fun j => (hF42 80 (by decide) j).trans ((fun _ => rfl) j)
    have C203 : ∀ j : Nat, dt40 81 j = dt 81 j := fun j => (hF42 81 (by decide) j).trans ((fun _ => rfl) j)
    have C204 : ∀ j : Nat, dt40 85 j = dt 85 j := fun j => (hF42 85 (by decide) j).trans ((fun _ => rfl) j)
    refine go_toq PM267 (k := 5) (pc' := 1344) (L' := [some (.inr (.inr (some 3000))), some (.inr (.inr (some 0))), some (.inr (.inr (some 79))), some (.inl i)]) (st' := [.inl (i + 1), .inr (.inr (some 3000)), .inr (.inr (some 79)), .inl v_h39]) (w' := (SH, dt40)) rfl ?_
    have r205 := i32_R (xs ((i + 1).toNat))
    refine go_smpq PM267 (L' := [some (.inr (.inr (some 3000))), some (.inr (.inr (some 0))), some (.inr (.inr (some 79))), some (.inl i)]) (st' := [.inl ((xs ((i + 1).toNat)).toInt), .inr (.inr (some 79)), .inl v_h39]) (w' := (SH, dt40)) rfl rfl (s_iald (n := L) (f := fun j => (xs j).toInt) (am_scr hLL) ⟨by omega, by omega⟩) ?_
    refine go_toq PM267 (k := 4) (pc' := 1349) (L' := [some (.inr (.inr (some 3000))), some (.inr (.inr (some 0))), some (.inr (.inr (some 79))), some (.inl i)]) (st' := [.inl (i + 2), .inr (.inr (some 3000)), .inl ((xs ((i + 1).toNat)).toInt), .inr (.inr (some 79)), .inl v_h39]) (w' := (SH, dt40)) rfl ?_
    have r206 := i32_R (xs ((i + 2).toNat))
    refine go_smpq PM267 (L' := [some (.inr (.inr (some 3000))), some (.inr (.inr (some 0))), some (.inr (.inr (some 79))), some (.inl i)]) (st' := [.inl ((xs ((i + 2).toNat)).toInt), .inl ((xs ((i + 1).toNat)).toInt), .inr (.inr (some 79)), .inl v_h39]) (w' := (SH, dt40)) rfl rfl (s_iald (n := L) (f := fun j => (xs j).toInt) (am_scr hLL) ⟨by omega, by omega⟩) ?_
    refine go_toq PM267 (k := 4) (pc' := 1354) (L' := [some (.inr (.inr (some 3000))), some (.inr (.inr (some 0))), some (.inr (.inr (some 79))), some (.inl i)]) (st' := [.inl (i + 3), .inr (.inr (some 3000)), .inl ((xs ((i + 2).toNat)).toInt), .inl ((xs ((i + 1).toNat)).toInt), .inr (.inr (some 79)), .inl v_h39]) (w' := (SH, dt40)) rfl ?_
    have r207 := i32_R (xs ((i + 3).toNat))
    refine go_smpq PM267 (L' := [some (.inr (.inr (some 3000))), some (.inr (.inr (some 0))), some (.inr (.inr (some 79))), some (.inl i)]) (st' := [.inl ((xs ((i + 3).toNat)).toInt), .inl ((xs ((i + 2).toNat)).toInt), .inl ((xs ((i + 1).toNat)).toInt), .inr (.inr (some 79)), .inl v_h39]) (w' := (SH, dt40)) rfl rfl (s_iald (n := L) (f := fun j => (xs j).toInt) (am_scr hLL) ⟨by omega, by omega⟩) ?_
    refine go_toq PM267 (k := 4) (pc' := 1359) (L' := [some (.inr (.inr (some 3000))), some (.inr (.inr (some 0))), some (.inr (.inr (some 79))), some (.inl i)]) (st' := [.inl (i + 4), .inr (.inr (some 3000)), .inl ((xs ((i + 3).toNat)).toInt), .inl ((xs ((i + 2).toNat)).toInt), .inl ((xs ((i + 1).toNat)).toInt), .inr (.inr (some 79)), .inl v_h39]) (w' := (SH, dt40)) rfl ?_
    have r208 := i32_R (xs ((i + 4).toNat))
    refine go_smpq PM267 (L' := [some (.inr (.inr (some 3000))), some (.inr (.inr (some 0))), some (.inr (.inr (some 79))), some (.inl i)]) (st' := [.inl ((xs ((i + 4).toNat)).toInt), .inl ((xs ((i + 3).toNat)).toInt), .inl ((xs ((i + 2).toNat)).toInt), .inl ((xs ((i + 1).toNat)).toInt), .inr (.inr (some 79)), .inl v_h39]) (w' := (SH, dt40)) rfl rfl (s_iald (n := L) (f := fun j => (xs j).toInt) (am_scr hLL) ⟨by omega, by omega⟩) ?_
    refine go_toq PM267 (k := 4) (pc' := 1364) (L' := [some (.inr (.inr (some 3000))), some (.inr (.inr (some 0))), some (.inr (.inr (some 79))), some (.inl i)]) (st' := [.inl (i + 5), .inr (.inr (some 3000)), .inl ((xs ((i + 4).toNat)).toInt), .inl ((xs ((i + 3).toNat)).toInt), .inl ((xs ((i + 2).toNat)).toInt), .inl ((xs ((i + 1).toNat)).toInt), .inr (.inr (some 79)), .inl v_h39]) (w' := (SH, dt40)) rfl ?_
    have r209 := i32_R (xs ((i + 5).toNat))
    refine go_smpq PM267 (L' := [some (.inr (.inr (some 3000))), some (.inr (.inr (some 0))), some (.inr (.inr (some 79))), some (.inl i)]) (st' := [.inl ((xs ((i + 5).toNat)).toInt), .inl ((xs ((i + 4).toNat)).toInt), .inl ((xs ((i + 3).toNat)).toInt), .inl ((xs ((i + 2).toNat)).toInt), .inl ((xs ((i + 1).toNat)).toInt), .inr (.inr (some 79)), .inl v_h39]) (w' := (SH, dt40)) rfl rfl (s_iald (n := L) (f := fun j => (xs j).toInt) (am_scr hLL) ⟨by omega, by omega⟩) ?_
    refine go_callq PM267 PM246 (Q' := _) rfl rfl rfl rfl (sp_X6_next_f L xs sio (d + 31) dt40 hI41 hM44  ((xs ((i + 1).toNat)).toInt) ⟨by omega, by omega⟩ ((xs ((i + 2).toNat)).toInt) ⟨by omega, by omega⟩ ((xs ((i + 3).toNat)).toInt) ⟨by omega, by omega⟩ ((xs ((i + 4).toNat)).toInt) ⟨by omega, by omega⟩ ((xs ((i + 5).toNat)).toInt) ⟨by omega, by omega⟩ ) ?_
    rintro _ _ ⟨dt211, rfl, hI212, hF213, h210⟩
    refine ⟨rfl, ?_⟩
    have hF214 : Fr [0, 1, 2, 3, 4, 5, 6, 7, 8, 9, 10, 11, 12, 13, 14, 15, 16, 17, 18, 19, 20, 21, 22, 23, 24, 25, 26, 27, 28, 29, 30, 31, 32, 33, 34, 35, 36, 37, 38, 39, 40, 41, 42, 43, 44, 45, 46, 47, 48, 49, 50, 51, 52, 53, 54, 55, 56, 57, 58, 59, 60, 61, 62, 63, 64, 65, 66, 67, 68, 69, 70, 71, 72, 73, 74, 75, 76, 77, 78, 79, 80, 81, 82, 83, 84, 85, 86, 87, 88, 89, 90, 91, 92, 93, 94, 95, 96, 97, 98, 99, 100, 101, 102, 103, 104] dt dt211 := Fr_tr hF43 hF213 (by decide)
    have hM215 : MW (dt211 80) := MW_fr hM44 hF213 (by decide)
    have w216 : dt211 1 0 = dt 1 0 := (hF213 1 (by decide) 0).trans w45
    have w217 : dt211 7 3 = dt 7 3 := (hF213 7 (by decide) 3).trans w46
    have w218 : dt211 10 3 = dt 10 3 := (hF213 10 (by decide) 3).trans w47
    have w219 : dt211 12 3 = dt 12 3 := (hF213 12 (by decide) 3).trans w48
    have w220 : dt211 14 3 = dt 14 3 := (hF213 14 (by decide) 3).trans w49
    have w221 : dt211 16 3 = dt 16 3 := (hF213 16 (by decide) 3).trans w50
    have w222 : dt211 18 0 = dt 18 0 := (hF213 18 (by decide) 0).trans w51
    have w223 : dt211 24 3 = dt 24 3 := (hF213 24 (by decide) 3).trans w52
    have w224 : dt211 27 3 = dt 27 3 := (hF213 27 (by decide) 3).trans w53
    have w225 : dt211 29 3 = dt 29 3 := (hF213 29 (by decide) 3).trans w54
    have w226 : dt211 31 3 = dt 31 3 := (hF213 31 (by decide) 3).trans w55
    have w227 : dt211 33 3 = dt 33 3 := (hF213 33 (by decide) 3).trans w56
    have w228 : dt211 0 2 = dt 0 2 := (hF213 0 (by decide) 2).trans w57
    have w229 : dt211 35 1 = dt 35 1 := (hF213 35 (by decide) 1).trans w58
    have w230 : dt211 35 2 = dt 35 2 := (hF213 35 (by decide) 2).trans w59
    have w231 : dt211 35 3 = dt 35 3 := (hF213 35 (by decide) 3).trans w60
    have w232 : dt211 80 0 = dt 80 0 := (hF213 80 (by decide) 0).trans w61
    have w233 : dt211 80 1 = dt 80 1 := (hF213 80 (by decide) 1).trans w62
    have w234 : dt211 80 2 = dt 80 2 := (hF213 80 (by decide) 2).trans w63
    have w235 : dt211 80 3 = dt 80 3 := (hF213 80 (by decide) 3).trans w64
    have w236 : dt211 80 4 = dt 80 4 := (hF213 80 (by decide) 4).trans w65
    have w237 : dt211 80 5 = dt 80 5 := (hF213 80 (by decide) 5).trans w66
    have w238 : dt211 81 0 = dt 81 0 := (hF213 81 (by decide) 0).trans w67
    have w239 : dt211 81 1 = dt 81 1 := (hF213 81 (by decide) 1).trans w68
    have w240 : dt211 81 2 = dt 81 2 := (hF213 81 (by decide) 2).trans w69
    have w241 : dt211 81 3 = dt 81 3 := (hF213 81 (by decide) 3).trans w70
    have w242 : dt211 81 4 = dt 81 4 := (hF213 81 (by decide) 4).trans w71
    have w243 : dt211 81 5 = dt 81 5 := (hF213 81 (by decide) 5).trans w72
    have w244 : dt211 79 2 = dt 79 2 := (hF213 79 (by decide) 2).trans w73
    have w245 : dt211 79 12 = dt 79 12 := (hF213 79 (by decide) 12).trans w74
    have w246 : dt211 79 19 = dt 79 19 := (hF213 79 (by decide) 19).trans w75
    have w247 : dt211 79 21 = dt 79 21 := (hF213 79 (by decide) 21).trans w76
    rcases h210 with ⟨rfl, h210⟩ | ⟨v_h210, rfl, h210r, h210⟩
    · skip
      have M2248 : MW (dt211 81) := MW_frk M2184 hF213 (by decide)
      have C249 : ∀ j : Nat, dt211 2 j = dt 2 j := fun j => (hF213 2 (by decide) j).trans (C185 j)
      have C250 : ∀ j : Nat, dt211 3 j = dt 3 j := fun j => (hF213 3 (by decide) j).trans (C186 j)
      have C251 : ∀ j : Nat, dt211 4 j = dt 4 j := fun j => (hF213 4 (by decide) j).trans (C187 j)
      have C252 : ∀ j : Nat, dt211 5 j = dt 5 j := fun j => (hF213 5 (by decide) j).trans (C188 j)
      have C253 : ∀ j : Nat, dt211 6 j = dt 6 j := fun j => (hF213 6 (by decide) j).trans (C189 j)
      have C254 : ∀ j : Nat, dt211 8 j = dt 8 j := fun j => (hF213 8 (by decide) j).trans (C190 j)
      have C255 : ∀ j : Nat, dt211 9 j = dt 9 j := fun j => (hF213 9 (by decide) j).trans (C191 j)
      have C256 : ∀ j : Nat, dt211 11 j = dt 11 j := fun j => (hF213 11 (by decide) j).trans (C192 j)
      have C257 : ∀ j : Nat, dt211 19 j = dt 19 j := fun j => (hF213 19 (by decide) j).trans (C193 j)
      have C258 : ∀ j : Nat, dt211 20 j = dt 20 j := fun j => (hF213 20 (by decide) j).trans (C194 j)
      have C259 : ∀ j : Nat, dt211 21 j = dt 21 j := fun j => (hF213 21 (by decide) j).trans (C195 j)
      have C260 : ∀ j : Nat, dt211 22 j = dt 22 j := fun j => (hF213 22 (by decide) j).trans (C196 j)
      have C261 : ∀ j : Nat, dt211 23 j = dt 23 j := fun j => (hF213 23 (by decide) j).trans (C197 j)
      have C262 : ∀ j : Nat, dt211 25 j = dt 25 j := fun j => (hF213 25 (by decide) j).trans (C198 j)
      have C263 : ∀ j : Nat, dt211 26 j = dt 26 j := fun j => (hF213 26 (by decide) j).trans (C199 j)
      have C264 : ∀ j : Nat, dt211 28 j = dt 28 j := fun j => (hF213 28 (by decide) j).trans (C200 j)
      have C265 : ∀ j : Nat, dt211 36 j = dt 36 j := fun j => (hF213 36 (by decide) j).trans (C201 j)
      have C266 : ∀ j : Nat, dt211 80 j = dt 80 j := fun j => (hF213 80 (by decide) j).trans (C202 j)
      have C267 : ∀ j : Nat, dt211 81 j = dt 81 j := fun j => (hF213 81 (by decide) j).trans (C203 j)
      have C268 : ∀ j : Nat, dt211 85 j = dt 85 j := fun j => (hF213 85 (by decide) j).trans (C204 j)
      refine go_ifq PM267 (k := 0) (p1 := 1435) (p2 := 1371) (L' := [some (.inr (.inr (some 3000))), some (.inr (.inr (some 0))), some (.inr (.inr (some 79))), some (.inl i)]) (st' := []) (w' := (SH, dt211)) rfl (c_eq (a := v_h39) (b := (-1)) (by first | exact bnd h39r (by decide) (by decide) | exact ⟨by omega, by omega⟩) ⟨by decide, by decide⟩) (fun c269 => ?_) (fun c269 => ?_)
      · skip
        exact K dt211 hI212 hM215 M2248 (w216.trans (hk0.trans w232.symm)) (w217.trans (hk1.trans w233.symm)) (w218.trans (hk2.trans w234.symm)) (w219.trans (hk3.trans w235.symm)) (w220.trans (hk4.trans w236.symm)) (w221.trans (hk5.trans w237.symm)) (w222.trans (hk6.trans w238.symm)) (w223.trans (hk7.trans w239.symm)) (w224.trans (hk8.trans w240.symm)) (w225.trans (hk9.trans w241.symm)) (w226.trans (hk10.trans w242.symm)) (w227.trans (hk11.trans w243.symm)) (w228.trans (hk12.trans w244.symm)) (w229.trans (hk13.trans w245.symm)) (w230.trans (hk14.trans w246.symm)) (w231.trans (hk15.trans w247.symm)) (by first | exact hI | exact TPL_k hd0 C265 C268 (by omega) | (exfalso; omega)) (by first | exact hI | exact SCL_k hd1 hM (fun j _ => C249 j) (fun j _ => C250 j) (fun j _ _ => C266 j) | (exfalso; omega)) (by first | exact hI | exact SCL_k hd2 hM2 (fun j _ => C257 j) (fun j _ => C258 j) (fun j _ _ => C267 j) | (exfalso; omega)) (by first | exact hI | exact QRL_k hd3 hM (fun j _ => C254 j) (C266 1) (fun j _ _ => C266 j) | (exfalso; omega)) (by first | exact hI | exact QRL_k hd4 hM2 (fun j _ => C262 j) (C267 1) (fun j _ _ => C267 j) | (exfalso; omega)) (by first | exact hI | exact SDL_k hd5 hM (fun j _ => C255 j) (C266 1) (fun j _ _ => C266 j) (fun j _ _ => C266 j) | (exfalso; omega)) (by first | exact hI | exact SDL_k hd6 hM2 (fun j _ => C263 j) (C267 1) (fun j _ _ => C267 j) (fun j _ _ => C267 j) | (exfalso; omega)) (by first | exact hI | exact LWL_k hd7 hM (fun j _ => C251 j) (fun j _ => C252 j) (fun j _ => C253 j) (fun j _ _ => C266 j) | (exfalso; omega)) (by first | exact hI | exact LWL_k hd8 hM2 (fun j _ => C259 j) (fun j _ => C260 j) (fun j _ => C261 j) (fun j _ _ => C267 j) | (exfalso; omega)) (by first | exact hI | exact CHL_k hd9 hM (fun j _ => C256 j) (by omega) (fun j _ _ => C266 j) | (exfalso; omega)) (by first | exact hI | exact CHL_k hd10 hM2 (fun j _ => C264 j) (by omega) (fun j _ _ => C267 j) | (exfalso; omega))
      · skip
        replace c269 := hid c269
        exfalso; (first | omega | (have z0_ := unhid c269; omega))
    · skip
      obtain ⟨h210_0, h210_1⟩ := h210
      have M2270 : MW (dt211 81) := MW_frk M2184 hF213 (by decide)
      rw [show dt40 80 = dt 80 from funext C202] at h210_1
      rw [show dt 80 1 = dt 7 3 from hk1.symm] at h210_1
      have C271 : ∀ j : Nat, dt211 2 j = dt 2 j := fun j => (hF213 2 (by decide) j).trans (C185 j)
      have C272 : ∀ j : Nat, dt211 3 j = dt 3 j := fun j => (hF213 3 (by decide) j).trans (C186 j)
      have C273 : ∀ j : Nat, dt211 4 j = dt 4 j := fun j => (hF213 4 (by decide) j).trans (C187 j)
      have C274 : ∀ j : Nat, dt211 5 j = dt 5 j := fun j => (hF213 5 (by decide) j).trans (C188 j)
      have C275 : ∀ j : Nat, dt211 6 j = dt 6 j := fun j => (hF213 6 (by decide) j).trans (C189 j)
      have C276 : ∀ j : Nat, dt211 8 j = dt 8 j := fun j => (hF213 8 (by decide) j).trans (C190 j)
      have C277 : ∀ j : Nat, dt211 9 j = dt 9 j := fun j => (hF213 9 (by decide) j).trans (C191 j)
      have C278 : ∀ j : Nat, dt211 11 j = dt 11 j := fun j => (hF213 11 (by decide) j).trans (C192 j)
      have C279 : ∀ j : Nat, dt211 19 j = dt 19 j := fun j => (hF213 19 (by decide) j).trans (C193 j)
      have C280 : ∀ j : Nat, dt211 20 j = dt 20 j := fun j => (hF213 20 (by decide) j).trans (C194 j)
      have C281 : ∀ j : Nat, dt211 21 j = dt 21 j := fun j => (hF213 21 (by decide) j).trans (C195 j)
      have C282 : ∀ j : Nat, dt211 22 j = dt 22 j := fun j => (hF213 22 (by decide) j).trans (C196 j)
      have C283 : ∀ j : Nat, dt211 23 j = dt 23 j := fun j => (hF213 23 (by decide) j).trans (C197 j)
      have C284 : ∀ j : Nat, dt211 25 j = dt 25 j := fun j => (hF213 25 (by decide) j).trans (C198 j)
      have C285 : ∀ j : Nat, dt211 26 j = dt 26 j := fun j => (hF213 26 (by decide) j).trans (C199 j)
      have C286 : ∀ j : Nat, dt211 28 j = dt 28 j := fun j => (hF213 28 (by decide) j).trans (C200 j)
      have C287 : ∀ j : Nat, dt211 36 j = dt 36 j := fun j => (hF213 36 (by decide) j).trans (C201 j)
      have C288 : ∀ j : Nat, dt211 80 j = dt 80 j := fun j => (hF213 80 (by decide) j).trans (C202 j)
      have C289 : ∀ j : Nat, dt211 81 j = dt 81 j := fun j => (hF213 81 (by decide) j).trans (C203 j)
      have C290 : ∀ j : Nat, dt211 85 j = dt 85 j := fun j => (hF213 85 (by decide) j).trans (C204 j)
      refine go_ifq PM267 (k := 0) (p1 := 1435) (p2 := 1371) (L' := [some (.inr (.inr (some 3000))), some (.inr (.inr (some 0))), some (.inr (.inr (some 79))), some (.inl i)]) (st' := []) (w' := (SH, dt211)) rfl (c_eq (a := v_h39) (b := v_h210) (by first | exact bnd h39r (by decide) (by decide) | exact ⟨by omega, by omega⟩) (by first | exact bnd h210r (by decide) (by decide) | exact ⟨by omega, by omega⟩)) (fun c291 => ?_) (fun c291 => ?_)
      · skip
        exact K dt211 hI212 hM215 M2270 (w216.trans (hk0.trans w232.symm)) (w217.trans (hk1.trans w233.symm)) (w218.trans (hk2.trans w234.symm)) (w219.trans (hk3.trans w235.symm)) (w220.trans (hk4.trans w236.symm)) (w221.trans (hk5.trans w237.symm)) (w222.trans (hk6.trans w238.symm)) (w223.trans (hk7.trans w239.symm)) (w224.trans (hk8.trans w240.symm)) (w225.trans (hk9.trans w241.symm)) (w226.trans (hk10.trans w242.symm)) (w227.trans (hk11.trans w243.symm)) (w228.trans (hk12.trans w244.symm)) (w229.trans (hk13.trans w245.symm)) (w230.trans (hk14.trans w246.symm)) (w231.trans (hk15.trans w247.symm)) (by first | exact hI | exact TPL_k hd0 C287 C290 (by omega) | (exfalso; omega)) (by first | exact hI | exact SCL_k hd1 hM (fun j _ => C271 j) (fun j _ => C272 j) (fun j _ _ => C288 j) | (exfalso; omega)) (by first | exact hI | exact SCL_k hd2 hM2 (fun j _ => C279 j) (fun j _ => C280 j) (fun j _ _ => C289 j) | (exfalso; omega)) (by first | exact hI | exact QRL_k hd3 hM (fun j _ => C276 j) (C288 1) (fun j _ _ => C288 j) | (exfalso; omega)) (by first | exact hI | exact QRL_k hd4 hM2 (fun j _ => C284 j) (C289 1) (fun j _ _ => C289 j) | (exfalso; omega)) (by first | exact hI | exact SDL_k hd5 hM (fun j _ => C277 j) (C288 1) (fun j _ _ => C288 j) (fun j _ _ => C288 j) | (exfalso; omega)) (by first | exact hI | exact SDL_k hd6 hM2 (fun j _ => C285 j) (C289 1) (fun j _ _ => C289 j) (fun j _ _ => C289 j) | (exfalso; omega)) (by first | exact hI | exact LWL_k hd7 hM (fun j _ => C273 j) (fun j _ => C274 j) (fun j _ => C275 j) (fun j _ _ => C288 j) | (exfalso; omega)) (by first | exact hI | exact LWL_k hd8 hM2 (fun j _ => C281 j) (fun j _ => C282 j) (fun j _ => C283 j) (fun j _ _ => C289 j) | (exfalso; omega)) (by first | exact hI | exact CHL_k hd9 hM (fun j _ => C278 j) (by omega) (fun j _ _ => C288 j) | (exfalso; omega)) (by first | exact hI | exact CHL_k hd10 hM2 (fun j _ => C286 j) (by omega) (fun j _ _ => C289 j) | (exfalso; omega))
      · skip
        replace c291 := hid c291
        exfalso; (first | omega | (have z0_ := unhid c291; omega))
set_option maxRecDepth 20000 in
set_option maxHeartbeats 8000000 in
theorem sp_case31 (L : Nat) (xs : Nat → Int32) (sio : Option Nat) (d : Nat) (Q : Option AV → am_W → Prop) (hLL : L ≤ 3072) (i : Int) (hi : 0 ≤ i ∧ i ≤ 3066) (hil : i ≤ (L : Int) - 6) (dt : Nat → Nat → Int) (hI : InvC dt) (hM : MW (dt 80)) (hM2 : MW (dt 81)) (hk0 : dt 1 0 = dt 80 0) (hk1 : dt 7 3 = dt 80 1) (hk2 : dt 10 3 = dt 80 2) (hk3 : dt 12 3 = dt 80 3) (hk4 : dt 14 3 = dt 80 4) (hk5 : dt 16 3 = dt 80 5) (hk6 : dt 18 0 = dt 81 0) (hk7 : dt 24 3 = dt 81 1) (hk8 : dt 27 3 = dt 81 2) (hk9 : dt 29 3 = dt 81 3) (hk10 : dt 31 3 = dt 81 4) (hk11 : dt 33 3 = dt 81 5) (hk12 : dt 0 2 = dt 79 2) (hk13 : dt 35 1 = dt 79 12) (hk14 : dt 35 2 = dt 79 19) (hk15 : dt 35 3 = dt 79 21) (hd0 : TPL (dt 36) (dt 85) (dt 35 1)) (hd1 : SCL (dt 2) (dt 3) (dt 80)) (hd2 : SCL (dt 19) (dt 20) (dt 81)) (hd3 : QRL (dt 8) (dt 80)) (hd4 : QRL (dt 25) (dt 81)) (hd5 : SDL (dt 9) (dt 80)) (hd6 : SDL (dt 26) (dt 81)) (hd7 : LWL (dt 4) (dt 5) (dt 6) (dt 80)) (hd8 : LWL (dt 21) (dt 22) (dt 23) (dt 81)) (hd9 : CHL (dt 11) (dt 80)) (hd10 : CHL (dt 28) (dt 81)) (K : ∀ (dt : Nat → Nat → Int) (hI : InvC dt) (hM : MW (dt 80)) (hM2 : MW (dt 81)) (hk0 : dt 1 0 = dt 80 0) (hk1 : dt 7 3 = dt 80 1) (hk2 : dt 10 3 = dt 80 2) (hk3 : dt 12 3 = dt 80 3) (hk4 : dt 14 3 = dt 80 4) (hk5 : dt 16 3 = dt 80 5) (hk6 : dt 18 0 = dt 81 0) (hk7 : dt 24 3 = dt 81 1) (hk8 : dt 27 3 = dt 81 2) (hk9 : dt 29 3 = dt 81 3) (hk10 : dt 31 3 = dt 81 4) (hk11 : dt 33 3 = dt 81 5) (hk12 : dt 0 2 = dt 79 2) (hk13 : dt 35 1 = dt 79 12) (hk14 : dt 35 2 = dt 79 19) (hk15 : dt 35 3 = dt 79 21) (hd0 : TPL (dt 36) (dt 85) (dt 35 1)) (hd1 : SCL (dt 2) (dt 3) (dt 80)) (hd2 : SCL (dt 19) (dt 20) (dt 81)) (hd3 : QRL (dt 8) (dt 80)) (hd4 : QRL (dt 25) (dt 81)) (hd5 : SDL (dt 9) (dt 80)) (hd6 : SDL (dt 26) (dt 81)) (hd7 : LWL (dt 4) (dt 5) (dt 6) (dt 80)) (hd8 : LWL (dt 21) (dt 22) (dt 23) (dt 81)) (hd9 : CHL (dt 11) (dt 80)) (hd10 : CHL (dt 28) (dt 81)), GO (am_XX L xs sio) (d + 39) 267 1435 [some (.inr (.inr (some 3000))), some (.inr (.inr (some 0))), some (.inr (.inr (some 79))), some (.inl i)] [] (SH, dt) Q) : GO (am_XX L xs sio) (d + 39) 267 1373 [some (.inr (.inr (some 3000))), some (.inr (.inr (some 0))), some (.inr (.inr (some 79))), some (.inl i)] [] (SH, dt) Q := by
  have hF : Fr [0, 1, 2, 3, 4, 5, 6, 7, 8, 9, 10, 11, 12, 13, 14, 15, 16, 17, 18, 19, 20, 21, 22, 23, 24, 25, 26, 27, 28, 29, 30, 31, 32, 33, 34, 35, 36, 37, 38, 39, 40, 41, 42, 43, 44, 45, 46, 47, 48, 49, 50, 51, 52, 53, 54, 55, 56, 57, 58, 59, 60, 61, 62, 63, 64, 65, 66, 67, 68, 69, 70, 71, 72, 73, 74, 75, 76, 77, 78, 79, 80, 81, 82, 83, 84, 85, 86, 87, 88, 89, 90, 91, 92, 93, 94, 95, 96, 97, 98, 99, 100, 101, 102, 103, 104] dt dt := Fr_refl
  have hqo := QOC_R hd3 hM hk1
  have hb1_ := hM.1.1
  have hb2_ := hM.1.2.1
  have hb3_ := hM.1.2.2.1
  have halk : ALK dt (dt 80) := ⟨hd7, hd3, hd5, hd9, hk1, hk2⟩
  refine go_toq PM267 (k := 5) (pc' := 1378) (L' := [some (.inr (.inr (some 3000))), some (.inr (.inr (some 0))), some (.inr (.inr (some 79))), some (.inl i)]) (st' := [.inl (i + 1), .inr (.inr (some 3000)), .inr (.inr (some 0))]) (w' := (SH, dt)) rfl ?_
  have r1 := i32_R (xs ((i + 1).toNat))
  refine go_smpq PM267 (L' := [some (.inr (.inr (some 3000))), some (.inr (.inr (some 0))), some (.inr (.inr (some 79))), some (.inl i)]) (st' := [.inl ((xs ((i + 1).toNat)).toInt), .inr (.inr (some 0))]) (w' := (SH, dt)) rfl rfl (s_iald (n := L) (f := fun j => (xs j).toInt) (am_scr hLL) ⟨by omega, by omega⟩) ?_
  refine go_ifq PM267 (k := 0) (p1 := 1386) (p2 := 1382) (L' := [some (.inr (.inr (some 3000))), some (.inr (.inr (some 0))), some (.inr (.inr (some 79))), some (.inl i)]) (st' := [.inr (.inr (some 0))]) (w' := (SH, dt)) rfl (z_eq (a := (xs ((i + 1).toNat)).toInt) ⟨by omega, by omega⟩) (fun c2 => ?_) (fun c2 => ?_)
  · skip
    refine go_toq PM267 (k := 1) (pc' := 1387) (L' := [some (.inr (.inr (some 3000))), some (.inr (.inr (some 0))), some (.inr (.inr (some 79))), some (.inl i)]) (st' := [.inl 0, .inr (.inr (some 0))]) (w' := (SH, dt)) rfl ?_
    refine go_callq PM267 PM98 (Q' := _) rfl rfl rfl rfl (sp_X5_image_0w L xs sio (d + 35) dt hI   ) ?_
    rintro _ _ ⟨dt4, rfl, hI5, hF6, h3⟩
    refine ⟨rfl, ?_⟩
    have hF7 : Fr [0, 1, 2, 3, 4, 5, 6, 7, 8, 9, 10, 11, 12, 13, 14, 15, 16, 17, 18, 19, 20, 21, 22, 23, 24, 25, 26, 27, 28, 29, 30, 31, 32, 33, 34, 35, 36, 37, 38, 39, 40, 41, 42, 43, 44, 45, 46, 47, 48, 49, 50, 51, 52, 53, 54, 55, 56, 57, 58, 59, 60, 61, 62, 63, 64, 65, 66, 67, 68, 69, 70, 71, 72, 73, 74, 75, 76, 77, 78, 79, 80, 81, 82, 83, 84, 85, 86, 87, 88, 89, 90, 91, 92, 93, 94, 95, 96, 97, 98, 99, 100, 101, 102, 103, 104] dt dt4 := Fr_tr hF hF6 (by decide)
    have hM8 : MW (dt4 80) := MW_fr hM hF6 (by decide)
    have w9 : dt4 18 0 = dt 18 0 := hF6 18 (by decide) 0
    have w10 : dt4 24 3 = dt 24 3 := hF6 24 (by decide) 3
    have w11 : dt4 27 3 = dt 27 3 := hF6 27 (by decide) 3
    have w12 : dt4 29 3 = dt 29 3 := hF6 29 (by decide) 3
    have w13 : dt4 31 3 = dt 31 3 := hF6 31 (by decide) 3
    have w14 : dt4 33 3 = dt 33 3 := hF6 33 (by decide) 3
    have w15 : dt4 0 2 = dt 0 2 := hF6 0 (by decide) 2
    have w16 : dt4 35 1 = dt 35 1 := hF6 35 (by decide) 1
    have w17 : dt4 35 2 = dt 35 2 := hF6 35 (by decide) 2
    have w18 : dt4 35 3 = dt 35 3 := hF6 35 (by decide) 3
    have w19 : dt4 80 0 = dt 80 0 := hF6 80 (by decide) 0
    have w20 : dt4 80 1 = dt 80 1 := hF6 80 (by decide) 1
    have w21 : dt4 80 2 = dt 80 2 := hF6 80 (by decide) 2
    have w22 : dt4 80 3 = dt 80 3 := hF6 80 (by decide) 3
    have w23 : dt4 80 4 = dt 80 4 := hF6 80 (by decide) 4
    have w24 : dt4 80 5 = dt 80 5 := hF6 80 (by decide) 5
    have w25 : dt4 81 0 = dt 81 0 := hF6 81 (by decide) 0
    have w26 : dt4 81 1 = dt 81 1 := hF6 81 (by decide) 1
    have w27 : dt4 81 2 = dt 81 2 := hF6 81 (by decide) 2
    have w28 : dt4 81 3 = dt 81 3 := hF6 81 (by decide) 3
    have w29 : dt4 81 4 = dt 81 4 := hF6 81 (by decide) 4
    have w30 : dt4 81 5 = dt 81 5 := hF6 81 (by decide) 5
    have w31 : dt4 79 2 = dt 79 2 := hF6 79 (by decide) 2
    have w32 : dt4 79 12 = dt 79 12 := hF6 79 (by decide) 12
    have w33 : dt4 79 19 = dt 79 19 := hF6 79 (by decide) 19
    have w34 : dt4 79 21 = dt 79 21 := hF6 79 (by decide) 21
    rcases h3 with ⟨v_h3, rfl, h3r, h3⟩ | ⟨v_h3, rfl, h3r, h3⟩
    · skip
      obtain ⟨h3_0, h3_1, h3_2, h3_3, h3_4, h3_5, h3_6, h3_7, h3_8, h3_9, h3_10, h3_11, h3_12, h3_13, h3_14, h3_15, h3_16, h3_17, h3_18, h3_19, h3_20, h3_21, h3_22, h3_23, h3_24, h3_25, h3_26, h3_27, h3_28, h3_29, h3_30⟩ := h3
      have w35 : dt4 18 0 = dt 18 0 := h3_9
      have w36 : dt4 24 3 = dt 24 3 := h3_10
      have w37 : dt4 27 3 = dt 27 3 := h3_11
      have w38 : dt4 29 3 = dt 29 3 := h3_12
      have w39 : dt4 31 3 = dt 31 3 := h3_13
      have w40 : dt4 33 3 = dt 33 3 := h3_14
      have M241 : MW (dt4 81) := MW_frk hM2 hF6 (by decide)
      have C42 : ∀ j : Nat, dt4 19 j = dt 19 j := fun j => (hF6 19 (by decide) j).trans ((fun _ => rfl) j)
      have C43 : ∀ j : Nat, dt4 20 j = dt 20 j := fun j => (hF6 20 (by decide) j).trans ((fun _ => rfl) j)
      have C44 : ∀ j : Nat, dt4 21 j = dt 21 j := fun j => (hF6 21 (by decide) j).trans ((fun _ => rfl) j)
      have C45 : ∀ j : Nat, dt4 22 j = dt 22 j := fun j => (hF6 22 (by decide) j).trans ((fun _ => rfl) j)
      have C46 : ∀ j : Nat, dt4 23 j = dt 23 j := fun j => (hF6 23 (by decide) j).trans ((fun _ => rfl) j)
      have C47 : ∀ j : Nat, dt4 25 j = dt 25 j := fun j => (hF6 25 (by decide) j).trans ((fun _ => rfl) j)
      have C48 : ∀ j : Nat, dt4 26 j = dt 26 j := fun j => (hF6 26 (by decide) j).trans ((fun _ => rfl) j)
      have C49 : ∀ j : Nat, dt4 28 j = dt 28 j := fun j => (hF6 28 (by decide) j).trans ((fun _ => rfl) j)
      have C50 : ∀ j : Nat, dt4 36 j = dt 36 j := fun j => (hF6 36 (by decide) j).trans ((fun _ => rfl) j)
      have C51 : ∀ j : Nat, dt4 80 j = dt 80 j := fun j => (hF6 80 (by decide) j).trans ((fun _ => rfl) j)
      have C52 : ∀ j : Nat, dt4 81 j = dt 81 j := fun j => (hF6 81 (by decide) j).trans ((fun _ => rfl) j)
      have C53 : ∀ j : Nat, dt4 85 j = dt 85 j := fun j => (hF6 85 (by decide) j).trans ((fun _ => rfl) j)
      refine go_toq PM267 (k := 6) (pc' := 1396) (L' := [some (.inr (.inr (some 3000))), some (.inr (.inr (some 0))), some (.inr (.inr (some 79))), some (.inl i)]) (st' := [.inl (i + 1), .inr (.inr (some 3000)), .inr (.inr (some 79))]) (w' := (SH, dt4)) rfl ?_
      have r54 := i32_R (xs ((i + 1).toNat))
      refine go_smpq PM267 (L' := [some (.inr (.inr (some 3000))), some (.inr (.inr (some 0))), some (.inr (.inr (some 79))), some (.inl i)]) (st' := [.inl ((xs ((i + 1).toNat)).toInt), .inr (.inr (some 79))]) (w' := (SH, dt4)) rfl rfl (s_iald (n := L) (f := fun j => (xs j).toInt) (am_scr hLL) ⟨by omega, by omega⟩) ?_
      refine go_ifq PM267 (k := 0) (p1 := 1404) (p2 := 1400) (L' := [some (.inr (.inr (some 3000))), some (.inr (.inr (some 0))), some (.inr (.inr (some 79))), some (.inl i)]) (st' := [.inr (.inr (some 79))]) (w' := (SH, dt4)) rfl (z_eq (a := (xs ((i + 1).toNat)).toInt) ⟨by omega, by omega⟩) (fun c55 => ?_) (fun c55 => ?_)
      · skip
        refine go_toq PM267 (k := 1) (pc' := 1405) (L' := [some (.inr (.inr (some 3000))), some (.inr (.inr (some 0))), some (.inr (.inr (some 79))), some (.inl i)]) (st' := [.inl 0, .inr (.inr (some 79))]) (w' := (SH, dt4)) rfl ?_
        refine go_callq PM267 PM247 (Q' := _) rfl rfl rfl rfl (sp_X6_image_0v L xs sio (d + 38) dt4 hI5 hM8   (by first | exact True.intro | with_reducible assumption | rfl | omega | trivial | exact M241 | exact hd1 | exact hqo | exact halk)) ?_
        rintro _ _ ⟨dt57, rfl, hI58, hF59, h56⟩
        refine ⟨rfl, ?_⟩
        have hF60 : Fr [0, 1, 2, 3, 4, 5, 6, 7, 8, 9, 10, 11, 12, 13, 14, 15, 16, 17, 18, 19, 20, 21, 22, 23, 24, 25, 26, 27, 28, 29, 30, 31, 32, 33, 34, 35, 36, 37, 38, 39, 40, 41, 42, 43, 44, 45, 46, 47, 48, 49, 50, 51, 52, 53, 54, 55, 56, 57, 58, 59, 60, 61, 62, 63, 64, 65, 66, 67, 68, 69, 70, 71, 72, 73, 74, 75, 76, 77, 78, 79, 80, 81, 82, 83, 84, 85, 86, 87, 88, 89, 90, 91, 92, 93, 94, 95, 96, 97, 98, 99, 100, 101, 102, 103, 104] dt dt57 := Fr_tr hF7 hF59 (by decide)
        have w61 : dt57 1 0 = dt4 1 0 := hF59 1 (by decide) 0
        have w62 : dt57 7 3 = dt4 7 3 := hF59 7 (by decide) 3
        have w63 : dt57 10 3 = dt4 10 3 := hF59 10 (by decide) 3
        have w64 : dt57 12 3 = dt4 12 3 := hF59 12 (by decide) 3
        have w65 : dt57 14 3 = dt4 14 3 := hF59 14 (by decide) 3
        have w66 : dt57 16 3 = dt4 16 3 := hF59 16 (by decide) 3
        have w67 : dt57 18 0 = dt 18 0 := (hF59 18 (by decide) 0).trans w35
        have w68 : dt57 24 3 = dt 24 3 := (hF59 24 (by decide) 3).trans w36
        have w69 : dt57 27 3 = dt 27 3 := (hF59 27 (by decide) 3).trans w37
        have w70 : dt57 29 3 = dt 29 3 := (hF59 29 (by decide) 3).trans w38
        have w71 : dt57 31 3 = dt 31 3 := (hF59 31 (by decide) 3).trans w39
        have w72 : dt57 33 3 = dt 33 3 := (hF59 33 (by decide) 3).trans w40
        have w73 : dt57 0 2 = dt 0 2 := (hF59 0 (by decide) 2).trans w15
        have w74 : dt57 35 1 = dt 35 1 := (hF59 35 (by decide) 1).trans w16
        have w75 : dt57 35 2 = dt 35 2 := (hF59 35 (by decide) 2).trans w17
        have w76 : dt57 35 3 = dt 35 3 := (hF59 35 (by decide) 3).trans w18
        have w77 : dt57 81 0 = dt 81 0 := (hF59 81 (by decide) 0).trans w25
        have w78 : dt57 81 1 = dt 81 1 := (hF59 81 (by decide) 1).trans w26
        have w79 : dt57 81 2 = dt 81 2 := (hF59 81 (by decide) 2).trans w27
        have w80 : dt57 81 3 = dt 81 3 := (hF59 81 (by decide) 3).trans w28
        have w81 : dt57 81 4 = dt 81 4 := (hF59 81 (by decide) 4).trans w29
        have w82 : dt57 81 5 = dt 81 5 := (hF59 81 (by decide) 5).trans w30
        rcases h56 with ⟨rfl, h56⟩ | ⟨rfl, h56⟩
        · skip
          have hM83 : MW (dt57 80) := h56.2.2.1
          obtain ⟨h56_0, h56_1, h56_2, h56_3, h56_4, h56_5, h56_6, h56_7, h56_8, h56_9, h56_10⟩ := h56
          have w84 : dt57 79 12 = dt 79 12 := h56_8.trans w32
          have w85 : dt57 79 19 = dt 79 19 := h56_9.trans w33
          have w86 : dt57 79 21 = dt 79 21 := h56_10.trans w34
          have M287 : MW (dt57 81) := MW_frk M241 hF59 (by decide)
          have y88 := h56_4 0 (by decide)
          have y89 := h56_4 1 (by decide)
          have y90 := h56_4 2 (by decide)
          have y91 := h56_4 3 (by decide)
          have y92 := h56_4 4 (by decide)
          have y93 := h56_4 5 (by decide)
          have y94 := h56_5 0 (by decide)
          have y95 := h56_5 1 (by decide)
          have y96 := h56_5 2 (by decide)
          have y97 := h56_5 3 (by decide)
          have y98 := h56_5 4 (by decide)
          have y99 := h56_5 5 (by decide)
          have C100 : ∀ j : Nat, dt57 19 j = dt 19 j := fun j => (hF59 19 (by decide) j).trans (C42 j)
          have C101 : ∀ j : Nat, dt57 20 j = dt 20 j := fun j => (hF59 20 (by decide) j).trans (C43 j)
          have C102 : ∀ j : Nat, dt57 21 j = dt 21 j := fun j => (hF59 21 (by decide) j).trans (C44 j)
          have C103 : ∀ j : Nat, dt57 22 j = dt 22 j := fun j => (hF59 22 (by decide) j).trans (C45 j)
          have C104 : ∀ j : Nat, dt57 23 j = dt 23 j := fun j => (hF59 23 (by decide) j).trans (C46 j)
          have C105 : ∀ j : Nat, dt57 25 j = dt 25 j := fun j => (hF59 25 (by decide) j).trans (C47 j)
          have C106 : ∀ j : Nat, dt57 26 j = dt 26 j := fun j => (hF59 26 (by decide) j).trans (C48 j)
          have C107 : ∀ j : Nat, dt57 28 j = dt 28 j := fun j => (hF59 28 (by decide) j).trans (C49 j)
          have C108 : ∀ j : Nat, dt57 36 j = dt 36 j := fun j => (hF59 36 (by decide) j).trans (C50 j)
          have C109 : ∀ j : Nat, dt57 81 j = dt 81 j := fun j => (hF59 81 (by decide) j).trans (C52 j)
          have C110 : ∀ j : Nat, dt57 85 j = dt 85 j := fun j => (hF59 85 (by decide) j).trans (C53 j)
          have C111 : ∀ j : Nat, j < 192 → dt57 2 j = dt 19 j := fun j hj => (hF59 2 (by decide) j).trans (h3_15 j hj)
          have C112 : ∀ j : Nat, j < 8 → dt57 3 j = dt 20 j := fun j hj => (hF59 3 (by decide) j).trans (h3_16 j hj)
          have C113 : ∀ j : Nat, j < 256 → dt57 4 j = dt 21 j := fun j hj => (hF59 4 (by decide) j).trans (h3_17 j hj)
          have C114 : ∀ j : Nat, j < 4 → dt57 5 j = dt 22 j := fun j hj => (hF59 5 (by decide) j).trans (h3_18 j hj)
          have C115 : ∀ j : Nat, j < 2000 → dt57 6 j = dt 23 j := fun j hj => (hF59 6 (by decide) j).trans (h3_19 j hj)
          have C116 : ∀ j : Nat, j < 60 → dt57 8 j = dt 25 j := fun j hj => (hF59 8 (by decide) j).trans (h3_20 j hj)
          have C117 : ∀ j : Nat, j < 132 → dt57 9 j = dt 26 j := fun j hj => (hF59 9 (by decide) j).trans (h3_21 j hj)
          have C118 : ∀ j : Nat, j < 160 → dt57 11 j = dt 28 j := fun j hj => (hF59 11 (by decide) j).trans (h3_22 j hj)
          have C119 : ∀ j : Nat, j < 192 → dt57 19 j = dt 19 j := fun j hj => (hF59 19 (by decide) j).trans (h3_23 j hj)
          have C120 : ∀ j : Nat, j < 8 → dt57 20 j = dt 20 j := fun j hj => (hF59 20 (by decide) j).trans (h3_24 j hj)
          have C121 : ∀ j : Nat, j < 256 → dt57 21 j = dt 21 j := fun j hj => (hF59 21 (by decide) j).trans (h3_25 j hj)
          have C122 : ∀ j : Nat, j < 4 → dt57 22 j = dt 22 j := fun j hj => (hF59 22 (by decide) j).trans (h3_26 j hj)
          have C123 : ∀ j : Nat, j < 2000 → dt57 23 j = dt 23 j := fun j hj => (hF59 23 (by decide) j).trans (h3_27 j hj)
          have C124 : ∀ j : Nat, j < 60 → dt57 25 j = dt 25 j := fun j hj => (hF59 25 (by decide) j).trans (h3_28 j hj)
          have C125 : ∀ j : Nat, j < 132 → dt57 26 j = dt 26 j := fun j hj => (hF59 26 (by decide) j).trans (h3_29 j hj)
          have C126 : ∀ j : Nat, j < 160 → dt57 28 j = dt 28 j := fun j hj => (hF59 28 (by decide) j).trans (h3_30 j hj)
          have F127 : ∀ j : Nat, j < 7460 → dt57 80 j = dt 80 j := fun j hj => (h56_6 j hj).trans (C51 j)
          have S128 : SCL (dt57 2) (dt57 3) (dt57 80) := by first | exact SCL_k hd2 hM2 C111 C112 (fun j _ h2_ => F127 j (by omega)) | (exfalso; omega)
          have S129 : QRL (dt57 8) (dt57 80) := by first | exact QRL_k hd4 hM2 C116 (F127 1 (by decide)) (fun j _ h2_ => F127 j (by omega)) | (exfalso; omega)
          have S130 : SDL (dt57 9) (dt57 80) := by first | exact SDL_k hd6 hM2 C117 (F127 1 (by decide)) (fun j _ h2_ => F127 j (by omega)) (fun j _ h2_ => F127 j (by omega)) | (exfalso; omega)
          have S131 : LWL (dt57 4) (dt57 5) (dt57 6) (dt57 80) := by first | exact LWL_k hd8 hM2 C113 C114 C115 (fun j _ h2_ => F127 j (by omega)) | (exfalso; omega)
          have S132 : CHL (dt57 11) (dt57 80) := by first | exact CHL_k hd10 hM2 C118 (F127 2 (by decide)) (fun j _ h2_ => F127 j (by omega)) | (exfalso; omega)
          have F133 : ∀ j : Nat, j < 7460 → dt57 81 j = dt 81 j := fun j hj => (h56_7 j hj).trans (C52 j)
          have S134 : SCL (dt57 19) (dt57 20) (dt57 81) := by first | exact SCL_k hd2 hM2 C119 C120 (fun j _ h2_ => F133 j (by omega)) | (exfalso; omega)
          have S135 : QRL (dt57 25) (dt57 81) := by first | exact QRL_k hd4 hM2 C124 (F133 1 (by decide)) (fun j _ h2_ => F133 j (by omega)) | (exfalso; omega)
          have S136 : SDL (dt57 26) (dt57 81) := by first | exact SDL_k hd6 hM2 C125 (F133 1 (by decide)) (fun j _ h2_ => F133 j (by omega)) (fun j _ h2_ => F133 j (by omega)) | (exfalso; omega)
          have S137 : LWL (dt57 21) (dt57 22) (dt57 23) (dt57 81) := by first | exact LWL_k hd8 hM2 C121 C122 C123 (fun j _ h2_ => F133 j (by omega)) | (exfalso; omega)
          have S138 : CHL (dt57 28) (dt57 81) := by first | exact CHL_k hd10 hM2 C126 (F133 2 (by decide)) (fun j _ h2_ => F133 j (by omega)) | (exfalso; omega)
          refine go_toq PM267 (k := 2) (pc' := 1435) (L' := [some (.inr (.inr (some 3000))), some (.inr (.inr (some 0))), some (.inr (.inr (some 79))), some (.inl i)]) (st' := []) (w' := (SH, dt57)) rfl ?_
          exact K dt57 hI58 hM83 M287 (by first | omega | (simp only [*]; done) | simp only [*]) (by omega) (by omega) (by omega) (by omega) (by omega) (w67.trans (hk6.trans w77.symm)) (w68.trans (hk7.trans w78.symm)) (w69.trans (hk8.trans w79.symm)) (w70.trans (hk9.trans w80.symm)) (w71.trans (hk10.trans w81.symm)) (w72.trans (hk11.trans w82.symm)) (by omega) (w74.trans (hk13.trans w84.symm)) (w75.trans (hk14.trans w85.symm)) (w76.trans (hk15.trans w86.symm)) (by first | exact hI | exact TPL_k hd0 C108 C110 (by omega) | (exfalso; omega)) (by first | exact S128 | exact SCL_k hd1 hM hI hI hI | (exfalso; omega)) (by first | exact S134 | exact SCL_k hd2 hM2 (fun j _ => C100 j) (fun j _ => C101 j) (fun j _ _ => C109 j) | (exfalso; omega)) (by first | exact S129 | exact QRL_k hd3 hM hI hI hI | (exfalso; omega)) (by first | exact S135 | exact QRL_k hd4 hM2 (fun j _ => C105 j) (C109 1) (fun j _ _ => C109 j) | (exfalso; omega)) (by first | exact S130 | exact SDL_k hd5 hM hI hI hI hI | (exfalso; omega)) (by first | exact S136 | exact SDL_k hd6 hM2 (fun j _ => C106 j) (C109 1) (fun j _ _ => C109 j) (fun j _ _ => C109 j) | (exfalso; omega)) (by first | exact S131 | exact LWL_k hd7 hM hI hI hI hI | (exfalso; omega)) (by first | exact S137 | exact LWL_k hd8 hM2 (fun j _ => C102 j) (fun j _ => C103 j) (fun j _ => C104 j) (fun j _ _ => C109 j) | (exfalso; omega)) (by first | exact S132 | exact CHL_k hd9 hM hI (by omega) hI | (exfalso; omega)) (by first | exact S138 | exact CHL_k hd10 hM2 (fun j _ => C107 j) (by omega) (fun j _ _ => C109 j) | (exfalso; omega))
        · skip
          have hM139 : MW (dt57 80) := h56.2.2.1
          obtain ⟨h56_0, h56_1, h56_2, h56_3, h56_4, h56_5, h56_6, h56_7, h56_8, h56_9, h56_10⟩ := h56
          replace h56_0 := hid h56_0
          have w140 : dt57 79 12 = dt 79 12 := h56_8.trans w32
          have w141 : dt57 79 19 = dt 79 19 := h56_9.trans w33
          have w142 : dt57 79 21 = dt 79 21 := h56_10.trans w34
          have M2143 : MW (dt57 81) := MW_frk M241 hF59 (by decide)
          have y144 := h56_4 0 (by decide)
          have y145 := h56_4 1 (by decide)
          have y146 := h56_4 2 (by decide)
          have y147 := h56_4 3 (by decide)
          have y148 := h56_4 4 (by decide)
          have y149 := h56_4 5 (by decide)
          have y150 := h56_5 0 (by decide)
          have y151 := h56_5 1 (by decide)
          have y152 := h56_5 2 (by decide)
          have y153 := h56_5 3 (by decide)
          have y154 := h56_5 4 (by decide)
          have y155 := h56_5 5 (by decide)
          have C156 : ∀ j : Nat, dt57 19 j = dt 19 j := fun j => (hF59 19 (by decide) j).trans (C42 j)
          have C157 : ∀ j : Nat, dt57 20 j = dt 20 j := fun j => (hF59 20 (by decide) j).trans (C43 j)
          have C158 : ∀ j : Nat, dt57 21 j = dt 21 j := fun j => (hF59 21 (by decide) j).trans (C44 j)
          have C159 : ∀ j : Nat, dt57 22 j = dt 22 j := fun j => (hF59 22 (by decide) j).trans (C45 j)
          have C160 : ∀ j : Nat, dt57 23 j = dt 23 j := fun j => (hF59 23 (by decide) j).trans (C46 j)
          have C161 : ∀ j : Nat, dt57 25 j = dt 25 j := fun j => (hF59 25 (by decide) j).trans (C47 j)
          have C162 : ∀ j : Nat, dt57 26 j = dt 26 j := fun j => (hF59 26 (by decide) j).trans (C48 j)
          have C163 : ∀ j : Nat, dt57 28 j = dt 28 j := fun j => (hF59 28 (by decide) j).trans (C49 j)
          have C164 : ∀ j : Nat, dt57 36 j = dt 36 j := fun j => (hF59 36 (by decide) j).trans (C50 j)
          have C165 : ∀ j : Nat, dt57 81 j = dt 81 j := fun j => (hF59 81 (by decide) j).trans (C52 j)
          have C166 : ∀ j : Nat, dt57 85 j = dt 85 j := fun j => (hF59 85 (by decide) j).trans (C53 j)
          have C167 : ∀ j : Nat, j < 192 → dt57 2 j = dt 19 j := fun j hj => (hF59 2 (by decide) j).trans (h3_15 j hj)
          have C168 : ∀ j : Nat, j < 8 → dt57 3 j = dt 20 j := fun j hj => (hF59 3 (by decide) j).trans (h3_16 j hj)
          have C169 : ∀ j : Nat, j < 256 → dt57 4 j = dt 21 j := fun j hj => (hF59 4 (by decide) j).trans (h3_17 j hj)
          have C170 : ∀ j : Nat, j < 4 → dt57 5 j = dt 22 j := fun j hj => (hF59 5 (by decide) j).trans (h3_18 j hj)
          have C171 : ∀ j : Nat, j < 2000 → dt57 6 j = dt 23 j := fun j hj => (hF59 6 (by decide) j).trans (h3_19 j hj)
          have C172 : ∀ j : Nat, j < 60 → dt57 8 j = dt 25 j := fun j hj => (hF59 8 (by decide) j).trans (h3_20 j hj)
          have C173 : ∀ j : Nat, j < 132 → dt57 9 j = dt 26 j := fun j hj => (hF59 9 (by decide) j).trans (h3_21 j hj)
          have C174 : ∀ j : Nat, j < 160 → dt57 11 j = dt 28 j := fun j hj => (hF59 11 (by decide) j).trans (h3_22 j hj)
          have C175 : ∀ j : Nat, j < 192 → dt57 19 j = dt 19 j := fun j hj => (hF59 19 (by decide) j).trans (h3_23 j hj)
          have C176 : ∀ j : Nat, j < 8 → dt57 20 j = dt 20 j := fun j hj => (hF59 20 (by decide) j).trans (h3_24 j hj)
          have C177 : ∀ j : Nat, j < 256 → dt57 21 j = dt 21 j := fun j hj => (hF59 21 (by decide) j).trans (h3_25 j hj)
          have C178 : ∀ j : Nat, j < 4 → dt57 22 j = dt 22 j := fun j hj => (hF59 22 (by decide) j).trans (h3_26 j hj)
          have C179 : ∀ j : Nat, j < 2000 → dt57 23 j = dt 23 j := fun j hj => (hF59 23 (by decide) j).trans (h3_27 j hj)
          have C180 : ∀ j : Nat, j < 60 → dt57 25 j = dt 25 j := fun j hj => (hF59 25 (by decide) j).trans (h3_28 j hj)
          have C181 : ∀ j : Nat, j < 132 → dt57 26 j = dt 26 j := fun j hj => (hF59 26 (by decide) j).trans (h3_29 j hj)
          have C182 : ∀ j : Nat, j < 160 → dt57 28 j = dt 28 j := fun j hj => (hF59 28 (by decide) j).trans (h3_30 j hj)
          have F183 : ∀ j : Nat, j < 7460 → dt57 80 j = dt 81 j := fun j hj => (h56_6 j hj).trans (C52 j)
          have S184 : SCL (dt57 2) (dt57 3) (dt57 80) := by first | exact SCL_k hd2 hM2 C167 C168 (fun j _ h2_ => F183 j (by (first | omega | (have z0_ := unhid h56_0; omega)))) | (exfalso; (first | omega | (have z0_ := unhid h56_0; omega)))
          have S185 : QRL (dt57 8) (dt57 80) := by first | exact QRL_k hd4 hM2 C172 (F183 1 (by decide)) (fun j _ h2_ => F183 j (by (first | omega | (have z0_ := unhid h56_0; omega)))) | (exfalso; (first | omega | (have z0_ := unhid h56_0; omega)))
          have S186 : SDL (dt57 9) (dt57 80) := by first | exact SDL_k hd6 hM2 C173 (F183 1 (by decide)) (fun j _ h2_ => F183 j (by (first | omega | (have z0_ := unhid h56_0; omega)))) (fun j _ h2_ => F183 j (by (first | omega | (have z0_ := unhid h56_0; omega)))) | (exfalso; (first | omega | (have z0_ := unhid h56_0; omega)))
          have S187 : LWL (dt57 4) (dt57 5) (dt57 6) (dt57 80) := by first | exact LWL_k hd8 hM2 C169 C170 C171 (fun j _ h2_ => F183 j (by (first | omega | (have z0_ := unhid h56_0; omega)))) | (exfalso; (first | omega | (have z0_ := unhid h56_0; omega)))
          have S188 : CHL (dt57 11) (dt57 80) := by first | exact CHL_k hd10 hM2 C174 (F183 2 (by decide)) (fun j _ h2_ => F183 j (by (first | omega | (have z0_ := unhid h56_0; omega)))) | (exfalso; (first | omega | (have z0_ := unhid h56_0; omega)))
          have F189 : ∀ j : Nat, j < 7460 → dt57 81 j = dt 81 j := fun j hj => (h56_7 j hj).trans (C52 j)
          have S190 : SCL (dt57 19) (dt57 20) (dt57 81) := by first | exact SCL_k hd2 hM2 C175 C176 (fun j _ h2_ => F189 j (by (first | omega | (have z0_ := unhid h56_0; omega)))) | (exfalso; (first | omega | (have z0_ := unhid h56_0; omega)))
          have S191 : QRL (dt57 25) (dt57 81) := by first | exact QRL_k hd4 hM2 C180 (F189 1 (by decide)) (fun j _ h2_ => F189 j (by (first | omega | (have z0_ := unhid h56_0; omega)))) | (exfalso; (first | omega | (have z0_ := unhid h56_0; omega)))
          have S192 : SDL (dt57 26) (dt57 81) := by first | exact SDL_k hd6 hM2 C181 (F189 1 (by decide)) (fun j _ h2_ => F189 j (by (first | omega | (have z0_ := unhid h56_0; omega)))) (fun j _ h2_ => F189 j (by (first | omega | (have z0_ := unhid h56_0; omega)))) | (exfalso; (first | omega | (have z0_ := unhid h56_0; omega)))
          have S193 : LWL (dt57 21) (dt57 22) (dt57 23) (dt57 81) := by first | exact LWL_k hd8 hM2 C177 C178 C179 (fun j _ h2_ => F189 j (by (first | omega | (have z0_ := unhid h56_0; omega)))) | (exfalso; (first | omega | (have z0_ := unhid h56_0; omega)))
          have S194 : CHL (dt57 28) (dt57 81) := by first | exact CHL_k hd10 hM2 C182 (F189 2 (by decide)) (fun j _ h2_ => F189 j (by (first | omega | (have z0_ := unhid h56_0; omega)))) | (exfalso; (first | omega | (have z0_ := unhid h56_0; omega)))
          refine go_toq PM267 (k := 2) (pc' := 1435) (L' := [some (.inr (.inr (some 3000))), some (.inr (.inr (some 0))), some (.inr (.inr (some 79))), some (.inl i)]) (st' := []) (w' := (SH, dt57)) rfl ?_
          exact K dt57 hI58 hM139 M2143 (by first | (first | omega | (have z0_ := unhid h56_0; omega)) | (simp only [*]; done) | simp only [*]) (by (first | omega | (have z0_ := unhid h56_0; omega))) (by (first | omega | (have z0_ := unhid h56_0; omega))) (by (first | omega | (have z0_ := unhid h56_0; omega))) (by (first | omega | (have z0_ := unhid h56_0; omega))) (by (first | omega | (have z0_ := unhid h56_0; omega))) (w67.trans (hk6.trans w77.symm)) (w68.trans (hk7.trans w78.symm)) (w69.trans (hk8.trans w79.symm)) (w70.trans (hk9.trans w80.symm)) (w71.trans (hk10.trans w81.symm)) (w72.trans (hk11.trans w82.symm)) (by (first | omega | (have z0_ := unhid h56_0; omega))) (w74.trans (hk13.trans w140.symm)) (w75.trans (hk14.trans w141.symm)) (w76.trans (hk15.trans w142.symm)) (by first | exact hI | exact TPL_k hd0 C164 C166 (by (first | omega | (have z0_ := unhid h56_0; omega))) | (exfalso; (first | omega | (have z0_ := unhid h56_0; omega)))) (by first | exact S184 | exact SCL_k hd1 hM hI hI hI | (exfalso; (first | omega | (have z0_ := unhid h56_0; omega)))) (by first | exact S190 | exact SCL_k hd2 hM2 (fun j _ => C156 j) (fun j _ => C157 j) (fun j _ _ => C165 j) | (exfalso; (first | omega | (have z0_ := unhid h56_0; omega)))) (by first | exact S185 | exact QRL_k hd3 hM hI hI hI | (exfalso; (first | omega | (have z0_ := unhid h56_0; omega)))) (by first | exact S191 | exact QRL_k hd4 hM2 (fun j _ => C161 j) (C165 1) (fun j _ _ => C165 j) | (exfalso; (first | omega | (have z0_ := unhid h56_0; omega)))) (by first | exact S186 | exact SDL_k hd5 hM hI hI hI hI | (exfalso; (first | omega | (have z0_ := unhid h56_0; omega)))) (by first | exact S192 | exact SDL_k hd6 hM2 (fun j _ => C162 j) (C165 1) (fun j _ _ => C165 j) (fun j _ _ => C165 j) | (exfalso; (first | omega | (have z0_ := unhid h56_0; omega)))) (by first | exact S187 | exact LWL_k hd7 hM hI hI hI hI | (exfalso; (first | omega | (have z0_ := unhid h56_0; omega)))) (by first | exact S193 | exact LWL_k hd8 hM2 (fun j _ => C158 j) (fun j _ => C159 j) (fun j _ => C160 j) (fun j _ _ => C165 j) | (exfalso; (first | omega | (have z0_ := unhid h56_0; omega)))) (by first | exact S188 | exact CHL_k hd9 hM hI (by (first | omega | (have z0_ := unhid h56_0; omega))) hI | (exfalso; (first | omega | (have z0_ := unhid h56_0; omega)))) (by first | exact S194 | exact CHL_k hd10 hM2 (fun j _ => C163 j) (by (first | omega | (have z0_ := unhid h56_0; omega))) (fun j _ _ => C165 j) | (exfalso; (first | omega | (have z0_ := unhid h56_0; omega))))
      · skip
        replace c55 := hid c55
        refine go_toq PM267 (k := 2) (pc' := 1405) (L' := [some (.inr (.inr (some 3000))), some (.inr (.inr (some 0))), some (.inr (.inr (some 79))), some (.inl i)]) (st' := [.inl 1, .inr (.inr (some 79))]) (w' := (SH, dt4)) rfl ?_
        refine go_callq PM267 PM247 (Q' := _) rfl rfl rfl rfl (sp_X6_image_1v L xs sio (d + 38) dt4 hI5 hM8   ) ?_
        rintro _ _ ⟨dt196, rfl, hI197, hF198, h195⟩
        refine ⟨rfl, ?_⟩
        have hF199 : Fr [0, 1, 2, 3, 4, 5, 6, 7, 8, 9, 10, 11, 12, 13, 14, 15, 16, 17, 18, 19, 20, 21, 22, 23, 24, 25, 26, 27, 28, 29, 30, 31, 32, 33, 34, 35, 36, 37, 38, 39, 40, 41, 42, 43, 44, 45, 46, 47, 48, 49, 50, 51, 52, 53, 54, 55, 56, 57, 58, 59, 60, 61, 62, 63, 64, 65, 66, 67, 68, 69, 70, 71, 72, 73, 74, 75, 76, 77, 78, 79, 80, 81, 82, 83, 84, 85, 86, 87, 88, 89, 90, 91, 92, 93, 94, 95, 96, 97, 98, 99, 100, 101, 102, 103, 104] dt dt196 := Fr_tr hF7 hF198 (by decide)
        have hM200 : MW (dt196 80) := MW_fr hM8 hF198 (by decide)
        have w201 : dt196 1 0 = dt4 1 0 := hF198 1 (by decide) 0
        have w202 : dt196 7 3 = dt4 7 3 := hF198 7 (by decide) 3
        have w203 : dt196 10 3 = dt4 10 3 := hF198 10 (by decide) 3
        have w204 : dt196 12 3 = dt4 12 3 := hF198 12 (by decide) 3
        have w205 : dt196 14 3 = dt4 14 3 := hF198 14 (by decide) 3
        have w206 : dt196 16 3 = dt4 16 3 := hF198 16 (by decide) 3
        have w207 : dt196 18 0 = dt 18 0 := (hF198 18 (by decide) 0).trans w35
        have w208 : dt196 24 3 = dt 24 3 := (hF198 24 (by decide) 3).trans w36
        have w209 : dt196 27 3 = dt 27 3 := (hF198 27 (by decide) 3).trans w37
        have w210 : dt196 29 3 = dt 29 3 := (hF198 29 (by decide) 3).trans w38
        have w211 : dt196 31 3 = dt 31 3 := (hF198 31 (by decide) 3).trans w39
        have w212 : dt196 33 3 = dt 33 3 := (hF198 33 (by decide) 3).trans w40
        have w213 : dt196 0 2 = dt 0 2 := (hF198 0 (by decide) 2).trans w15
        have w214 : dt196 35 1 = dt 35 1 := (hF198 35 (by decide) 1).trans w16
        have w215 : dt196 35 2 = dt 35 2 := (hF198 35 (by decide) 2).trans w17
        have w216 : dt196 35 3 = dt 35 3 := (hF198 35 (by decide) 3).trans w18
        have w217 : dt196 80 0 = dt 80 0 := (hF198 80 (by decide) 0).trans w19
        have w218 : dt196 80 1 = dt 80 1 := (hF198 80 (by decide) 1).trans w20
        have w219 : dt196 80 2 = dt 80 2 := (hF198 80 (by decide) 2).trans w21
        have w220 : dt196 80 3 = dt 80 3 := (hF198 80 (by decide) 3).trans w22
        have w221 : dt196 80 4 = dt 80 4 := (hF198 80 (by decide) 4).trans w23
        have w222 : dt196 80 5 = dt 80 5 := (hF198 80 (by decide) 5).trans w24
        rcases h195 with ⟨rfl, h195⟩
        have hM223 : MW (dt196 80) := h195.2.1
        obtain ⟨h195_0, h195_1, h195_2, h195_3, h195_4, h195_5, h195_6, h195_7, h195_8, h195_9⟩ := h195
        have w224 : dt196 79 12 = dt 79 12 := h195_7.trans w32
        have w225 : dt196 79 19 = dt 79 19 := h195_8.trans w33
        have w226 : dt196 79 21 = dt 79 21 := h195_9.trans w34
        have y227 := h195_3 0 (by decide)
        have y228 := h195_3 1 (by decide)
        have y229 := h195_3 2 (by decide)
        have y230 := h195_3 3 (by decide)
        have y231 := h195_3 4 (by decide)
        have y232 := h195_3 5 (by decide)
        have y233 := h195_4 0 (by decide)
        have y234 := h195_4 1 (by decide)
        have y235 := h195_4 2 (by decide)
        have y236 := h195_4 3 (by decide)
        have y237 := h195_4 4 (by decide)
        have y238 := h195_4 5 (by decide)
        have C239 : ∀ j : Nat, dt196 19 j = dt 19 j := fun j => (hF198 19 (by decide) j).trans (C42 j)
        have C240 : ∀ j : Nat, dt196 20 j = dt 20 j := fun j => (hF198 20 (by decide) j).trans (C43 j)
        have C241 : ∀ j : Nat, dt196 21 j = dt 21 j := fun j => (hF198 21 (by decide) j).trans (C44 j)
        have C242 : ∀ j : Nat, dt196 22 j = dt 22 j := fun j => (hF198 22 (by decide) j).trans (C45 j)
        have C243 : ∀ j : Nat, dt196 23 j = dt 23 j := fun j => (hF198 23 (by decide) j).trans (C46 j)
        have C244 : ∀ j : Nat, dt196 25 j = dt 25 j := fun j => (hF198 25 (by decide) j).trans (C47 j)
        have C245 : ∀ j : Nat, dt196 26 j = dt 26 j := fun j => (hF198 26 (by decide) j).trans (C48 j)
        have C246 : ∀ j : Nat, dt196 28 j = dt 28 j := fun j => (hF198 28 (by decide) j).trans (C49 j)
        have C247 : ∀ j : Nat, dt196 36 j = dt 36 j := fun j => (hF198 36 (by decide) j).trans (C50 j)
        have C248 : ∀ j : Nat, dt196 80 j = dt 80 j := fun j => (hF198 80 (by decide) j).trans (C51 j)
        have C249 : ∀ j : Nat, dt196 85 j = dt 85 j := fun j => (hF198 85 (by decide) j).trans (C53 j)
        have C250 : ∀ j : Nat, j < 192 → dt196 2 j = dt 19 j := fun j hj => (hF198 2 (by decide) j).trans (h3_15 j hj)
        have C251 : ∀ j : Nat, j < 8 → dt196 3 j = dt 20 j := fun j hj => (hF198 3 (by decide) j).trans (h3_16 j hj)
        have C252 : ∀ j : Nat, j < 256 → dt196 4 j = dt 21 j := fun j hj => (hF198 4 (by decide) j).trans (h3_17 j hj)
        have C253 : ∀ j : Nat, j < 4 → dt196 5 j = dt 22 j := fun j hj => (hF198 5 (by decide) j).trans (h3_18 j hj)
        have C254 : ∀ j : Nat, j < 2000 → dt196 6 j = dt 23 j := fun j hj => (hF198 6 (by decide) j).trans (h3_19 j hj)
        have C255 : ∀ j : Nat, j < 60 → dt196 8 j = dt 25 j := fun j hj => (hF198 8 (by decide) j).trans (h3_20 j hj)
        have C256 : ∀ j : Nat, j < 132 → dt196 9 j = dt 26 j := fun j hj => (hF198 9 (by decide) j).trans (h3_21 j hj)
        have C257 : ∀ j : Nat, j < 160 → dt196 11 j = dt 28 j := fun j hj => (hF198 11 (by decide) j).trans (h3_22 j hj)
        have C258 : ∀ j : Nat, j < 192 → dt196 19 j = dt 19 j := fun j hj => (hF198 19 (by decide) j).trans (h3_23 j hj)
        have C259 : ∀ j : Nat, j < 8 → dt196 20 j = dt 20 j := fun j hj => (hF198 20 (by decide) j).trans (h3_24 j hj)
        have C260 : ∀ j : Nat, j < 256 → dt196 21 j = dt 21 j := fun j hj => (hF198 21 (by decide) j).trans (h3_25 j hj)
        have C261 : ∀ j : Nat, j < 4 → dt196 22 j = dt 22 j := fun j hj => (hF198 22 (by decide) j).trans (h3_26 j hj)
        have C262 : ∀ j : Nat, j < 2000 → dt196 23 j = dt 23 j := fun j hj => (hF198 23 (by decide) j).trans (h3_27 j hj)
        have C263 : ∀ j : Nat, j < 60 → dt196 25 j = dt 25 j := fun j hj => (hF198 25 (by decide) j).trans (h3_28 j hj)
        have C264 : ∀ j : Nat, j < 132 → dt196 26 j = dt 26 j := fun j hj => (hF198 26 (by decide) j).trans (h3_29 j hj)
        have C265 : ∀ j : Nat, j < 160 → dt196 28 j = dt 28 j := fun j hj => (hF198 28 (by decide) j).trans (h3_30 j hj)
        have F266 : ∀ j : Nat, j < 7460 → dt196 80 j = dt 80 j := fun j hj => (h195_5 j hj).trans (C51 j)
        have S267 : SCL (dt196 2) (dt196 3) (dt196 80) := by first | exact SCL_k hd2 hM2 C250 C251 (fun j _ h2_ => F266 j (by (first | omega | (have z0_ := unhid c55; omega)))) | (exfalso; (first | omega | (have z0_ := unhid c55; omega)))
        have S268 : QRL (dt196 8) (dt196 80) := by first | exact QRL_k hd4 hM2 C255 (F266 1 (by decide)) (fun j _ h2_ => F266 j (by (first | omega | (have z0_ := unhid c55; omega)))) | (exfalso; (first | omega | (have z0_ := unhid c55; omega)))
        have S269 : SDL (dt196 9) (dt196 80) := by first | exact SDL_k hd6 hM2 C256 (F266 1 (by decide)) (fun j _ h2_ => F266 j (by (first | omega | (have z0_ := unhid c55; omega)))) (fun j _ h2_ => F266 j (by (first | omega | (have z0_ := unhid c55; omega)))) | (exfalso; (first | omega | (have z0_ := unhid c55; omega)))
        have S270 : LWL (dt196 4) (dt196 5) (dt196 6) (dt196 80) := by first | exact LWL_k hd8 hM2 C252 C253 C254 (fun j _ h2_ => F266 j (by (first | omega | (have z0_ := unhid c55; omega)))) | (exfalso; (first | omega | (have z0_ := unhid c55; omega)))
        have S271 : CHL (dt196 11) (dt196 80) := by first | exact CHL_k hd10 hM2 C257 (F266 2 (by decide)) (fun j _ h2_ => F266 j (by (first | omega | (have z0_ := unhid c55; omega)))) | (exfalso; (first | omega | (have z0_ := unhid c55; omega)))
        have F272 : ∀ j : Nat, j < 7460 → dt196 81 j = dt 80 j := fun j hj => (h195_6 j hj).trans (C51 j)
        have S273 : SCL (dt196 19) (dt196 20) (dt196 81) := by first | exact SCL_k hd2 hM2 C258 C259 (fun j _ h2_ => F272 j (by (first | omega | (have z0_ := unhid c55; omega)))) | (exfalso; (first | omega | (have z0_ := unhid c55; omega)))
        have S274 : QRL (dt196 25) (dt196 81) := by first | exact QRL_k hd4 hM2 C263 (F272 1 (by decide)) (fun j _ h2_ => F272 j (by (first | omega | (have z0_ := unhid c55; omega)))) | (exfalso; (first | omega | (have z0_ := unhid c55; omega)))
        have S275 : SDL (dt196 26) (dt196 81) := by first | exact SDL_k hd6 hM2 C264 (F272 1 (by decide)) (fun j _ h2_ => F272 j (by (first | omega | (have z0_ := unhid c55; omega)))) (fun j _ h2_ => F272 j (by (first | omega | (have z0_ := unhid c55; omega)))) | (exfalso; (first | omega | (have z0_ := unhid c55; omega)))
        have S276 : LWL (dt196 21) (dt196 22) (dt196 23) (dt196 81) := by first | exact LWL_k hd8 hM2 C260 C261 C262 (fun j _ h2_ => F272 j (by (first | omega | (have z0_ := unhid c55; omega)))) | (exfalso; (first | omega | (have z0_ := unhid c55; omega)))
        have S277 : CHL (dt196 28) (dt196 81) := by first | exact CHL_k hd10 hM2 C265 (F272 2 (by decide)) (fun j _ h2_ => F272 j (by (first | omega | (have z0_ := unhid c55; omega)))) | (exfalso; (first | omega | (have z0_ := unhid c55; omega)))
        refine go_toq PM267 (k := 2) (pc' := 1435) (L' := [some (.inr (.inr (some 3000))), some (.inr (.inr (some 0))), some (.inr (.inr (some 79))), some (.inl i)]) (st' := []) (w' := (SH, dt196)) rfl ?_
        exact K dt196 hI197 hM223 h195_2 (by first | (first | omega | (have z0_ := unhid c55; omega)) | (simp only [*]; done) | simp only [*]) (by (first | omega | (have z0_ := unhid c55; omega))) (by (first | omega | (have z0_ := unhid c55; omega))) (by (first | omega | (have z0_ := unhid c55; omega))) (by (first | omega | (have z0_ := unhid c55; omega))) (by (first | omega | (have z0_ := unhid c55; omega))) (by (first | omega | (have z0_ := unhid c55; omega))) (by (first | omega | (have z0_ := unhid c55; omega))) (by (first | omega | (have z0_ := unhid c55; omega))) (by (first | omega | (have z0_ := unhid c55; omega))) (by (first | omega | (have z0_ := unhid c55; omega))) (by (first | omega | (have z0_ := unhid c55; omega))) (by (first | omega | (have z0_ := unhid c55; omega))) (w214.trans (hk13.trans w224.symm)) (w215.trans (hk14.trans w225.symm)) (w216.trans (hk15.trans w226.symm)) (by first | exact hI | exact TPL_k hd0 C247 C249 (by (first | omega | (have z0_ := unhid c55; omega))) | (exfalso; (first | omega | (have z0_ := unhid c55; omega)))) (by first | exact S267 | exact SCL_k hd1 hM hI hI (fun j _ _ => C248 j) | (exfalso; (first | omega | (have z0_ := unhid c55; omega)))) (by first | exact S273 | exact SCL_k hd2 hM2 (fun j _ => C239 j) (fun j _ => C240 j) hI | (exfalso; (first | omega | (have z0_ := unhid c55; omega)))) (by first | exact S268 | exact QRL_k hd3 hM hI (C248 1) (fun j _ _ => C248 j) | (exfalso; (first | omega | (have z0_ := unhid c55; omega)))) (by first | exact S274 | exact QRL_k hd4 hM2 (fun j _ => C244 j) hI hI | (exfalso; (first | omega | (have z0_ := unhid c55; omega)))) (by first | exact S269 | exact SDL_k hd5 hM hI (C248 1) (fun j _ _ => C248 j) (fun j _ _ => C248 j) | (exfalso; (first | omega | (have z0_ := unhid c55; omega)))) (by first | exact S275 | exact SDL_k hd6 hM2 (fun j _ => C245 j) hI hI hI | (exfalso; (first | omega | (have z0_ := unhid c55; omega)))) (by first | exact S270 | exact LWL_k hd7 hM hI hI hI (fun j _ _ => C248 j) | (exfalso; (first | omega | (have z0_ := unhid c55; omega)))) (by first | exact S276 | exact LWL_k hd8 hM2 (fun j _ => C241 j) (fun j _ => C242 j) (fun j _ => C243 j) hI | (exfalso; (first | omega | (have z0_ := unhid c55; omega)))) (by first | exact S271 | exact CHL_k hd9 hM hI (by (first | omega | (have z0_ := unhid c55; omega))) (fun j _ _ => C248 j) | (exfalso; (first | omega | (have z0_ := unhid c55; omega)))) (by first | exact S277 | exact CHL_k hd10 hM2 (fun j _ => C246 j) (by (first | omega | (have z0_ := unhid c55; omega))) hI | (exfalso; (first | omega | (have z0_ := unhid c55; omega))))
    · skip
      obtain ⟨h3_0, h3_1, h3_2, h3_3, h3_4, h3_5, h3_6, h3_7, h3_8, h3_9, h3_10, h3_11, h3_12, h3_13, h3_14, h3_15, h3_16, h3_17, h3_18, h3_19, h3_20, h3_21, h3_22, h3_23, h3_24, h3_25, h3_26, h3_27, h3_28, h3_29, h3_30⟩ := h3
      have w278 : dt4 1 0 = dt 1 0 := h3_3
      have w279 : dt4 7 3 = dt 7 3 := h3_4
      have w280 : dt4 10 3 = dt 10 3 := h3_5
      have w281 : dt4 12 3 = dt 12 3 := h3_6
      have w282 : dt4 14 3 = dt 14 3 := h3_7
      have w283 : dt4 16 3 = dt 16 3 := h3_8
      have w284 : dt4 18 0 = dt 18 0 := h3_9
      have w285 : dt4 24 3 = dt 24 3 := h3_10
      have w286 : dt4 27 3 = dt 27 3 := h3_11
      have w287 : dt4 29 3 = dt 29 3 := h3_12
      have w288 : dt4 31 3 = dt 31 3 := h3_13
      have w289 : dt4 33 3 = dt 33 3 := h3_14
      have M2290 : MW (dt4 81) := MW_frk hM2 hF6 (by decide)
      have C291 : ∀ j : Nat, dt4 19 j = dt 19 j := fun j => (hF6 19 (by decide) j).trans ((fun _ => rfl) j)
      have C292 : ∀ j : Nat, dt4 20 j = dt 20 j := fun j => (hF6 20 (by decide) j).trans ((fun _ => rfl) j)
      have C293 : ∀ j : Nat, dt4 21 j = dt 21 j := fun j => (hF6 21 (by decide) j).trans ((fun _ => rfl) j)
      have C294 : ∀ j : Nat, dt4 22 j = dt 22 j := fun j => (hF6 22 (by decide) j).trans ((fun _ => rfl) j)
      have C295 : ∀ j : Nat, dt4 23 j = dt 23 j := fun j => (hF6 23 (by decide) j).trans ((fun _ => rfl) j)
      have C296 : ∀ j : Nat, dt4 25 j = dt 25 j := fun j => (hF6 25 (by decide) j).trans ((fun _ => rfl) j)
      have C297 : ∀ j : Nat, dt4 26 j = dt 26 j := fun j => (hF6 26 (by decide) j).trans ((fun _ => rfl) j)
      have C298 : ∀ j : Nat, dt4 28 j = dt 28 j := fun j => (hF6 28 (by decide) j).trans ((fun _ => rfl) j)
      have C299 : ∀ j : Nat, dt4 36 j = dt 36 j := fun j => (hF6 36 (by decide) j).trans ((fun _ => rfl) j)
      have C300 : ∀ j : Nat, dt4 80 j = dt 80 j := fun j => (hF6 80 (by decide) j).trans ((fun _ => rfl) j)
      have C301 : ∀ j : Nat, dt4 81 j = dt 81 j := fun j => (hF6 81 (by decide) j).trans ((fun _ => rfl) j)
      have C302 : ∀ j : Nat, dt4 85 j = dt 85 j := fun j => (hF6 85 (by decide) j).trans ((fun _ => rfl) j)
      refine go_toq PM267 (k := 6) (pc' := 1396) (L' := [some (.inr (.inr (some 3000))), some (.inr (.inr (some 0))), some (.inr (.inr (some 79))), some (.inl i)]) (st' := [.inl (i + 1), .inr (.inr (some 3000)), .inr (.inr (some 79))]) (w' := (SH, dt4)) rfl ?_
      have r303 := i32_R (xs ((i + 1).toNat))
      refine go_smpq PM267 (L' := [some (.inr (.inr (some 3000))), some (.inr (.inr (some 0))), some (.inr (.inr (some 79))), some (.inl i)]) (st' := [.inl ((xs ((i + 1).toNat)).toInt), .inr (.inr (some 79))]) (w' := (SH, dt4)) rfl rfl (s_iald (n := L) (f := fun j => (xs j).toInt) (am_scr hLL) ⟨by omega, by omega⟩) ?_
      refine go_ifq PM267 (k := 0) (p1 := 1404) (p2 := 1400) (L' := [some (.inr (.inr (some 3000))), some (.inr (.inr (some 0))), some (.inr (.inr (some 79))), some (.inl i)]) (st' := [.inr (.inr (some 79))]) (w' := (SH, dt4)) rfl (z_eq (a := (xs ((i + 1).toNat)).toInt) ⟨by omega, by omega⟩) (fun c304 => ?_) (fun c304 => ?_)
      · skip
        refine go_toq PM267 (k := 1) (pc' := 1405) (L' := [some (.inr (.inr (some 3000))), some (.inr (.inr (some 0))), some (.inr (.inr (some 79))), some (.inl i)]) (st' := [.inl 0, .inr (.inr (some 79))]) (w' := (SH, dt4)) rfl ?_
        refine go_callq PM267 PM247 (Q' := _) rfl rfl rfl rfl (sp_X6_image_0v L xs sio (d + 38) dt4 hI5 hM8   (by first | exact True.intro | with_reducible assumption | rfl | omega | trivial | exact M2290 | exact hd1 | exact hqo | exact halk)) ?_
        rintro _ _ ⟨dt306, rfl, hI307, hF308, h305⟩
        refine ⟨rfl, ?_⟩
        have hF309 : Fr [0, 1, 2, 3, 4, 5, 6, 7, 8, 9, 10, 11, 12, 13, 14, 15, 16, 17, 18, 19, 20, 21, 22, 23, 24, 25, 26, 27, 28, 29, 30, 31, 32, 33, 34, 35, 36, 37, 38, 39, 40, 41, 42, 43, 44, 45, 46, 47, 48, 49, 50, 51, 52, 53, 54, 55, 56, 57, 58, 59, 60, 61, 62, 63, 64, 65, 66, 67, 68, 69, 70, 71, 72, 73, 74, 75, 76, 77, 78, 79, 80, 81, 82, 83, 84, 85, 86, 87, 88, 89, 90, 91, 92, 93, 94, 95, 96, 97, 98, 99, 100, 101, 102, 103, 104] dt dt306 := Fr_tr hF7 hF308 (by decide)
        have w310 : dt306 1 0 = dt 1 0 := (hF308 1 (by decide) 0).trans w278
        have w311 : dt306 7 3 = dt 7 3 := (hF308 7 (by decide) 3).trans w279
        have w312 : dt306 10 3 = dt 10 3 := (hF308 10 (by decide) 3).trans w280
        have w313 : dt306 12 3 = dt 12 3 := (hF308 12 (by decide) 3).trans w281
        have w314 : dt306 14 3 = dt 14 3 := (hF308 14 (by decide) 3).trans w282
        have w315 : dt306 16 3 = dt 16 3 := (hF308 16 (by decide) 3).trans w283
        have w316 : dt306 18 0 = dt 18 0 := (hF308 18 (by decide) 0).trans w284
        have w317 : dt306 24 3 = dt 24 3 := (hF308 24 (by decide) 3).trans w285
        have w318 : dt306 27 3 = dt 27 3 := (hF308 27 (by decide) 3).trans w286
        have w319 : dt306 29 3 = dt 29 3 := (hF308 29 (by decide) 3).trans w287
        have w320 : dt306 31 3 = dt 31 3 := (hF308 31 (by decide) 3).trans w288
        have w321 : dt306 33 3 = dt 33 3 := (hF308 33 (by decide) 3).trans w289
        have w322 : dt306 0 2 = dt 0 2 := (hF308 0 (by decide) 2).trans w15
        have w323 : dt306 35 1 = dt 35 1 := (hF308 35 (by decide) 1).trans w16
        have w324 : dt306 35 2 = dt 35 2 := (hF308 35 (by decide) 2).trans w17
        have w325 : dt306 35 3 = dt 35 3 := (hF308 35 (by decide) 3).trans w18
        have w326 : dt306 81 0 = dt 81 0 := (hF308 81 (by decide) 0).trans w25
        have w327 : dt306 81 1 = dt 81 1 := (hF308 81 (by decide) 1).trans w26
        have w328 : dt306 81 2 = dt 81 2 := (hF308 81 (by decide) 2).trans w27
        have w329 : dt306 81 3 = dt 81 3 := (hF308 81 (by decide) 3).trans w28
        have w330 : dt306 81 4 = dt 81 4 := (hF308 81 (by decide) 4).trans w29
        have w331 : dt306 81 5 = dt 81 5 := (hF308 81 (by decide) 5).trans w30
        rcases h305 with ⟨rfl, h305⟩ | ⟨rfl, h305⟩
        · skip
          have hM332 : MW (dt306 80) := h305.2.2.1
          obtain ⟨h305_0, h305_1, h305_2, h305_3, h305_4, h305_5, h305_6, h305_7, h305_8, h305_9, h305_10⟩ := h305
          have w333 : dt306 79 12 = dt 79 12 := h305_8.trans w32
          have w334 : dt306 79 19 = dt 79 19 := h305_9.trans w33
          have w335 : dt306 79 21 = dt 79 21 := h305_10.trans w34
          have M2336 : MW (dt306 81) := MW_frk M2290 hF308 (by decide)
          have y337 := h305_4 0 (by decide)
          have y338 := h305_4 1 (by decide)
          have y339 := h305_4 2 (by decide)
          have y340 := h305_4 3 (by decide)
          have y341 := h305_4 4 (by decide)
          have y342 := h305_4 5 (by decide)
          have y343 := h305_5 0 (by decide)
          have y344 := h305_5 1 (by decide)
          have y345 := h305_5 2 (by decide)
          have y346 := h305_5 3 (by decide)
          have y347 := h305_5 4 (by decide)
          have y348 := h305_5 5 (by decide)
          have C349 : ∀ j : Nat, dt306 19 j = dt 19 j := fun j => (hF308 19 (by decide) j).trans (C291 j)
          have C350 : ∀ j : Nat, dt306 20 j = dt 20 j := fun j => (hF308 20 (by decide) j).trans (C292 j)
          have C351 : ∀ j : Nat, dt306 21 j = dt 21 j := fun j => (hF308 21 (by decide) j).trans (C293 j)
          have C352 : ∀ j : Nat, dt306 22 j = dt 22 j := fun j => (hF308 22 (by decide) j).trans (C294 j)
          have C353 : ∀ j : Nat, dt306 23 j = dt 23 j := fun j => (hF308 23 (by decide) j).trans (C295 j)
          have C354 : ∀ j : Nat, dt306 25 j = dt 25 j := fun j => (hF308 25 (by decide) j).trans (C296 j)
          have C355 : ∀ j : Nat, dt306 26 j = dt 26 j := fun j => (hF308 26 (by decide) j).trans (C297 j)
          have C356 : ∀ j : Nat, dt306 28 j = dt 28 j := fun j => (hF308 28 (by decide) j).trans (C298 j)
          have C357 : ∀ j : Nat, dt306 36 j = dt 36 j := fun j => (hF308 36 (by decide) j).trans (C299 j)
          have C358 : ∀ j : Nat, dt306 81 j = dt 81 j := fun j => (hF308 81 (by decide) j).trans (C301 j)
          have C359 : ∀ j : Nat, dt306 85 j = dt 85 j := fun j => (hF308 85 (by decide) j).trans (C302 j)
          have C360 : ∀ j : Nat, j < 192 → dt306 2 j = dt 2 j := fun j hj => (hF308 2 (by decide) j).trans (h3_15 j hj)
          have C361 : ∀ j : Nat, j < 8 → dt306 3 j = dt 3 j := fun j hj => (hF308 3 (by decide) j).trans (h3_16 j hj)
          have C362 : ∀ j : Nat, j < 256 → dt306 4 j = dt 4 j := fun j hj => (hF308 4 (by decide) j).trans (h3_17 j hj)
          have C363 : ∀ j : Nat, j < 4 → dt306 5 j = dt 5 j := fun j hj => (hF308 5 (by decide) j).trans (h3_18 j hj)
          have C364 : ∀ j : Nat, j < 2000 → dt306 6 j = dt 6 j := fun j hj => (hF308 6 (by decide) j).trans (h3_19 j hj)
          have C365 : ∀ j : Nat, j < 60 → dt306 8 j = dt 8 j := fun j hj => (hF308 8 (by decide) j).trans (h3_20 j hj)
          have C366 : ∀ j : Nat, j < 132 → dt306 9 j = dt 9 j := fun j hj => (hF308 9 (by decide) j).trans (h3_21 j hj)
          have C367 : ∀ j : Nat, j < 160 → dt306 11 j = dt 11 j := fun j hj => (hF308 11 (by decide) j).trans (h3_22 j hj)
          have C368 : ∀ j : Nat, j < 192 → dt306 19 j = dt 19 j := fun j hj => (hF308 19 (by decide) j).trans (h3_23 j hj)
          have C369 : ∀ j : Nat, j < 8 → dt306 20 j = dt 20 j := fun j hj => (hF308 20 (by decide) j).trans (h3_24 j hj)
          have C370 : ∀ j : Nat, j < 256 → dt306 21 j = dt 21 j := fun j hj => (hF308 21 (by decide) j).trans (h3_25 j hj)
          have C371 : ∀ j : Nat, j < 4 → dt306 22 j = dt 22 j := fun j hj => (hF308 22 (by decide) j).trans (h3_26 j hj)
          have C372 : ∀ j : Nat, j < 2000 → dt306 23 j = dt 23 j := fun j hj => (hF308 23 (by decide) j).trans (h3_27 j hj)
          have C373 : ∀ j : Nat, j < 60 → dt306 25 j = dt 25 j := fun j hj => (hF308 25 (by decide) j).trans (h3_28 j hj)
          have C374 : ∀ j : Nat, j < 132 → dt306 26 j = dt 26 j := fun j hj => (hF308 26 (by decide) j).trans (h3_29 j hj)
          have C375 : ∀ j : Nat, j < 160 → dt306 28 j = dt 28 j := fun j hj => (hF308 28 (by decide) j).trans (h3_30 j hj)
          have F376 : ∀ j : Nat, j < 7460 → dt306 80 j = dt 80 j := fun j hj => (h305_6 j hj).trans (C300 j)
          have S377 : SCL (dt306 2) (dt306 3) (dt306 80) := by first | exact SCL_k hd1 hM C360 C361 (fun j _ h2_ => F376 j (by omega)) | (exfalso; omega)
          have S378 : QRL (dt306 8) (dt306 80) := by first | exact QRL_k hd3 hM C365 (F376 1 (by decide)) (fun j _ h2_ => F376 j (by omega)) | (exfalso; omega)
          have S379 : SDL (dt306 9) (dt306 80) := by first | exact SDL_k hd5 hM C366 (F376 1 (by decide)) (fun j _ h2_ => F376 j (by omega)) (fun j _ h2_ => F376 j (by omega)) | (exfalso; omega)
          have S380 : LWL (dt306 4) (dt306 5) (dt306 6) (dt306 80) := by first | exact LWL_k hd7 hM C362 C363 C364 (fun j _ h2_ => F376 j (by omega)) | (exfalso; omega)
          have S381 : CHL (dt306 11) (dt306 80) := by first | exact CHL_k hd9 hM C367 (F376 2 (by decide)) (fun j _ h2_ => F376 j (by omega)) | (exfalso; omega)
          have F382 : ∀ j : Nat, j < 7460 → dt306 81 j = dt 81 j := fun j hj => (h305_7 j hj).trans (C301 j)
          have S383 : SCL (dt306 19) (dt306 20) (dt306 81) := by first | exact SCL_k hd2 hM2 C368 C369 (fun j _ h2_ => F382 j (by omega)) | (exfalso; omega)
          have S384 : QRL (dt306 25) (dt306 81) := by first | exact QRL_k hd4 hM2 C373 (F382 1 (by decide)) (fun j _ h2_ => F382 j (by omega)) | (exfalso; omega)
          have S385 : SDL (dt306 26) (dt306 81) := by first | exact SDL_k hd6 hM2 C374 (F382 1 (by decide)) (fun j _ h2_ => F382 j (by omega)) (fun j _ h2_ => F382 j (by omega)) | (exfalso; omega)
          have S386 : LWL (dt306 21) (dt306 22) (dt306 23) (dt306 81) := by first | exact LWL_k hd8 hM2 C370 C371 C372 (fun j _ h2_ => F382 j (by omega)) | (exfalso; omega)
          have S387 : CHL (dt306 28) (dt306 81) := by first | exact CHL_k hd10 hM2 C375 (F382 2 (by decide)) (fun j _ h2_ => F382 j (by omega)) | (exfalso; omega)
          refine go_toq PM267 (k := 2) (pc' := 1435) (L' := [some (.inr (.inr (some 3000))), some (.inr (.inr (some 0))), some (.inr (.inr (some 79))), some (.inl i)]) (st' := []) (w' := (SH, dt306)) rfl ?_
          exact K dt306 hI307 hM332 M2336 (by first | omega | (simp only [*]; done) | simp only [*]) (by omega) (by omega) (by omega) (by omega) (by omega) (w316.trans (hk6.trans w326.symm)) (w317.trans (hk7.trans w327.symm)) (w318.trans (hk8.trans w328.symm)) (w319.trans (hk9.trans w329.symm)) (w320.trans (hk10.trans w330.symm)) (w321.trans (hk11.trans w331.symm)) (by omega) (w323.trans (hk13.trans w333.symm)) (w324.trans (hk14.trans w334.symm)) (w325.trans (hk15.trans w335.symm)) (by first | exact hI | exact TPL_k hd0 C357 C359 (by omega) | (exfalso; omega)) (by first | exact S377 | exact SCL_k hd1 hM hI hI hI | (exfalso; omega)) (by first | exact S383 | exact SCL_k hd2 hM2 (fun j _ => C349 j) (fun j _ => C350 j) (fun j _ _ => C358 j) | (exfalso; omega)) (by first | exact S378 | exact QRL_k hd3 hM hI hI hI | (exfalso; omega)) (by first | exact S384 | exact QRL_k hd4 hM2 (fun j _ => C354 j) (C358 1) (fun j _ _ => C358 j) | (exfalso; omega)) (by first | exact S379 | exact SDL_k hd5 hM hI hI hI hI | (exfalso; omega)) (by first | exact S385 | exact SDL_k hd6 hM2 (fun j _ => C355 j) (C358 1) (fun j _ _ => C358 j) (fun j _ _ => C358 j) | (exfalso; omega)) (by first | exact S380 | exact LWL_k hd7 hM hI hI hI hI | (exfalso; omega)) (by first | exact S386 | exact LWL_k hd8 hM2 (fun j _ => C351 j) (fun j _ => C352 j) (fun j _ => C353 j) (fun j _ _ => C358 j) | (exfalso; omega)) (by first | exact S381 | exact CHL_k hd9 hM hI (by omega) hI | (exfalso; omega)) (by first | exact S387 | exact CHL_k hd10 hM2 (fun j _ => C356 j) (by omega) (fun j _ _ => C358 j) | (exfalso; omega))
        · skip
          have hM388 : MW (dt306 80) := h305.2.2.1
          obtain ⟨h305_0, h305_1, h305_2, h305_3, h305_4, h305_5, h305_6, h305_7, h305_8, h305_9, h305_10⟩ := h305
          replace h305_0 := hid h305_0
          have w389 : dt306 79 12 = dt 79 12 := h305_8.trans w32
          have w390 : dt306 79 19 = dt 79 19 := h305_9.trans w33
          have w391 : dt306 79 21 = dt 79 21 := h305_10.trans w34
          have M2392 : MW (dt306 81) := MW_frk M2290 hF308 (by decide)
          have y393 := h305_4 0 (by decide)
          have y394 := h305_4 1 (by decide)
          have y395 := h305_4 2 (by decide)
          have y396 := h305_4 3 (by decide)
          have y397 := h305_4 4 (by decide)
          have y398 := h305_4 5 (by decide)
          have y399 := h305_5 0 (by decide)
          have y400 := h305_5 1 (by decide)
          have y401 := h305_5 2 (by decide)
          have y402 := h305_5 3 (by decide)
          have y403 := h305_5 4 (by decide)
          have y404 := h305_5 5 (by decide)
          have C405 : ∀ j : Nat, dt306 19 j = dt 19 j := fun j => (hF308 19 (by decide) j).trans (C291 j)
          have C406 : ∀ j : Nat, dt306 20 j = dt 20 j := fun j => (hF308 20 (by decide) j).trans (C292 j)
          have C407 : ∀ j : Nat, dt306 21 j = dt 21 j := fun j => (hF308 21 (by decide) j).trans (C293 j)
          have C408 : ∀ j : Nat, dt306 22 j = dt 22 j := fun j => (hF308 22 (by decide) j).trans (C294 j)
          have C409 : ∀ j : Nat, dt306 23 j = dt 23 j := fun j => (hF308 23 (by decide) j).trans (C295 j)
          have C410 : ∀ j : Nat, dt306 25 j = dt 25 j := fun j => (hF308 25 (by decide) j).trans (C296 j)
          have C411 : ∀ j : Nat, dt306 26 j = dt 26 j := fun j => (hF308 26 (by decide) j).trans (C297 j)
          have C412 : ∀ j : Nat, dt306 28 j = dt 28 j := fun j => (hF308 28 (by decide) j).trans (C298 j)
          have C413 : ∀ j : Nat, dt306 36 j = dt 36 j := fun j => (hF308 36 (by decide) j).trans (C299 j)
          have C414 : ∀ j : Nat, dt306 81 j = dt 81 j := fun j => (hF308 81 (by decide) j).trans (C301 j)
          have C415 : ∀ j : Nat, dt306 85 j = dt 85 j := fun j => (hF308 85 (by decide) j).trans (C302 j)
          have C416 : ∀ j : Nat, j < 192 → dt306 2 j = dt 2 j := fun j hj => (hF308 2 (by decide) j).trans (h3_15 j hj)
          have C417 : ∀ j : Nat, j < 8 → dt306 3 j = dt 3 j := fun j hj => (hF308 3 (by decide) j).trans (h3_16 j hj)
          have C418 : ∀ j : Nat, j < 256 → dt306 4 j = dt 4 j := fun j hj => (hF308 4 (by decide) j).trans (h3_17 j hj)
          have C419 : ∀ j : Nat, j < 4 → dt306 5 j = dt 5 j := fun j hj => (hF308 5 (by decide) j).trans (h3_18 j hj)
          have C420 : ∀ j : Nat, j < 2000 → dt306 6 j = dt 6 j := fun j hj => (hF308 6 (by decide) j).trans (h3_19 j hj)
          have C421 : ∀ j : Nat, j < 60 → dt306 8 j = dt 8 j := fun j hj => (hF308 8 (by decide) j).trans (h3_20 j hj)
          have C422 : ∀ j : Nat, j < 132 → dt306 9 j = dt 9 j := fun j hj => (hF308 9 (by decide) j).trans (h3_21 j hj)
          have C423 : ∀ j : Nat, j < 160 → dt306 11 j = dt 11 j := fun j hj => (hF308 11 (by decide) j).trans (h3_22 j hj)
          have C424 : ∀ j : Nat, j < 192 → dt306 19 j = dt 19 j := fun j hj => (hF308 19 (by decide) j).trans (h3_23 j hj)
          have C425 : ∀ j : Nat, j < 8 → dt306 20 j = dt 20 j := fun j hj => (hF308 20 (by decide) j).trans (h3_24 j hj)
          have C426 : ∀ j : Nat, j < 256 → dt306 21 j = dt 21 j := fun j hj => (hF308 21 (by decide) j).trans (h3_25 j hj)
          have C427 : ∀ j : Nat, j < 4 → dt306 22 j = dt 22 j := fun j hj => (hF308 22 (by decide) j).trans (h3_26 j hj)
          have C428 : ∀ j : Nat, j < 2000 → dt306 23 j = dt 23 j := fun j hj => (hF308 23 (by decide) j).trans (h3_27 j hj)
          have C429 : ∀ j : Nat, j < 60 → dt306 25 j = dt 25 j := fun j hj => (hF308 25 (by decide) j).trans (h3_28 j hj)
          have C430 : ∀ j : Nat, j < 132 → dt306 26 j = dt 26 j := fun j hj => (hF308 26 (by decide) j).trans (h3_29 j hj)
          have C431 : ∀ j : Nat, j < 160 → dt306 28 j = dt 28 j := fun j hj => (hF308 28 (by decide) j).trans (h3_30 j hj)
          have F432 : ∀ j : Nat, j < 7460 → dt306 80 j = dt 81 j := fun j hj => (h305_6 j hj).trans (C301 j)
          have S433 : SCL (dt306 2) (dt306 3) (dt306 80) := by first | exact SCL_k hd1 hM C416 C417 (fun j _ h2_ => F432 j (by (first | omega | (have z0_ := unhid h305_0; omega)))) | (exfalso; (first | omega | (have z0_ := unhid h305_0; omega)))
          have S434 : QRL (dt306 8) (dt306 80) := by first | exact QRL_k hd3 hM C421 (F432 1 (by decide)) (fun j _ h2_ => F432 j (by (first | omega | (have z0_ := unhid h305_0; omega)))) | (exfalso; (first | omega | (have z0_ := unhid h305_0; omega)))
          have S435 : SDL (dt306 9) (dt306 80) := by first | exact SDL_k hd5 hM C422 (F432 1 (by decide)) (fun j _ h2_ => F432 j (by (first | omega | (have z0_ := unhid h305_0; omega)))) (fun j _ h2_ => F432 j (by (first | omega | (have z0_ := unhid h305_0; omega)))) | (exfalso; (first | omega | (have z0_ := unhid h305_0; omega)))
          have S436 : LWL (dt306 4) (dt306 5) (dt306 6) (dt306 80) := by first | exact LWL_k hd7 hM C418 C419 C420 (fun j _ h2_ => F432 j (by (first | omega | (have z0_ := unhid h305_0; omega)))) | (exfalso; (first | omega | (have z0_ := unhid h305_0; omega)))
          have S437 : CHL (dt306 11) (dt306 80) := by first | exact CHL_k hd9 hM C423 (F432 2 (by decide)) (fun j _ h2_ => F432 j (by (first | omega | (have z0_ := unhid h305_0; omega)))) | (exfalso; (first | omega | (have z0_ := unhid h305_0; omega)))
          have F438 : ∀ j : Nat, j < 7460 → dt306 81 j = dt 81 j := fun j hj => (h305_7 j hj).trans (C301 j)
          have S439 : SCL (dt306 19) (dt306 20) (dt306 81) := by first | exact SCL_k hd2 hM2 C424 C425 (fun j _ h2_ => F438 j (by (first | omega | (have z0_ := unhid h305_0; omega)))) | (exfalso; (first | omega | (have z0_ := unhid h305_0; omega)))
          have S440 : QRL (dt306 25) (dt306 81) := by first | exact QRL_k hd4 hM2 C429 (F438 1 (by decide)) (fun j _ h2_ => F438 j (by (first | omega | (have z0_ := unhid h305_0; omega)))) | (exfalso; (first | omega | (have z0_ := unhid h305_0; omega)))
          have S441 : SDL (dt306 26) (dt306 81) := by first | exact SDL_k hd6 hM2 C430 (F438 1 (by decide)) (fun j _ h2_ => F438 j (by (first | omega | (have z0_ := unhid h305_0; omega)))) (fun j _ h2_ => F438 j (by (first | omega | (have z0_ := unhid h305_0; omega)))) | (exfalso; (first | omega | (have z0_ := unhid h305_0; omega)))
          have S442 : LWL (dt306 21) (dt306 22) (dt306 23) (dt306 81) := by first | exact LWL_k hd8 hM2 C426 C427 C428 (fun j _ h2_ => F438 j (by (first | omega | (have z0_ := unhid h305_0; omega)))) | (exfalso; (first | omega | (have z0_ := unhid h305_0; omega)))
          have S443 : CHL (dt306 28) (dt306 81) := by first | exact CHL_k hd10 hM2 C431 (F438 2 (by decide)) (fun j _ h2_ => F438 j (by (first | omega | (have z0_ := unhid h305_0; omega)))) | (exfalso; (first | omega | (have z0_ := unhid h305_0; omega)))
          refine go_toq PM267 (k := 2) (pc' := 1435) (L' := [some (.inr (.inr (some 3000))), some (.inr (.inr (some 0))), some (.inr (.inr (some 79))), some (.inl i)]) (st' := []) (w' := (SH, dt306)) rfl ?_
          exact K dt306 hI307 hM388 M2392 (by first | (first | omega | (have z0_ := unhid h305_0; omega)) | (simp only [*]; done) | simp only [*]) (by (first | omega | (have z0_ := unhid h305_0; omega))) (by (first | omega | (have z0_ := unhid h305_0; omega))) (by (first | omega | (have z0_ := unhid h305_0; omega))) (by (first | omega | (have z0_ := unhid h305_0; omega))) (by (first | omega | (have z0_ := unhid h305_0; omega))) (w316.trans (hk6.trans w326.symm)) (w317.trans (hk7.trans w327.symm)) (w318.trans (hk8.trans w328.symm)) (w319.trans (hk9.trans w329.symm)) (w320.trans (hk10.trans w330.symm)) (w321.trans (hk11.trans w331.symm)) (by (first | omega | (have z0_ := unhid h305_0; omega))) (w323.trans (hk13.trans w389.symm)) (w324.trans (hk14.trans w390.symm)) (w325.trans (hk15.trans w391.symm)) (by first | exact hI | exact TPL_k hd0 C413 C415 (by (first | omega | (have z0_ := unhid h305_0; omega))) | (exfalso; (first | omega | (have z0_ := unhid h305_0; omega)))) (by first | exact S433 | exact SCL_k hd1 hM hI hI hI | (exfalso; (first | omega | (have z0_ := unhid h305_0; omega)))) (by first | exact S439 | exact SCL_k hd2 hM2 (fun j _ => C405 j) (fun j _ => C406 j) (fun j _ _ => C414 j) | (exfalso; (first | omega | (have z0_ := unhid h305_0; omega)))) (by first | exact S434 | exact QRL_k hd3 hM hI hI hI | (exfalso; (first | omega | (have z0_ := unhid h305_0; omega)))) (by first | exact S440 | exact QRL_k hd4 hM2 (fun j _ => C410 j) (C414 1) (fun j _ _ => C414 j) | (exfalso; (first | omega | (have z0_ := unhid h305_0; omega)))) (by first | exact S435 | exact SDL_k hd5 hM hI hI hI hI | (exfalso; (first | omega | (have z0_ := unhid h305_0; omega)))) (by first | exact S441 | exact SDL_k hd6 hM2 (fun j _ => C411 j) (C414 1) (fun j _ _ => C414 j) (fun j _ _ => C414 j) | (exfalso; (first | omega | (have z0_ := unhid h305_0; omega)))) (by first | exact S436 | exact LWL_k hd7 hM hI hI hI hI | (exfalso; (first | omega | (have z0_ := unhid h305_0; omega)))) (by first | exact S442 | exact LWL_k hd8 hM2 (fun j _ => C407 j) (fun j _ => C408 j) (fun j _ => C409 j) (fun j _ _ => C414 j) | (exfalso; (first | omega | (have z0_ := unhid h305_0; omega)))) (by first | exact S437 | exact CHL_k hd9 hM hI (by (first | omega | (have z0_ := unhid h305_0; omega))) hI | (exfalso; (first | omega | (have z0_ := unhid h305_0; omega)))) (by first | exact S443 | exact CHL_k hd10 hM2 (fun j _ => C412 j) (by (first | omega | (have z0_ := unhid h305_0; omega))) (fun j _ _ => C414 j) | (exfalso; (first | omega | (have z0_ := unhid h305_0; omega))))
      · skip
        replace c304 := hid c304
        refine go_toq PM267 (k := 2) (pc' := 1405) (L' := [some (.inr (.inr (some 3000))), some (.inr (.inr (some 0))), some (.inr (.inr (some 79))), some (.inl i)]) (st' := [.inl 1, .inr (.inr (some 79))]) (w' := (SH, dt4)) rfl ?_
        refine go_callq PM267 PM247 (Q' := _) rfl rfl rfl rfl (sp_X6_image_1v L xs sio (d + 38) dt4 hI5 hM8   ) ?_
        rintro _ _ ⟨dt445, rfl, hI446, hF447, h444⟩
        refine ⟨rfl, ?_⟩
        have hF448 : Fr [0, 1, 2, 3, 4, 5, 6, 7, 8, 9, 10, 11, 12, 13, 14, 15, 16, 17, 18, 19, 20, 21, 22, 23, 24, 25, 26, 27, 28, 29, 30, 31, 32, 33, 34, 35, 36, 37, 38, 39, 40, 41, 42, 43, 44, 45, 46, 47, 48, 49, 50, 51, 52, 53, 54, 55, 56, 57, 58, 59, 60, 61, 62, 63, 64, 65, 66, 67, 68, 69, 70, 71, 72, 73, 74, 75, 76, 77, 78, 79, 80, 81, 82, 83, 84, 85, 86, 87, 88, 89, 90, 91, 92, 93, 94, 95, 96, 97, 98, 99, 100, 101, 102, 103, 104] dt dt445 := Fr_tr hF7 hF447 (by decide)
        have hM449 : MW (dt445 80) := MW_fr hM8 hF447 (by decide)
        have w450 : dt445 1 0 = dt 1 0 := (hF447 1 (by decide) 0).trans w278
        have w451 : dt445 7 3 = dt 7 3 := (hF447 7 (by decide) 3).trans w279
        have w452 : dt445 10 3 = dt 10 3 := (hF447 10 (by decide) 3).trans w280
        have w453 : dt445 12 3 = dt 12 3 := (hF447 12 (by decide) 3).trans w281
        have w454 : dt445 14 3 = dt 14 3 := (hF447 14 (by decide) 3).trans w282
        have w455 : dt445 16 3 = dt 16 3 := (hF447 16 (by decide) 3).trans w283
        have w456 : dt445 18 0 = dt 18 0 := (hF447 18 (by decide) 0).trans w284
        have w457 : dt445 24 3 = dt 24 3 := (hF447 24 (by decide) 3).trans w285
        have w458 : dt445 27 3 = dt 27 3 := (hF447 27 (by decide) 3).trans w286
        have w459 : dt445 29 3 = dt 29 3 := (hF447 29 (by decide) 3).trans w287
        have w460 : dt445 31 3 = dt 31 3 := (hF447 31 (by decide) 3).trans w288
        have w461 : dt445 33 3 = dt 33 3 := (hF447 33 (by decide) 3).trans w289
        have w462 : dt445 0 2 = dt 0 2 := (hF447 0 (by decide) 2).trans w15
        have w463 : dt445 35 1 = dt 35 1 := (hF447 35 (by decide) 1).trans w16
        have w464 : dt445 35 2 = dt 35 2 := (hF447 35 (by decide) 2).trans w17
        have w465 : dt445 35 3 = dt 35 3 := (hF447 35 (by decide) 3).trans w18
        have w466 : dt445 80 0 = dt 80 0 := (hF447 80 (by decide) 0).trans w19
        have w467 : dt445 80 1 = dt 80 1 := (hF447 80 (by decide) 1).trans w20
        have w468 : dt445 80 2 = dt 80 2 := (hF447 80 (by decide) 2).trans w21
        have w469 : dt445 80 3 = dt 80 3 := (hF447 80 (by decide) 3).trans w22
        have w470 : dt445 80 4 = dt 80 4 := (hF447 80 (by decide) 4).trans w23
        have w471 : dt445 80 5 = dt 80 5 := (hF447 80 (by decide) 5).trans w24
        rcases h444 with ⟨rfl, h444⟩
        have hM472 : MW (dt445 80) := h444.2.1
        obtain ⟨h444_0, h444_1, h444_2, h444_3, h444_4, h444_5, h444_6, h444_7, h444_8, h444_9⟩ := h444
        have w473 : dt445 79 12 = dt 79 12 := h444_7.trans w32
        have w474 : dt445 79 19 = dt 79 19 := h444_8.trans w33
        have w475 : dt445 79 21 = dt 79 21 := h444_9.trans w34
        have y476 := h444_3 0 (by decide)
        have y477 := h444_3 1 (by decide)
        have y478 := h444_3 2 (by decide)
        have y479 := h444_3 3 (by decide)
        have y480 := h444_3 4 (by decide)
        have y481 := h444_3 5 (by decide)
        have y482 := h444_4 0 (by decide)
        have y483 := h444_4 1 (by decide)
        have y484 := h444_4 2 (by decide)
        have y485 := h444_4 3 (by decide)
        have y486 := h444_4 4 (by decide)
        have y487 := h444_4 5 (by decide)
        have C488 : ∀ j : Nat, dt445 19 j = dt 19 j := fun j => (hF447 19 (by decide) j).trans (C291 j)
        have C489 : ∀ j : Nat, dt445 20 j = dt 20 j := fun j => (hF447 20 (by decide) j).trans (C292 j)
        have C490 : ∀ j : Nat, dt445 21 j = dt 21 j := fun j => (hF447 21 (by decide) j).trans (C293 j)
        have C491 : ∀ j : Nat, dt445 22 j = dt 22 j := fun j => (hF447 22 (by decide) j).trans (C294 j)
        have C492 : ∀ j : Nat, dt445 23 j = dt 23 j := fun j => (hF447 23 (by decide) j).trans (C295 j)
        have C493 : ∀ j : Nat, dt445 25 j = dt 25 j := fun j => (hF447 25 (by decide) j).trans (C296 j)
        have C494 : ∀ j : Nat, dt445 26 j = dt 26 j := fun j => (hF447 26 (by decide) j).trans (C297 j)
        have C495 : ∀ j : Nat, dt445 28 j = dt 28 j := fun j => (hF447 28 (by decide) j).trans (C298 j)
        have C496 : ∀ j : Nat, dt445 36 j = dt 36 j := fun j => (hF447 36 (by decide) j).trans (C299 j)
        have C497 : ∀ j : Nat, dt445 80 j = dt 80 j := fun j => (hF447 80 (by decide) j).trans (C300 j)
        have C498 : ∀ j : Nat, dt445 85 j = dt 85 j := fun j => (hF447 85 (by decide) j).trans (C302 j)
        have C499 : ∀ j : Nat, j < 192 → dt445 2 j = dt 2 j := fun j hj => (hF447 2 (by decide) j).trans (h3_15 j hj)
        have C500 : ∀ j : Nat, j < 8 → dt445 3 j = dt 3 j := fun j hj => (hF447 3 (by decide) j).trans (h3_16 j hj)
        have C501 : ∀ j : Nat, j < 256 → dt445 4 j = dt 4 j := fun j hj => (hF447 4 (by decide) j).trans (h3_17 j hj)
        have C502 : ∀ j : Nat, j < 4 → dt445 5 j = dt 5 j := fun j hj => (hF447 5 (by decide) j).trans (h3_18 j hj)
        have C503 : ∀ j : Nat, j < 2000 → dt445 6 j = dt 6 j := fun j hj => (hF447 6 (by decide) j).trans (h3_19 j hj)
        have C504 : ∀ j : Nat, j < 60 → dt445 8 j = dt 8 j := fun j hj => (hF447 8 (by decide) j).trans (h3_20 j hj)
        have C505 : ∀ j : Nat, j < 132 → dt445 9 j = dt 9 j := fun j hj => (hF447 9 (by decide) j).trans (h3_21 j hj)
        have C506 : ∀ j : Nat, j < 160 → dt445 11 j = dt 11 j := fun j hj => (hF447 11 (by decide) j).trans (h3_22 j hj)
        have C507 : ∀ j : Nat, j < 192 → dt445 19 j = dt 19 j := fun j hj => (hF447 19 (by decide) j).trans (h3_23 j hj)
        have C508 : ∀ j : Nat, j < 8 → dt445 20 j = dt 20 j := fun j hj => (hF447 20 (by decide) j).trans (h3_24 j hj)
        have C509 : ∀ j : Nat, j < 256 → dt445 21 j = dt 21 j := fun j hj => (hF447 21 (by decide) j).trans (h3_25 j hj)
        have C510 : ∀ j : Nat, j < 4 → dt445 22 j = dt 22 j := fun j hj => (hF447 22 (by decide) j).trans (h3_26 j hj)
        have C511 : ∀ j : Nat, j < 2000 → dt445 23 j = dt 23 j := fun j hj => (hF447 23 (by decide) j).trans (h3_27 j hj)
        have C512 : ∀ j : Nat, j < 60 → dt445 25 j = dt 25 j := fun j hj => (hF447 25 (by decide) j).trans (h3_28 j hj)
        have C513 : ∀ j : Nat, j < 132 → dt445 26 j = dt 26 j := fun j hj => (hF447 26 (by decide) j).trans (h3_29 j hj)
        have C514 : ∀ j : Nat, j < 160 → dt445 28 j = dt 28 j := fun j hj => (hF447 28 (by decide) j).trans (h3_30 j hj)
        have F515 : ∀ j : Nat, j < 7460 → dt445 80 j = dt 80 j := fun j hj => (h444_5 j hj).trans (C300 j)
        have S516 : SCL (dt445 2) (dt445 3) (dt445 80) := by first | exact SCL_k hd1 hM C499 C500 (fun j _ h2_ => F515 j (by (first | omega | (have z0_ := unhid c304; omega)))) | (exfalso; (first | omega | (have z0_ := unhid c304; omega)))
        have S517 : QRL (dt445 8) (dt445 80) := by first | exact QRL_k hd3 hM C504 (F515 1 (by decide)) (fun j _ h2_ => F515 j (by (first | omega | (have z0_ := unhid c304; omega)))) | (exfalso; (first | omega | (have z0_ := unhid c304; omega)))
        have S518 : SDL (dt445 9) (dt445 80) := by first | exact SDL_k hd5 hM C505 (F515 1 (by decide)) (fun j _ h2_ => F515 j (by (first | omega | (have z0_ := unhid c304; omega)))) (fun j _ h2_ => F515 j (by (first | omega | (have z0_ := unhid c304; omega)))) | (exfalso; (first | omega | (have z0_ := unhid c304; omega)))
        have S519 : LWL (dt445 4) (dt445 5) (dt445 6) (dt445 80) := by first | exact LWL_k hd7 hM C501 C502 C503 (fun j _ h2_ => F515 j (by (first | omega | (have z0_ := unhid c304; omega)))) | (exfalso; (first | omega | (have z0_ := unhid c304; omega)))
        have S520 : CHL (dt445 11) (dt445 80) := by first | exact CHL_k hd9 hM C506 (F515 2 (by decide)) (fun j _ h2_ => F515 j (by (first | omega | (have z0_ := unhid c304; omega)))) | (exfalso; (first | omega | (have z0_ := unhid c304; omega)))
        have F521 : ∀ j : Nat, j < 7460 → dt445 81 j = dt 80 j := fun j hj => (h444_6 j hj).trans (C300 j)
        have S522 : SCL (dt445 19) (dt445 20) (dt445 81) := by first | exact SCL_k hd2 hM2 C507 C508 (fun j _ h2_ => F521 j (by (first | omega | (have z0_ := unhid c304; omega)))) | (exfalso; (first | omega | (have z0_ := unhid c304; omega)))
        have S523 : QRL (dt445 25) (dt445 81) := by first | exact QRL_k hd4 hM2 C512 (F521 1 (by decide)) (fun j _ h2_ => F521 j (by (first | omega | (have z0_ := unhid c304; omega)))) | (exfalso; (first | omega | (have z0_ := unhid c304; omega)))
        have S524 : SDL (dt445 26) (dt445 81) := by first | exact SDL_k hd6 hM2 C513 (F521 1 (by decide)) (fun j _ h2_ => F521 j (by (first | omega | (have z0_ := unhid c304; omega)))) (fun j _ h2_ => F521 j (by (first | omega | (have z0_ := unhid c304; omega)))) | (exfalso; (first | omega | (have z0_ := unhid c304; omega)))
        have S525 : LWL (dt445 21) (dt445 22) (dt445 23) (dt445 81) := by first | exact LWL_k hd8 hM2 C509 C510 C511 (fun j _ h2_ => F521 j (by (first | omega | (have z0_ := unhid c304; omega)))) | (exfalso; (first | omega | (have z0_ := unhid c304; omega)))
        have S526 : CHL (dt445 28) (dt445 81) := by first | exact CHL_k hd10 hM2 C514 (F521 2 (by decide)) (fun j _ h2_ => F521 j (by (first | omega | (have z0_ := unhid c304; omega)))) | (exfalso; (first | omega | (have z0_ := unhid c304; omega)))
        refine go_toq PM267 (k := 2) (pc' := 1435) (L' := [some (.inr (.inr (some 3000))), some (.inr (.inr (some 0))), some (.inr (.inr (some 79))), some (.inl i)]) (st' := []) (w' := (SH, dt445)) rfl ?_
        exact K dt445 hI446 hM472 h444_2 (w450.trans (hk0.trans w466.symm)) (w451.trans (hk1.trans w467.symm)) (w452.trans (hk2.trans w468.symm)) (w453.trans (hk3.trans w469.symm)) (w454.trans (hk4.trans w470.symm)) (w455.trans (hk5.trans w471.symm)) (by (first | omega | (have z0_ := unhid c304; omega))) (by (first | omega | (have z0_ := unhid c304; omega))) (by (first | omega | (have z0_ := unhid c304; omega))) (by (first | omega | (have z0_ := unhid c304; omega))) (by (first | omega | (have z0_ := unhid c304; omega))) (by (first | omega | (have z0_ := unhid c304; omega))) (by (first | omega | (have z0_ := unhid c304; omega))) (w463.trans (hk13.trans w473.symm)) (w464.trans (hk14.trans w474.symm)) (w465.trans (hk15.trans w475.symm)) (by first | exact hI | exact TPL_k hd0 C496 C498 (by (first | omega | (have z0_ := unhid c304; omega))) | (exfalso; (first | omega | (have z0_ := unhid c304; omega)))) (by first | exact S516 | exact SCL_k hd1 hM hI hI (fun j _ _ => C497 j) | (exfalso; (first | omega | (have z0_ := unhid c304; omega)))) (by first | exact S522 | exact SCL_k hd2 hM2 (fun j _ => C488 j) (fun j _ => C489 j) hI | (exfalso; (first | omega | (have z0_ := unhid c304; omega)))) (by first | exact S517 | exact QRL_k hd3 hM hI (C497 1) (fun j _ _ => C497 j) | (exfalso; (first | omega | (have z0_ := unhid c304; omega)))) (by first | exact S523 | exact QRL_k hd4 hM2 (fun j _ => C493 j) hI hI | (exfalso; (first | omega | (have z0_ := unhid c304; omega)))) (by first | exact S518 | exact SDL_k hd5 hM hI (C497 1) (fun j _ _ => C497 j) (fun j _ _ => C497 j) | (exfalso; (first | omega | (have z0_ := unhid c304; omega)))) (by first | exact S524 | exact SDL_k hd6 hM2 (fun j _ => C494 j) hI hI hI | (exfalso; (first | omega | (have z0_ := unhid c304; omega)))) (by first | exact S519 | exact LWL_k hd7 hM hI hI hI (fun j _ _ => C497 j) | (exfalso; (first | omega | (have z0_ := unhid c304; omega)))) (by first | exact S525 | exact LWL_k hd8 hM2 (fun j _ => C490 j) (fun j _ => C491 j) (fun j _ => C492 j) hI | (exfalso; (first | omega | (have z0_ := unhid c304; omega)))) (by first | exact S520 | exact CHL_k hd9 hM hI (by (first | omega | (have z0_ := unhid c304; omega))) (fun j _ _ => C497 j) | (exfalso; (first | omega | (have z0_ := unhid c304; omega)))) (by first | exact S526 | exact CHL_k hd10 hM2 (fun j _ => C495 j) (by (first | omega | (have z0_ := unhid c304; omega))) hI | (exfalso; (first | omega | (have z0_ := unhid c304; omega))))
  · skip
    replace c2 := hid c2
    refine go_toq PM267 (k := 2) (pc' := 1387) (L' := [some (.inr (.inr (some 3000))), some (.inr (.inr (some 0))), some (.inr (.inr (some 79))), some (.inl i)]) (st' := [.inl 1, .inr (.inr (some 0))]) (w' := (SH, dt)) rfl ?_
    refine go_callq PM267 PM98 (Q' := _) rfl rfl rfl rfl (sp_X5_image_1w L xs sio (d + 35) dt hI   ) ?_
    rintro _ _ ⟨dt528, rfl, hI529, hF530, h527⟩
    refine ⟨rfl, ?_⟩
    have hF531 : Fr [0, 1, 2, 3, 4, 5, 6, 7, 8, 9, 10, 11, 12, 13, 14, 15, 16, 17, 18, 19, 20, 21, 22, 23, 24, 25, 26, 27, 28, 29, 30, 31, 32, 33, 34, 35, 36, 37, 38, 39, 40, 41, 42, 43, 44, 45, 46, 47, 48, 49, 50, 51, 52, 53, 54, 55, 56, 57, 58, 59, 60, 61, 62, 63, 64, 65, 66, 67, 68, 69, 70, 71, 72, 73, 74, 75, 76, 77, 78, 79, 80, 81, 82, 83, 84, 85, 86, 87, 88, 89, 90, 91, 92, 93, 94, 95, 96, 97, 98, 99, 100, 101, 102, 103, 104] dt dt528 := Fr_tr hF hF530 (by decide)
    have hM532 : MW (dt528 80) := MW_fr hM hF530 (by decide)
    have w533 : dt528 1 0 = dt 1 0 := hF530 1 (by decide) 0
    have w534 : dt528 7 3 = dt 7 3 := hF530 7 (by decide) 3
    have w535 : dt528 10 3 = dt 10 3 := hF530 10 (by decide) 3
    have w536 : dt528 12 3 = dt 12 3 := hF530 12 (by decide) 3
    have w537 : dt528 14 3 = dt 14 3 := hF530 14 (by decide) 3
    have w538 : dt528 16 3 = dt 16 3 := hF530 16 (by decide) 3
    have w539 : dt528 35 1 = dt 35 1 := hF530 35 (by decide) 1
    have w540 : dt528 35 2 = dt 35 2 := hF530 35 (by decide) 2
    have w541 : dt528 35 3 = dt 35 3 := hF530 35 (by decide) 3
    have w542 : dt528 80 0 = dt 80 0 := hF530 80 (by decide) 0
    have w543 : dt528 80 1 = dt 80 1 := hF530 80 (by decide) 1
    have w544 : dt528 80 2 = dt 80 2 := hF530 80 (by decide) 2
    have w545 : dt528 80 3 = dt 80 3 := hF530 80 (by decide) 3
    have w546 : dt528 80 4 = dt 80 4 := hF530 80 (by decide) 4
    have w547 : dt528 80 5 = dt 80 5 := hF530 80 (by decide) 5
    have w548 : dt528 81 0 = dt 81 0 := hF530 81 (by decide) 0
    have w549 : dt528 81 1 = dt 81 1 := hF530 81 (by decide) 1
    have w550 : dt528 81 2 = dt 81 2 := hF530 81 (by decide) 2
    have w551 : dt528 81 3 = dt 81 3 := hF530 81 (by decide) 3
    have w552 : dt528 81 4 = dt 81 4 := hF530 81 (by decide) 4
    have w553 : dt528 81 5 = dt 81 5 := hF530 81 (by decide) 5
    have w554 : dt528 79 2 = dt 79 2 := hF530 79 (by decide) 2
    have w555 : dt528 79 12 = dt 79 12 := hF530 79 (by decide) 12
    have w556 : dt528 79 19 = dt 79 19 := hF530 79 (by decide) 19
    have w557 : dt528 79 21 = dt 79 21 := hF530 79 (by decide) 21
    rcases h527 with ⟨v_h527, rfl, h527r, h527⟩
    obtain ⟨h527_0, h527_1, h527_2, h527_3, h527_4, h527_5, h527_6, h527_7, h527_8, h527_9, h527_10, h527_11, h527_12, h527_13, h527_14, h527_15, h527_16, h527_17, h527_18, h527_19, h527_20, h527_21, h527_22, h527_23, h527_24, h527_25, h527_26, h527_27, h527_28, h527_29⟩ := h527
    have w558 : dt528 1 0 = dt 1 0 := h527_2
    have w559 : dt528 7 3 = dt 7 3 := h527_3
    have w560 : dt528 10 3 = dt 10 3 := h527_4
    have w561 : dt528 12 3 = dt 12 3 := h527_5
    have w562 : dt528 14 3 = dt 14 3 := h527_6
    have w563 : dt528 16 3 = dt 16 3 := h527_7
    have M2564 : MW (dt528 81) := MW_frk hM2 hF530 (by decide)
    have C565 : ∀ j : Nat, dt528 2 j = dt 2 j := fun j => (hF530 2 (by decide) j).trans ((fun _ => rfl) j)
    have C566 : ∀ j : Nat, dt528 3 j = dt 3 j := fun j => (hF530 3 (by decide) j).trans ((fun _ => rfl) j)
    have C567 : ∀ j : Nat, dt528 4 j = dt 4 j := fun j => (hF530 4 (by decide) j).trans ((fun _ => rfl) j)
    have C568 : ∀ j : Nat, dt528 5 j = dt 5 j := fun j => (hF530 5 (by decide) j).trans ((fun _ => rfl) j)
    have C569 : ∀ j : Nat, dt528 6 j = dt 6 j := fun j => (hF530 6 (by decide) j).trans ((fun _ => rfl) j)
    have C570 : ∀ j : Nat, dt528 8 j = dt 8 j := fun j => (hF530 8 (by decide) j).trans ((fun _ => rfl) j)
    have C571 : ∀ j : Nat, dt528 9 j = dt 9 j := fun j => (hF530 9 (by decide) j).trans ((fun _ => rfl) j)
    have C572 : ∀ j : Nat, dt528 11 j = dt 11 j := fun j => (hF530 11 (by decide) j).trans ((fun _ => rfl) j)
    have C573 : ∀ j : Nat, dt528 36 j = dt 36 j := fun j => (hF530 36 (by decide) j).trans ((fun _ => rfl) j)
    have C574 : ∀ j : Nat, dt528 80 j = dt 80 j := fun j => (hF530 80 (by decide) j).trans ((fun _ => rfl) j)
    have C575 : ∀ j : Nat, dt528 81 j = dt 81 j := fun j => (hF530 81 (by decide) j).trans ((fun _ => rfl) j)
    have C576 : ∀ j : Nat, dt528 85 j = dt 85 j := fun j => (hF530 85 (by decide) j).trans ((fun _ => rfl) j)
    refine go_toq PM267 (k := 6) (pc' := 1396) (L' := [some (.inr (.inr (some 3000))), some (.inr (.inr (some 0))), some (.inr (.inr (some 79))), some (.inl i)]) (st' := [.inl (i + 1), .inr (.inr (some 3000)), .inr (.inr (some 79))]) (w' := (SH, dt528)) rfl ?_
    have r577 := i32_R (xs ((i + 1).toNat))
    refine go_smpq PM267 (L' := [some (.inr (.inr (some 3000))), some (.inr (.inr (some 0))), some (.inr (.inr (some 79))), some (.inl i)]) (st' := [.inl ((xs ((i + 1).toNat)).toInt), .inr (.inr (some 79))]) (w' := (SH, dt528)) rfl rfl (s_iald (n := L) (f := fun j => (xs j).toInt) (am_scr hLL) ⟨by (first | omega | (have z0_ := unhid c2; omega)), by (first | omega | (have z0_ := unhid c2; omega))⟩) ?_
    refine go_ifq PM267 (k := 0) (p1 := 1404) (p2 := 1400) (L' := [some (.inr (.inr (some 3000))), some (.inr (.inr (some 0))), some (.inr (.inr (some 79))), some (.inl i)]) (st' := [.inr (.inr (some 79))]) (w' := (SH, dt528)) rfl (z_eq (a := (xs ((i + 1).toNat)).toInt) ⟨by (first | omega | (have z0_ := unhid c2; omega)), by (first | omega | (have z0_ := unhid c2; omega))⟩) (fun c578 => ?_) (fun c578 => ?_)
    · skip
      refine go_toq PM267 (k := 1) (pc' := 1405) (L' := [some (.inr (.inr (some 3000))), some (.inr (.inr (some 0))), some (.inr (.inr (some 79))), some (.inl i)]) (st' := [.inl 0, .inr (.inr (some 79))]) (w' := (SH, dt528)) rfl ?_
      refine go_callq PM267 PM247 (Q' := _) rfl rfl rfl rfl (sp_X6_image_0v L xs sio (d + 38) dt528 hI529 hM532   (by first | exact True.intro | with_reducible assumption | exact unhid (by with_reducible assumption) | rfl | (first | omega | (have z0_ := unhid c2; omega)) | trivial | exact M2564 | exact hd1 | exact hqo | exact halk)) ?_
      rintro _ _ ⟨dt580, rfl, hI581, hF582, h579⟩
      refine ⟨rfl, ?_⟩
      have hF583 : Fr [0, 1, 2, 3, 4, 5, 6, 7, 8, 9, 10, 11, 12, 13, 14, 15, 16, 17, 18, 19, 20, 21, 22, 23, 24, 25, 26, 27, 28, 29, 30, 31, 32, 33, 34, 35, 36, 37, 38, 39, 40, 41, 42, 43, 44, 45, 46, 47, 48, 49, 50, 51, 52, 53, 54, 55, 56, 57, 58, 59, 60, 61, 62, 63, 64, 65, 66, 67, 68, 69, 70, 71, 72, 73, 74, 75, 76, 77, 78, 79, 80, 81, 82, 83, 84, 85, 86, 87, 88, 89, 90, 91, 92, 93, 94, 95, 96, 97, 98, 99, 100, 101, 102, 103, 104] dt dt580 := Fr_tr hF531 hF582 (by decide)
      have w584 : dt580 1 0 = dt 1 0 := (hF582 1 (by decide) 0).trans w558
      have w585 : dt580 7 3 = dt 7 3 := (hF582 7 (by decide) 3).trans w559
      have w586 : dt580 10 3 = dt 10 3 := (hF582 10 (by decide) 3).trans w560
      have w587 : dt580 12 3 = dt 12 3 := (hF582 12 (by decide) 3).trans w561
      have w588 : dt580 14 3 = dt 14 3 := (hF582 14 (by decide) 3).trans w562
      have w589 : dt580 16 3 = dt 16 3 := (hF582 16 (by decide) 3).trans w563
      have w590 : dt580 18 0 = dt528 18 0 := hF582 18 (by decide) 0
      have w591 : dt580 24 3 = dt528 24 3 := hF582 24 (by decide) 3
      have w592 : dt580 27 3 = dt528 27 3 := hF582 27 (by decide) 3
      have w593 : dt580 29 3 = dt528 29 3 := hF582 29 (by decide) 3
      have w594 : dt580 31 3 = dt528 31 3 := hF582 31 (by decide) 3
      have w595 : dt580 33 3 = dt528 33 3 := hF582 33 (by decide) 3
      have w596 : dt580 0 2 = dt528 0 2 := hF582 0 (by decide) 2
      have w597 : dt580 35 1 = dt 35 1 := (hF582 35 (by decide) 1).trans w539
      have w598 : dt580 35 2 = dt 35 2 := (hF582 35 (by decide) 2).trans w540
      have w599 : dt580 35 3 = dt 35 3 := (hF582 35 (by decide) 3).trans w541
      have w600 : dt580 81 0 = dt 81 0 := (hF582 81 (by decide) 0).trans w548
      have w601 : dt580 81 1 = dt 81 1 := (hF582 81 (by decide) 1).trans w549
      have w602 : dt580 81 2 = dt 81 2 := (hF582 81 (by decide) 2).trans w550
      have w603 : dt580 81 3 = dt 81 3 := (hF582 81 (by decide) 3).trans w551
      have w604 : dt580 81 4 = dt 81 4 := (hF582 81 (by decide) 4).trans w552
      have w605 : dt580 81 5 = dt 81 5 := (hF582 81 (by decide) 5).trans w553
      rcases h579 with ⟨rfl, h579⟩ | ⟨rfl, h579⟩
      · skip
        have hM606 : MW (dt580 80) := h579.2.2.1
        obtain ⟨h579_0, h579_1, h579_2, h579_3, h579_4, h579_5, h579_6, h579_7, h579_8, h579_9, h579_10⟩ := h579
        have w607 : dt580 79 12 = dt 79 12 := h579_8.trans w555
        have w608 : dt580 79 19 = dt 79 19 := h579_9.trans w556
        have w609 : dt580 79 21 = dt 79 21 := h579_10.trans w557
        have M2610 : MW (dt580 81) := MW_frk M2564 hF582 (by decide)
        have y611 := h579_4 0 (by decide)
        have y612 := h579_4 1 (by decide)
        have y613 := h579_4 2 (by decide)
        have y614 := h579_4 3 (by decide)
        have y615 := h579_4 4 (by decide)
        have y616 := h579_4 5 (by decide)
        have y617 := h579_5 0 (by decide)
        have y618 := h579_5 1 (by decide)
        have y619 := h579_5 2 (by decide)
        have y620 := h579_5 3 (by decide)
        have y621 := h579_5 4 (by decide)
        have y622 := h579_5 5 (by decide)
        have C623 : ∀ j : Nat, dt580 2 j = dt 2 j := fun j => (hF582 2 (by decide) j).trans (C565 j)
        have C624 : ∀ j : Nat, dt580 3 j = dt 3 j := fun j => (hF582 3 (by decide) j).trans (C566 j)
        have C625 : ∀ j : Nat, dt580 4 j = dt 4 j := fun j => (hF582 4 (by decide) j).trans (C567 j)
        have C626 : ∀ j : Nat, dt580 5 j = dt 5 j := fun j => (hF582 5 (by decide) j).trans (C568 j)
        have C627 : ∀ j : Nat, dt580 6 j = dt 6 j := fun j => (hF582 6 (by decide) j).trans (C569 j)
        have C628 : ∀ j : Nat, dt580 8 j = dt 8 j := fun j => (hF582 8 (by decide) j).trans (C570 j)
        have C629 : ∀ j : Nat, dt580 9 j = dt 9 j := fun j => (hF582 9 (by decide) j).trans (C571 j)
        have C630 : ∀ j : Nat, dt580 11 j = dt 11 j := fun j => (hF582 11 (by decide) j).trans (C572 j)
        have C631 : ∀ j : Nat, dt580 36 j = dt 36 j := fun j => (hF582 36 (by decide) j).trans (C573 j)
        have C632 : ∀ j : Nat, dt580 81 j = dt 81 j := fun j => (hF582 81 (by decide) j).trans (C575 j)
        have C633 : ∀ j : Nat, dt580 85 j = dt 85 j := fun j => (hF582 85 (by decide) j).trans (C576 j)
        have C634 : ∀ j : Nat, j < 192 → dt580 2 j = dt 2 j := fun j hj => (hF582 2 (by decide) j).trans (h527_14 j hj)
        have C635 : ∀ j : Nat, j < 8 → dt580 3 j = dt 3 j := fun j hj => (hF582 3 (by decide) j).trans (h527_15 j hj)
        have C636 : ∀ j : Nat, j < 256 → dt580 4 j = dt 4 j := fun j hj => (hF582 4 (by decide) j).trans (h527_16 j hj)
        have C637 : ∀ j : Nat, j < 4 → dt580 5 j = dt 5 j := fun j hj => (hF582 5 (by decide) j).trans (h527_17 j hj)
        have C638 : ∀ j : Nat, j < 2000 → dt580 6 j = dt 6 j := fun j hj => (hF582 6 (by decide) j).trans (h527_18 j hj)
        have C639 : ∀ j : Nat, j < 60 → dt580 8 j = dt 8 j := fun j hj => (hF582 8 (by decide) j).trans (h527_19 j hj)
        have C640 : ∀ j : Nat, j < 132 → dt580 9 j = dt 9 j := fun j hj => (hF582 9 (by decide) j).trans (h527_20 j hj)
        have C641 : ∀ j : Nat, j < 160 → dt580 11 j = dt 11 j := fun j hj => (hF582 11 (by decide) j).trans (h527_21 j hj)
        have C642 : ∀ j : Nat, j < 192 → dt580 19 j = dt 2 j := fun j hj => (hF582 19 (by decide) j).trans (h527_22 j hj)
        have C643 : ∀ j : Nat, j < 8 → dt580 20 j = dt 3 j := fun j hj => (hF582 20 (by decide) j).trans (h527_23 j hj)
        have C644 : ∀ j : Nat, j < 256 → dt580 21 j = dt 4 j := fun j hj => (hF582 21 (by decide) j).trans (h527_24 j hj)
        have C645 : ∀ j : Nat, j < 4 → dt580 22 j = dt 5 j := fun j hj => (hF582 22 (by decide) j).trans (h527_25 j hj)
        have C646 : ∀ j : Nat, j < 2000 → dt580 23 j = dt 6 j := fun j hj => (hF582 23 (by decide) j).trans (h527_26 j hj)
        have C647 : ∀ j : Nat, j < 60 → dt580 25 j = dt 8 j := fun j hj => (hF582 25 (by decide) j).trans (h527_27 j hj)
        have C648 : ∀ j : Nat, j < 132 → dt580 26 j = dt 9 j := fun j hj => (hF582 26 (by decide) j).trans (h527_28 j hj)
        have C649 : ∀ j : Nat, j < 160 → dt580 28 j = dt 11 j := fun j hj => (hF582 28 (by decide) j).trans (h527_29 j hj)
        have F650 : ∀ j : Nat, j < 7460 → dt580 80 j = dt 80 j := fun j hj => (h579_6 j hj).trans (C574 j)
        have S651 : SCL (dt580 2) (dt580 3) (dt580 80) := by first | exact SCL_k hd1 hM C634 C635 (fun j _ h2_ => F650 j (by (first | omega | (have z0_ := unhid c2; omega)))) | (exfalso; (first | omega | (have z0_ := unhid c2; omega)))
        have S652 : QRL (dt580 8) (dt580 80) := by first | exact QRL_k hd3 hM C639 (F650 1 (by decide)) (fun j _ h2_ => F650 j (by (first | omega | (have z0_ := unhid c2; omega)))) | (exfalso; (first | omega | (have z0_ := unhid c2; omega)))
        have S653 : SDL (dt580 9) (dt580 80) := by first | exact SDL_k hd5 hM C640 (F650 1 (by decide)) (fun j _ h2_ => F650 j (by (first | omega | (have z0_ := unhid c2; omega)))) (fun j _ h2_ => F650 j (by (first | omega | (have z0_ := unhid c2; omega)))) | (exfalso; (first | omega | (have z0_ := unhid c2; omega)))
        have S654 : LWL (dt580 4) (dt580 5) (dt580 6) (dt580 80) := by first | exact LWL_k hd7 hM C636 C637 C638 (fun j _ h2_ => F650 j (by (first | omega | (have z0_ := unhid c2; omega)))) | (exfalso; (first | omega | (have z0_ := unhid c2; omega)))
        have S655 : CHL (dt580 11) (dt580 80) := by first | exact CHL_k hd9 hM C641 (F650 2 (by decide)) (fun j _ h2_ => F650 j (by (first | omega | (have z0_ := unhid c2; omega)))) | (exfalso; (first | omega | (have z0_ := unhid c2; omega)))
        have F656 : ∀ j : Nat, j < 7460 → dt580 81 j = dt 81 j := fun j hj => (h579_7 j hj).trans (C575 j)
        have S657 : SCL (dt580 19) (dt580 20) (dt580 81) := by first | exact SCL_k hd1 hM C642 C643 (fun j _ h2_ => F656 j (by (first | omega | (have z0_ := unhid c2; omega)))) | (exfalso; (first | omega | (have z0_ := unhid c2; omega)))
        have S658 : QRL (dt580 25) (dt580 81) := by first | exact QRL_k hd3 hM C647 (F656 1 (by decide)) (fun j _ h2_ => F656 j (by (first | omega | (have z0_ := unhid c2; omega)))) | (exfalso; (first | omega | (have z0_ := unhid c2; omega)))
        have S659 : SDL (dt580 26) (dt580 81) := by first | exact SDL_k hd5 hM C648 (F656 1 (by decide)) (fun j _ h2_ => F656 j (by (first | omega | (have z0_ := unhid c2; omega)))) (fun j _ h2_ => F656 j (by (first | omega | (have z0_ := unhid c2; omega)))) | (exfalso; (first | omega | (have z0_ := unhid c2; omega)))
        have S660 : LWL (dt580 21) (dt580 22) (dt580 23) (dt580 81) := by first | exact LWL_k hd7 hM C644 C645 C646 (fun j _ h2_ => F656 j (by (first | omega | (have z0_ := unhid c2; omega)))) | (exfalso; (first | omega | (have z0_ := unhid c2; omega)))
        have S661 : CHL (dt580 28) (dt580 81) := by first | exact CHL_k hd9 hM C649 (F656 2 (by decide)) (fun j _ h2_ => F656 j (by (first | omega | (have z0_ := unhid c2; omega)))) | (exfalso; (first | omega | (have z0_ := unhid c2; omega)))
        refine go_toq PM267 (k := 2) (pc' := 1435) (L' := [some (.inr (.inr (some 3000))), some (.inr (.inr (some 0))), some (.inr (.inr (some 79))), some (.inl i)]) (st' := []) (w' := (SH, dt580)) rfl ?_
        exact K dt580 hI581 hM606 M2610 (by first | (first | omega | (have z0_ := unhid c2; omega)) | (simp only [*]; done) | simp only [*]) (by (first | omega | (have z0_ := unhid c2; omega))) (by (first | omega | (have z0_ := unhid c2; omega))) (by (first | omega | (have z0_ := unhid c2; omega))) (by (first | omega | (have z0_ := unhid c2; omega))) (by (first | omega | (have z0_ := unhid c2; omega))) (by (first | omega | (have z0_ := unhid c2; omega))) (by (first | omega | (have z0_ := unhid c2; omega))) (by (first | omega | (have z0_ := unhid c2; omega))) (by (first | omega | (have z0_ := unhid c2; omega))) (by (first | omega | (have z0_ := unhid c2; omega))) (by (first | omega | (have z0_ := unhid c2; omega))) (by (first | omega | (have z0_ := unhid c2; omega))) (w597.trans (hk13.trans w607.symm)) (w598.trans (hk14.trans w608.symm)) (w599.trans (hk15.trans w609.symm)) (by first | exact hI | exact TPL_k hd0 C631 C633 (by (first | omega | (have z0_ := unhid c2; omega))) | (exfalso; (first | omega | (have z0_ := unhid c2; omega)))) (by first | exact S651 | exact SCL_k hd1 hM (fun j _ => C623 j) (fun j _ => C624 j) hI | (exfalso; (first | omega | (have z0_ := unhid c2; omega)))) (by first | exact S657 | exact SCL_k hd2 hM2 hI hI (fun j _ _ => C632 j) | (exfalso; (first | omega | (have z0_ := unhid c2; omega)))) (by first | exact S652 | exact QRL_k hd3 hM (fun j _ => C628 j) hI hI | (exfalso; (first | omega | (have z0_ := unhid c2; omega)))) (by first | exact S658 | exact QRL_k hd4 hM2 hI (C632 1) (fun j _ _ => C632 j) | (exfalso; (first | omega | (have z0_ := unhid c2; omega)))) (by first | exact S653 | exact SDL_k hd5 hM (fun j _ => C629 j) hI hI hI | (exfalso; (first | omega | (have z0_ := unhid c2; omega)))) (by first | exact S659 | exact SDL_k hd6 hM2 hI (C632 1) (fun j _ _ => C632 j) (fun j _ _ => C632 j) | (exfalso; (first | omega | (have z0_ := unhid c2; omega)))) (by first | exact S654 | exact LWL_k hd7 hM (fun j _ => C625 j) (fun j _ => C626 j) (fun j _ => C627 j) hI | (exfalso; (first | omega | (have z0_ := unhid c2; omega)))) (by first | exact S660 | exact LWL_k hd8 hM2 hI hI hI (fun j _ _ => C632 j) | (exfalso; (first | omega | (have z0_ := unhid c2; omega)))) (by first | exact S655 | exact CHL_k hd9 hM (fun j _ => C630 j) (by (first | omega | (have z0_ := unhid c2; omega))) hI | (exfalso; (first | omega | (have z0_ := unhid c2; omega)))) (by first | exact S661 | exact CHL_k hd10 hM2 hI (by (first | omega | (have z0_ := unhid c2; omega))) (fun j _ _ => C632 j) | (exfalso; (first | omega | (have z0_ := unhid c2; omega))))
      · skip
        have hM662 : MW (dt580 80) := h579.2.2.1
        obtain ⟨h579_0, h579_1, h579_2, h579_3, h579_4, h579_5, h579_6, h579_7, h579_8, h579_9, h579_10⟩ := h579
        replace h579_0 := hid h579_0
        have w663 : dt580 79 12 = dt 79 12 := h579_8.trans w555
        have w664 : dt580 79 19 = dt 79 19 := h579_9.trans w556
        have w665 : dt580 79 21 = dt 79 21 := h579_10.trans w557
        have M2666 : MW (dt580 81) := MW_frk M2564 hF582 (by decide)
        have y667 := h579_4 0 (by decide)
        have y668 := h579_4 1 (by decide)
        have y669 := h579_4 2 (by decide)
        have y670 := h579_4 3 (by decide)
        have y671 := h579_4 4 (by decide)
        have y672 := h579_4 5 (by decide)
        have y673 := h579_5 0 (by decide)
        have y674 := h579_5 1 (by decide)
        have y675 := h579_5 2 (by decide)
        have y676 := h579_5 3 (by decide)
        have y677 := h579_5 4 (by decide)
        have y678 := h579_5 5 (by decide)
        have C679 : ∀ j : Nat, dt580 2 j = dt 2 j := fun j => (hF582 2 (by decide) j).trans (C565 j)
        have C680 : ∀ j : Nat, dt580 3 j = dt 3 j := fun j => (hF582 3 (by decide) j).trans (C566 j)
        have C681 : ∀ j : Nat, dt580 4 j = dt 4 j := fun j => (hF582 4 (by decide) j).trans (C567 j)
        have C682 : ∀ j : Nat, dt580 5 j = dt 5 j := fun j => (hF582 5 (by decide) j).trans (C568 j)
        have C683 : ∀ j : Nat, dt580 6 j = dt 6 j := fun j => (hF582 6 (by decide) j).trans (C569 j)
        have C684 : ∀ j : Nat, dt580 8 j = dt 8 j := fun j => (hF582 8 (by decide) j).trans (C570 j)
        have C685 : ∀ j : Nat, dt580 9 j = dt 9 j := fun j => (hF582 9 (by decide) j).trans (C571 j)
        have C686 : ∀ j : Nat, dt580 11 j = dt 11 j := fun j => (hF582 11 (by decide) j).trans (C572 j)
        have C687 : ∀ j : Nat, dt580 36 j = dt 36 j := fun j => (hF582 36 (by decide) j).trans (C573 j)
        have C688 : ∀ j : Nat, dt580 81 j = dt 81 j := fun j => (hF582 81 (by decide) j).trans (C575 j)
        have C689 : ∀ j : Nat, dt580 85 j = dt 85 j := fun j => (hF582 85 (by decide) j).trans (C576 j)
        have C690 : ∀ j : Nat, j < 192 → dt580 2 j = dt 2 j := fun j hj => (hF582 2 (by decide) j).trans (h527_14 j hj)
        have C691 : ∀ j : Nat, j < 8 → dt580 3 j = dt 3 j := fun j hj => (hF582 3 (by decide) j).trans (h527_15 j hj)
        have C692 : ∀ j : Nat, j < 256 → dt580 4 j = dt 4 j := fun j hj => (hF582 4 (by decide) j).trans (h527_16 j hj)
        have C693 : ∀ j : Nat, j < 4 → dt580 5 j = dt 5 j := fun j hj => (hF582 5 (by decide) j).trans (h527_17 j hj)
        have C694 : ∀ j : Nat, j < 2000 → dt580 6 j = dt 6 j := fun j hj => (hF582 6 (by decide) j).trans (h527_18 j hj)
        have C695 : ∀ j : Nat, j < 60 → dt580 8 j = dt 8 j := fun j hj => (hF582 8 (by decide) j).trans (h527_19 j hj)
        have C696 : ∀ j : Nat, j < 132 → dt580 9 j = dt 9 j := fun j hj => (hF582 9 (by decide) j).trans (h527_20 j hj)
        have C697 : ∀ j : Nat, j < 160 → dt580 11 j = dt 11 j := fun j hj => (hF582 11 (by decide) j).trans (h527_21 j hj)
        have C698 : ∀ j : Nat, j < 192 → dt580 19 j = dt 2 j := fun j hj => (hF582 19 (by decide) j).trans (h527_22 j hj)
        have C699 : ∀ j : Nat, j < 8 → dt580 20 j = dt 3 j := fun j hj => (hF582 20 (by decide) j).trans (h527_23 j hj)
        have C700 : ∀ j : Nat, j < 256 → dt580 21 j = dt 4 j := fun j hj => (hF582 21 (by decide) j).trans (h527_24 j hj)
        have C701 : ∀ j : Nat, j < 4 → dt580 22 j = dt 5 j := fun j hj => (hF582 22 (by decide) j).trans (h527_25 j hj)
        have C702 : ∀ j : Nat, j < 2000 → dt580 23 j = dt 6 j := fun j hj => (hF582 23 (by decide) j).trans (h527_26 j hj)
        have C703 : ∀ j : Nat, j < 60 → dt580 25 j = dt 8 j := fun j hj => (hF582 25 (by decide) j).trans (h527_27 j hj)
        have C704 : ∀ j : Nat, j < 132 → dt580 26 j = dt 9 j := fun j hj => (hF582 26 (by decide) j).trans (h527_28 j hj)
        have C705 : ∀ j : Nat, j < 160 → dt580 28 j = dt 11 j := fun j hj => (hF582 28 (by decide) j).trans (h527_29 j hj)
        have F706 : ∀ j : Nat, j < 7460 → dt580 80 j = dt 81 j := fun j hj => (h579_6 j hj).trans (C575 j)
        have S707 : SCL (dt580 2) (dt580 3) (dt580 80) := by first | exact SCL_k hd1 hM C690 C691 (fun j _ h2_ => F706 j (by (first | omega | (have z0_ := unhid c2; have z1_ := unhid h579_0; omega)))) | (exfalso; (first | omega | (have z0_ := unhid c2; have z1_ := unhid h579_0; omega)))
        have S708 : QRL (dt580 8) (dt580 80) := by first | exact QRL_k hd3 hM C695 (F706 1 (by decide)) (fun j _ h2_ => F706 j (by (first | omega | (have z0_ := unhid c2; have z1_ := unhid h579_0; omega)))) | (exfalso; (first | omega | (have z0_ := unhid c2; have z1_ := unhid h579_0; omega)))
        have S709 : SDL (dt580 9) (dt580 80) := by first | exact SDL_k hd5 hM C696 (F706 1 (by decide)) (fun j _ h2_ => F706 j (by (first | omega | (have z0_ := unhid c2; have z1_ := unhid h579_0; omega)))) (fun j _ h2_ => F706 j (by (first | omega | (have z0_ := unhid c2; have z1_ := unhid h579_0; omega)))) | (exfalso; (first | omega | (have z0_ := unhid c2; have z1_ := unhid h579_0; omega)))
        have S710 : LWL (dt580 4) (dt580 5) (dt580 6) (dt580 80) := by first | exact LWL_k hd7 hM C692 C693 C694 (fun j _ h2_ => F706 j (by (first | omega | (have z0_ := unhid c2; have z1_ := unhid h579_0; omega)))) | (exfalso; (first | omega | (have z0_ := unhid c2; have z1_ := unhid h579_0; omega)))
        have S711 : CHL (dt580 11) (dt580 80) := by first | exact CHL_k hd9 hM C697 (F706 2 (by decide)) (fun j _ h2_ => F706 j (by (first | omega | (have z0_ := unhid c2; have z1_ := unhid h579_0; omega)))) | (exfalso; (first | omega | (have z0_ := unhid c2; have z1_ := unhid h579_0; omega)))
        have F712 : ∀ j : Nat, j < 7460 → dt580 81 j = dt 81 j := fun j hj => (h579_7 j hj).trans (C575 j)
        have S713 : SCL (dt580 19) (dt580 20) (dt580 81) := by first | exact SCL_k hd1 hM C698 C699 (fun j _ h2_ => F712 j (by (first | omega | (have z0_ := unhid c2; have z1_ := unhid h579_0; omega)))) | (exfalso; (first | omega | (have z0_ := unhid c2; have z1_ := unhid h579_0; omega)))
        have S714 : QRL (dt580 25) (dt580 81) := by first | exact QRL_k hd3 hM C703 (F712 1 (by decide)) (fun j _ h2_ => F712 j (by (first | omega | (have z0_ := unhid c2; have z1_ := unhid h579_0; omega)))) | (exfalso; (first | omega | (have z0_ := unhid c2; have z1_ := unhid h579_0; omega)))
        have S715 : SDL (dt580 26) (dt580 81) := by first | exact SDL_k hd5 hM C704 (F712 1 (by decide)) (fun j _ h2_ => F712 j (by (first | omega | (have z0_ := unhid c2; have z1_ := unhid h579_0; omega)))) (fun j _ h2_ => F712 j (by (first | omega | (have z0_ := unhid c2; have z1_ := unhid h579_0; omega)))) | (exfalso; (first | omega | (have z0_ := unhid c2; have z1_ := unhid h579_0; omega)))
        have S716 : LWL (dt580 21) (dt580 22) (dt580 23) (dt580 81) := by first | exact LWL_k hd7 hM C700 C701 C702 (fun j _ h2_ => F712 j (by (first | omega | (have z0_ := unhid c2; have z1_ := unhid h579_0; omega)))) | (exfalso; (first | omega | (have z0_ := unhid c2; have z1_ := unhid h579_0; omega)))
        have S717 : CHL (dt580 28) (dt580 81) := by first | exact CHL_k hd9 hM C705 (F712 2 (by decide)) (fun j _ h2_ => F712 j (by (first | omega | (have z0_ := unhid c2; have z1_ := unhid h579_0; omega)))) | (exfalso; (first | omega | (have z0_ := unhid c2; have z1_ := unhid h579_0; omega)))
        refine go_toq PM267 (k := 2) (pc' := 1435) (L' := [some (.inr (.inr (some 3000))), some (.inr (.inr (some 0))), some (.inr (.inr (some 79))), some (.inl i)]) (st' := []) (w' := (SH, dt580)) rfl ?_
        exact K dt580 hI581 hM662 M2666 (by first | (first | omega | (have z0_ := unhid c2; have z1_ := unhid h579_0; omega)) | (simp only [*]; done) | simp only [*]) (by (first | omega | (have z0_ := unhid c2; have z1_ := unhid h579_0; omega))) (by (first | omega | (have z0_ := unhid c2; have z1_ := unhid h579_0; omega))) (by (first | omega | (have z0_ := unhid c2; have z1_ := unhid h579_0; omega))) (by (first | omega | (have z0_ := unhid c2; have z1_ := unhid h579_0; omega))) (by (first | omega | (have z0_ := unhid c2; have z1_ := unhid h579_0; omega))) (by (first | omega | (have z0_ := unhid c2; have z1_ := unhid h579_0; omega))) (by (first | omega | (have z0_ := unhid c2; have z1_ := unhid h579_0; omega))) (by (first | omega | (have z0_ := unhid c2; have z1_ := unhid h579_0; omega))) (by (first | omega | (have z0_ := unhid c2; have z1_ := unhid h579_0; omega))) (by (first | omega | (have z0_ := unhid c2; have z1_ := unhid h579_0; omega))) (by (first | omega | (have z0_ := unhid c2; have z1_ := unhid h579_0; omega))) (by (first | omega | (have z0_ := unhid c2; have z1_ := unhid h579_0; omega))) (w597.trans (hk13.trans w663.symm)) (w598.trans (hk14.trans w664.symm)) (w599.trans (hk15.trans w665.symm)) (by first | exact hI | exact TPL_k hd0 C687 C689 (by (first | omega | (have z0_ := unhid c2; have z1_ := unhid h579_0; omega))) | (exfalso; (first | omega | (have z0_ := unhid c2; have z1_ := unhid h579_0; omega)))) (by first | exact S707 | exact SCL_k hd1 hM (fun j _ => C679 j) (fun j _ => C680 j) hI | (exfalso; (first | omega | (have z0_ := unhid c2; have z1_ := unhid h579_0; omega)))) (by first | exact S713 | exact SCL_k hd2 hM2 hI hI (fun j _ _ => C688 j) | (exfalso; (first | omega | (have z0_ := unhid c2; have z1_ := unhid h579_0; omega)))) (by first | exact S708 | exact QRL_k hd3 hM (fun j _ => C684 j) hI hI | (exfalso; (first | omega | (have z0_ := unhid c2; have z1_ := unhid h579_0; omega)))) (by first | exact S714 | exact QRL_k hd4 hM2 hI (C688 1) (fun j _ _ => C688 j) | (exfalso; (first | omega | (have z0_ := unhid c2; have z1_ := unhid h579_0; omega)))) (by first | exact S709 | exact SDL_k hd5 hM (fun j _ => C685 j) hI hI hI | (exfalso; (first | omega | (have z0_ := unhid c2; have z1_ := unhid h579_0; omega)))) (by first | exact S715 | exact SDL_k hd6 hM2 hI (C688 1) (fun j _ _ => C688 j) (fun j _ _ => C688 j) | (exfalso; (first | omega | (have z0_ := unhid c2; have z1_ := unhid h579_0; omega)))) (by first | exact S710 | exact LWL_k hd7 hM (fun j _ => C681 j) (fun j _ => C682 j) (fun j _ => C683 j) hI | (exfalso; (first | omega | (have z0_ := unhid c2; have z1_ := unhid h579_0; omega)))) (by first | exact S716 | exact LWL_k hd8 hM2 hI hI hI (fun j _ _ => C688 j) | (exfalso; (first | omega | (have z0_ := unhid c2; have z1_ := unhid h579_0; omega)))) (by first | exact S711 | exact CHL_k hd9 hM (fun j _ => C686 j) (by (first | omega | (have z0_ := unhid c2; have z1_ := unhid h579_0; omega))) hI | (exfalso; (first | omega | (have z0_ := unhid c2; have z1_ := unhid h579_0; omega)))) (by first | exact S717 | exact CHL_k hd10 hM2 hI (by (first | omega | (have z0_ := unhid c2; have z1_ := unhid h579_0; omega))) (fun j _ _ => C688 j) | (exfalso; (first | omega | (have z0_ := unhid c2; have z1_ := unhid h579_0; omega))))
    · skip
      replace c578 := hid c578
      refine go_toq PM267 (k := 2) (pc' := 1405) (L' := [some (.inr (.inr (some 3000))), some (.inr (.inr (some 0))), some (.inr (.inr (some 79))), some (.inl i)]) (st' := [.inl 1, .inr (.inr (some 79))]) (w' := (SH, dt528)) rfl ?_
      refine go_callq PM267 PM247 (Q' := _) rfl rfl rfl rfl (sp_X6_image_1v L xs sio (d + 38) dt528 hI529 hM532   ) ?_
      rintro _ _ ⟨dt719, rfl, hI720, hF721, h718⟩
      refine ⟨rfl, ?_⟩
      have hF722 : Fr [0, 1, 2, 3, 4, 5, 6, 7, 8, 9, 10, 11, 12, 13, 14, 15, 16, 17, 18, 19, 20, 21, 22, 23, 24, 25, 26, 27, 28, 29, 30, 31, 32, 33, 34, 35, 36, 37, 38, 39, 40, 41, 42, 43, 44, 45, 46, 47, 48, 49, 50, 51, 52, 53, 54, 55, 56, 57, 58, 59, 60, 61, 62, 63, 64, 65, 66, 67, 68, 69, 70, 71, 72, 73, 74, 75, 76, 77, 78, 79, 80, 81, 82, 83, 84, 85, 86, 87, 88, 89, 90, 91, 92, 93, 94, 95, 96, 97, 98, 99, 100, 101, 102, 103, 104] dt dt719 := Fr_tr hF531 hF721 (by decide)
      have hM723 : MW (dt719 80) := MW_fr hM532 hF721 (by decide)
      have w724 : dt719 1 0 = dt 1 0 := (hF721 1 (by decide) 0).trans w558
      have w725 : dt719 7 3 = dt 7 3 := (hF721 7 (by decide) 3).trans w559
      have w726 : dt719 10 3 = dt 10 3 := (hF721 10 (by decide) 3).trans w560
      have w727 : dt719 12 3 = dt 12 3 := (hF721 12 (by decide) 3).trans w561
      have w728 : dt719 14 3 = dt 14 3 := (hF721 14 (by decide) 3).trans w562
      have w729 : dt719 16 3 = dt 16 3 := (hF721 16 (by decide) 3).trans w563
      have w730 : dt719 18 0 = dt528 18 0 := hF721 18 (by decide) 0
      have w731 : dt719 24 3 = dt528 24 3 := hF721 24 (by decide) 3
      have w732 : dt719 27 3 = dt528 27 3 := hF721 27 (by decide) 3
      have w733 : dt719 29 3 = dt528 29 3 := hF721 29 (by decide) 3
      have w734 : dt719 31 3 = dt528 31 3 := hF721 31 (by decide) 3
      have w735 : dt719 33 3 = dt528 33 3 := hF721 33 (by decide) 3
      have w736 : dt719 0 2 = dt528 0 2 := hF721 0 (by decide) 2
      have w737 : dt719 35 1 = dt 35 1 := (hF721 35 (by decide) 1).trans w539
      have w738 : dt719 35 2 = dt 35 2 := (hF721 35 (by decide) 2).trans w540
      have w739 : dt719 35 3 = dt 35 3 := (hF721 35 (by decide) 3).trans w541
      have w740 : dt719 80 0 = dt 80 0 := (hF721 80 (by decide) 0).trans w542
      have w741 : dt719 80 1 = dt 80 1 := (hF721 80 (by decide) 1).trans w543
      have w742 : dt719 80 2 = dt 80 2 := (hF721 80 (by decide) 2).trans w544
      have w743 : dt719 80 3 = dt 80 3 := (hF721 80 (by decide) 3).trans w545
      have w744 : dt719 80 4 = dt 80 4 := (hF721 80 (by decide) 4).trans w546
      have w745 : dt719 80 5 = dt 80 5 := (hF721 80 (by decide) 5).trans w547
      rcases h718 with ⟨rfl, h718⟩
      have hM746 : MW (dt719 80) := h718.2.1
      obtain ⟨h718_0, h718_1, h718_2, h718_3, h718_4, h718_5, h718_6, h718_7, h718_8, h718_9⟩ := h718
      have w747 : dt719 79 12 = dt 79 12 := h718_7.trans w555
      have w748 : dt719 79 19 = dt 79 19 := h718_8.trans w556
      have w749 : dt719 79 21 = dt 79 21 := h718_9.trans w557
      have y750 := h718_3 0 (by decide)
      have y751 := h718_3 1 (by decide)
      have y752 := h718_3 2 (by decide)
      have y753 := h718_3 3 (by decide)
      have y754 := h718_3 4 (by decide)
      have y755 := h718_3 5 (by decide)
      have y756 := h718_4 0 (by decide)
      have y757 := h718_4 1 (by decide)
      have y758 := h718_4 2 (by decide)
      have y759 := h718_4 3 (by decide)
      have y760 := h718_4 4 (by decide)
      have y761 := h718_4 5 (by decide)
      have C762 : ∀ j : Nat, dt719 2 j = dt 2 j := fun j => (hF721 2 (by decide) j).trans (C565 j)
      have C763 : ∀ j : Nat, dt719 3 j = dt 3 j := fun j => (hF721 3 (by decide) j).trans (C566 j)
      have C764 : ∀ j : Nat, dt719 4 j = dt 4 j := fun j => (hF721 4 (by decide) j).trans (C567 j)
      have C765 : ∀ j : Nat, dt719 5 j = dt 5 j := fun j => (hF721 5 (by decide) j).trans (C568 j)
      have C766 : ∀ j : Nat, dt719 6 j = dt 6 j := fun j => (hF721 6 (by decide) j).trans (C569 j)
      have C767 : ∀ j : Nat, dt719 8 j = dt 8 j := fun j => (hF721 8 (by decide) j).trans (C570 j)
      have C768 : ∀ j : Nat, dt719 9 j = dt 9 j := fun j => (hF721 9 (by decide) j).trans (C571 j)
      have C769 : ∀ j : Nat, dt719 11 j = dt 11 j := fun j => (hF721 11 (by decide) j).trans (C572 j)
      have C770 : ∀ j : Nat, dt719 36 j = dt 36 j := fun j => (hF721 36 (by decide) j).trans (C573 j)
      have C771 : ∀ j : Nat, dt719 80 j = dt 80 j := fun j => (hF721 80 (by decide) j).trans (C574 j)
      have C772 : ∀ j : Nat, dt719 85 j = dt 85 j := fun j => (hF721 85 (by decide) j).trans (C576 j)
      have C773 : ∀ j : Nat, j < 192 → dt719 2 j = dt 2 j := fun j hj => (hF721 2 (by decide) j).trans (h527_14 j hj)
      have C774 : ∀ j : Nat, j < 8 → dt719 3 j = dt 3 j := fun j hj => (hF721 3 (by decide) j).trans (h527_15 j hj)
      have C775 : ∀ j : Nat, j < 256 → dt719 4 j = dt 4 j := fun j hj => (hF721 4 (by decide) j).trans (h527_16 j hj)
      have C776 : ∀ j : Nat, j < 4 → dt719 5 j = dt 5 j := fun j hj => (hF721 5 (by decide) j).trans (h527_17 j hj)
      have C777 : ∀ j : Nat, j < 2000 → dt719 6 j = dt 6 j := fun j hj => (hF721 6 (by decide) j).trans (h527_18 j hj)
      have C778 : ∀ j : Nat, j < 60 → dt719 8 j = dt 8 j := fun j hj => (hF721 8 (by decide) j).trans (h527_19 j hj)
      have C779 : ∀ j : Nat, j < 132 → dt719 9 j = dt 9 j := fun j hj => (hF721 9 (by decide) j).trans (h527_20 j hj)
      have C780 : ∀ j : Nat, j < 160 → dt719 11 j = dt 11 j := fun j hj => (hF721 11 (by decide) j).trans (h527_21 j hj)
      have C781 : ∀ j : Nat, j < 192 → dt719 19 j = dt 2 j := fun j hj => (hF721 19 (by decide) j).trans (h527_22 j hj)
      have C782 : ∀ j : Nat, j < 8 → dt719 20 j = dt 3 j := fun j hj => (hF721 20 (by decide) j).trans (h527_23 j hj)
      have C783 : ∀ j : Nat, j < 256 → dt719 21 j = dt 4 j := fun j hj => (hF721 21 (by decide) j).trans (h527_24 j hj)
      have C784 : ∀ j : Nat, j < 4 → dt719 22 j = dt 5 j := fun j hj => (hF721 22 (by decide) j).trans (h527_25 j hj)
      have C785 : ∀ j : Nat, j < 2000 → dt719 23 j = dt 6 j := fun j hj => (hF721 23 (by decide) j).trans (h527_26 j hj)
      have C786 : ∀ j : Nat, j < 60 → dt719 25 j = dt 8 j := fun j hj => (hF721 25 (by decide) j).trans (h527_27 j hj)
      have C787 : ∀ j : Nat, j < 132 → dt719 26 j = dt 9 j := fun j hj => (hF721 26 (by decide) j).trans (h527_28 j hj)
      have C788 : ∀ j : Nat, j < 160 → dt719 28 j = dt 11 j := fun j hj => (hF721 28 (by decide) j).trans (h527_29 j hj)
      have F789 : ∀ j : Nat, j < 7460 → dt719 80 j = dt 80 j := fun j hj => (h718_5 j hj).trans (C574 j)
      have S790 : SCL (dt719 2) (dt719 3) (dt719 80) := by first | exact SCL_k hd1 hM C773 C774 (fun j _ h2_ => F789 j (by (first | omega | (have z0_ := unhid c2; have z1_ := unhid c578; omega)))) | (exfalso; (first | omega | (have z0_ := unhid c2; have z1_ := unhid c578; omega)))
      have S791 : QRL (dt719 8) (dt719 80) := by first | exact QRL_k hd3 hM C778 (F789 1 (by decide)) (fun j _ h2_ => F789 j (by (first | omega | (have z0_ := unhid c2; have z1_ := unhid c578; omega)))) | (exfalso; (first | omega | (have z0_ := unhid c2; have z1_ := unhid c578; omega)))
      have S792 : SDL (dt719 9) (dt719 80) := by first | exact SDL_k hd5 hM C779 (F789 1 (by decide)) (fun j _ h2_ => F789 j (by (first | omega | (have z0_ := unhid c2; have z1_ := unhid c578; omega)))) (fun j _ h2_ => F789 j (by (first | omega | (have z0_ := unhid c2; have z1_ := unhid c578; omega)))) | (exfalso; (first | omega | (have z0_ := unhid c2; have z1_ := unhid c578; omega)))
      have S793 : LWL (dt719 4) (dt719 5) (dt719 6) (dt719 80) := by first | exact LWL_k hd7 hM C775 C776 C777 (fun j _ h2_ => F789 j (by (first | omega | (have z0_ := unhid c2; have z1_ := unhid c578; omega)))) | (exfalso; (first | omega | (have z0_ := unhid c2; have z1_ := unhid c578; omega)))
      have S794 : CHL (dt719 11) (dt719 80) := by first | exact CHL_k hd9 hM C780 (F789 2 (by decide)) (fun j _ h2_ => F789 j (by (first | omega | (have z0_ := unhid c2; have z1_ := unhid c578; omega)))) | (exfalso; (first | omega | (have z0_ := unhid c2; have z1_ := unhid c578; omega)))
      have F795 : ∀ j : Nat, j < 7460 → dt719 81 j = dt 80 j := fun j hj => (h718_6 j hj).trans (C574 j)
      have S796 : SCL (dt719 19) (dt719 20) (dt719 81) := by first | exact SCL_k hd1 hM C781 C782 (fun j _ h2_ => F795 j (by (first | omega | (have z0_ := unhid c2; have z1_ := unhid c578; omega)))) | (exfalso; (first | omega | (have z0_ := unhid c2; have z1_ := unhid c578; omega)))
      have S797 : QRL (dt719 25) (dt719 81) := by first | exact QRL_k hd3 hM C786 (F795 1 (by decide)) (fun j _ h2_ => F795 j (by (first | omega | (have z0_ := unhid c2; have z1_ := unhid c578; omega)))) | (exfalso; (first | omega | (have z0_ := unhid c2; have z1_ := unhid c578; omega)))
      have S798 : SDL (dt719 26) (dt719 81) := by first | exact SDL_k hd5 hM C787 (F795 1 (by decide)) (fun j _ h2_ => F795 j (by (first | omega | (have z0_ := unhid c2; have z1_ := unhid c578; omega)))) (fun j _ h2_ => F795 j (by (first | omega | (have z0_ := unhid c2; have z1_ := unhid c578; omega)))) | (exfalso; (first | omega | (have z0_ := unhid c2; have z1_ := unhid c578; omega)))
      have S799 : LWL (dt719 21) (dt719 22) (dt719 23) (dt719 81) := by first | exact LWL_k hd7 hM C783 C784 C785 (fun j _ h2_ => F795 j (by (first | omega | (have z0_ := unhid c2; have z1_ := unhid c578; omega)))) | (exfalso; (first | omega | (have z0_ := unhid c2; have z1_ := unhid c578; omega)))
      have S800 : CHL (dt719 28) (dt719 81) := by first | exact CHL_k hd9 hM C788 (F795 2 (by decide)) (fun j _ h2_ => F795 j (by (first | omega | (have z0_ := unhid c2; have z1_ := unhid c578; omega)))) | (exfalso; (first | omega | (have z0_ := unhid c2; have z1_ := unhid c578; omega)))
      refine go_toq PM267 (k := 2) (pc' := 1435) (L' := [some (.inr (.inr (some 3000))), some (.inr (.inr (some 0))), some (.inr (.inr (some 79))), some (.inl i)]) (st' := []) (w' := (SH, dt719)) rfl ?_
      exact K dt719 hI720 hM746 h718_2 (w724.trans (hk0.trans w740.symm)) (w725.trans (hk1.trans w741.symm)) (w726.trans (hk2.trans w742.symm)) (w727.trans (hk3.trans w743.symm)) (w728.trans (hk4.trans w744.symm)) (w729.trans (hk5.trans w745.symm)) (by (first | omega | (have z0_ := unhid c2; have z1_ := unhid c578; omega))) (by (first | omega | (have z0_ := unhid c2; have z1_ := unhid c578; omega))) (by (first | omega | (have z0_ := unhid c2; have z1_ := unhid c578; omega))) (by (first | omega | (have z0_ := unhid c2; have z1_ := unhid c578; omega))) (by (first | omega | (have z0_ := unhid c2; have z1_ := unhid c578; omega))) (by (first | omega | (have z0_ := unhid c2; have z1_ := unhid c578; omega))) (by (first | omega | (have z0_ := unhid c2; have z1_ := unhid c578; omega))) (w737.trans (hk13.trans w747.symm)) (w738.trans (hk14.trans w748.symm)) (w739.trans (hk15.trans w749.symm)) (by first | exact hI | exact TPL_k hd0 C770 C772 (by (first | omega | (have z0_ := unhid c2; have z1_ := unhid c578; omega))) | (exfalso; (first | omega | (have z0_ := unhid c2; have z1_ := unhid c578; omega)))) (by first | exact S790 | exact SCL_k hd1 hM (fun j _ => C762 j) (fun j _ => C763 j) (fun j _ _ => C771 j) | (exfalso; (first | omega | (have z0_ := unhid c2; have z1_ := unhid c578; omega)))) (by first | exact S796 | exact SCL_k hd2 hM2 hI hI hI | (exfalso; (first | omega | (have z0_ := unhid c2; have z1_ := unhid c578; omega)))) (by first | exact S791 | exact QRL_k hd3 hM (fun j _ => C767 j) (C771 1) (fun j _ _ => C771 j) | (exfalso; (first | omega | (have z0_ := unhid c2; have z1_ := unhid c578; omega)))) (by first | exact S797 | exact QRL_k hd4 hM2 hI hI hI | (exfalso; (first | omega | (have z0_ := unhid c2; have z1_ := unhid c578; omega)))) (by first | exact S792 | exact SDL_k hd5 hM (fun j _ => C768 j) (C771 1) (fun j _ _ => C771 j) (fun j _ _ => C771 j) | (exfalso; (first | omega | (have z0_ := unhid c2; have z1_ := unhid c578; omega)))) (by first | exact S798 | exact SDL_k hd6 hM2 hI hI hI hI | (exfalso; (first | omega | (have z0_ := unhid c2; have z1_ := unhid c578; omega)))) (by first | exact S793 | exact LWL_k hd7 hM (fun j _ => C764 j) (fun j _ => C765 j) (fun j _ => C766 j) (fun j _ _ => C771 j) | (exfalso; (first | omega | (have z0_ := unhid c2; have z1_ := unhid c578; omega)))) (by first | exact S799 | exact LWL_k hd8 hM2 hI hI hI hI | (exfalso; (first | omega | (have z0_ := unhid c2; have z1_ := unhid c578; omega)))) (by first | exact S794 | exact CHL_k hd9 hM (fun j _ => C769 j) (by (first | omega | (have z0_ := unhid c2; have z1_ := unhid c578; omega))) (fun j _ _ => C771 j) | (exfalso; (first | omega | (have z0_ := unhid c2; have z1_ := unhid c578; omega)))) (by first | exact S800 | exact CHL_k hd10 hM2 hI (by (first | omega | (have z0_ := unhid c2; have z1_ := unhid c578; omega))) hI | (exfalso; (first | omega | (have z0_ := unhid c2; have z1_ := unhid c578; omega))))
set_option maxRecDepth 20000 in
set_option maxHeartbeats 8000000 in
theorem sp_case32 (L : Nat) (xs : Nat → Int32) (sio : Option Nat) (d : Nat) (Q : Option AV → am_W → Prop) (hLL : L ≤ 3072) (i : Int) (hi : 0 ≤ i ∧ i ≤ 3066) (hil : i ≤ (L : Int) - 6) (dt : Nat → Nat → Int) (hI : InvC dt) (hM : MW (dt 80)) (hM2 : MW (dt 81)) (hk0 : dt 1 0 = dt 80 0) (hk1 : dt 7 3 = dt 80 1) (hk2 : dt 10 3 = dt 80 2) (hk3 : dt 12 3 = dt 80 3) (hk4 : dt 14 3 = dt 80 4) (hk5 : dt 16 3 = dt 80 5) (hk6 : dt 18 0 = dt 81 0) (hk7 : dt 24 3 = dt 81 1) (hk8 : dt 27 3 = dt 81 2) (hk9 : dt 29 3 = dt 81 3) (hk10 : dt 31 3 = dt 81 4) (hk11 : dt 33 3 = dt 81 5) (hk12 : dt 0 2 = dt 79 2) (hk13 : dt 35 1 = dt 79 12) (hk14 : dt 35 2 = dt 79 19) (hk15 : dt 35 3 = dt 79 21) (hd0 : TPL (dt 36) (dt 85) (dt 35 1)) (hd1 : SCL (dt 2) (dt 3) (dt 80)) (hd2 : SCL (dt 19) (dt 20) (dt 81)) (hd3 : QRL (dt 8) (dt 80)) (hd4 : QRL (dt 25) (dt 81)) (hd5 : SDL (dt 9) (dt 80)) (hd6 : SDL (dt 26) (dt 81)) (hd7 : LWL (dt 4) (dt 5) (dt 6) (dt 80)) (hd8 : LWL (dt 21) (dt 22) (dt 23) (dt 81)) (hd9 : CHL (dt 11) (dt 80)) (hd10 : CHL (dt 28) (dt 81)) (K : ∀ (dt : Nat → Nat → Int) (hI : InvC dt) (hM : MW (dt 80)) (hM2 : MW (dt 81)) (hk0 : dt 1 0 = dt 80 0) (hk1 : dt 7 3 = dt 80 1) (hk2 : dt 10 3 = dt 80 2) (hk3 : dt 12 3 = dt 80 3) (hk4 : dt 14 3 = dt 80 4) (hk5 : dt 16 3 = dt 80 5) (hk6 : dt 18 0 = dt 81 0) (hk7 : dt 24 3 = dt 81 1) (hk8 : dt 27 3 = dt 81 2) (hk9 : dt 29 3 = dt 81 3) (hk10 : dt 31 3 = dt 81 4) (hk11 : dt 33 3 = dt 81 5) (hk12 : dt 0 2 = dt 79 2) (hk13 : dt 35 1 = dt 79 12) (hk14 : dt 35 2 = dt 79 19) (hk15 : dt 35 3 = dt 79 21) (hd0 : TPL (dt 36) (dt 85) (dt 35 1)) (hd1 : SCL (dt 2) (dt 3) (dt 80)) (hd2 : SCL (dt 19) (dt 20) (dt 81)) (hd3 : QRL (dt 8) (dt 80)) (hd4 : QRL (dt 25) (dt 81)) (hd5 : SDL (dt 9) (dt 80)) (hd6 : SDL (dt 26) (dt 81)) (hd7 : LWL (dt 4) (dt 5) (dt 6) (dt 80)) (hd8 : LWL (dt 21) (dt 22) (dt 23) (dt 81)) (hd9 : CHL (dt 11) (dt 80)) (hd10 : CHL (dt 28) (dt 81)), GO (am_XX L xs sio) (d + 39) 267 1435 [some (.inr (.inr (some 3000))), some (.inr (.inr (some 0))), some (.inr (.inr (some 79))), some (.inl i)] [] (SH, dt) Q) : GO (am_XX L xs sio) (d + 39) 267 1412 [some (.inr (.inr (some 3000))), some (.inr (.inr (some 0))), some (.inr (.inr (some 79))), some (.inl i)] [] (SH, dt) Q := by
  have hF : Fr [0, 1, 2, 3, 4, 5, 6, 7, 8, 9, 10, 11, 12, 13, 14, 15, 16, 17, 18, 19, 20, 21, 22, 23, 24, 25, 26, 27, 28, 29, 30, 31, 32, 33, 34, 35, 36, 37, 38, 39, 40, 41, 42, 43, 44, 45, 46, 47, 48, 49, 50, 51, 52, 53, 54, 55, 56, 57, 58, 59, 60, 61, 62, 63, 64, 65, 66, 67, 68, 69, 70, 71, 72, 73, 74, 75, 76, 77, 78, 79, 80, 81, 82, 83, 84, 85, 86, 87, 88, 89, 90, 91, 92, 93, 94, 95, 96, 97, 98, 99, 100, 101, 102, 103, 104] dt dt := Fr_refl
  have hqo := QOC_R hd3 hM hk1
  have hb1_ := hM.1.1
  have hb2_ := hM.1.2.1
  have hb3_ := hM.1.2.2.1
  have halk : ALK dt (dt 80) := ⟨hd7, hd3, hd5, hd9, hk1, hk2⟩
  refine go_toq PM267 (k := 5) (pc' := 1417) (L' := [some (.inr (.inr (some 3000))), some (.inr (.inr (some 0))), some (.inr (.inr (some 79))), some (.inl i)]) (st' := [.inl (i + 1), .inr (.inr (some 3000)), .inr (.inr (some 0))]) (w' := (SH, dt)) rfl ?_
  have r1 := i32_R (xs ((i + 1).toNat))
  refine go_smpq PM267 (L' := [some (.inr (.inr (some 3000))), some (.inr (.inr (some 0))), some (.inr (.inr (some 79))), some (.inl i)]) (st' := [.inl ((xs ((i + 1).toNat)).toInt), .inr (.inr (some 0))]) (w' := (SH, dt)) rfl rfl (s_iald (n := L) (f := fun j => (xs j).toInt) (am_scr hLL) ⟨by omega, by omega⟩) ?_
  refine go_callq PM267 PM99 (Q' := _) rfl rfl rfl rfl (sp_X5_look L xs sio (d + 38) dt hI  ((xs ((i + 1).toNat)).toInt) ⟨by omega, by omega⟩ ) ?_
  rintro _ _ ⟨rfl, h2⟩
  refine ⟨rfl, ?_⟩
  rcases h2 with ⟨rfl, h2⟩ | ⟨rfl, h2⟩ | ⟨rfl, h2⟩ | ⟨rfl, h2⟩ | ⟨rfl, h2⟩ | ⟨rfl, h2⟩ | ⟨rfl, h2⟩ | ⟨rfl, h2⟩ | ⟨rfl, h2⟩
  · skip
    refine go_toq PM267 (k := 6) (pc' := 1427) (L' := [some (.inr (.inr (some 3000))), some (.inr (.inr (some 0))), some (.inr (.inr (some 79))), some (.inl i)]) (st' := [.inl (i + 1), .inr (.inr (some 3000)), .inr (.inr (some 79))]) (w' := (SH, dt)) rfl ?_
    refine go_smpq PM267 (L' := [some (.inr (.inr (some 3000))), some (.inr (.inr (some 0))), some (.inr (.inr (some 79))), some (.inl i)]) (st' := [.inl ((xs ((i + 1).toNat)).toInt), .inr (.inr (some 79))]) (w' := (SH, dt)) rfl rfl (s_iald (n := L) (f := fun j => (xs j).toInt) (am_scr hLL) ⟨by omega, by omega⟩) ?_
    refine go_callq PM267 PM248 (Q' := _) rfl rfl rfl rfl (sp_X6_look L xs sio (d + 38) dt hI  ((xs ((i + 1).toNat)).toInt) ⟨by omega, by omega⟩ ) ?_
    rintro _ _ ⟨rfl, h3⟩
    refine ⟨rfl, ?_⟩
    rcases h3 with ⟨rfl, h3⟩ | ⟨rfl, h3⟩ | ⟨rfl, h3⟩ | ⟨rfl, h3⟩ | ⟨rfl, h3⟩ | ⟨rfl, h3⟩ | ⟨rfl, h3⟩ | ⟨rfl, h3⟩ | ⟨rfl, h3⟩
    · skip
      refine go_toq PM267 (k := 2) (pc' := 1435) (L' := [some (.inr (.inr (some 3000))), some (.inr (.inr (some 0))), some (.inr (.inr (some 79))), some (.inl i)]) (st' := []) (w' := (SH, dt)) rfl ?_
      exact K dt hI hM hM2 hk0 hk1 hk2 hk3 hk4 hk5 hk6 hk7 hk8 hk9 hk10 hk11 hk12 hk13 hk14 hk15 (by first | exact hI | exact TPL_k hd0 (fun _ => rfl) (fun _ => rfl) (by omega) | (exfalso; omega)) (by first | exact hI | exact SCL_k hd1 hM (fun j _ => (fun _ => rfl) j) (fun j _ => (fun _ => rfl) j) (fun j _ _ => (fun _ => rfl) j) | (exfalso; omega)) (by first | exact hI | exact SCL_k hd2 hM2 (fun j _ => (fun _ => rfl) j) (fun j _ => (fun _ => rfl) j) (fun j _ _ => (fun _ => rfl) j) | (exfalso; omega)) (by first | exact hI | exact QRL_k hd3 hM (fun j _ => (fun _ => rfl) j) ((fun _ => rfl) 1) (fun j _ _ => (fun _ => rfl) j) | (exfalso; omega)) (by first | exact hI | exact QRL_k hd4 hM2 (fun j _ => (fun _ => rfl) j) ((fun _ => rfl) 1) (fun j _ _ => (fun _ => rfl) j) | (exfalso; omega)) (by first | exact hI | exact SDL_k hd5 hM (fun j _ => (fun _ => rfl) j) ((fun _ => rfl) 1) (fun j _ _ => (fun _ => rfl) j) (fun j _ _ => (fun _ => rfl) j) | (exfalso; omega)) (by first | exact hI | exact SDL_k hd6 hM2 (fun j _ => (fun _ => rfl) j) ((fun _ => rfl) 1) (fun j _ _ => (fun _ => rfl) j) (fun j _ _ => (fun _ => rfl) j) | (exfalso; omega)) (by first | exact hI | exact LWL_k hd7 hM (fun j _ => (fun _ => rfl) j) (fun j _ => (fun _ => rfl) j) (fun j _ => (fun _ => rfl) j) (fun j _ _ => (fun _ => rfl) j) | (exfalso; omega)) (by first | exact hI | exact LWL_k hd8 hM2 (fun j _ => (fun _ => rfl) j) (fun j _ => (fun _ => rfl) j) (fun j _ => (fun _ => rfl) j) (fun j _ _ => (fun _ => rfl) j) | (exfalso; omega)) (by first | exact hI | exact CHL_k hd9 hM (fun j _ => (fun _ => rfl) j) (by omega) (fun j _ _ => (fun _ => rfl) j) | (exfalso; omega)) (by first | exact hI | exact CHL_k hd10 hM2 (fun j _ => (fun _ => rfl) j) (by omega) (fun j _ _ => (fun _ => rfl) j) | (exfalso; omega))
    · skip
      refine go_toq PM267 (k := 2) (pc' := 1435) (L' := [some (.inr (.inr (some 3000))), some (.inr (.inr (some 0))), some (.inr (.inr (some 79))), some (.inl i)]) (st' := []) (w' := (SH, dt)) rfl ?_
      exact K dt hI hM hM2 hk0 hk1 hk2 hk3 hk4 hk5 hk6 hk7 hk8 hk9 hk10 hk11 hk12 hk13 hk14 hk15 (by first | exact hI | exact TPL_k hd0 (fun _ => rfl) (fun _ => rfl) (by omega) | (exfalso; omega)) (by first | exact hI | exact SCL_k hd1 hM (fun j _ => (fun _ => rfl) j) (fun j _ => (fun _ => rfl) j) (fun j _ _ => (fun _ => rfl) j) | (exfalso; omega)) (by first | exact hI | exact SCL_k hd2 hM2 (fun j _ => (fun _ => rfl) j) (fun j _ => (fun _ => rfl) j) (fun j _ _ => (fun _ => rfl) j) | (exfalso; omega)) (by first | exact hI | exact QRL_k hd3 hM (fun j _ => (fun _ => rfl) j) ((fun _ => rfl) 1) (fun j _ _ => (fun _ => rfl) j) | (exfalso; omega)) (by first | exact hI | exact QRL_k hd4 hM2 (fun j _ => (fun _ => rfl) j) ((fun _ => rfl) 1) (fun j _ _ => (fun _ => rfl) j) | (exfalso; omega)) (by first | exact hI | exact SDL_k hd5 hM (fun j _ => (fun _ => rfl) j) ((fun _ => rfl) 1) (fun j _ _ => (fun _ => rfl) j) (fun j _ _ => (fun _ => rfl) j) | (exfalso; omega)) (by first | exact hI | exact SDL_k hd6 hM2 (fun j _ => (fun _ => rfl) j) ((fun _ => rfl) 1) (fun j _ _ => (fun _ => rfl) j) (fun j _ _ => (fun _ => rfl) j) | (exfalso; omega)) (by first | exact hI | exact LWL_k hd7 hM (fun j _ => (fun _ => rfl) j) (fun j _ => (fun _ => rfl) j) (fun j _ => (fun _ => rfl) j) (fun j _ _ => (fun _ => rfl) j) | (exfalso; omega)) (by first | exact hI | exact LWL_k hd8 hM2 (fun j _ => (fun _ => rfl) j) (fun j _ => (fun _ => rfl) j) (fun j _ => (fun _ => rfl) j) (fun j _ _ => (fun _ => rfl) j) | (exfalso; omega)) (by first | exact hI | exact CHL_k hd9 hM (fun j _ => (fun _ => rfl) j) (by omega) (fun j _ _ => (fun _ => rfl) j) | (exfalso; omega)) (by first | exact hI | exact CHL_k hd10 hM2 (fun j _ => (fun _ => rfl) j) (by omega) (fun j _ _ => (fun _ => rfl) j) | (exfalso; omega))
    · skip
      refine go_toq PM267 (k := 2) (pc' := 1435) (L' := [some (.inr (.inr (some 3000))), some (.inr (.inr (some 0))), some (.inr (.inr (some 79))), some (.inl i)]) (st' := []) (w' := (SH, dt)) rfl ?_
      exact K dt hI hM hM2 hk0 hk1 hk2 hk3 hk4 hk5 hk6 hk7 hk8 hk9 hk10 hk11 hk12 hk13 hk14 hk15 (by first | exact hI | exact TPL_k hd0 (fun _ => rfl) (fun _ => rfl) (by omega) | (exfalso; omega)) (by first | exact hI | exact SCL_k hd1 hM (fun j _ => (fun _ => rfl) j) (fun j _ => (fun _ => rfl) j) (fun j _ _ => (fun _ => rfl) j) | (exfalso; omega)) (by first | exact hI | exact SCL_k hd2 hM2 (fun j _ => (fun _ => rfl) j) (fun j _ => (fun _ => rfl) j) (fun j _ _ => (fun _ => rfl) j) | (exfalso; omega)) (by first | exact hI | exact QRL_k hd3 hM (fun j _ => (fun _ => rfl) j) ((fun _ => rfl) 1) (fun j _ _ => (fun _ => rfl) j) | (exfalso; omega)) (by first | exact hI | exact QRL_k hd4 hM2 (fun j _ => (fun _ => rfl) j) ((fun _ => rfl) 1) (fun j _ _ => (fun _ => rfl) j) | (exfalso; omega)) (by first | exact hI | exact SDL_k hd5 hM (fun j _ => (fun _ => rfl) j) ((fun _ => rfl) 1) (fun j _ _ => (fun _ => rfl) j) (fun j _ _ => (fun _ => rfl) j) | (exfalso; omega)) (by first | exact hI | exact SDL_k hd6 hM2 (fun j _ => (fun _ => rfl) j) ((fun _ => rfl) 1) (fun j _ _ => (fun _ => rfl) j) (fun j _ _ => (fun _ => rfl) j) | (exfalso; omega)) (by first | exact hI | exact LWL_k hd7 hM (fun j _ => (fun _ => rfl) j) (fun j _ => (fun _ => rfl) j) (fun j _ => (fun _ => rfl) j) (fun j _ _ => (fun _ => rfl) j) | (exfalso; omega)) (by first | exact hI | exact LWL_k hd8 hM2 (fun j _ => (fun _ => rfl) j) (fun j _ => (fun _ => rfl) j) (fun j _ => (fun _ => rfl) j) (fun j _ _ => (fun _ => rfl) j) | (exfalso; omega)) (by first | exact hI | exact CHL_k hd9 hM (fun j _ => (fun _ => rfl) j) (by omega) (fun j _ _ => (fun _ => rfl) j) | (exfalso; omega)) (by first | exact hI | exact CHL_k hd10 hM2 (fun j _ => (fun _ => rfl) j) (by omega) (fun j _ _ => (fun _ => rfl) j) | (exfalso; omega))
    · skip
      refine go_toq PM267 (k := 2) (pc' := 1435) (L' := [some (.inr (.inr (some 3000))), some (.inr (.inr (some 0))), some (.inr (.inr (some 79))), some (.inl i)]) (st' := []) (w' := (SH, dt)) rfl ?_
      exact K dt hI hM hM2 hk0 hk1 hk2 hk3 hk4 hk5 hk6 hk7 hk8 hk9 hk10 hk11 hk12 hk13 hk14 hk15 (by first | exact hI | exact TPL_k hd0 (fun _ => rfl) (fun _ => rfl) (by omega) | (exfalso; omega)) (by first | exact hI | exact SCL_k hd1 hM (fun j _ => (fun _ => rfl) j) (fun j _ => (fun _ => rfl) j) (fun j _ _ => (fun _ => rfl) j) | (exfalso; omega)) (by first | exact hI | exact SCL_k hd2 hM2 (fun j _ => (fun _ => rfl) j) (fun j _ => (fun _ => rfl) j) (fun j _ _ => (fun _ => rfl) j) | (exfalso; omega)) (by first | exact hI | exact QRL_k hd3 hM (fun j _ => (fun _ => rfl) j) ((fun _ => rfl) 1) (fun j _ _ => (fun _ => rfl) j) | (exfalso; omega)) (by first | exact hI | exact QRL_k hd4 hM2 (fun j _ => (fun _ => rfl) j) ((fun _ => rfl) 1) (fun j _ _ => (fun _ => rfl) j) | (exfalso; omega)) (by first | exact hI | exact SDL_k hd5 hM (fun j _ => (fun _ => rfl) j) ((fun _ => rfl) 1) (fun j _ _ => (fun _ => rfl) j) (fun j _ _ => (fun _ => rfl) j) | (exfalso; omega)) (by first | exact hI | exact SDL_k hd6 hM2 (fun j _ => (fun _ => rfl) j) ((fun _ => rfl) 1) (fun j _ _ => (fun _ => rfl) j) (fun j _ _ => (fun _ => rfl) j) | (exfalso; omega)) (by first | exact hI | exact LWL_k hd7 hM (fun j _ => (fun _ => rfl) j) (fun j _ => (fun _ => rfl) j) (fun j _ => (fun _ => rfl) j) (fun j _ _ => (fun _ => rfl) j) | (exfalso; omega)) (by first | exact hI | exact LWL_k hd8 hM2 (fun j _ => (fun _ => rfl) j) (fun j _ => (fun _ => rfl) j) (fun j _ => (fun _ => rfl) j) (fun j _ _ => (fun _ => rfl) j) | (exfalso; omega)) (by first | exact hI | exact CHL_k hd9 hM (fun j _ => (fun _ => rfl) j) (by omega) (fun j _ _ => (fun _ => rfl) j) | (exfalso; omega)) (by first | exact hI | exact CHL_k hd10 hM2 (fun j _ => (fun _ => rfl) j) (by omega) (fun j _ _ => (fun _ => rfl) j) | (exfalso; omega))
    · skip
      refine go_toq PM267 (k := 2) (pc' := 1435) (L' := [some (.inr (.inr (some 3000))), some (.inr (.inr (some 0))), some (.inr (.inr (some 79))), some (.inl i)]) (st' := []) (w' := (SH, dt)) rfl ?_
      exact K dt hI hM hM2 hk0 hk1 hk2 hk3 hk4 hk5 hk6 hk7 hk8 hk9 hk10 hk11 hk12 hk13 hk14 hk15 (by first | exact hI | exact TPL_k hd0 (fun _ => rfl) (fun _ => rfl) (by omega) | (exfalso; omega)) (by first | exact hI | exact SCL_k hd1 hM (fun j _ => (fun _ => rfl) j) (fun j _ => (fun _ => rfl) j) (fun j _ _ => (fun _ => rfl) j) | (exfalso; omega)) (by first | exact hI | exact SCL_k hd2 hM2 (fun j _ => (fun _ => rfl) j) (fun j _ => (fun _ => rfl) j) (fun j _ _ => (fun _ => rfl) j) | (exfalso; omega)) (by first | exact hI | exact QRL_k hd3 hM (fun j _ => (fun _ => rfl) j) ((fun _ => rfl) 1) (fun j _ _ => (fun _ => rfl) j) | (exfalso; omega)) (by first | exact hI | exact QRL_k hd4 hM2 (fun j _ => (fun _ => rfl) j) ((fun _ => rfl) 1) (fun j _ _ => (fun _ => rfl) j) | (exfalso; omega)) (by first | exact hI | exact SDL_k hd5 hM (fun j _ => (fun _ => rfl) j) ((fun _ => rfl) 1) (fun j _ _ => (fun _ => rfl) j) (fun j _ _ => (fun _ => rfl) j) | (exfalso; omega)) (by first | exact hI | exact SDL_k hd6 hM2 (fun j _ => (fun _ => rfl) j) ((fun _ => rfl) 1) (fun j _ _ => (fun _ => rfl) j) (fun j _ _ => (fun _ => rfl) j) | (exfalso; omega)) (by first | exact hI | exact LWL_k hd7 hM (fun j _ => (fun _ => rfl) j) (fun j _ => (fun _ => rfl) j) (fun j _ => (fun _ => rfl) j) (fun j _ _ => (fun _ => rfl) j) | (exfalso; omega)) (by first | exact hI | exact LWL_k hd8 hM2 (fun j _ => (fun _ => rfl) j) (fun j _ => (fun _ => rfl) j) (fun j _ => (fun _ => rfl) j) (fun j _ _ => (fun _ => rfl) j) | (exfalso; omega)) (by first | exact hI | exact CHL_k hd9 hM (fun j _ => (fun _ => rfl) j) (by omega) (fun j _ _ => (fun _ => rfl) j) | (exfalso; omega)) (by first | exact hI | exact CHL_k hd10 hM2 (fun j _ => (fun _ => rfl) j) (by omega) (fun j _ _ => (fun _ => rfl) j) | (exfalso; omega))
    · skip
      refine go_toq PM267 (k := 2) (pc' := 1435) (L' := [some (.inr (.inr (some 3000))), some (.inr (.inr (some 0))), some (.inr (.inr (some 79))), some (.inl i)]) (st' := []) (w' := (SH, dt)) rfl ?_
      exact K dt hI hM hM2 hk0 hk1 hk2 hk3 hk4 hk5 hk6 hk7 hk8 hk9 hk10 hk11 hk12 hk13 hk14 hk15 (by first | exact hI | exact TPL_k hd0 (fun _ => rfl) (fun _ => rfl) (by omega) | (exfalso; omega)) (by first | exact hI | exact SCL_k hd1 hM (fun j _ => (fun _ => rfl) j) (fun j _ => (fun _ => rfl) j) (fun j _ _ => (fun _ => rfl) j) | (exfalso; omega)) (by first | exact hI | exact SCL_k hd2 hM2 (fun j _ => (fun _ => rfl) j) (fun j _ => (fun _ => rfl) j) (fun j _ _ => (fun _ => rfl) j) | (exfalso; omega)) (by first | exact hI | exact QRL_k hd3 hM (fun j _ => (fun _ => rfl) j) ((fun _ => rfl) 1) (fun j _ _ => (fun _ => rfl) j) | (exfalso; omega)) (by first | exact hI | exact QRL_k hd4 hM2 (fun j _ => (fun _ => rfl) j) ((fun _ => rfl) 1) (fun j _ _ => (fun _ => rfl) j) | (exfalso; omega)) (by first | exact hI | exact SDL_k hd5 hM (fun j _ => (fun _ => rfl) j) ((fun _ => rfl) 1) (fun j _ _ => (fun _ => rfl) j) (fun j _ _ => (fun _ => rfl) j) | (exfalso; omega)) (by first | exact hI | exact SDL_k hd6 hM2 (fun j _ => (fun _ => rfl) j) ((fun _ => rfl) 1) (fun j _ _ => (fun _ => rfl) j) (fun j _ _ => (fun _ => rfl) j) | (exfalso; omega)) (by first | exact hI | exact LWL_k hd7 hM (fun j _ => (fun _ => rfl) j) (fun j _ => (fun _ => rfl) j) (fun j _ => (fun _ => rfl) j) (fun j _ _ => (fun _ => rfl) j) | (exfalso; omega)) (by first | exact hI | exact LWL_k hd8 hM2 (fun j _ => (fun _ => rfl) j) (fun j _ => (fun _ => rfl) j) (fun j _ => (fun _ => rfl) j) (fun j _ _ => (fun _ => rfl) j) | (exfalso; omega)) (by first | exact hI | exact CHL_k hd9 hM (fun j _ => (fun _ => rfl) j) (by omega) (fun j _ _ => (fun _ => rfl) j) | (exfalso; omega)) (by first | exact hI | exact CHL_k hd10 hM2 (fun j _ => (fun _ => rfl) j) (by omega) (fun j _ _ => (fun _ => rfl) j) | (exfalso; omega))
    · skip
      obtain ⟨h3_0, h3_1⟩ := h3
      replace h3_1 := hid h3_1
      refine go_toq PM267 (k := 2) (pc' := 1435) (L' := [some (.inr (.inr (some 3000))), some (.inr (.inr (some 0))), some (.inr (.inr (some 79))), some (.inl i)]) (st' := []) (w' := (SH, dt)) rfl ?_
      exact K dt hI hM hM2 hk0 hk1 hk2 hk3 hk4 hk5 hk6 hk7 hk8 hk9 hk10 hk11 hk12 hk13 hk14 hk15 (by first | exact hI | exact TPL_k hd0 (fun _ => rfl) (fun _ => rfl) (by (first | omega | (have z0_ := unhid h3_1; omega))) | (exfalso; (first | omega | (have z0_ := unhid h3_1; omega)))) (by first | exact hI | exact SCL_k hd1 hM (fun j _ => (fun _ => rfl) j) (fun j _ => (fun _ => rfl) j) (fun j _ _ => (fun _ => rfl) j) | (exfalso; (first | omega | (have z0_ := unhid h3_1; omega)))) (by first | exact hI | exact SCL_k hd2 hM2 (fun j _ => (fun _ => rfl) j) (fun j _ => (fun _ => rfl) j) (fun j _ _ => (fun _ => rfl) j) | (exfalso; (first | omega | (have z0_ := unhid h3_1; omega)))) (by first | exact hI | exact QRL_k hd3 hM (fun j _ => (fun _ => rfl) j) ((fun _ => rfl) 1) (fun j _ _ => (fun _ => rfl) j) | (exfalso; (first | omega | (have z0_ := unhid h3_1; omega)))) (by first | exact hI | exact QRL_k hd4 hM2 (fun j _ => (fun _ => rfl) j) ((fun _ => rfl) 1) (fun j _ _ => (fun _ => rfl) j) | (exfalso; (first | omega | (have z0_ := unhid h3_1; omega)))) (by first | exact hI | exact SDL_k hd5 hM (fun j _ => (fun _ => rfl) j) ((fun _ => rfl) 1) (fun j _ _ => (fun _ => rfl) j) (fun j _ _ => (fun _ => rfl) j) | (exfalso; (first | omega | (have z0_ := unhid h3_1; omega)))) (by first | exact hI | exact SDL_k hd6 hM2 (fun j _ => (fun _ => rfl) j) ((fun _ => rfl) 1) (fun j _ _ => (fun _ => rfl) j) (fun j _ _ => (fun _ => rfl) j) | (exfalso; (first | omega | (have z0_ := unhid h3_1; omega)))) (by first | exact hI | exact LWL_k hd7 hM (fun j _ => (fun _ => rfl) j) (fun j _ => (fun _ => rfl) j) (fun j _ => (fun _ => rfl) j) (fun j _ _ => (fun _ => rfl) j) | (exfalso; (first | omega | (have z0_ := unhid h3_1; omega)))) (by first | exact hI | exact LWL_k hd8 hM2 (fun j _ => (fun _ => rfl) j) (fun j _ => (fun _ => rfl) j) (fun j _ => (fun _ => rfl) j) (fun j _ _ => (fun _ => rfl) j) | (exfalso; (first | omega | (have z0_ := unhid h3_1; omega)))) (by first | exact hI | exact CHL_k hd9 hM (fun j _ => (fun _ => rfl) j) (by (first | omega | (have z0_ := unhid h3_1; omega))) (fun j _ _ => (fun _ => rfl) j) | (exfalso; (first | omega | (have z0_ := unhid h3_1; omega)))) (by first | exact hI | exact CHL_k hd10 hM2 (fun j _ => (fun _ => rfl) j) (by (first | omega | (have z0_ := unhid h3_1; omega))) (fun j _ _ => (fun _ => rfl) j) | (exfalso; (first | omega | (have z0_ := unhid h3_1; omega))))
    · skip
      obtain ⟨h3_0, h3_1⟩ := h3
      refine go_toq PM267 (k := 2) (pc' := 1435) (L' := [some (.inr (.inr (some 3000))), some (.inr (.inr (some 0))), some (.inr (.inr (some 79))), some (.inl i)]) (st' := []) (w' := (SH, dt)) rfl ?_
      exact K dt hI hM hM2 hk0 hk1 hk2 hk3 hk4 hk5 hk6 hk7 hk8 hk9 hk10 hk11 hk12 hk13 hk14 hk15 (by first | exact hI | exact TPL_k hd0 (fun _ => rfl) (fun _ => rfl) (by omega) | (exfalso; omega)) (by first | exact hI | exact SCL_k hd1 hM (fun j _ => (fun _ => rfl) j) (fun j _ => (fun _ => rfl) j) (fun j _ _ => (fun _ => rfl) j) | (exfalso; omega)) (by first | exact hI | exact SCL_k hd2 hM2 (fun j _ => (fun _ => rfl) j) (fun j _ => (fun _ => rfl) j) (fun j _ _ => (fun _ => rfl) j) | (exfalso; omega)) (by first | exact hI | exact QRL_k hd3 hM (fun j _ => (fun _ => rfl) j) ((fun _ => rfl) 1) (fun j _ _ => (fun _ => rfl) j) | (exfalso; omega)) (by first | exact hI | exact QRL_k hd4 hM2 (fun j _ => (fun _ => rfl) j) ((fun _ => rfl) 1) (fun j _ _ => (fun _ => rfl) j) | (exfalso; omega)) (by first | exact hI | exact SDL_k hd5 hM (fun j _ => (fun _ => rfl) j) ((fun _ => rfl) 1) (fun j _ _ => (fun _ => rfl) j) (fun j _ _ => (fun _ => rfl) j) | (exfalso; omega)) (by first | exact hI | exact SDL_k hd6 hM2 (fun j _ => (fun _ => rfl) j) ((fun _ => rfl) 1) (fun j _ _ => (fun _ => rfl) j) (fun j _ _ => (fun _ => rfl) j) | (exfalso; omega)) (by first | exact hI | exact LWL_k hd7 hM (fun j _ => (fun _ => rfl) j) (fun j _ => (fun _ => rfl) j) (fun j _ => (fun _ => rfl) j) (fun j _ _ => (fun _ => rfl) j) | (exfalso; omega)) (by first | exact hI | exact LWL_k hd8 hM2 (fun j _ => (fun _ => rfl) j) (fun j _ => (fun _ => rfl) j) (fun j _ => (fun _ => rfl) j) (fun j _ _ => (fun _ => rfl) j) | (exfalso; omega)) (by first | exact hI | exact CHL_k hd9 hM (fun j _ => (fun _ => rfl) j) (by omega) (fun j _ _ => (fun _ => rfl) j) | (exfalso; omega)) (by first | exact hI | exact CHL_k hd10 hM2 (fun j _ => (fun _ => rfl) j) (by omega) (fun j _ _ => (fun _ => rfl) j) | (exfalso; omega))
    · skip
      refine go_toq PM267 (k := 2) (pc' := 1435) (L' := [some (.inr (.inr (some 3000))), some (.inr (.inr (some 0))), some (.inr (.inr (some 79))), some (.inl i)]) (st' := []) (w' := (SH, dt)) rfl ?_
      exact K dt hI hM hM2 hk0 hk1 hk2 hk3 hk4 hk5 hk6 hk7 hk8 hk9 hk10 hk11 hk12 hk13 hk14 hk15 (by first | exact hI | exact TPL_k hd0 (fun _ => rfl) (fun _ => rfl) (by omega) | (exfalso; omega)) (by first | exact hI | exact SCL_k hd1 hM (fun j _ => (fun _ => rfl) j) (fun j _ => (fun _ => rfl) j) (fun j _ _ => (fun _ => rfl) j) | (exfalso; omega)) (by first | exact hI | exact SCL_k hd2 hM2 (fun j _ => (fun _ => rfl) j) (fun j _ => (fun _ => rfl) j) (fun j _ _ => (fun _ => rfl) j) | (exfalso; omega)) (by first | exact hI | exact QRL_k hd3 hM (fun j _ => (fun _ => rfl) j) ((fun _ => rfl) 1) (fun j _ _ => (fun _ => rfl) j) | (exfalso; omega)) (by first | exact hI | exact QRL_k hd4 hM2 (fun j _ => (fun _ => rfl) j) ((fun _ => rfl) 1) (fun j _ _ => (fun _ => rfl) j) | (exfalso; omega)) (by first | exact hI | exact SDL_k hd5 hM (fun j _ => (fun _ => rfl) j) ((fun _ => rfl) 1) (fun j _ _ => (fun _ => rfl) j) (fun j _ _ => (fun _ => rfl) j) | (exfalso; omega)) (by first | exact hI | exact SDL_k hd6 hM2 (fun j _ => (fun _ => rfl) j) ((fun _ => rfl) 1) (fun j _ _ => (fun _ => rfl) j) (fun j _ _ => (fun _ => rfl) j) | (exfalso; omega)) (by first | exact hI | exact LWL_k hd7 hM (fun j _ => (fun _ => rfl) j) (fun j _ => (fun _ => rfl) j) (fun j _ => (fun _ => rfl) j) (fun j _ _ => (fun _ => rfl) j) | (exfalso; omega)) (by first | exact hI | exact LWL_k hd8 hM2 (fun j _ => (fun _ => rfl) j) (fun j _ => (fun _ => rfl) j) (fun j _ => (fun _ => rfl) j) (fun j _ _ => (fun _ => rfl) j) | (exfalso; omega)) (by first | exact hI | exact CHL_k hd9 hM (fun j _ => (fun _ => rfl) j) (by omega) (fun j _ _ => (fun _ => rfl) j) | (exfalso; omega)) (by first | exact hI | exact CHL_k hd10 hM2 (fun j _ => (fun _ => rfl) j) (by omega) (fun j _ _ => (fun _ => rfl) j) | (exfalso; omega))
  · skip
    refine go_toq PM267 (k := 6) (pc' := 1427) (L' := [some (.inr (.inr (some 3000))), some (.inr (.inr (some 0))), some (.inr (.inr (some 79))), some (.inl i)]) (st' := [.inl (i + 1), .inr (.inr (some 3000)), .inr (.inr (some 79))]) (w' := (SH, dt)) rfl ?_
    refine go_smpq PM267 (L' := [some (.inr (.inr (some 3000))), some (.inr (.inr (some 0))), some (.inr (.inr (some 79))), some (.inl i)]) (st' := [.inl ((xs ((i + 1).toNat)).toInt), .inr (.inr (some 79))]) (w' := (SH, dt)) rfl rfl (s_iald (n := L) (f := fun j => (xs j).toInt) (am_scr hLL) ⟨by omega, by omega⟩) ?_
    refine go_callq PM267 PM248 (Q' := _) rfl rfl rfl rfl (sp_X6_look L xs sio (d + 38) dt hI  ((xs ((i + 1).toNat)).toInt) ⟨by omega, by omega⟩ ) ?_
    rintro _ _ ⟨rfl, h4⟩
    refine ⟨rfl, ?_⟩
    rcases h4 with ⟨rfl, h4⟩ | ⟨rfl, h4⟩ | ⟨rfl, h4⟩ | ⟨rfl, h4⟩ | ⟨rfl, h4⟩ | ⟨rfl, h4⟩ | ⟨rfl, h4⟩ | ⟨rfl, h4⟩ | ⟨rfl, h4⟩
    · skip
      refine go_toq PM267 (k := 2) (pc' := 1435) (L' := [some (.inr (.inr (some 3000))), some (.inr (.inr (some 0))), some (.inr (.inr (some 79))), some (.inl i)]) (st' := []) (w' := (SH, dt)) rfl ?_
      exact K dt hI hM hM2 hk0 hk1 hk2 hk3 hk4 hk5 hk6 hk7 hk8 hk9 hk10 hk11 hk12 hk13 hk14 hk15 (by first | exact hI | exact TPL_k hd0 (fun _ => rfl) (fun _ => rfl) (by omega) | (exfalso; omega)) (by first | exact hI | exact SCL_k hd1 hM (fun j _ => (fun _ => rfl) j) (fun j _ => (fun _ => rfl) j) (fun j _ _ => (fun _ => rfl) j) | (exfalso; omega)) (by first | exact hI | exact SCL_k hd2 hM2 (fun j _ => (fun _ => rfl) j) (fun j _ => (fun _ => rfl) j) (fun j _ _ => (fun _ => rfl) j) | (exfalso; omega)) (by first | exact hI | exact QRL_k hd3 hM (fun j _ => (fun _ => rfl) j) ((fun _ => rfl) 1) (fun j _ _ => (fun _ => rfl) j) | (exfalso; omega)) (by first | exact hI | exact QRL_k hd4 hM2 (fun j _ => (fun _ => rfl) j) ((fun _ => rfl) 1) (fun j _ _ => (fun _ => rfl) j) | (exfalso; omega)) (by first | exact hI | exact SDL_k hd5 hM (fun j _ => (fun _ => rfl) j) ((fun _ => rfl) 1) (fun j _ _ => (fun _ => rfl) j) (fun j _ _ => (fun _ => rfl) j) | (exfalso; omega)) (by first | exact hI | exact SDL_k hd6 hM2 (fun j _ => (fun _ => rfl) j) ((fun _ => rfl) 1) (fun j _ _ => (fun _ => rfl) j) (fun j _ _ => (fun _ => rfl) j) | (exfalso; omega)) (by first | exact hI | exact LWL_k hd7 hM (fun j _ => (fun _ => rfl) j) (fun j _ => (fun _ => rfl) j) (fun j _ => (fun _ => rfl) j) (fun j _ _ => (fun _ => rfl) j) | (exfalso; omega)) (by first | exact hI | exact LWL_k hd8 hM2 (fun j _ => (fun _ => rfl) j) (fun j _ => (fun _ => rfl) j) (fun j _ => (fun _ => rfl) j) (fun j _ _ => (fun _ => rfl) j) | (exfalso; omega)) (by first | exact hI | exact CHL_k hd9 hM (fun j _ => (fun _ => rfl) j) (by omega) (fun j _ _ => (fun _ => rfl) j) | (exfalso; omega)) (by first | exact hI | exact CHL_k hd10 hM2 (fun j _ => (fun _ => rfl) j) (by omega) (fun j _ _ => (fun _ => rfl) j) | (exfalso; omega))
    · skip
      refine go_toq PM267 (k := 2) (pc' := 1435) (L' := [some (.inr (.inr (some 3000))), some (.inr (.inr (some 0))), some (.inr (.inr (some 79))), some (.inl i)]) (st' := []) (w' := (SH, dt)) rfl ?_
      exact K dt hI hM hM2 hk0 hk1 hk2 hk3 hk4 hk5 hk6 hk7 hk8 hk9 hk10 hk11 hk12 hk13 hk14 hk15 (by first | exact hI | exact TPL_k hd0 (fun _ => rfl) (fun _ => rfl) (by omega) | (exfalso; omega)) (by first | exact hI | exact SCL_k hd1 hM (fun j _ => (fun _ => rfl) j) (fun j _ => (fun _ => rfl) j) (fun j _ _ => (fun _ => rfl) j) | (exfalso; omega)) (by first | exact hI | exact SCL_k hd2 hM2 (fun j _ => (fun _ => rfl) j) (fun j _ => (fun _ => rfl) j) (fun j _ _ => (fun _ => rfl) j) | (exfalso; omega)) (by first | exact hI | exact QRL_k hd3 hM (fun j _ => (fun _ => rfl) j) ((fun _ => rfl) 1) (fun j _ _ => (fun _ => rfl) j) | (exfalso; omega)) (by first | exact hI | exact QRL_k hd4 hM2 (fun j _ => (fun _ => rfl) j) ((fun _ => rfl) 1) (fun j _ _ => (fun _ => rfl) j) | (exfalso; omega)) (by first | exact hI | exact SDL_k hd5 hM (fun j _ => (fun _ => rfl) j) ((fun _ => rfl) 1) (fun j _ _ => (fun _ => rfl) j) (fun j _ _ => (fun _ => rfl) j) | (exfalso; omega)) (by first | exact hI | exact SDL_k hd6 hM2 (fun j _ => (fun _ => rfl) j) ((fun _ => rfl) 1) (fun j _ _ => (fun _ => rfl) j) (fun j _ _ => (fun _ => rfl) j) | (exfalso; omega)) (by first | exact hI | exact LWL_k hd7 hM (fun j _ => (fun _ => rfl) j) (fun j _ => (fun _ => rfl) j) (fun j _ => (fun _ => rfl) j) (fun j _ _ => (fun _ => rfl) j) | (exfalso; omega)) (by first | exact hI | exact LWL_k hd8 hM2 (fun j _ => (fun _ => rfl) j) (fun j _ => (fun _ => rfl) j) (fun j _ => (fun _ => rfl) j) (fun j _ _ => (fun _ => rfl) j) | (exfalso; omega)) (by first | exact hI | exact CHL_k hd9 hM (fun j _ => (fun _ => rfl) j) (by omega) (fun j _ _ => (fun _ => rfl) j) | (exfalso; omega)) (by first | exact hI | exact CHL_k hd10 hM2 (fun j _ => (fun _ => rfl) j) (by omega) (fun j _ _ => (fun _ => rfl) j) | (exfalso; omega))
    · skip
      refine go_toq PM267 (k := 2) (pc' := 1435) (L' := [some (.inr (.inr (some 3000))), some (.inr (.inr (some 0))), some (.inr (.inr (some 79))), some (.inl i)]) (st' := []) (w' := (SH, dt)) rfl ?_
      exact K dt hI hM hM2 hk0 hk1 hk2 hk3 hk4 hk5 hk6 hk7 hk8 hk9 hk10 hk11 hk12 hk13 hk14 hk15 (by first | exact hI | exact TPL_k hd0 (fun _ => rfl) (fun _ => rfl) (by omega) | (exfalso; omega)) (by first | exact hI | exact SCL_k hd1 hM (fun j _ => (fun _ => rfl) j) (fun j _ => (fun _ => rfl) j) (fun j _ _ => (fun _ => rfl) j) | (exfalso; omega)) (by first | exact hI | exact SCL_k hd2 hM2 (fun j _ => (fun _ => rfl) j) (fun j _ => (fun _ => rfl) j) (fun j _ _ => (fun _ => rfl) j) | (exfalso; omega)) (by first | exact hI | exact QRL_k hd3 hM (fun j _ => (fun _ => rfl) j) ((fun _ => rfl) 1) (fun j _ _ => (fun _ => rfl) j) | (exfalso; omega)) (by first | exact hI | exact QRL_k hd4 hM2 (fun j _ => (fun _ => rfl) j) ((fun _ => rfl) 1) (fun j _ _ => (fun _ => rfl) j) | (exfalso; omega)) (by first | exact hI | exact SDL_k hd5 hM (fun j _ => (fun _ => rfl) j) ((fun _ => rfl) 1) (fun j _ _ => (fun _ => rfl) j) (fun j _ _ => (fun _ => rfl) j) | (exfalso; omega)) (by first | exact hI | exact SDL_k hd6 hM2 (fun j _ => (fun _ => rfl) j) ((fun _ => rfl) 1) (fun j _ _ => (fun _ => rfl) j) (fun j _ _ => (fun _ => rfl) j) | (exfalso; omega)) (by first | exact hI | exact LWL_k hd7 hM (fun j _ => (fun _ => rfl) j) (fun j _ => (fun _ => rfl) j) (fun j _ => (fun _ => rfl) j) (fun j _ _ => (fun _ => rfl) j) | (exfalso; omega)) (by first | exact hI | exact LWL_k hd8 hM2 (fun j _ => (fun _ => rfl) j) (fun j _ => (fun _ => rfl) j) (fun j _ => (fun _ => rfl) j) (fun j _ _ => (fun _ => rfl) j) | (exfalso; omega)) (by first | exact hI | exact CHL_k hd9 hM (fun j _ => (fun _ => rfl) j) (by omega) (fun j _ _ => (fun _ => rfl) j) | (exfalso; omega)) (by first | exact hI | exact CHL_k hd10 hM2 (fun j _ => (fun _ => rfl) j) (by omega) (fun j _ _ => (fun _ => rfl) j) | (exfalso; omega))
    · skip
      refine go_toq PM267 (k := 2) (pc' := 1435) (L' := [some (.inr (.inr (some 3000))), some (.inr (.inr (some 0))), some (.inr (.inr (some 79))), some (.inl i)]) (st' := []) (w' := (SH, dt)) rfl ?_
      exact K dt hI hM hM2 hk0 hk1 hk2 hk3 hk4 hk5 hk6 hk7 hk8 hk9 hk10 hk11 hk12 hk13 hk14 hk15 (by first | exact hI | exact TPL_k hd0 (fun _ => rfl) (fun _ => rfl) (by omega) | (exfalso; omega)) (by first | exact hI | exact SCL_k hd1 hM (fun j _ => (fun _ => rfl) j) (fun j _ => (fun _ => rfl) j) (fun j _ _ => (fun _ => rfl) j) | (exfalso; omega)) (by first | exact hI | exact SCL_k hd2 hM2 (fun j _ => (fun _ => rfl) j) (fun j _ => (fun _ => rfl) j) (fun j _ _ => (fun _ => rfl) j) | (exfalso; omega)) (by first | exact hI | exact QRL_k hd3 hM (fun j _ => (fun _ => rfl) j) ((fun _ => rfl) 1) (fun j _ _ => (fun _ => rfl) j) | (exfalso; omega)) (by first | exact hI | exact QRL_k hd4 hM2 (fun j _ => (fun _ => rfl) j) ((fun _ => rfl) 1) (fun j _ _ => (fun _ => rfl) j) | (exfalso; omega)) (by first | exact hI | exact SDL_k hd5 hM (fun j _ => (fun _ => rfl) j) ((fun _ => rfl) 1) (fun j _ _ => (fun _ => rfl) j) (fun j _ _ => (fun _ => rfl) j) | (exfalso; omega)) (by first | exact hI | exact SDL_k hd6 hM2 (fun j _ => (fun _ => rfl) j) ((fun _ => rfl) 1) (fun j _ _ => (fun _ => rfl) j) (fun j _ _ => (fun _ => rfl) j) | (exfalso; omega)) (by first | exact hI | exact LWL_k hd7 hM (fun j _ => (fun _ => rfl) j) (fun j _ => (fun _ => rfl) j) (fun j _ => (fun _ => rfl) j) (fun j _ _ => (fun _ => rfl) j) | (exfalso; omega)) (by first | exact hI | exact LWL_k hd8 hM2 (fun j _ => (fun _ => rfl) j) (fun j _ => (fun _ => rfl) j) (fun j _ => (fun _ => rfl) j) (fun j _ _ => (fun _ => rfl) j) | (exfalso; omega)) (by first | exact hI | exact CHL_k hd9 hM (fun j _ => (fun _ => rfl) j) (by omega) (fun j _ _ => (fun _ => rfl) j) | (exfalso; omega)) (by first | exact hI | exact CHL_k hd10 hM2 (fun j _ => (fun _ => rfl) j) (by omega) (fun j _ _ => (fun _ => rfl) j) | (exfalso; omega))
    · skip
      refine go_toq PM267 (k := 2) (pc' := 1435) (L' := [some (.inr (.inr (some 3000))), some (.inr (.inr (some 0))), some (.inr (.inr (some 79))), some (.inl i)]) (st' := []) (w' := (SH, dt)) rfl ?_
      exact K dt hI hM hM2 hk0 hk1 hk2 hk3 hk4 hk5 hk6 hk7 hk8 hk9 hk10 hk11 hk12 hk13 hk14 hk15 (by first | exact hI | exact TPL_k hd0 (fun _ => rfl) (fun _ => rfl) (by omega) | (exfalso; omega)) (by first | exact hI | exact SCL_k hd1 hM (fun j _ => (fun _ => rfl) j) (fun j _ => (fun _ => rfl) j) (fun j _ _ => (fun _ => rfl) j) | (exfalso; omega)) (by first | exact hI | exact SCL_k hd2 hM2 (fun j _ => (fun _ => rfl) j) (fun j _ => (fun _ => rfl) j) (fun j _ _ => (fun _ => rfl) j) | (exfalso; omega)) (by first | exact hI | exact QRL_k hd3 hM (fun j _ => (fun _ => rfl) j) ((fun _ => rfl) 1) (fun j _ _ => (fun _ => rfl) j) | (exfalso; omega)) (by first | exact hI | exact QRL_k hd4 hM2 (fun j _ => (fun _ => rfl) j) ((fun _ => rfl) 1) (fun j _ _ => (fun _ => rfl) j) | (exfalso; omega)) (by first | exact hI | exact SDL_k hd5 hM (fun j _ => (fun _ => rfl) j) ((fun _ => rfl) 1) (fun j _ _ => (fun _ => rfl) j) (fun j _ _ => (fun _ => rfl) j) | (exfalso; omega)) (by first | exact hI | exact SDL_k hd6 hM2 (fun j _ => (fun _ => rfl) j) ((fun _ => rfl) 1) (fun j _ _ => (fun _ => rfl) j) (fun j _ _ => (fun _ => rfl) j) | (exfalso; omega)) (by first | exact hI | exact LWL_k hd7 hM (fun j _ => (fun _ => rfl) j) (fun j _ => (fun _ => rfl) j) (fun j _ => (fun _ => rfl) j) (fun j _ _ => (fun _ => rfl) j) | (exfalso; omega)) (by first | exact hI | exact LWL_k hd8 hM2 (fun j _ => (fun _ => rfl) j) (fun j _ => (fun _ => rfl) j) (fun j _ => (fun _ => rfl) j) (fun j _ _ => (fun _ => rfl) j) | (exfalso; omega)) (by first | exact hI | exact CHL_k hd9 hM (fun j _ => (fun _ => rfl) j) (by omega) (fun j _ _ => (fun _ => rfl) j) | (exfalso; omega)) (by first | exact hI | exact CHL_k hd10 hM2 (fun j _ => (fun _ => rfl) j) (by omega) (fun j _ _ => (fun _ => rfl) j) | (exfalso; omega))
    · skip
      refine go_toq PM267 (k := 2) (pc' := 1435) (L' := [some (.inr (.inr (some 3000))), some (.inr (.inr (some 0))), some (.inr (.inr (some 79))), some (.inl i)]) (st' := []) (w' := (SH, dt)) rfl ?_
      exact K dt hI hM hM2 hk0 hk1 hk2 hk3 hk4 hk5 hk6 hk7 hk8 hk9 hk10 hk11 hk12 hk13 hk14 hk15 (by first | exact hI | exact TPL_k hd0 (fun _ => rfl) (fun _ => rfl) (by omega) | (exfalso; omega)) (by first | exact hI | exact SCL_k hd1 hM (fun j _ => (fun _ => rfl) j) (fun j _ => (fun _ => rfl) j) (fun j _ _ => (fun _ => rfl) j) | (exfalso; omega)) (by first | exact hI | exact SCL_k hd2 hM2 (fun j _ => (fun _ => rfl) j) (fun j _ => (fun _ => rfl) j) (fun j _ _ => (fun _ => rfl) j) | (exfalso; omega)) (by first | exact hI | exact QRL_k hd3 hM (fun j _ => (fun _ => rfl) j) ((fun _ => rfl) 1) (fun j _ _ => (fun _ => rfl) j) | (exfalso; omega)) (by first | exact hI | exact QRL_k hd4 hM2 (fun j _ => (fun _ => rfl) j) ((fun _ => rfl) 1) (fun j _ _ => (fun _ => rfl) j) | (exfalso; omega)) (by first | exact hI | exact SDL_k hd5 hM (fun j _ => (fun _ => rfl) j) ((fun _ => rfl) 1) (fun j _ _ => (fun _ => rfl) j) (fun j _ _ => (fun _ => rfl) j) | (exfalso; omega)) (by first | exact hI | exact SDL_k hd6 hM2 (fun j _ => (fun _ => rfl) j) ((fun _ => rfl) 1) (fun j _ _ => (fun _ => rfl) j) (fun j _ _ => (fun _ => rfl) j) | (exfalso; omega)) (by first | exact hI | exact LWL_k hd7 hM (fun j _ => (fun _ => rfl) j) (fun j _ => (fun _ => rfl) j) (fun j _ => (fun _ => rfl) j) (fun j _ _ => (fun _ => rfl) j) | (exfalso; omega)) (by first | exact hI | exact LWL_k hd8 hM2 (fun j _ => (fun _ => rfl) j) (fun j _ => (fun _ => rfl) j) (fun j _ => (fun _ => rfl) j) (fun j _ _ => (fun _ => rfl) j) | (exfalso; omega)) (by first | exact hI | exact CHL_k hd9 hM (fun j _ => (fun _ => rfl) j) (by omega) (fun j _ _ => (fun _ => rfl) j) | (exfalso; omega)) (by first | exact hI | exact CHL_k hd10 hM2 (fun j _ => (fun _ => rfl) j) (by omega) (fun j _ _ => (fun _ => rfl) j) | (exfalso; omega))
    · skip
      obtain ⟨h4_0, h4_1⟩ := h4
      replace h4_1 := hid h4_1
      refine go_toq PM267 (k := 2) (pc' := 1435) (L' := [some (.inr (.inr (some 3000))), some (.inr (.inr (some 0))), some (.inr (.inr (some 79))), some (.inl i)]) (st' := []) (w' := (SH, dt)) rfl ?_
      exact K dt hI hM hM2 hk0 hk1 hk2 hk3 hk4 hk5 hk6 hk7 hk8 hk9 hk10 hk11 hk12 hk13 hk14 hk15 (by first | exact hI | exact TPL_k hd0 (fun _ => rfl) (fun _ => rfl) (by (first | omega | (have z0_ := unhid h4_1; omega))) | (exfalso; (first | omega | (have z0_ := unhid h4_1; omega)))) (by first | exact hI | exact SCL_k hd1 hM (fun j _ => (fun _ => rfl) j) (fun j _ => (fun _ => rfl) j) (fun j _ _ => (fun _ => rfl) j) | (exfalso; (first | omega | (have z0_ := unhid h4_1; omega)))) (by first | exact hI | exact SCL_k hd2 hM2 (fun j _ => (fun _ => rfl) j) (fun j _ => (fun _ => rfl) j) (fun j _ _ => (fun _ => rfl) j) | (exfalso; (first | omega | (have z0_ := unhid h4_1; omega)))) (by first | exact hI | exact QRL_k hd3 hM (fun j _ => (fun _ => rfl) j) ((fun _ => rfl) 1) (fun j _ _ => (fun _ => rfl) j) | (exfalso; (first | omega | (have z0_ := unhid h4_1; omega)))) (by first | exact hI | exact QRL_k hd4 hM2 (fun j _ => (fun _ => rfl) j) ((fun _ => rfl) 1) (fun j _ _ => (fun _ => rfl) j) | (exfalso; (first | omega | (have z0_ := unhid h4_1; omega)))) (by first | exact hI | exact SDL_k hd5 hM (fun j _ => (fun _ => rfl) j) ((fun _ => rfl) 1) (fun j _ _ => (fun _ => rfl) j) (fun j _ _ => (fun _ => rfl) j) | (exfalso; (first | omega | (have z0_ := unhid h4_1; omega)))) (by first | exact hI | exact SDL_k hd6 hM2 (fun j _ => (fun _ => rfl) j) ((fun _ => rfl) 1) (fun j _ _ => (fun _ => rfl) j) (fun j _ _ => (fun _ => rfl) j) | (exfalso; (first | omega | (have z0_ := unhid h4_1; omega)))) (by first | exact hI | exact LWL_k hd7 hM (fun j _ => (fun _ => rfl) j) (fun j _ => (fun _ => rfl) j) (fun j _ => (fun _ => rfl) j) (fun j _ _ => (fun _ => rfl) j) | (exfalso; (first | omega | (have z0_ := unhid h4_1; omega)))) (by first | exact hI | exact LWL_k hd8 hM2 (fun j _ => (fun _ => rfl) j) (fun j _ => (fun _ => rfl) j) (fun j _ => (fun _ => rfl) j) (fun j _ _ => (fun _ => rfl) j) | (exfalso; (first | omega | (have z0_ := unhid h4_1; omega)))) (by first | exact hI | exact CHL_k hd9 hM (fun j _ => (fun _ => rfl) j) (by (first | omega | (have z0_ := unhid h4_1; omega))) (fun j _ _ => (fun _ => rfl) j) | (exfalso; (first | omega | (have z0_ := unhid h4_1; omega)))) (by first | exact hI | exact CHL_k hd10 hM2 (fun j _ => (fun _ => rfl) j) (by (first | omega | (have z0_ := unhid h4_1; omega))) (fun j _ _ => (fun _ => rfl) j) | (exfalso; (first | omega | (have z0_ := unhid h4_1; omega))))
    · skip
      obtain ⟨h4_0, h4_1⟩ := h4
      refine go_toq PM267 (k := 2) (pc' := 1435) (L' := [some (.inr (.inr (some 3000))), some (.inr (.inr (some 0))), some (.inr (.inr (some 79))), some (.inl i)]) (st' := []) (w' := (SH, dt)) rfl ?_
      exact K dt hI hM hM2 hk0 hk1 hk2 hk3 hk4 hk5 hk6 hk7 hk8 hk9 hk10 hk11 hk12 hk13 hk14 hk15 (by first | exact hI | exact TPL_k hd0 (fun _ => rfl) (fun _ => rfl) (by omega) | (exfalso; omega)) (by first | exact hI | exact SCL_k hd1 hM (fun j _ => (fun _ => rfl) j) (fun j _ => (fun _ => rfl) j) (fun j _ _ => (fun _ => rfl) j) | (exfalso; omega)) (by first | exact hI | exact SCL_k hd2 hM2 (fun j _ => (fun _ => rfl) j) (fun j _ => (fun _ => rfl) j) (fun j _ _ => (fun _ => rfl) j) | (exfalso; omega)) (by first | exact hI | exact QRL_k hd3 hM (fun j _ => (fun _ => rfl) j) ((fun _ => rfl) 1) (fun j _ _ => (fun _ => rfl) j) | (exfalso; omega)) (by first | exact hI | exact QRL_k hd4 hM2 (fun j _ => (fun _ => rfl) j) ((fun _ => rfl) 1) (fun j _ _ => (fun _ => rfl) j) | (exfalso; omega)) (by first | exact hI | exact SDL_k hd5 hM (fun j _ => (fun _ => rfl) j) ((fun _ => rfl) 1) (fun j _ _ => (fun _ => rfl) j) (fun j _ _ => (fun _ => rfl) j) | (exfalso; omega)) (by first | exact hI | exact SDL_k hd6 hM2 (fun j _ => (fun _ => rfl) j) ((fun _ => rfl) 1) (fun j _ _ => (fun _ => rfl) j) (fun j _ _ => (fun _ => rfl) j) | (exfalso; omega)) (by first | exact hI | exact LWL_k hd7 hM (fun j _ => (fun _ => rfl) j) (fun j _ => (fun _ => rfl) j) (fun j _ => (fun _ => rfl) j) (fun j _ _ => (fun _ => rfl) j) | (exfalso; omega)) (by first | exact hI | exact LWL_k hd8 hM2 (fun j _ => (fun _ => rfl) j) (fun j _ => (fun _ => rfl) j) (fun j _ => (fun _ => rfl) j) (fun j _ _ => (fun _ => rfl) j) | (exfalso; omega)) (by first | exact hI | exact CHL_k hd9 hM (fun j _ => (fun _ => rfl) j) (by omega) (fun j _ _ => (fun _ => rfl) j) | (exfalso; omega)) (by first | exact hI | exact CHL_k hd10 hM2 (fun j _ => (fun _ => rfl) j) (by omega) (fun j _ _ => (fun _ => rfl) j) | (exfalso; omega))
    · skip
      refine go_toq PM267 (k := 2) (pc' := 1435) (L' := [some (.inr (.inr (some 3000))), some (.inr (.inr (some 0))), some (.inr (.inr (some 79))), some (.inl i)]) (st' := []) (w' := (SH, dt)) rfl ?_
      exact K dt hI hM hM2 hk0 hk1 hk2 hk3 hk4 hk5 hk6 hk7 hk8 hk9 hk10 hk11 hk12 hk13 hk14 hk15 (by first | exact hI | exact TPL_k hd0 (fun _ => rfl) (fun _ => rfl) (by omega) | (exfalso; omega)) (by first | exact hI | exact SCL_k hd1 hM (fun j _ => (fun _ => rfl) j) (fun j _ => (fun _ => rfl) j) (fun j _ _ => (fun _ => rfl) j) | (exfalso; omega)) (by first | exact hI | exact SCL_k hd2 hM2 (fun j _ => (fun _ => rfl) j) (fun j _ => (fun _ => rfl) j) (fun j _ _ => (fun _ => rfl) j) | (exfalso; omega)) (by first | exact hI | exact QRL_k hd3 hM (fun j _ => (fun _ => rfl) j) ((fun _ => rfl) 1) (fun j _ _ => (fun _ => rfl) j) | (exfalso; omega)) (by first | exact hI | exact QRL_k hd4 hM2 (fun j _ => (fun _ => rfl) j) ((fun _ => rfl) 1) (fun j _ _ => (fun _ => rfl) j) | (exfalso; omega)) (by first | exact hI | exact SDL_k hd5 hM (fun j _ => (fun _ => rfl) j) ((fun _ => rfl) 1) (fun j _ _ => (fun _ => rfl) j) (fun j _ _ => (fun _ => rfl) j) | (exfalso; omega)) (by first | exact hI | exact SDL_k hd6 hM2 (fun j _ => (fun _ => rfl) j) ((fun _ => rfl) 1) (fun j _ _ => (fun _ => rfl) j) (fun j _ _ => (fun _ => rfl) j) | (exfalso; omega)) (by first | exact hI | exact LWL_k hd7 hM (fun j _ => (fun _ => rfl) j) (fun j _ => (fun _ => rfl) j) (fun j _ => (fun _ => rfl) j) (fun j _ _ => (fun _ => rfl) j) | (exfalso; omega)) (by first | exact hI | exact LWL_k hd8 hM2 (fun j _ => (fun _ => rfl) j) (fun j _ => (fun _ => rfl) j) (fun j _ => (fun _ => rfl) j) (fun j _ _ => (fun _ => rfl) j) | (exfalso; omega)) (by first | exact hI | exact CHL_k hd9 hM (fun j _ => (fun _ => rfl) j) (by omega) (fun j _ _ => (fun _ => rfl) j) | (exfalso; omega)) (by first | exact hI | exact CHL_k hd10 hM2 (fun j _ => (fun _ => rfl) j) (by omega) (fun j _ _ => (fun _ => rfl) j) | (exfalso; omega))
  · skip
    refine go_toq PM267 (k := 6) (pc' := 1427) (L' := [some (.inr (.inr (some 3000))), some (.inr (.inr (some 0))), some (.inr (.inr (some 79))), some (.inl i)]) (st' := [.inl (i + 1), .inr (.inr (some 3000)), .inr (.inr (some 79))]) (w' := (SH, dt)) rfl ?_
    refine go_smpq PM267 (L' := [some (.inr (.inr (some 3000))), some (.inr (.inr (some 0))), some (.inr (.inr (some 79))), some (.inl i)]) (st' := [.inl ((xs ((i + 1).toNat)).toInt), .inr (.inr (some 79))]) (w' := (SH, dt)) rfl rfl (s_iald (n := L) (f := fun j => (xs j).toInt) (am_scr hLL) ⟨by omega, by omega⟩) ?_
    refine go_callq PM267 PM248 (Q' := _) rfl rfl rfl rfl (sp_X6_look L xs sio (d + 38) dt hI  ((xs ((i + 1).toNat)).toInt) ⟨by omega, by omega⟩ ) ?_
    rintro _ _ ⟨rfl, h5⟩
    refine ⟨rfl, ?_⟩
    rcases h5 with ⟨rfl, h5⟩ | ⟨rfl, h5⟩ | ⟨rfl, h5⟩ | ⟨rfl, h5⟩ | ⟨rfl, h5⟩ | ⟨rfl, h5⟩ | ⟨rfl, h5⟩ | ⟨rfl, h5⟩ | ⟨rfl, h5⟩
    · skip
      refine go_toq PM267 (k := 2) (pc' := 1435) (L' := [some (.inr (.inr (some 3000))), some (.inr (.inr (some 0))), some (.inr (.inr (some 79))), some (.inl i)]) (st' := []) (w' := (SH, dt)) rfl ?_
      exact K dt hI hM hM2 hk0 hk1 hk2 hk3 hk4 hk5 hk6 hk7 hk8 hk9 hk10 hk11 hk12 hk13 hk14 hk15 (by first | exact hI | exact TPL_k hd0 (fun _ => rfl) (fun _ => rfl) (by omega) | (exfalso; omega)) (by first | exact hI | exact SCL_k hd1 hM (fun j _ => (fun _ => rfl) j) (fun j _ => (fun _ => rfl) j) (fun j _ _ => (fun _ => rfl) j) | (exfalso; omega)) (by first | exact hI | exact SCL_k hd2 hM2 (fun j _ => (fun _ => rfl) j) (fun j _ => (fun _ => rfl) j) (fun j _ _ => (fun _ => rfl) j) | (exfalso; omega)) (by first | exact hI | exact QRL_k hd3 hM (fun j _ => (fun _ => rfl) j) ((fun _ => rfl) 1) (fun j _ _ => (fun _ => rfl) j) | (exfalso; omega)) (by first | exact hI | exact QRL_k hd4 hM2 (fun j _ => (fun _ => rfl) j) ((fun _ => rfl) 1) (fun j _ _ => (fun _ => rfl) j) | (exfalso; omega)) (by first | exact hI | exact SDL_k hd5 hM (fun j _ => (fun _ => rfl) j) ((fun _ => rfl) 1) (fun j _ _ => (fun _ => rfl) j) (fun j _ _ => (fun _ => rfl) j) | (exfalso; omega)) (by first | exact hI | exact SDL_k hd6 hM2 (fun j _ => (fun _ => rfl) j) ((fun _ => rfl) 1) (fun j _ _ => (fun _ => rfl) j) (fun j _ _ => (fun _ => rfl) j) | (exfalso; omega)) (by first | exact hI | exact LWL_k hd7 hM (fun j _ => (fun _ => rfl) j) (fun j _ => (fun _ => rfl) j) (fun j _ => (fun _ => rfl) j) (fun j _ _ => (fun _ => rfl) j) | (exfalso; omega)) (by first | exact hI | exact LWL_k hd8 hM2 (fun j _ => (fun _ => rfl) j) (fun j _ => (fun _ => rfl) j) (fun j _ => (fun _ => rfl) j) (fun j _ _ => (fun _ => rfl) j) | (exfalso; omega)) (by first | exact hI | exact CHL_k hd9 hM (fun j _ => (fun _ => rfl) j) (by omega) (fun j _ _ => (fun _ => rfl) j) | (exfalso; omega)) (by first | exact hI | exact CHL_k hd10 hM2 (fun j _ => (fun _ => rfl) j) (by omega) (fun j _ _ => (fun _ => rfl) j) | (exfalso; omega))
    · skip
      refine go_toq PM267 (k := 2) (pc' := 1435) (L' := [some (.inr (.inr (some 3000))), some (.inr (.inr (some 0))), some (.inr (.inr (some 79))), some (.inl i)]) (st' := []) (w' := (SH, dt)) rfl ?_
      exact K dt hI hM hM2 hk0 hk1 hk2 hk3 hk4 hk5 hk6 hk7 hk8 hk9 hk10 hk11 hk12 hk13 hk14 hk15 (by first | exact hI | exact TPL_k hd0 (fun _ => rfl) (fun _ => rfl) (by omega) | (exfalso; omega)) (by first | exact hI | exact SCL_k hd1 hM (fun j _ => (fun _ => rfl) j) (fun j _ => (fun _ => rfl) j) (fun j _ _ => (fun _ => rfl) j) | (exfalso; omega)) (by first | exact hI | exact SCL_k hd2 hM2 (fun j _ => (fun _ => rfl) j) (fun j _ => (fun _ => rfl) j) (fun j _ _ => (fun _ => rfl) j) | (exfalso; omega)) (by first | exact hI | exact QRL_k hd3 hM (fun j _ => (fun _ => rfl) j) ((fun _ => rfl) 1) (fun j _ _ => (fun _ => rfl) j) | (exfalso; omega)) (by first | exact hI | exact QRL_k hd4 hM2 (fun j _ => (fun _ => rfl) j) ((fun _ => rfl) 1) (fun j _ _ => (fun _ => rfl) j) | (exfalso; omega)) (by first | exact hI | exact SDL_k hd5 hM (fun j _ => (fun _ => rfl) j) ((fun _ => rfl) 1) (fun j _ _ => (fun _ => rfl) j) (fun j _ _ => (fun _ => rfl) j) | (exfalso; omega)) (by first | exact hI | exact SDL_k hd6 hM2 (fun j _ => (fun _ => rfl) j) ((fun _ => rfl) 1) (fun j _ _ => (fun _ => rfl) j) (fun j _ _ => (fun _ => rfl) j) | (exfalso; omega)) (by first | exact hI | exact LWL_k hd7 hM (fun j _ => (fun _ => rfl) j) (fun j _ => (fun _ => rfl) j) (fun j _ => (fun _ => rfl) j) (fun j _ _ => (fun _ => rfl) j) | (exfalso; omega)) (by first | exact hI | exact LWL_k hd8 hM2 (fun j _ => (fun _ => rfl) j) (fun j _ => (fun _ => rfl) j) (fun j _ => (fun _ => rfl) j) (fun j _ _ => (fun _ => rfl) j) | (exfalso; omega)) (by first | exact hI | exact CHL_k hd9 hM (fun j _ => (fun _ => rfl) j) (by omega) (fun j _ _ => (fun _ => rfl) j) | (exfalso; omega)) (by first | exact hI | exact CHL_k hd10 hM2 (fun j _ => (fun _ => rfl) j) (by omega) (fun j _ _ => (fun _ => rfl) j) | (exfalso; omega))
    · skip
      refine go_toq PM267 (k := 2) (pc' := 1435) (L' := [some (.inr (.inr (some 3000))), some (.inr (.inr (some 0))), some (.inr (.inr (some 79))), some (.inl i)]) (st' := []) (w' := (SH, dt)) rfl ?_
      exact K dt hI hM hM2 hk0 hk1 hk2 hk3 hk4 hk5 hk6 hk7 hk8 hk9 hk10 hk11 hk12 hk13 hk14 hk15 (by first | exact hI | exact TPL_k hd0 (fun _ => rfl) (fun _ => rfl) (by omega) | (exfalso; omega)) (by first | exact hI | exact SCL_k hd1 hM (fun j _ => (fun _ => rfl) j) (fun j _ => (fun _ => rfl) j) (fun j _ _ => (fun _ => rfl) j) | (exfalso; omega)) (by first | exact hI | exact SCL_k hd2 hM2 (fun j _ => (fun _ => rfl) j) (fun j _ => (fun _ => rfl) j) (fun j _ _ => (fun _ => rfl) j) | (exfalso; omega)) (by first | exact hI | exact QRL_k hd3 hM (fun j _ => (fun _ => rfl) j) ((fun _ => rfl) 1) (fun j _ _ => (fun _ => rfl) j) | (exfalso; omega)) (by first | exact hI | exact QRL_k hd4 hM2 (fun j _ => (fun _ => rfl) j) ((fun _ => rfl) 1) (fun j _ _ => (fun _ => rfl) j) | (exfalso; omega)) (by first | exact hI | exact SDL_k hd5 hM (fun j _ => (fun _ => rfl) j) ((fun _ => rfl) 1) (fun j _ _ => (fun _ => rfl) j) (fun j _ _ => (fun _ => rfl) j) | (exfalso; omega)) (by first | exact hI | exact SDL_k hd6 hM2 (fun j _ => (fun _ => rfl) j) ((fun _ => rfl) 1) (fun j _ _ => (fun _ => rfl) j) (fun j _ _ => (fun _ => rfl) j) | (exfalso; omega)) (by first | exact hI | exact LWL_k hd7 hM (fun j _ => (fun _ => rfl) j) (fun j _ => (fun _ => rfl) j) (fun j _ => (fun _ => rfl) j) (fun j _ _ => (fun _ => rfl) j) | (exfalso; omega)) (by first | exact hI | exact LWL_k hd8 hM2 (fun j _ => (fun _ => rfl) j) (fun j _ => (fun _ => rfl) j) (fun j _ => (fun _ => rfl) j) (fun j _ _ => (fun _ => rfl) j) | (exfalso; omega)) (by first | exact hI | exact CHL_k hd9 hM (fun j _ => (fun _ => rfl) j) (by omega) (fun j _ _ => (fun _ => rfl) j) | (exfalso; omega)) (by first | exact hI | exact CHL_k hd10 hM2 (fun j _ => (fun _ => rfl) j) (by omega) (fun j _ _ => (fun _ => rfl) j) | (exfalso; omega))
    · skip
      refine go_toq PM267 (k := 2) (pc' := 1435) (L' := [some (.inr (.inr (some 3000))), some (.inr (.inr (some 0))), some (.inr (.inr (some 79))), some (.inl i)]) (st' := []) (w' := (SH, dt)) rfl ?_
      exact K dt hI hM hM2 hk0 hk1 hk2 hk3 hk4 hk5 hk6 hk7 hk8 hk9 hk10 hk11 hk12 hk13 hk14 hk15 (by first | exact hI | exact TPL_k hd0 (fun _ => rfl) (fun _ => rfl) (by omega) | (exfalso; omega)) (by first | exact hI | exact SCL_k hd1 hM (fun j _ => (fun _ => rfl) j) (fun j _ => (fun _ => rfl) j) (fun j _ _ => (fun _ => rfl) j) | (exfalso; omega)) (by first | exact hI | exact SCL_k hd2 hM2 (fun j _ => (fun _ => rfl) j) (fun j _ => (fun _ => rfl) j) (fun j _ _ => (fun _ => rfl) j) | (exfalso; omega)) (by first | exact hI | exact QRL_k hd3 hM (fun j _ => (fun _ => rfl) j) ((fun _ => rfl) 1) (fun j _ _ => (fun _ => rfl) j) | (exfalso; omega)) (by first | exact hI | exact QRL_k hd4 hM2 (fun j _ => (fun _ => rfl) j) ((fun _ => rfl) 1) (fun j _ _ => (fun _ => rfl) j) | (exfalso; omega)) (by first | exact hI | exact SDL_k hd5 hM (fun j _ => (fun _ => rfl) j) ((fun _ => rfl) 1) (fun j _ _ => (fun _ => rfl) j) (fun j _ _ => (fun _ => rfl) j) | (exfalso; omega)) (by first | exact hI | exact SDL_k hd6 hM2 (fun j _ => (fun _ => rfl) j) ((fun _ => rfl) 1) (fun j _ _ => (fun _ => rfl) j) (fun j _ _ => (fun _ => rfl) j) | (exfalso; omega)) (by first | exact hI | exact LWL_k hd7 hM (fun j _ => (fun _ => rfl) j) (fun j _ => (fun _ => rfl) j) (fun j _ => (fun _ => rfl) j) (fun j _ _ => (fun _ => rfl) j) | (exfalso; omega)) (by first | exact hI | exact LWL_k hd8 hM2 (fun j _ => (fun _ => rfl) j) (fun j _ => (fun _ => rfl) j) (fun j _ => (fun _ => rfl) j) (fun j _ _ => (fun _ => rfl) j) | (exfalso; omega)) (by first | exact hI | exact CHL_k hd9 hM (fun j _ => (fun _ => rfl) j) (by omega) (fun j _ _ => (fun _ => rfl) j) | (exfalso; omega)) (by first | exact hI | exact CHL_k hd10 hM2 (fun j _ => (fun _ => rfl) j) (by omega) (fun j _ _ => (fun _ => rfl) j) | (exfalso; omega))
    · skip
      refine go_toq PM267 (k := 2) (pc' := 1435) (L' := [some (.inr (.inr (some 3000))), some (.inr (.inr (some 0))), some (.inr (.inr (some 79))), some (.inl i)]) (st' := []) (w' := (SH, dt)) rfl ?_
      exact K dt hI hM hM2 hk0 hk1 hk2 hk3 hk4 hk5 hk6 hk7 hk8 hk9 hk10 hk11 hk12 hk13 hk14 hk15 (by first | exact hI | exact TPL_k hd0 (fun _ => rfl) (fun _ => rfl) (by omega) | (exfalso; omega)) (by first | exact hI | exact SCL_k hd1 hM (fun j _ => (fun _ => rfl) j) (fun j _ => (fun _ => rfl) j) (fun j _ _ => (fun _ => rfl) j) | (exfalso; omega)) (by first | exact hI | exact SCL_k hd2 hM2 (fun j _ => (fun _ => rfl) j) (fun j _ => (fun _ => rfl) j) (fun j _ _ => (fun _ => rfl) j) | (exfalso; omega)) (by first | exact hI | exact QRL_k hd3 hM (fun j _ => (fun _ => rfl) j) ((fun _ => rfl) 1) (fun j _ _ => (fun _ => rfl) j) | (exfalso; omega)) (by first | exact hI | exact QRL_k hd4 hM2 (fun j _ => (fun _ => rfl) j) ((fun _ => rfl) 1) (fun j _ _ => (fun _ => rfl) j) | (exfalso; omega)) (by first | exact hI | exact SDL_k hd5 hM (fun j _ => (fun _ => rfl) j) ((fun _ => rfl) 1) (fun j _ _ => (fun _ => rfl) j) (fun j _ _ => (fun _ => rfl) j) | (exfalso; omega)) (by first | exact hI | exact SDL_k hd6 hM2 (fun j _ => (fun _ => rfl) j) ((fun _ => rfl) 1) (fun j _ _ => (fun _ => rfl) j) (fun j _ _ => (fun _ => rfl) j) | (exfalso; omega)) (by first | exact hI | exact LWL_k hd7 hM (fun j _ => (fun _ => rfl) j) (fun j _ => (fun _ => rfl) j) (fun j _ => (fun _ => rfl) j) (fun j _ _ => (fun _ => rfl) j) | (exfalso; omega)) (by first | exact hI | exact LWL_k hd8 hM2 (fun j _ => (fun _ => rfl) j) (fun j _ => (fun _ => rfl) j) (fun j _ => (fun _ => rfl) j) (fun j _ _ => (fun _ => rfl) j) | (exfalso; omega)) (by first | exact hI | exact CHL_k hd9 hM (fun j _ => (fun _ => rfl) j) (by omega) (fun j _ _ => (fun _ => rfl) j) | (exfalso; omega)) (by first | exact hI | exact CHL_k hd10 hM2 (fun j _ => (fun _ => rfl) j) (by omega) (fun j _ _ => (fun _ => rfl) j) | (exfalso; omega))
    · skip
      refine go_toq PM267 (k := 2) (pc' := 1435) (L' := [some (.inr (.inr (some 3000))), some (.inr (.inr (some 0))), some (.inr (.inr (some 79))), some (.inl i)]) (st' := []) (w' := (SH, dt)) rfl ?_
      exact K dt hI hM hM2 hk0 hk1 hk2 hk3 hk4 hk5 hk6 hk7 hk8 hk9 hk10 hk11 hk12 hk13 hk14 hk15 (by first | exact hI | exact TPL_k hd0 (fun _ => rfl) (fun _ => rfl) (by omega) | (exfalso; omega)) (by first | exact hI | exact SCL_k hd1 hM (fun j _ => (fun _ => rfl) j) (fun j _ => (fun _ => rfl) j) (fun j _ _ => (fun _ => rfl) j) | (exfalso; omega)) (by first | exact hI | exact SCL_k hd2 hM2 (fun j _ => (fun _ => rfl) j) (fun j _ => (fun _ => rfl) j) (fun j _ _ => (fun _ => rfl) j) | (exfalso; omega)) (by first | exact hI | exact QRL_k hd3 hM (fun j _ => (fun _ => rfl) j) ((fun _ => rfl) 1) (fun j _ _ => (fun _ => rfl) j) | (exfalso; omega)) (by first | exact hI | exact QRL_k hd4 hM2 (fun j _ => (fun _ => rfl) j) ((fun _ => rfl) 1) (fun j _ _ => (fun _ => rfl) j) | (exfalso; omega)) (by first | exact hI | exact SDL_k hd5 hM (fun j _ => (fun _ => rfl) j) ((fun _ => rfl) 1) (fun j _ _ => (fun _ => rfl) j) (fun j _ _ => (fun _ => rfl) j) | (exfalso; omega)) (by first | exact hI | exact SDL_k hd6 hM2 (fun j _ => (fun _ => rfl) j) ((fun _ => rfl) 1) (fun j _ _ => (fun _ => rfl) j) (fun j _ _ => (fun _ => rfl) j) | (exfalso; omega)) (by first | exact hI | exact LWL_k hd7 hM (fun j _ => (fun _ => rfl) j) (fun j _ => (fun _ => rfl) j) (fun j _ => (fun _ => rfl) j) (fun j _ _ => (fun _ => rfl) j) | (exfalso; omega)) (by first | exact hI | exact LWL_k hd8 hM2 (fun j _ => (fun _ => rfl) j) (fun j _ => (fun _ => rfl) j) (fun j _ => (fun _ => rfl) j) (fun j _ _ => (fun _ => rfl) j) | (exfalso; omega)) (by first | exact hI | exact CHL_k hd9 hM (fun j _ => (fun _ => rfl) j) (by omega) (fun j _ _ => (fun _ => rfl) j) | (exfalso; omega)) (by first | exact hI | exact CHL_k hd10 hM2 (fun j _ => (fun _ => rfl) j) (by omega) (fun j _ _ => (fun _ => rfl) j) | (exfalso; omega))
    · skip
      obtain ⟨h5_0, h5_1⟩ := h5
      replace h5_1 := hid h5_1
      refine go_toq PM267 (k := 2) (pc' := 1435) (L' := [some (.inr (.inr (some 3000))), some (.inr (.inr (some 0))), some (.inr (.inr (some 79))), some (.inl i)]) (st' := []) (w' := (SH, dt)) rfl ?_
      exact K dt hI hM hM2 hk0 hk1 hk2 hk3 hk4 hk5 hk6 hk7 hk8 hk9 hk10 hk11 hk12 hk13 hk14 hk15 (by first | exact hI | exact TPL_k hd0 (fun _ => rfl) (fun _ => rfl) (by (first | omega | (have z0_ := unhid h5_1; omega))) | (exfalso; (first | omega | (have z0_ := unhid h5_1; omega)))) (by first | exact hI | exact SCL_k hd1 hM (fun j _ => (fun _ => rfl) j) (fun j _ => (fun _ => rfl) j) (fun j _ _ => (fun _ => rfl) j) | (exfalso; (first | omega | (have z0_ := unhid h5_1; omega)))) (by first | exact hI | exact SCL_k hd2 hM2 (fun j _ => (fun _ => rfl) j) (fun j _ => (fun _ => rfl) j) (fun j _ _ => (fun _ => rfl) j) | (exfalso; (first | omega | (have z0_ := unhid h5_1; omega)))) (by first | exact hI | exact QRL_k hd3 hM (fun j _ => (fun _ => rfl) j) ((fun _ => rfl) 1) (fun j _ _ => (fun _ => rfl) j) | (exfalso; (first | omega | (have z0_ := unhid h5_1; omega)))) (by first | exact hI | exact QRL_k hd4 hM2 (fun j _ => (fun _ => rfl) j) ((fun _ => rfl) 1) (fun j _ _ => (fun _ => rfl) j) | (exfalso; (first | omega | (have z0_ := unhid h5_1; omega)))) (by first | exact hI | exact SDL_k hd5 hM (fun j _ => (fun _ => rfl) j) ((fun _ => rfl) 1) (fun j _ _ => (fun _ => rfl) j) (fun j _ _ => (fun _ => rfl) j) | (exfalso; (first | omega | (have z0_ := unhid h5_1; omega)))) (by first | exact hI | exact SDL_k hd6 hM2 (fun j _ => (fun _ => rfl) j) ((fun _ => rfl) 1) (fun j _ _ => (fun _ => rfl) j) (fun j _ _ => (fun _ => rfl) j) | (exfalso; (first | omega | (have z0_ := unhid h5_1; omega)))) (by first | exact hI | exact LWL_k hd7 hM (fun j _ => (fun _ => rfl) j) (fun j _ => (fun _ => rfl) j) (fun j _ => (fun _ => rfl) j) (fun j _ _ => (fun _ => rfl) j) | (exfalso; (first | omega | (have z0_ := unhid h5_1; omega)))) (by first | exact hI | exact LWL_k hd8 hM2 (fun j _ => (fun _ => rfl) j) (fun j _ => (fun _ => rfl) j) (fun j _ => (fun _ => rfl) j) (fun j _ _ => (fun _ => rfl) j) | (exfalso; (first | omega | (have z0_ := unhid h5_1; omega)))) (by first | exact hI | exact CHL_k hd9 hM (fun j _ => (fun _ => rfl) j) (by (first | omega | (have z0_ := unhid h5_1; omega))) (fun j _ _ => (fun _ => rfl) j) | (exfalso; (first | omega | (have z0_ := unhid h5_1; omega)))) (by first | exact hI | exact CHL_k hd10 hM2 (fun j _ => (fun _ => rfl) j) (by (first | omega | (have z0_ := unhid h5_1; omega))) (fun j _ _ => (fun _ => rfl) j) | (exfalso; (first | omega | (have z0_ := unhid h5_1; omega))))
    · skip
      obtain ⟨h5_0, h5_1⟩ := h5
      refine go_toq PM267 (k := 2) (pc' := 1435) (L' := [some (.inr (.inr (some 3000))), some (.inr (.inr (some 0))), some (.inr (.inr (some 79))), some (.inl i)]) (st' := []) (w' := (SH, dt)) rfl ?_
      exact K dt hI hM hM2 hk0 hk1 hk2 hk3 hk4 hk5 hk6 hk7 hk8 hk9 hk10 hk11 hk12 hk13 hk14 hk15 (by first | exact hI | exact TPL_k hd0 (fun _ => rfl) (fun _ => rfl) (by omega) | (exfalso; omega)) (by first | exact hI | exact SCL_k hd1 hM (fun j _ => (fun _ => rfl) j) (fun j _ => (fun _ => rfl) j) (fun j _ _ => (fun _ => rfl) j) | (exfalso; omega)) (by first | exact hI | exact SCL_k hd2 hM2 (fun j _ => (fun _ => rfl) j) (fun j _ => (fun _ => rfl) j) (fun j _ _ => (fun _ => rfl) j) | (exfalso; omega)) (by first | exact hI | exact QRL_k hd3 hM (fun j _ => (fun _ => rfl) j) ((fun _ => rfl) 1) (fun j _ _ => (fun _ => rfl) j) | (exfalso; omega)) (by first | exact hI | exact QRL_k hd4 hM2 (fun j _ => (fun _ => rfl) j) ((fun _ => rfl) 1) (fun j _ _ => (fun _ => rfl) j) | (exfalso; omega)) (by first | exact hI | exact SDL_k hd5 hM (fun j _ => (fun _ => rfl) j) ((fun _ => rfl) 1) (fun j _ _ => (fun _ => rfl) j) (fun j _ _ => (fun _ => rfl) j) | (exfalso; omega)) (by first | exact hI | exact SDL_k hd6 hM2 (fun j _ => (fun _ => rfl) j) ((fun _ => rfl) 1) (fun j _ _ => (fun _ => rfl) j) (fun j _ _ => (fun _ => rfl) j) | (exfalso; omega)) (by first | exact hI | exact LWL_k hd7 hM (fun j _ => (fun _ => rfl) j) (fun j _ => (fun _ => rfl) j) (fun j _ => (fun _ => rfl) j) (fun j _ _ => (fun _ => rfl) j) | (exfalso; omega)) (by first | exact hI | exact LWL_k hd8 hM2 (fun j _ => (fun _ => rfl) j) (fun j _ => (fun _ => rfl) j) (fun j _ => (fun _ => rfl) j) (fun j _ _ => (fun _ => rfl) j) | (exfalso; omega)) (by first | exact hI | exact CHL_k hd9 hM (fun j _ => (fun _ => rfl) j) (by omega) (fun j _ _ => (fun _ => rfl) j) | (exfalso; omega)) (by first | exact hI | exact CHL_k hd10 hM2 (fun j _ => (fun _ => rfl) j) (by omega) (fun j _ _ => (fun _ => rfl) j) | (exfalso; omega))
    · skip
      refine go_toq PM267 (k := 2) (pc' := 1435) (L' := [some (.inr (.inr (some 3000))), some (.inr (.inr (some 0))), some (.inr (.inr (some 79))), some (.inl i)]) (st' := []) (w' := (SH, dt)) rfl ?_
      exact K dt hI hM hM2 hk0 hk1 hk2 hk3 hk4 hk5 hk6 hk7 hk8 hk9 hk10 hk11 hk12 hk13 hk14 hk15 (by first | exact hI | exact TPL_k hd0 (fun _ => rfl) (fun _ => rfl) (by omega) | (exfalso; omega)) (by first | exact hI | exact SCL_k hd1 hM (fun j _ => (fun _ => rfl) j) (fun j _ => (fun _ => rfl) j) (fun j _ _ => (fun _ => rfl) j) | (exfalso; omega)) (by first | exact hI | exact SCL_k hd2 hM2 (fun j _ => (fun _ => rfl) j) (fun j _ => (fun _ => rfl) j) (fun j _ _ => (fun _ => rfl) j) | (exfalso; omega)) (by first | exact hI | exact QRL_k hd3 hM (fun j _ => (fun _ => rfl) j) ((fun _ => rfl) 1) (fun j _ _ => (fun _ => rfl) j) | (exfalso; omega)) (by first | exact hI | exact QRL_k hd4 hM2 (fun j _ => (fun _ => rfl) j) ((fun _ => rfl) 1) (fun j _ _ => (fun _ => rfl) j) | (exfalso; omega)) (by first | exact hI | exact SDL_k hd5 hM (fun j _ => (fun _ => rfl) j) ((fun _ => rfl) 1) (fun j _ _ => (fun _ => rfl) j) (fun j _ _ => (fun _ => rfl) j) | (exfalso; omega)) (by first | exact hI | exact SDL_k hd6 hM2 (fun j _ => (fun _ => rfl) j) ((fun _ => rfl) 1) (fun j _ _ => (fun _ => rfl) j) (fun j _ _ => (fun _ => rfl) j) | (exfalso; omega)) (by first | exact hI | exact LWL_k hd7 hM (fun j _ => (fun _ => rfl) j) (fun j _ => (fun _ => rfl) j) (fun j _ => (fun _ => rfl) j) (fun j _ _ => (fun _ => rfl) j) | (exfalso; omega)) (by first | exact hI | exact LWL_k hd8 hM2 (fun j _ => (fun _ => rfl) j) (fun j _ => (fun _ => rfl) j) (fun j _ => (fun _ => rfl) j) (fun j _ _ => (fun _ => rfl) j) | (exfalso; omega)) (by first | exact hI | exact CHL_k hd9 hM (fun j _ => (fun _ => rfl) j) (by omega) (fun j _ _ => (fun _ => rfl) j) | (exfalso; omega)) (by first | exact hI | exact CHL_k hd10 hM2 (fun j _ => (fun _ => rfl) j) (by omega) (fun j _ _ => (fun _ => rfl) j) | (exfalso; omega))
  · skip
    refine go_toq PM267 (k := 6) (pc' := 1427) (L' := [some (.inr (.inr (some 3000))), some (.inr (.inr (some 0))), some (.inr (.inr (some 79))), some (.inl i)]) (st' := [.inl (i + 1), .inr (.inr (some 3000)), .inr (.inr (some 79))]) (w' := (SH, dt)) rfl ?_
    refine go_smpq PM267 (L' := [some (.inr (.inr (some 3000))), some (.inr (.inr (some 0))), some (.inr (.inr (some 79))), some (.inl i)]) (st' := [.inl ((xs ((i + 1).toNat)).toInt), .inr (.inr (some 79))]) (w' := (SH, dt)) rfl rfl (s_iald (n := L) (f := fun j => (xs j).toInt) (am_scr hLL) ⟨by omega, by omega⟩) ?_
    refine go_callq PM267 PM248 (Q' := _) rfl rfl rfl rfl (sp_X6_look L xs sio (d + 38) dt hI  ((xs ((i + 1).toNat)).toInt) ⟨by omega, by omega⟩ ) ?_
    rintro _ _ ⟨rfl, h6⟩
    refine ⟨rfl, ?_⟩
    rcases h6 with ⟨rfl, h6⟩ | ⟨rfl, h6⟩ | ⟨rfl, h6⟩ | ⟨rfl, h6⟩ | ⟨rfl, h6⟩ | ⟨rfl, h6⟩ | ⟨rfl, h6⟩ | ⟨rfl, h6⟩ | ⟨rfl, h6⟩
    · skip
      refine go_toq PM267 (k := 2) (pc' := 1435) (L' := [some (.inr (.inr (some 3000))), some (.inr (.inr (some 0))), some (.inr (.inr (some 79))), some (.inl i)]) (st' := []) (w' := (SH, dt)) rfl ?_
      exact K dt hI hM hM2 hk0 hk1 hk2 hk3 hk4 hk5 hk6 hk7 hk8 hk9 hk10 hk11 hk12 hk13 hk14 hk15 (by first | exact hI | exact TPL_k hd0 (fun _ => rfl) (fun _ => rfl) (by omega) | (exfalso; omega)) (by first | exact hI | exact SCL_k hd1 hM (fun j _ => (fun _ => rfl) j) (fun j _ => (fun _ => rfl) j) (fun j _ _ => (fun _ => rfl) j) | (exfalso; omega)) (by first | exact hI | exact SCL_k hd2 hM2 (fun j _ => (fun _ => rfl) j) (fun j _ => (fun _ => rfl) j) (fun j _ _ => (fun _ => rfl) j) | (exfalso; omega)) (by first | exact hI | exact QRL_k hd3 hM (fun j _ => (fun _ => rfl) j) ((fun _ => rfl) 1) (fun j _ _ => (fun _ => rfl) j) | (exfalso; omega)) (by first | exact hI | exact QRL_k hd4 hM2 (fun j _ => (fun _ => rfl) j) ((fun _ => rfl) 1) (fun j _ _ => (fun _ => rfl) j) | (exfalso; omega)) (by first | exact hI | exact SDL_k hd5 hM (fun j _ => (fun _ => rfl) j) ((fun _ => rfl) 1) (fun j _ _ => (fun _ => rfl) j) (fun j _ _ => (fun _ => rfl) j) | (exfalso; omega)) (by first | exact hI | exact SDL_k hd6 hM2 (fun j _ => (fun _ => rfl) j) ((fun _ => rfl) 1) (fun j _ _ => (fun _ => rfl) j) (fun j _ _ => (fun _ => rfl) j) | (exfalso; omega)) (by first | exact hI | exact LWL_k hd7 hM (fun j _ => (fun _ => rfl) j) (fun j _ => (fun _ => rfl) j) (fun j _ => (fun _ => rfl) j) (fun j _ _ => (fun _ => rfl) j) | (exfalso; omega)) (by first | exact hI | exact LWL_k hd8 hM2 (fun j _ => (fun _ => rfl) j) (fun j _ => (fun _ => rfl) j) (fun j _ => (fun _ => rfl) j) (fun j _ _ => (fun _ => rfl) j) | (exfalso; omega)) (by first | exact hI | exact CHL_k hd9 hM (fun j _ => (fun _ => rfl) j) (by omega) (fun j _ _ => (fun _ => rfl) j) | (exfalso; omega)) (by first | exact hI | exact CHL_k hd10 hM2 (fun j _ => (fun _ => rfl) j) (by omega) (fun j _ _ => (fun _ => rfl) j) | (exfalso; omega))
    · skip
      refine go_toq PM267 (k := 2) (pc' := 1435) (L' := [some (.inr (.inr (some 3000))), some (.inr (.inr (some 0))), some (.inr (.inr (some 79))), some (.inl i)]) (st' := []) (w' := (SH, dt)) rfl ?_
      exact K dt hI hM hM2 hk0 hk1 hk2 hk3 hk4 hk5 hk6 hk7 hk8 hk9 hk10 hk11 hk12 hk13 hk14 hk15 (by first | exact hI | exact TPL_k hd0 (fun _ => rfl) (fun _ => rfl) (by omega) | (exfalso; omega)) (by first | exact hI | exact SCL_k hd1 hM (fun j _ => (fun _ => rfl) j) (fun j _ => (fun _ => rfl) j) (fun j _ _ => (fun _ => rfl) j) | (exfalso; omega)) (by first | exact hI | exact SCL_k hd2 hM2 (fun j _ => (fun _ => rfl) j) (fun j _ => (fun _ => rfl) j) (fun j _ _ => (fun _ => rfl) j) | (exfalso; omega)) (by first | exact hI | exact QRL_k hd3 hM (fun j _ => (fun _ => rfl) j) ((fun _ => rfl) 1) (fun j _ _ => (fun _ => rfl) j) | (exfalso; omega)) (by first | exact hI | exact QRL_k hd4 hM2 (fun j _ => (fun _ => rfl) j) ((fun _ => rfl) 1) (fun j _ _ => (fun _ => rfl) j) | (exfalso; omega)) (by first | exact hI | exact SDL_k hd5 hM (fun j _ => (fun _ => rfl) j) ((fun _ => rfl) 1) (fun j _ _ => (fun _ => rfl) j) (fun j _ _ => (fun _ => rfl) j) | (exfalso; omega)) (by first | exact hI | exact SDL_k hd6 hM2 (fun j _ => (fun _ => rfl) j) ((fun _ => rfl) 1) (fun j _ _ => (fun _ => rfl) j) (fun j _ _ => (fun _ => rfl) j) | (exfalso; omega)) (by first | exact hI | exact LWL_k hd7 hM (fun j _ => (fun _ => rfl) j) (fun j _ => (fun _ => rfl) j) (fun j _ => (fun _ => rfl) j) (fun j _ _ => (fun _ => rfl) j) | (exfalso; omega)) (by first | exact hI | exact LWL_k hd8 hM2 (fun j _ => (fun _ => rfl) j) (fun j _ => (fun _ => rfl) j) (fun j _ => (fun _ => rfl) j) (fun j _ _ => (fun _ => rfl) j) | (exfalso; omega)) (by first | exact hI | exact CHL_k hd9 hM (fun j _ => (fun _ => rfl) j) (by omega) (fun j _ _ => (fun _ => rfl) j) | (exfalso; omega)) (by first | exact hI | exact CHL_k hd10 hM2 (fun j _ => (fun _ => rfl) j) (by omega) (fun j _ _ => (fun _ => rfl) j) | (exfalso; omega))
    · skip
      refine go_toq PM267 (k := 2) (pc' := 1435) (L' := [some (.inr (.inr (some 3000))), some (.inr (.inr (some 0))), some (.inr (.inr (some 79))), some (.inl i)]) (st' := []) (w' := (SH, dt)) rfl ?_
      exact K dt hI hM hM2 hk0 hk1 hk2 hk3 hk4 hk5 hk6 hk7 hk8 hk9 hk10 hk11 hk12 hk13 hk14 hk15 (by first | exact hI | exact TPL_k hd0 (fun _ => rfl) (fun _ => rfl) (by omega) | (exfalso; omega)) (by first | exact hI | exact SCL_k hd1 hM (fun j _ => (fun _ => rfl) j) (fun j _ => (fun _ => rfl) j) (fun j _ _ => (fun _ => rfl) j) | (exfalso; omega)) (by first | exact hI | exact SCL_k hd2 hM2 (fun j _ => (fun _ => rfl) j) (fun j _ => (fun _ => rfl) j) (fun j _ _ => (fun _ => rfl) j) | (exfalso; omega)) (by first | exact hI | exact QRL_k hd3 hM (fun j _ => (fun _ => rfl) j) ((fun _ => rfl) 1) (fun j _ _ => (fun _ => rfl) j) | (exfalso; omega)) (by first | exact hI | exact QRL_k hd4 hM2 (fun j _ => (fun _ => rfl) j) ((fun _ => rfl) 1) (fun j _ _ => (fun _ => rfl) j) | (exfalso; omega)) (by first | exact hI | exact SDL_k hd5 hM (fun j _ => (fun _ => rfl) j) ((fun _ => rfl) 1) (fun j _ _ => (fun _ => rfl) j) (fun j _ _ => (fun _ => rfl) j) | (exfalso; omega)) (by first | exact hI | exact SDL_k hd6 hM2 (fun j _ => (fun _ => rfl) j) ((fun _ => rfl) 1) (fun j _ _ => (fun _ => rfl) j) (fun j _ _ => (fun _ => rfl) j) | (exfalso; omega)) (by first | exact hI | exact LWL_k hd7 hM (fun j _ => (fun _ => rfl) j) (fun j _ => (fun _ => rfl) j) (fun j _ => (fun _ => rfl) j) (fun j _ _ => (fun _ => rfl) j) | (exfalso; omega)) (by first | exact hI | exact LWL_k hd8 hM2 (fun j _ => (fun _ => rfl) j) (fun j _ => (fun _ => rfl) j) (fun j _ => (fun _ => rfl) j) (fun j _ _ => (fun _ => rfl) j) | (exfalso; omega)) (by first | exact hI | exact CHL_k hd9 hM (fun j _ => (fun _ => rfl) j) (by omega) (fun j _ _ => (fun _ => rfl) j) | (exfalso; omega)) (by first | exact hI | exact CHL_k hd10 hM2 (fun j _ => (fun _ => rfl) j) (by omega) (fun j _ _ => (fun _ => rfl) j) | (exfalso; omega))
    · skip
      refine go_toq PM267 (k := 2) (pc' := 1435) (L' := [some (.inr (.inr (some 3000))), some (.inr (.inr (some 0))), some (.inr (.inr (some 79))), some (.inl i)]) (st' := []) (w' := (SH, dt)) rfl ?_
      exact K dt hI hM hM2 hk0 hk1 hk2 hk3 hk4 hk5 hk6 hk7 hk8 hk9 hk10 hk11 hk12 hk13 hk14 hk15 (by first | exact hI | exact TPL_k hd0 (fun _ => rfl) (fun _ => rfl) (by omega) | (exfalso; omega)) (by first | exact hI | exact SCL_k hd1 hM (fun j _ => (fun _ => rfl) j) (fun j _ => (fun _ => rfl) j) (fun j _ _ => (fun _ => rfl) j) | (exfalso; omega)) (by first | exact hI | exact SCL_k hd2 hM2 (fun j _ => (fun _ => rfl) j) (fun j _ => (fun _ => rfl) j) (fun j _ _ => (fun _ => rfl) j) | (exfalso; omega)) (by first | exact hI | exact QRL_k hd3 hM (fun j _ => (fun _ => rfl) j) ((fun _ => rfl) 1) (fun j _ _ => (fun _ => rfl) j) | (exfalso; omega)) (by first | exact hI | exact QRL_k hd4 hM2 (fun j _ => (fun _ => rfl) j) ((fun _ => rfl) 1) (fun j _ _ => (fun _ => rfl) j) | (exfalso; omega)) (by first | exact hI | exact SDL_k hd5 hM (fun j _ => (fun _ => rfl) j) ((fun _ => rfl) 1) (fun j _ _ => (fun _ => rfl) j) (fun j _ _ => (fun _ => rfl) j) | (exfalso; omega)) (by first | exact hI | exact SDL_k hd6 hM2 (fun j _ => (fun _ => rfl) j) ((fun _ => rfl) 1) (fun j _ _ => (fun _ => rfl) j) (fun j _ _ => (fun _ => rfl) j) | (exfalso; omega)) (by first | exact hI | exact LWL_k hd7 hM (fun j _ => (fun _ => rfl) j) (fun j _ => (fun _ => rfl) j) (fun j _ => (fun _ => rfl) j) (fun j _ _ => (fun _ => rfl) j) | (exfalso; omega)) (by first | exact hI | exact LWL_k hd8 hM2 (fun j _ => (fun _ => rfl) j) (fun j _ => (fun _ => rfl) j) (fun j _ => (fun _ => rfl) j) (fun j _ _ => (fun _ => rfl) j) | (exfalso; omega)) (by first | exact hI | exact CHL_k hd9 hM (fun j _ => (fun _ => rfl) j) (by omega) (fun j _ _ => (fun _ => rfl) j) | (exfalso; omega)) (by first | exact hI | exact CHL_k hd10 hM2 (fun j _ => (fun _ => rfl) j) (by omega) (fun j _ _ => (fun _ => rfl) j) | (exfalso; omega))
    · skip
      refine go_toq PM267 (k := 2) (pc' := 1435) (L' := [some (.inr (.inr (some 3000))), some (.inr (.inr (some 0))), some (.inr (.inr (some 79))), some (.inl i)]) (st' := []) (w' := (SH, dt)) rfl ?_
      exact K dt hI hM hM2 hk0 hk1 hk2 hk3 hk4 hk5 hk6 hk7 hk8 hk9 hk10 hk11 hk12 hk13 hk14 hk15 (by first | exact hI | exact TPL_k hd0 (fun _ => rfl) (fun _ => rfl) (by omega) | (exfalso; omega)) (by first | exact hI | exact SCL_k hd1 hM (fun j _ => (fun _ => rfl) j) (fun j _ => (fun _ => rfl) j) (fun j _ _ => (fun _ => rfl) j) | (exfalso; omega)) (by first | exact hI | exact SCL_k hd2 hM2 (fun j _ => (fun _ => rfl) j) (fun j _ => (fun _ => rfl) j) (fun j _ _ => (fun _ => rfl) j) | (exfalso; omega)) (by first | exact hI | exact QRL_k hd3 hM (fun j _ => (fun _ => rfl) j) ((fun _ => rfl) 1) (fun j _ _ => (fun _ => rfl) j) | (exfalso; omega)) (by first | exact hI | exact QRL_k hd4 hM2 (fun j _ => (fun _ => rfl) j) ((fun _ => rfl) 1) (fun j _ _ => (fun _ => rfl) j) | (exfalso; omega)) (by first | exact hI | exact SDL_k hd5 hM (fun j _ => (fun _ => rfl) j) ((fun _ => rfl) 1) (fun j _ _ => (fun _ => rfl) j) (fun j _ _ => (fun _ => rfl) j) | (exfalso; omega)) (by first | exact hI | exact SDL_k hd6 hM2 (fun j _ => (fun _ => rfl) j) ((fun _ => rfl) 1) (fun j _ _ => (fun _ => rfl) j) (fun j _ _ => (fun _ => rfl) j) | (exfalso; omega)) (by first | exact hI | exact LWL_k hd7 hM (fun j _ => (fun _ => rfl) j) (fun j _ => (fun _ => rfl) j) (fun j _ => (fun _ => rfl) j) (fun j _ _ => (fun _ => rfl) j) | (exfalso; omega)) (by first | exact hI | exact LWL_k hd8 hM2 (fun j _ => (fun _ => rfl) j) (fun j _ => (fun _ => rfl) j) (fun j _ => (fun _ => rfl) j) (fun j _ _ => (fun _ => rfl) j) | (exfalso; omega)) (by first | exact hI | exact CHL_k hd9 hM (fun j _ => (fun _ => rfl) j) (by omega) (fun j _ _ => (fun _ => rfl) j) | (exfalso; omega)) (by first | exact hI | exact CHL_k hd10 hM2 (fun j _ => (fun _ => rfl) j) (by omega) (fun j _ _ => (fun _ => rfl) j) | (exfalso; omega))
    · skip
      refine go_toq PM267 (k := 2) (pc' := 1435) (L' := [some (.inr (.inr (some 3000))), some (.inr (.inr (some 0))), some (.inr (.inr (some 79))), some (.inl i)]) (st' := []) (w' := (SH, dt)) rfl ?_
      exact K dt hI hM hM2 hk0 hk1 hk2 hk3 hk4 hk5 hk6 hk7 hk8 hk9 hk10 hk11 hk12 hk13 hk14 hk15 (by first | exact hI | exact TPL_k hd0 (fun _ => rfl) (fun _ => rfl) (by omega) | (exfalso; omega)) (by first | exact hI | exact SCL_k hd1 hM (fun j _ => (fun _ => rfl) j) (fun j _ => (fun _ => rfl) j) (fun j _ _ => (fun _ => rfl) j) | (exfalso; omega)) (by first | exact hI | exact SCL_k hd2 hM2 (fun j _ => (fun _ => rfl) j) (fun j _ => (fun _ => rfl) j) (fun j _ _ => (fun _ => rfl) j) | (exfalso; omega)) (by first | exact hI | exact QRL_k hd3 hM (fun j _ => (fun _ => rfl) j) ((fun _ => rfl) 1) (fun j _ _ => (fun _ => rfl) j) | (exfalso; omega)) (by first | exact hI | exact QRL_k hd4 hM2 (fun j _ => (fun _ => rfl) j) ((fun _ => rfl) 1) (fun j _ _ => (fun _ => rfl) j) | (exfalso; omega)) (by first | exact hI | exact SDL_k hd5 hM (fun j _ => (fun _ => rfl) j) ((fun _ => rfl) 1) (fun j _ _ => (fun _ => rfl) j) (fun j _ _ => (fun _ => rfl) j) | (exfalso; omega)) (by first | exact hI | exact SDL_k hd6 hM2 (fun j _ => (fun _ => rfl) j) ((fun _ => rfl) 1) (fun j _ _ => (fun _ => rfl) j) (fun j _ _ => (fun _ => rfl) j) | (exfalso; omega)) (by first | exact hI | exact LWL_k hd7 hM (fun j _ => (fun _ => rfl) j) (fun j _ => (fun _ => rfl) j) (fun j _ => (fun _ => rfl) j) (fun j _ _ => (fun _ => rfl) j) | (exfalso; omega)) (by first | exact hI | exact LWL_k hd8 hM2 (fun j _ => (fun _ => rfl) j) (fun j _ => (fun _ => rfl) j) (fun j _ => (fun _ => rfl) j) (fun j _ _ => (fun _ => rfl) j) | (exfalso; omega)) (by first | exact hI | exact CHL_k hd9 hM (fun j _ => (fun _ => rfl) j) (by omega) (fun j _ _ => (fun _ => rfl) j) | (exfalso; omega)) (by first | exact hI | exact CHL_k hd10 hM2 (fun j _ => (fun _ => rfl) j) (by omega) (fun j _ _ => (fun _ => rfl) j) | (exfalso; omega))
    · skip
      obtain ⟨h6_0, h6_1⟩ := h6
      replace h6_1 := hid h6_1
      refine go_toq PM267 (k := 2) (pc' := 1435) (L' := [some (.inr (.inr (some 3000))), some (.inr (.inr (some 0))), some (.inr (.inr (some 79))), some (.inl i)]) (st' := []) (w' := (SH, dt)) rfl ?_
      exact K dt hI hM hM2 hk0 hk1 hk2 hk3 hk4 hk5 hk6 hk7 hk8 hk9 hk10 hk11 hk12 hk13 hk14 hk15 (by first | exact hI | exact TPL_k hd0 (fun _ => rfl) (fun _ => rfl) (by (first | omega | (have z0_ := unhid h6_1; omega))) | (exfalso; (first | omega | (have z0_ := unhid h6_1; omega)))) (by first | exact hI | exact SCL_k hd1 hM (fun j _ => (fun _ => rfl) j) (fun j _ => (fun _ => rfl) j) (fun j _ _ => (fun _ => rfl) j) | (exfalso; (first | omega | (have z0_ := unhid h6_1; omega)))) (by first | exact hI | exact SCL_k hd2 hM2 (fun j _ => (fun _ => rfl) j) (fun j _ => (fun _ => rfl) j) (fun j _ _ => (fun _ => rfl) j) | (exfalso; (first | omega | (have z0_ := unhid h6_1; omega)))) (by first | exact hI | exact QRL_k hd3 hM (fun j _ => (fun _ => rfl) j) ((fun _ => rfl) 1) (fun j _ _ => (fun _ => rfl) j) | (exfalso; (first | omega | (have z0_ := unhid h6_1; omega)))) (by first | exact hI | exact QRL_k hd4 hM2 (fun j _ => (fun _ => rfl) j) ((fun _ => rfl) 1) (fun j _ _ => (fun _ => rfl) j) | (exfalso; (first | omega | (have z0_ := unhid h6_1; omega)))) (by first | exact hI | exact SDL_k hd5 hM (fun j _ => (fun _ => rfl) j) ((fun _ => rfl) 1) (fun j _ _ => (fun _ => rfl) j) (fun j _ _ => (fun _ => rfl) j) | (exfalso; (first | omega | (have z0_ := unhid h6_1; omega)))) (by first | exact hI | exact SDL_k hd6 hM2 (fun j _ => (fun _ => rfl) j) ((fun _ => rfl) 1) (fun j _ _ => (fun _ => rfl) j) (fun j _ _ => (fun _ => rfl) j) | (exfalso; (first | omega | (have z0_ := unhid h6_1; omega)))) (by first | exact hI | exact LWL_k hd7 hM (fun j _ => (fun _ => rfl) j) (fun j _ => (fun _ => rfl) j) (fun j _ => (fun _ => rfl) j) (fun j _ _ => (fun _ => rfl) j) | (exfalso; (first | omega | (have z0_ := unhid h6_1; omega)))) (by first | exact hI | exact LWL_k hd8 hM2 (fun j _ => (fun _ => rfl) j) (fun j _ => (fun _ => rfl) j) (fun j _ => (fun _ => rfl) j) (fun j _ _ => (fun _ => rfl) j) | (exfalso; (first | omega | (have z0_ := unhid h6_1; omega)))) (by first | exact hI | exact CHL_k hd9 hM (fun j _ => (fun _ => rfl) j) (by (first | omega | (have z0_ := unhid h6_1; omega))) (fun j _ _ => (fun _ => rfl) j) | (exfalso; (first | omega | (have z0_ := unhid h6_1; omega)))) (by first | exact hI | exact CHL_k hd10 hM2 (fun j _ => (fun _ => rfl) j) (by (first | omega | (have z0_ := unhid h6_1; omega))) (fun j _ _ => (fun _ => rfl) j) | (exfalso; (first | omega | (have z0_ := unhid h6_1; omega))))
    · skip
      obtain ⟨h6_0, h6_1⟩ := h6
      refine go_toq PM267 (k := 2) (pc' := 1435) (L' := [some (.inr (.inr (some 3000))), some (.inr (.inr (some 0))), some (.inr (.inr (some 79))), some (.inl i)]) (st' := []) (w' := (SH, dt)) rfl ?_
      exact K dt hI hM hM2 hk0 hk1 hk2 hk3 hk4 hk5 hk6 hk7 hk8 hk9 hk10 hk11 hk12 hk13 hk14 hk15 (by first | exact hI | exact TPL_k hd0 (fun _ => rfl) (fun _ => rfl) (by omega) | (exfalso; omega)) (by first | exact hI | exact SCL_k hd1 hM (fun j _ => (fun _ => rfl) j) (fun j _ => (fun _ => rfl) j) (fun j _ _ => (fun _ => rfl) j) | (exfalso; omega)) (by first | exact hI | exact SCL_k hd2 hM2 (fun j _ => (fun _ => rfl) j) (fun j _ => (fun _ => rfl) j) (fun j _ _ => (fun _ => rfl) j) | (exfalso; omega)) (by first | exact hI | exact QRL_k hd3 hM (fun j _ => (fun _ => rfl) j) ((fun _ => rfl) 1) (fun j _ _ => (fun _ => rfl) j) | (exfalso; omega)) (by first | exact hI | exact QRL_k hd4 hM2 (fun j _ => (fun _ => rfl) j) ((fun _ => rfl) 1) (fun j _ _ => (fun _ => rfl) j) | (exfalso; omega)) (by first | exact hI | exact SDL_k hd5 hM (fun j _ => (fun _ => rfl) j) ((fun _ => rfl) 1) (fun j _ _ => (fun _ => rfl) j) (fun j _ _ => (fun _ => rfl) j) | (exfalso; omega)) (by first | exact hI | exact SDL_k hd6 hM2 (fun j _ => (fun _ => rfl) j) ((fun _ => rfl) 1) (fun j _ _ => (fun _ => rfl) j) (fun j _ _ => (fun _ => rfl) j) | (exfalso; omega)) (by first | exact hI | exact LWL_k hd7 hM (fun j _ => (fun _ => rfl) j) (fun j _ => (fun _ => rfl) j) (fun j _ => (fun _ => rfl) j) (fun j _ _ => (fun _ => rfl) j) | (exfalso; omega)) (by first | exact hI | exact LWL_k hd8 hM2 (fun j _ => (fun _ => rfl) j) (fun j _ => (fun _ => rfl) j) (fun j _ => (fun _ => rfl) j) (fun j _ _ => (fun _ => rfl) j) | (exfalso; omega)) (by first | exact hI | exact CHL_k hd9 hM (fun j _ => (fun _ => rfl) j) (by omega) (fun j _ _ => (fun _ => rfl) j) | (exfalso; omega)) (by first | exact hI | exact CHL_k hd10 hM2 (fun j _ => (fun _ => rfl) j) (by omega) (fun j _ _ => (fun _ => rfl) j) | (exfalso; omega))
    · skip
      refine go_toq PM267 (k := 2) (pc' := 1435) (L' := [some (.inr (.inr (some 3000))), some (.inr (.inr (some 0))), some (.inr (.inr (some 79))), some (.inl i)]) (st' := []) (w' := (SH, dt)) rfl ?_
      exact K dt hI hM hM2 hk0 hk1 hk2 hk3 hk4 hk5 hk6 hk7 hk8 hk9 hk10 hk11 hk12 hk13 hk14 hk15 (by first | exact hI | exact TPL_k hd0 (fun _ => rfl) (fun _ => rfl) (by omega) | (exfalso; omega)) (by first | exact hI | exact SCL_k hd1 hM (fun j _ => (fun _ => rfl) j) (fun j _ => (fun _ => rfl) j) (fun j _ _ => (fun _ => rfl) j) | (exfalso; omega)) (by first | exact hI | exact SCL_k hd2 hM2 (fun j _ => (fun _ => rfl) j) (fun j _ => (fun _ => rfl) j) (fun j _ _ => (fun _ => rfl) j) | (exfalso; omega)) (by first | exact hI | exact QRL_k hd3 hM (fun j _ => (fun _ => rfl) j) ((fun _ => rfl) 1) (fun j _ _ => (fun _ => rfl) j) | (exfalso; omega)) (by first | exact hI | exact QRL_k hd4 hM2 (fun j _ => (fun _ => rfl) j) ((fun _ => rfl) 1) (fun j _ _ => (fun _ => rfl) j) | (exfalso; omega)) (by first | exact hI | exact SDL_k hd5 hM (fun j _ => (fun _ => rfl) j) ((fun _ => rfl) 1) (fun j _ _ => (fun _ => rfl) j) (fun j _ _ => (fun _ => rfl) j) | (exfalso; omega)) (by first | exact hI | exact SDL_k hd6 hM2 (fun j _ => (fun _ => rfl) j) ((fun _ => rfl) 1) (fun j _ _ => (fun _ => rfl) j) (fun j _ _ => (fun _ => rfl) j) | (exfalso; omega)) (by first | exact hI | exact LWL_k hd7 hM (fun j _ => (fun _ => rfl) j) (fun j _ => (fun _ => rfl) j) (fun j _ => (fun _ => rfl) j) (fun j _ _ => (fun _ => rfl) j) | (exfalso; omega)) (by first | exact hI | exact LWL_k hd8 hM2 (fun j _ => (fun _ => rfl) j) (fun j _ => (fun _ => rfl) j) (fun j _ => (fun _ => rfl) j) (fun j _ _ => (fun _ => rfl) j) | (exfalso; omega)) (by first | exact hI | exact CHL_k hd9 hM (fun j _ => (fun _ => rfl) j) (by omega) (fun j _ _ => (fun _ => rfl) j) | (exfalso; omega)) (by first | exact hI | exact CHL_k hd10 hM2 (fun j _ => (fun _ => rfl) j) (by omega) (fun j _ _ => (fun _ => rfl) j) | (exfalso; omega))
  · skip
    refine go_toq PM267 (k := 6) (pc' := 1427) (L' := [some (.inr (.inr (some 3000))), some (.inr (.inr (some 0))), some (.inr (.inr (some 79))), some (.inl i)]) (st' := [.inl (i + 1), .inr (.inr (some 3000)), .inr (.inr (some 79))]) (w' := (SH, dt)) rfl ?_
    refine go_smpq PM267 (L' := [some (.inr (.inr (some 3000))), some (.inr (.inr (some 0))), some (.inr (.inr (some 79))), some (.inl i)]) (st' := [.inl ((xs ((i + 1).toNat)).toInt), .inr (.inr (some 79))]) (w' := (SH, dt)) rfl rfl (s_iald (n := L) (f := fun j => (xs j).toInt) (am_scr hLL) ⟨by omega, by omega⟩) ?_
    refine go_callq PM267 PM248 (Q' := _) rfl rfl rfl rfl (sp_X6_look L xs sio (d + 38) dt hI  ((xs ((i + 1).toNat)).toInt) ⟨by omega, by omega⟩ ) ?_
    rintro _ _ ⟨rfl, h7⟩
    refine ⟨rfl, ?_⟩
    rcases h7 with ⟨rfl, h7⟩ | ⟨rfl, h7⟩ | ⟨rfl, h7⟩ | ⟨rfl, h7⟩ | ⟨rfl, h7⟩ | ⟨rfl, h7⟩ | ⟨rfl, h7⟩ | ⟨rfl, h7⟩ | ⟨rfl, h7⟩
    · skip
      refine go_toq PM267 (k := 2) (pc' := 1435) (L' := [some (.inr (.inr (some 3000))), some (.inr (.inr (some 0))), some (.inr (.inr (some 79))), some (.inl i)]) (st' := []) (w' := (SH, dt)) rfl ?_
      exact K dt hI hM hM2 hk0 hk1 hk2 hk3 hk4 hk5 hk6 hk7 hk8 hk9 hk10 hk11 hk12 hk13 hk14 hk15 (by first | exact hI | exact TPL_k hd0 (fun _ => rfl) (fun _ => rfl) (by omega) | (exfalso; omega)) (by first | exact hI | exact SCL_k hd1 hM (fun j _ => (fun _ => rfl) j) (fun j _ => (fun _ => rfl) j) (fun j _ _ => (fun _ => rfl) j) | (exfalso; omega)) (by first | exact hI | exact SCL_k hd2 hM2 (fun j _ => (fun _ => rfl) j) (fun j _ => (fun _ => rfl) j) (fun j _ _ => (fun _ => rfl) j) | (exfalso; omega)) (by first | exact hI | exact QRL_k hd3 hM (fun j _ => (fun _ => rfl) j) ((fun _ => rfl) 1) (fun j _ _ => (fun _ => rfl) j) | (exfalso; omega)) (by first | exact hI | exact QRL_k hd4 hM2 (fun j _ => (fun _ => rfl) j) ((fun _ => rfl) 1) (fun j _ _ => (fun _ => rfl) j) | (exfalso; omega)) (by first | exact hI | exact SDL_k hd5 hM (fun j _ => (fun _ => rfl) j) ((fun _ => rfl) 1) (fun j _ _ => (fun _ => rfl) j) (fun j _ _ => (fun _ => rfl) j) | (exfalso; omega)) (by first | exact hI | exact SDL_k hd6 hM2 (fun j _ => (fun _ => rfl) j) ((fun _ => rfl) 1) (fun j _ _ => (fun _ => rfl) j) (fun j _ _ => (fun _ => rfl) j) | (exfalso; omega)) (by first | exact hI | exact LWL_k hd7 hM (fun j _ => (fun _ => rfl) j) (fun j _ => (fun _ => rfl) j) (fun j _ => (fun _ => rfl) j) (fun j _ _ => (fun _ => rfl) j) | (exfalso; omega)) (by first | exact hI | exact LWL_k hd8 hM2 (fun j _ => (fun _ => rfl) j) (fun j _ => (fun _ => rfl) j) (fun j _ => (fun _ => rfl) j) (fun j _ _ => (fun _ => rfl) j) | (exfalso; omega)) (by first | exact hI | exact CHL_k hd9 hM (fun j _ => (fun _ => rfl) j) (by omega) (fun j _ _ => (fun _ => rfl) j) | (exfalso; omega)) (by first | exact hI | exact CHL_k hd10 hM2 (fun j _ => (fun _ => rfl) j) (by omega) (fun j _ _ => (fun _ => rfl) j) | (exfalso; omega))
    · skip
      refine go_toq PM267 (k := 2) (pc' := 1435) (L' := [some (.inr (.inr (some 3000))), some (.inr (.inr (some 0))), some (.inr (.inr (some 79))), some (.inl i)]) (st' := []) (w' := (SH, dt)) rfl ?_
      exact K dt hI hM hM2 hk0 hk1 hk2 hk3 hk4 hk5 hk6 hk7 hk8 hk9 hk10 hk11 hk12 hk13 hk14 hk15 (by first | exact hI | exact TPL_k hd0 (fun _ => rfl) (fun _ => rfl) (by omega) | (exfalso; omega)) (by first | exact hI | exact SCL_k hd1 hM (fun j _ => (fun _ => rfl) j) (fun j _ => (fun _ => rfl) j) (fun j _ _ => (fun _ => rfl) j) | (exfalso; omega)) (by first | exact hI | exact SCL_k hd2 hM2 (fun j _ => (fun _ => rfl) j) (fun j _ => (fun _ => rfl) j) (fun j _ _ => (fun _ => rfl) j) | (exfalso; omega)) (by first | exact hI | exact QRL_k hd3 hM (fun j _ => (fun _ => rfl) j) ((fun _ => rfl) 1) (fun j _ _ => (fun _ => rfl) j) | (exfalso; omega)) (by first | exact hI | exact QRL_k hd4 hM2 (fun j _ => (fun _ => rfl) j) ((fun _ => rfl) 1) (fun j _ _ => (fun _ => rfl) j) | (exfalso; omega)) (by first | exact hI | exact SDL_k hd5 hM (fun j _ => (fun _ => rfl) j) ((fun _ => rfl) 1) (fun j _ _ => (fun _ => rfl) j) (fun j _ _ => (fun _ => rfl) j) | (exfalso; omega)) (by first | exact hI | exact SDL_k hd6 hM2 (fun j _ => (fun _ => rfl) j) ((fun _ => rfl) 1) (fun j _ _ => (fun _ => rfl) j) (fun j _ _ => (fun _ => rfl) j) | (exfalso; omega)) (by first | exact hI | exact LWL_k hd7 hM (fun j _ => (fun _ => rfl) j) (fun j _ => (fun _ => rfl) j) (fun j _ => (fun _ => rfl) j) (fun j _ _ => (fun _ => rfl) j) | (exfalso; omega)) (by first | exact hI | exact LWL_k hd8 hM2 (fun j _ => (fun _ => rfl) j) (fun j _ => (fun _ => rfl) j) (fun j _ => (fun _ => rfl) j) (fun j _ _ => (fun _ => rfl) j) | (exfalso; omega)) (by first | exact hI | exact CHL_k hd9 hM (fun j _ => (fun _ => rfl) j) (by omega) (fun j _ _ => (fun _ => rfl) j) | (exfalso; omega)) (by first | exact hI | exact CHL_k hd10 hM2 (fun j _ => (fun _ => rfl) j) (by omega) (fun j _ _ => (fun _ => rfl) j) | (exfalso; omega))
    · skip
      refine go_toq PM267 (k := 2) (pc' := 1435) (L' := [some (.inr (.inr (some 3000))), some (.inr (.inr (some 0))), some (.inr (.inr (some 79))), some (.inl i)]) (st' := []) (w' := (SH, dt)) rfl ?_
      exact K dt hI hM hM2 hk0 hk1 hk2 hk3 hk4 hk5 hk6 hk7 hk8 hk9 hk10 hk11 hk12 hk13 hk14 hk15 (by first | exact hI | exact TPL_k hd0 (fun _ => rfl) (fun _ => rfl) (by omega) | (exfalso; omega)) (by first | exact hI | exact SCL_k hd1 hM (fun j _ => (fun _ => rfl) j) (fun j _ => (fun _ => rfl) j) (fun j _ _ => (fun _ => rfl) j) | (exfalso; omega)) (by first | exact hI | exact SCL_k hd2 hM2 (fun j _ => (fun _ => rfl) j) (fun j _ => (fun _ => rfl) j) (fun j _ _ => (fun _ => rfl) j) | (exfalso; omega)) (by first | exact hI | exact QRL_k hd3 hM (fun j _ => (fun _ => rfl) j) ((fun _ => rfl) 1) (fun j _ _ => (fun _ => rfl) j) | (exfalso; omega)) (by first | exact hI | exact QRL_k hd4 hM2 (fun j _ => (fun _ => rfl) j) ((fun _ => rfl) 1) (fun j _ _ => (fun _ => rfl) j) | (exfalso; omega)) (by first | exact hI | exact SDL_k hd5 hM (fun j _ => (fun _ => rfl) j) ((fun _ => rfl) 1) (fun j _ _ => (fun _ => rfl) j) (fun j _ _ => (fun _ => rfl) j) | (exfalso; omega)) (by first | exact hI | exact SDL_k hd6 hM2 (fun j _ => (fun _ => rfl) j) ((fun _ => rfl) 1) (fun j _ _ => (fun _ => rfl) j) (fun j _ _ => (fun _ => rfl) j) | (exfalso; omega)) (by first | exact hI | exact LWL_k hd7 hM (fun j _ => (fun _ => rfl) j) (fun j _ => (fun _ => rfl) j) (fun j _ => (fun _ => rfl) j) (fun j _ _ => (fun _ => rfl) j) | (exfalso; omega)) (by first | exact hI | exact LWL_k hd8 hM2 (fun j _ => (fun _ => rfl) j) (fun j _ => (fun _ => rfl) j) (fun j _ => (fun _ => rfl) j) (fun j _ _ => (fun _ => rfl) j) | (exfalso; omega)) (by first | exact hI | exact CHL_k hd9 hM (fun j _ => (fun _ => rfl) j) (by omega) (fun j _ _ => (fun _ => rfl) j) | (exfalso; omega)) (by first | exact hI | exact CHL_k hd10 hM2 (fun j _ => (fun _ => rfl) j) (by omega) (fun j _ _ => (fun _ => rfl) j) | (exfalso; omega))
    · skip
      refine go_toq PM267 (k := 2) (pc' := 1435) (L' := [some (.inr (.inr (some 3000))), some (.inr (.inr (some 0))), some (.inr (.inr (some 79))), some (.inl i)]) (st' := []) (w' := (SH, dt)) rfl ?_
      exact K dt hI hM hM2 hk0 hk1 hk2 hk3 hk4 hk5 hk6 hk7 hk8 hk9 hk10 hk11 hk12 hk13 hk14 hk15 (by first | exact hI | exact TPL_k hd0 (fun _ => rfl) (fun _ => rfl) (by omega) | (exfalso; omega)) (by first | exact hI | exact SCL_k hd1 hM (fun j _ => (fun _ => rfl) j) (fun j _ => (fun _ => rfl) j) (fun j _ _ => (fun _ => rfl) j) | (exfalso; omega)) (by first | exact hI | exact SCL_k hd2 hM2 (fun j _ => (fun _ => rfl) j) (fun j _ => (fun _ => rfl) j) (fun j _ _ => (fun _ => rfl) j) | (exfalso; omega)) (by first | exact hI | exact QRL_k hd3 hM (fun j _ => (fun _ => rfl) j) ((fun _ => rfl) 1) (fun j _ _ => (fun _ => rfl) j) | (exfalso; omega)) (by first | exact hI | exact QRL_k hd4 hM2 (fun j _ => (fun _ => rfl) j) ((fun _ => rfl) 1) (fun j _ _ => (fun _ => rfl) j) | (exfalso; omega)) (by first | exact hI | exact SDL_k hd5 hM (fun j _ => (fun _ => rfl) j) ((fun _ => rfl) 1) (fun j _ _ => (fun _ => rfl) j) (fun j _ _ => (fun _ => rfl) j) | (exfalso; omega)) (by first | exact hI | exact SDL_k hd6 hM2 (fun j _ => (fun _ => rfl) j) ((fun _ => rfl) 1) (fun j _ _ => (fun _ => rfl) j) (fun j _ _ => (fun _ => rfl) j) | (exfalso; omega)) (by first | exact hI | exact LWL_k hd7 hM (fun j _ => (fun _ => rfl) j) (fun j _ => (fun _ => rfl) j) (fun j _ => (fun _ => rfl) j) (fun j _ _ => (fun _ => rfl) j) | (exfalso; omega)) (by first | exact hI | exact LWL_k hd8 hM2 (fun j _ => (fun _ => rfl) j) (fun j _ => (fun _ => rfl) j) (fun j _ => (fun _ => rfl) j) (fun j _ _ => (fun _ => rfl) j) | (exfalso; omega)) (by first | exact hI | exact CHL_k hd9 hM (fun j _ => (fun _ => rfl) j) (by omega) (fun j _ _ => (fun _ => rfl) j) | (exfalso; omega)) (by first | exact hI | exact CHL_k hd10 hM2 (fun j _ => (fun _ => rfl) j) (by omega) (fun j _ _ => (fun _ => rfl) j) | (exfalso; omega))
    · skip
      refine go_toq PM267 (k := 2) (pc' := 1435) (L' := [some (.inr (.inr (some 3000))), some (.inr (.inr (some 0))), some (.inr (.inr (some 79))), some (.inl i)]) (st' := []) (w' := (SH, dt)) rfl ?_
      exact K dt hI hM hM2 hk0 hk1 hk2 hk3 hk4 hk5 hk6 hk7 hk8 hk9 hk10 hk11 hk12 hk13 hk14 hk15 (by first | exact hI | exact TPL_k hd0 (fun _ => rfl) (fun _ => rfl) (by omega) | (exfalso; omega)) (by first | exact hI | exact SCL_k hd1 hM (fun j _ => (fun _ => rfl) j) (fun j _ => (fun _ => rfl) j) (fun j _ _ => (fun _ => rfl) j) | (exfalso; omega)) (by first | exact hI | exact SCL_k hd2 hM2 (fun j _ => (fun _ => rfl) j) (fun j _ => (fun _ => rfl) j) (fun j _ _ => (fun _ => rfl) j) | (exfalso; omega)) (by first | exact hI | exact QRL_k hd3 hM (fun j _ => (fun _ => rfl) j) ((fun _ => rfl) 1) (fun j _ _ => (fun _ => rfl) j) | (exfalso; omega)) (by first | exact hI | exact QRL_k hd4 hM2 (fun j _ => (fun _ => rfl) j) ((fun _ => rfl) 1) (fun j _ _ => (fun _ => rfl) j) | (exfalso; omega)) (by first | exact hI | exact SDL_k hd5 hM (fun j _ => (fun _ => rfl) j) ((fun _ => rfl) 1) (fun j _ _ => (fun _ => rfl) j) (fun j _ _ => (fun _ => rfl) j) | (exfalso; omega)) (by first | exact hI | exact SDL_k hd6 hM2 (fun j _ => (fun _ => rfl) j) ((fun _ => rfl) 1) (fun j _ _ => (fun _ => rfl) j) (fun j _ _ => (fun _ => rfl) j) | (exfalso; omega)) (by first | exact hI | exact LWL_k hd7 hM (fun j _ => (fun _ => rfl) j) (fun j _ => (fun _ => rfl) j) (fun j _ => (fun _ => rfl) j) (fun j _ _ => (fun _ => rfl) j) | (exfalso; omega)) (by first | exact hI | exact LWL_k hd8 hM2 (fun j _ => (fun _ => rfl) j) (fun j _ => (fun _ => rfl) j) (fun j _ => (fun _ => rfl) j) (fun j _ _ => (fun _ => rfl) j) | (exfalso; omega)) (by first | exact hI | exact CHL_k hd9 hM (fun j _ => (fun _ => rfl) j) (by omega) (fun j _ _ => (fun _ => rfl) j) | (exfalso; omega)) (by first | exact hI | exact CHL_k hd10 hM2 (fun j _ => (fun _ => rfl) j) (by omega) (fun j _ _ => (fun _ => rfl) j) | (exfalso; omega))
    · skip
      refine go_toq PM267 (k := 2) (pc' := 1435) (L' := [some (.inr (.inr (some 3000))), some (.inr (.inr (some 0))), some (.inr (.inr (some 79))), some (.inl i)]) (st' := []) (w' := (SH, dt)) rfl ?_
      exact K dt hI hM hM2 hk0 hk1 hk2 hk3 hk4 hk5 hk6 hk7 hk8 hk9 hk10 hk11 hk12 hk13 hk14 hk15 (by first | exact hI | exact TPL_k hd0 (fun _ => rfl) (fun _ => rfl) (by omega) | (exfalso; omega)) (by first | exact hI | exact SCL_k hd1 hM (fun j _ => (fun _ => rfl) j) (fun j _ => (fun _ => rfl) j) (fun j _ _ => (fun _ => rfl) j) | (exfalso; omega)) (by first | exact hI | exact SCL_k hd2 hM2 (fun j _ => (fun _ => rfl) j) (fun j _ => (fun _ => rfl) j) (fun j _ _ => (fun _ => rfl) j) | (exfalso; omega)) (by first | exact hI | exact QRL_k hd3 hM (fun j _ => (fun _ => rfl) j) ((fun _ => rfl) 1) (fun j _ _ => (fun _ => rfl) j) | (exfalso; omega)) (by first | exact hI | exact QRL_k hd4 hM2 (fun j _ => (fun _ => rfl) j) ((fun _ => rfl) 1) (fun j _ _ => (fun _ => rfl) j) | (exfalso; omega)) (by first | exact hI | exact SDL_k hd5 hM (fun j _ => (fun _ => rfl) j) ((fun _ => rfl) 1) (fun j _ _ => (fun _ => rfl) j) (fun j _ _ => (fun _ => rfl) j) | (exfalso; omega)) (by first | exact hI | exact SDL_k hd6 hM2 (fun j _ => (fun _ => rfl) j) ((fun _ => rfl) 1) (fun j _ _ => (fun _ => rfl) j) (fun j _ _ => (fun _ => rfl) j) | (exfalso; omega)) (by first | exact hI | exact LWL_k hd7 hM (fun j _ => (fun _ => rfl) j) (fun j _ => (fun _ => rfl) j) (fun j _ => (fun _ => rfl) j) (fun j _ _ => (fun _ => rfl) j) | (exfalso; omega)) (by first | exact hI | exact LWL_k hd8 hM2 (fun j _ => (fun _ => rfl) j) (fun j _ => (fun _ => rfl) j) (fun j _ => (fun _ => rfl) j) (fun j _ _ => (fun _ => rfl) j) | (exfalso; omega)) (by first | exact hI | exact CHL_k hd9 hM (fun j _ => (fun _ => rfl) j) (by omega) (fun j _ _ => (fun _ => rfl) j) | (exfalso; omega)) (by first | exact hI | exact CHL_k hd10 hM2 (fun j _ => (fun _ => rfl) j) (by omega) (fun j _ _ => (fun _ => rfl) j) | (exfalso; omega))
    · skip
      obtain ⟨h7_0, h7_1⟩ := h7
      replace h7_1 := hid h7_1
      refine go_toq PM267 (k := 2) (pc' := 1435) (L' := [some (.inr (.inr (some 3000))), some (.inr (.inr (some 0))), some (.inr (.inr (some 79))), some (.inl i)]) (st' := []) (w' := (SH, dt)) rfl ?_
      exact K dt hI hM hM2 hk0 hk1 hk2 hk3 hk4 hk5 hk6 hk7 hk8 hk9 hk10 hk11 hk12 hk13 hk14 hk15 (by first | exact hI | exact TPL_k hd0 (fun _ => rfl) (fun _ => rfl) (by (first | omega | (have z0_ := unhid h7_1; omega))) | (exfalso; (first | omega | (have z0_ := unhid h7_1; omega)))) (by first | exact hI | exact SCL_k hd1 hM (fun j _ => (fun _ => rfl) j) (fun j _ => (fun _ => rfl) j) (fun j _ _ => (fun _ => rfl) j) | (exfalso; (first | omega | (have z0_ := unhid h7_1; omega)))) (by first | exact hI | exact SCL_k hd2 hM2 (fun j _ => (fun _ => rfl) j) (fun j _ => (fun _ => rfl) j) (fun j _ _ => (fun _ => rfl) j) | (exfalso; (first | omega | (have z0_ := unhid h7_1; omega)))) (by first | exact hI | exact QRL_k hd3 hM (fun j _ => (fun _ => rfl) j) ((fun _ => rfl) 1) (fun j _ _ => (fun _ => rfl) j) | (exfalso; (first | omega | (have z0_ := unhid h7_1; omega)))) (by first | exact hI | exact QRL_k hd4 hM2 (fun j _ => (fun _ => rfl) j) ((fun _ => rfl) 1) (fun j _ _ => (fun _ => rfl) j) | (exfalso; (first | omega | (have z0_ := unhid h7_1; omega)))) (by first | exact hI | exact SDL_k hd5 hM (fun j _ => (fun _ => rfl) j) ((fun _ => rfl) 1) (fun j _ _ => (fun _ => rfl) j) (fun j _ _ => (fun _ => rfl) j) | (exfalso; (first | omega | (have z0_ := unhid h7_1; omega)))) (by first | exact hI | exact SDL_k hd6 hM2 (fun j _ => (fun _ => rfl) j) ((fun _ => rfl) 1) (fun j _ _ => (fun _ => rfl) j) (fun j _ _ => (fun _ => rfl) j) | (exfalso; (first | omega | (have z0_ := unhid h7_1; omega)))) (by first | exact hI | exact LWL_k hd7 hM (fun j _ => (fun _ => rfl) j) (fun j _ => (fun _ => rfl) j) (fun j _ => (fun _ => rfl) j) (fun j _ _ => (fun _ => rfl) j) | (exfalso; (first | omega | (have z0_ := unhid h7_1; omega)))) (by first | exact hI | exact LWL_k hd8 hM2 (fun j _ => (fun _ => rfl) j) (fun j _ => (fun _ => rfl) j) (fun j _ => (fun _ => rfl) j) (fun j _ _ => (fun _ => rfl) j) | (exfalso; (first | omega | (have z0_ := unhid h7_1; omega)))) (by first | exact hI | exact CHL_k hd9 hM (fun j _ => (fun _ => rfl) j) (by (first | omega | (have z0_ := unhid h7_1; omega))) (fun j _ _ => (fun _ => rfl) j) | (exfalso; (first | omega | (have z0_ := unhid h7_1; omega)))) (by first | exact hI | exact CHL_k hd10 hM2 (fun j _ => (fun _ => rfl) j) (by (first | omega | (have z0_ := unhid h7_1; omega))) (fun j _ _ => (fun _ => rfl) j) | (exfalso; (first | omega | (have z0_ := unhid h7_1; omega))))
    · skip
      obtain ⟨h7_0, h7_1⟩ := h7
      refine go_toq PM267 (k := 2) (pc' := 1435) (L' := [some (.inr (.inr (some 3000))), some (.inr (.inr (some 0))), some (.inr (.inr (some 79))), some (.inl i)]) (st' := []) (w' := (SH, dt)) rfl ?_
      exact K dt hI hM hM2 hk0 hk1 hk2 hk3 hk4 hk5 hk6 hk7 hk8 hk9 hk10 hk11 hk12 hk13 hk14 hk15 (by first | exact hI | exact TPL_k hd0 (fun _ => rfl) (fun _ => rfl) (by omega) | (exfalso; omega)) (by first | exact hI | exact SCL_k hd1 hM (fun j _ => (fun _ => rfl) j) (fun j _ => (fun _ => rfl) j) (fun j _ _ => (fun _ => rfl) j) | (exfalso; omega)) (by first | exact hI | exact SCL_k hd2 hM2 (fun j _ => (fun _ => rfl) j) (fun j _ => (fun _ => rfl) j) (fun j _ _ => (fun _ => rfl) j) | (exfalso; omega)) (by first | exact hI | exact QRL_k hd3 hM (fun j _ => (fun _ => rfl) j) ((fun _ => rfl) 1) (fun j _ _ => (fun _ => rfl) j) | (exfalso; omega)) (by first | exact hI | exact QRL_k hd4 hM2 (fun j _ => (fun _ => rfl) j) ((fun _ => rfl) 1) (fun j _ _ => (fun _ => rfl) j) | (exfalso; omega)) (by first | exact hI | exact SDL_k hd5 hM (fun j _ => (fun _ => rfl) j) ((fun _ => rfl) 1) (fun j _ _ => (fun _ => rfl) j) (fun j _ _ => (fun _ => rfl) j) | (exfalso; omega)) (by first | exact hI | exact SDL_k hd6 hM2 (fun j _ => (fun _ => rfl) j) ((fun _ => rfl) 1) (fun j _ _ => (fun _ => rfl) j) (fun j _ _ => (fun _ => rfl) j) | (exfalso; omega)) (by first | exact hI | exact LWL_k hd7 hM (fun j _ => (fun _ => rfl) j) (fun j _ => (fun _ => rfl) j) (fun j _ => (fun _ => rfl) j) (fun j _ _ => (fun _ => rfl) j) | (exfalso; omega)) (by first | exact hI | exact LWL_k hd8 hM2 (fun j _ => (fun _ => rfl) j) (fun j _ => (fun _ => rfl) j) (fun j _ => (fun _ => rfl) j) (fun j _ _ => (fun _ => rfl) j) | (exfalso; omega)) (by first | exact hI | exact CHL_k hd9 hM (fun j _ => (fun _ => rfl) j) (by omega) (fun j _ _ => (fun _ => rfl) j) | (exfalso; omega)) (by first | exact hI | exact CHL_k hd10 hM2 (fun j _ => (fun _ => rfl) j) (by omega) (fun j _ _ => (fun _ => rfl) j) | (exfalso; omega))
    · skip
      refine go_toq PM267 (k := 2) (pc' := 1435) (L' := [some (.inr (.inr (some 3000))), some (.inr (.inr (some 0))), some (.inr (.inr (some 79))), some (.inl i)]) (st' := []) (w' := (SH, dt)) rfl ?_
      exact K dt hI hM hM2 hk0 hk1 hk2 hk3 hk4 hk5 hk6 hk7 hk8 hk9 hk10 hk11 hk12 hk13 hk14 hk15 (by first | exact hI | exact TPL_k hd0 (fun _ => rfl) (fun _ => rfl) (by omega) | (exfalso; omega)) (by first | exact hI | exact SCL_k hd1 hM (fun j _ => (fun _ => rfl) j) (fun j _ => (fun _ => rfl) j) (fun j _ _ => (fun _ => rfl) j) | (exfalso; omega)) (by first | exact hI | exact SCL_k hd2 hM2 (fun j _ => (fun _ => rfl) j) (fun j _ => (fun _ => rfl) j) (fun j _ _ => (fun _ => rfl) j) | (exfalso; omega)) (by first | exact hI | exact QRL_k hd3 hM (fun j _ => (fun _ => rfl) j) ((fun _ => rfl) 1) (fun j _ _ => (fun _ => rfl) j) | (exfalso; omega)) (by first | exact hI | exact QRL_k hd4 hM2 (fun j _ => (fun _ => rfl) j) ((fun _ => rfl) 1) (fun j _ _ => (fun _ => rfl) j) | (exfalso; omega)) (by first | exact hI | exact SDL_k hd5 hM (fun j _ => (fun _ => rfl) j) ((fun _ => rfl) 1) (fun j _ _ => (fun _ => rfl) j) (fun j _ _ => (fun _ => rfl) j) | (exfalso; omega)) (by first | exact hI | exact SDL_k hd6 hM2 (fun j _ => (fun _ => rfl) j) ((fun _ => rfl) 1) (fun j _ _ => (fun _ => rfl) j) (fun j _ _ => (fun _ => rfl) j) | (exfalso; omega)) (by first | exact hI | exact LWL_k hd7 hM (fun j _ => (fun _ => rfl) j) (fun j _ => (fun _ => rfl) j) (fun j _ => (fun _ => rfl) j) (fun j _ _ => (fun _ => rfl) j) | (exfalso; omega)) (by first | exact hI | exact LWL_k hd8 hM2 (fun j _ => (fun _ => rfl) j) (fun j _ => (fun _ => rfl) j) (fun j _ => (fun _ => rfl) j) (fun j _ _ => (fun _ => rfl) j) | (exfalso; omega)) (by first | exact hI | exact CHL_k hd9 hM (fun j _ => (fun _ => rfl) j) (by omega) (fun j _ _ => (fun _ => rfl) j) | (exfalso; omega)) (by first | exact hI | exact CHL_k hd10 hM2 (fun j _ => (fun _ => rfl) j) (by omega) (fun j _ _ => (fun _ => rfl) j) | (exfalso; omega))
  · skip
    refine go_toq PM267 (k := 6) (pc' := 1427) (L' := [some (.inr (.inr (some 3000))), some (.inr (.inr (some 0))), some (.inr (.inr (some 79))), some (.inl i)]) (st' := [.inl (i + 1), .inr (.inr (some 3000)), .inr (.inr (some 79))]) (w' := (SH, dt)) rfl ?_
    refine go_smpq PM267 (L' := [some (.inr (.inr (some 3000))), some (.inr (.inr (some 0))), some (.inr (.inr (some 79))), some (.inl i)]) (st' := [.inl ((xs ((i + 1).toNat)).toInt), .inr (.inr (some 79))]) (w' := (SH, dt)) rfl rfl (s_iald (n := L) (f := fun j => (xs j).toInt) (am_scr hLL) ⟨by omega, by omega⟩) ?_
    refine go_callq PM267 PM248 (Q' := _) rfl rfl rfl rfl (sp_X6_look L xs sio (d + 38) dt hI  ((xs ((i + 1).toNat)).toInt) ⟨by omega, by omega⟩ ) ?_
    rintro _ _ ⟨rfl, h8⟩
    refine ⟨rfl, ?_⟩
    rcases h8 with ⟨rfl, h8⟩ | ⟨rfl, h8⟩ | ⟨rfl, h8⟩ | ⟨rfl, h8⟩ | ⟨rfl, h8⟩ | ⟨rfl, h8⟩ | ⟨rfl, h8⟩ | ⟨rfl, h8⟩ | ⟨rfl, h8⟩
    · skip
      refine go_toq PM267 (k := 2) (pc' := 1435) (L' := [some (.inr (.inr (some 3000))), some (.inr (.inr (some 0))), some (.inr (.inr (some 79))), some (.inl i)]) (st' := []) (w' := (SH, dt)) rfl ?_
      exact K dt hI hM hM2 hk0 hk1 hk2 hk3 hk4 hk5 hk6 hk7 hk8 hk9 hk10 hk11 hk12 hk13 hk14 hk15 (by first | exact hI | exact TPL_k hd0 (fun _ => rfl) (fun _ => rfl) (by omega) | (exfalso; omega)) (by first | exact hI | exact SCL_k hd1 hM (fun j _ => (fun _ => rfl) j) (fun j _ => (fun _ => rfl) j) (fun j _ _ => (fun _ => rfl) j) | (exfalso; omega)) (by first | exact hI | exact SCL_k hd2 hM2 (fun j _ => (fun _ => rfl) j) (fun j _ => (fun _ => rfl) j) (fun j _ _ => (fun _ => rfl) j) | (exfalso; omega)) (by first | exact hI | exact QRL_k hd3 hM (fun j _ => (fun _ => rfl) j) ((fun _ => rfl) 1) (fun j _ _ => (fun _ => rfl) j) | (exfalso; omega)) (by first | exact hI | exact QRL_k hd4 hM2 (fun j _ => (fun _ => rfl) j) ((fun _ => rfl) 1) (fun j _ _ => (fun _ => rfl) j) | (exfalso; omega)) (by first | exact hI | exact SDL_k hd5 hM (fun j _ => (fun _ => rfl) j) ((fun _ => rfl) 1) (fun j _ _ => (fun _ => rfl) j) (fun j _ _ => (fun _ => rfl) j) | (exfalso; omega)) (by first | exact hI | exact SDL_k hd6 hM2 (fun j _ => (fun _ => rfl) j) ((fun _ => rfl) 1) (fun j _ _ => (fun _ => rfl) j) (fun j _ _ => (fun _ => rfl) j) | (exfalso; omega)) (by first | exact hI | exact LWL_k hd7 hM (fun j _ => (fun _ => rfl) j) (fun j _ => (fun _ => rfl) j) (fun j _ => (fun _ => rfl) j) (fun j _ _ => (fun _ => rfl) j) | (exfalso; omega)) (by first | exact hI | exact LWL_k hd8 hM2 (fun j _ => (fun _ => rfl) j) (fun j _ => (fun _ => rfl) j) (fun j _ => (fun _ => rfl) j) (fun j _ _ => (fun _ => rfl) j) | (exfalso; omega)) (by first | exact hI | exact CHL_k hd9 hM (fun j _ => (fun _ => rfl) j) (by omega) (fun j _ _ => (fun _ => rfl) j) | (exfalso; omega)) (by first | exact hI | exact CHL_k hd10 hM2 (fun j _ => (fun _ => rfl) j) (by omega) (fun j _ _ => (fun _ => rfl) j) | (exfalso; omega))
    · skip
      refine go_toq PM267 (k := 2) (pc' := 1435) (L' := [some (.inr (.inr (some 3000))), some (.inr (.inr (some 0))), some (.inr (.inr (some 79))), some (.inl i)]) (st' := []) (w' := (SH, dt)) rfl ?_
      exact K dt hI hM hM2 hk0 hk1 hk2 hk3 hk4 hk5 hk6 hk7 hk8 hk9 hk10 hk11 hk12 hk13 hk14 hk15 (by first | exact hI | exact TPL_k hd0 (fun _ => rfl) (fun _ => rfl) (by omega) | (exfalso; omega)) (by first | exact hI | exact SCL_k hd1 hM (fun j _ => (fun _ => rfl) j) (fun j _ => (fun _ => rfl) j) (fun j _ _ => (fun _ => rfl) j) | (exfalso; omega)) (by first | exact hI | exact SCL_k hd2 hM2 (fun j _ => (fun _ => rfl) j) (fun j _ => (fun _ => rfl) j) (fun j _ _ => (fun _ => rfl) j) | (exfalso; omega)) (by first | exact hI | exact QRL_k hd3 hM (fun j _ => (fun _ => rfl) j) ((fun _ => rfl) 1) (fun j _ _ => (fun _ => rfl) j) | (exfalso; omega)) (by first | exact hI | exact QRL_k hd4 hM2 (fun j _ => (fun _ => rfl) j) ((fun _ => rfl) 1) (fun j _ _ => (fun _ => rfl) j) | (exfalso; omega)) (by first | exact hI | exact SDL_k hd5 hM (fun j _ => (fun _ => rfl) j) ((fun _ => rfl) 1) (fun j _ _ => (fun _ => rfl) j) (fun j _ _ => (fun _ => rfl) j) | (exfalso; omega)) (by first | exact hI | exact SDL_k hd6 hM2 (fun j _ => (fun _ => rfl) j) ((fun _ => rfl) 1) (fun j _ _ => (fun _ => rfl) j) (fun j _ _ => (fun _ => rfl) j) | (exfalso; omega)) (by first | exact hI | exact LWL_k hd7 hM (fun j _ => (fun _ => rfl) j) (fun j _ => (fun _ => rfl) j) (fun j _ => (fun _ => rfl) j) (fun j _ _ => (fun _ => rfl) j) | (exfalso; omega)) (by first | exact hI | exact LWL_k hd8 hM2 (fun j _ => (fun _ => rfl) j) (fun j _ => (fun _ => rfl) j) (fun j _ => (fun _ => rfl) j) (fun j _ _ => (fun _ => rfl) j) | (exfalso; omega)) (by first | exact hI | exact CHL_k hd9 hM (fun j _ => (fun _ => rfl) j) (by omega) (fun j _ _ => (fun _ => rfl) j) | (exfalso; omega)) (by first | exact hI | exact CHL_k hd10 hM2 (fun j _ => (fun _ => rfl) j) (by omega) (fun j _ _ => (fun _ => rfl) j) | (exfalso; omega))
    · skip
      refine go_toq PM267 (k := 2) (pc' := 1435) (L' := [some (.inr (.inr (some 3000))), some (.inr (.inr (some 0))), some (.inr (.inr (some 79))), some (.inl i)]) (st' := []) (w' := (SH, dt)) rfl ?_
      exact K dt hI hM hM2 hk0 hk1 hk2 hk3 hk4 hk5 hk6 hk7 hk8 hk9 hk10 hk11 hk12 hk13 hk14 hk15 (by first | exact hI | exact TPL_k hd0 (fun _ => rfl) (fun _ => rfl) (by omega) | (exfalso; omega)) (by first | exact hI | exact SCL_k hd1 hM (fun j _ => (fun _ => rfl) j) (fun j _ => (fun _ => rfl) j) (fun j _ _ => (fun _ => rfl) j) | (exfalso; omega)) (by first | exact hI | exact SCL_k hd2 hM2 (fun j _ => (fun _ => rfl) j) (fun j _ => (fun _ => rfl) j) (fun j _ _ => (fun _ => rfl) j) | (exfalso; omega)) (by first | exact hI | exact QRL_k hd3 hM (fun j _ => (fun _ => rfl) j) ((fun _ => rfl) 1) (fun j _ _ => (fun _ => rfl) j) | (exfalso; omega)) (by first | exact hI | exact QRL_k hd4 hM2 (fun j _ => (fun _ => rfl) j) ((fun _ => rfl) 1) (fun j _ _ => (fun _ => rfl) j) | (exfalso; omega)) (by first | exact hI | exact SDL_k hd5 hM (fun j _ => (fun _ => rfl) j) ((fun _ => rfl) 1) (fun j _ _ => (fun _ => rfl) j) (fun j _ _ => (fun _ => rfl) j) | (exfalso; omega)) (by first | exact hI | exact SDL_k hd6 hM2 (fun j _ => (fun _ => rfl) j) ((fun _ => rfl) 1) (fun j _ _ => (fun _ => rfl) j) (fun j _ _ => (fun _ => rfl) j) | (exfalso; omega)) (by first | exact hI | exact LWL_k hd7 hM (fun j _ => (fun _ => rfl) j) (fun j _ => (fun _ => rfl) j) (fun j _ => (fun _ => rfl) j) (fun j _ _ => (fun _ => rfl) j) | (exfalso; omega)) (by first | exact hI | exact LWL_k hd8 hM2 (fun j _ => (fun _ => rfl) j) (fun j _ => (fun _ => rfl) j) (fun j _ => (fun _ => rfl) j) (fun j _ _ => (fun _ => rfl) j) | (exfalso; omega)) (by first | exact hI | exact CHL_k hd9 hM (fun j _ => (fun _ => rfl) j) (by omega) (fun j _ _ => (fun _ => rfl) j) | (exfalso; omega)) (by first | exact hI | exact CHL_k hd10 hM2 (fun j _ => (fun _ => rfl) j) (by omega) (fun j _ _ => (fun _ => rfl) j) | (exfalso; omega))
    · skip
      refine go_toq PM267 (k := 2) (pc' := 1435) (L' := [some (.inr (.inr (some 3000))), some (.inr (.inr (some 0))), some (.inr (.inr (some 79))), some (.inl i)]) (st' := []) (w' := (SH, dt)) rfl ?_
      exact K dt hI hM hM2 hk0 hk1 hk2 hk3 hk4 hk5 hk6 hk7 hk8 hk9 hk10 hk11 hk12 hk13 hk14 hk15 (by first | exact hI | exact TPL_k hd0 (fun _ => rfl) (fun _ => rfl) (by omega) | (exfalso; omega)) (by first | exact hI | exact SCL_k hd1 hM (fun j _ => (fun _ => rfl) j) (fun j _ => (fun _ => rfl) j) (fun j _ _ => (fun _ => rfl) j) | (exfalso; omega)) (by first | exact hI | exact SCL_k hd2 hM2 (fun j _ => (fun _ => rfl) j) (fun j _ => (fun _ => rfl) j) (fun j _ _ => (fun _ => rfl) j) | (exfalso; omega)) (by first | exact hI | exact QRL_k hd3 hM (fun j _ => (fun _ => rfl) j) ((fun _ => rfl) 1) (fun j _ _ => (fun _ => rfl) j) | (exfalso; omega)) (by first | exact hI | exact QRL_k hd4 hM2 (fun j _ => (fun _ => rfl) j) ((fun _ => rfl) 1) (fun j _ _ => (fun _ => rfl) j) | (exfalso; omega)) (by first | exact hI | exact SDL_k hd5 hM (fun j _ => (fun _ => rfl) j) ((fun _ => rfl) 1) (fun j _ _ => (fun _ => rfl) j) (fun j _ _ => (fun _ => rfl) j) | (exfalso; omega)) (by first | exact hI | exact SDL_k hd6 hM2 (fun j _ => (fun _ => rfl) j) ((fun _ => rfl) 1) (fun j _ _ => (fun _ => rfl) j) (fun j _ _ => (fun _ => rfl) j) | (exfalso; omega)) (by first | exact hI | exact LWL_k hd7 hM (fun j _ => (fun _ => rfl) j) (fun j _ => (fun _ => rfl) j) (fun j _ => (fun _ => rfl) j) (fun j _ _ => (fun _ => rfl) j) | (exfalso; omega)) (by first | exact hI | exact LWL_k hd8 hM2 (fun j _ => (fun _ => rfl) j) (fun j _ => (fun _ => rfl) j) (fun j _ => (fun _ => rfl) j) (fun j _ _ => (fun _ => rfl) j) | (exfalso; omega)) (by first | exact hI | exact CHL_k hd9 hM (fun j _ => (fun _ => rfl) j) (by omega) (fun j _ _ => (fun _ => rfl) j) | (exfalso; omega)) (by first | exact hI | exact CHL_k hd10 hM2 (fun j _ => (fun _ => rfl) j) (by omega) (fun j _ _ => (fun _ => rfl) j) | (exfalso; omega))
    · skip
      refine go_toq PM267 (k := 2) (pc' := 1435) (L' := [some (.inr (.inr (some 3000))), some (.inr (.inr (some 0))), some (.inr (.inr (some 79))), some (.inl i)]) (st' := []) (w' := (SH, dt)) rfl ?_
      exact K dt hI hM hM2 hk0 hk1 hk2 hk3 hk4 hk5 hk6 hk7 hk8 hk9 hk10 hk11 hk12 hk13 hk14 hk15 (by first | exact hI | exact TPL_k hd0 (fun _ => rfl) (fun _ => rfl) (by omega) | (exfalso; omega)) (by first | exact hI | exact SCL_k hd1 hM (fun j _ => (fun _ => rfl) j) (fun j _ => (fun _ => rfl) j) (fun j _ _ => (fun _ => rfl) j) | (exfalso; omega)) (by first | exact hI | exact SCL_k hd2 hM2 (fun j _ => (fun _ => rfl) j) (fun j _ => (fun _ => rfl) j) (fun j _ _ => (fun _ => rfl) j) | (exfalso; omega)) (by first | exact hI | exact QRL_k hd3 hM (fun j _ => (fun _ => rfl) j) ((fun _ => rfl) 1) (fun j _ _ => (fun _ => rfl) j) | (exfalso; omega)) (by first | exact hI | exact QRL_k hd4 hM2 (fun j _ => (fun _ => rfl) j) ((fun _ => rfl) 1) (fun j _ _ => (fun _ => rfl) j) | (exfalso; omega)) (by first | exact hI | exact SDL_k hd5 hM (fun j _ => (fun _ => rfl) j) ((fun _ => rfl) 1) (fun j _ _ => (fun _ => rfl) j) (fun j _ _ => (fun _ => rfl) j) | (exfalso; omega)) (by first | exact hI | exact SDL_k hd6 hM2 (fun j _ => (fun _ => rfl) j) ((fun _ => rfl) 1) (fun j _ _ => (fun _ => rfl) j) (fun j _ _ => (fun _ => rfl) j) | (exfalso; omega)) (by first | exact hI | exact LWL_k hd7 hM (fun j _ => (fun _ => rfl) j) (fun j _ => (fun _ => rfl) j) (fun j _ => (fun _ => rfl) j) (fun j _ _ => (fun _ => rfl) j) | (exfalso; omega)) (by first | exact hI | exact LWL_k hd8 hM2 (fun j _ => (fun _ => rfl) j) (fun j _ => (fun _ => rfl) j) (fun j _ => (fun _ => rfl) j) (fun j _ _ => (fun _ => rfl) j) | (exfalso; omega)) (by first | exact hI | exact CHL_k hd9 hM (fun j _ => (fun _ => rfl) j) (by omega) (fun j _ _ => (fun _ => rfl) j) | (exfalso; omega)) (by first | exact hI | exact CHL_k hd10 hM2 (fun j _ => (fun _ => rfl) j) (by omega) (fun j _ _ => (fun _ => rfl) j) | (exfalso; omega))
    · skip
      refine go_toq PM267 (k := 2) (pc' := 1435) (L' := [some (.inr (.inr (some 3000))), some (.inr (.inr (some 0))), some (.inr (.inr (some 79))), some (.inl i)]) (st' := []) (w' := (SH, dt)) rfl ?_
      exact K dt hI hM hM2 hk0 hk1 hk2 hk3 hk4 hk5 hk6 hk7 hk8 hk9 hk10 hk11 hk12 hk13 hk14 hk15 (by first | exact hI | exact TPL_k hd0 (fun _ => rfl) (fun _ => rfl) (by omega) | (exfalso; omega)) (by first | exact hI | exact SCL_k hd1 hM (fun j _ => (fun _ => rfl) j) (fun j _ => (fun _ => rfl) j) (fun j _ _ => (fun _ => rfl) j) | (exfalso; omega)) (by first | exact hI | exact SCL_k hd2 hM2 (fun j _ => (fun _ => rfl) j) (fun j _ => (fun _ => rfl) j) (fun j _ _ => (fun _ => rfl) j) | (exfalso; omega)) (by first | exact hI | exact QRL_k hd3 hM (fun j _ => (fun _ => rfl) j) ((fun _ => rfl) 1) (fun j _ _ => (fun _ => rfl) j) | (exfalso; omega)) (by first | exact hI | exact QRL_k hd4 hM2 (fun j _ => (fun _ => rfl) j) ((fun _ => rfl) 1) (fun j _ _ => (fun _ => rfl) j) | (exfalso; omega)) (by first | exact hI | exact SDL_k hd5 hM (fun j _ => (fun _ => rfl) j) ((fun _ => rfl) 1) (fun j _ _ => (fun _ => rfl) j) (fun j _ _ => (fun _ => rfl) j) | (exfalso; omega)) (by first | exact hI | exact SDL_k hd6 hM2 (fun j _ => (fun _ => rfl) j) ((fun _ => rfl) 1) (fun j _ _ => (fun _ => rfl) j) (fun j _ _ => (fun _ => rfl) j) | (exfalso; omega)) (by first | exact hI | exact LWL_k hd7 hM (fun j _ => (fun _ => rfl) j) (fun j _ => (fun _ => rfl) j) (fun j _ => (fun _ => rfl) j) (fun j _ _ => (fun _ => rfl) j) | (exfalso; omega)) (by first | exact hI | exact LWL_k hd8 hM2 (fun j _ => (fun _ => rfl) j) (fun j _ => (fun _ => rfl) j) (fun j _ => (fun _ => rfl) j) (fun j _ _ => (fun _ => rfl) j) | (exfalso; omega)) (by first | exact hI | exact CHL_k hd9 hM (fun j _ => (fun _ => rfl) j) (by omega) (fun j _ _ => (fun _ => rfl) j) | (exfalso; omega)) (by first | exact hI | exact CHL_k hd10 hM2 (fun j _ => (fun _ => rfl) j) (by omega) (fun j _ _ => (fun _ => rfl) j) | (exfalso; omega))
    · skip
      obtain ⟨h8_0, h8_1⟩ := h8
      replace h8_1 := hid h8_1
      refine go_toq PM267 (k := 2) (pc' := 1435) (L' := [some (.inr (.inr (some 3000))), some (.inr (.inr (some 0))), some (.inr (.inr (some 79))), some (.inl i)]) (st' := []) (w' := (SH, dt)) rfl ?_
      exact K dt hI hM hM2 hk0 hk1 hk2 hk3 hk4 hk5 hk6 hk7 hk8 hk9 hk10 hk11 hk12 hk13 hk14 hk15 (by first | exact hI | exact TPL_k hd0 (fun _ => rfl) (fun _ => rfl) (by (first | omega | (have z0_ := unhid h8_1; omega))) | (exfalso; (first | omega | (have z0_ := unhid h8_1; omega)))) (by first | exact hI | exact SCL_k hd1 hM (fun j _ => (fun _ => rfl) j) (fun j _ => (fun _ => rfl) j) (fun j _ _ => (fun _ => rfl) j) | (exfalso; (first | omega | (have z0_ := unhid h8_1; omega)))) (by first | exact hI | exact SCL_k hd2 hM2 (fun j _ => (fun _ => rfl) j) (fun j _ => (fun _ => rfl) j) (fun j _ _ => (fun _ => rfl) j) | (exfalso; (first | omega | (have z0_ := unhid h8_1; omega)))) (by first | exact hI | exact QRL_k hd3 hM (fun j _ => (fun _ => rfl) j) ((fun _ => rfl) 1) (fun j _ _ => (fun _ => rfl) j) | (exfalso; (first | omega | (have z0_ := unhid h8_1; omega)))) (by first | exact hI | exact QRL_k hd4 hM2 (fun j _ => (fun _ => rfl) j) ((fun _ => rfl) 1) (fun j _ _ => (fun _ => rfl) j) | (exfalso; (first | omega | (have z0_ := unhid h8_1; omega)))) (by first | exact hI | exact SDL_k hd5 hM (fun j _ => (fun _ => rfl) j) ((fun _ => rfl) 1) (fun j _ _ => (fun _ => rfl) j) (fun j _ _ => (fun _ => rfl) j) | (exfalso; (first | omega | (have z0_ := unhid h8_1; omega)))) (by first | exact hI | exact SDL_k hd6 hM2 (fun j _ => (fun _ => rfl) j) ((fun _ => rfl) 1) (fun j _ _ => (fun _ => rfl) j) (fun j _ _ => (fun _ => rfl) j) | (exfalso; (first | omega | (have z0_ := unhid h8_1; omega)))) (by first | exact hI | exact LWL_k hd7 hM (fun j _ => (fun _ => rfl) j) (fun j _ => (fun _ => rfl) j) (fun j _ => (fun _ => rfl) j) (fun j _ _ => (fun _ => rfl) j) | (exfalso; (first | omega | (have z0_ := unhid h8_1; omega)))) (by first | exact hI | exact LWL_k hd8 hM2 (fun j _ => (fun _ => rfl) j) (fun j _ => (fun _ => rfl) j) (fun j _ => (fun _ => rfl) j) (fun j _ _ => (fun _ => rfl) j) | (exfalso; (first | omega | (have z0_ := unhid h8_1; omega)))) (by first | exact hI | exact CHL_k hd9 hM (fun j _ => (fun _ => rfl) j) (by (first | omega | (have z0_ := unhid h8_1; omega))) (fun j _ _ => (fun _ => rfl) j) | (exfalso; (first | omega | (have z0_ := unhid h8_1; omega)))) (by first | exact hI | exact CHL_k hd10 hM2 (fun j _ => (fun _ => rfl) j) (by (first | omega | (have z0_ := unhid h8_1; omega))) (fun j _ _ => (fun _ => rfl) j) | (exfalso; (first | omega | (have z0_ := unhid h8_1; omega))))
    · skip
      obtain ⟨h8_0, h8_1⟩ := h8
      refine go_toq PM267 (k := 2) (pc' := 1435) (L' := [some (.inr (.inr (some 3000))), some (.inr (.inr (some 0))), some (.inr (.inr (some 79))), some (.inl i)]) (st' := []) (w' := (SH, dt)) rfl ?_
      exact K dt hI hM hM2 hk0 hk1 hk2 hk3 hk4 hk5 hk6 hk7 hk8 hk9 hk10 hk11 hk12 hk13 hk14 hk15 (by first | exact hI | exact TPL_k hd0 (fun _ => rfl) (fun _ => rfl) (by omega) | (exfalso; omega)) (by first | exact hI | exact SCL_k hd1 hM (fun j _ => (fun _ => rfl) j) (fun j _ => (fun _ => rfl) j) (fun j _ _ => (fun _ => rfl) j) | (exfalso; omega)) (by first | exact hI | exact SCL_k hd2 hM2 (fun j _ => (fun _ => rfl) j) (fun j _ => (fun _ => rfl) j) (fun j _ _ => (fun _ => rfl) j) | (exfalso; omega)) (by first | exact hI | exact QRL_k hd3 hM (fun j _ => (fun _ => rfl) j) ((fun _ => rfl) 1) (fun j _ _ => (fun _ => rfl) j) | (exfalso; omega)) (by first | exact hI | exact QRL_k hd4 hM2 (fun j _ => (fun _ => rfl) j) ((fun _ => rfl) 1) (fun j _ _ => (fun _ => rfl) j) | (exfalso; omega)) (by first | exact hI | exact SDL_k hd5 hM (fun j _ => (fun _ => rfl) j) ((fun _ => rfl) 1) (fun j _ _ => (fun _ => rfl) j) (fun j _ _ => (fun _ => rfl) j) | (exfalso; omega)) (by first | exact hI | exact SDL_k hd6 hM2 (fun j _ => (fun _ => rfl) j) ((fun _ => rfl) 1) (fun j _ _ => (fun _ => rfl) j) (fun j _ _ => (fun _ => rfl) j) | (exfalso; omega)) (by first | exact hI | exact LWL_k hd7 hM (fun j _ => (fun _ => rfl) j) (fun j _ => (fun _ => rfl) j) (fun j _ => (fun _ => rfl) j) (fun j _ _ => (fun _ => rfl) j) | (exfalso; omega)) (by first | exact hI | exact LWL_k hd8 hM2 (fun j _ => (fun _ => rfl) j) (fun j _ => (fun _ => rfl) j) (fun j _ => (fun _ => rfl) j) (fun j _ _ => (fun _ => rfl) j) | (exfalso; omega)) (by first | exact hI | exact CHL_k hd9 hM (fun j _ => (fun _ => rfl) j) (by omega) (fun j _ _ => (fun _ => rfl) j) | (exfalso; omega)) (by first | exact hI | exact CHL_k hd10 hM2 (fun j _ => (fun _ => rfl) j) (by omega) (fun j _ _ => (fun _ => rfl) j) | (exfalso; omega))
    · skip
      refine go_toq PM267 (k := 2) (pc' := 1435) (L' := [some (.inr (.inr (some 3000))), some (.inr (.inr (some 0))), some (.inr (.inr (some 79))), some (.inl i)]) (st' := []) (w' := (SH, dt)) rfl ?_
      exact K dt hI hM hM2 hk0 hk1 hk2 hk3 hk4 hk5 hk6 hk7 hk8 hk9 hk10 hk11 hk12 hk13 hk14 hk15 (by first | exact hI | exact TPL_k hd0 (fun _ => rfl) (fun _ => rfl) (by omega) | (exfalso; omega)) (by first | exact hI | exact SCL_k hd1 hM (fun j _ => (fun _ => rfl) j) (fun j _ => (fun _ => rfl) j) (fun j _ _ => (fun _ => rfl) j) | (exfalso; omega)) (by first | exact hI | exact SCL_k hd2 hM2 (fun j _ => (fun _ => rfl) j) (fun j _ => (fun _ => rfl) j) (fun j _ _ => (fun _ => rfl) j) | (exfalso; omega)) (by first | exact hI | exact QRL_k hd3 hM (fun j _ => (fun _ => rfl) j) ((fun _ => rfl) 1) (fun j _ _ => (fun _ => rfl) j) | (exfalso; omega)) (by first | exact hI | exact QRL_k hd4 hM2 (fun j _ => (fun _ => rfl) j) ((fun _ => rfl) 1) (fun j _ _ => (fun _ => rfl) j) | (exfalso; omega)) (by first | exact hI | exact SDL_k hd5 hM (fun j _ => (fun _ => rfl) j) ((fun _ => rfl) 1) (fun j _ _ => (fun _ => rfl) j) (fun j _ _ => (fun _ => rfl) j) | (exfalso; omega)) (by first | exact hI | exact SDL_k hd6 hM2 (fun j _ => (fun _ => rfl) j) ((fun _ => rfl) 1) (fun j _ _ => (fun _ => rfl) j) (fun j _ _ => (fun _ => rfl) j) | (exfalso; omega)) (by first | exact hI | exact LWL_k hd7 hM (fun j _ => (fun _ => rfl) j) (fun j _ => (fun _ => rfl) j) (fun j _ => (fun _ => rfl) j) (fun j _ _ => (fun _ => rfl) j) | (exfalso; omega)) (by first | exact hI | exact LWL_k hd8 hM2 (fun j _ => (fun _ => rfl) j) (fun j _ => (fun _ => rfl) j) (fun j _ => (fun _ => rfl) j) (fun j _ _ => (fun _ => rfl) j) | (exfalso; omega)) (by first | exact hI | exact CHL_k hd9 hM (fun j _ => (fun _ => rfl) j) (by omega) (fun j _ _ => (fun _ => rfl) j) | (exfalso; omega)) (by first | exact hI | exact CHL_k hd10 hM2 (fun j _ => (fun _ => rfl) j) (by omega) (fun j _ _ => (fun _ => rfl) j) | (exfalso; omega))
  · skip
    obtain ⟨h2_0, h2_1⟩ := h2
    refine go_toq PM267 (k := 6) (pc' := 1427) (L' := [some (.inr (.inr (some 3000))), some (.inr (.inr (some 0))), some (.inr (.inr (some 79))), some (.inl i)]) (st' := [.inl (i + 1), .inr (.inr (some 3000)), .inr (.inr (some 79))]) (w' := (SH, dt)) rfl ?_
    refine go_smpq PM267 (L' := [some (.inr (.inr (some 3000))), some (.inr (.inr (some 0))), some (.inr (.inr (some 79))), some (.inl i)]) (st' := [.inl ((xs ((i + 1).toNat)).toInt), .inr (.inr (some 79))]) (w' := (SH, dt)) rfl rfl (s_iald (n := L) (f := fun j => (xs j).toInt) (am_scr hLL) ⟨by omega, by omega⟩) ?_
    refine go_callq PM267 PM248 (Q' := _) rfl rfl rfl rfl (sp_X6_look L xs sio (d + 38) dt hI  ((xs ((i + 1).toNat)).toInt) ⟨by omega, by omega⟩ ) ?_
    rintro _ _ ⟨rfl, h9⟩
    refine ⟨rfl, ?_⟩
    rcases h9 with ⟨rfl, h9⟩ | ⟨rfl, h9⟩ | ⟨rfl, h9⟩ | ⟨rfl, h9⟩ | ⟨rfl, h9⟩ | ⟨rfl, h9⟩ | ⟨rfl, h9⟩ | ⟨rfl, h9⟩ | ⟨rfl, h9⟩
    · skip
      refine go_toq PM267 (k := 2) (pc' := 1435) (L' := [some (.inr (.inr (some 3000))), some (.inr (.inr (some 0))), some (.inr (.inr (some 79))), some (.inl i)]) (st' := []) (w' := (SH, dt)) rfl ?_
      exact K dt hI hM hM2 hk0 hk1 hk2 hk3 hk4 hk5 hk6 hk7 hk8 hk9 hk10 hk11 hk12 hk13 hk14 hk15 (by first | exact hI | exact TPL_k hd0 (fun _ => rfl) (fun _ => rfl) (by omega) | (exfalso; omega)) (by first | exact hI | exact SCL_k hd1 hM (fun j _ => (fun _ => rfl) j) (fun j _ => (fun _ => rfl) j) (fun j _ _ => (fun _ => rfl) j) | (exfalso; omega)) (by first | exact hI | exact SCL_k hd2 hM2 (fun j _ => (fun _ => rfl) j) (fun j _ => (fun _ => rfl) j) (fun j _ _ => (fun _ => rfl) j) | (exfalso; omega)) (by first | exact hI | exact QRL_k hd3 hM (fun j _ => (fun _ => rfl) j) ((fun _ => rfl) 1) (fun j _ _ => (fun _ => rfl) j) | (exfalso; omega)) (by first | exact hI | exact QRL_k hd4 hM2 (fun j _ => (fun _ => rfl) j) ((fun _ => rfl) 1) (fun j _ _ => (fun _ => rfl) j) | (exfalso; omega)) (by first | exact hI | exact SDL_k hd5 hM (fun j _ => (fun _ => rfl) j) ((fun _ => rfl) 1) (fun j _ _ => (fun _ => rfl) j) (fun j _ _ => (fun _ => rfl) j) | (exfalso; omega)) (by first | exact hI | exact SDL_k hd6 hM2 (fun j _ => (fun _ => rfl) j) ((fun _ => rfl) 1) (fun j _ _ => (fun _ => rfl) j) (fun j _ _ => (fun _ => rfl) j) | (exfalso; omega)) (by first | exact hI | exact LWL_k hd7 hM (fun j _ => (fun _ => rfl) j) (fun j _ => (fun _ => rfl) j) (fun j _ => (fun _ => rfl) j) (fun j _ _ => (fun _ => rfl) j) | (exfalso; omega)) (by first | exact hI | exact LWL_k hd8 hM2 (fun j _ => (fun _ => rfl) j) (fun j _ => (fun _ => rfl) j) (fun j _ => (fun _ => rfl) j) (fun j _ _ => (fun _ => rfl) j) | (exfalso; omega)) (by first | exact hI | exact CHL_k hd9 hM (fun j _ => (fun _ => rfl) j) (by omega) (fun j _ _ => (fun _ => rfl) j) | (exfalso; omega)) (by first | exact hI | exact CHL_k hd10 hM2 (fun j _ => (fun _ => rfl) j) (by omega) (fun j _ _ => (fun _ => rfl) j) | (exfalso; omega))
    · skip
      refine go_toq PM267 (k := 2) (pc' := 1435) (L' := [some (.inr (.inr (some 3000))), some (.inr (.inr (some 0))), some (.inr (.inr (some 79))), some (.inl i)]) (st' := []) (w' := (SH, dt)) rfl ?_
      exact K dt hI hM hM2 hk0 hk1 hk2 hk3 hk4 hk5 hk6 hk7 hk8 hk9 hk10 hk11 hk12 hk13 hk14 hk15 (by first | exact hI | exact TPL_k hd0 (fun _ => rfl) (fun _ => rfl) (by omega) | (exfalso; omega)) (by first | exact hI | exact SCL_k hd1 hM (fun j _ => (fun _ => rfl) j) (fun j _ => (fun _ => rfl) j) (fun j _ _ => (fun _ => rfl) j) | (exfalso; omega)) (by first | exact hI | exact SCL_k hd2 hM2 (fun j _ => (fun _ => rfl) j) (fun j _ => (fun _ => rfl) j) (fun j _ _ => (fun _ => rfl) j) | (exfalso; omega)) (by first | exact hI | exact QRL_k hd3 hM (fun j _ => (fun _ => rfl) j) ((fun _ => rfl) 1) (fun j _ _ => (fun _ => rfl) j) | (exfalso; omega)) (by first | exact hI | exact QRL_k hd4 hM2 (fun j _ => (fun _ => rfl) j) ((fun _ => rfl) 1) (fun j _ _ => (fun _ => rfl) j) | (exfalso; omega)) (by first | exact hI | exact SDL_k hd5 hM (fun j _ => (fun _ => rfl) j) ((fun _ => rfl) 1) (fun j _ _ => (fun _ => rfl) j) (fun j _ _ => (fun _ => rfl) j) | (exfalso; omega)) (by first | exact hI | exact SDL_k hd6 hM2 (fun j _ => (fun _ => rfl) j) ((fun _ => rfl) 1) (fun j _ _ => (fun _ => rfl) j) (fun j _ _ => (fun _ => rfl) j) | (exfalso; omega)) (by first | exact hI | exact LWL_k hd7 hM (fun j _ => (fun _ => rfl) j) (fun j _ => (fun _ => rfl) j) (fun j _ => (fun _ => rfl) j) (fun j _ _ => (fun _ => rfl) j) | (exfalso; omega)) (by first | exact hI | exact LWL_k hd8 hM2 (fun j _ => (fun _ => rfl) j) (fun j _ => (fun _ => rfl) j) (fun j _ => (fun _ => rfl) j) (fun j _ _ => (fun _ => rfl) j) | (exfalso; omega)) (by first | exact hI | exact CHL_k hd9 hM (fun j _ => (fun _ => rfl) j) (by omega) (fun j _ _ => (fun _ => rfl) j) | (exfalso; omega)) (by first | exact hI | exact CHL_k hd10 hM2 (fun j _ => (fun _ => rfl) j) (by omega) (fun j _ _ => (fun _ => rfl) j) | (exfalso; omega))
    · skip
      refine go_toq PM267 (k := 2) (pc' := 1435) (L' := [some (.inr (.inr (some 3000))), some (.inr (.inr (some 0))), some (.inr (.inr (some 79))), some (.inl i)]) (st' := []) (w' := (SH, dt)) rfl ?_
      exact K dt hI hM hM2 hk0 hk1 hk2 hk3 hk4 hk5 hk6 hk7 hk8 hk9 hk10 hk11 hk12 hk13 hk14 hk15 (by first | exact hI | exact TPL_k hd0 (fun _ => rfl) (fun _ => rfl) (by omega) | (exfalso; omega)) (by first | exact hI | exact SCL_k hd1 hM (fun j _ => (fun _ => rfl) j) (fun j _ => (fun _ => rfl) j) (fun j _ _ => (fun _ => rfl) j) | (exfalso; omega)) (by first | exact hI | exact SCL_k hd2 hM2 (fun j _ => (fun _ => rfl) j) (fun j _ => (fun _ => rfl) j) (fun j _ _ => (fun _ => rfl) j) | (exfalso; omega)) (by first | exact hI | exact QRL_k hd3 hM (fun j _ => (fun _ => rfl) j) ((fun _ => rfl) 1) (fun j _ _ => (fun _ => rfl) j) | (exfalso; omega)) (by first | exact hI | exact QRL_k hd4 hM2 (fun j _ => (fun _ => rfl) j) ((fun _ => rfl) 1) (fun j _ _ => (fun _ => rfl) j) | (exfalso; omega)) (by first | exact hI | exact SDL_k hd5 hM (fun j _ => (fun _ => rfl) j) ((fun _ => rfl) 1) (fun j _ _ => (fun _ => rfl) j) (fun j _ _ => (fun _ => rfl) j) | (exfalso; omega)) (by first | exact hI | exact SDL_k hd6 hM2 (fun j _ => (fun _ => rfl) j) ((fun _ => rfl) 1) (fun j _ _ => (fun _ => rfl) j) (fun j _ _ => (fun _ => rfl) j) | (exfalso; omega)) (by first | exact hI | exact LWL_k hd7 hM (fun j _ => (fun _ => rfl) j) (fun j _ => (fun _ => rfl) j) (fun j _ => (fun _ => rfl) j) (fun j _ _ => (fun _ => rfl) j) | (exfalso; omega)) (by first | exact hI | exact LWL_k hd8 hM2 (fun j _ => (fun _ => rfl) j) (fun j _ => (fun _ => rfl) j) (fun j _ => (fun _ => rfl) j) (fun j _ _ => (fun _ => rfl) j) | (exfalso; omega)) (by first | exact hI | exact CHL_k hd9 hM (fun j _ => (fun _ => rfl) j) (by omega) (fun j _ _ => (fun _ => rfl) j) | (exfalso; omega)) (by first | exact hI | exact CHL_k hd10 hM2 (fun j _ => (fun _ => rfl) j) (by omega) (fun j _ _ => (fun _ => rfl) j) | (exfalso; omega))
    · skip
      refine go_toq PM267 (k := 2) (pc' := 1435) (L' := [some (.inr (.inr (some 3000))), some (.inr (.inr (some 0))), some (.inr (.inr (some 79))), some (.inl i)]) (st' := []) (w' := (SH, dt)) rfl ?_
      exact K dt hI hM hM2 hk0 hk1 hk2 hk3 hk4 hk5 hk6 hk7 hk8 hk9 hk10 hk11 hk12 hk13 hk14 hk15 (by first | exact hI | exact TPL_k hd0 (fun _ => rfl) (fun _ => rfl) (by omega) | (exfalso; omega)) (by first | exact hI | exact SCL_k hd1 hM (fun j _ => (fun _ => rfl) j) (fun j _ => (fun _ => rfl) j) (fun j _ _ => (fun _ => rfl) j) | (exfalso; omega)) (by first | exact hI | exact SCL_k hd2 hM2 (fun j _ => (fun _ => rfl) j) (fun j _ => (fun _ => rfl) j) (fun j _ _ => (fun _ => rfl) j) | (exfalso; omega)) (by first | exact hI | exact QRL_k hd3 hM (fun j _ => (fun _ => rfl) j) ((fun _ => rfl) 1) (fun j _ _ => (fun _ => rfl) j) | (exfalso; omega)) (by first | exact hI | exact QRL_k hd4 hM2 (fun j _ => (fun _ => rfl) j) ((fun _ => rfl) 1) (fun j _ _ => (fun _ => rfl) j) | (exfalso; omega)) (by first | exact hI | exact SDL_k hd5 hM (fun j _ => (fun _ => rfl) j) ((fun _ => rfl) 1) (fun j _ _ => (fun _ => rfl) j) (fun j _ _ => (fun _ => rfl) j) | (exfalso; omega)) (by first | exact hI | exact SDL_k hd6 hM2 (fun j _ => (fun _ => rfl) j) ((fun _ => rfl) 1) (fun j _ _ => (fun _ => rfl) j) (fun j _ _ => (fun _ => rfl) j) | (exfalso; omega)) (by first | exact hI | exact LWL_k hd7 hM (fun j _ => (fun _ => rfl) j) (fun j _ => (fun _ => rfl) j) (fun j _ => (fun _ => rfl) j) (fun j _ _ => (fun _ => rfl) j) | (exfalso; omega)) (by first | exact hI | exact LWL_k hd8 hM2 (fun j _ => (fun _ => rfl) j) (fun j _ => (fun _ => rfl) j) (fun j _ => (fun _ => rfl) j) (fun j _ _ => (fun _ => rfl) j) | (exfalso; omega)) (by first | exact hI | exact CHL_k hd9 hM (fun j _ => (fun _ => rfl) j) (by omega) (fun j _ _ => (fun _ => rfl) j) | (exfalso; omega)) (by first | exact hI | exact CHL_k hd10 hM2 (fun j _ => (fun _ => rfl) j) (by omega) (fun j _ _ => (fun _ => rfl) j) | (exfalso; omega))
    · skip
      refine go_toq PM267 (k := 2) (pc' := 1435) (L' := [some (.inr (.inr (some 3000))), some (.inr (.inr (some 0))), some (.inr (.inr (some 79))), some (.inl i)]) (st' := []) (w' := (SH, dt)) rfl ?_
      exact K dt hI hM hM2 hk0 hk1 hk2 hk3 hk4 hk5 hk6 hk7 hk8 hk9 hk10 hk11 hk12 hk13 hk14 hk15 (by first | exact hI | exact TPL_k hd0 (fun _ => rfl) (fun _ => rfl) (by omega) | (exfalso; omega)) (by first | exact hI | exact SCL_k hd1 hM (fun j _ => (fun _ => rfl) j) (fun j _ => (fun _ => rfl) j) (fun j _ _ => (fun _ => rfl) j) | (exfalso; omega)) (by first | exact hI | exact SCL_k hd2 hM2 (fun j _ => (fun _ => rfl) j) (fun j _ => (fun _ => rfl) j) (fun j _ _ => (fun _ => rfl) j) | (exfalso; omega)) (by first | exact hI | exact QRL_k hd3 hM (fun j _ => (fun _ => rfl) j) ((fun _ => rfl) 1) (fun j _ _ => (fun _ => rfl) j) | (exfalso; omega)) (by first | exact hI | exact QRL_k hd4 hM2 (fun j _ => (fun _ => rfl) j) ((fun _ => rfl) 1) (fun j _ _ => (fun _ => rfl) j) | (exfalso; omega)) (by first | exact hI | exact SDL_k hd5 hM (fun j _ => (fun _ => rfl) j) ((fun _ => rfl) 1) (fun j _ _ => (fun _ => rfl) j) (fun j _ _ => (fun _ => rfl) j) | (exfalso; omega)) (by first | exact hI | exact SDL_k hd6 hM2 (fun j _ => (fun _ => rfl) j) ((fun _ => rfl) 1) (fun j _ _ => (fun _ => rfl) j) (fun j _ _ => (fun _ => rfl) j) | (exfalso; omega)) (by first | exact hI | exact LWL_k hd7 hM (fun j _ => (fun _ => rfl) j) (fun j _ => (fun _ => rfl) j) (fun j _ => (fun _ => rfl) j) (fun j _ _ => (fun _ => rfl) j) | (exfalso; omega)) (by first | exact hI | exact LWL_k hd8 hM2 (fun j _ => (fun _ => rfl) j) (fun j _ => (fun _ => rfl) j) (fun j _ => (fun _ => rfl) j) (fun j _ _ => (fun _ => rfl) j) | (exfalso; omega)) (by first | exact hI | exact CHL_k hd9 hM (fun j _ => (fun _ => rfl) j) (by omega) (fun j _ _ => (fun _ => rfl) j) | (exfalso; omega)) (by first | exact hI | exact CHL_k hd10 hM2 (fun j _ => (fun _ => rfl) j) (by omega) (fun j _ _ => (fun _ => rfl) j) | (exfalso; omega))
    · skip
      refine go_toq PM267 (k := 2) (pc' := 1435) (L' := [some (.inr (.inr (some 3000))), some (.inr (.inr (some 0))), some (.inr (.inr (some 79))), some (.inl i)]) (st' := []) (w' := (SH, dt)) rfl ?_
      exact K dt hI hM hM2 hk0 hk1 hk2 hk3 hk4 hk5 hk6 hk7 hk8 hk9 hk10 hk11 hk12 hk13 hk14 hk15 (by first | exact hI | exact TPL_k hd0 (fun _ => rfl) (fun _ => rfl) (by omega) | (exfalso; omega)) (by first | exact hI | exact SCL_k hd1 hM (fun j _ => (fun _ => rfl) j) (fun j _ => (fun _ => rfl) j) (fun j _ _ => (fun _ => rfl) j) | (exfalso; omega)) (by first | exact hI | exact SCL_k hd2 hM2 (fun j _ => (fun _ => rfl) j) (fun j _ => (fun _ => rfl) j) (fun j _ _ => (fun _ => rfl) j) | (exfalso; omega)) (by first | exact hI | exact QRL_k hd3 hM (fun j _ => (fun _ => rfl) j) ((fun _ => rfl) 1) (fun j _ _ => (fun _ => rfl) j) | (exfalso; omega)) (by first | exact hI | exact QRL_k hd4 hM2 (fun j _ => (fun _ => rfl) j) ((fun _ => rfl) 1) (fun j _ _ => (fun _ => rfl) j) | (exfalso; omega)) (by first | exact hI | exact SDL_k hd5 hM (fun j _ => (fun _ => rfl) j) ((fun _ => rfl) 1) (fun j _ _ => (fun _ => rfl) j) (fun j _ _ => (fun _ => rfl) j) | (exfalso; omega)) (by first | exact hI | exact SDL_k hd6 hM2 (fun j _ => (fun _ => rfl) j) ((fun _ => rfl) 1) (fun j _ _ => (fun _ => rfl) j) (fun j _ _ => (fun _ => rfl) j) | (exfalso; omega)) (by first | exact hI | exact LWL_k hd7 hM (fun j _ => (fun _ => rfl) j) (fun j _ => (fun _ => rfl) j) (fun j _ => (fun _ => rfl) j) (fun j _ _ => (fun _ => rfl) j) | (exfalso; omega)) (by first | exact hI | exact LWL_k hd8 hM2 (fun j _ => (fun _ => rfl) j) (fun j _ => (fun _ => rfl) j) (fun j _ => (fun _ => rfl) j) (fun j _ _ => (fun _ => rfl) j) | (exfalso; omega)) (by first | exact hI | exact CHL_k hd9 hM (fun j _ => (fun _ => rfl) j) (by omega) (fun j _ _ => (fun _ => rfl) j) | (exfalso; omega)) (by first | exact hI | exact CHL_k hd10 hM2 (fun j _ => (fun _ => rfl) j) (by omega) (fun j _ _ => (fun _ => rfl) j) | (exfalso; omega))
    · skip
      obtain ⟨h9_0, h9_1⟩ := h9
      replace h9_1 := hid h9_1
      refine go_toq PM267 (k := 2) (pc' := 1435) (L' := [some (.inr (.inr (some 3000))), some (.inr (.inr (some 0))), some (.inr (.inr (some 79))), some (.inl i)]) (st' := []) (w' := (SH, dt)) rfl ?_
      exact K dt hI hM hM2 hk0 hk1 hk2 hk3 hk4 hk5 hk6 hk7 hk8 hk9 hk10 hk11 hk12 hk13 hk14 hk15 (by first | exact hI | exact TPL_k hd0 (fun _ => rfl) (fun _ => rfl) (by (first | omega | (have z0_ := unhid h9_1; omega))) | (exfalso; (first | omega | (have z0_ := unhid h9_1; omega)))) (by first | exact hI | exact SCL_k hd1 hM (fun j _ => (fun _ => rfl) j) (fun j _ => (fun _ => rfl) j) (fun j _ _ => (fun _ => rfl) j) | (exfalso; (first | omega | (have z0_ := unhid h9_1; omega)))) (by first | exact hI | exact SCL_k hd2 hM2 (fun j _ => (fun _ => rfl) j) (fun j _ => (fun _ => rfl) j) (fun j _ _ => (fun _ => rfl) j) | (exfalso; (first | omega | (have z0_ := unhid h9_1; omega)))) (by first | exact hI | exact QRL_k hd3 hM (fun j _ => (fun _ => rfl) j) ((fun _ => rfl) 1) (fun j _ _ => (fun _ => rfl) j) | (exfalso; (first | omega | (have z0_ := unhid h9_1; omega)))) (by first | exact hI | exact QRL_k hd4 hM2 (fun j _ => (fun _ => rfl) j) ((fun _ => rfl) 1) (fun j _ _ => (fun _ => rfl) j) | (exfalso; (first | omega | (have z0_ := unhid h9_1; omega)))) (by first | exact hI | exact SDL_k hd5 hM (fun j _ => (fun _ => rfl) j) ((fun _ => rfl) 1) (fun j _ _ => (fun _ => rfl) j) (fun j _ _ => (fun _ => rfl) j) | (exfalso; (first | omega | (have z0_ := unhid h9_1; omega)))) (by first | exact hI | exact SDL_k hd6 hM2 (fun j _ => (fun _ => rfl) j) ((fun _ => rfl) 1) (fun j _ _ => (fun _ => rfl) j) (fun j _ _ => (fun _ => rfl) j) | (exfalso; (first | omega | (have z0_ := unhid h9_1; omega)))) (by first | exact hI | exact LWL_k hd7 hM (fun j _ => (fun _ => rfl) j) (fun j _ => (fun _ => rfl) j) (fun j _ => (fun _ => rfl) j) (fun j _ _ => (fun _ => rfl) j) | (exfalso; (first | omega | (have z0_ := unhid h9_1; omega)))) (by first | exact hI | exact LWL_k hd8 hM2 (fun j _ => (fun _ => rfl) j) (fun j _ => (fun _ => rfl) j) (fun j _ => (fun _ => rfl) j) (fun j _ _ => (fun _ => rfl) j) | (exfalso; (first | omega | (have z0_ := unhid h9_1; omega)))) (by first | exact hI | exact CHL_k hd9 hM (fun j _ => (fun _ => rfl) j) (by (first | omega | (have z0_ := unhid h9_1; omega))) (fun j _ _ => (fun _ => rfl) j) | (exfalso; (first | omega | (have z0_ := unhid h9_1; omega)))) (by first | exact hI | exact CHL_k hd10 hM2 (fun j _ => (fun _ => rfl) j) (by (first | omega | (have z0_ := unhid h9_1; omega))) (fun j _ _ => (fun _ => rfl) j) | (exfalso; (first | omega | (have z0_ := unhid h9_1; omega))))
    · skip
      obtain ⟨h9_0, h9_1⟩ := h9
      refine go_toq PM267 (k := 2) (pc' := 1435) (L' := [some (.inr (.inr (some 3000))), some (.inr (.inr (some 0))), some (.inr (.inr (some 79))), some (.inl i)]) (st' := []) (w' := (SH, dt)) rfl ?_
      exact K dt hI hM hM2 hk0 hk1 hk2 hk3 hk4 hk5 hk6 hk7 hk8 hk9 hk10 hk11 hk12 hk13 hk14 hk15 (by first | exact hI | exact TPL_k hd0 (fun _ => rfl) (fun _ => rfl) (by omega) | (exfalso; omega)) (by first | exact hI | exact SCL_k hd1 hM (fun j _ => (fun _ => rfl) j) (fun j _ => (fun _ => rfl) j) (fun j _ _ => (fun _ => rfl) j) | (exfalso; omega)) (by first | exact hI | exact SCL_k hd2 hM2 (fun j _ => (fun _ => rfl) j) (fun j _ => (fun _ => rfl) j) (fun j _ _ => (fun _ => rfl) j) | (exfalso; omega)) (by first | exact hI | exact QRL_k hd3 hM (fun j _ => (fun _ => rfl) j) ((fun _ => rfl) 1) (fun j _ _ => (fun _ => rfl) j) | (exfalso; omega)) (by first | exact hI | exact QRL_k hd4 hM2 (fun j _ => (fun _ => rfl) j) ((fun _ => rfl) 1) (fun j _ _ => (fun _ => rfl) j) | (exfalso; omega)) (by first | exact hI | exact SDL_k hd5 hM (fun j _ => (fun _ => rfl) j) ((fun _ => rfl) 1) (fun j _ _ => (fun _ => rfl) j) (fun j _ _ => (fun _ => rfl) j) | (exfalso; omega)) (by first | exact hI | exact SDL_k hd6 hM2 (fun j _ => (fun _ => rfl) j) ((fun _ => rfl) 1) (fun j _ _ => (fun _ => rfl) j) (fun j _ _ => (fun _ => rfl) j) | (exfalso; omega)) (by first | exact hI | exact LWL_k hd7 hM (fun j _ => (fun _ => rfl) j) (fun j _ => (fun _ => rfl) j) (fun j _ => (fun _ => rfl) j) (fun j _ _ => (fun _ => rfl) j) | (exfalso; omega)) (by first | exact hI | exact LWL_k hd8 hM2 (fun j _ => (fun _ => rfl) j) (fun j _ => (fun _ => rfl) j) (fun j _ => (fun _ => rfl) j) (fun j _ _ => (fun _ => rfl) j) | (exfalso; omega)) (by first | exact hI | exact CHL_k hd9 hM (fun j _ => (fun _ => rfl) j) (by omega) (fun j _ _ => (fun _ => rfl) j) | (exfalso; omega)) (by first | exact hI | exact CHL_k hd10 hM2 (fun j _ => (fun _ => rfl) j) (by omega) (fun j _ _ => (fun _ => rfl) j) | (exfalso; omega))
    · skip
      refine go_toq PM267 (k := 2) (pc' := 1435) (L' := [some (.inr (.inr (some 3000))), some (.inr (.inr (some 0))), some (.inr (.inr (some 79))), some (.inl i)]) (st' := []) (w' := (SH, dt)) rfl ?_
      exact K dt hI hM hM2 hk0 hk1 hk2 hk3 hk4 hk5 hk6 hk7 hk8 hk9 hk10 hk11 hk12 hk13 hk14 hk15 (by first | exact hI | exact TPL_k hd0 (fun _ => rfl) (fun _ => rfl) (by omega) | (exfalso; omega)) (by first | exact hI | exact SCL_k hd1 hM (fun j _ => (fun _ => rfl) j) (fun j _ => (fun _ => rfl) j) (fun j _ _ => (fun _ => rfl) j) | (exfalso; omega)) (by first | exact hI | exact SCL_k hd2 hM2 (fun j _ => (fun _ => rfl) j) (fun j _ => (fun _ => rfl) j) (fun j _ _ => (fun _ => rfl) j) | (exfalso; omega)) (by first | exact hI | exact QRL_k hd3 hM (fun j _ => (fun _ => rfl) j) ((fun _ => rfl) 1) (fun j _ _ => (fun _ => rfl) j) | (exfalso; omega)) (by first | exact hI | exact QRL_k hd4 hM2 (fun j _ => (fun _ => rfl) j) ((fun _ => rfl) 1) (fun j _ _ => (fun _ => rfl) j) | (exfalso; omega)) (by first | exact hI | exact SDL_k hd5 hM (fun j _ => (fun _ => rfl) j) ((fun _ => rfl) 1) (fun j _ _ => (fun _ => rfl) j) (fun j _ _ => (fun _ => rfl) j) | (exfalso; omega)) (by first | exact hI | exact SDL_k hd6 hM2 (fun j _ => (fun _ => rfl) j) ((fun _ => rfl) 1) (fun j _ _ => (fun _ => rfl) j) (fun j _ _ => (fun _ => rfl) j) | (exfalso; omega)) (by first | exact hI | exact LWL_k hd7 hM (fun j _ => (fun _ => rfl) j) (fun j _ => (fun _ => rfl) j) (fun j _ => (fun _ => rfl) j) (fun j _ _ => (fun _ => rfl) j) | (exfalso; omega)) (by first | exact hI | exact LWL_k hd8 hM2 (fun j _ => (fun _ => rfl) j) (fun j _ => (fun _ => rfl) j) (fun j _ => (fun _ => rfl) j) (fun j _ _ => (fun _ => rfl) j) | (exfalso; omega)) (by first | exact hI | exact CHL_k hd9 hM (fun j _ => (fun _ => rfl) j) (by omega) (fun j _ _ => (fun _ => rfl) j) | (exfalso; omega)) (by first | exact hI | exact CHL_k hd10 hM2 (fun j _ => (fun _ => rfl) j) (by omega) (fun j _ _ => (fun _ => rfl) j) | (exfalso; omega))
  · skip
    obtain ⟨h2_0, h2_1⟩ := h2
    refine go_toq PM267 (k := 6) (pc' := 1427) (L' := [some (.inr (.inr (some 3000))), some (.inr (.inr (some 0))), some (.inr (.inr (some 79))), some (.inl i)]) (st' := [.inl (i + 1), .inr (.inr (some 3000)), .inr (.inr (some 79))]) (w' := (SH, dt)) rfl ?_
    refine go_smpq PM267 (L' := [some (.inr (.inr (some 3000))), some (.inr (.inr (some 0))), some (.inr (.inr (some 79))), some (.inl i)]) (st' := [.inl ((xs ((i + 1).toNat)).toInt), .inr (.inr (some 79))]) (w' := (SH, dt)) rfl rfl (s_iald (n := L) (f := fun j => (xs j).toInt) (am_scr hLL) ⟨by omega, by omega⟩) ?_
    refine go_callq PM267 PM248 (Q' := _) rfl rfl rfl rfl (sp_X6_look L xs sio (d + 38) dt hI  ((xs ((i + 1).toNat)).toInt) ⟨by omega, by omega⟩ ) ?_
    rintro _ _ ⟨rfl, h10⟩
    refine ⟨rfl, ?_⟩
    rcases h10 with ⟨rfl, h10⟩ | ⟨rfl, h10⟩ | ⟨rfl, h10⟩ | ⟨rfl, h10⟩ | ⟨rfl, h10⟩ | ⟨rfl, h10⟩ | ⟨rfl, h10⟩ | ⟨rfl, h10⟩ | ⟨rfl, h10⟩
    · skip
      refine go_toq PM267 (k := 2) (pc' := 1435) (L' := [some (.inr (.inr (some 3000))), some (.inr (.inr (some 0))), some (.inr (.inr (some 79))), some (.inl i)]) (st' := []) (w' := (SH, dt)) rfl ?_
      exact K dt hI hM hM2 hk0 hk1 hk2 hk3 hk4 hk5 hk6 hk7 hk8 hk9 hk10 hk11 hk12 hk13 hk14 hk15 (by first | exact hI | exact TPL_k hd0 (fun _ => rfl) (fun _ => rfl) (by omega) | (exfalso; omega)) (by first | exact hI | exact SCL_k hd1 hM (fun j _ => (fun _ => rfl) j) (fun j _ => (fun _ => rfl) j) (fun j _ _ => (fun _ => rfl) j) | (exfalso; omega)) (by first | exact hI | exact SCL_k hd2 hM2 (fun j _ => (fun _ => rfl) j) (fun j _ => (fun _ => rfl) j) (fun j _ _ => (fun _ => rfl) j) | (exfalso; omega)) (by first | exact hI | exact QRL_k hd3 hM (fun j _ => (fun _ => rfl) j) ((fun _ => rfl) 1) (fun j _ _ => (fun _ => rfl) j) | (exfalso; omega)) (by first | exact hI | exact QRL_k hd4 hM2 (fun j _ => (fun _ => rfl) j) ((fun _ => rfl) 1) (fun j _ _ => (fun _ => rfl) j) | (exfalso; omega)) (by first | exact hI | exact SDL_k hd5 hM (fun j _ => (fun _ => rfl) j) ((fun _ => rfl) 1) (fun j _ _ => (fun _ => rfl) j) (fun j _ _ => (fun _ => rfl) j) | (exfalso; omega)) (by first | exact hI | exact SDL_k hd6 hM2 (fun j _ => (fun _ => rfl) j) ((fun _ => rfl) 1) (fun j _ _ => (fun _ => rfl) j) (fun j _ _ => (fun _ => rfl) j) | (exfalso; omega)) (by first | exact hI | exact LWL_k hd7 hM (fun j _ => (fun _ => rfl) j) (fun j _ => (fun _ => rfl) j) (fun j _ => (fun _ => rfl) j) (fun j _ _ => (fun _ => rfl) j) | (exfalso; omega)) (by first | exact hI | exact LWL_k hd8 hM2 (fun j _ => (fun _ => rfl) j) (fun j _ => (fun _ => rfl) j) (fun j _ => (fun _ => rfl) j) (fun j _ _ => (fun _ => rfl) j) | (exfalso; omega)) (by first | exact hI | exact CHL_k hd9 hM (fun j _ => (fun _ => rfl) j) (by omega) (fun j _ _ => (fun _ => rfl) j) | (exfalso; omega)) (by first | exact hI | exact CHL_k hd10 hM2 (fun j _ => (fun _ => rfl) j) (by omega) (fun j _ _ => (fun _ => rfl) j) | (exfalso; omega))
    · skip
      refine go_toq PM267 (k := 2) (pc' := 1435) (L' := [some (.inr (.inr (some 3000))), some (.inr (.inr (some 0))), some (.inr (.inr (some 79))), some (.inl i)]) (st' := []) (w' := (SH, dt)) rfl ?_
      exact K dt hI hM hM2 hk0 hk1 hk2 hk3 hk4 hk5 hk6 hk7 hk8 hk9 hk10 hk11 hk12 hk13 hk14 hk15 (by first | exact hI | exact TPL_k hd0 (fun _ => rfl) (fun _ => rfl) (by omega) | (exfalso; omega)) (by first | exact hI | exact SCL_k hd1 hM (fun j _ => (fun _ => rfl) j) (fun j _ => (fun _ => rfl) j) (fun j _ _ => (fun _ => rfl) j) | (exfalso; omega)) (by first | exact hI | exact SCL_k hd2 hM2 (fun j _ => (fun _ => rfl) j) (fun j _ => (fun _ => rfl) j) (fun j _ _ => (fun _ => rfl) j) | (exfalso; omega)) (by first | exact hI | exact QRL_k hd3 hM (fun j _ => (fun _ => rfl) j) ((fun _ => rfl) 1) (fun j _ _ => (fun _ => rfl) j) | (exfalso; omega)) (by first | exact hI | exact QRL_k hd4 hM2 (fun j _ => (fun _ => rfl) j) ((fun _ => rfl) 1) (fun j _ _ => (fun _ => rfl) j) | (exfalso; omega)) (by first | exact hI | exact SDL_k hd5 hM (fun j _ => (fun _ => rfl) j) ((fun _ => rfl) 1) (fun j _ _ => (fun _ => rfl) j) (fun j _ _ => (fun _ => rfl) j) | (exfalso; omega)) (by first | exact hI | exact SDL_k hd6 hM2 (fun j _ => (fun _ => rfl) j) ((fun _ => rfl) 1) (fun j _ _ => (fun _ => rfl) j) (fun j _ _ => (fun _ => rfl) j) | (exfalso; omega)) (by first | exact hI | exact LWL_k hd7 hM (fun j _ => (fun _ => rfl) j) (fun j _ => (fun _ => rfl) j) (fun j _ => (fun _ => rfl) j) (fun j _ _ => (fun _ => rfl) j) | (exfalso; omega)) (by first | exact hI | exact LWL_k hd8 hM2 (fun j _ => (fun _ => rfl) j) (fun j _ => (fun _ => rfl) j) (fun j _ => (fun _ => rfl) j) (fun j _ _ => (fun _ => rfl) j) | (exfalso; omega)) (by first | exact hI | exact CHL_k hd9 hM (fun j _ => (fun _ => rfl) j) (by omega) (fun j _ _ => (fun _ => rfl) j) | (exfalso; omega)) (by first | exact hI | exact CHL_k hd10 hM2 (fun j _ => (fun _ => rfl) j) (by omega) (fun j _ _ => (fun _ => rfl) j) | (exfalso; omega))
    · skip
      refine go_toq PM267 (k := 2) (pc' := 1435) (L' := [some (.inr (.inr (some 3000))), some (.inr (.inr (some 0))), some (.inr (.inr (some 79))), some (.inl i)]) (st' := []) (w' := (SH, dt)) rfl ?_
      exact K dt hI hM hM2 hk0 hk1 hk2 hk3 hk4 hk5 hk6 hk7 hk8 hk9 hk10 hk11 hk12 hk13 hk14 hk15 (by first | exact hI | exact TPL_k hd0 (fun _ => rfl) (fun _ => rfl) (by omega) | (exfalso; omega)) (by first | exact hI | exact SCL_k hd1 hM (fun j _ => (fun _ => rfl) j) (fun j _ => (fun _ => rfl) j) (fun j _ _ => (fun _ => rfl) j) | (exfalso; omega)) (by first | exact hI | exact SCL_k hd2 hM2 (fun j _ => (fun _ => rfl) j) (fun j _ => (fun _ => rfl) j) (fun j _ _ => (fun _ => rfl) j) | (exfalso; omega)) (by first | exact hI | exact QRL_k hd3 hM (fun j _ => (fun _ => rfl) j) ((fun _ => rfl) 1) (fun j _ _ => (fun _ => rfl) j) | (exfalso; omega)) (by first | exact hI | exact QRL_k hd4 hM2 (fun j _ => (fun _ => rfl) j) ((fun _ => rfl) 1) (fun j _ _ => (fun _ => rfl) j) | (exfalso; omega)) (by first | exact hI | exact SDL_k hd5 hM (fun j _ => (fun _ => rfl) j) ((fun _ => rfl) 1) (fun j _ _ => (fun _ => rfl) j) (fun j _ _ => (fun _ => rfl) j) | (exfalso; omega)) (by first | exact hI | exact SDL_k hd6 hM2 (fun j _ => (fun _ => rfl) j) ((fun _ => rfl) 1) (fun j _ _ => (fun _ => rfl) j) (fun j _ _ => (fun _ => rfl) j) | (exfalso; omega)) (by first | exact hI | exact LWL_k hd7 hM (fun j _ => (fun _ => rfl) j) (fun j _ => (fun _ => rfl) j) (fun j _ => (fun _ => rfl) j) (fun j _ _ => (fun _ => rfl) j) | (exfalso; omega)) (by first | exact hI | exact LWL_k hd8 hM2 (fun j _ => (fun _ => rfl) j) (fun j _ => (fun _ => rfl) j) (fun j _ => (fun _ => rfl) j) (fun j _ _ => (fun _ => rfl) j) | (exfalso; omega)) (by first | exact hI | exact CHL_k hd9 hM (fun j _ => (fun _ => rfl) j) (by omega) (fun j _ _ => (fun _ => rfl) j) | (exfalso; omega)) (by first | exact hI | exact CHL_k hd10 hM2 (fun j _ => (fun _ => rfl) j) (by omega) (fun j _ _ => (fun _ => rfl) j) | (exfalso; omega))
    · skip
      refine go_toq PM267 (k := 2) (pc' := 1435) (L' := [some (.inr (.inr (some 3000))), some (.inr (.inr (some 0))), some (.inr (.inr (some 79))), some (.inl i)]) (st' := []) (w' := (SH, dt)) rfl ?_
      exact K dt hI hM hM2 hk0 hk1 hk2 hk3 hk4 hk5 hk6 hk7 hk8 hk9 hk10 hk11 hk12 hk13 hk14 hk15 (by first | exact hI | exact TPL_k hd0 (fun _ => rfl) (fun _ => rfl) (by omega) | (exfalso; omega)) (by first | exact hI | exact SCL_k hd1 hM (fun j _ => (fun _ => rfl) j) (fun j _ => (fun _ => rfl) j) (fun j _ _ => (fun _ => rfl) j) | (exfalso; omega)) (by first | exact hI | exact SCL_k hd2 hM2 (fun j _ => (fun _ => rfl) j) (fun j _ => (fun _ => rfl) j) (fun j _ _ => (fun _ => rfl) j) | (exfalso; omega)) (by first | exact hI | exact QRL_k hd3 hM (fun j _ => (fun _ => rfl) j) ((fun _ => rfl) 1) (fun j _ _ => (fun _ => rfl) j) | (exfalso; omega)) (by first | exact hI | exact QRL_k hd4 hM2 (fun j _ => (fun _ => rfl) j) ((fun _ => rfl) 1) (fun j _ _ => (fun _ => rfl) j) | (exfalso; omega)) (by first | exact hI | exact SDL_k hd5 hM (fun j _ => (fun _ => rfl) j) ((fun _ => rfl) 1) (fun j _ _ => (fun _ => rfl) j) (fun j _ _ => (fun _ => rfl) j) | (exfalso; omega)) (by first | exact hI | exact SDL_k hd6 hM2 (fun j _ => (fun _ => rfl) j) ((fun _ => rfl) 1) (fun j _ _ => (fun _ => rfl) j) (fun j _ _ => (fun _ => rfl) j) | (exfalso; omega)) (by first | exact hI | exact LWL_k hd7 hM (fun j _ => (fun _ => rfl) j) (fun j _ => (fun _ => rfl) j) (fun j _ => (fun _ => rfl) j) (fun j _ _ => (fun _ => rfl) j) | (exfalso; omega)) (by first | exact hI | exact LWL_k hd8 hM2 (fun j _ => (fun _ => rfl) j) (fun j _ => (fun _ => rfl) j) (fun j _ => (fun _ => rfl) j) (fun j _ _ => (fun _ => rfl) j) | (exfalso; omega)) (by first | exact hI | exact CHL_k hd9 hM (fun j _ => (fun _ => rfl) j) (by omega) (fun j _ _ => (fun _ => rfl) j) | (exfalso; omega)) (by first | exact hI | exact CHL_k hd10 hM2 (fun j _ => (fun _ => rfl) j) (by omega) (fun j _ _ => (fun _ => rfl) j) | (exfalso; omega))
    · skip
      refine go_toq PM267 (k := 2) (pc' := 1435) (L' := [some (.inr (.inr (some 3000))), some (.inr (.inr (some 0))), some (.inr (.inr (some 79))), some (.inl i)]) (st' := []) (w' := (SH, dt)) rfl ?_
      exact K dt hI hM hM2 hk0 hk1 hk2 hk3 hk4 hk5 hk6 hk7 hk8 hk9 hk10 hk11 hk12 hk13 hk14 hk15 (by first | exact hI | exact TPL_k hd0 (fun _ => rfl) (fun _ => rfl) (by omega) | (exfalso; omega)) (by first | exact hI | exact SCL_k hd1 hM (fun j _ => (fun _ => rfl) j) (fun j _ => (fun _ => rfl) j) (fun j _ _ => (fun _ => rfl) j) | (exfalso; omega)) (by first | exact hI | exact SCL_k hd2 hM2 (fun j _ => (fun _ => rfl) j) (fun j _ => (fun _ => rfl) j) (fun j _ _ => (fun _ => rfl) j) | (exfalso; omega)) (by first | exact hI | exact QRL_k hd3 hM (fun j _ => (fun _ => rfl) j) ((fun _ => rfl) 1) (fun j _ _ => (fun _ => rfl) j) | (exfalso; omega)) (by first | exact hI | exact QRL_k hd4 hM2 (fun j _ => (fun _ => rfl) j) ((fun _ => rfl) 1) (fun j _ _ => (fun _ => rfl) j) | (exfalso; omega)) (by first | exact hI | exact SDL_k hd5 hM (fun j _ => (fun _ => rfl) j) ((fun _ => rfl) 1) (fun j _ _ => (fun _ => rfl) j) (fun j _ _ => (fun _ => rfl) j) | (exfalso; omega)) (by first | exact hI | exact SDL_k hd6 hM2 (fun j _ => (fun _ => rfl) j) ((fun _ => rfl) 1) (fun j _ _ => (fun _ => rfl) j) (fun j _ _ => (fun _ => rfl) j) | (exfalso; omega)) (by first | exact hI | exact LWL_k hd7 hM (fun j _ => (fun _ => rfl) j) (fun j _ => (fun _ => rfl) j) (fun j _ => (fun _ => rfl) j) (fun j _ _ => (fun _ => rfl) j) | (exfalso; omega)) (by first | exact hI | exact LWL_k hd8 hM2 (fun j _ => (fun _ => rfl) j) (fun j _ => (fun _ => rfl) j) (fun j _ => (fun _ => rfl) j) (fun j _ _ => (fun _ => rfl) j) | (exfalso; omega)) (by first | exact hI | exact CHL_k hd9 hM (fun j _ => (fun _ => rfl) j) (by omega) (fun j _ _ => (fun _ => rfl) j) | (exfalso; omega)) (by first | exact hI | exact CHL_k hd10 hM2 (fun j _ => (fun _ => rfl) j) (by omega) (fun j _ _ => (fun _ => rfl) j) | (exfalso; omega))
    · skip
      refine go_toq PM267 (k := 2) (pc' := 1435) (L' := [some (.inr (.inr (some 3000))), some (.inr (.inr (some 0))), some (.inr (.inr (some 79))), some (.inl i)]) (st' := []) (w' := (SH, dt)) rfl ?_
      exact K dt hI hM hM2 hk0 hk1 hk2 hk3 hk4 hk5 hk6 hk7 hk8 hk9 hk10 hk11 hk12 hk13 hk14 hk15 (by first | exact hI | exact TPL_k hd0 (fun _ => rfl) (fun _ => rfl) (by omega) | (exfalso; omega)) (by first | exact hI | exact SCL_k hd1 hM (fun j _ => (fun _ => rfl) j) (fun j _ => (fun _ => rfl) j) (fun j _ _ => (fun _ => rfl) j) | (exfalso; omega)) (by first | exact hI | exact SCL_k hd2 hM2 (fun j _ => (fun _ => rfl) j) (fun j _ => (fun _ => rfl) j) (fun j _ _ => (fun _ => rfl) j) | (exfalso; omega)) (by first | exact hI | exact QRL_k hd3 hM (fun j _ => (fun _ => rfl) j) ((fun _ => rfl) 1) (fun j _ _ => (fun _ => rfl) j) | (exfalso; omega)) (by first | exact hI | exact QRL_k hd4 hM2 (fun j _ => (fun _ => rfl) j) ((fun _ => rfl) 1) (fun j _ _ => (fun _ => rfl) j) | (exfalso; omega)) (by first | exact hI | exact SDL_k hd5 hM (fun j _ => (fun _ => rfl) j) ((fun _ => rfl) 1) (fun j _ _ => (fun _ => rfl) j) (fun j _ _ => (fun _ => rfl) j) | (exfalso; omega)) (by first | exact hI | exact SDL_k hd6 hM2 (fun j _ => (fun _ => rfl) j) ((fun _ => rfl) 1) (fun j _ _ => (fun _ => rfl) j) (fun j _ _ => (fun _ => rfl) j) | (exfalso; omega)) (by first | exact hI | exact LWL_k hd7 hM (fun j _ => (fun _ => rfl) j) (fun j _ => (fun _ => rfl) j) (fun j _ => (fun _ => rfl) j) (fun j _ _ => (fun _ => rfl) j) | (exfalso; omega)) (by first | exact hI | exact LWL_k hd8 hM2 (fun j _ => (fun _ => rfl) j) (fun j _ => (fun _ => rfl) j) (fun j _ => (fun _ => rfl) j) (fun j _ _ => (fun _ => rfl) j) | (exfalso; omega)) (by first | exact hI | exact CHL_k hd9 hM (fun j _ => (fun _ => rfl) j) (by omega) (fun j _ _ => (fun _ => rfl) j) | (exfalso; omega)) (by first | exact hI | exact CHL_k hd10 hM2 (fun j _ => (fun _ => rfl) j) (by omega) (fun j _ _ => (fun _ => rfl) j) | (exfalso; omega))
    · skip
      obtain ⟨h10_0, h10_1⟩ := h10
      replace h10_1 := hid h10_1
      refine go_toq PM267 (k := 2) (pc' := 1435) (L' := [some (.inr (.inr (some 3000))), some (.inr (.inr (some 0))), some (.inr (.inr (some 79))), some (.inl i)]) (st' := []) (w' := (SH, dt)) rfl ?_
      exact K dt hI hM hM2 hk0 hk1 hk2 hk3 hk4 hk5 hk6 hk7 hk8 hk9 hk10 hk11 hk12 hk13 hk14 hk15 (by first | exact hI | exact TPL_k hd0 (fun _ => rfl) (fun _ => rfl) (by (first | omega | (have z0_ := unhid h10_1; omega))) | (exfalso; (first | omega | (have z0_ := unhid h10_1; omega)))) (by first | exact hI | exact SCL_k hd1 hM (fun j _ => (fun _ => rfl) j) (fun j _ => (fun _ => rfl) j) (fun j _ _ => (fun _ => rfl) j) | (exfalso; (first | omega | (have z0_ := unhid h10_1; omega)))) (by first | exact hI | exact SCL_k hd2 hM2 (fun j _ => (fun _ => rfl) j) (fun j _ => (fun _ => rfl) j) (fun j _ _ => (fun _ => rfl) j) | (exfalso; (first | omega | (have z0_ := unhid h10_1; omega)))) (by first | exact hI | exact QRL_k hd3 hM (fun j _ => (fun _ => rfl) j) ((fun _ => rfl) 1) (fun j _ _ => (fun _ => rfl) j) | (exfalso; (first | omega | (have z0_ := unhid h10_1; omega)))) (by first | exact hI | exact QRL_k hd4 hM2 (fun j _ => (fun _ => rfl) j) ((fun _ => rfl) 1) (fun j _ _ => (fun _ => rfl) j) | (exfalso; (first | omega | (have z0_ := unhid h10_1; omega)))) (by first | exact hI | exact SDL_k hd5 hM (fun j _ => (fun _ => rfl) j) ((fun _ => rfl) 1) (fun j _ _ => (fun _ => rfl) j) (fun j _ _ => (fun _ => rfl) j) | (exfalso; (first | omega | (have z0_ := unhid h10_1; omega)))) (by first | exact hI | exact SDL_k hd6 hM2 (fun j _ => (fun _ => rfl) j) ((fun _ => rfl) 1) (fun j _ _ => (fun _ => rfl) j) (fun j _ _ => (fun _ => rfl) j) | (exfalso; (first | omega | (have z0_ := unhid h10_1; omega)))) (by first | exact hI | exact LWL_k hd7 hM (fun j _ => (fun _ => rfl) j) (fun j _ => (fun _ => rfl) j) (fun j _ => (fun _ => rfl) j) (fun j _ _ => (fun _ => rfl) j) | (exfalso; (first | omega | (have z0_ := unhid h10_1; omega)))) (by first | exact hI | exact LWL_k hd8 hM2 (fun j _ => (fun _ => rfl) j) (fun j _ => (fun _ => rfl) j) (fun j _ => (fun _ => rfl) j) (fun j _ _ => (fun _ => rfl) j) | (exfalso; (first | omega | (have z0_ := unhid h10_1; omega)))) (by first | exact hI | exact CHL_k hd9 hM (fun j _ => (fun _ => rfl) j) (by (first | omega | (have z0_ := unhid h10_1; omega))) (fun j _ _ => (fun _ => rfl) j) | (exfalso; (first | omega | (have z0_ := unhid h10_1; omega)))) (by first | exact hI | exact CHL_k hd10 hM2 (fun j _ => (fun _ => rfl) j) (by (first | omega | (have z0_ := unhid h10_1; omega))) (fun j _ _ => (fun _ => rfl) j) | (exfalso; (first | omega | (have z0_ := unhid h10_1; omega))))
    · skip
      obtain ⟨h10_0, h10_1⟩ := h10
      refine go_toq PM267 (k := 2) (pc' := 1435) (L' := [some (.inr (.inr (some 3000))), some (.inr (.inr (some 0))), some (.inr (.inr (some 79))), some (.inl i)]) (st' := []) (w' := (SH, dt)) rfl ?_
      exact K dt hI hM hM2 hk0 hk1 hk2 hk3 hk4 hk5 hk6 hk7 hk8 hk9 hk10 hk11 hk12 hk13 hk14 hk15 (by first | exact hI | exact TPL_k hd0 (fun _ => rfl) (fun _ => rfl) (by omega) | (exfalso; omega)) (by first | exact hI | exact SCL_k hd1 hM (fun j _ => (fun _ => rfl) j) (fun j _ => (fun _ => rfl) j) (fun j _ _ => (fun _ => rfl) j) | (exfalso; omega)) (by first | exact hI | exact SCL_k hd2 hM2 (fun j _ => (fun _ => rfl) j) (fun j _ => (fun _ => rfl) j) (fun j _ _ => (fun _ => rfl) j) | (exfalso; omega)) (by first | exact hI | exact QRL_k hd3 hM (fun j _ => (fun _ => rfl) j) ((fun _ => rfl) 1) (fun j _ _ => (fun _ => rfl) j) | (exfalso; omega)) (by first | exact hI | exact QRL_k hd4 hM2 (fun j _ => (fun _ => rfl) j) ((fun _ => rfl) 1) (fun j _ _ => (fun _ => rfl) j) | (exfalso; omega)) (by first | exact hI | exact SDL_k hd5 hM (fun j _ => (fun _ => rfl) j) ((fun _ => rfl) 1) (fun j _ _ => (fun _ => rfl) j) (fun j _ _ => (fun _ => rfl) j) | (exfalso; omega)) (by first | exact hI | exact SDL_k hd6 hM2 (fun j _ => (fun _ => rfl) j) ((fun _ => rfl) 1) (fun j _ _ => (fun _ => rfl) j) (fun j _ _ => (fun _ => rfl) j) | (exfalso; omega)) (by first | exact hI | exact LWL_k hd7 hM (fun j _ => (fun _ => rfl) j) (fun j _ => (fun _ => rfl) j) (fun j _ => (fun _ => rfl) j) (fun j _ _ => (fun _ => rfl) j) | (exfalso; omega)) (by first | exact hI | exact LWL_k hd8 hM2 (fun j _ => (fun _ => rfl) j) (fun j _ => (fun _ => rfl) j) (fun j _ => (fun _ => rfl) j) (fun j _ _ => (fun _ => rfl) j) | (exfalso; omega)) (by first | exact hI | exact CHL_k hd9 hM (fun j _ => (fun _ => rfl) j) (by omega) (fun j _ _ => (fun _ => rfl) j) | (exfalso; omega)) (by first | exact hI | exact CHL_k hd10 hM2 (fun j _ => (fun _ => rfl) j) (by omega) (fun j _ _ => (fun _ => rfl) j) | (exfalso; omega))
    · skip
      refine go_toq PM267 (k := 2) (pc' := 1435) (L' := [some (.inr (.inr (some 3000))), some (.inr (.inr (some 0))), some (.inr (.inr (some 79))), some (.inl i)]) (st' := []) (w' := (SH, dt)) rfl ?_
      exact K dt hI hM hM2 hk0 hk1 hk2 hk3 hk4 hk5 hk6 hk7 hk8 hk9 hk10 hk11 hk12 hk13 hk14 hk15 (by first | exact hI | exact TPL_k hd0 (fun _ => rfl) (fun _ => rfl) (by omega) | (exfalso; omega)) (by first | exact hI | exact SCL_k hd1 hM (fun j _ => (fun _ => rfl) j) (fun j _ => (fun _ => rfl) j) (fun j _ _ => (fun _ => rfl) j) | (exfalso; omega)) (by first | exact hI | exact SCL_k hd2 hM2 (fun j _ => (fun _ => rfl) j) (fun j _ => (fun _ => rfl) j) (fun j _ _ => (fun _ => rfl) j) | (exfalso; omega)) (by first | exact hI | exact QRL_k hd3 hM (fun j _ => (fun _ => rfl) j) ((fun _ => rfl) 1) (fun j _ _ => (fun _ => rfl) j) | (exfalso; omega)) (by first | exact hI | exact QRL_k hd4 hM2 (fun j _ => (fun _ => rfl) j) ((fun _ => rfl) 1) (fun j _ _ => (fun _ => rfl) j) | (exfalso; omega)) (by first | exact hI | exact SDL_k hd5 hM (fun j _ => (fun _ => rfl) j) ((fun _ => rfl) 1) (fun j _ _ => (fun _ => rfl) j) (fun j _ _ => (fun _ => rfl) j) | (exfalso; omega)) (by first | exact hI | exact SDL_k hd6 hM2 (fun j _ => (fun _ => rfl) j) ((fun _ => rfl) 1) (fun j _ _ => (fun _ => rfl) j) (fun j _ _ => (fun _ => rfl) j) | (exfalso; omega)) (by first | exact hI | exact LWL_k hd7 hM (fun j _ => (fun _ => rfl) j) (fun j _ => (fun _ => rfl) j) (fun j _ => (fun _ => rfl) j) (fun j _ _ => (fun _ => rfl) j) | (exfalso; omega)) (by first | exact hI | exact LWL_k hd8 hM2 (fun j _ => (fun _ => rfl) j) (fun j _ => (fun _ => rfl) j) (fun j _ => (fun _ => rfl) j) (fun j _ _ => (fun _ => rfl) j) | (exfalso; omega)) (by first | exact hI | exact CHL_k hd9 hM (fun j _ => (fun _ => rfl) j) (by omega) (fun j _ _ => (fun _ => rfl) j) | (exfalso; omega)) (by first | exact hI | exact CHL_k hd10 hM2 (fun j _ => (fun _ => rfl) j) (by omega) (fun j _ _ => (fun _ => rfl) j) | (exfalso; omega))
  · skip
    refine go_toq PM267 (k := 6) (pc' := 1427) (L' := [some (.inr (.inr (some 3000))), some (.inr (.inr (some 0))), some (.inr (.inr (some 79))), some (.inl i)]) (st' := [.inl (i + 1), .inr (.inr (some 3000)), .inr (.inr (some 79))]) (w' := (SH, dt)) rfl ?_
    refine go_smpq PM267 (L' := [some (.inr (.inr (some 3000))), some (.inr (.inr (some 0))), some (.inr (.inr (some 79))), some (.inl i)]) (st' := [.inl ((xs ((i + 1).toNat)).toInt), .inr (.inr (some 79))]) (w' := (SH, dt)) rfl rfl (s_iald (n := L) (f := fun j => (xs j).toInt) (am_scr hLL) ⟨by omega, by omega⟩) ?_
    refine go_callq PM267 PM248 (Q' := _) rfl rfl rfl rfl (sp_X6_look L xs sio (d + 38) dt hI  ((xs ((i + 1).toNat)).toInt) ⟨by omega, by omega⟩ ) ?_
    rintro _ _ ⟨rfl, h11⟩
    refine ⟨rfl, ?_⟩
    rcases h11 with ⟨rfl, h11⟩ | ⟨rfl, h11⟩ | ⟨rfl, h11⟩ | ⟨rfl, h11⟩ | ⟨rfl, h11⟩ | ⟨rfl, h11⟩ | ⟨rfl, h11⟩ | ⟨rfl, h11⟩ | ⟨rfl, h11⟩
    · skip
      refine go_toq PM267 (k := 2) (pc' := 1435) (L' := [some (.inr (.inr (some 3000))), some (.inr (.inr (some 0))), some (.inr (.inr (some 79))), some (.inl i)]) (st' := []) (w' := (SH, dt)) rfl ?_
      exact K dt hI hM hM2 hk0 hk1 hk2 hk3 hk4 hk5 hk6 hk7 hk8 hk9 hk10 hk11 hk12 hk13 hk14 hk15 (by first | exact hI | exact TPL_k hd0 (fun _ => rfl) (fun _ => rfl) (by omega) | (exfalso; omega)) (by first | exact hI | exact SCL_k hd1 hM (fun j _ => (fun _ => rfl) j) (fun j _ => (fun _ => rfl) j) (fun j _ _ => (fun _ => rfl) j) | (exfalso; omega)) (by first | exact hI | exact SCL_k hd2 hM2 (fun j _ => (fun _ => rfl) j) (fun j _ => (fun _ => rfl) j) (fun j _ _ => (fun _ => rfl) j) | (exfalso; omega)) (by first | exact hI | exact QRL_k hd3 hM (fun j _ => (fun _ => rfl) j) ((fun _ => rfl) 1) (fun j _ _ => (fun _ => rfl) j) | (exfalso; omega)) (by first | exact hI | exact QRL_k hd4 hM2 (fun j _ => (fun _ => rfl) j) ((fun _ => rfl) 1) (fun j _ _ => (fun _ => rfl) j) | (exfalso; omega)) (by first | exact hI | exact SDL_k hd5 hM (fun j _ => (fun _ => rfl) j) ((fun _ => rfl) 1) (fun j _ _ => (fun _ => rfl) j) (fun j _ _ => (fun _ => rfl) j) | (exfalso; omega)) (by first | exact hI | exact SDL_k hd6 hM2 (fun j _ => (fun _ => rfl) j) ((fun _ => rfl) 1) (fun j _ _ => (fun _ => rfl) j) (fun j _ _ => (fun _ => rfl) j) | (exfalso; omega)) (by first | exact hI | exact LWL_k hd7 hM (fun j _ => (fun _ => rfl) j) (fun j _ => (fun _ => rfl) j) (fun j _ => (fun _ => rfl) j) (fun j _ _ => (fun _ => rfl) j) | (exfalso; omega)) (by first | exact hI | exact LWL_k hd8 hM2 (fun j _ => (fun _ => rfl) j) (fun j _ => (fun _ => rfl) j) (fun j _ => (fun _ => rfl) j) (fun j _ _ => (fun _ => rfl) j) | (exfalso; omega)) (by first | exact hI | exact CHL_k hd9 hM (fun j _ => (fun _ => rfl) j) (by omega) (fun j _ _ => (fun _ => rfl) j) | (exfalso; omega)) (by first | exact hI | exact CHL_k hd10 hM2 (fun j _ => (fun _ => rfl) j) (by omega) (fun j _ _ => (fun _ => rfl) j) | (exfalso; omega))
    · skip
      refine go_toq PM267 (k := 2) (pc' := 1435) (L' := [some (.inr (.inr (some 3000))), some (.inr (.inr (some 0))), some (.inr (.inr (some 79))), some (.inl i)]) (st' := []) (w' := (SH, dt)) rfl ?_
      exact K dt hI hM hM2 hk0 hk1 hk2 hk3 hk4 hk5 hk6 hk7 hk8 hk9 hk10 hk11 hk12 hk13 hk14 hk15 (by first | exact hI | exact TPL_k hd0 (fun _ => rfl) (fun _ => rfl) (by omega) | (exfalso; omega)) (by first | exact hI | exact SCL_k hd1 hM (fun j _ => (fun _ => rfl) j) (fun j _ => (fun _ => rfl) j) (fun j _ _ => (fun _ => rfl) j) | (exfalso; omega)) (by first | exact hI | exact SCL_k hd2 hM2 (fun j _ => (fun _ => rfl) j) (fun j _ => (fun _ => rfl) j) (fun j _ _ => (fun _ => rfl) j) | (exfalso; omega)) (by first | exact hI | exact QRL_k hd3 hM (fun j _ => (fun _ => rfl) j) ((fun _ => rfl) 1) (fun j _ _ => (fun _ => rfl) j) | (exfalso; omega)) (by first | exact hI | exact QRL_k hd4 hM2 (fun j _ => (fun _ => rfl) j) ((fun _ => rfl) 1) (fun j _ _ => (fun _ => rfl) j) | (exfalso; omega)) (by first | exact hI | exact SDL_k hd5 hM (fun j _ => (fun _ => rfl) j) ((fun _ => rfl) 1) (fun j _ _ => (fun _ => rfl) j) (fun j _ _ => (fun _ => rfl) j) | (exfalso; omega)) (by first | exact hI | exact SDL_k hd6 hM2 (fun j _ => (fun _ => rfl) j) ((fun _ => rfl) 1) (fun j _ _ => (fun _ => rfl) j) (fun j _ _ => (fun _ => rfl) j) | (exfalso; omega)) (by first | exact hI | exact LWL_k hd7 hM (fun j _ => (fun _ => rfl) j) (fun j _ => (fun _ => rfl) j) (fun j _ => (fun _ => rfl) j) (fun j _ _ => (fun _ => rfl) j) | (exfalso; omega)) (by first | exact hI | exact LWL_k hd8 hM2 (fun j _ => (fun _ => rfl) j) (fun j _ => (fun _ => rfl) j) (fun j _ => (fun _ => rfl) j) (fun j _ _ => (fun _ => rfl) j) | (exfalso; omega)) (by first | exact hI | exact CHL_k hd9 hM (fun j _ => (fun _ => rfl) j) (by omega) (fun j _ _ => (fun _ => rfl) j) | (exfalso; omega)) (by first | exact hI | exact CHL_k hd10 hM2 (fun j _ => (fun _ => rfl) j) (by omega) (fun j _ _ => (fun _ => rfl) j) | (exfalso; omega))
    · skip
      refine go_toq PM267 (k := 2) (pc' := 1435) (L' := [some (.inr (.inr (some 3000))), some (.inr (.inr (some 0))), some (.inr (.inr (some 79))), some (.inl i)]) (st' := []) (w' := (SH, dt)) rfl ?_
      exact K dt hI hM hM2 hk0 hk1 hk2 hk3 hk4 hk5 hk6 hk7 hk8 hk9 hk10 hk11 hk12 hk13 hk14 hk15 (by first | exact hI | exact TPL_k hd0 (fun _ => rfl) (fun _ => rfl) (by omega) | (exfalso; omega)) (by first | exact hI | exact SCL_k hd1 hM (fun j _ => (fun _ => rfl) j) (fun j _ => (fun _ => rfl) j) (fun j _ _ => (fun _ => rfl) j) | (exfalso; omega)) (by first | exact hI | exact SCL_k hd2 hM2 (fun j _ => (fun _ => rfl) j) (fun j _ => (fun _ => rfl) j) (fun j _ _ => (fun _ => rfl) j) | (exfalso; omega)) (by first | exact hI | exact QRL_k hd3 hM (fun j _ => (fun _ => rfl) j) ((fun _ => rfl) 1) (fun j _ _ => (fun _ => rfl) j) | (exfalso; omega)) (by first | exact hI | exact QRL_k hd4 hM2 (fun j _ => (fun _ => rfl) j) ((fun _ => rfl) 1) (fun j _ _ => (fun _ => rfl) j) | (exfalso; omega)) (by first | exact hI | exact SDL_k hd5 hM (fun j _ => (fun _ => rfl) j) ((fun _ => rfl) 1) (fun j _ _ => (fun _ => rfl) j) (fun j _ _ => (fun _ => rfl) j) | (exfalso; omega)) (by first | exact hI | exact SDL_k hd6 hM2 (fun j _ => (fun _ => rfl) j) ((fun _ => rfl) 1) (fun j _ _ => (fun _ => rfl) j) (fun j _ _ => (fun _ => rfl) j) | (exfalso; omega)) (by first | exact hI | exact LWL_k hd7 hM (fun j _ => (fun _ => rfl) j) (fun j _ => (fun _ => rfl) j) (fun j _ => (fun _ => rfl) j) (fun j _ _ => (fun _ => rfl) j) | (exfalso; omega)) (by first | exact hI | exact LWL_k hd8 hM2 (fun j _ => (fun _ => rfl) j) (fun j _ => (fun _ => rfl) j) (fun j _ => (fun _ => rfl) j) (fun j _ _ => (fun _ => rfl) j) | (exfalso; omega)) (by first | exact hI | exact CHL_k hd9 hM (fun j _ => (fun _ => rfl) j) (by omega) (fun j _ _ => (fun _ => rfl) j) | (exfalso; omega)) (by first | exact hI | exact CHL_k hd10 hM2 (fun j _ => (fun _ => rfl) j) (by omega) (fun j _ _ => (fun _ => rfl) j) | (exfalso; omega))
    · skip
      refine go_toq PM267 (k := 2) (pc' := 1435) (L' := [some (.inr (.inr (some 3000))), some (.inr (.inr (some 0))), some (.inr (.inr (some 79))), some (.inl i)]) (st' := []) (w' := (SH, dt)) rfl ?_
      exact K dt hI hM hM2 hk0 hk1 hk2 hk3 hk4 hk5 hk6 hk7 hk8 hk9 hk10 hk11 hk12 hk13 hk14 hk15 (by first | exact hI | exact TPL_k hd0 (fun _ => rfl) (fun _ => rfl) (by omega) | (exfalso; omega)) (by first | exact hI | exact SCL_k hd1 hM (fun j _ => (fun _ => rfl) j) (fun j _ => (fun _ => rfl) j) (fun j _ _ => (fun _ => rfl) j) | (exfalso; omega)) (by first | exact hI | exact SCL_k hd2 hM2 (fun j _ => (fun _ => rfl) j) (fun j _ => (fun _ => rfl) j) (fun j _ _ => (fun _ => rfl) j) | (exfalso; omega)) (by first | exact hI | exact QRL_k hd3 hM (fun j _ => (fun _ => rfl) j) ((fun _ => rfl) 1) (fun j _ _ => (fun _ => rfl) j) | (exfalso; omega)) (by first | exact hI | exact QRL_k hd4 hM2 (fun j _ => (fun _ => rfl) j) ((fun _ => rfl) 1) (fun j _ _ => (fun _ => rfl) j) | (exfalso; omega)) (by first | exact hI | exact SDL_k hd5 hM (fun j _ => (fun _ => rfl) j) ((fun _ => rfl) 1) (fun j _ _ => (fun _ => rfl) j) (fun j _ _ => (fun _ => rfl) j) | (exfalso; omega)) (by first | exact hI | exact SDL_k hd6 hM2 (fun j _ => (fun _ => rfl) j) ((fun _ => rfl) 1) (fun j _ _ => (fun _ => rfl) j) (fun j _ _ => (fun _ => rfl) j) | (exfalso; omega)) (by first | exact hI | exact LWL_k hd7 hM (fun j _ => (fun _ => rfl) j) (fun j _ => (fun _ => rfl) j) (fun j _ => (fun _ => rfl) j) (fun j _ _ => (fun _ => rfl) j) | (exfalso; omega)) (by first | exact hI | exact LWL_k hd8 hM2 (fun j _ => (fun _ => rfl) j) (fun j _ => (fun _ => rfl) j) (fun j _ => (fun _ => rfl) j) (fun j _ _ => (fun _ => rfl) j) | (exfalso; omega)) (by first | exact hI | exact CHL_k hd9 hM (fun j _ => (fun _ => rfl) j) (by omega) (fun j _ _ => (fun _ => rfl) j) | (exfalso; omega)) (by first | exact hI | exact CHL_k hd10 hM2 (fun j _ => (fun _ => rfl) j) (by omega) (fun j _ _ => (fun _ => rfl) j) | (exfalso; omega))
    · skip
      refine go_toq PM267 (k := 2) (pc' := 1435) (L' := [some (.inr (.inr (some 3000))), some (.inr (.inr (some 0))), some (.inr (.inr (some 79))), some (.inl i)]) (st' := []) (w' := (SH, dt)) rfl ?_
      exact K dt hI hM hM2 hk0 hk1 hk2 hk3 hk4 hk5 hk6 hk7 hk8 hk9 hk10 hk11 hk12 hk13 hk14 hk15 (by first | exact hI | exact TPL_k hd0 (fun _ => rfl) (fun _ => rfl) (by omega) | (exfalso; omega)) (by first | exact hI | exact SCL_k hd1 hM (fun j _ => (fun _ => rfl) j) (fun j _ => (fun _ => rfl) j) (fun j _ _ => (fun _ => rfl) j) | (exfalso; omega)) (by first | exact hI | exact SCL_k hd2 hM2 (fun j _ => (fun _ => rfl) j) (fun j _ => (fun _ => rfl) j) (fun j _ _ => (fun _ => rfl) j) | (exfalso; omega)) (by first | exact hI | exact QRL_k hd3 hM (fun j _ => (fun _ => rfl) j) ((fun _ => rfl) 1) (fun j _ _ => (fun _ => rfl) j) | (exfalso; omega)) (by first | exact hI | exact QRL_k hd4 hM2 (fun j _ => (fun _ => rfl) j) ((fun _ => rfl) 1) (fun j _ _ => (fun _ => rfl) j) | (exfalso; omega)) (by first | exact hI | exact SDL_k hd5 hM (fun j _ => (fun _ => rfl) j) ((fun _ => rfl) 1) (fun j _ _ => (fun _ => rfl) j) (fun j _ _ => (fun _ => rfl) j) | (exfalso; omega)) (by first | exact hI | exact SDL_k hd6 hM2 (fun j _ => (fun _ => rfl) j) ((fun _ => rfl) 1) (fun j _ _ => (fun _ => rfl) j) (fun j _ _ => (fun _ => rfl) j) | (exfalso; omega)) (by first | exact hI | exact LWL_k hd7 hM (fun j _ => (fun _ => rfl) j) (fun j _ => (fun _ => rfl) j) (fun j _ => (fun _ => rfl) j) (fun j _ _ => (fun _ => rfl) j) | (exfalso; omega)) (by first | exact hI | exact LWL_k hd8 hM2 (fun j _ => (fun _ => rfl) j) (fun j _ => (fun _ => rfl) j) (fun j _ => (fun _ => rfl) j) (fun j _ _ => (fun _ => rfl) j) | (exfalso; omega)) (by first | exact hI | exact CHL_k hd9 hM (fun j _ => (fun _ => rfl) j) (by omega) (fun j _ _ => (fun _ => rfl) j) | (exfalso; omega)) (by first | exact hI | exact CHL_k hd10 hM2 (fun j _ => (fun _ => rfl) j) (by omega) (fun j _ _ => (fun _ => rfl) j) | (exfalso; omega))
    · skip
      refine go_toq PM267 (k := 2) (pc' := 1435) (L' := [some (.inr (.inr (some 3000))), some (.inr (.inr (some 0))), some (.inr (.inr (some 79))), some (.inl i)]) (st' := []) (w' := (SH, dt)) rfl ?_
      exact K dt hI hM hM2 hk0 hk1 hk2 hk3 hk4 hk5 hk6 hk7 hk8 hk9 hk10 hk11 hk12 hk13 hk14 hk15 (by first | exact hI | exact TPL_k hd0 (fun _ => rfl) (fun _ => rfl) (by omega) | (exfalso; omega)) (by first | exact hI | exact SCL_k hd1 hM (fun j _ => (fun _ => rfl) j) (fun j _ => (fun _ => rfl) j) (fun j _ _ => (fun _ => rfl) j) | (exfalso; omega)) (by first | exact hI | exact SCL_k hd2 hM2 (fun j _ => (fun _ => rfl) j) (fun j _ => (fun _ => rfl) j) (fun j _ _ => (fun _ => rfl) j) | (exfalso; omega)) (by first | exact hI | exact QRL_k hd3 hM (fun j _ => (fun _ => rfl) j) ((fun _ => rfl) 1) (fun j _ _ => (fun _ => rfl) j) | (exfalso; omega)) (by first | exact hI | exact QRL_k hd4 hM2 (fun j _ => (fun _ => rfl) j) ((fun _ => rfl) 1) (fun j _ _ => (fun _ => rfl) j) | (exfalso; omega)) (by first | exact hI | exact SDL_k hd5 hM (fun j _ => (fun _ => rfl) j) ((fun _ => rfl) 1) (fun j _ _ => (fun _ => rfl) j) (fun j _ _ => (fun _ => rfl) j) | (exfalso; omega)) (by first | exact hI | exact SDL_k hd6 hM2 (fun j _ => (fun _ => rfl) j) ((fun _ => rfl) 1) (fun j _ _ => (fun _ => rfl) j) (fun j _ _ => (fun _ => rfl) j) | (exfalso; omega)) (by first | exact hI | exact LWL_k hd7 hM (fun j _ => (fun _ => rfl) j) (fun j _ => (fun _ => rfl) j) (fun j _ => (fun _ => rfl) j) (fun j _ _ => (fun _ => rfl) j) | (exfalso; omega)) (by first | exact hI | exact LWL_k hd8 hM2 (fun j _ => (fun _ => rfl) j) (fun j _ => (fun _ => rfl) j) (fun j _ => (fun _ => rfl) j) (fun j _ _ => (fun _ => rfl) j) | (exfalso; omega)) (by first | exact hI | exact CHL_k hd9 hM (fun j _ => (fun _ => rfl) j) (by omega) (fun j _ _ => (fun _ => rfl) j) | (exfalso; omega)) (by first | exact hI | exact CHL_k hd10 hM2 (fun j _ => (fun _ => rfl) j) (by omega) (fun j _ _ => (fun _ => rfl) j) | (exfalso; omega))
    · skip
      obtain ⟨h11_0, h11_1⟩ := h11
      replace h11_1 := hid h11_1
      refine go_toq PM267 (k := 2) (pc' := 1435) (L' := [some (.inr (.inr (some 3000))), some (.inr (.inr (some 0))), some (.inr (.inr (some 79))), some (.inl i)]) (st' := []) (w' := (SH, dt)) rfl ?_
      exact K dt hI hM hM2 hk0 hk1 hk2 hk3 hk4 hk5 hk6 hk7 hk8 hk9 hk10 hk11 hk12 hk13 hk14 hk15 (by first | exact hI | exact TPL_k hd0 (fun _ => rfl) (fun _ => rfl) (by (first | omega | (have z0_ := unhid h11_1; omega))) | (exfalso; (first | omega | (have z0_ := unhid h11_1; omega)))) (by first | exact hI | exact SCL_k hd1 hM (fun j _ => (fun _ => rfl) j) (fun j _ => (fun _ => rfl) j) (fun j _ _ => (fun _ => rfl) j) | (exfalso; (first | omega | (have z0_ := unhid h11_1; omega)))) (by first | exact hI | exact SCL_k hd2 hM2 (fun j _ => (fun _ => rfl) j) (fun j _ => (fun _ => rfl) j) (fun j _ _ => (fun _ => rfl) j) | (exfalso; (first | omega | (have z0_ := unhid h11_1; omega)))) (by first | exact hI | exact QRL_k hd3 hM (fun j _ => (fun _ => rfl) j) ((fun _ => rfl) 1) (fun j _ _ => (fun _ => rfl) j) | (exfalso; (first | omega | (have z0_ := unhid h11_1; omega)))) (by first | exact hI | exact QRL_k hd4 hM2 (fun j _ => (fun _ => rfl) j) ((fun _ => rfl) 1) (fun j _ _ => (fun _ => rfl) j) | (exfalso; (first | omega | (have z0_ := unhid h11_1; omega)))) (by first | exact hI | exact SDL_k hd5 hM (fun j _ => (fun _ => rfl) j) ((fun _ => rfl) 1) (fun j _ _ => (fun _ => rfl) j) (fun j _ _ => (fun _ => rfl) j) | (exfalso; (first | omega | (have z0_ := unhid h11_1; omega)))) (by first | exact hI | exact SDL_k hd6 hM2 (fun j _ => (fun _ => rfl) j) ((fun _ => rfl) 1) (fun j _ _ => (fun _ => rfl) j) (fun j _ _ => (fun _ => rfl) j) | (exfalso; (first | omega | (have z0_ := unhid h11_1; omega)))) (by first | exact hI | exact LWL_k hd7 hM (fun j _ => (fun _ => rfl) j) (fun j _ => (fun _ => rfl) j) (fun j _ => (fun _ => rfl) j) (fun j _ _ => (fun _ => rfl) j) | (exfalso; (first | omega | (have z0_ := unhid h11_1; omega)))) (by first | exact hI | exact LWL_k hd8 hM2 (fun j _ => (fun _ => rfl) j) (fun j _ => (fun _ => rfl) j) (fun j _ => (fun _ => rfl) j) (fun j _ _ => (fun _ => rfl) j) | (exfalso; (first | omega | (have z0_ := unhid h11_1; omega)))) (by first | exact hI | exact CHL_k hd9 hM (fun j _ => (fun _ => rfl) j) (by (first | omega | (have z0_ := unhid h11_1; omega))) (fun j _ _ => (fun _ => rfl) j) | (exfalso; (first | omega | (have z0_ := unhid h11_1; omega)))) (by first | exact hI | exact CHL_k hd10 hM2 (fun j _ => (fun _ => rfl) j) (by (first | omega | (have z0_ := unhid h11_1; omega))) (fun j _ _ => (fun _ => rfl) j) | (exfalso; (first | omega | (have z0_ := unhid h11_1; omega))))
    · skip
      obtain ⟨h11_0, h11_1⟩ := h11
      refine go_toq PM267 (k := 2) (pc' := 1435) (L' := [some (.inr (.inr (some 3000))), some (.inr (.inr (some 0))), some (.inr (.inr (some 79))), some (.inl i)]) (st' := []) (w' := (SH, dt)) rfl ?_
      exact K dt hI hM hM2 hk0 hk1 hk2 hk3 hk4 hk5 hk6 hk7 hk8 hk9 hk10 hk11 hk12 hk13 hk14 hk15 (by first | exact hI | exact TPL_k hd0 (fun _ => rfl) (fun _ => rfl) (by omega) | (exfalso; omega)) (by first | exact hI | exact SCL_k hd1 hM (fun j _ => (fun _ => rfl) j) (fun j _ => (fun _ => rfl) j) (fun j _ _ => (fun _ => rfl) j) | (exfalso; omega)) (by first | exact hI | exact SCL_k hd2 hM2 (fun j _ => (fun _ => rfl) j) (fun j _ => (fun _ => rfl) j) (fun j _ _ => (fun _ => rfl) j) | (exfalso; omega)) (by first | exact hI | exact QRL_k hd3 hM (fun j _ => (fun _ => rfl) j) ((fun _ => rfl) 1) (fun j _ _ => (fun _ => rfl) j) | (exfalso; omega)) (by first | exact hI | exact QRL_k hd4 hM2 (fun j _ => (fun _ => rfl) j) ((fun _ => rfl) 1) (fun j _ _ => (fun _ => rfl) j) | (exfalso; omega)) (by first | exact hI | exact SDL_k hd5 hM (fun j _ => (fun _ => rfl) j) ((fun _ => rfl) 1) (fun j _ _ => (fun _ => rfl) j) (fun j _ _ => (fun _ => rfl) j) | (exfalso; omega)) (by first | exact hI | exact SDL_k hd6 hM2 (fun j _ => (fun _ => rfl) j) ((fun _ => rfl) 1) (fun j _ _ => (fun _ => rfl) j) (fun j _ _ => (fun _ => rfl) j) | (exfalso; omega)) (by first | exact hI | exact LWL_k hd7 hM (fun j _ => (fun _ => rfl) j) (fun j _ => (fun _ => rfl) j) (fun j _ => (fun _ => rfl) j) (fun j _ _ => (fun _ => rfl) j) | (exfalso; omega)) (by first | exact hI | exact LWL_k hd8 hM2 (fun j _ => (fun _ => rfl) j) (fun j _ => (fun _ => rfl) j) (fun j _ => (fun _ => rfl) j) (fun j _ _ => (fun _ => rfl) j) | (exfalso; omega)) (by first | exact hI | exact CHL_k hd9 hM (fun j _ => (fun _ => rfl) j) (by omega) (fun j _ _ => (fun _ => rfl) j) | (exfalso; omega)) (by first | exact hI | exact CHL_k hd10 hM2 (fun j _ => (fun _ => rfl) j) (by omega) (fun j _ _ => (fun _ => rfl) j) | (exfalso; omega))
    · skip
      refine go_toq PM267 (k := 2) (pc' := 1435) (L' := [some (.inr (.inr (some 3000))), some (.inr (.inr (some 0))), some (.inr (.inr (some 79))), some (.inl i)]) (st' := []) (w' := (SH, dt)) rfl ?_
      exact K dt hI hM hM2 hk0 hk1 hk2 hk3 hk4 hk5 hk6 hk7 hk8 hk9 hk10 hk11 hk12 hk13 hk14 hk15 (by first | exact hI | exact TPL_k hd0 (fun _ => rfl) (fun _ => rfl) (by omega) | (exfalso; omega)) (by first | exact hI | exact SCL_k hd1 hM (fun j _ => (fun _ => rfl) j) (fun j _ => (fun _ => rfl) j) (fun j _ _ => (fun _ => rfl) j) | (exfalso; omega)) (by first | exact hI | exact SCL_k hd2 hM2 (fun j _ => (fun _ => rfl) j) (fun j _ => (fun _ => rfl) j) (fun j _ _ => (fun _ => rfl) j) | (exfalso; omega)) (by first | exact hI | exact QRL_k hd3 hM (fun j _ => (fun _ => rfl) j) ((fun _ => rfl) 1) (fun j _ _ => (fun _ => rfl) j) | (exfalso; omega)) (by first | exact hI | exact QRL_k hd4 hM2 (fun j _ => (fun _ => rfl) j) ((fun _ => rfl) 1) (fun j _ _ => (fun _ => rfl) j) | (exfalso; omega)) (by first | exact hI | exact SDL_k hd5 hM (fun j _ => (fun _ => rfl) j) ((fun _ => rfl) 1) (fun j _ _ => (fun _ => rfl) j) (fun j _ _ => (fun _ => rfl) j) | (exfalso; omega)) (by first | exact hI | exact SDL_k hd6 hM2 (fun j _ => (fun _ => rfl) j) ((fun _ => rfl) 1) (fun j _ _ => (fun _ => rfl) j) (fun j _ _ => (fun _ => rfl) j) | (exfalso; omega)) (by first | exact hI | exact LWL_k hd7 hM (fun j _ => (fun _ => rfl) j) (fun j _ => (fun _ => rfl) j) (fun j _ => (fun _ => rfl) j) (fun j _ _ => (fun _ => rfl) j) | (exfalso; omega)) (by first | exact hI | exact LWL_k hd8 hM2 (fun j _ => (fun _ => rfl) j) (fun j _ => (fun _ => rfl) j) (fun j _ => (fun _ => rfl) j) (fun j _ _ => (fun _ => rfl) j) | (exfalso; omega)) (by first | exact hI | exact CHL_k hd9 hM (fun j _ => (fun _ => rfl) j) (by omega) (fun j _ _ => (fun _ => rfl) j) | (exfalso; omega)) (by first | exact hI | exact CHL_k hd10 hM2 (fun j _ => (fun _ => rfl) j) (by omega) (fun j _ _ => (fun _ => rfl) j) | (exfalso; omega))
