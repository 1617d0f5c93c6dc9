set_option maxRecDepth 20000 in
set_option maxHeartbeats 8000000 in
theorem sp_case22 (L : Nat) (xs : Nat → Int32) (sio : Option Nat) (d : Nat) (Q : Option AV → am_W → Prop) (hLL : L ≤ 3072) (i : Int) (hi : 0 ≤ i ∧ i ≤ 3066) (hil : i ≤ (L : Int) - 6) (dt : Nat → Nat → Int) (hI : InvC dt) (hM : MW (dt 80)) (hM2 : MW (dt 81)) (hk0 : dt 1 0 = dt 80 0) (hk1 : dt 7 3 = dt 80 1) (hk2 : dt 10 3 = dt 80 2) (hk3 : dt 12 3 = dt 80 3) (hk4 : dt 14 3 = dt 80 4) (hk5 : dt 16 3 = dt 80 5) (hk6 : dt 18 0 = dt 81 0) (hk7 : dt 24 3 = dt 81 1) (hk8 : dt 27 3 = dt 81 2) (hk9 : dt 29 3 = dt 81 3) (hk10 : dt 31 3 = dt 81 4) (hk11 : dt 33 3 = dt 81 5) (hk12 : dt 0 2 = dt 79 2) (hk13 : dt 35 1 = dt 79 12) (hk14 : dt 35 2 = dt 79 19) (hk15 : dt 35 3 = dt 79 21) (hd0 : TPL (dt 36) (dt 85) (dt 35 1)) (hd1 : SCL (dt 2) (dt 3) (dt 80)) (hd2 : SCL (dt 19) (dt 20) (dt 81)) (hd3 : QRL (dt 8) (dt 80)) (hd4 : QRL (dt 25) (dt 81)) (hd5 : SDL (dt 9) (dt 80)) (hd6 : SDL (dt 26) (dt 81)) (hd7 : LWL (dt 4) (dt 5) (dt 6) (dt 80)) (hd8 : LWL (dt 21) (dt 22) (dt 23) (dt 81)) (hd9 : CHL (dt 11) (dt 80)) (hd10 : CHL (dt 28) (dt 81)) (hd11 : ANL (dt 13) (dt 80)) (hd12 : ANL (dt 30) (dt 81)) (K : ∀ (dt : Nat → Nat → Int) (hI : InvC dt) (hM : MW (dt 80)) (hM2 : MW (dt 81)) (hk0 : dt 1 0 = dt 80 0) (hk1 : dt 7 3 = dt 80 1) (hk2 : dt 10 3 = dt 80 2) (hk3 : dt 12 3 = dt 80 3) (hk4 : dt 14 3 = dt 80 4) (hk5 : dt 16 3 = dt 80 5) (hk6 : dt 18 0 = dt 81 0) (hk7 : dt 24 3 = dt 81 1) (hk8 : dt 27 3 = dt 81 2) (hk9 : dt 29 3 = dt 81 3) (hk10 : dt 31 3 = dt 81 4) (hk11 : dt 33 3 = dt 81 5) (hk12 : dt 0 2 = dt 79 2) (hk13 : dt 35 1 = dt 79 12) (hk14 : dt 35 2 = dt 79 19) (hk15 : dt 35 3 = dt 79 21) (hd0 : TPL (dt 36) (dt 85) (dt 35 1)) (hd1 : SCL (dt 2) (dt 3) (dt 80)) (hd2 : SCL (dt 19) (dt 20) (dt 81)) (hd3 : QRL (dt 8) (dt 80)) (hd4 : QRL (dt 25) (dt 81)) (hd5 : SDL (dt 9) (dt 80)) (hd6 : SDL (dt 26) (dt 81)) (hd7 : LWL (dt 4) (dt 5) (dt 6) (dt 80)) (hd8 : LWL (dt 21) (dt 22) (dt 23) (dt 81)) (hd9 : CHL (dt 11) (dt 80)) (hd10 : CHL (dt 28) (dt 81)) (hd11 : ANL (dt 13) (dt 80)) (hd12 : ANL (dt 30) (dt 81)), GO (am_XX L xs sio) (d + 39) 267 1435 [some (.inr (.inr (some 3000))), some (.inr (.inr (some 0))), some (.inr (.inr (some 79))), some (.inl i)] [] (SH, dt) Q) : GO (am_XX L xs sio) (d + 39) 267 1086 [some (.inr (.inr (some 3000))), some (.inr (.inr (some 0))), some (.inr (.inr (some 79))), some (.inl i)] [] (SH, dt) Q := by
  have hF : Fr [0, 1, 2, 3, 4, 5, 6, 7, 8, 9, 10, 11, 12, 13, 14, 15, 16, 17, 18, 19, 20, 21, 22, 23, 24, 25, 26, 27, 28, 29, 30, 31, 32, 33, 34, 35, 36, 37, 38, 39, 40, 41, 42, 43, 44, 45, 46, 47, 48, 49, 50, 51, 52, 53, 54, 55, 56, 57, 58, 59, 60, 61, 62, 63, 64, 65, 66, 67, 68, 69, 70, 71, 72, 73, 74, 75, 76, 77, 78, 79, 80, 81, 82, 83, 84, 85, 86, 87, 88, 89, 90, 91, 92, 93, 94, 95, 96, 97, 98, 99, 100, 101, 102, 103, 104] dt dt := Fr_refl
  have hqo := QOC_R hd3 hM hk1
  have hb1_ := hM.1.1
  have hb2_ := hM.1.2.1
  have hb3_ := hM.1.2.2.1
  have halk : ALK dt (dt 80) := ⟨hd7, hd3, hd5, hd9, hk1, hk2⟩
  have hav_ : ∀ i : Nat, (i : Int) < dt 12 3 → 0 ≤ dt 13 (6 * i + 1) ∧ dt 13 (6 * i + 1) < dt 7 3 := fun i hi => by have z := hd11 i (by omega); have y := z.2.2 1 (by decide); have w := z.2.1; omega
  refine go_toq PM267 (k := 5) (pc' := 1091) (L' := [some (.inr (.inr (some 3000))), some (.inr (.inr (some 0))), some (.inr (.inr (some 79))), some (.inl i)]) (st' := [.inl (i + 1), .inr (.inr (some 3000)), .inr (.inr (some 0))]) (w' := (SH, dt)) rfl ?_
  have r1 := i32_R (xs ((i + 1).toNat))
  refine go_smpq PM267 (L' := [some (.inr (.inr (some 3000))), some (.inr (.inr (some 0))), some (.inr (.inr (some 79))), some (.inl i)]) (st' := [.inl ((xs ((i + 1).toNat)).toInt), .inr (.inr (some 0))]) (w' := (SH, dt)) rfl rfl (s_iald (n := L) (f := fun j => (xs j).toInt) (am_scr hLL) ⟨by omega, by omega⟩) ?_
  refine go_callq PM267 PM89 (Q' := _) rfl rfl rfl rfl (sp_X5_beside L xs sio (d + 34) dt hI  ((xs ((i + 1).toNat)).toInt) ⟨by omega, by omega⟩ ) ?_
  rintro _ _ ⟨dt3, rfl, hI4, hF5, h2⟩
  refine ⟨rfl, ?_⟩
  have hF6 : Fr [0, 1, 2, 3, 4, 5, 6, 7, 8, 9, 10, 11, 12, 13, 14, 15, 16, 17, 18, 19, 20, 21, 22, 23, 24, 25, 26, 27, 28, 29, 30, 31, 32, 33, 34, 35, 36, 37, 38, 39, 40, 41, 42, 43, 44, 45, 46, 47, 48, 49, 50, 51, 52, 53, 54, 55, 56, 57, 58, 59, 60, 61, 62, 63, 64, 65, 66, 67, 68, 69, 70, 71, 72, 73, 74, 75, 76, 77, 78, 79, 80, 81, 82, 83, 84, 85, 86, 87, 88, 89, 90, 91, 92, 93, 94, 95, 96, 97, 98, 99, 100, 101, 102, 103, 104] dt dt3 := Fr_tr hF hF5 (by decide)
  have hM7 : MW (dt3 80) := MW_fr hM hF5 (by decide)
  have w8 : dt3 1 0 = dt 1 0 := hF5 1 (by decide) 0
  have w9 : dt3 7 3 = dt 7 3 := hF5 7 (by decide) 3
  have w10 : dt3 10 3 = dt 10 3 := hF5 10 (by decide) 3
  have w11 : dt3 12 3 = dt 12 3 := hF5 12 (by decide) 3
  have w12 : dt3 14 3 = dt 14 3 := hF5 14 (by decide) 3
  have w13 : dt3 16 3 = dt 16 3 := hF5 16 (by decide) 3
  have w14 : dt3 18 0 = dt 18 0 := hF5 18 (by decide) 0
  have w15 : dt3 24 3 = dt 24 3 := hF5 24 (by decide) 3
  have w16 : dt3 27 3 = dt 27 3 := hF5 27 (by decide) 3
  have w17 : dt3 29 3 = dt 29 3 := hF5 29 (by decide) 3
  have w18 : dt3 31 3 = dt 31 3 := hF5 31 (by decide) 3
  have w19 : dt3 33 3 = dt 33 3 := hF5 33 (by decide) 3
  have w20 : dt3 0 2 = dt 0 2 := hF5 0 (by decide) 2
  have w21 : dt3 35 1 = dt 35 1 := hF5 35 (by decide) 1
  have w22 : dt3 35 2 = dt 35 2 := hF5 35 (by decide) 2
  have w23 : dt3 35 3 = dt 35 3 := hF5 35 (by decide) 3
  have w24 : dt3 80 0 = dt 80 0 := hF5 80 (by decide) 0
  have w25 : dt3 80 1 = dt 80 1 := hF5 80 (by decide) 1
  have w26 : dt3 80 2 = dt 80 2 := hF5 80 (by decide) 2
  have w27 : dt3 80 3 = dt 80 3 := hF5 80 (by decide) 3
  have w28 : dt3 80 4 = dt 80 4 := hF5 80 (by decide) 4
  have w29 : dt3 80 5 = dt 80 5 := hF5 80 (by decide) 5
  have w30 : dt3 81 0 = dt 81 0 := hF5 81 (by decide) 0
  have w31 : dt3 81 1 = dt 81 1 := hF5 81 (by decide) 1
  have w32 : dt3 81 2 = dt 81 2 := hF5 81 (by decide) 2
  have w33 : dt3 81 3 = dt 81 3 := hF5 81 (by decide) 3
  have w34 : dt3 81 4 = dt 81 4 := hF5 81 (by decide) 4
  have w35 : dt3 81 5 = dt 81 5 := hF5 81 (by decide) 5
  have w36 : dt3 79 2 = dt 79 2 := hF5 79 (by decide) 2
  have w37 : dt3 79 12 = dt 79 12 := hF5 79 (by decide) 12
  have w38 : dt3 79 19 = dt 79 19 := hF5 79 (by decide) 19
  have w39 : dt3 79 21 = dt 79 21 := hF5 79 (by decide) 21
  rcases h2 with ⟨v_h2, rfl, h2r, h2⟩
  have M240 : MW (dt3 81) := MW_frk hM2 hF5 (by decide)
  have C41 : ∀ j : Nat, dt3 2 j = dt 2 j := fun j => (hF5 2 (by decide) j).trans ((fun _ => rfl) j)
  have C42 : ∀ j : Nat, dt3 3 j = dt 3 j := fun j => (hF5 3 (by decide) j).trans ((fun _ => rfl) j)
  have C43 : ∀ j : Nat, dt3 4 j = dt 4 j := fun j => (hF5 4 (by decide) j).trans ((fun _ => rfl) j)
  have C44 : ∀ j : Nat, dt3 5 j = dt 5 j := fun j => (hF5 5 (by decide) j).trans ((fun _ => rfl) j)
  have C45 : ∀ j : Nat, dt3 6 j = dt 6 j := fun j => (hF5 6 (by decide) j).trans ((fun _ => rfl) j)
  have C46 : ∀ j : Nat, dt3 8 j = dt 8 j := fun j => (hF5 8 (by decide) j).trans ((fun _ => rfl) j)
  have C47 : ∀ j : Nat, dt3 9 j = dt 9 j := fun j => (hF5 9 (by decide) j).trans ((fun _ => rfl) j)
  have C48 : ∀ j : Nat, dt3 11 j = dt 11 j := fun j => (hF5 11 (by decide) j).trans ((fun _ => rfl) j)
  have C49 : ∀ j : Nat, dt3 19 j = dt 19 j := fun j => (hF5 19 (by decide) j).trans ((fun _ => rfl) j)
  have C50 : ∀ j : Nat, dt3 20 j = dt 20 j := fun j => (hF5 20 (by decide) j).trans ((fun _ => rfl) j)
  have C51 : ∀ j : Nat, dt3 21 j = dt 21 j := fun j => (hF5 21 (by decide) j).trans ((fun _ => rfl) j)
  have C52 : ∀ j : Nat, dt3 22 j = dt 22 j := fun j => (hF5 22 (by decide) j).trans ((fun _ => rfl) j)
  have C53 : ∀ j : Nat, dt3 23 j = dt 23 j := fun j => (hF5 23 (by decide) j).trans ((fun _ => rfl) j)
  have C54 : ∀ j : Nat, dt3 25 j = dt 25 j := fun j => (hF5 25 (by decide) j).trans ((fun _ => rfl) j)
  have C55 : ∀ j : Nat, dt3 26 j = dt 26 j := fun j => (hF5 26 (by decide) j).trans ((fun _ => rfl) j)
  have C56 : ∀ j : Nat, dt3 28 j = dt 28 j := fun j => (hF5 28 (by decide) j).trans ((fun _ => rfl) j)
  have C57 : ∀ j : Nat, dt3 13 j = dt 13 j := fun j => (hF5 13 (by decide) j).trans ((fun _ => rfl) j)
  have C58 : ∀ j : Nat, dt3 30 j = dt 30 j := fun j => (hF5 30 (by decide) j).trans ((fun _ => rfl) j)
  have C59 : ∀ j : Nat, dt3 36 j = dt 36 j := fun j => (hF5 36 (by decide) j).trans ((fun _ => rfl) j)
  have C60 : ∀ j : Nat, dt3 80 j = dt 80 j := fun j => (hF5 80 (by decide) j).trans ((fun _ => rfl) j)
  have C61 : ∀ j : Nat, dt3 81 j = dt 81 j := fun j => (hF5 81 (by decide) j).trans ((fun _ => rfl) j)
  have C62 : ∀ j : Nat, dt3 85 j = dt 85 j := fun j => (hF5 85 (by decide) j).trans ((fun _ => rfl) j)
  refine go_toq PM267 (k := 6) (pc' := 1101) (L' := [some (.inr (.inr (some 3000))), some (.inr (.inr (some 0))), some (.inr (.inr (some 79))), some (.inl i)]) (st' := [.inl (i + 1), .inr (.inr (some 3000)), .inr (.inr (some 79))]) (w' := (SH, dt3)) rfl ?_
  have r63 := i32_R (xs ((i + 1).toNat))
  refine go_smpq PM267 (L' := [some (.inr (.inr (some 3000))), some (.inr (.inr (some 0))), some (.inr (.inr (some 79))), some (.inl i)]) (st' := [.inl ((xs ((i + 1).toNat)).toInt), .inr (.inr (some 79))]) (w' := (SH, dt3)) rfl rfl (s_iald (n := L) (f := fun j => (xs j).toInt) (am_scr hLL) ⟨by omega, by omega⟩) ?_
  refine go_callq PM267 PM232 (Q' := _) rfl rfl rfl rfl (sp_X6_beside L xs sio (d + 31) dt3 hI4 hM7  ((xs ((i + 1).toNat)).toInt) ⟨by omega, by omega⟩ ) ?_
  rintro _ _ ⟨dt65, rfl, hI66, hF67, h64⟩
  refine ⟨rfl, ?_⟩
  have hF68 : Fr [0, 1, 2, 3, 4, 5, 6, 7, 8, 9, 10, 11, 12, 13, 14, 15, 16, 17, 18, 19, 20, 21, 22, 23, 24, 25, 26, 27, 28, 29, 30, 31, 32, 33, 34, 35, 36, 37, 38, 39, 40, 41, 42, 43, 44, 45, 46, 47, 48, 49, 50, 51, 52, 53, 54, 55, 56, 57, 58, 59, 60, 61, 62, 63, 64, 65, 66, 67, 68, 69, 70, 71, 72, 73, 74, 75, 76, 77, 78, 79, 80, 81, 82, 83, 84, 85, 86, 87, 88, 89, 90, 91, 92, 93, 94, 95, 96, 97, 98, 99, 100, 101, 102, 103, 104] dt dt65 := Fr_tr hF6 hF67 (by decide)
  have hM69 : MW (dt65 80) := MW_fr hM7 hF67 (by decide)
  have w70 : dt65 1 0 = dt 1 0 := (hF67 1 (by decide) 0).trans w8
  have w71 : dt65 7 3 = dt 7 3 := (hF67 7 (by decide) 3).trans w9
  have w72 : dt65 10 3 = dt 10 3 := (hF67 10 (by decide) 3).trans w10
  have w73 : dt65 12 3 = dt 12 3 := (hF67 12 (by decide) 3).trans w11
  have w74 : dt65 14 3 = dt 14 3 := (hF67 14 (by decide) 3).trans w12
  have w75 : dt65 16 3 = dt 16 3 := (hF67 16 (by decide) 3).trans w13
  have w76 : dt65 18 0 = dt 18 0 := (hF67 18 (by decide) 0).trans w14
  have w77 : dt65 24 3 = dt 24 3 := (hF67 24 (by decide) 3).trans w15
  have w78 : dt65 27 3 = dt 27 3 := (hF67 27 (by decide) 3).trans w16
  have w79 : dt65 29 3 = dt 29 3 := (hF67 29 (by decide) 3).trans w17
  have w80 : dt65 31 3 = dt 31 3 := (hF67 31 (by decide) 3).trans w18
  have w81 : dt65 33 3 = dt 33 3 := (hF67 33 (by decide) 3).trans w19
  have w82 : dt65 0 2 = dt 0 2 := (hF67 0 (by decide) 2).trans w20
  have w83 : dt65 35 1 = dt 35 1 := (hF67 35 (by decide) 1).trans w21
  have w84 : dt65 35 2 = dt 35 2 := (hF67 35 (by decide) 2).trans w22
  have w85 : dt65 35 3 = dt 35 3 := (hF67 35 (by decide) 3).trans w23
  have w86 : dt65 80 0 = dt 80 0 := (hF67 80 (by decide) 0).trans w24
  have w87 : dt65 80 1 = dt 80 1 := (hF67 80 (by decide) 1).trans w25
  have w88 : dt65 80 2 = dt 80 2 := (hF67 80 (by decide) 2).trans w26
  have w89 : dt65 80 3 = dt 80 3 := (hF67 80 (by decide) 3).trans w27
  have w90 : dt65 80 4 = dt 80 4 := (hF67 80 (by decide) 4).trans w28
  have w91 : dt65 80 5 = dt 80 5 := (hF67 80 (by decide) 5).trans w29
  have w92 : dt65 81 0 = dt 81 0 := (hF67 81 (by decide) 0).trans w30
  have w93 : dt65 81 1 = dt 81 1 := (hF67 81 (by decide) 1).trans w31
  have w94 : dt65 81 2 = dt 81 2 := (hF67 81 (by decide) 2).trans w32
  have w95 : dt65 81 3 = dt 81 3 := (hF67 81 (by decide) 3).trans w33
  have w96 : dt65 81 4 = dt 81 4 := (hF67 81 (by decide) 4).trans w34
  have w97 : dt65 81 5 = dt 81 5 := (hF67 81 (by decide) 5).trans w35
  have w98 : dt65 79 2 = dt 79 2 := (hF67 79 (by decide) 2).trans w36
  have w99 : dt65 79 12 = dt 79 12 := (hF67 79 (by decide) 12).trans w37
  have w100 : dt65 79 19 = dt 79 19 := (hF67 79 (by decide) 19).trans w38
  have w101 : dt65 79 21 = dt 79 21 := (hF67 79 (by decide) 21).trans w39
  rcases h64 with ⟨v_h64, rfl, h64r, h64⟩
  have M2102 : MW (dt65 81) := MW_frk M240 hF67 (by decide)
  have C103 : ∀ j : Nat, dt65 2 j = dt 2 j := fun j => (hF67 2 (by decide) j).trans (C41 j)
  have C104 : ∀ j : Nat, dt65 3 j = dt 3 j := fun j => (hF67 3 (by decide) j).trans (C42 j)
  have C105 : ∀ j : Nat, dt65 4 j = dt 4 j := fun j => (hF67 4 (by decide) j).trans (C43 j)
  have C106 : ∀ j : Nat, dt65 5 j = dt 5 j := fun j => (hF67 5 (by decide) j).trans (C44 j)
  have C107 : ∀ j : Nat, dt65 6 j = dt 6 j := fun j => (hF67 6 (by decide) j).trans (C45 j)
  have C108 : ∀ j : Nat, dt65 8 j = dt 8 j := fun j => (hF67 8 (by decide) j).trans (C46 j)
  have C109 : ∀ j : Nat, dt65 9 j = dt 9 j := fun j => (hF67 9 (by decide) j).trans (C47 j)
  have C110 : ∀ j : Nat, dt65 11 j = dt 11 j := fun j => (hF67 11 (by decide) j).trans (C48 j)
  have C111 : ∀ j : Nat, dt65 19 j = dt 19 j := fun j => (hF67 19 (by decide) j).trans (C49 j)
  have C112 : ∀ j : Nat, dt65 20 j = dt 20 j := fun j => (hF67 20 (by decide) j).trans (C50 j)
  have C113 : ∀ j : Nat, dt65 21 j = dt 21 j := fun j => (hF67 21 (by decide) j).trans (C51 j)
  have C114 : ∀ j : Nat, dt65 22 j = dt 22 j := fun j => (hF67 22 (by decide) j).trans (C52 j)
  have C115 : ∀ j : Nat, dt65 23 j = dt 23 j := fun j => (hF67 23 (by decide) j).trans (C53 j)
  have C116 : ∀ j : Nat, dt65 25 j = dt 25 j := fun j => (hF67 25 (by decide) j).trans (C54 j)
  have C117 : ∀ j : Nat, dt65 26 j = dt 26 j := fun j => (hF67 26 (by decide) j).trans (C55 j)
  have C118 : ∀ j : Nat, dt65 28 j = dt 28 j := fun j => (hF67 28 (by decide) j).trans (C56 j)
  have C119 : ∀ j : Nat, dt65 13 j = dt 13 j := fun j => (hF67 13 (by decide) j).trans (C57 j)
  have C120 : ∀ j : Nat, dt65 30 j = dt 30 j := fun j => (hF67 30 (by decide) j).trans (C58 j)
  have C121 : ∀ j : Nat, dt65 36 j = dt 36 j := fun j => (hF67 36 (by decide) j).trans (C59 j)
  have C122 : ∀ j : Nat, dt65 80 j = dt 80 j := fun j => (hF67 80 (by decide) j).trans (C60 j)
  have C123 : ∀ j : Nat, dt65 81 j = dt 81 j := fun j => (hF67 81 (by decide) j).trans (C61 j)
  have C124 : ∀ j : Nat, dt65 85 j = dt 85 j := fun j => (hF67 85 (by decide) j).trans (C62 j)
  refine go_toq PM267 (k := 2) (pc' := 1435) (L' := [some (.inr (.inr (some 3000))), some (.inr (.inr (some 0))), some (.inr (.inr (some 79))), some (.inl i)]) (st' := []) (w' := (SH, dt65)) rfl ?_
  exact K dt65 hI66 hM69 M2102 (w70.trans (hk0.trans w86.symm)) (w71.trans (hk1.trans w87.symm)) (w72.trans (hk2.trans w88.symm)) (w73.trans (hk3.trans w89.symm)) (w74.trans (hk4.trans w90.symm)) (w75.trans (hk5.trans w91.symm)) (w76.trans (hk6.trans w92.symm)) (w77.trans (hk7.trans w93.symm)) (w78.trans (hk8.trans w94.symm)) (w79.trans (hk9.trans w95.symm)) (w80.trans (hk10.trans w96.symm)) (w81.trans (hk11.trans w97.symm)) (w82.trans (hk12.trans w98.symm)) (w83.trans (hk13.trans w99.symm)) (w84.trans (hk14.trans w100.symm)) (w85.trans (hk15.trans w101.symm)) (by first | exact hI | exact TPL_k hd0 C121 C124 (by omega) | (exfalso; omega)) (by first | exact hI | exact SCL_k hd1 hM (fun j _ => C103 j) (fun j _ => C104 j) (fun j _ _ => C122 j) | (exfalso; omega)) (by first | exact hI | exact SCL_k hd2 hM2 (fun j _ => C111 j) (fun j _ => C112 j) (fun j _ _ => C123 j) | (exfalso; omega)) (by first | exact hI | exact QRL_k hd3 hM (fun j _ => C108 j) (C122 1) (fun j _ _ => C122 j) | (exfalso; omega)) (by first | exact hI | exact QRL_k hd4 hM2 (fun j _ => C116 j) (C123 1) (fun j _ _ => C123 j) | (exfalso; omega)) (by first | exact hI | exact SDL_k hd5 hM (fun j _ => C109 j) (C122 1) (fun j _ _ => C122 j) (fun j _ _ => C122 j) | (exfalso; omega)) (by first | exact hI | exact SDL_k hd6 hM2 (fun j _ => C117 j) (C123 1) (fun j _ _ => C123 j) (fun j _ _ => C123 j) | (exfalso; omega)) (by first | exact hI | exact LWL_k hd7 hM (fun j _ => C105 j) (fun j _ => C106 j) (fun j _ => C107 j) (fun j _ _ => C122 j) | (exfalso; omega)) (by first | exact hI | exact LWL_k hd8 hM2 (fun j _ => C113 j) (fun j _ => C114 j) (fun j _ => C115 j) (fun j _ _ => C123 j) | (exfalso; omega)) (by first | exact hI | exact CHL_k hd9 hM (fun j _ => C110 j) (by omega) (fun j _ _ => C122 j) | (exfalso; omega)) (by first | exact hI | exact CHL_k hd10 hM2 (fun j _ => C118 j) (by omega) (fun j _ _ => C123 j) | (exfalso; omega)) (by first | exact hI | exact ANL_k hd11 hM (fun j _ => C119 j) (by omega) (by omega) (by omega) (fun j _ _ => C122 j) | (exfalso; omega)) (by first | exact hI | exact ANL_k hd12 hM2 (fun j _ => C120 j) (by omega) (by omega) (by omega) (fun j _ _ => C123 j) | (exfalso; omega))
set_option maxRecDepth 20000 in
set_option maxHeartbeats 8000000 in
theorem sp_case23 (L : Nat) (xs : Nat → Int32) (sio : Option Nat) (d : Nat) (Q : Option AV → am_W → Prop) (hLL : L ≤ 3072) (i : Int) (hi : 0 ≤ i ∧ i ≤ 3066) (hil : i ≤ (L : Int) - 6) (dt : Nat → Nat → Int) (hI : InvC dt) (hM : MW (dt 80)) (hM2 : MW (dt 81)) (hk0 : dt 1 0 = dt 80 0) (hk1 : dt 7 3 = dt 80 1) (hk2 : dt 10 3 = dt 80 2) (hk3 : dt 12 3 = dt 80 3) (hk4 : dt 14 3 = dt 80 4) (hk5 : dt 16 3 = dt 80 5) (hk6 : dt 18 0 = dt 81 0) (hk7 : dt 24 3 = dt 81 1) (hk8 : dt 27 3 = dt 81 2) (hk9 : dt 29 3 = dt 81 3) (hk10 : dt 31 3 = dt 81 4) (hk11 : dt 33 3 = dt 81 5) (hk12 : dt 0 2 = dt 79 2) (hk13 : dt 35 1 = dt 79 12) (hk14 : dt 35 2 = dt 79 19) (hk15 : dt 35 3 = dt 79 21) (hd0 : TPL (dt 36) (dt 85) (dt 35 1)) (hd1 : SCL (dt 2) (dt 3) (dt 80)) (hd2 : SCL (dt 19) (dt 20) (dt 81)) (hd3 : QRL (dt 8) (dt 80)) (hd4 : QRL (dt 25) (dt 81)) (hd5 : SDL (dt 9) (dt 80)) (hd6 : SDL (dt 26) (dt 81)) (hd7 : LWL (dt 4) (dt 5) (dt 6) (dt 80)) (hd8 : LWL (dt 21) (dt 22) (dt 23) (dt 81)) (hd9 : CHL (dt 11) (dt 80)) (hd10 : CHL (dt 28) (dt 81)) (hd11 : ANL (dt 13) (dt 80)) (hd12 : ANL (dt 30) (dt 81)) (K : ∀ (dt : Nat → Nat → Int) (hI : InvC dt) (hM : MW (dt 80)) (hM2 : MW (dt 81)) (hk0 : dt 1 0 = dt 80 0) (hk1 : dt 7 3 = dt 80 1) (hk2 : dt 10 3 = dt 80 2) (hk3 : dt 12 3 = dt 80 3) (hk4 : dt 14 3 = dt 80 4) (hk5 : dt 16 3 = dt 80 5) (hk6 : dt 18 0 = dt 81 0) (hk7 : dt 24 3 = dt 81 1) (hk8 : dt 27 3 = dt 81 2) (hk9 : dt 29 3 = dt 81 3) (hk10 : dt 31 3 = dt 81 4) (hk11 : dt 33 3 = dt 81 5) (hk12 : dt 0 2 = dt 79 2) (hk13 : dt 35 1 = dt 79 12) (hk14 : dt 35 2 = dt 79 19) (hk15 : dt 35 3 = dt 79 21) (hd0 : TPL (dt 36) (dt 85) (dt 35 1)) (hd1 : SCL (dt 2) (dt 3) (dt 80)) (hd2 : SCL (dt 19) (dt 20) (dt 81)) (hd3 : QRL (dt 8) (dt 80)) (hd4 : QRL (dt 25) (dt 81)) (hd5 : SDL (dt 9) (dt 80)) (hd6 : SDL (dt 26) (dt 81)) (hd7 : LWL (dt 4) (dt 5) (dt 6) (dt 80)) (hd8 : LWL (dt 21) (dt 22) (dt 23) (dt 81)) (hd9 : CHL (dt 11) (dt 80)) (hd10 : CHL (dt 28) (dt 81)) (hd11 : ANL (dt 13) (dt 80)) (hd12 : ANL (dt 30) (dt 81)), GO (am_XX L xs sio) (d + 39) 267 1435 [some (.inr (.inr (some 3000))), some (.inr (.inr (some 0))), some (.inr (.inr (some 79))), some (.inl i)] [] (SH, dt) Q) : GO (am_XX L xs sio) (d + 39) 267 1109 [some (.inr (.inr (some 3000))), some (.inr (.inr (some 0))), some (.inr (.inr (some 79))), some (.inl i)] [] (SH, dt) Q := by
  have hF : Fr [0, 1, 2, 3, 4, 5, 6, 7, 8, 9, 10, 11, 12, 13, 14, 15, 16, 17, 18, 19, 20, 21, 22, 23, 24, 25, 26, 27, 28, 29, 30, 31, 32, 33, 34, 35, 36, 37, 38, 39, 40, 41, 42, 43, 44, 45, 46, 47, 48, 49, 50, 51, 52, 53, 54, 55, 56, 57, 58, 59, 60, 61, 62, 63, 64, 65, 66, 67, 68, 69, 70, 71, 72, 73, 74, 75, 76, 77, 78, 79, 80, 81, 82, 83, 84, 85, 86, 87, 88, 89, 90, 91, 92, 93, 94, 95, 96, 97, 98, 99, 100, 101, 102, 103, 104] dt dt := Fr_refl
  have hqo := QOC_R hd3 hM hk1
  have hb1_ := hM.1.1
  have hb2_ := hM.1.2.1
  have hb3_ := hM.1.2.2.1
  have halk : ALK dt (dt 80) := ⟨hd7, hd3, hd5, hd9, hk1, hk2⟩
  have hav_ : ∀ i : Nat, (i : Int) < dt 12 3 → 0 ≤ dt 13 (6 * i + 1) ∧ dt 13 (6 * i + 1) < dt 7 3 := fun i hi => by have z := hd11 i (by omega); have y := z.2.2 1 (by decide); have w := z.2.1; omega
  refine go_toq PM267 (k := 5) (pc' := 1114) (L' := [some (.inr (.inr (some 3000))), some (.inr (.inr (some 0))), some (.inr (.inr (some 79))), some (.inl i)]) (st' := [.inl (i + 1), .inr (.inr (some 3000)), .inr (.inr (some 0))]) (w' := (SH, dt)) rfl ?_
  have r1 := i32_R (xs ((i + 1).toNat))
  refine go_smpq PM267 (L' := [some (.inr (.inr (some 3000))), some (.inr (.inr (some 0))), some (.inr (.inr (some 79))), some (.inl i)]) (st' := [.inl ((xs ((i + 1).toNat)).toInt), .inr (.inr (some 0))]) (w' := (SH, dt)) rfl rfl (s_iald (n := L) (f := fun j => (xs j).toInt) (am_scr hLL) ⟨by omega, by omega⟩) ?_
  refine go_toq PM267 (k := 4) (pc' := 1119) (L' := [some (.inr (.inr (some 3000))), some (.inr (.inr (some 0))), some (.inr (.inr (some 79))), some (.inl i)]) (st' := [.inl (i + 2), .inr (.inr (some 3000)), .inl ((xs ((i + 1).toNat)).toInt), .inr (.inr (some 0))]) (w' := (SH, dt)) rfl ?_
  have r2 := i32_R (xs ((i + 2).toNat))
  refine go_smpq PM267 (L' := [some (.inr (.inr (some 3000))), some (.inr (.inr (some 0))), some (.inr (.inr (some 79))), some (.inl i)]) (st' := [.inl ((xs ((i + 2).toNat)).toInt), .inl ((xs ((i + 1).toNat)).toInt), .inr (.inr (some 0))]) (w' := (SH, dt)) rfl rfl (s_iald (n := L) (f := fun j => (xs j).toInt) (am_scr hLL) ⟨by omega, by omega⟩) ?_
  refine go_callq PM267 PM90 (Q' := _) rfl rfl rfl rfl (sp_X5_eyes L xs sio (d + 36) dt hI  ((xs ((i + 1).toNat)).toInt) ⟨by omega, by omega⟩ ((xs ((i + 2).toNat)).toInt) ⟨by omega, by omega⟩ ) ?_
  rintro _ _ ⟨dt4, rfl, hI5, hF6, h3⟩
  refine ⟨rfl, ?_⟩
  have hF7 : Fr [0, 1, 2, 3, 4, 5, 6, 7, 8, 9, 10, 11, 12, 13, 14, 15, 16, 17, 18, 19, 20, 21, 22, 23, 24, 25, 26, 27, 28, 29, 30, 31, 32, 33, 34, 35, 36, 37, 38, 39, 40, 41, 42, 43, 44, 45, 46, 47, 48, 49, 50, 51, 52, 53, 54, 55, 56, 57, 58, 59, 60, 61, 62, 63, 64, 65, 66, 67, 68, 69, 70, 71, 72, 73, 74, 75, 76, 77, 78, 79, 80, 81, 82, 83, 84, 85, 86, 87, 88, 89, 90, 91, 92, 93, 94, 95, 96, 97, 98, 99, 100, 101, 102, 103, 104] dt dt4 := Fr_tr hF hF6 (by decide)
  have hM8 : MW (dt4 80) := MW_fr hM hF6 (by decide)
  have w9 : dt4 1 0 = dt 1 0 := hF6 1 (by decide) 0
  have w10 : dt4 7 3 = dt 7 3 := hF6 7 (by decide) 3
  have w11 : dt4 10 3 = dt 10 3 := hF6 10 (by decide) 3
  have w12 : dt4 12 3 = dt 12 3 := hF6 12 (by decide) 3
  have w13 : dt4 16 3 = dt 16 3 := hF6 16 (by decide) 3
  have w14 : dt4 18 0 = dt 18 0 := hF6 18 (by decide) 0
  have w15 : dt4 24 3 = dt 24 3 := hF6 24 (by decide) 3
  have w16 : dt4 27 3 = dt 27 3 := hF6 27 (by decide) 3
  have w17 : dt4 29 3 = dt 29 3 := hF6 29 (by decide) 3
  have w18 : dt4 31 3 = dt 31 3 := hF6 31 (by decide) 3
  have w19 : dt4 33 3 = dt 33 3 := hF6 33 (by decide) 3
  have w20 : dt4 0 2 = dt 0 2 := hF6 0 (by decide) 2
  have w21 : dt4 35 1 = dt 35 1 := hF6 35 (by decide) 1
  have w22 : dt4 35 2 = dt 35 2 := hF6 35 (by decide) 2
  have w23 : dt4 35 3 = dt 35 3 := hF6 35 (by decide) 3
  have w24 : dt4 80 0 = dt 80 0 := hF6 80 (by decide) 0
  have w25 : dt4 80 1 = dt 80 1 := hF6 80 (by decide) 1
  have w26 : dt4 80 2 = dt 80 2 := hF6 80 (by decide) 2
  have w27 : dt4 80 3 = dt 80 3 := hF6 80 (by decide) 3
  have w28 : dt4 80 4 = dt 80 4 := hF6 80 (by decide) 4
  have w29 : dt4 80 5 = dt 80 5 := hF6 80 (by decide) 5
  have w30 : dt4 81 0 = dt 81 0 := hF6 81 (by decide) 0
  have w31 : dt4 81 1 = dt 81 1 := hF6 81 (by decide) 1
  have w32 : dt4 81 2 = dt 81 2 := hF6 81 (by decide) 2
  have w33 : dt4 81 3 = dt 81 3 := hF6 81 (by decide) 3
  have w34 : dt4 81 4 = dt 81 4 := hF6 81 (by decide) 4
  have w35 : dt4 81 5 = dt 81 5 := hF6 81 (by decide) 5
  have w36 : dt4 79 2 = dt 79 2 := hF6 79 (by decide) 2
  have w37 : dt4 79 12 = dt 79 12 := hF6 79 (by decide) 12
  have w38 : dt4 79 19 = dt 79 19 := hF6 79 (by decide) 19
  have w39 : dt4 79 21 = dt 79 21 := hF6 79 (by decide) 21
  rcases h3 with ⟨rfl, h3⟩ | ⟨v_h3, rfl, h3r, h3⟩
  · skip
    obtain ⟨h3_0, h3_1⟩ := h3
    replace h3_0 := hid h3_0
    have w40 : dt4 14 3 = dt 14 3 := h3_1
    have M241 : MW (dt4 81) := MW_frk hM2 hF6 (by decide)
    have C42 : ∀ j : Nat, dt4 2 j = dt 2 j := fun j => (hF6 2 (by decide) j).trans ((fun _ => rfl) j)
    have C43 : ∀ j : Nat, dt4 3 j = dt 3 j := fun j => (hF6 3 (by decide) j).trans ((fun _ => rfl) j)
    have C44 : ∀ j : Nat, dt4 4 j = dt 4 j := fun j => (hF6 4 (by decide) j).trans ((fun _ => rfl) j)
    have C45 : ∀ j : Nat, dt4 5 j = dt 5 j := fun j => (hF6 5 (by decide) j).trans ((fun _ => rfl) j)
    have C46 : ∀ j : Nat, dt4 6 j = dt 6 j := fun j => (hF6 6 (by decide) j).trans ((fun _ => rfl) j)
    have C47 : ∀ j : Nat, dt4 8 j = dt 8 j := fun j => (hF6 8 (by decide) j).trans ((fun _ => rfl) j)
    have C48 : ∀ j : Nat, dt4 9 j = dt 9 j := fun j => (hF6 9 (by decide) j).trans ((fun _ => rfl) j)
    have C49 : ∀ j : Nat, dt4 11 j = dt 11 j := fun j => (hF6 11 (by decide) j).trans ((fun _ => rfl) j)
    have C50 : ∀ j : Nat, dt4 19 j = dt 19 j := fun j => (hF6 19 (by decide) j).trans ((fun _ => rfl) j)
    have C51 : ∀ j : Nat, dt4 20 j = dt 20 j := fun j => (hF6 20 (by decide) j).trans ((fun _ => rfl) j)
    have C52 : ∀ j : Nat, dt4 21 j = dt 21 j := fun j => (hF6 21 (by decide) j).trans ((fun _ => rfl) j)
    have C53 : ∀ j : Nat, dt4 22 j = dt 22 j := fun j => (hF6 22 (by decide) j).trans ((fun _ => rfl) j)
    have C54 : ∀ j : Nat, dt4 23 j = dt 23 j := fun j => (hF6 23 (by decide) j).trans ((fun _ => rfl) j)
    have C55 : ∀ j : Nat, dt4 25 j = dt 25 j := fun j => (hF6 25 (by decide) j).trans ((fun _ => rfl) j)
    have C56 : ∀ j : Nat, dt4 26 j = dt 26 j := fun j => (hF6 26 (by decide) j).trans ((fun _ => rfl) j)
    have C57 : ∀ j : Nat, dt4 28 j = dt 28 j := fun j => (hF6 28 (by decide) j).trans ((fun _ => rfl) j)
    have C58 : ∀ j : Nat, dt4 13 j = dt 13 j := fun j => (hF6 13 (by decide) j).trans ((fun _ => rfl) j)
    have C59 : ∀ j : Nat, dt4 30 j = dt 30 j := fun j => (hF6 30 (by decide) j).trans ((fun _ => rfl) j)
    have C60 : ∀ j : Nat, dt4 36 j = dt 36 j := fun j => (hF6 36 (by decide) j).trans ((fun _ => rfl) j)
    have C61 : ∀ j : Nat, dt4 80 j = dt 80 j := fun j => (hF6 80 (by decide) j).trans ((fun _ => rfl) j)
    have C62 : ∀ j : Nat, dt4 81 j = dt 81 j := fun j => (hF6 81 (by decide) j).trans ((fun _ => rfl) j)
    have C63 : ∀ j : Nat, dt4 85 j = dt 85 j := fun j => (hF6 85 (by decide) j).trans ((fun _ => rfl) j)
    refine go_toq PM267 (k := 6) (pc' := 1129) (L' := [some (.inr (.inr (some 3000))), some (.inr (.inr (some 0))), some (.inr (.inr (some 79))), some (.inl i)]) (st' := [.inl (i + 1), .inr (.inr (some 3000)), .inr (.inr (some 79))]) (w' := (SH, dt4)) rfl ?_
    have r64 := i32_R (xs ((i + 1).toNat))
    refine go_smpq PM267 (L' := [some (.inr (.inr (some 3000))), some (.inr (.inr (some 0))), some (.inr (.inr (some 79))), some (.inl i)]) (st' := [.inl ((xs ((i + 1).toNat)).toInt), .inr (.inr (some 79))]) (w' := (SH, dt4)) rfl rfl (s_iald (n := L) (f := fun j => (xs j).toInt) (am_scr hLL) ⟨by (first | omega | (have z0_ := unhid h3_0; omega)), by (first | omega | (have z0_ := unhid h3_0; omega))⟩) ?_
    refine go_toq PM267 (k := 4) (pc' := 1134) (L' := [some (.inr (.inr (some 3000))), some (.inr (.inr (some 0))), some (.inr (.inr (some 79))), some (.inl i)]) (st' := [.inl (i + 2), .inr (.inr (some 3000)), .inl ((xs ((i + 1).toNat)).toInt), .inr (.inr (some 79))]) (w' := (SH, dt4)) rfl ?_
    have r65 := i32_R (xs ((i + 2).toNat))
    refine go_smpq PM267 (L' := [some (.inr (.inr (some 3000))), some (.inr (.inr (some 0))), some (.inr (.inr (some 79))), some (.inl i)]) (st' := [.inl ((xs ((i + 2).toNat)).toInt), .inl ((xs ((i + 1).toNat)).toInt), .inr (.inr (some 79))]) (w' := (SH, dt4)) rfl rfl (s_iald (n := L) (f := fun j => (xs j).toInt) (am_scr hLL) ⟨by (first | omega | (have z0_ := unhid h3_0; omega)), by (first | omega | (have z0_ := unhid h3_0; omega))⟩) ?_
    refine go_callq PM267 PM233 (Q' := _) rfl rfl rfl rfl (sp_X6_eyes_v L xs sio (d + 37) dt4 hI5 hM8  ((xs ((i + 1).toNat)).toInt) ⟨by (first | omega | (have z0_ := unhid h3_0; omega)), by (first | omega | (have z0_ := unhid h3_0; omega))⟩ ((xs ((i + 2).toNat)).toInt) ⟨by (first | omega | (have z0_ := unhid h3_0; omega)), by (first | omega | (have z0_ := unhid h3_0; omega))⟩ ) ?_
    rintro _ _ ⟨dt67, rfl, hI68, hF69, h66⟩
    refine ⟨rfl, ?_⟩
    have hF70 : Fr [0, 1, 2, 3, 4, 5, 6, 7, 8, 9, 10, 11, 12, 13, 14, 15, 16, 17, 18, 19, 20, 21, 22, 23, 24, 25, 26, 27, 28, 29, 30, 31, 32, 33, 34, 35, 36, 37, 38, 39, 40, 41, 42, 43, 44, 45, 46, 47, 48, 49, 50, 51, 52, 53, 54, 55, 56, 57, 58, 59, 60, 61, 62, 63, 64, 65, 66, 67, 68, 69, 70, 71, 72, 73, 74, 75, 76, 77, 78, 79, 80, 81, 82, 83, 84, 85, 86, 87, 88, 89, 90, 91, 92, 93, 94, 95, 96, 97, 98, 99, 100, 101, 102, 103, 104] dt dt67 := Fr_tr hF7 hF69 (by decide)
    have w71 : dt67 1 0 = dt 1 0 := (hF69 1 (by decide) 0).trans w9
    have w72 : dt67 7 3 = dt 7 3 := (hF69 7 (by decide) 3).trans w10
    have w73 : dt67 10 3 = dt 10 3 := (hF69 10 (by decide) 3).trans w11
    have w74 : dt67 12 3 = dt 12 3 := (hF69 12 (by decide) 3).trans w12
    have w75 : dt67 14 3 = dt 14 3 := (hF69 14 (by decide) 3).trans w40
    have w76 : dt67 16 3 = dt 16 3 := (hF69 16 (by decide) 3).trans w13
    have w77 : dt67 18 0 = dt 18 0 := (hF69 18 (by decide) 0).trans w14
    have w78 : dt67 24 3 = dt 24 3 := (hF69 24 (by decide) 3).trans w15
    have w79 : dt67 27 3 = dt 27 3 := (hF69 27 (by decide) 3).trans w16
    have w80 : dt67 29 3 = dt 29 3 := (hF69 29 (by decide) 3).trans w17
    have w81 : dt67 31 3 = dt 31 3 := (hF69 31 (by decide) 3).trans w18
    have w82 : dt67 33 3 = dt 33 3 := (hF69 33 (by decide) 3).trans w19
    have w83 : dt67 0 2 = dt 0 2 := (hF69 0 (by decide) 2).trans w20
    have w84 : dt67 35 1 = dt 35 1 := (hF69 35 (by decide) 1).trans w21
    have w85 : dt67 35 2 = dt 35 2 := (hF69 35 (by decide) 2).trans w22
    have w86 : dt67 35 3 = dt 35 3 := (hF69 35 (by decide) 3).trans w23
    have w87 : dt67 81 0 = dt 81 0 := (hF69 81 (by decide) 0).trans w30
    have w88 : dt67 81 1 = dt 81 1 := (hF69 81 (by decide) 1).trans w31
    have w89 : dt67 81 2 = dt 81 2 := (hF69 81 (by decide) 2).trans w32
    have w90 : dt67 81 3 = dt 81 3 := (hF69 81 (by decide) 3).trans w33
    have w91 : dt67 81 4 = dt 81 4 := (hF69 81 (by decide) 4).trans w34
    have w92 : dt67 81 5 = dt 81 5 := (hF69 81 (by decide) 5).trans w35
    have w93 : dt67 79 2 = dt 79 2 := (hF69 79 (by decide) 2).trans w36
    have w94 : dt67 79 12 = dt 79 12 := (hF69 79 (by decide) 12).trans w37
    have w95 : dt67 79 19 = dt 79 19 := (hF69 79 (by decide) 19).trans w38
    have w96 : dt67 79 21 = dt 79 21 := (hF69 79 (by decide) 21).trans w39
    rcases h66 with ⟨rfl, h66⟩ | ⟨v_h66, rfl, h66r, h66⟩
    · skip
      have hM97 : MW (dt67 80) := h66.2.1
      obtain ⟨h66_0, h66_1, h66_2, h66_3, h66_4, h66_5, h66_6, h66_7, h66_8⟩ := h66
      replace h66_0 := hid h66_0
      have w98 : dt67 80 0 = dt 80 0 := h66_2.trans w24
      have w99 : dt67 80 1 = dt 80 1 := h66_3.trans w25
      have w100 : dt67 80 2 = dt 80 2 := h66_4.trans w26
      have w101 : dt67 80 3 = dt 80 3 := h66_5.trans w27
      have w102 : dt67 80 4 = dt 80 4 := h66_6.trans w28
      have w103 : dt67 80 5 = dt 80 5 := h66_7.trans w29
      have M2104 : MW (dt67 81) := MW_frk M241 hF69 (by decide)
      have C105 : ∀ j : Nat, dt67 2 j = dt 2 j := fun j => (hF69 2 (by decide) j).trans (C42 j)
      have C106 : ∀ j : Nat, dt67 3 j = dt 3 j := fun j => (hF69 3 (by decide) j).trans (C43 j)
      have C107 : ∀ j : Nat, dt67 4 j = dt 4 j := fun j => (hF69 4 (by decide) j).trans (C44 j)
      have C108 : ∀ j : Nat, dt67 5 j = dt 5 j := fun j => (hF69 5 (by decide) j).trans (C45 j)
      have C109 : ∀ j : Nat, dt67 6 j = dt 6 j := fun j => (hF69 6 (by decide) j).trans (C46 j)
      have C110 : ∀ j : Nat, dt67 8 j = dt 8 j := fun j => (hF69 8 (by decide) j).trans (C47 j)
      have C111 : ∀ j : Nat, dt67 9 j = dt 9 j := fun j => (hF69 9 (by decide) j).trans (C48 j)
      have C112 : ∀ j : Nat, dt67 11 j = dt 11 j := fun j => (hF69 11 (by decide) j).trans (C49 j)
      have C113 : ∀ j : Nat, dt67 19 j = dt 19 j := fun j => (hF69 19 (by decide) j).trans (C50 j)
      have C114 : ∀ j : Nat, dt67 20 j = dt 20 j := fun j => (hF69 20 (by decide) j).trans (C51 j)
      have C115 : ∀ j : Nat, dt67 21 j = dt 21 j := fun j => (hF69 21 (by decide) j).trans (C52 j)
      have C116 : ∀ j : Nat, dt67 22 j = dt 22 j := fun j => (hF69 22 (by decide) j).trans (C53 j)
      have C117 : ∀ j : Nat, dt67 23 j = dt 23 j := fun j => (hF69 23 (by decide) j).trans (C54 j)
      have C118 : ∀ j : Nat, dt67 25 j = dt 25 j := fun j => (hF69 25 (by decide) j).trans (C55 j)
      have C119 : ∀ j : Nat, dt67 26 j = dt 26 j := fun j => (hF69 26 (by decide) j).trans (C56 j)
      have C120 : ∀ j : Nat, dt67 28 j = dt 28 j := fun j => (hF69 28 (by decide) j).trans (C57 j)
      have C121 : ∀ j : Nat, dt67 13 j = dt 13 j := fun j => (hF69 13 (by decide) j).trans (C58 j)
      have C122 : ∀ j : Nat, dt67 30 j = dt 30 j := fun j => (hF69 30 (by decide) j).trans (C59 j)
      have C123 : ∀ j : Nat, dt67 36 j = dt 36 j := fun j => (hF69 36 (by decide) j).trans (C60 j)
      have C124 : ∀ j : Nat, dt67 80 j = dt 80 j := fun j => (h66_8 j).trans (C61 j)
      have C125 : ∀ j : Nat, dt67 81 j = dt 81 j := fun j => (hF69 81 (by decide) j).trans (C62 j)
      have C126 : ∀ j : Nat, dt67 85 j = dt 85 j := fun j => (hF69 85 (by decide) j).trans (C63 j)
      refine go_toq PM267 (k := 2) (pc' := 1435) (L' := [some (.inr (.inr (some 3000))), some (.inr (.inr (some 0))), some (.inr (.inr (some 79))), some (.inl i)]) (st' := []) (w' := (SH, dt67)) rfl ?_
      exact K dt67 hI68 hM97 M2104 (w71.trans (hk0.trans w98.symm)) (w72.trans (hk1.trans w99.symm)) (w73.trans (hk2.trans w100.symm)) (w74.trans (hk3.trans w101.symm)) (w75.trans (hk4.trans w102.symm)) (w76.trans (hk5.trans w103.symm)) (w77.trans (hk6.trans w87.symm)) (w78.trans (hk7.trans w88.symm)) (w79.trans (hk8.trans w89.symm)) (w80.trans (hk9.trans w90.symm)) (w81.trans (hk10.trans w91.symm)) (w82.trans (hk11.trans w92.symm)) (w83.trans (hk12.trans w93.symm)) (w84.trans (hk13.trans w94.symm)) (w85.trans (hk14.trans w95.symm)) (w86.trans (hk15.trans w96.symm)) (by first | exact hI | exact TPL_k hd0 C123 C126 (by (first | omega | (have z0_ := unhid h3_0; have z1_ := unhid h66_0; omega))) | (exfalso; (first | omega | (have z0_ := unhid h3_0; have z1_ := unhid h66_0; omega)))) (by first | exact hI | exact SCL_k hd1 hM (fun j _ => C105 j) (fun j _ => C106 j) (fun j _ _ => C124 j) | (exfalso; (first | omega | (have z0_ := unhid h3_0; have z1_ := unhid h66_0; omega)))) (by first | exact hI | exact SCL_k hd2 hM2 (fun j _ => C113 j) (fun j _ => C114 j) (fun j _ _ => C125 j) | (exfalso; (first | omega | (have z0_ := unhid h3_0; have z1_ := unhid h66_0; omega)))) (by first | exact hI | exact QRL_k hd3 hM (fun j _ => C110 j) (C124 1) (fun j _ _ => C124 j) | (exfalso; (first | omega | (have z0_ := unhid h3_0; have z1_ := unhid h66_0; omega)))) (by first | exact hI | exact QRL_k hd4 hM2 (fun j _ => C118 j) (C125 1) (fun j _ _ => C125 j) | (exfalso; (first | omega | (have z0_ := unhid h3_0; have z1_ := unhid h66_0; omega)))) (by first | exact hI | exact SDL_k hd5 hM (fun j _ => C111 j) (C124 1) (fun j _ _ => C124 j) (fun j _ _ => C124 j) | (exfalso; (first | omega | (have z0_ := unhid h3_0; have z1_ := unhid h66_0; omega)))) (by first | exact hI | exact SDL_k hd6 hM2 (fun j _ => C119 j) (C125 1) (fun j _ _ => C125 j) (fun j _ _ => C125 j) | (exfalso; (first | omega | (have z0_ := unhid h3_0; have z1_ := unhid h66_0; omega)))) (by first | exact hI | exact LWL_k hd7 hM (fun j _ => C107 j) (fun j _ => C108 j) (fun j _ => C109 j) (fun j _ _ => C124 j) | (exfalso; (first | omega | (have z0_ := unhid h3_0; have z1_ := unhid h66_0; omega)))) (by first | exact hI | exact LWL_k hd8 hM2 (fun j _ => C115 j) (fun j _ => C116 j) (fun j _ => C117 j) (fun j _ _ => C125 j) | (exfalso; (first | omega | (have z0_ := unhid h3_0; have z1_ := unhid h66_0; omega)))) (by first | exact hI | exact CHL_k hd9 hM (fun j _ => C112 j) (by (first | omega | (have z0_ := unhid h3_0; have z1_ := unhid h66_0; omega))) (fun j _ _ => C124 j) | (exfalso; (first | omega | (have z0_ := unhid h3_0; have z1_ := unhid h66_0; omega)))) (by first | exact hI | exact CHL_k hd10 hM2 (fun j _ => C120 j) (by (first | omega | (have z0_ := unhid h3_0; have z1_ := unhid h66_0; omega))) (fun j _ _ => C125 j) | (exfalso; (first | omega | (have z0_ := unhid h3_0; have z1_ := unhid h66_0; omega)))) (by first | exact hI | exact ANL_k hd11 hM (fun j _ => C121 j) (by (first | omega | (have z0_ := unhid h3_0; have z1_ := unhid h66_0; omega))) (by (first | omega | (have z0_ := unhid h3_0; have z1_ := unhid h66_0; omega))) (by (first | omega | (have z0_ := unhid h3_0; have z1_ := unhid h66_0; omega))) (fun j _ _ => C124 j) | (exfalso; (first | omega | (have z0_ := unhid h3_0; have z1_ := unhid h66_0; omega)))) (by first | exact hI | exact ANL_k hd12 hM2 (fun j _ => C122 j) (by (first | omega | (have z0_ := unhid h3_0; have z1_ := unhid h66_0; omega))) (by (first | omega | (have z0_ := unhid h3_0; have z1_ := unhid h66_0; omega))) (by (first | omega | (have z0_ := unhid h3_0; have z1_ := unhid h66_0; omega))) (fun j _ _ => C125 j) | (exfalso; (first | omega | (have z0_ := unhid h3_0; have z1_ := unhid h66_0; omega))))
    · skip
      have hM127 : MW (dt67 80) := h66.2.2.1
      obtain ⟨h66_0, h66_1, h66_2, h66_3, h66_4, h66_5, h66_6, h66_7, h66_8, h66_9, h66_10, h66_11⟩ := h66
      have w128 : dt67 80 0 = dt 80 0 := h66_4.trans w24
      have w129 : dt67 80 1 = dt 80 1 := h66_5.trans w25
      have w130 : dt67 80 2 = dt 80 2 := h66_6.trans w26
      have w131 : dt67 80 3 = dt 80 3 := h66_7.trans w27
      have w132 : dt67 80 5 = dt 80 5 := h66_8.trans w29
      have M2133 : MW (dt67 81) := MW_frk M241 hF69 (by decide)
      have C134 : ∀ j : Nat, dt67 2 j = dt 2 j := fun j => (hF69 2 (by decide) j).trans (C42 j)
      have C135 : ∀ j : Nat, dt67 3 j = dt 3 j := fun j => (hF69 3 (by decide) j).trans (C43 j)
      have C136 : ∀ j : Nat, dt67 4 j = dt 4 j := fun j => (hF69 4 (by decide) j).trans (C44 j)
      have C137 : ∀ j : Nat, dt67 5 j = dt 5 j := fun j => (hF69 5 (by decide) j).trans (C45 j)
      have C138 : ∀ j : Nat, dt67 6 j = dt 6 j := fun j => (hF69 6 (by decide) j).trans (C46 j)
      have C139 : ∀ j : Nat, dt67 8 j = dt 8 j := fun j => (hF69 8 (by decide) j).trans (C47 j)
      have C140 : ∀ j : Nat, dt67 9 j = dt 9 j := fun j => (hF69 9 (by decide) j).trans (C48 j)
      have C141 : ∀ j : Nat, dt67 11 j = dt 11 j := fun j => (hF69 11 (by decide) j).trans (C49 j)
      have C142 : ∀ j : Nat, dt67 19 j = dt 19 j := fun j => (hF69 19 (by decide) j).trans (C50 j)
      have C143 : ∀ j : Nat, dt67 20 j = dt 20 j := fun j => (hF69 20 (by decide) j).trans (C51 j)
      have C144 : ∀ j : Nat, dt67 21 j = dt 21 j := fun j => (hF69 21 (by decide) j).trans (C52 j)
      have C145 : ∀ j : Nat, dt67 22 j = dt 22 j := fun j => (hF69 22 (by decide) j).trans (C53 j)
      have C146 : ∀ j : Nat, dt67 23 j = dt 23 j := fun j => (hF69 23 (by decide) j).trans (C54 j)
      have C147 : ∀ j : Nat, dt67 25 j = dt 25 j := fun j => (hF69 25 (by decide) j).trans (C55 j)
      have C148 : ∀ j : Nat, dt67 26 j = dt 26 j := fun j => (hF69 26 (by decide) j).trans (C56 j)
      have C149 : ∀ j : Nat, dt67 28 j = dt 28 j := fun j => (hF69 28 (by decide) j).trans (C57 j)
      have C150 : ∀ j : Nat, dt67 13 j = dt 13 j := fun j => (hF69 13 (by decide) j).trans (C58 j)
      have C151 : ∀ j : Nat, dt67 30 j = dt 30 j := fun j => (hF69 30 (by decide) j).trans (C59 j)
      have C152 : ∀ j : Nat, dt67 36 j = dt 36 j := fun j => (hF69 36 (by decide) j).trans (C60 j)
      have C153 : ∀ j : Nat, dt67 81 j = dt 81 j := fun j => (hF69 81 (by decide) j).trans (C62 j)
      have C154 : ∀ j : Nat, dt67 85 j = dt 85 j := fun j => (hF69 85 (by decide) j).trans (C63 j)
      have F155 : ∀ j : Nat, 6 ≤ j → j < 974 → dt67 80 j = dt 80 j := fun j h1_ h2_ => (h66_9 j (by (first | omega | (have z0_ := unhid h3_0; omega))) (by (first | omega | (have z0_ := unhid h3_0; omega)))).trans (C61 j)
      have F156 : ∀ j : Nat, 974 ≤ j → j < 5320 → dt67 80 j = dt 80 j := fun j h1_ h2_ => (h66_9 j (by (first | omega | (have z0_ := unhid h3_0; omega))) (by (first | omega | (have z0_ := unhid h3_0; omega)))).trans (C61 j)
      have F157 : ∀ j : Nat, 5320 ≤ j → j < 5380 → dt67 80 j = dt 80 j := fun j h1_ h2_ => (h66_9 j (by (first | omega | (have z0_ := unhid h3_0; omega))) (by (first | omega | (have z0_ := unhid h3_0; omega)))).trans (C61 j)
      have F158 : dt67 80 1 = dt 80 1 := (h66_9 1 (by (first | omega | (have z0_ := unhid h3_0; omega))) (by (first | omega | (have z0_ := unhid h3_0; omega)))).trans (C61 1)
      have F159 : ∀ j : Nat, 5380 ≤ j → j < 5540 → dt67 80 j = dt 80 j := fun j h1_ h2_ => (h66_9 j (by (first | omega | (have z0_ := unhid h3_0; omega))) (by (first | omega | (have z0_ := unhid h3_0; omega)))).trans (C61 j)
      have F160 : ∀ j : Nat, 5540 ≤ j → j < 7340 → dt67 80 j = dt 80 j := fun j h1_ h2_ => (h66_9 j (by (first | omega | (have z0_ := unhid h3_0; omega))) (by (first | omega | (have z0_ := unhid h3_0; omega)))).trans (C61 j)
      refine go_toq PM267 (k := 2) (pc' := 1435) (L' := [some (.inr (.inr (some 3000))), some (.inr (.inr (some 0))), some (.inr (.inr (some 79))), some (.inl i)]) (st' := []) (w' := (SH, dt67)) rfl ?_
      exact K dt67 hI68 hM127 M2133 (w71.trans (hk0.trans w128.symm)) (w72.trans (hk1.trans w129.symm)) (w73.trans (hk2.trans w130.symm)) (w74.trans (hk3.trans w131.symm)) (by (first | omega | (have z0_ := unhid h3_0; omega))) (w76.trans (hk5.trans w132.symm)) (w77.trans (hk6.trans w87.symm)) (w78.trans (hk7.trans w88.symm)) (w79.trans (hk8.trans w89.symm)) (w80.trans (hk9.trans w90.symm)) (w81.trans (hk10.trans w91.symm)) (w82.trans (hk11.trans w92.symm)) (w83.trans (hk12.trans w93.symm)) (w84.trans (hk13.trans w94.symm)) (w85.trans (hk14.trans w95.symm)) (w86.trans (hk15.trans w96.symm)) (by first | exact hI | exact TPL_k hd0 C152 C154 (by (first | omega | (have z0_ := unhid h3_0; omega))) | (exfalso; (first | omega | (have z0_ := unhid h3_0; omega)))) (by first | exact hI | exact SCL_k hd1 hM (fun j _ => C134 j) (fun j _ => C135 j) F155 | (exfalso; (first | omega | (have z0_ := unhid h3_0; omega)))) (by first | exact hI | exact SCL_k hd2 hM2 (fun j _ => C142 j) (fun j _ => C143 j) (fun j _ _ => C153 j) | (exfalso; (first | omega | (have z0_ := unhid h3_0; omega)))) (by first | exact hI | exact QRL_k hd3 hM (fun j _ => C139 j) F158 F157 | (exfalso; (first | omega | (have z0_ := unhid h3_0; omega)))) (by first | exact hI | exact QRL_k hd4 hM2 (fun j _ => C147 j) (C153 1) (fun j _ _ => C153 j) | (exfalso; (first | omega | (have z0_ := unhid h3_0; omega)))) (by first | exact hI | exact SDL_k hd5 hM (fun j _ => C140 j) F158 F155 F157 | (exfalso; (first | omega | (have z0_ := unhid h3_0; omega)))) (by first | exact hI | exact SDL_k hd6 hM2 (fun j _ => C148 j) (C153 1) (fun j _ _ => C153 j) (fun j _ _ => C153 j) | (exfalso; (first | omega | (have z0_ := unhid h3_0; omega)))) (by first | exact hI | exact LWL_k hd7 hM (fun j _ => C136 j) (fun j _ => C137 j) (fun j _ => C138 j) F156 | (exfalso; (first | omega | (have z0_ := unhid h3_0; omega)))) (by first | exact hI | exact LWL_k hd8 hM2 (fun j _ => C144 j) (fun j _ => C145 j) (fun j _ => C146 j) (fun j _ _ => C153 j) | (exfalso; (first | omega | (have z0_ := unhid h3_0; omega)))) (by first | exact hI | exact CHL_k hd9 hM (fun j _ => C141 j) (by (first | omega | (have z0_ := unhid h3_0; omega))) F159 | (exfalso; (first | omega | (have z0_ := unhid h3_0; omega)))) (by first | exact hI | exact CHL_k hd10 hM2 (fun j _ => C149 j) (by (first | omega | (have z0_ := unhid h3_0; omega))) (fun j _ _ => C153 j) | (exfalso; (first | omega | (have z0_ := unhid h3_0; omega)))) (by first | exact hI | exact ANL_k hd11 hM (fun j _ => C150 j) (by (first | omega | (have z0_ := unhid h3_0; omega))) (by (first | omega | (have z0_ := unhid h3_0; omega))) (by (first | omega | (have z0_ := unhid h3_0; omega))) F160 | (exfalso; (first | omega | (have z0_ := unhid h3_0; omega)))) (by first | exact hI | exact ANL_k hd12 hM2 (fun j _ => C151 j) (by (first | omega | (have z0_ := unhid h3_0; omega))) (by (first | omega | (have z0_ := unhid h3_0; omega))) (by (first | omega | (have z0_ := unhid h3_0; omega))) (fun j _ _ => C153 j) | (exfalso; (first | omega | (have z0_ := unhid h3_0; omega))))
  · skip
    obtain ⟨h3_0, h3_1, h3_2⟩ := h3
    have M2161 : MW (dt4 81) := MW_frk hM2 hF6 (by decide)
    have C162 : ∀ j : Nat, dt4 2 j = dt 2 j := fun j => (hF6 2 (by decide) j).trans ((fun _ => rfl) j)
    have C163 : ∀ j : Nat, dt4 3 j = dt 3 j := fun j => (hF6 3 (by decide) j).trans ((fun _ => rfl) j)
    have C164 : ∀ j : Nat, dt4 4 j = dt 4 j := fun j => (hF6 4 (by decide) j).trans ((fun _ => rfl) j)
    have C165 : ∀ j : Nat, dt4 5 j = dt 5 j := fun j => (hF6 5 (by decide) j).trans ((fun _ => rfl) j)
    have C166 : ∀ j : Nat, dt4 6 j = dt 6 j := fun j => (hF6 6 (by decide) j).trans ((fun _ => rfl) j)
    have C167 : ∀ j : Nat, dt4 8 j = dt 8 j := fun j => (hF6 8 (by decide) j).trans ((fun _ => rfl) j)
    have C168 : ∀ j : Nat, dt4 9 j = dt 9 j := fun j => (hF6 9 (by decide) j).trans ((fun _ => rfl) j)
    have C169 : ∀ j : Nat, dt4 11 j = dt 11 j := fun j => (hF6 11 (by decide) j).trans ((fun _ => rfl) j)
    have C170 : ∀ j : Nat, dt4 19 j = dt 19 j := fun j => (hF6 19 (by decide) j).trans ((fun _ => rfl) j)
    have C171 : ∀ j : Nat, dt4 20 j = dt 20 j := fun j => (hF6 20 (by decide) j).trans ((fun _ => rfl) j)
    have C172 : ∀ j : Nat, dt4 21 j = dt 21 j := fun j => (hF6 21 (by decide) j).trans ((fun _ => rfl) j)
    have C173 : ∀ j : Nat, dt4 22 j = dt 22 j := fun j => (hF6 22 (by decide) j).trans ((fun _ => rfl) j)
    have C174 : ∀ j : Nat, dt4 23 j = dt 23 j := fun j => (hF6 23 (by decide) j).trans ((fun _ => rfl) j)
    have C175 : ∀ j : Nat, dt4 25 j = dt 25 j := fun j => (hF6 25 (by decide) j).trans ((fun _ => rfl) j)
    have C176 : ∀ j : Nat, dt4 26 j = dt 26 j := fun j => (hF6 26 (by decide) j).trans ((fun _ => rfl) j)
    have C177 : ∀ j : Nat, dt4 28 j = dt 28 j := fun j => (hF6 28 (by decide) j).trans ((fun _ => rfl) j)
    have C178 : ∀ j : Nat, dt4 13 j = dt 13 j := fun j => (hF6 13 (by decide) j).trans ((fun _ => rfl) j)
    have C179 : ∀ j : Nat, dt4 30 j = dt 30 j := fun j => (hF6 30 (by decide) j).trans ((fun _ => rfl) j)
    have C180 : ∀ j : Nat, dt4 36 j = dt 36 j := fun j => (hF6 36 (by decide) j).trans ((fun _ => rfl) j)
    have C181 : ∀ j : Nat, dt4 80 j = dt 80 j := fun j => (hF6 80 (by decide) j).trans ((fun _ => rfl) j)
    have C182 : ∀ j : Nat, dt4 81 j = dt 81 j := fun j => (hF6 81 (by decide) j).trans ((fun _ => rfl) j)
    have C183 : ∀ j : Nat, dt4 85 j = dt 85 j := fun j => (hF6 85 (by decide) j).trans ((fun _ => rfl) j)
    refine go_toq PM267 (k := 6) (pc' := 1129) (L' := [some (.inr (.inr (some 3000))), some (.inr (.inr (some 0))), some (.inr (.inr (some 79))), some (.inl i)]) (st' := [.inl (i + 1), .inr (.inr (some 3000)), .inr (.inr (some 79))]) (w' := (SH, dt4)) rfl ?_
    have r184 := i32_R (xs ((i + 1).toNat))
    refine go_smpq PM267 (L' := [some (.inr (.inr (some 3000))), some (.inr (.inr (some 0))), some (.inr (.inr (some 79))), some (.inl i)]) (st' := [.inl ((xs ((i + 1).toNat)).toInt), .inr (.inr (some 79))]) (w' := (SH, dt4)) rfl rfl (s_iald (n := L) (f := fun j => (xs j).toInt) (am_scr hLL) ⟨by omega, by omega⟩) ?_
    refine go_toq PM267 (k := 4) (pc' := 1134) (L' := [some (.inr (.inr (some 3000))), some (.inr (.inr (some 0))), some (.inr (.inr (some 79))), some (.inl i)]) (st' := [.inl (i + 2), .inr (.inr (some 3000)), .inl ((xs ((i + 1).toNat)).toInt), .inr (.inr (some 79))]) (w' := (SH, dt4)) rfl ?_
    have r185 := i32_R (xs ((i + 2).toNat))
    refine go_smpq PM267 (L' := [some (.inr (.inr (some 3000))), some (.inr (.inr (some 0))), some (.inr (.inr (some 79))), some (.inl i)]) (st' := [.inl ((xs ((i + 2).toNat)).toInt), .inl ((xs ((i + 1).toNat)).toInt), .inr (.inr (some 79))]) (w' := (SH, dt4)) rfl rfl (s_iald (n := L) (f := fun j => (xs j).toInt) (am_scr hLL) ⟨by omega, by omega⟩) ?_
    refine go_callq PM267 PM233 (Q' := _) rfl rfl rfl rfl (sp_X6_eyes_v L xs sio (d + 37) dt4 hI5 hM8  ((xs ((i + 1).toNat)).toInt) ⟨by omega, by omega⟩ ((xs ((i + 2).toNat)).toInt) ⟨by omega, by omega⟩ ) ?_
    rintro _ _ ⟨dt187, rfl, hI188, hF189, h186⟩
    refine ⟨rfl, ?_⟩
    have hF190 : Fr [0, 1, 2, 3, 4, 5, 6, 7, 8, 9, 10, 11, 12, 13, 14, 15, 16, 17, 18, 19, 20, 21, 22, 23, 24, 25, 26, 27, 28, 29, 30, 31, 32, 33, 34, 35, 36, 37, 38, 39, 40, 41, 42, 43, 44, 45, 46, 47, 48, 49, 50, 51, 52, 53, 54, 55, 56, 57, 58, 59, 60, 61, 62, 63, 64, 65, 66, 67, 68, 69, 70, 71, 72, 73, 74, 75, 76, 77, 78, 79, 80, 81, 82, 83, 84, 85, 86, 87, 88, 89, 90, 91, 92, 93, 94, 95, 96, 97, 98, 99, 100, 101, 102, 103, 104] dt dt187 := Fr_tr hF7 hF189 (by decide)
    have w191 : dt187 1 0 = dt 1 0 := (hF189 1 (by decide) 0).trans w9
    have w192 : dt187 7 3 = dt 7 3 := (hF189 7 (by decide) 3).trans w10
    have w193 : dt187 10 3 = dt 10 3 := (hF189 10 (by decide) 3).trans w11
    have w194 : dt187 12 3 = dt 12 3 := (hF189 12 (by decide) 3).trans w12
    have w195 : dt187 14 3 = dt4 14 3 := hF189 14 (by decide) 3
    have w196 : dt187 16 3 = dt 16 3 := (hF189 16 (by decide) 3).trans w13
    have w197 : dt187 18 0 = dt 18 0 := (hF189 18 (by decide) 0).trans w14
    have w198 : dt187 24 3 = dt 24 3 := (hF189 24 (by decide) 3).trans w15
    have w199 : dt187 27 3 = dt 27 3 := (hF189 27 (by decide) 3).trans w16
    have w200 : dt187 29 3 = dt 29 3 := (hF189 29 (by decide) 3).trans w17
    have w201 : dt187 31 3 = dt 31 3 := (hF189 31 (by decide) 3).trans w18
    have w202 : dt187 33 3 = dt 33 3 := (hF189 33 (by decide) 3).trans w19
    have w203 : dt187 0 2 = dt 0 2 := (hF189 0 (by decide) 2).trans w20
    have w204 : dt187 35 1 = dt 35 1 := (hF189 35 (by decide) 1).trans w21
    have w205 : dt187 35 2 = dt 35 2 := (hF189 35 (by decide) 2).trans w22
    have w206 : dt187 35 3 = dt 35 3 := (hF189 35 (by decide) 3).trans w23
    have w207 : dt187 81 0 = dt 81 0 := (hF189 81 (by decide) 0).trans w30
    have w208 : dt187 81 1 = dt 81 1 := (hF189 81 (by decide) 1).trans w31
    have w209 : dt187 81 2 = dt 81 2 := (hF189 81 (by decide) 2).trans w32
    have w210 : dt187 81 3 = dt 81 3 := (hF189 81 (by decide) 3).trans w33
    have w211 : dt187 81 4 = dt 81 4 := (hF189 81 (by decide) 4).trans w34
    have w212 : dt187 81 5 = dt 81 5 := (hF189 81 (by decide) 5).trans w35
    have w213 : dt187 79 2 = dt 79 2 := (hF189 79 (by decide) 2).trans w36
    have w214 : dt187 79 12 = dt 79 12 := (hF189 79 (by decide) 12).trans w37
    have w215 : dt187 79 19 = dt 79 19 := (hF189 79 (by decide) 19).trans w38
    have w216 : dt187 79 21 = dt 79 21 := (hF189 79 (by decide) 21).trans w39
    rcases h186 with ⟨rfl, h186⟩ | ⟨v_h186, rfl, h186r, h186⟩
    · skip
      have hM217 : MW (dt187 80) := h186.2.1
      obtain ⟨h186_0, h186_1, h186_2, h186_3, h186_4, h186_5, h186_6, h186_7, h186_8⟩ := h186
      replace h186_0 := hid h186_0
      have w218 : dt187 80 0 = dt 80 0 := h186_2.trans w24
      have w219 : dt187 80 1 = dt 80 1 := h186_3.trans w25
      have w220 : dt187 80 2 = dt 80 2 := h186_4.trans w26
      have w221 : dt187 80 3 = dt 80 3 := h186_5.trans w27
      have w222 : dt187 80 4 = dt 80 4 := h186_6.trans w28
      have w223 : dt187 80 5 = dt 80 5 := h186_7.trans w29
      have M2224 : MW (dt187 81) := MW_frk M2161 hF189 (by decide)
      have C225 : ∀ j : Nat, dt187 2 j = dt 2 j := fun j => (hF189 2 (by decide) j).trans (C162 j)
      have C226 : ∀ j : Nat, dt187 3 j = dt 3 j := fun j => (hF189 3 (by decide) j).trans (C163 j)
      have C227 : ∀ j : Nat, dt187 4 j = dt 4 j := fun j => (hF189 4 (by decide) j).trans (C164 j)
      have C228 : ∀ j : Nat, dt187 5 j = dt 5 j := fun j => (hF189 5 (by decide) j).trans (C165 j)
      have C229 : ∀ j : Nat, dt187 6 j = dt 6 j := fun j => (hF189 6 (by decide) j).trans (C166 j)
      have C230 : ∀ j : Nat, dt187 8 j = dt 8 j := fun j => (hF189 8 (by decide) j).trans (C167 j)
      have C231 : ∀ j : Nat, dt187 9 j = dt 9 j := fun j => (hF189 9 (by decide) j).trans (C168 j)
      have C232 : ∀ j : Nat, dt187 11 j = dt 11 j := fun j => (hF189 11 (by decide) j).trans (C169 j)
      have C233 : ∀ j : Nat, dt187 19 j = dt 19 j := fun j => (hF189 19 (by decide) j).trans (C170 j)
      have C234 : ∀ j : Nat, dt187 20 j = dt 20 j := fun j => (hF189 20 (by decide) j).trans (C171 j)
      have C235 : ∀ j : Nat, dt187 21 j = dt 21 j := fun j => (hF189 21 (by decide) j).trans (C172 j)
      have C236 : ∀ j : Nat, dt187 22 j = dt 22 j := fun j => (hF189 22 (by decide) j).trans (C173 j)
      have C237 : ∀ j : Nat, dt187 23 j = dt 23 j := fun j => (hF189 23 (by decide) j).trans (C174 j)
      have C238 : ∀ j : Nat, dt187 25 j = dt 25 j := fun j => (hF189 25 (by decide) j).trans (C175 j)
      have C239 : ∀ j : Nat, dt187 26 j = dt 26 j := fun j => (hF189 26 (by decide) j).trans (C176 j)
      have C240 : ∀ j : Nat, dt187 28 j = dt 28 j := fun j => (hF189 28 (by decide) j).trans (C177 j)
      have C241 : ∀ j : Nat, dt187 13 j = dt 13 j := fun j => (hF189 13 (by decide) j).trans (C178 j)
      have C242 : ∀ j : Nat, dt187 30 j = dt 30 j := fun j => (hF189 30 (by decide) j).trans (C179 j)
      have C243 : ∀ j : Nat, dt187 36 j = dt 36 j := fun j => (hF189 36 (by decide) j).trans (C180 j)
      have C244 : ∀ j : Nat, dt187 80 j = dt 80 j := fun j => (h186_8 j).trans (C181 j)
      have C245 : ∀ j : Nat, dt187 81 j = dt 81 j := fun j => (hF189 81 (by decide) j).trans (C182 j)
      have C246 : ∀ j : Nat, dt187 85 j = dt 85 j := fun j => (hF189 85 (by decide) j).trans (C183 j)
      refine go_toq PM267 (k := 2) (pc' := 1435) (L' := [some (.inr (.inr (some 3000))), some (.inr (.inr (some 0))), some (.inr (.inr (some 79))), some (.inl i)]) (st' := []) (w' := (SH, dt187)) rfl ?_
      exact K dt187 hI188 hM217 M2224 (w191.trans (hk0.trans w218.symm)) (w192.trans (hk1.trans w219.symm)) (w193.trans (hk2.trans w220.symm)) (w194.trans (hk3.trans w221.symm)) (by (first | omega | (have z0_ := unhid h186_0; omega))) (w196.trans (hk5.trans w223.symm)) (w197.trans (hk6.trans w207.symm)) (w198.trans (hk7.trans w208.symm)) (w199.trans (hk8.trans w209.symm)) (w200.trans (hk9.trans w210.symm)) (w201.trans (hk10.trans w211.symm)) (w202.trans (hk11.trans w212.symm)) (w203.trans (hk12.trans w213.symm)) (w204.trans (hk13.trans w214.symm)) (w205.trans (hk14.trans w215.symm)) (w206.trans (hk15.trans w216.symm)) (by first | exact hI | exact TPL_k hd0 C243 C246 (by (first | omega | (have z0_ := unhid h186_0; omega))) | (exfalso; (first | omega | (have z0_ := unhid h186_0; omega)))) (by first | exact hI | exact SCL_k hd1 hM (fun j _ => C225 j) (fun j _ => C226 j) (fun j _ _ => C244 j) | (exfalso; (first | omega | (have z0_ := unhid h186_0; omega)))) (by first | exact hI | exact SCL_k hd2 hM2 (fun j _ => C233 j) (fun j _ => C234 j) (fun j _ _ => C245 j) | (exfalso; (first | omega | (have z0_ := unhid h186_0; omega)))) (by first | exact hI | exact QRL_k hd3 hM (fun j _ => C230 j) (C244 1) (fun j _ _ => C244 j) | (exfalso; (first | omega | (have z0_ := unhid h186_0; omega)))) (by first | exact hI | exact QRL_k hd4 hM2 (fun j _ => C238 j) (C245 1) (fun j _ _ => C245 j) | (exfalso; (first | omega | (have z0_ := unhid h186_0; omega)))) (by first | exact hI | exact SDL_k hd5 hM (fun j _ => C231 j) (C244 1) (fun j _ _ => C244 j) (fun j _ _ => C244 j) | (exfalso; (first | omega | (have z0_ := unhid h186_0; omega)))) (by first | exact hI | exact SDL_k hd6 hM2 (fun j _ => C239 j) (C245 1) (fun j _ _ => C245 j) (fun j _ _ => C245 j) | (exfalso; (first | omega | (have z0_ := unhid h186_0; omega)))) (by first | exact hI | exact LWL_k hd7 hM (fun j _ => C227 j) (fun j _ => C228 j) (fun j _ => C229 j) (fun j _ _ => C244 j) | (exfalso; (first | omega | (have z0_ := unhid h186_0; omega)))) (by first | exact hI | exact LWL_k hd8 hM2 (fun j _ => C235 j) (fun j _ => C236 j) (fun j _ => C237 j) (fun j _ _ => C245 j) | (exfalso; (first | omega | (have z0_ := unhid h186_0; omega)))) (by first | exact hI | exact CHL_k hd9 hM (fun j _ => C232 j) (by (first | omega | (have z0_ := unhid h186_0; omega))) (fun j _ _ => C244 j) | (exfalso; (first | omega | (have z0_ := unhid h186_0; omega)))) (by first | exact hI | exact CHL_k hd10 hM2 (fun j _ => C240 j) (by (first | omega | (have z0_ := unhid h186_0; omega))) (fun j _ _ => C245 j) | (exfalso; (first | omega | (have z0_ := unhid h186_0; omega)))) (by first | exact hI | exact ANL_k hd11 hM (fun j _ => C241 j) (by (first | omega | (have z0_ := unhid h186_0; omega))) (by (first | omega | (have z0_ := unhid h186_0; omega))) (by (first | omega | (have z0_ := unhid h186_0; omega))) (fun j _ _ => C244 j) | (exfalso; (first | omega | (have z0_ := unhid h186_0; omega)))) (by first | exact hI | exact ANL_k hd12 hM2 (fun j _ => C242 j) (by (first | omega | (have z0_ := unhid h186_0; omega))) (by (first | omega | (have z0_ := unhid h186_0; omega))) (by (first | omega | (have z0_ := unhid h186_0; omega))) (fun j _ _ => C245 j) | (exfalso; (first | omega | (have z0_ := unhid h186_0; omega))))
    · skip
      have hM247 : MW (dt187 80) := h186.2.2.1
      obtain ⟨h186_0, h186_1, h186_2, h186_3, h186_4, h186_5, h186_6, h186_7, h186_8, h186_9, h186_10, h186_11⟩ := h186
      have w248 : dt187 80 0 = dt 80 0 := h186_4.trans w24
      have w249 : dt187 80 1 = dt 80 1 := h186_5.trans w25
      have w250 : dt187 80 2 = dt 80 2 := h186_6.trans w26
      have w251 : dt187 80 3 = dt 80 3 := h186_7.trans w27
      have w252 : dt187 80 5 = dt 80 5 := h186_8.trans w29
      have M2253 : MW (dt187 81) := MW_frk M2161 hF189 (by decide)
      have C254 : ∀ j : Nat, dt187 2 j = dt 2 j := fun j => (hF189 2 (by decide) j).trans (C162 j)
      have C255 : ∀ j : Nat, dt187 3 j = dt 3 j := fun j => (hF189 3 (by decide) j).trans (C163 j)
      have C256 : ∀ j : Nat, dt187 4 j = dt 4 j := fun j => (hF189 4 (by decide) j).trans (C164 j)
      have C257 : ∀ j : Nat, dt187 5 j = dt 5 j := fun j => (hF189 5 (by decide) j).trans (C165 j)
      have C258 : ∀ j : Nat, dt187 6 j = dt 6 j := fun j => (hF189 6 (by decide) j).trans (C166 j)
      have C259 : ∀ j : Nat, dt187 8 j = dt 8 j := fun j => (hF189 8 (by decide) j).trans (C167 j)
      have C260 : ∀ j : Nat, dt187 9 j = dt 9 j := fun j => (hF189 9 (by decide) j).trans (C168 j)
      have C261 : ∀ j : Nat, dt187 11 j = dt 11 j := fun j => (hF189 11 (by decide) j).trans (C169 j)
      have C262 : ∀ j : Nat, dt187 19 j = dt 19 j := fun j => (hF189 19 (by decide) j).trans (C170 j)
      have C263 : ∀ j : Nat, dt187 20 j = dt 20 j := fun j => (hF189 20 (by decide) j).trans (C171 j)
      have C264 : ∀ j : Nat, dt187 21 j = dt 21 j := fun j => (hF189 21 (by decide) j).trans (C172 j)
      have C265 : ∀ j : Nat, dt187 22 j = dt 22 j := fun j => (hF189 22 (by decide) j).trans (C173 j)
      have C266 : ∀ j : Nat, dt187 23 j = dt 23 j := fun j => (hF189 23 (by decide) j).trans (C174 j)
      have C267 : ∀ j : Nat, dt187 25 j = dt 25 j := fun j => (hF189 25 (by decide) j).trans (C175 j)
      have C268 : ∀ j : Nat, dt187 26 j = dt 26 j := fun j => (hF189 26 (by decide) j).trans (C176 j)
      have C269 : ∀ j : Nat, dt187 28 j = dt 28 j := fun j => (hF189 28 (by decide) j).trans (C177 j)
      have C270 : ∀ j : Nat, dt187 13 j = dt 13 j := fun j => (hF189 13 (by decide) j).trans (C178 j)
      have C271 : ∀ j : Nat, dt187 30 j = dt 30 j := fun j => (hF189 30 (by decide) j).trans (C179 j)
      have C272 : ∀ j : Nat, dt187 36 j = dt 36 j := fun j => (hF189 36 (by decide) j).trans (C180 j)
      have C273 : ∀ j : Nat, dt187 81 j = dt 81 j := fun j => (hF189 81 (by decide) j).trans (C182 j)
      have C274 : ∀ j : Nat, dt187 85 j = dt 85 j := fun j => (hF189 85 (by decide) j).trans (C183 j)
      have F275 : ∀ j : Nat, 6 ≤ j → j < 974 → dt187 80 j = dt 80 j := fun j h1_ h2_ => (h186_9 j (by omega) (by omega)).trans (C181 j)
      have F276 : ∀ j : Nat, 974 ≤ j → j < 5320 → dt187 80 j = dt 80 j := fun j h1_ h2_ => (h186_9 j (by omega) (by omega)).trans (C181 j)
      have F277 : ∀ j : Nat, 5320 ≤ j → j < 5380 → dt187 80 j = dt 80 j := fun j h1_ h2_ => (h186_9 j (by omega) (by omega)).trans (C181 j)
      have F278 : dt187 80 1 = dt 80 1 := (h186_9 1 (by omega) (by omega)).trans (C181 1)
      have F279 : ∀ j : Nat, 5380 ≤ j → j < 5540 → dt187 80 j = dt 80 j := fun j h1_ h2_ => (h186_9 j (by omega) (by omega)).trans (C181 j)
      have F280 : ∀ j : Nat, 5540 ≤ j → j < 7340 → dt187 80 j = dt 80 j := fun j h1_ h2_ => (h186_9 j (by omega) (by omega)).trans (C181 j)
      refine go_toq PM267 (k := 2) (pc' := 1435) (L' := [some (.inr (.inr (some 3000))), some (.inr (.inr (some 0))), some (.inr (.inr (some 79))), some (.inl i)]) (st' := []) (w' := (SH, dt187)) rfl ?_
      exact K dt187 hI188 hM247 M2253 (w191.trans (hk0.trans w248.symm)) (w192.trans (hk1.trans w249.symm)) (w193.trans (hk2.trans w250.symm)) (w194.trans (hk3.trans w251.symm)) (by omega) (w196.trans (hk5.trans w252.symm)) (w197.trans (hk6.trans w207.symm)) (w198.trans (hk7.trans w208.symm)) (w199.trans (hk8.trans w209.symm)) (w200.trans (hk9.trans w210.symm)) (w201.trans (hk10.trans w211.symm)) (w202.trans (hk11.trans w212.symm)) (w203.trans (hk12.trans w213.symm)) (w204.trans (hk13.trans w214.symm)) (w205.trans (hk14.trans w215.symm)) (w206.trans (hk15.trans w216.symm)) (by first | exact hI | exact TPL_k hd0 C272 C274 (by omega) | (exfalso; omega)) (by first | exact hI | exact SCL_k hd1 hM (fun j _ => C254 j) (fun j _ => C255 j) F275 | (exfalso; omega)) (by first | exact hI | exact SCL_k hd2 hM2 (fun j _ => C262 j) (fun j _ => C263 j) (fun j _ _ => C273 j) | (exfalso; omega)) (by first | exact hI | exact QRL_k hd3 hM (fun j _ => C259 j) F278 F277 | (exfalso; omega)) (by first | exact hI | exact QRL_k hd4 hM2 (fun j _ => C267 j) (C273 1) (fun j _ _ => C273 j) | (exfalso; omega)) (by first | exact hI | exact SDL_k hd5 hM (fun j _ => C260 j) F278 F275 F277 | (exfalso; omega)) (by first | exact hI | exact SDL_k hd6 hM2 (fun j _ => C268 j) (C273 1) (fun j _ _ => C273 j) (fun j _ _ => C273 j) | (exfalso; omega)) (by first | exact hI | exact LWL_k hd7 hM (fun j _ => C256 j) (fun j _ => C257 j) (fun j _ => C258 j) F276 | (exfalso; omega)) (by first | exact hI | exact LWL_k hd8 hM2 (fun j _ => C264 j) (fun j _ => C265 j) (fun j _ => C266 j) (fun j _ _ => C273 j) | (exfalso; omega)) (by first | exact hI | exact CHL_k hd9 hM (fun j _ => C261 j) (by omega) F279 | (exfalso; omega)) (by first | exact hI | exact CHL_k hd10 hM2 (fun j _ => C269 j) (by omega) (fun j _ _ => C273 j) | (exfalso; omega)) (by first | exact hI | exact ANL_k hd11 hM (fun j _ => C270 j) (by omega) (by omega) (by omega) F280 | (exfalso; omega)) (by first | exact hI | exact ANL_k hd12 hM2 (fun j _ => C271 j) (by omega) (by omega) (by omega) (fun j _ _ => C273 j) | (exfalso; omega))
set_option maxRecDepth 20000 in
set_option maxHeartbeats 8000000 in
theorem sp_case24 (L : Nat) (xs : Nat → Int32) (sio : Option Nat) (d : Nat) (Q : Option AV → am_W → Prop) (hLL : L ≤ 3072) (i : Int) (hi : 0 ≤ i ∧ i ≤ 3066) (hil : i ≤ (L : Int) - 6) (dt : Nat → Nat → Int) (hI : InvC dt) (hM : MW (dt 80)) (hM2 : MW (dt 81)) (hk0 : dt 1 0 = dt 80 0) (hk1 : dt 7 3 = dt 80 1) (hk2 : dt 10 3 = dt 80 2) (hk3 : dt 12 3 = dt 80 3) (hk4 : dt 14 3 = dt 80 4) (hk5 : dt 16 3 = dt 80 5) (hk6 : dt 18 0 = dt 81 0) (hk7 : dt 24 3 = dt 81 1) (hk8 : dt 27 3 = dt 81 2) (hk9 : dt 29 3 = dt 81 3) (hk10 : dt 31 3 = dt 81 4) (hk11 : dt 33 3 = dt 81 5) (hk12 : dt 0 2 = dt 79 2) (hk13 : dt 35 1 = dt 79 12) (hk14 : dt 35 2 = dt 79 19) (hk15 : dt 35 3 = dt 79 21) (hd0 : TPL (dt 36) (dt 85) (dt 35 1)) (hd1 : SCL (dt 2) (dt 3) (dt 80)) (hd2 : SCL (dt 19) (dt 20) (dt 81)) (hd3 : QRL (dt 8) (dt 80)) (hd4 : QRL (dt 25) (dt 81)) (hd5 : SDL (dt 9) (dt 80)) (hd6 : SDL (dt 26) (dt 81)) (hd7 : LWL (dt 4) (dt 5) (dt 6) (dt 80)) (hd8 : LWL (dt 21) (dt 22) (dt 23) (dt 81)) (hd9 : CHL (dt 11) (dt 80)) (hd10 : CHL (dt 28) (dt 81)) (hd11 : ANL (dt 13) (dt 80)) (hd12 : ANL (dt 30) (dt 81)) (K : ∀ (dt : Nat → Nat → Int) (hI : InvC dt) (hM : MW (dt 80)) (hM2 : MW (dt 81)) (hk0 : dt 1 0 = dt 80 0) (hk1 : dt 7 3 = dt 80 1) (hk2 : dt 10 3 = dt 80 2) (hk3 : dt 12 3 = dt 80 3) (hk4 : dt 14 3 = dt 80 4) (hk5 : dt 16 3 = dt 80 5) (hk6 : dt 18 0 = dt 81 0) (hk7 : dt 24 3 = dt 81 1) (hk8 : dt 27 3 = dt 81 2) (hk9 : dt 29 3 = dt 81 3) (hk10 : dt 31 3 = dt 81 4) (hk11 : dt 33 3 = dt 81 5) (hk12 : dt 0 2 = dt 79 2) (hk13 : dt 35 1 = dt 79 12) (hk14 : dt 35 2 = dt 79 19) (hk15 : dt 35 3 = dt 79 21) (hd0 : TPL (dt 36) (dt 85) (dt 35 1)) (hd1 : SCL (dt 2) (dt 3) (dt 80)) (hd2 : SCL (dt 19) (dt 20) (dt 81)) (hd3 : QRL (dt 8) (dt 80)) (hd4 : QRL (dt 25) (dt 81)) (hd5 : SDL (dt 9) (dt 80)) (hd6 : SDL (dt 26) (dt 81)) (hd7 : LWL (dt 4) (dt 5) (dt 6) (dt 80)) (hd8 : LWL (dt 21) (dt 22) (dt 23) (dt 81)) (hd9 : CHL (dt 11) (dt 80)) (hd10 : CHL (dt 28) (dt 81)) (hd11 : ANL (dt 13) (dt 80)) (hd12 : ANL (dt 30) (dt 81)), GO (am_XX L xs sio) (d + 39) 267 1435 [some (.inr (.inr (some 3000))), some (.inr (.inr (some 0))), some (.inr (.inr (some 79))), some (.inl i)] [] (SH, dt) Q) : GO (am_XX L xs sio) (d + 39) 267 1142 [some (.inr (.inr (some 3000))), some (.inr (.inr (some 0))), some (.inr (.inr (some 79))), some (.inl i)] [] (SH, dt) Q := by
  have hF : Fr [0, 1, 2, 3, 4, 5, 6, 7, 8, 9, 10, 11, 12, 13, 14, 15, 16, 17, 18, 19, 20, 21, 22, 23, 24, 25, 26, 27, 28, 29, 30, 31, 32, 33, 34, 35, 36, 37, 38, 39, 40, 41, 42, 43, 44, 45, 46, 47, 48, 49, 50, 51, 52, 53, 54, 55, 56, 57, 58, 59, 60, 61, 62, 63, 64, 65, 66, 67, 68, 69, 70, 71, 72, 73, 74, 75, 76, 77, 78, 79, 80, 81, 82, 83, 84, 85, 86, 87, 88, 89, 90, 91, 92, 93, 94, 95, 96, 97, 98, 99, 100, 101, 102, 103, 104] dt dt := Fr_refl
  have hqo := QOC_R hd3 hM hk1
  have hb1_ := hM.1.1
  have hb2_ := hM.1.2.1
  have hb3_ := hM.1.2.2.1
  have halk : ALK dt (dt 80) := ⟨hd7, hd3, hd5, hd9, hk1, hk2⟩
  have hav_ : ∀ i : Nat, (i : Int) < dt 12 3 → 0 ≤ dt 13 (6 * i + 1) ∧ dt 13 (6 * i + 1) < dt 7 3 := fun i hi => by have z := hd11 i (by omega); have y := z.2.2 1 (by decide); have w := z.2.1; omega
  refine go_toq PM267 (k := 5) (pc' := 1147) (L' := [some (.inr (.inr (some 3000))), some (.inr (.inr (some 0))), some (.inr (.inr (some 79))), some (.inl i)]) (st' := [.inl (i + 1), .inr (.inr (some 3000)), .inr (.inr (some 0))]) (w' := (SH, dt)) rfl ?_
  have r1 := i32_R (xs ((i + 1).toNat))
  refine go_smpq PM267 (L' := [some (.inr (.inr (some 3000))), some (.inr (.inr (some 0))), some (.inr (.inr (some 79))), some (.inl i)]) (st' := [.inl ((xs ((i + 1).toNat)).toInt), .inr (.inr (some 0))]) (w' := (SH, dt)) rfl rfl (s_iald (n := L) (f := fun j => (xs j).toInt) (am_scr hLL) ⟨by omega, by omega⟩) ?_
  refine go_callq PM267 PM91 (Q' := _) rfl rfl rfl rfl (sp_X5_way L xs sio (d + 35) dt hI  ((xs ((i + 1).toNat)).toInt) ⟨by omega, by omega⟩ ) ?_
  rintro _ _ ⟨rfl, h2⟩
  refine ⟨rfl, ?_⟩
  rcases h2 with ⟨v_h2, rfl, h2r, h2⟩
  refine go_toq PM267 (k := 6) (pc' := 1157) (L' := [some (.inr (.inr (some 3000))), some (.inr (.inr (some 0))), some (.inr (.inr (some 79))), some (.inl i)]) (st' := [.inl (i + 1), .inr (.inr (some 3000)), .inr (.inr (some 79))]) (w' := (SH, dt)) rfl ?_
  refine go_smpq PM267 (L' := [some (.inr (.inr (some 3000))), some (.inr (.inr (some 0))), some (.inr (.inr (some 79))), some (.inl i)]) (st' := [.inl ((xs ((i + 1).toNat)).toInt), .inr (.inr (some 79))]) (w' := (SH, dt)) rfl rfl (s_iald (n := L) (f := fun j => (xs j).toInt) (am_scr hLL) ⟨by omega, by omega⟩) ?_
  refine go_callq PM267 PM236 (Q' := _) rfl rfl rfl rfl (sp_X6_way L xs sio (d + 36) dt hI hM  ((xs ((i + 1).toNat)).toInt) ⟨by omega, by omega⟩ ) ?_
  rintro _ _ ⟨dt4, rfl, hI5, hF6, h3⟩
  refine ⟨rfl, ?_⟩
  have hF7 : Fr [0, 1, 2, 3, 4, 5, 6, 7, 8, 9, 10, 11, 12, 13, 14, 15, 16, 17, 18, 19, 20, 21, 22, 23, 24, 25, 26, 27, 28, 29, 30, 31, 32, 33, 34, 35, 36, 37, 38, 39, 40, 41, 42, 43, 44, 45, 46, 47, 48, 49, 50, 51, 52, 53, 54, 55, 56, 57, 58, 59, 60, 61, 62, 63, 64, 65, 66, 67, 68, 69, 70, 71, 72, 73, 74, 75, 76, 77, 78, 79, 80, 81, 82, 83, 84, 85, 86, 87, 88, 89, 90, 91, 92, 93, 94, 95, 96, 97, 98, 99, 100, 101, 102, 103, 104] dt dt4 := Fr_tr hF hF6 (by decide)
  have hM8 : MW (dt4 80) := MW_fr hM hF6 (by decide)
  have w9 : dt4 1 0 = dt 1 0 := hF6 1 (by decide) 0
  have w10 : dt4 7 3 = dt 7 3 := hF6 7 (by decide) 3
  have w11 : dt4 10 3 = dt 10 3 := hF6 10 (by decide) 3
  have w12 : dt4 12 3 = dt 12 3 := hF6 12 (by decide) 3
  have w13 : dt4 14 3 = dt 14 3 := hF6 14 (by decide) 3
  have w14 : dt4 16 3 = dt 16 3 := hF6 16 (by decide) 3
  have w15 : dt4 18 0 = dt 18 0 := hF6 18 (by decide) 0
  have w16 : dt4 24 3 = dt 24 3 := hF6 24 (by decide) 3
  have w17 : dt4 27 3 = dt 27 3 := hF6 27 (by decide) 3
  have w18 : dt4 29 3 = dt 29 3 := hF6 29 (by decide) 3
  have w19 : dt4 31 3 = dt 31 3 := hF6 31 (by decide) 3
  have w20 : dt4 33 3 = dt 33 3 := hF6 33 (by decide) 3
  have w21 : dt4 0 2 = dt 0 2 := hF6 0 (by decide) 2
  have w22 : dt4 35 1 = dt 35 1 := hF6 35 (by decide) 1
  have w23 : dt4 35 2 = dt 35 2 := hF6 35 (by decide) 2
  have w24 : dt4 35 3 = dt 35 3 := hF6 35 (by decide) 3
  have w25 : dt4 80 0 = dt 80 0 := hF6 80 (by decide) 0
  have w26 : dt4 80 1 = dt 80 1 := hF6 80 (by decide) 1
  have w27 : dt4 80 2 = dt 80 2 := hF6 80 (by decide) 2
  have w28 : dt4 80 3 = dt 80 3 := hF6 80 (by decide) 3
  have w29 : dt4 80 4 = dt 80 4 := hF6 80 (by decide) 4
  have w30 : dt4 80 5 = dt 80 5 := hF6 80 (by decide) 5
  have w31 : dt4 81 0 = dt 81 0 := hF6 81 (by decide) 0
  have w32 : dt4 81 1 = dt 81 1 := hF6 81 (by decide) 1
  have w33 : dt4 81 2 = dt 81 2 := hF6 81 (by decide) 2
  have w34 : dt4 81 3 = dt 81 3 := hF6 81 (by decide) 3
  have w35 : dt4 81 4 = dt 81 4 := hF6 81 (by decide) 4
  have w36 : dt4 81 5 = dt 81 5 := hF6 81 (by decide) 5
  have w37 : dt4 79 2 = dt 79 2 := hF6 79 (by decide) 2
  have w38 : dt4 79 12 = dt 79 12 := hF6 79 (by decide) 12
  have w39 : dt4 79 19 = dt 79 19 := hF6 79 (by decide) 19
  have w40 : dt4 79 21 = dt 79 21 := hF6 79 (by decide) 21
  rcases h3 with ⟨v_h3, rfl, h3r, h3⟩
  have M241 : MW (dt4 81) := MW_frk hM2 hF6 (by decide)
  have C42 : ∀ j : Nat, dt4 2 j = dt 2 j := fun j => (hF6 2 (by decide) j).trans ((fun _ => rfl) j)
  have C43 : ∀ j : Nat, dt4 3 j = dt 3 j := fun j => (hF6 3 (by decide) j).trans ((fun _ => rfl) j)
  have C44 : ∀ j : Nat, dt4 4 j = dt 4 j := fun j => (hF6 4 (by decide) j).trans ((fun _ => rfl) j)
  have C45 : ∀ j : Nat, dt4 5 j = dt 5 j := fun j => (hF6 5 (by decide) j).trans ((fun _ => rfl) j)
  have C46 : ∀ j : Nat, dt4 6 j = dt 6 j := fun j => (hF6 6 (by decide) j).trans ((fun _ => rfl) j)
  have C47 : ∀ j : Nat, dt4 8 j = dt 8 j := fun j => (hF6 8 (by decide) j).trans ((fun _ => rfl) j)
  have C48 : ∀ j : Nat, dt4 9 j = dt 9 j := fun j => (hF6 9 (by decide) j).trans ((fun _ => rfl) j)
  have C49 : ∀ j : Nat, dt4 11 j = dt 11 j := fun j => (hF6 11 (by decide) j).trans ((fun _ => rfl) j)
  have C50 : ∀ j : Nat, dt4 19 j = dt 19 j := fun j => (hF6 19 (by decide) j).trans ((fun _ => rfl) j)
  have C51 : ∀ j : Nat, dt4 20 j = dt 20 j := fun j => (hF6 20 (by decide) j).trans ((fun _ => rfl) j)
  have C52 : ∀ j : Nat, dt4 21 j = dt 21 j := fun j => (hF6 21 (by decide) j).trans ((fun _ => rfl) j)
  have C53 : ∀ j : Nat, dt4 22 j = dt 22 j := fun j => (hF6 22 (by decide) j).trans ((fun _ => rfl) j)
  have C54 : ∀ j : Nat, dt4 23 j = dt 23 j := fun j => (hF6 23 (by decide) j).trans ((fun _ => rfl) j)
  have C55 : ∀ j : Nat, dt4 25 j = dt 25 j := fun j => (hF6 25 (by decide) j).trans ((fun _ => rfl) j)
  have C56 : ∀ j : Nat, dt4 26 j = dt 26 j := fun j => (hF6 26 (by decide) j).trans ((fun _ => rfl) j)
  have C57 : ∀ j : Nat, dt4 28 j = dt 28 j := fun j => (hF6 28 (by decide) j).trans ((fun _ => rfl) j)
  have C58 : ∀ j : Nat, dt4 13 j = dt 13 j := fun j => (hF6 13 (by decide) j).trans ((fun _ => rfl) j)
  have C59 : ∀ j : Nat, dt4 30 j = dt 30 j := fun j => (hF6 30 (by decide) j).trans ((fun _ => rfl) j)
  have C60 : ∀ j : Nat, dt4 36 j = dt 36 j := fun j => (hF6 36 (by decide) j).trans ((fun _ => rfl) j)
  have C61 : ∀ j : Nat, dt4 80 j = dt 80 j := fun j => (hF6 80 (by decide) j).trans ((fun _ => rfl) j)
  have C62 : ∀ j : Nat, dt4 81 j = dt 81 j := fun j => (hF6 81 (by decide) j).trans ((fun _ => rfl) j)
  have C63 : ∀ j : Nat, dt4 85 j = dt 85 j := fun j => (hF6 85 (by decide) j).trans ((fun _ => rfl) j)
  refine go_toq PM267 (k := 2) (pc' := 1435) (L' := [some (.inr (.inr (some 3000))), some (.inr (.inr (some 0))), some (.inr (.inr (some 79))), some (.inl i)]) (st' := []) (w' := (SH, dt4)) rfl ?_
  exact K dt4 hI5 hM8 M241 (w9.trans (hk0.trans w25.symm)) (w10.trans (hk1.trans w26.symm)) (w11.trans (hk2.trans w27.symm)) (w12.trans (hk3.trans w28.symm)) (w13.trans (hk4.trans w29.symm)) (w14.trans (hk5.trans w30.symm)) (w15.trans (hk6.trans w31.symm)) (w16.trans (hk7.trans w32.symm)) (w17.trans (hk8.trans w33.symm)) (w18.trans (hk9.trans w34.symm)) (w19.trans (hk10.trans w35.symm)) (w20.trans (hk11.trans w36.symm)) (w21.trans (hk12.trans w37.symm)) (w22.trans (hk13.trans w38.symm)) (w23.trans (hk14.trans w39.symm)) (w24.trans (hk15.trans w40.symm)) (by first | exact hI | exact TPL_k hd0 C60 C63 (by omega) | (exfalso; omega)) (by first | exact hI | exact SCL_k hd1 hM (fun j _ => C42 j) (fun j _ => C43 j) (fun j _ _ => C61 j) | (exfalso; omega)) (by first | exact hI | exact SCL_k hd2 hM2 (fun j _ => C50 j) (fun j _ => C51 j) (fun j _ _ => C62 j) | (exfalso; omega)) (by first | exact hI | exact QRL_k hd3 hM (fun j _ => C47 j) (C61 1) (fun j _ _ => C61 j) | (exfalso; omega)) (by first | exact hI | exact QRL_k hd4 hM2 (fun j _ => C55 j) (C62 1) (fun j _ _ => C62 j) | (exfalso; omega)) (by first | exact hI | exact SDL_k hd5 hM (fun j _ => C48 j) (C61 1) (fun j _ _ => C61 j) (fun j _ _ => C61 j) | (exfalso; omega)) (by first | exact hI | exact SDL_k hd6 hM2 (fun j _ => C56 j) (C62 1) (fun j _ _ => C62 j) (fun j _ _ => C62 j) | (exfalso; omega)) (by first | exact hI | exact LWL_k hd7 hM (fun j _ => C44 j) (fun j _ => C45 j) (fun j _ => C46 j) (fun j _ _ => C61 j) | (exfalso; omega)) (by first | exact hI | exact LWL_k hd8 hM2 (fun j _ => C52 j) (fun j _ => C53 j) (fun j _ => C54 j) (fun j _ _ => C62 j) | (exfalso; omega)) (by first | exact hI | exact CHL_k hd9 hM (fun j _ => C49 j) (by omega) (fun j _ _ => C61 j) | (exfalso; omega)) (by first | exact hI | exact CHL_k hd10 hM2 (fun j _ => C57 j) (by omega) (fun j _ _ => C62 j) | (exfalso; omega)) (by first | exact hI | exact ANL_k hd11 hM (fun j _ => C58 j) (by omega) (by omega) (by omega) (fun j _ _ => C61 j) | (exfalso; omega)) (by first | exact hI | exact ANL_k hd12 hM2 (fun j _ => C59 j) (by omega) (by omega) (by omega) (fun j _ _ => C62 j) | (exfalso; omega))
set_option maxRecDepth 20000 in
set_option maxHeartbeats 8000000 in
theorem sp_case25 (L : Nat) (xs : Nat → Int32) (sio : Option Nat) (d : Nat) (Q : Option AV → am_W → Prop) (hLL : L ≤ 3072) (i : Int) (hi : 0 ≤ i ∧ i ≤ 3066) (hil : i ≤ (L : Int) - 6) (dt : Nat → Nat → Int) (hI : InvC dt) (hM : MW (dt 80)) (hM2 : MW (dt 81)) (hk0 : dt 1 0 = dt 80 0) (hk1 : dt 7 3 = dt 80 1) (hk2 : dt 10 3 = dt 80 2) (hk3 : dt 12 3 = dt 80 3) (hk4 : dt 14 3 = dt 80 4) (hk5 : dt 16 3 = dt 80 5) (hk6 : dt 18 0 = dt 81 0) (hk7 : dt 24 3 = dt 81 1) (hk8 : dt 27 3 = dt 81 2) (hk9 : dt 29 3 = dt 81 3) (hk10 : dt 31 3 = dt 81 4) (hk11 : dt 33 3 = dt 81 5) (hk12 : dt 0 2 = dt 79 2) (hk13 : dt 35 1 = dt 79 12) (hk14 : dt 35 2 = dt 79 19) (hk15 : dt 35 3 = dt 79 21) (hd0 : TPL (dt 36) (dt 85) (dt 35 1)) (hd1 : SCL (dt 2) (dt 3) (dt 80)) (hd2 : SCL (dt 19) (dt 20) (dt 81)) (hd3 : QRL (dt 8) (dt 80)) (hd4 : QRL (dt 25) (dt 81)) (hd5 : SDL (dt 9) (dt 80)) (hd6 : SDL (dt 26) (dt 81)) (hd7 : LWL (dt 4) (dt 5) (dt 6) (dt 80)) (hd8 : LWL (dt 21) (dt 22) (dt 23) (dt 81)) (hd9 : CHL (dt 11) (dt 80)) (hd10 : CHL (dt 28) (dt 81)) (hd11 : ANL (dt 13) (dt 80)) (hd12 : ANL (dt 30) (dt 81)) (K : ∀ (dt : Nat → Nat → Int) (hI : InvC dt) (hM : MW (dt 80)) (hM2 : MW (dt 81)) (hk0 : dt 1 0 = dt 80 0) (hk1 : dt 7 3 = dt 80 1) (hk2 : dt 10 3 = dt 80 2) (hk3 : dt 12 3 = dt 80 3) (hk4 : dt 14 3 = dt 80 4) (hk5 : dt 16 3 = dt 80 5) (hk6 : dt 18 0 = dt 81 0) (hk7 : dt 24 3 = dt 81 1) (hk8 : dt 27 3 = dt 81 2) (hk9 : dt 29 3 = dt 81 3) (hk10 : dt 31 3 = dt 81 4) (hk11 : dt 33 3 = dt 81 5) (hk12 : dt 0 2 = dt 79 2) (hk13 : dt 35 1 = dt 79 12) (hk14 : dt 35 2 = dt 79 19) (hk15 : dt 35 3 = dt 79 21) (hd0 : TPL (dt 36) (dt 85) (dt 35 1)) (hd1 : SCL (dt 2) (dt 3) (dt 80)) (hd2 : SCL (dt 19) (dt 20) (dt 81)) (hd3 : QRL (dt 8) (dt 80)) (hd4 : QRL (dt 25) (dt 81)) (hd5 : SDL (dt 9) (dt 80)) (hd6 : SDL (dt 26) (dt 81)) (hd7 : LWL (dt 4) (dt 5) (dt 6) (dt 80)) (hd8 : LWL (dt 21) (dt 22) (dt 23) (dt 81)) (hd9 : CHL (dt 11) (dt 80)) (hd10 : CHL (dt 28) (dt 81)) (hd11 : ANL (dt 13) (dt 80)) (hd12 : ANL (dt 30) (dt 81)), GO (am_XX L xs sio) (d + 39) 267 1435 [some (.inr (.inr (some 3000))), some (.inr (.inr (some 0))), some (.inr (.inr (some 79))), some (.inl i)] [] (SH, dt) Q) : GO (am_XX L xs sio) (d + 39) 267 1165 [some (.inr (.inr (some 3000))), some (.inr (.inr (some 0))), some (.inr (.inr (some 79))), some (.inl i)] [] (SH, dt) Q := by
  have hF : Fr [0, 1, 2, 3, 4, 5, 6, 7, 8, 9, 10, 11, 12, 13, 14, 15, 16, 17, 18, 19, 20, 21, 22, 23, 24, 25, 26, 27, 28, 29, 30, 31, 32, 33, 34, 35, 36, 37, 38, 39, 40, 41, 42, 43, 44, 45, 46, 47, 48, 49, 50, 51, 52, 53, 54, 55, 56, 57, 58, 59, 60, 61, 62, 63, 64, 65, 66, 67, 68, 69, 70, 71, 72, 73, 74, 75, 76, 77, 78, 79, 80, 81, 82, 83, 84, 85, 86, 87, 88, 89, 90, 91, 92, 93, 94, 95, 96, 97, 98, 99, 100, 101, 102, 103, 104] dt dt := Fr_refl
  have hqo := QOC_R hd3 hM hk1
  have hb1_ := hM.1.1
  have hb2_ := hM.1.2.1
  have hb3_ := hM.1.2.2.1
  have halk : ALK dt (dt 80) := ⟨hd7, hd3, hd5, hd9, hk1, hk2⟩
  have hav_ : ∀ i : Nat, (i : Int) < dt 12 3 → 0 ≤ dt 13 (6 * i + 1) ∧ dt 13 (6 * i + 1) < dt 7 3 := fun i hi => by have z := hd11 i (by omega); have y := z.2.2 1 (by decide); have w := z.2.1; omega
  refine go_toq PM267 (k := 5) (pc' := 1170) (L' := [some (.inr (.inr (some 3000))), some (.inr (.inr (some 0))), some (.inr (.inr (some 79))), some (.inl i)]) (st' := [.inl (i + 1), .inr (.inr (some 3000)), .inr (.inr (some 0))]) (w' := (SH, dt)) rfl ?_
  have r1 := i32_R (xs ((i + 1).toNat))
  refine go_smpq PM267 (L' := [some (.inr (.inr (some 3000))), some (.inr (.inr (some 0))), some (.inr (.inr (some 79))), some (.inl i)]) (st' := [.inl ((xs ((i + 1).toNat)).toInt), .inr (.inr (some 0))]) (w' := (SH, dt)) rfl rfl (s_iald (n := L) (f := fun j => (xs j).toInt) (am_scr hLL) ⟨by omega, by omega⟩) ?_
  refine go_toq PM267 (k := 4) (pc' := 1175) (L' := [some (.inr (.inr (some 3000))), some (.inr (.inr (some 0))), some (.inr (.inr (some 79))), some (.inl i)]) (st' := [.inl (i + 2), .inr (.inr (some 3000)), .inl ((xs ((i + 1).toNat)).toInt), .inr (.inr (some 0))]) (w' := (SH, dt)) rfl ?_
  have r2 := i32_R (xs ((i + 2).toNat))
  refine go_smpq PM267 (L' := [some (.inr (.inr (some 3000))), some (.inr (.inr (some 0))), some (.inr (.inr (some 79))), some (.inl i)]) (st' := [.inl ((xs ((i + 2).toNat)).toInt), .inl ((xs ((i + 1).toNat)).toInt), .inr (.inr (some 0))]) (w' := (SH, dt)) rfl rfl (s_iald (n := L) (f := fun j => (xs j).toInt) (am_scr hLL) ⟨by omega, by omega⟩) ?_
  refine go_callq PM267 PM92 (Q' := _) rfl rfl rfl rfl (sp_X5_house L xs sio (d + 36) dt hI  ((xs ((i + 1).toNat)).toInt) ⟨by omega, by omega⟩ ((xs ((i + 2).toNat)).toInt) ⟨by omega, by omega⟩ ) ?_
  rintro _ _ ⟨dt4, rfl, hI5, hF6, h3⟩
  refine ⟨rfl, ?_⟩
  have hF7 : Fr [0, 1, 2, 3, 4, 5, 6, 7, 8, 9, 10, 11, 12, 13, 14, 15, 16, 17, 18, 19, 20, 21, 22, 23, 24, 25, 26, 27, 28, 29, 30, 31, 32, 33, 34, 35, 36, 37, 38, 39, 40, 41, 42, 43, 44, 45, 46, 47, 48, 49, 50, 51, 52, 53, 54, 55, 56, 57, 58, 59, 60, 61, 62, 63, 64, 65, 66, 67, 68, 69, 70, 71, 72, 73, 74, 75, 76, 77, 78, 79, 80, 81, 82, 83, 84, 85, 86, 87, 88, 89, 90, 91, 92, 93, 94, 95, 96, 97, 98, 99, 100, 101, 102, 103, 104] dt dt4 := Fr_tr hF hF6 (by decide)
  have hM8 : MW (dt4 80) := MW_fr hM hF6 (by decide)
  have w9 : dt4 1 0 = dt 1 0 := hF6 1 (by decide) 0
  have w10 : dt4 7 3 = dt 7 3 := hF6 7 (by decide) 3
  have w11 : dt4 10 3 = dt 10 3 := hF6 10 (by decide) 3
  have w12 : dt4 12 3 = dt 12 3 := hF6 12 (by decide) 3
  have w13 : dt4 14 3 = dt 14 3 := hF6 14 (by decide) 3
  have w14 : dt4 18 0 = dt 18 0 := hF6 18 (by decide) 0
  have w15 : dt4 24 3 = dt 24 3 := hF6 24 (by decide) 3
  have w16 : dt4 27 3 = dt 27 3 := hF6 27 (by decide) 3
  have w17 : dt4 29 3 = dt 29 3 := hF6 29 (by decide) 3
  have w18 : dt4 31 3 = dt 31 3 := hF6 31 (by decide) 3
  have w19 : dt4 33 3 = dt 33 3 := hF6 33 (by decide) 3
  have w20 : dt4 0 2 = dt 0 2 := hF6 0 (by decide) 2
  have w21 : dt4 35 1 = dt 35 1 := hF6 35 (by decide) 1
  have w22 : dt4 35 2 = dt 35 2 := hF6 35 (by decide) 2
  have w23 : dt4 35 3 = dt 35 3 := hF6 35 (by decide) 3
  have w24 : dt4 80 0 = dt 80 0 := hF6 80 (by decide) 0
  have w25 : dt4 80 1 = dt 80 1 := hF6 80 (by decide) 1
  have w26 : dt4 80 2 = dt 80 2 := hF6 80 (by decide) 2
  have w27 : dt4 80 3 = dt 80 3 := hF6 80 (by decide) 3
  have w28 : dt4 80 4 = dt 80 4 := hF6 80 (by decide) 4
  have w29 : dt4 80 5 = dt 80 5 := hF6 80 (by decide) 5
  have w30 : dt4 81 0 = dt 81 0 := hF6 81 (by decide) 0
  have w31 : dt4 81 1 = dt 81 1 := hF6 81 (by decide) 1
  have w32 : dt4 81 2 = dt 81 2 := hF6 81 (by decide) 2
  have w33 : dt4 81 3 = dt 81 3 := hF6 81 (by decide) 3
  have w34 : dt4 81 4 = dt 81 4 := hF6 81 (by decide) 4
  have w35 : dt4 81 5 = dt 81 5 := hF6 81 (by decide) 5
  have w36 : dt4 79 2 = dt 79 2 := hF6 79 (by decide) 2
  have w37 : dt4 79 12 = dt 79 12 := hF6 79 (by decide) 12
  have w38 : dt4 79 19 = dt 79 19 := hF6 79 (by decide) 19
  have w39 : dt4 79 21 = dt 79 21 := hF6 79 (by decide) 21
  rcases h3 with ⟨rfl, h3⟩ | ⟨v_h3, rfl, h3r, h3⟩
  · skip
    obtain ⟨h3_0, h3_1⟩ := h3
    replace h3_0 := hid h3_0
    have w40 : dt4 16 3 = dt 16 3 := h3_1
    have M241 : MW (dt4 81) := MW_frk hM2 hF6 (by decide)
    have C42 : ∀ j : Nat, dt4 2 j = dt 2 j := fun j => (hF6 2 (by decide) j).trans ((fun _ => rfl) j)
    have C43 : ∀ j : Nat, dt4 3 j = dt 3 j := fun j => (hF6 3 (by decide) j).trans ((fun _ => rfl) j)
    have C44 : ∀ j : Nat, dt4 4 j = dt 4 j := fun j => (hF6 4 (by decide) j).trans ((fun _ => rfl) j)
    have C45 : ∀ j : Nat, dt4 5 j = dt 5 j := fun j => (hF6 5 (by decide) j).trans ((fun _ => rfl) j)
    have C46 : ∀ j : Nat, dt4 6 j = dt 6 j := fun j => (hF6 6 (by decide) j).trans ((fun _ => rfl) j)
    have C47 : ∀ j : Nat, dt4 8 j = dt 8 j := fun j => (hF6 8 (by decide) j).trans ((fun _ => rfl) j)
    have C48 : ∀ j : Nat, dt4 9 j = dt 9 j := fun j => (hF6 9 (by decide) j).trans ((fun _ => rfl) j)
    have C49 : ∀ j : Nat, dt4 11 j = dt 11 j := fun j => (hF6 11 (by decide) j).trans ((fun _ => rfl) j)
    have C50 : ∀ j : Nat, dt4 19 j = dt 19 j := fun j => (hF6 19 (by decide) j).trans ((fun _ => rfl) j)
    have C51 : ∀ j : Nat, dt4 20 j = dt 20 j := fun j => (hF6 20 (by decide) j).trans ((fun _ => rfl) j)
    have C52 : ∀ j : Nat, dt4 21 j = dt 21 j := fun j => (hF6 21 (by decide) j).trans ((fun _ => rfl) j)
    have C53 : ∀ j : Nat, dt4 22 j = dt 22 j := fun j => (hF6 22 (by decide) j).trans ((fun _ => rfl) j)
    have C54 : ∀ j : Nat, dt4 23 j = dt 23 j := fun j => (hF6 23 (by decide) j).trans ((fun _ => rfl) j)
    have C55 : ∀ j : Nat, dt4 25 j = dt 25 j := fun j => (hF6 25 (by decide) j).trans ((fun _ => rfl) j)
    have C56 : ∀ j : Nat, dt4 26 j = dt 26 j := fun j => (hF6 26 (by decide) j).trans ((fun _ => rfl) j)
    have C57 : ∀ j : Nat, dt4 28 j = dt 28 j := fun j => (hF6 28 (by decide) j).trans ((fun _ => rfl) j)
    have C58 : ∀ j : Nat, dt4 13 j = dt 13 j := fun j => (hF6 13 (by decide) j).trans ((fun _ => rfl) j)
    have C59 : ∀ j : Nat, dt4 30 j = dt 30 j := fun j => (hF6 30 (by decide) j).trans ((fun _ => rfl) j)
    have C60 : ∀ j : Nat, dt4 36 j = dt 36 j := fun j => (hF6 36 (by decide) j).trans ((fun _ => rfl) j)
    have C61 : ∀ j : Nat, dt4 80 j = dt 80 j := fun j => (hF6 80 (by decide) j).trans ((fun _ => rfl) j)
    have C62 : ∀ j : Nat, dt4 81 j = dt 81 j := fun j => (hF6 81 (by decide) j).trans ((fun _ => rfl) j)
    have C63 : ∀ j : Nat, dt4 85 j = dt 85 j := fun j => (hF6 85 (by decide) j).trans ((fun _ => rfl) j)
    refine go_toq PM267 (k := 6) (pc' := 1185) (L' := [some (.inr (.inr (some 3000))), some (.inr (.inr (some 0))), some (.inr (.inr (some 79))), some (.inl i)]) (st' := [.inl (i + 1), .inr (.inr (some 3000)), .inr (.inr (some 79))]) (w' := (SH, dt4)) rfl ?_
    have r64 := i32_R (xs ((i + 1).toNat))
    refine go_smpq PM267 (L' := [some (.inr (.inr (some 3000))), some (.inr (.inr (some 0))), some (.inr (.inr (some 79))), some (.inl i)]) (st' := [.inl ((xs ((i + 1).toNat)).toInt), .inr (.inr (some 79))]) (w' := (SH, dt4)) rfl rfl (s_iald (n := L) (f := fun j => (xs j).toInt) (am_scr hLL) ⟨by (first | omega | (have z0_ := unhid h3_0; omega)), by (first | omega | (have z0_ := unhid h3_0; omega))⟩) ?_
    refine go_toq PM267 (k := 4) (pc' := 1190) (L' := [some (.inr (.inr (some 3000))), some (.inr (.inr (some 0))), some (.inr (.inr (some 79))), some (.inl i)]) (st' := [.inl (i + 2), .inr (.inr (some 3000)), .inl ((xs ((i + 1).toNat)).toInt), .inr (.inr (some 79))]) (w' := (SH, dt4)) rfl ?_
    have r65 := i32_R (xs ((i + 2).toNat))
    refine go_smpq PM267 (L' := [some (.inr (.inr (some 3000))), some (.inr (.inr (some 0))), some (.inr (.inr (some 79))), some (.inl i)]) (st' := [.inl ((xs ((i + 2).toNat)).toInt), .inl ((xs ((i + 1).toNat)).toInt), .inr (.inr (some 79))]) (w' := (SH, dt4)) rfl rfl (s_iald (n := L) (f := fun j => (xs j).toInt) (am_scr hLL) ⟨by (first | omega | (have z0_ := unhid h3_0; omega)), by (first | omega | (have z0_ := unhid h3_0; omega))⟩) ?_
    refine go_callq PM267 PM237 (Q' := _) rfl rfl rfl rfl (sp_X6_house_v L xs sio (d + 37) dt4 hI5 hM8  ((xs ((i + 1).toNat)).toInt) ⟨by (first | omega | (have z0_ := unhid h3_0; omega)), by (first | omega | (have z0_ := unhid h3_0; omega))⟩ ((xs ((i + 2).toNat)).toInt) ⟨by (first | omega | (have z0_ := unhid h3_0; omega)), by (first | omega | (have z0_ := unhid h3_0; omega))⟩ ) ?_
    rintro _ _ ⟨dt67, rfl, hI68, hF69, h66⟩
    refine ⟨rfl, ?_⟩
    have hF70 : Fr [0, 1, 2, 3, 4, 5, 6, 7, 8, 9, 10, 11, 12, 13, 14, 15, 16, 17, 18, 19, 20, 21, 22, 23, 24, 25, 26, 27, 28, 29, 30, 31, 32, 33, 34, 35, 36, 37, 38, 39, 40, 41, 42, 43, 44, 45, 46, 47, 48, 49, 50, 51, 52, 53, 54, 55, 56, 57, 58, 59, 60, 61, 62, 63, 64, 65, 66, 67, 68, 69, 70, 71, 72, 73, 74, 75, 76, 77, 78, 79, 80, 81, 82, 83, 84, 85, 86, 87, 88, 89, 90, 91, 92, 93, 94, 95, 96, 97, 98, 99, 100, 101, 102, 103, 104] dt dt67 := Fr_tr hF7 hF69 (by decide)
    have w71 : dt67 1 0 = dt 1 0 := (hF69 1 (by decide) 0).trans w9
    have w72 : dt67 7 3 = dt 7 3 := (hF69 7 (by decide) 3).trans w10
    have w73 : dt67 10 3 = dt 10 3 := (hF69 10 (by decide) 3).trans w11
    have w74 : dt67 12 3 = dt 12 3 := (hF69 12 (by decide) 3).trans w12
    have w75 : dt67 14 3 = dt 14 3 := (hF69 14 (by decide) 3).trans w13
    have w76 : dt67 16 3 = dt 16 3 := (hF69 16 (by decide) 3).trans w40
    have w77 : dt67 18 0 = dt 18 0 := (hF69 18 (by decide) 0).trans w14
    have w78 : dt67 24 3 = dt 24 3 := (hF69 24 (by decide) 3).trans w15
    have w79 : dt67 27 3 = dt 27 3 := (hF69 27 (by decide) 3).trans w16
    have w80 : dt67 29 3 = dt 29 3 := (hF69 29 (by decide) 3).trans w17
    have w81 : dt67 31 3 = dt 31 3 := (hF69 31 (by decide) 3).trans w18
    have w82 : dt67 33 3 = dt 33 3 := (hF69 33 (by decide) 3).trans w19
    have w83 : dt67 0 2 = dt 0 2 := (hF69 0 (by decide) 2).trans w20
    have w84 : dt67 35 1 = dt 35 1 := (hF69 35 (by decide) 1).trans w21
    have w85 : dt67 35 2 = dt 35 2 := (hF69 35 (by decide) 2).trans w22
    have w86 : dt67 35 3 = dt 35 3 := (hF69 35 (by decide) 3).trans w23
    have w87 : dt67 81 0 = dt 81 0 := (hF69 81 (by decide) 0).trans w30
    have w88 : dt67 81 1 = dt 81 1 := (hF69 81 (by decide) 1).trans w31
    have w89 : dt67 81 2 = dt 81 2 := (hF69 81 (by decide) 2).trans w32
    have w90 : dt67 81 3 = dt 81 3 := (hF69 81 (by decide) 3).trans w33
    have w91 : dt67 81 4 = dt 81 4 := (hF69 81 (by decide) 4).trans w34
    have w92 : dt67 81 5 = dt 81 5 := (hF69 81 (by decide) 5).trans w35
    have w93 : dt67 79 2 = dt 79 2 := (hF69 79 (by decide) 2).trans w36
    have w94 : dt67 79 12 = dt 79 12 := (hF69 79 (by decide) 12).trans w37
    have w95 : dt67 79 19 = dt 79 19 := (hF69 79 (by decide) 19).trans w38
    have w96 : dt67 79 21 = dt 79 21 := (hF69 79 (by decide) 21).trans w39
    rcases h66 with ⟨rfl, h66⟩ | ⟨v_h66, rfl, h66r, h66⟩
    · skip
      have hM97 : MW (dt67 80) := h66.2.1
      obtain ⟨h66_0, h66_1, h66_2, h66_3, h66_4, h66_5, h66_6, h66_7, h66_8⟩ := h66
      replace h66_0 := hid h66_0
      have w98 : dt67 80 0 = dt 80 0 := h66_2.trans w24
      have w99 : dt67 80 1 = dt 80 1 := h66_3.trans w25
      have w100 : dt67 80 2 = dt 80 2 := h66_4.trans w26
      have w101 : dt67 80 3 = dt 80 3 := h66_5.trans w27
      have w102 : dt67 80 4 = dt 80 4 := h66_6.trans w28
      have w103 : dt67 80 5 = dt 80 5 := h66_7.trans w29
      have M2104 : MW (dt67 81) := MW_frk M241 hF69 (by decide)
      have C105 : ∀ j : Nat, dt67 2 j = dt 2 j := fun j => (hF69 2 (by decide) j).trans (C42 j)
      have C106 : ∀ j : Nat, dt67 3 j = dt 3 j := fun j => (hF69 3 (by decide) j).trans (C43 j)
      have C107 : ∀ j : Nat, dt67 4 j = dt 4 j := fun j => (hF69 4 (by decide) j).trans (C44 j)
      have C108 : ∀ j : Nat, dt67 5 j = dt 5 j := fun j => (hF69 5 (by decide) j).trans (C45 j)
      have C109 : ∀ j : Nat, dt67 6 j = dt 6 j := fun j => (hF69 6 (by decide) j).trans (C46 j)
      have C110 : ∀ j : Nat, dt67 8 j = dt 8 j := fun j => (hF69 8 (by decide) j).trans (C47 j)
      have C111 : ∀ j : Nat, dt67 9 j = dt 9 j := fun j => (hF69 9 (by decide) j).trans (C48 j)
      have C112 : ∀ j : Nat, dt67 11 j = dt 11 j := fun j => (hF69 11 (by decide) j).trans (C49 j)
      have C113 : ∀ j : Nat, dt67 19 j = dt 19 j := fun j => (hF69 19 (by decide) j).trans (C50 j)
      have C114 : ∀ j : Nat, dt67 20 j = dt 20 j := fun j => (hF69 20 (by decide) j).trans (C51 j)
      have C115 : ∀ j : Nat, dt67 21 j = dt 21 j := fun j => (hF69 21 (by decide) j).trans (C52 j)
      have C116 : ∀ j : Nat, dt67 22 j = dt 22 j := fun j => (hF69 22 (by decide) j).trans (C53 j)
      have C117 : ∀ j : Nat, dt67 23 j = dt 23 j := fun j => (hF69 23 (by decide) j).trans (C54 j)
      have C118 : ∀ j : Nat, dt67 25 j = dt 25 j := fun j => (hF69 25 (by decide) j).trans (C55 j)
      have C119 : ∀ j : Nat, dt67 26 j = dt 26 j := fun j => (hF69 26 (by decide) j).trans (C56 j)
      have C120 : ∀ j : Nat, dt67 28 j = dt 28 j := fun j => (hF69 28 (by decide) j).trans (C57 j)
      have C121 : ∀ j : Nat, dt67 13 j = dt 13 j := fun j => (hF69 13 (by decide) j).trans (C58 j)
      have C122 : ∀ j : Nat, dt67 30 j = dt 30 j := fun j => (hF69 30 (by decide) j).trans (C59 j)
      have C123 : ∀ j : Nat, dt67 36 j = dt 36 j := fun j => (hF69 36 (by decide) j).trans (C60 j)
      have C124 : ∀ j : Nat, dt67 80 j = dt 80 j := fun j => (h66_8 j).trans (C61 j)
      have C125 : ∀ j : Nat, dt67 81 j = dt 81 j := fun j => (hF69 81 (by decide) j).trans (C62 j)
      have C126 : ∀ j : Nat, dt67 85 j = dt 85 j := fun j => (hF69 85 (by decide) j).trans (C63 j)
      refine go_toq PM267 (k := 2) (pc' := 1435) (L' := [some (.inr (.inr (some 3000))), some (.inr (.inr (some 0))), some (.inr (.inr (some 79))), some (.inl i)]) (st' := []) (w' := (SH, dt67)) rfl ?_
      exact K dt67 hI68 hM97 M2104 (w71.trans (hk0.trans w98.symm)) (w72.trans (hk1.trans w99.symm)) (w73.trans (hk2.trans w100.symm)) (w74.trans (hk3.trans w101.symm)) (w75.trans (hk4.trans w102.symm)) (w76.trans (hk5.trans w103.symm)) (w77.trans (hk6.trans w87.symm)) (w78.trans (hk7.trans w88.symm)) (w79.trans (hk8.trans w89.symm)) (w80.trans (hk9.trans w90.symm)) (w81.trans (hk10.trans w91.symm)) (w82.trans (hk11.trans w92.symm)) (w83.trans (hk12.trans w93.symm)) (w84.trans (hk13.trans w94.symm)) (w85.trans (hk14.trans w95.symm)) (w86.trans (hk15.trans w96.symm)) (by first | exact hI | exact TPL_k hd0 C123 C126 (by (first | omega | (have z0_ := unhid h3_0; have z1_ := unhid h66_0; omega))) | (exfalso; (first | omega | (have z0_ := unhid h3_0; have z1_ := unhid h66_0; omega)))) (by first | exact hI | exact SCL_k hd1 hM (fun j _ => C105 j) (fun j _ => C106 j) (fun j _ _ => C124 j) | (exfalso; (first | omega | (have z0_ := unhid h3_0; have z1_ := unhid h66_0; omega)))) (by first | exact hI | exact SCL_k hd2 hM2 (fun j _ => C113 j) (fun j _ => C114 j) (fun j _ _ => C125 j) | (exfalso; (first | omega | (have z0_ := unhid h3_0; have z1_ := unhid h66_0; omega)))) (by first | exact hI | exact QRL_k hd3 hM (fun j _ => C110 j) (C124 1) (fun j _ _ => C124 j) | (exfalso; (first | omega | (have z0_ := unhid h3_0; have z1_ := unhid h66_0; omega)))) (by first | exact hI | exact QRL_k hd4 hM2 (fun j _ => C118 j) (C125 1) (fun j _ _ => C125 j) | (exfalso; (first | omega | (have z0_ := unhid h3_0; have z1_ := unhid h66_0; omega)))) (by first | exact hI | exact SDL_k hd5 hM (fun j _ => C111 j) (C124 1) (fun j _ _ => C124 j) (fun j _ _ => C124 j) | (exfalso; (first | omega | (have z0_ := unhid h3_0; have z1_ := unhid h66_0; omega)))) (by first | exact hI | exact SDL_k hd6 hM2 (fun j _ => C119 j) (C125 1) (fun j _ _ => C125 j) (fun j _ _ => C125 j) | (exfalso; (first | omega | (have z0_ := unhid h3_0; have z1_ := unhid h66_0; omega)))) (by first | exact hI | exact LWL_k hd7 hM (fun j _ => C107 j) (fun j _ => C108 j) (fun j _ => C109 j) (fun j _ _ => C124 j) | (exfalso; (first | omega | (have z0_ := unhid h3_0; have z1_ := unhid h66_0; omega)))) (by first | exact hI | exact LWL_k hd8 hM2 (fun j _ => C115 j) (fun j _ => C116 j) (fun j _ => C117 j) (fun j _ _ => C125 j) | (exfalso; (first | omega | (have z0_ := unhid h3_0; have z1_ := unhid h66_0; omega)))) (by first | exact hI | exact CHL_k hd9 hM (fun j _ => C112 j) (by (first | omega | (have z0_ := unhid h3_0; have z1_ := unhid h66_0; omega))) (fun j _ _ => C124 j) | (exfalso; (first | omega | (have z0_ := unhid h3_0; have z1_ := unhid h66_0; omega)))) (by first | exact hI | exact CHL_k hd10 hM2 (fun j _ => C120 j) (by (first | omega | (have z0_ := unhid h3_0; have z1_ := unhid h66_0; omega))) (fun j _ _ => C125 j) | (exfalso; (first | omega | (have z0_ := unhid h3_0; have z1_ := unhid h66_0; omega)))) (by first | exact hI | exact ANL_k hd11 hM (fun j _ => C121 j) (by (first | omega | (have z0_ := unhid h3_0; have z1_ := unhid h66_0; omega))) (by (first | omega | (have z0_ := unhid h3_0; have z1_ := unhid h66_0; omega))) (by (first | omega | (have z0_ := unhid h3_0; have z1_ := unhid h66_0; omega))) (fun j _ _ => C124 j) | (exfalso; (first | omega | (have z0_ := unhid h3_0; have z1_ := unhid h66_0; omega)))) (by first | exact hI | exact ANL_k hd12 hM2 (fun j _ => C122 j) (by (first | omega | (have z0_ := unhid h3_0; have z1_ := unhid h66_0; omega))) (by (first | omega | (have z0_ := unhid h3_0; have z1_ := unhid h66_0; omega))) (by (first | omega | (have z0_ := unhid h3_0; have z1_ := unhid h66_0; omega))) (fun j _ _ => C125 j) | (exfalso; (first | omega | (have z0_ := unhid h3_0; have z1_ := unhid h66_0; omega))))
    · skip
      have hM127 : MW (dt67 80) := h66.2.2.1
      obtain ⟨h66_0, h66_1, h66_2, h66_3, h66_4, h66_5, h66_6, h66_7, h66_8, h66_9, h66_10, h66_11⟩ := h66
      have w128 : dt67 80 0 = dt 80 0 := h66_4.trans w24
      have w129 : dt67 80 1 = dt 80 1 := h66_5.trans w25
      have w130 : dt67 80 2 = dt 80 2 := h66_6.trans w26
      have w131 : dt67 80 3 = dt 80 3 := h66_7.trans w27
      have w132 : dt67 80 4 = dt 80 4 := h66_8.trans w28
      have M2133 : MW (dt67 81) := MW_frk M241 hF69 (by decide)
      have C134 : ∀ j : Nat, dt67 2 j = dt 2 j := fun j => (hF69 2 (by decide) j).trans (C42 j)
      have C135 : ∀ j : Nat, dt67 3 j = dt 3 j := fun j => (hF69 3 (by decide) j).trans (C43 j)
      have C136 : ∀ j : Nat, dt67 4 j = dt 4 j := fun j => (hF69 4 (by decide) j).trans (C44 j)
      have C137 : ∀ j : Nat, dt67 5 j = dt 5 j := fun j => (hF69 5 (by decide) j).trans (C45 j)
      have C138 : ∀ j : Nat, dt67 6 j = dt 6 j := fun j => (hF69 6 (by decide) j).trans (C46 j)
      have C139 : ∀ j : Nat, dt67 8 j = dt 8 j := fun j => (hF69 8 (by decide) j).trans (C47 j)
      have C140 : ∀ j : Nat, dt67 9 j = dt 9 j := fun j => (hF69 9 (by decide) j).trans (C48 j)
      have C141 : ∀ j : Nat, dt67 11 j = dt 11 j := fun j => (hF69 11 (by decide) j).trans (C49 j)
      have C142 : ∀ j : Nat, dt67 19 j = dt 19 j := fun j => (hF69 19 (by decide) j).trans (C50 j)
      have C143 : ∀ j : Nat, dt67 20 j = dt 20 j := fun j => (hF69 20 (by decide) j).trans (C51 j)
      have C144 : ∀ j : Nat, dt67 21 j = dt 21 j := fun j => (hF69 21 (by decide) j).trans (C52 j)
      have C145 : ∀ j : Nat, dt67 22 j = dt 22 j := fun j => (hF69 22 (by decide) j).trans (C53 j)
      have C146 : ∀ j : Nat, dt67 23 j = dt 23 j := fun j => (hF69 23 (by decide) j).trans (C54 j)
      have C147 : ∀ j : Nat, dt67 25 j = dt 25 j := fun j => (hF69 25 (by decide) j).trans (C55 j)
      have C148 : ∀ j : Nat, dt67 26 j = dt 26 j := fun j => (hF69 26 (by decide) j).trans (C56 j)
      have C149 : ∀ j : Nat, dt67 28 j = dt 28 j := fun j => (hF69 28 (by decide) j).trans (C57 j)
      have C150 : ∀ j : Nat, dt67 13 j = dt 13 j := fun j => (hF69 13 (by decide) j).trans (C58 j)
      have C151 : ∀ j : Nat, dt67 30 j = dt 30 j := fun j => (hF69 30 (by decide) j).trans (C59 j)
      have C152 : ∀ j : Nat, dt67 36 j = dt 36 j := fun j => (hF69 36 (by decide) j).trans (C60 j)
      have C153 : ∀ j : Nat, dt67 81 j = dt 81 j := fun j => (hF69 81 (by decide) j).trans (C62 j)
      have C154 : ∀ j : Nat, dt67 85 j = dt 85 j := fun j => (hF69 85 (by decide) j).trans (C63 j)
      have F155 : ∀ j : Nat, 6 ≤ j → j < 974 → dt67 80 j = dt 80 j := fun j h1_ h2_ => (h66_9 j (by (first | omega | (have z0_ := unhid h3_0; omega))) (by (first | omega | (have z0_ := unhid h3_0; omega)))).trans (C61 j)
      have F156 : ∀ j : Nat, 974 ≤ j → j < 5320 → dt67 80 j = dt 80 j := fun j h1_ h2_ => (h66_9 j (by (first | omega | (have z0_ := unhid h3_0; omega))) (by (first | omega | (have z0_ := unhid h3_0; omega)))).trans (C61 j)
      have F157 : ∀ j : Nat, 5320 ≤ j → j < 5380 → dt67 80 j = dt 80 j := fun j h1_ h2_ => (h66_9 j (by (first | omega | (have z0_ := unhid h3_0; omega))) (by (first | omega | (have z0_ := unhid h3_0; omega)))).trans (C61 j)
      have F158 : dt67 80 1 = dt 80 1 := (h66_9 1 (by (first | omega | (have z0_ := unhid h3_0; omega))) (by (first | omega | (have z0_ := unhid h3_0; omega)))).trans (C61 1)
      have F159 : ∀ j : Nat, 5380 ≤ j → j < 5540 → dt67 80 j = dt 80 j := fun j h1_ h2_ => (h66_9 j (by (first | omega | (have z0_ := unhid h3_0; omega))) (by (first | omega | (have z0_ := unhid h3_0; omega)))).trans (C61 j)
      have F160 : ∀ j : Nat, 5540 ≤ j → j < 7340 → dt67 80 j = dt 80 j := fun j h1_ h2_ => (h66_9 j (by (first | omega | (have z0_ := unhid h3_0; omega))) (by (first | omega | (have z0_ := unhid h3_0; omega)))).trans (C61 j)
      refine go_toq PM267 (k := 2) (pc' := 1435) (L' := [some (.inr (.inr (some 3000))), some (.inr (.inr (some 0))), some (.inr (.inr (some 79))), some (.inl i)]) (st' := []) (w' := (SH, dt67)) rfl ?_
      exact K dt67 hI68 hM127 M2133 (w71.trans (hk0.trans w128.symm)) (w72.trans (hk1.trans w129.symm)) (w73.trans (hk2.trans w130.symm)) (w74.trans (hk3.trans w131.symm)) (w75.trans (hk4.trans w132.symm)) (by (first | omega | (have z0_ := unhid h3_0; omega))) (w77.trans (hk6.trans w87.symm)) (w78.trans (hk7.trans w88.symm)) (w79.trans (hk8.trans w89.symm)) (w80.trans (hk9.trans w90.symm)) (w81.trans (hk10.trans w91.symm)) (w82.trans (hk11.trans w92.symm)) (w83.trans (hk12.trans w93.symm)) (w84.trans (hk13.trans w94.symm)) (w85.trans (hk14.trans w95.symm)) (w86.trans (hk15.trans w96.symm)) (by first | exact hI | exact TPL_k hd0 C152 C154 (by (first | omega | (have z0_ := unhid h3_0; omega))) | (exfalso; (first | omega | (have z0_ := unhid h3_0; omega)))) (by first | exact hI | exact SCL_k hd1 hM (fun j _ => C134 j) (fun j _ => C135 j) F155 | (exfalso; (first | omega | (have z0_ := unhid h3_0; omega)))) (by first | exact hI | exact SCL_k hd2 hM2 (fun j _ => C142 j) (fun j _ => C143 j) (fun j _ _ => C153 j) | (exfalso; (first | omega | (have z0_ := unhid h3_0; omega)))) (by first | exact hI | exact QRL_k hd3 hM (fun j _ => C139 j) F158 F157 | (exfalso; (first | omega | (have z0_ := unhid h3_0; omega)))) (by first | exact hI | exact QRL_k hd4 hM2 (fun j _ => C147 j) (C153 1) (fun j _ _ => C153 j) | (exfalso; (first | omega | (have z0_ := unhid h3_0; omega)))) (by first | exact hI | exact SDL_k hd5 hM (fun j _ => C140 j) F158 F155 F157 | (exfalso; (first | omega | (have z0_ := unhid h3_0; omega)))) (by first | exact hI | exact SDL_k hd6 hM2 (fun j _ => C148 j) (C153 1) (fun j _ _ => C153 j) (fun j _ _ => C153 j) | (exfalso; (first | omega | (have z0_ := unhid h3_0; omega)))) (by first | exact hI | exact LWL_k hd7 hM (fun j _ => C136 j) (fun j _ => C137 j) (fun j _ => C138 j) F156 | (exfalso; (first | omega | (have z0_ := unhid h3_0; omega)))) (by first | exact hI | exact LWL_k hd8 hM2 (fun j _ => C144 j) (fun j _ => C145 j) (fun j _ => C146 j) (fun j _ _ => C153 j) | (exfalso; (first | omega | (have z0_ := unhid h3_0; omega)))) (by first | exact hI | exact CHL_k hd9 hM (fun j _ => C141 j) (by (first | omega | (have z0_ := unhid h3_0; omega))) F159 | (exfalso; (first | omega | (have z0_ := unhid h3_0; omega)))) (by first | exact hI | exact CHL_k hd10 hM2 (fun j _ => C149 j) (by (first | omega | (have z0_ := unhid h3_0; omega))) (fun j _ _ => C153 j) | (exfalso; (first | omega | (have z0_ := unhid h3_0; omega)))) (by first | exact hI | exact ANL_k hd11 hM (fun j _ => C150 j) (by (first | omega | (have z0_ := unhid h3_0; omega))) (by (first | omega | (have z0_ := unhid h3_0; omega))) (by (first | omega | (have z0_ := unhid h3_0; omega))) F160 | (exfalso; (first | omega | (have z0_ := unhid h3_0; omega)))) (by first | exact hI | exact ANL_k hd12 hM2 (fun j _ => C151 j) (by (first | omega | (have z0_ := unhid h3_0; omega))) (by (first | omega | (have z0_ := unhid h3_0; omega))) (by (first | omega | (have z0_ := unhid h3_0; omega))) (fun j _ _ => C153 j) | (exfalso; (first | omega | (have z0_ := unhid h3_0; omega))))
  · skip
    obtain ⟨h3_0, h3_1, h3_2⟩ := h3
    have M2161 : MW (dt4 81) := MW_frk hM2 hF6 (by decide)
    have C162 : ∀ j : Nat, dt4 2 j = dt 2 j := fun j => (hF6 2 (by decide) j).trans ((fun _ => rfl) j)
    have C163 : ∀ j : Nat, dt4 3 j = dt 3 j := fun j => (hF6 3 (by decide) j).trans ((fun _ => rfl) j)
    have C164 : ∀ j : Nat, dt4 4 j = dt 4 j := fun j => (hF6 4 (by decide) j).trans ((fun _ => rfl) j)
    have C165 : ∀ j : Nat, dt4 5 j = dt 5 j := fun j => (hF6 5 (by decide) j).trans ((fun _ => rfl) j)
    have C166 : ∀ j : Nat, dt4 6 j = dt 6 j := fun j => (hF6 6 (by decide) j).trans ((fun _ => rfl) j)
    have C167 : ∀ j : Nat, dt4 8 j = dt 8 j := fun j => (hF6 8 (by decide) j).trans ((fun _ => rfl) j)
    have C168 : ∀ j : Nat, dt4 9 j = dt 9 j := fun j => (hF6 9 (by decide) j).trans ((fun _ => rfl) j)
    have C169 : ∀ j : Nat, dt4 11 j = dt 11 j := fun j => (hF6 11 (by decide) j).trans ((fun _ => rfl) j)
    have C170 : ∀ j : Nat, dt4 19 j = dt 19 j := fun j => (hF6 19 (by decide) j).trans ((fun _ => rfl) j)
    have C171 : ∀ j : Nat, dt4 20 j = dt 20 j := fun j => (hF6 20 (by decide) j).trans ((fun _ => rfl) j)
    have C172 : ∀ j : Nat, dt4 21 j = dt 21 j := fun j => (hF6 21 (by decide) j).trans ((fun _ => rfl) j)
    have C173 : ∀ j : Nat, dt4 22 j = dt 22 j := fun j => (hF6 22 (by decide) j).trans ((fun _ => rfl) j)
    have C174 : ∀ j : Nat, dt4 23 j = dt 23 j := fun j => (hF6 23 (by decide) j).trans ((fun _ => rfl) j)
    have C175 : ∀ j : Nat, dt4 25 j = dt 25 j := fun j => (hF6 25 (by decide) j).trans ((fun _ => rfl) j)
    have C176 : ∀ j : Nat, dt4 26 j = dt 26 j := fun j => (hF6 26 (by decide) j).trans ((fun _ => rfl) j)
    have C177 : ∀ j : Nat, dt4 28 j = dt 28 j := fun j => (hF6 28 (by decide) j).trans ((fun _ => rfl) j)
    have C178 : ∀ j : Nat, dt4 13 j = dt 13 j := fun j => (hF6 13 (by decide) j).trans ((fun _ => rfl) j)
    have C179 : ∀ j : Nat, dt4 30 j = dt 30 j := fun j => (hF6 30 (by decide) j).trans ((fun _ => rfl) j)
    have C180 : ∀ j : Nat, dt4 36 j = dt 36 j := fun j => (hF6 36 (by decide) j).trans ((fun _ => rfl) j)
    have C181 : ∀ j : Nat, dt4 80 j = dt 80 j := fun j => (hF6 80 (by decide) j).trans ((fun _ => rfl) j)
    have C182 : ∀ j : Nat, dt4 81 j = dt 81 j := fun j => (hF6 81 (by decide) j).trans ((fun _ => rfl) j)
    have C183 : ∀ j : Nat, dt4 85 j = dt 85 j := fun j => (hF6 85 (by decide) j).trans ((fun _ => rfl) j)
    refine go_toq PM267 (k := 6) (pc' := 1185) (L' := [some (.inr (.inr (some 3000))), some (.inr (.inr (some 0))), some (.inr (.inr (some 79))), some (.inl i)]) (st' := [.inl (i + 1), .inr (.inr (some 3000)), .inr (.inr (some 79))]) (w' := (SH, dt4)) rfl ?_
    have r184 := i32_R (xs ((i + 1).toNat))
    refine go_smpq PM267 (L' := [some (.inr (.inr (some 3000))), some (.inr (.inr (some 0))), some (.inr (.inr (some 79))), some (.inl i)]) (st' := [.inl ((xs ((i + 1).toNat)).toInt), .inr (.inr (some 79))]) (w' := (SH, dt4)) rfl rfl (s_iald (n := L) (f := fun j => (xs j).toInt) (am_scr hLL) ⟨by omega, by omega⟩) ?_
    refine go_toq PM267 (k := 4) (pc' := 1190) (L' := [some (.inr (.inr (some 3000))), some (.inr (.inr (some 0))), some (.inr (.inr (some 79))), some (.inl i)]) (st' := [.inl (i + 2), .inr (.inr (some 3000)), .inl ((xs ((i + 1).toNat)).toInt), .inr (.inr (some 79))]) (w' := (SH, dt4)) rfl ?_
    have r185 := i32_R (xs ((i + 2).toNat))
    refine go_smpq PM267 (L' := [some (.inr (.inr (some 3000))), some (.inr (.inr (some 0))), some (.inr (.inr (some 79))), some (.inl i)]) (st' := [.inl ((xs ((i + 2).toNat)).toInt), .inl ((xs ((i + 1).toNat)).toInt), .inr (.inr (some 79))]) (w' := (SH, dt4)) rfl rfl (s_iald (n := L) (f := fun j => (xs j).toInt) (am_scr hLL) ⟨by omega, by omega⟩) ?_
    refine go_callq PM267 PM237 (Q' := _) rfl rfl rfl rfl (sp_X6_house_v L xs sio (d + 37) dt4 hI5 hM8  ((xs ((i + 1).toNat)).toInt) ⟨by omega, by omega⟩ ((xs ((i + 2).toNat)).toInt) ⟨by omega, by omega⟩ ) ?_
    rintro _ _ ⟨dt187, rfl, hI188, hF189, h186⟩
    refine ⟨rfl, ?_⟩
    have hF190 : Fr [0, 1, 2, 3, 4, 5, 6, 7, 8, 9, 10, 11, 12, 13, 14, 15, 16, 17, 18, 19, 20, 21, 22, 23, 24, 25, 26, 27, 28, 29, 30, 31, 32, 33, 34, 35, 36, 37, 38, 39, 40, 41, 42, 43, 44, 45, 46, 47, 48, 49, 50, 51, 52, 53, 54, 55, 56, 57, 58, 59, 60, 61, 62, 63, 64, 65, 66, 67, 68, 69, 70, 71, 72, 73, 74, 75, 76, 77, 78, 79, 80, 81, 82, 83, 84, 85, 86, 87, 88, 89, 90, 91, 92, 93, 94, 95, 96, 97, 98, 99, 100, 101, 102, 103, 104] dt dt187 := Fr_tr hF7 hF189 (by decide)
    have w191 : dt187 1 0 = dt 1 0 := (hF189 1 (by decide) 0).trans w9
    have w192 : dt187 7 3 = dt 7 3 := (hF189 7 (by decide) 3).trans w10
    have w193 : dt187 10 3 = dt 10 3 := (hF189 10 (by decide) 3).trans w11
    have w194 : dt187 12 3 = dt 12 3 := (hF189 12 (by decide) 3).trans w12
    have w195 : dt187 14 3 = dt 14 3 := (hF189 14 (by decide) 3).trans w13
    have w196 : dt187 16 3 = dt4 16 3 := hF189 16 (by decide) 3
    have w197 : dt187 18 0 = dt 18 0 := (hF189 18 (by decide) 0).trans w14
    have w198 : dt187 24 3 = dt 24 3 := (hF189 24 (by decide) 3).trans w15
    have w199 : dt187 27 3 = dt 27 3 := (hF189 27 (by decide) 3).trans w16
    have w200 : dt187 29 3 = dt 29 3 := (hF189 29 (by decide) 3).trans w17
    have w201 : dt187 31 3 = dt 31 3 := (hF189 31 (by decide) 3).trans w18
    have w202 : dt187 33 3 = dt 33 3 := (hF189 33 (by decide) 3).trans w19
    have w203 : dt187 0 2 = dt 0 2 := (hF189 0 (by decide) 2).trans w20
    have w204 : dt187 35 1 = dt 35 1 := (hF189 35 (by decide) 1).trans w21
    have w205 : dt187 35 2 = dt 35 2 := (hF189 35 (by decide) 2).trans w22
    have w206 : dt187 35 3 = dt 35 3 := (hF189 35 (by decide) 3).trans w23
    have w207 : dt187 81 0 = dt 81 0 := (hF189 81 (by decide) 0).trans w30
    have w208 : dt187 81 1 = dt 81 1 := (hF189 81 (by decide) 1).trans w31
    have w209 : dt187 81 2 = dt 81 2 := (hF189 81 (by decide) 2).trans w32
    have w210 : dt187 81 3 = dt 81 3 := (hF189 81 (by decide) 3).trans w33
    have w211 : dt187 81 4 = dt 81 4 := (hF189 81 (by decide) 4).trans w34
    have w212 : dt187 81 5 = dt 81 5 := (hF189 81 (by decide) 5).trans w35
    have w213 : dt187 79 2 = dt 79 2 := (hF189 79 (by decide) 2).trans w36
    have w214 : dt187 79 12 = dt 79 12 := (hF189 79 (by decide) 12).trans w37
    have w215 : dt187 79 19 = dt 79 19 := (hF189 79 (by decide) 19).trans w38
    have w216 : dt187 79 21 = dt 79 21 := (hF189 79 (by decide) 21).trans w39
    rcases h186 with ⟨rfl, h186⟩ | ⟨v_h186, rfl, h186r, h186⟩
    · skip
      have hM217 : MW (dt187 80) := h186.2.1
      obtain ⟨h186_0, h186_1, h186_2, h186_3, h186_4, h186_5, h186_6, h186_7, h186_8⟩ := h186
      replace h186_0 := hid h186_0
      have w218 : dt187 80 0 = dt 80 0 := h186_2.trans w24
      have w219 : dt187 80 1 = dt 80 1 := h186_3.trans w25
      have w220 : dt187 80 2 = dt 80 2 := h186_4.trans w26
      have w221 : dt187 80 3 = dt 80 3 := h186_5.trans w27
      have w222 : dt187 80 4 = dt 80 4 := h186_6.trans w28
      have w223 : dt187 80 5 = dt 80 5 := h186_7.trans w29
      have M2224 : MW (dt187 81) := MW_frk M2161 hF189 (by decide)
      have C225 : ∀ j : Nat, dt187 2 j = dt 2 j := fun j => (hF189 2 (by decide) j).trans (C162 j)
      have C226 : ∀ j : Nat, dt187 3 j = dt 3 j := fun j => (hF189 3 (by decide) j).trans (C163 j)
      have C227 : ∀ j : Nat, dt187 4 j = dt 4 j := fun j => (hF189 4 (by decide) j).trans (C164 j)
      have C228 : ∀ j : Nat, dt187 5 j = dt 5 j := fun j => (hF189 5 (by decide) j).trans (C165 j)
      have C229 : ∀ j : Nat, dt187 6 j = dt 6 j := fun j => (hF189 6 (by decide) j).trans (C166 j)
      have C230 : ∀ j : Nat, dt187 8 j = dt 8 j := fun j => (hF189 8 (by decide) j).trans (C167 j)
      have C231 : ∀ j : Nat, dt187 9 j = dt 9 j := fun j => (hF189 9 (by decide) j).trans (C168 j)
      have C232 : ∀ j : Nat, dt187 11 j = dt 11 j := fun j => (hF189 11 (by decide) j).trans (C169 j)
      have C233 : ∀ j : Nat, dt187 19 j = dt 19 j := fun j => (hF189 19 (by decide) j).trans (C170 j)
      have C234 : ∀ j : Nat, dt187 20 j = dt 20 j := fun j => (hF189 20 (by decide) j).trans (C171 j)
      have C235 : ∀ j : Nat, dt187 21 j = dt 21 j := fun j => (hF189 21 (by decide) j).trans (C172 j)
      have C236 : ∀ j : Nat, dt187 22 j = dt 22 j := fun j => (hF189 22 (by decide) j).trans (C173 j)
      have C237 : ∀ j : Nat, dt187 23 j = dt 23 j := fun j => (hF189 23 (by decide) j).trans (C174 j)
      have C238 : ∀ j : Nat, dt187 25 j = dt 25 j := fun j => (hF189 25 (by decide) j).trans (C175 j)
      have C239 : ∀ j : Nat, dt187 26 j = dt 26 j := fun j => (hF189 26 (by decide) j).trans (C176 j)
      have C240 : ∀ j : Nat, dt187 28 j = dt 28 j := fun j => (hF189 28 (by decide) j).trans (C177 j)
      have C241 : ∀ j : Nat, dt187 13 j = dt 13 j := fun j => (hF189 13 (by decide) j).trans (C178 j)
      have C242 : ∀ j : Nat, dt187 30 j = dt 30 j := fun j => (hF189 30 (by decide) j).trans (C179 j)
      have C243 : ∀ j : Nat, dt187 36 j = dt 36 j := fun j => (hF189 36 (by decide) j).trans (C180 j)
      have C244 : ∀ j : Nat, dt187 80 j = dt 80 j := fun j => (h186_8 j).trans (C181 j)
      have C245 : ∀ j : Nat, dt187 81 j = dt 81 j := fun j => (hF189 81 (by decide) j).trans (C182 j)
      have C246 : ∀ j : Nat, dt187 85 j = dt 85 j := fun j => (hF189 85 (by decide) j).trans (C183 j)
      refine go_toq PM267 (k := 2) (pc' := 1435) (L' := [some (.inr (.inr (some 3000))), some (.inr (.inr (some 0))), some (.inr (.inr (some 79))), some (.inl i)]) (st' := []) (w' := (SH, dt187)) rfl ?_
      exact K dt187 hI188 hM217 M2224 (w191.trans (hk0.trans w218.symm)) (w192.trans (hk1.trans w219.symm)) (w193.trans (hk2.trans w220.symm)) (w194.trans (hk3.trans w221.symm)) (w195.trans (hk4.trans w222.symm)) (by (first | omega | (have z0_ := unhid h186_0; omega))) (w197.trans (hk6.trans w207.symm)) (w198.trans (hk7.trans w208.symm)) (w199.trans (hk8.trans w209.symm)) (w200.trans (hk9.trans w210.symm)) (w201.trans (hk10.trans w211.symm)) (w202.trans (hk11.trans w212.symm)) (w203.trans (hk12.trans w213.symm)) (w204.trans (hk13.trans w214.symm)) (w205.trans (hk14.trans w215.symm)) (w206.trans (hk15.trans w216.symm)) (by first | exact hI | exact TPL_k hd0 C243 C246 (by (first | omega | (have z0_ := unhid h186_0; omega))) | (exfalso; (first | omega | (have z0_ := unhid h186_0; omega)))) (by first | exact hI | exact SCL_k hd1 hM (fun j _ => C225 j) (fun j _ => C226 j) (fun j _ _ => C244 j) | (exfalso; (first | omega | (have z0_ := unhid h186_0; omega)))) (by first | exact hI | exact SCL_k hd2 hM2 (fun j _ => C233 j) (fun j _ => C234 j) (fun j _ _ => C245 j) | (exfalso; (first | omega | (have z0_ := unhid h186_0; omega)))) (by first | exact hI | exact QRL_k hd3 hM (fun j _ => C230 j) (C244 1) (fun j _ _ => C244 j) | (exfalso; (first | omega | (have z0_ := unhid h186_0; omega)))) (by first | exact hI | exact QRL_k hd4 hM2 (fun j _ => C238 j) (C245 1) (fun j _ _ => C245 j) | (exfalso; (first | omega | (have z0_ := unhid h186_0; omega)))) (by first | exact hI | exact SDL_k hd5 hM (fun j _ => C231 j) (C244 1) (fun j _ _ => C244 j) (fun j _ _ => C244 j) | (exfalso; (first | omega | (have z0_ := unhid h186_0; omega)))) (by first | exact hI | exact SDL_k hd6 hM2 (fun j _ => C239 j) (C245 1) (fun j _ _ => C245 j) (fun j _ _ => C245 j) | (exfalso; (first | omega | (have z0_ := unhid h186_0; omega)))) (by first | exact hI | exact LWL_k hd7 hM (fun j _ => C227 j) (fun j _ => C228 j) (fun j _ => C229 j) (fun j _ _ => C244 j) | (exfalso; (first | omega | (have z0_ := unhid h186_0; omega)))) (by first | exact hI | exact LWL_k hd8 hM2 (fun j _ => C235 j) (fun j _ => C236 j) (fun j _ => C237 j) (fun j _ _ => C245 j) | (exfalso; (first | omega | (have z0_ := unhid h186_0; omega)))) (by first | exact hI | exact CHL_k hd9 hM (fun j _ => C232 j) (by (first | omega | (have z0_ := unhid h186_0; omega))) (fun j _ _ => C244 j) | (exfalso; (first | omega | (have z0_ := unhid h186_0; omega)))) (by first | exact hI | exact CHL_k hd10 hM2 (fun j _ => C240 j) (by (first | omega | (have z0_ := unhid h186_0; omega))) (fun j _ _ => C245 j) | (exfalso; (first | omega | (have z0_ := unhid h186_0; omega)))) (by first | exact hI | exact ANL_k hd11 hM (fun j _ => C241 j) (by (first | omega | (have z0_ := unhid h186_0; omega))) (by (first | omega | (have z0_ := unhid h186_0; omega))) (by (first | omega | (have z0_ := unhid h186_0; omega))) (fun j _ _ => C244 j) | (exfalso; (first | omega | (have z0_ := unhid h186_0; omega)))) (by first | exact hI | exact ANL_k hd12 hM2 (fun j _ => C242 j) (by (first | omega | (have z0_ := unhid h186_0; omega))) (by (first | omega | (have z0_ := unhid h186_0; omega))) (by (first | omega | (have z0_ := unhid h186_0; omega))) (fun j _ _ => C245 j) | (exfalso; (first | omega | (have z0_ := unhid h186_0; omega))))
    · skip
      have hM247 : MW (dt187 80) := h186.2.2.1
      obtain ⟨h186_0, h186_1, h186_2, h186_3, h186_4, h186_5, h186_6, h186_7, h186_8, h186_9, h186_10, h186_11⟩ := h186
      have w248 : dt187 80 0 = dt 80 0 := h186_4.trans w24
      have w249 : dt187 80 1 = dt 80 1 := h186_5.trans w25
      have w250 : dt187 80 2 = dt 80 2 := h186_6.trans w26
      have w251 : dt187 80 3 = dt 80 3 := h186_7.trans w27
      have w252 : dt187 80 4 = dt 80 4 := h186_8.trans w28
      have M2253 : MW (dt187 81) := MW_frk M2161 hF189 (by decide)
      have C254 : ∀ j : Nat, dt187 2 j = dt 2 j := fun j => (hF189 2 (by decide) j).trans (C162 j)
      have C255 : ∀ j : Nat, dt187 3 j = dt 3 j := fun j => (hF189 3 (by decide) j).trans (C163 j)
      have C256 : ∀ j : Nat, dt187 4 j = dt 4 j := fun j => (hF189 4 (by decide) j).trans (C164 j)
      have C257 : ∀ j : Nat, dt187 5 j = dt 5 j := fun j => (hF189 5 (by decide) j).trans (C165 j)
      have C258 : ∀ j : Nat, dt187 6 j = dt 6 j := fun j => (hF189 6 (by decide) j).trans (C166 j)
      have C259 : ∀ j : Nat, dt187 8 j = dt 8 j := fun j => (hF189 8 (by decide) j).trans (C167 j)
      have C260 : ∀ j : Nat, dt187 9 j = dt 9 j := fun j => (hF189 9 (by decide) j).trans (C168 j)
      have C261 : ∀ j : Nat, dt187 11 j = dt 11 j := fun j => (hF189 11 (by decide) j).trans (C169 j)
      have C262 : ∀ j : Nat, dt187 19 j = dt 19 j := fun j => (hF189 19 (by decide) j).trans (C170 j)
      have C263 : ∀ j : Nat, dt187 20 j = dt 20 j := fun j => (hF189 20 (by decide) j).trans (C171 j)
      have C264 : ∀ j : Nat, dt187 21 j = dt 21 j := fun j => (hF189 21 (by decide) j).trans (C172 j)
      have C265 : ∀ j : Nat, dt187 22 j = dt 22 j := fun j => (hF189 22 (by decide) j).trans (C173 j)
      have C266 : ∀ j : Nat, dt187 23 j = dt 23 j := fun j => (hF189 23 (by decide) j).trans (C174 j)
      have C267 : ∀ j : Nat, dt187 25 j = dt 25 j := fun j => (hF189 25 (by decide) j).trans (C175 j)
      have C268 : ∀ j : Nat, dt187 26 j = dt 26 j := fun j => (hF189 26 (by decide) j).trans (C176 j)
      have C269 : ∀ j : Nat, dt187 28 j = dt 28 j := fun j => (hF189 28 (by decide) j).trans (C177 j)
      have C270 : ∀ j : Nat, dt187 13 j = dt 13 j := fun j => (hF189 13 (by decide) j).trans (C178 j)
      have C271 : ∀ j : Nat, dt187 30 j = dt 30 j := fun j => (hF189 30 (by decide) j).trans (C179 j)
      have C272 : ∀ j : Nat, dt187 36 j = dt 36 j := fun j => (hF189 36 (by decide) j).trans (C180 j)
      have C273 : ∀ j : Nat, dt187 81 j = dt 81 j := fun j => (hF189 81 (by decide) j).trans (C182 j)
      have C274 : ∀ j : Nat, dt187 85 j = dt 85 j := fun j => (hF189 85 (by decide) j).trans (C183 j)
      have F275 : ∀ j : Nat, 6 ≤ j → j < 974 → dt187 80 j = dt 80 j := fun j h1_ h2_ => (h186_9 j (by omega) (by omega)).trans (C181 j)
      have F276 : ∀ j : Nat, 974 ≤ j → j < 5320 → dt187 80 j = dt 80 j := fun j h1_ h2_ => (h186_9 j (by omega) (by omega)).trans (C181 j)
      have F277 : ∀ j : Nat, 5320 ≤ j → j < 5380 → dt187 80 j = dt 80 j := fun j h1_ h2_ => (h186_9 j (by omega) (by omega)).trans (C181 j)
      have F278 : dt187 80 1 = dt 80 1 := (h186_9 1 (by omega) (by omega)).trans (C181 1)
      have F279 : ∀ j : Nat, 5380 ≤ j → j < 5540 → dt187 80 j = dt 80 j := fun j h1_ h2_ => (h186_9 j (by omega) (by omega)).trans (C181 j)
      have F280 : ∀ j : Nat, 5540 ≤ j → j < 7340 → dt187 80 j = dt 80 j := fun j h1_ h2_ => (h186_9 j (by omega) (by omega)).trans (C181 j)
      refine go_toq PM267 (k := 2) (pc' := 1435) (L' := [some (.inr (.inr (some 3000))), some (.inr (.inr (some 0))), some (.inr (.inr (some 79))), some (.inl i)]) (st' := []) (w' := (SH, dt187)) rfl ?_
      exact K dt187 hI188 hM247 M2253 (w191.trans (hk0.trans w248.symm)) (w192.trans (hk1.trans w249.symm)) (w193.trans (hk2.trans w250.symm)) (w194.trans (hk3.trans w251.symm)) (w195.trans (hk4.trans w252.symm)) (by omega) (w197.trans (hk6.trans w207.symm)) (w198.trans (hk7.trans w208.symm)) (w199.trans (hk8.trans w209.symm)) (w200.trans (hk9.trans w210.symm)) (w201.trans (hk10.trans w211.symm)) (w202.trans (hk11.trans w212.symm)) (w203.trans (hk12.trans w213.symm)) (w204.trans (hk13.trans w214.symm)) (w205.trans (hk14.trans w215.symm)) (w206.trans (hk15.trans w216.symm)) (by first | exact hI | exact TPL_k hd0 C272 C274 (by omega) | (exfalso; omega)) (by first | exact hI | exact SCL_k hd1 hM (fun j _ => C254 j) (fun j _ => C255 j) F275 | (exfalso; omega)) (by first | exact hI | exact SCL_k hd2 hM2 (fun j _ => C262 j) (fun j _ => C263 j) (fun j _ _ => C273 j) | (exfalso; omega)) (by first | exact hI | exact QRL_k hd3 hM (fun j _ => C259 j) F278 F277 | (exfalso; omega)) (by first | exact hI | exact QRL_k hd4 hM2 (fun j _ => C267 j) (C273 1) (fun j _ _ => C273 j) | (exfalso; omega)) (by first | exact hI | exact SDL_k hd5 hM (fun j _ => C260 j) F278 F275 F277 | (exfalso; omega)) (by first | exact hI | exact SDL_k hd6 hM2 (fun j _ => C268 j) (C273 1) (fun j _ _ => C273 j) (fun j _ _ => C273 j) | (exfalso; omega)) (by first | exact hI | exact LWL_k hd7 hM (fun j _ => C256 j) (fun j _ => C257 j) (fun j _ => C258 j) F276 | (exfalso; omega)) (by first | exact hI | exact LWL_k hd8 hM2 (fun j _ => C264 j) (fun j _ => C265 j) (fun j _ => C266 j) (fun j _ _ => C273 j) | (exfalso; omega)) (by first | exact hI | exact CHL_k hd9 hM (fun j _ => C261 j) (by omega) F279 | (exfalso; omega)) (by first | exact hI | exact CHL_k hd10 hM2 (fun j _ => C269 j) (by omega) (fun j _ _ => C273 j) | (exfalso; omega)) (by first | exact hI | exact ANL_k hd11 hM (fun j _ => C270 j) (by omega) (by omega) (by omega) F280 | (exfalso; omega)) (by first | exact hI | exact ANL_k hd12 hM2 (fun j _ => C271 j) (by omega) (by omega) (by omega) (fun j _ _ => C273 j) | (exfalso; omega))
set_option maxRecDepth 20000 in
set_option maxHeartbeats 8000000 in
theorem sp_case26 (L : Nat) (xs : Nat → Int32) (sio : Option Nat) (d : Nat) (Q : Option AV → am_W → Prop) (hLL : L ≤ 3072) (i : Int) (hi : 0 ≤ i ∧ i ≤ 3066) (hil : i ≤ (L : Int) - 6) (dt : Nat → Nat → Int) (hI : InvC dt) (hM : MW (dt 80)) (hM2 : MW (dt 81)) (hk0 : dt 1 0 = dt 80 0) (hk1 : dt 7 3 = dt 80 1) (hk2 : dt 10 3 = dt 80 2) (hk3 : dt 12 3 = dt 80 3) (hk4 : dt 14 3 = dt 80 4) (hk5 : dt 16 3 = dt 80 5) (hk6 : dt 18 0 = dt 81 0) (hk7 : dt 24 3 = dt 81 1) (hk8 : dt 27 3 = dt 81 2) (hk9 : dt 29 3 = dt 81 3) (hk10 : dt 31 3 = dt 81 4) (hk11 : dt 33 3 = dt 81 5) (hk12 : dt 0 2 = dt 79 2) (hk13 : dt 35 1 = dt 79 12) (hk14 : dt 35 2 = dt 79 19) (hk15 : dt 35 3 = dt 79 21) (hd0 : TPL (dt 36) (dt 85) (dt 35 1)) (hd1 : SCL (dt 2) (dt 3) (dt 80)) (hd2 : SCL (dt 19) (dt 20) (dt 81)) (hd3 : QRL (dt 8) (dt 80)) (hd4 : QRL (dt 25) (dt 81)) (hd5 : SDL (dt 9) (dt 80)) (hd6 : SDL (dt 26) (dt 81)) (hd7 : LWL (dt 4) (dt 5) (dt 6) (dt 80)) (hd8 : LWL (dt 21) (dt 22) (dt 23) (dt 81)) (hd9 : CHL (dt 11) (dt 80)) (hd10 : CHL (dt 28) (dt 81)) (hd11 : ANL (dt 13) (dt 80)) (hd12 : ANL (dt 30) (dt 81)) (K : ∀ (dt : Nat → Nat → Int) (hI : InvC dt) (hM : MW (dt 80)) (hM2 : MW (dt 81)) (hk0 : dt 1 0 = dt 80 0) (hk1 : dt 7 3 = dt 80 1) (hk2 : dt 10 3 = dt 80 2) (hk3 : dt 12 3 = dt 80 3) (hk4 : dt 14 3 = dt 80 4) (hk5 : dt 16 3 = dt 80 5) (hk6 : dt 18 0 = dt 81 0) (hk7 : dt 24 3 = dt 81 1) (hk8 : dt 27 3 = dt 81 2) (hk9 : dt 29 3 = dt 81 3) (hk10 : dt 31 3 = dt 81 4) (hk11 : dt 33 3 = dt 81 5) (hk12 : dt 0 2 = dt 79 2) (hk13 : dt 35 1 = dt 79 12) (hk14 : dt 35 2 = dt 79 19) (hk15 : dt 35 3 = dt 79 21) (hd0 : TPL (dt 36) (dt 85) (dt 35 1)) (hd1 : SCL (dt 2) (dt 3) (dt 80)) (hd2 : SCL (dt 19) (dt 20) (dt 81)) (hd3 : QRL (dt 8) (dt 80)) (hd4 : QRL (dt 25) (dt 81)) (hd5 : SDL (dt 9) (dt 80)) (hd6 : SDL (dt 26) (dt 81)) (hd7 : LWL (dt 4) (dt 5) (dt 6) (dt 80)) (hd8 : LWL (dt 21) (dt 22) (dt 23) (dt 81)) (hd9 : CHL (dt 11) (dt 80)) (hd10 : CHL (dt 28) (dt 81)) (hd11 : ANL (dt 13) (dt 80)) (hd12 : ANL (dt 30) (dt 81)), GO (am_XX L xs sio) (d + 39) 267 1435 [some (.inr (.inr (some 3000))), some (.inr (.inr (some 0))), some (.inr (.inr (some 79))), some (.inl i)] [] (SH, dt) Q) : GO (am_XX L xs sio) (d + 39) 267 1198 [some (.inr (.inr (some 3000))), some (.inr (.inr (some 0))), some (.inr (.inr (some 79))), some (.inl i)] [] (SH, dt) Q := by
  have hF : Fr [0, 1, 2, 3, 4, 5, 6, 7, 8, 9, 10, 11, 12, 13, 14, 15, 16, 17, 18, 19, 20, 21, 22, 23, 24, 25, 26, 27, 28, 29, 30, 31, 32, 33, 34, 35, 36, 37, 38, 39, 40, 41, 42, 43, 44, 45, 46, 47, 48, 49, 50, 51, 52, 53, 54, 55, 56, 57, 58, 59, 60, 61, 62, 63, 64, 65, 66, 67, 68, 69, 70, 71, 72, 73, 74, 75, 76, 77, 78, 79, 80, 81, 82, 83, 84, 85, 86, 87, 88, 89, 90, 91, 92, 93, 94, 95, 96, 97, 98, 99, 100, 101, 102, 103, 104] dt dt := Fr_refl
  have hqo := QOC_R hd3 hM hk1
  have hb1_ := hM.1.1
  have hb2_ := hM.1.2.1
  have hb3_ := hM.1.2.2.1
  have halk : ALK dt (dt 80) := ⟨hd7, hd3, hd5, hd9, hk1, hk2⟩
  have hav_ : ∀ i : Nat, (i : Int) < dt 12 3 → 0 ≤ dt 13 (6 * i + 1) ∧ dt 13 (6 * i + 1) < dt 7 3 := fun i hi => by have z := hd11 i (by omega); have y := z.2.2 1 (by decide); have w := z.2.1; omega
  refine go_toq PM267 (k := 5) (pc' := 1203) (L' := [some (.inr (.inr (some 3000))), some (.inr (.inr (some 0))), some (.inr (.inr (some 79))), some (.inl i)]) (st' := [.inl (i + 1), .inr (.inr (some 3000)), .inr (.inr (some 0))]) (w' := (SH, dt)) rfl ?_
  have r1 := i32_R (xs ((i + 1).toNat))
  refine go_smpq PM267 (L' := [some (.inr (.inr (some 3000))), some (.inr (.inr (some 0))), some (.inr (.inr (some 79))), some (.inl i)]) (st' := [.inl ((xs ((i + 1).toNat)).toInt), .inr (.inr (some 0))]) (w' := (SH, dt)) rfl rfl (s_iald (n := L) (f := fun j => (xs j).toInt) (am_scr hLL) ⟨by omega, by omega⟩) ?_
  refine go_callq PM267 PM93 (Q' := _) rfl rfl rfl rfl (sp_X5_houses L xs sio (d + 34) dt hI  ((xs ((i + 1).toNat)).toInt) ⟨by omega, by omega⟩ ) ?_
  rintro _ _ ⟨rfl, h2⟩
  refine ⟨rfl, ?_⟩
  rcases h2 with ⟨v_h2, rfl, h2r, h2⟩
  refine go_toq PM267 (k := 6) (pc' := 1213) (L' := [some (.inr (.inr (some 3000))), some (.inr (.inr (some 0))), some (.inr (.inr (some 79))), some (.inl i)]) (st' := [.inl (i + 1), .inr (.inr (some 3000)), .inr (.inr (some 79))]) (w' := (SH, dt)) rfl ?_
  refine go_smpq PM267 (L' := [some (.inr (.inr (some 3000))), some (.inr (.inr (some 0))), some (.inr (.inr (some 79))), some (.inl i)]) (st' := [.inl ((xs ((i + 1).toNat)).toInt), .inr (.inr (some 79))]) (w' := (SH, dt)) rfl rfl (s_iald (n := L) (f := fun j => (xs j).toInt) (am_scr hLL) ⟨by omega, by omega⟩) ?_
  refine go_callq PM267 PM239 (Q' := _) rfl rfl rfl rfl (sp_X6_houses L xs sio (d + 37) dt hI hM  ((xs ((i + 1).toNat)).toInt) ⟨by omega, by omega⟩ ) ?_
  rintro _ _ ⟨rfl, h3⟩
  refine ⟨rfl, ?_⟩
  rcases h3 with ⟨v_h3, rfl, h3r, h3⟩
  refine go_toq PM267 (k := 2) (pc' := 1435) (L' := [some (.inr (.inr (some 3000))), some (.inr (.inr (some 0))), some (.inr (.inr (some 79))), some (.inl i)]) (st' := []) (w' := (SH, dt)) rfl ?_
  exact K dt hI hM hM2 hk0 hk1 hk2 hk3 hk4 hk5 hk6 hk7 hk8 hk9 hk10 hk11 hk12 hk13 hk14 hk15 (by first | exact hI | exact TPL_k hd0 (fun _ => rfl) (fun _ => rfl) (by omega) | (exfalso; omega)) (by first | exact hI | exact SCL_k hd1 hM (fun j _ => (fun _ => rfl) j) (fun j _ => (fun _ => rfl) j) (fun j _ _ => (fun _ => rfl) j) | (exfalso; omega)) (by first | exact hI | exact SCL_k hd2 hM2 (fun j _ => (fun _ => rfl) j) (fun j _ => (fun _ => rfl) j) (fun j _ _ => (fun _ => rfl) j) | (exfalso; omega)) (by first | exact hI | exact QRL_k hd3 hM (fun j _ => (fun _ => rfl) j) ((fun _ => rfl) 1) (fun j _ _ => (fun _ => rfl) j) | (exfalso; omega)) (by first | exact hI | exact QRL_k hd4 hM2 (fun j _ => (fun _ => rfl) j) ((fun _ => rfl) 1) (fun j _ _ => (fun _ => rfl) j) | (exfalso; omega)) (by first | exact hI | exact SDL_k hd5 hM (fun j _ => (fun _ => rfl) j) ((fun _ => rfl) 1) (fun j _ _ => (fun _ => rfl) j) (fun j _ _ => (fun _ => rfl) j) | (exfalso; omega)) (by first | exact hI | exact SDL_k hd6 hM2 (fun j _ => (fun _ => rfl) j) ((fun _ => rfl) 1) (fun j _ _ => (fun _ => rfl) j) (fun j _ _ => (fun _ => rfl) j) | (exfalso; omega)) (by first | exact hI | exact LWL_k hd7 hM (fun j _ => (fun _ => rfl) j) (fun j _ => (fun _ => rfl) j) (fun j _ => (fun _ => rfl) j) (fun j _ _ => (fun _ => rfl) j) | (exfalso; omega)) (by first | exact hI | exact LWL_k hd8 hM2 (fun j _ => (fun _ => rfl) j) (fun j _ => (fun _ => rfl) j) (fun j _ => (fun _ => rfl) j) (fun j _ _ => (fun _ => rfl) j) | (exfalso; omega)) (by first | exact hI | exact CHL_k hd9 hM (fun j _ => (fun _ => rfl) j) (by omega) (fun j _ _ => (fun _ => rfl) j) | (exfalso; omega)) (by first | exact hI | exact CHL_k hd10 hM2 (fun j _ => (fun _ => rfl) j) (by omega) (fun j _ _ => (fun _ => rfl) j) | (exfalso; omega)) (by first | exact hI | exact ANL_k hd11 hM (fun j _ => (fun _ => rfl) j) (by omega) (by omega) (by omega) (fun j _ _ => (fun _ => rfl) j) | (exfalso; omega)) (by first | exact hI | exact ANL_k hd12 hM2 (fun j _ => (fun _ => rfl) j) (by omega) (by omega) (by omega) (fun j _ _ => (fun _ => rfl) j) | (exfalso; omega))
set_option maxRecDepth 20000 in
set_option maxHeartbeats 8000000 in
theorem sp_case27 (L : Nat) (xs : Nat → Int32) (sio : Option Nat) (d : Nat) (Q : Option AV → am_W → Prop) (hLL : L ≤ 3072) (i : Int) (hi : 0 ≤ i ∧ i ≤ 3066) (hil : i ≤ (L : Int) - 6) (dt : Nat → Nat → Int) (hI : InvC dt) (hM : MW (dt 80)) (hM2 : MW (dt 81)) (hk0 : dt 1 0 = dt 80 0) (hk1 : dt 7 3 = dt 80 1) (hk2 : dt 10 3 = dt 80 2) (hk3 : dt 12 3 = dt 80 3) (hk4 : dt 14 3 = dt 80 4) (hk5 : dt 16 3 = dt 80 5) (hk6 : dt 18 0 = dt 81 0) (hk7 : dt 24 3 = dt 81 1) (hk8 : dt 27 3 = dt 81 2) (hk9 : dt 29 3 = dt 81 3) (hk10 : dt 31 3 = dt 81 4) (hk11 : dt 33 3 = dt 81 5) (hk12 : dt 0 2 = dt 79 2) (hk13 : dt 35 1 = dt 79 12) (hk14 : dt 35 2 = dt 79 19) (hk15 : dt 35 3 = dt 79 21) (hd0 : TPL (dt 36) (dt 85) (dt 35 1)) (hd1 : SCL (dt 2) (dt 3) (dt 80)) (hd2 : SCL (dt 19) (dt 20) (dt 81)) (hd3 : QRL (dt 8) (dt 80)) (hd4 : QRL (dt 25) (dt 81)) (hd5 : SDL (dt 9) (dt 80)) (hd6 : SDL (dt 26) (dt 81)) (hd7 : LWL (dt 4) (dt 5) (dt 6) (dt 80)) (hd8 : LWL (dt 21) (dt 22) (dt 23) (dt 81)) (hd9 : CHL (dt 11) (dt 80)) (hd10 : CHL (dt 28) (dt 81)) (hd11 : ANL (dt 13) (dt 80)) (hd12 : ANL (dt 30) (dt 81)) (K : ∀ (dt : Nat → Nat → Int) (hI : InvC dt) (hM : MW (dt 80)) (hM2 : MW (dt 81)) (hk0 : dt 1 0 = dt 80 0) (hk1 : dt 7 3 = dt 80 1) (hk2 : dt 10 3 = dt 80 2) (hk3 : dt 12 3 = dt 80 3) (hk4 : dt 14 3 = dt 80 4) (hk5 : dt 16 3 = dt 80 5) (hk6 : dt 18 0 = dt 81 0) (hk7 : dt 24 3 = dt 81 1) (hk8 : dt 27 3 = dt 81 2) (hk9 : dt 29 3 = dt 81 3) (hk10 : dt 31 3 = dt 81 4) (hk11 : dt 33 3 = dt 81 5) (hk12 : dt 0 2 = dt 79 2) (hk13 : dt 35 1 = dt 79 12) (hk14 : dt 35 2 = dt 79 19) (hk15 : dt 35 3 = dt 79 21) (hd0 : TPL (dt 36) (dt 85) (dt 35 1)) (hd1 : SCL (dt 2) (dt 3) (dt 80)) (hd2 : SCL (dt 19) (dt 20) (dt 81)) (hd3 : QRL (dt 8) (dt 80)) (hd4 : QRL (dt 25) (dt 81)) (hd5 : SDL (dt 9) (dt 80)) (hd6 : SDL (dt 26) (dt 81)) (hd7 : LWL (dt 4) (dt 5) (dt 6) (dt 80)) (hd8 : LWL (dt 21) (dt 22) (dt 23) (dt 81)) (hd9 : CHL (dt 11) (dt 80)) (hd10 : CHL (dt 28) (dt 81)) (hd11 : ANL (dt 13) (dt 80)) (hd12 : ANL (dt 30) (dt 81)), GO (am_XX L xs sio) (d + 39) 267 1435 [some (.inr (.inr (some 3000))), some (.inr (.inr (some 0))), some (.inr (.inr (some 79))), some (.inl i)] [] (SH, dt) Q) : GO (am_XX L xs sio) (d + 39) 267 1221 [some (.inr (.inr (some 3000))), some (.inr (.inr (some 0))), some (.inr (.inr (some 79))), some (.inl i)] [] (SH, dt) Q := by
  have hF : Fr [0, 1, 2, 3, 4, 5, 6, 7, 8, 9, 10, 11, 12, 13, 14, 15, 16, 17, 18, 19, 20, 21, 22, 23, 24, 25, 26, 27, 28, 29, 30, 31, 32, 33, 34, 35, 36, 37, 38, 39, 40, 41, 42, 43, 44, 45, 46, 47, 48, 49, 50, 51, 52, 53, 54, 55, 56, 57, 58, 59, 60, 61, 62, 63, 64, 65, 66, 67, 68, 69, 70, 71, 72, 73, 74, 75, 76, 77, 78, 79, 80, 81, 82, 83, 84, 85, 86, 87, 88, 89, 90, 91, 92, 93, 94, 95, 96, 97, 98, 99, 100, 101, 102, 103, 104] dt dt := Fr_refl
  have hqo := QOC_R hd3 hM hk1
  have hb1_ := hM.1.1
  have hb2_ := hM.1.2.1
  have hb3_ := hM.1.2.2.1
  have halk : ALK dt (dt 80) := ⟨hd7, hd3, hd5, hd9, hk1, hk2⟩
  have hav_ : ∀ i : Nat, (i : Int) < dt 12 3 → 0 ≤ dt 13 (6 * i + 1) ∧ dt 13 (6 * i + 1) < dt 7 3 := fun i hi => by have z := hd11 i (by omega); have y := z.2.2 1 (by decide); have w := z.2.1; omega
  refine go_toq PM267 (k := 5) (pc' := 1226) (L' := [some (.inr (.inr (some 3000))), some (.inr (.inr (some 0))), some (.inr (.inr (some 79))), some (.inl i)]) (st' := [.inl (i + 1), .inr (.inr (some 3000)), .inr (.inr (some 0))]) (w' := (SH, dt)) rfl ?_
  have r1 := i32_R (xs ((i + 1).toNat))
  refine go_smpq PM267 (L' := [some (.inr (.inr (some 3000))), some (.inr (.inr (some 0))), some (.inr (.inr (some 79))), some (.inl i)]) (st' := [.inl ((xs ((i + 1).toNat)).toInt), .inr (.inr (some 0))]) (w' := (SH, dt)) rfl rfl (s_iald (n := L) (f := fun j => (xs j).toInt) (am_scr hLL) ⟨by omega, by omega⟩) ?_
  refine go_toq PM267 (k := 4) (pc' := 1231) (L' := [some (.inr (.inr (some 3000))), some (.inr (.inr (some 0))), some (.inr (.inr (some 79))), some (.inl i)]) (st' := [.inl (i + 2), .inr (.inr (some 3000)), .inl ((xs ((i + 1).toNat)).toInt), .inr (.inr (some 0))]) (w' := (SH, dt)) rfl ?_
  have r2 := i32_R (xs ((i + 2).toNat))
  refine go_smpq PM267 (L' := [some (.inr (.inr (some 3000))), some (.inr (.inr (some 0))), some (.inr (.inr (some 79))), some (.inl i)]) (st' := [.inl ((xs ((i + 2).toNat)).toInt), .inl ((xs ((i + 1).toNat)).toInt), .inr (.inr (some 0))]) (w' := (SH, dt)) rfl rfl (s_iald (n := L) (f := fun j => (xs j).toInt) (am_scr hLL) ⟨by omega, by omega⟩) ?_
  refine go_callq PM267 PM94 (Q' := _) rfl rfl rfl rfl (sp_X5_sorts L xs sio (d + 33) dt hI  ((xs ((i + 1).toNat)).toInt) ⟨by omega, by omega⟩ ((xs ((i + 2).toNat)).toInt) ⟨by omega, by omega⟩ ) ?_
  rintro _ _ ⟨dt4, rfl, hI5, hF6, h3⟩
  refine ⟨rfl, ?_⟩
  have hF7 : Fr [0, 1, 2, 3, 4, 5, 6, 7, 8, 9, 10, 11, 12, 13, 14, 15, 16, 17, 18, 19, 20, 21, 22, 23, 24, 25, 26, 27, 28, 29, 30, 31, 32, 33, 34, 35, 36, 37, 38, 39, 40, 41, 42, 43, 44, 45, 46, 47, 48, 49, 50, 51, 52, 53, 54, 55, 56, 57, 58, 59, 60, 61, 62, 63, 64, 65, 66, 67, 68, 69, 70, 71, 72, 73, 74, 75, 76, 77, 78, 79, 80, 81, 82, 83, 84, 85, 86, 87, 88, 89, 90, 91, 92, 93, 94, 95, 96, 97, 98, 99, 100, 101, 102, 103, 104] dt dt4 := Fr_tr hF hF6 (by decide)
  have hM8 : MW (dt4 80) := MW_fr hM hF6 (by decide)
  have w9 : dt4 1 0 = dt 1 0 := hF6 1 (by decide) 0
  have w10 : dt4 7 3 = dt 7 3 := hF6 7 (by decide) 3
  have w11 : dt4 10 3 = dt 10 3 := hF6 10 (by decide) 3
  have w12 : dt4 12 3 = dt 12 3 := hF6 12 (by decide) 3
  have w13 : dt4 14 3 = dt 14 3 := hF6 14 (by decide) 3
  have w14 : dt4 16 3 = dt 16 3 := hF6 16 (by decide) 3
  have w15 : dt4 18 0 = dt 18 0 := hF6 18 (by decide) 0
  have w16 : dt4 24 3 = dt 24 3 := hF6 24 (by decide) 3
  have w17 : dt4 27 3 = dt 27 3 := hF6 27 (by decide) 3
  have w18 : dt4 29 3 = dt 29 3 := hF6 29 (by decide) 3
  have w19 : dt4 31 3 = dt 31 3 := hF6 31 (by decide) 3
  have w20 : dt4 33 3 = dt 33 3 := hF6 33 (by decide) 3
  have w21 : dt4 0 2 = dt 0 2 := hF6 0 (by decide) 2
  have w22 : dt4 35 1 = dt 35 1 := hF6 35 (by decide) 1
  have w23 : dt4 35 2 = dt 35 2 := hF6 35 (by decide) 2
  have w24 : dt4 35 3 = dt 35 3 := hF6 35 (by decide) 3
  have w25 : dt4 80 0 = dt 80 0 := hF6 80 (by decide) 0
  have w26 : dt4 80 1 = dt 80 1 := hF6 80 (by decide) 1
  have w27 : dt4 80 2 = dt 80 2 := hF6 80 (by decide) 2
  have w28 : dt4 80 3 = dt 80 3 := hF6 80 (by decide) 3
  have w29 : dt4 80 4 = dt 80 4 := hF6 80 (by decide) 4
  have w30 : dt4 80 5 = dt 80 5 := hF6 80 (by decide) 5
  have w31 : dt4 81 0 = dt 81 0 := hF6 81 (by decide) 0
  have w32 : dt4 81 1 = dt 81 1 := hF6 81 (by decide) 1
  have w33 : dt4 81 2 = dt 81 2 := hF6 81 (by decide) 2
  have w34 : dt4 81 3 = dt 81 3 := hF6 81 (by decide) 3
  have w35 : dt4 81 4 = dt 81 4 := hF6 81 (by decide) 4
  have w36 : dt4 81 5 = dt 81 5 := hF6 81 (by decide) 5
  have w37 : dt4 79 2 = dt 79 2 := hF6 79 (by decide) 2
  have w38 : dt4 79 12 = dt 79 12 := hF6 79 (by decide) 12
  have w39 : dt4 79 19 = dt 79 19 := hF6 79 (by decide) 19
  have w40 : dt4 79 21 = dt 79 21 := hF6 79 (by decide) 21
  rcases h3 with ⟨v_h3, rfl, h3r, h3⟩
  have M241 : MW (dt4 81) := MW_frk hM2 hF6 (by decide)
  have C42 : ∀ j : Nat, dt4 2 j = dt 2 j := fun j => (hF6 2 (by decide) j).trans ((fun _ => rfl) j)
  have C43 : ∀ j : Nat, dt4 3 j = dt 3 j := fun j => (hF6 3 (by decide) j).trans ((fun _ => rfl) j)
  have C44 : ∀ j : Nat, dt4 4 j = dt 4 j := fun j => (hF6 4 (by decide) j).trans ((fun _ => rfl) j)
  have C45 : ∀ j : Nat, dt4 5 j = dt 5 j := fun j => (hF6 5 (by decide) j).trans ((fun _ => rfl) j)
  have C46 : ∀ j : Nat, dt4 6 j = dt 6 j := fun j => (hF6 6 (by decide) j).trans ((fun _ => rfl) j)
  have C47 : ∀ j : Nat, dt4 8 j = dt 8 j := fun j => (hF6 8 (by decide) j).trans ((fun _ => rfl) j)
  have C48 : ∀ j : Nat, dt4 9 j = dt 9 j := fun j => (hF6 9 (by decide) j).trans ((fun _ => rfl) j)
  have C49 : ∀ j : Nat, dt4 11 j = dt 11 j := fun j => (hF6 11 (by decide) j).trans ((fun _ => rfl) j)
  have C50 : ∀ j : Nat, dt4 19 j = dt 19 j := fun j => (hF6 19 (by decide) j).trans ((fun _ => rfl) j)
  have C51 : ∀ j : Nat, dt4 20 j = dt 20 j := fun j => (hF6 20 (by decide) j).trans ((fun _ => rfl) j)
  have C52 : ∀ j : Nat, dt4 21 j = dt 21 j := fun j => (hF6 21 (by decide) j).trans ((fun _ => rfl) j)
  have C53 : ∀ j : Nat, dt4 22 j = dt 22 j := fun j => (hF6 22 (by decide) j).trans ((fun _ => rfl) j)
  have C54 : ∀ j : Nat, dt4 23 j = dt 23 j := fun j => (hF6 23 (by decide) j).trans ((fun _ => rfl) j)
  have C55 : ∀ j : Nat, dt4 25 j = dt 25 j := fun j => (hF6 25 (by decide) j).trans ((fun _ => rfl) j)
  have C56 : ∀ j : Nat, dt4 26 j = dt 26 j := fun j => (hF6 26 (by decide) j).trans ((fun _ => rfl) j)
  have C57 : ∀ j : Nat, dt4 28 j = dt 28 j := fun j => (hF6 28 (by decide) j).trans ((fun _ => rfl) j)
  have C58 : ∀ j : Nat, dt4 13 j = dt 13 j := fun j => (hF6 13 (by decide) j).trans ((fun _ => rfl) j)
  have C59 : ∀ j : Nat, dt4 30 j = dt 30 j := fun j => (hF6 30 (by decide) j).trans ((fun _ => rfl) j)
  have C60 : ∀ j : Nat, dt4 36 j = dt 36 j := fun j => (hF6 36 (by decide) j).trans ((fun _ => rfl) j)
  have C61 : ∀ j : Nat, dt4 80 j = dt 80 j := fun j => (hF6 80 (by decide) j).trans ((fun _ => rfl) j)
  have C62 : ∀ j : Nat, dt4 81 j = dt 81 j := fun j => (hF6 81 (by decide) j).trans ((fun _ => rfl) j)
  have C63 : ∀ j : Nat, dt4 85 j = dt 85 j := fun j => (hF6 85 (by decide) j).trans ((fun _ => rfl) j)
  refine go_toq PM267 (k := 6) (pc' := 1241) (L' := [some (.inr (.inr (some 3000))), some (.inr (.inr (some 0))), some (.inr (.inr (some 79))), some (.inl i)]) (st' := [.inl (i + 1), .inr (.inr (some 3000)), .inr (.inr (some 79))]) (w' := (SH, dt4)) rfl ?_
  have r64 := i32_R (xs ((i + 1).toNat))
  refine go_smpq PM267 (L' := [some (.inr (.inr (some 3000))), some (.inr (.inr (some 0))), some (.inr (.inr (some 79))), some (.inl i)]) (st' := [.inl ((xs ((i + 1).toNat)).toInt), .inr (.inr (some 79))]) (w' := (SH, dt4)) rfl rfl (s_iald (n := L) (f := fun j => (xs j).toInt) (am_scr hLL) ⟨by omega, by omega⟩) ?_
  refine go_toq PM267 (k := 4) (pc' := 1246) (L' := [some (.inr (.inr (some 3000))), some (.inr (.inr (some 0))), some (.inr (.inr (some 79))), some (.inl i)]) (st' := [.inl (i + 2), .inr (.inr (some 3000)), .inl ((xs ((i + 1).toNat)).toInt), .inr (.inr (some 79))]) (w' := (SH, dt4)) rfl ?_
  have r65 := i32_R (xs ((i + 2).toNat))
  refine go_smpq PM267 (L' := [some (.inr (.inr (some 3000))), some (.inr (.inr (some 0))), some (.inr (.inr (some 79))), some (.inl i)]) (st' := [.inl ((xs ((i + 2).toNat)).toInt), .inl ((xs ((i + 1).toNat)).toInt), .inr (.inr (some 79))]) (w' := (SH, dt4)) rfl rfl (s_iald (n := L) (f := fun j => (xs j).toInt) (am_scr hLL) ⟨by omega, by omega⟩) ?_
  refine go_callq PM267 PM240 (Q' := _) rfl rfl rfl rfl (sp_X6_sorts L xs sio (d + 31) dt4 hI5 hM8  ((xs ((i + 1).toNat)).toInt) ⟨by omega, by omega⟩ ((xs ((i + 2).toNat)).toInt) ⟨by omega, by omega⟩ ) ?_
  rintro _ _ ⟨dt67, rfl, hI68, hF69, h66⟩
  refine ⟨rfl, ?_⟩
  have hF70 : Fr [0, 1, 2, 3, 4, 5, 6, 7, 8, 9, 10, 11, 12, 13, 14, 15, 16, 17, 18, 19, 20, 21, 22, 23, 24, 25, 26, 27, 28, 29, 30, 31, 32, 33, 34, 35, 36, 37, 38, 39, 40, 41, 42, 43, 44, 45, 46, 47, 48, 49, 50, 51, 52, 53, 54, 55, 56, 57, 58, 59, 60, 61, 62, 63, 64, 65, 66, 67, 68, 69, 70, 71, 72, 73, 74, 75, 76, 77, 78, 79, 80, 81, 82, 83, 84, 85, 86, 87, 88, 89, 90, 91, 92, 93, 94, 95, 96, 97, 98, 99, 100, 101, 102, 103, 104] dt dt67 := Fr_tr hF7 hF69 (by decide)
  have hM71 : MW (dt67 80) := MW_fr hM8 hF69 (by decide)
  have w72 : dt67 1 0 = dt 1 0 := (hF69 1 (by decide) 0).trans w9
  have w73 : dt67 7 3 = dt 7 3 := (hF69 7 (by decide) 3).trans w10
  have w74 : dt67 10 3 = dt 10 3 := (hF69 10 (by decide) 3).trans w11
  have w75 : dt67 12 3 = dt 12 3 := (hF69 12 (by decide) 3).trans w12
  have w76 : dt67 14 3 = dt 14 3 := (hF69 14 (by decide) 3).trans w13
  have w77 : dt67 16 3 = dt 16 3 := (hF69 16 (by decide) 3).trans w14
  have w78 : dt67 18 0 = dt 18 0 := (hF69 18 (by decide) 0).trans w15
  have w79 : dt67 24 3 = dt 24 3 := (hF69 24 (by decide) 3).trans w16
  have w80 : dt67 27 3 = dt 27 3 := (hF69 27 (by decide) 3).trans w17
  have w81 : dt67 29 3 = dt 29 3 := (hF69 29 (by decide) 3).trans w18
  have w82 : dt67 31 3 = dt 31 3 := (hF69 31 (by decide) 3).trans w19
  have w83 : dt67 33 3 = dt 33 3 := (hF69 33 (by decide) 3).trans w20
  have w84 : dt67 0 2 = dt 0 2 := (hF69 0 (by decide) 2).trans w21
  have w85 : dt67 35 1 = dt 35 1 := (hF69 35 (by decide) 1).trans w22
  have w86 : dt67 35 2 = dt 35 2 := (hF69 35 (by decide) 2).trans w23
  have w87 : dt67 35 3 = dt 35 3 := (hF69 35 (by decide) 3).trans w24
  have w88 : dt67 80 0 = dt 80 0 := (hF69 80 (by decide) 0).trans w25
  have w89 : dt67 80 1 = dt 80 1 := (hF69 80 (by decide) 1).trans w26
  have w90 : dt67 80 2 = dt 80 2 := (hF69 80 (by decide) 2).trans w27
  have w91 : dt67 80 3 = dt 80 3 := (hF69 80 (by decide) 3).trans w28
  have w92 : dt67 80 4 = dt 80 4 := (hF69 80 (by decide) 4).trans w29
  have w93 : dt67 80 5 = dt 80 5 := (hF69 80 (by decide) 5).trans w30
  have w94 : dt67 81 0 = dt 81 0 := (hF69 81 (by decide) 0).trans w31
  have w95 : dt67 81 1 = dt 81 1 := (hF69 81 (by decide) 1).trans w32
  have w96 : dt67 81 2 = dt 81 2 := (hF69 81 (by decide) 2).trans w33
  have w97 : dt67 81 3 = dt 81 3 := (hF69 81 (by decide) 3).trans w34
  have w98 : dt67 81 4 = dt 81 4 := (hF69 81 (by decide) 4).trans w35
  have w99 : dt67 81 5 = dt 81 5 := (hF69 81 (by decide) 5).trans w36
  have w100 : dt67 79 2 = dt 79 2 := (hF69 79 (by decide) 2).trans w37
  have w101 : dt67 79 12 = dt 79 12 := (hF69 79 (by decide) 12).trans w38
  have w102 : dt67 79 19 = dt 79 19 := (hF69 79 (by decide) 19).trans w39
  have w103 : dt67 79 21 = dt 79 21 := (hF69 79 (by decide) 21).trans w40
  rcases h66 with ⟨v_h66, rfl, h66r, h66⟩
  have M2104 : MW (dt67 81) := MW_frk M241 hF69 (by decide)
  have C105 : ∀ j : Nat, dt67 2 j = dt 2 j := fun j => (hF69 2 (by decide) j).trans (C42 j)
  have C106 : ∀ j : Nat, dt67 3 j = dt 3 j := fun j => (hF69 3 (by decide) j).trans (C43 j)
  have C107 : ∀ j : Nat, dt67 4 j = dt 4 j := fun j => (hF69 4 (by decide) j).trans (C44 j)
  have C108 : ∀ j : Nat, dt67 5 j = dt 5 j := fun j => (hF69 5 (by decide) j).trans (C45 j)
  have C109 : ∀ j : Nat, dt67 6 j = dt 6 j := fun j => (hF69 6 (by decide) j).trans (C46 j)
  have C110 : ∀ j : Nat, dt67 8 j = dt 8 j := fun j => (hF69 8 (by decide) j).trans (C47 j)
  have C111 : ∀ j : Nat, dt67 9 j = dt 9 j := fun j => (hF69 9 (by decide) j).trans (C48 j)
  have C112 : ∀ j : Nat, dt67 11 j = dt 11 j := fun j => (hF69 11 (by decide) j).trans (C49 j)
  have C113 : ∀ j : Nat, dt67 19 j = dt 19 j := fun j => (hF69 19 (by decide) j).trans (C50 j)
  have C114 : ∀ j : Nat, dt67 20 j = dt 20 j := fun j => (hF69 20 (by decide) j).trans (C51 j)
  have C115 : ∀ j : Nat, dt67 21 j = dt 21 j := fun j => (hF69 21 (by decide) j).trans (C52 j)
  have C116 : ∀ j : Nat, dt67 22 j = dt 22 j := fun j => (hF69 22 (by decide) j).trans (C53 j)
  have C117 : ∀ j : Nat, dt67 23 j = dt 23 j := fun j => (hF69 23 (by decide) j).trans (C54 j)
  have C118 : ∀ j : Nat, dt67 25 j = dt 25 j := fun j => (hF69 25 (by decide) j).trans (C55 j)
  have C119 : ∀ j : Nat, dt67 26 j = dt 26 j := fun j => (hF69 26 (by decide) j).trans (C56 j)
  have C120 : ∀ j : Nat, dt67 28 j = dt 28 j := fun j => (hF69 28 (by decide) j).trans (C57 j)
  have C121 : ∀ j : Nat, dt67 13 j = dt 13 j := fun j => (hF69 13 (by decide) j).trans (C58 j)
  have C122 : ∀ j : Nat, dt67 30 j = dt 30 j := fun j => (hF69 30 (by decide) j).trans (C59 j)
  have C123 : ∀ j : Nat, dt67 36 j = dt 36 j := fun j => (hF69 36 (by decide) j).trans (C60 j)
  have C124 : ∀ j : Nat, dt67 80 j = dt 80 j := fun j => (hF69 80 (by decide) j).trans (C61 j)
  have C125 : ∀ j : Nat, dt67 81 j = dt 81 j := fun j => (hF69 81 (by decide) j).trans (C62 j)
  have C126 : ∀ j : Nat, dt67 85 j = dt 85 j := fun j => (hF69 85 (by decide) j).trans (C63 j)
  refine go_toq PM267 (k := 2) (pc' := 1435) (L' := [some (.inr (.inr (some 3000))), some (.inr (.inr (some 0))), some (.inr (.inr (some 79))), some (.inl i)]) (st' := []) (w' := (SH, dt67)) rfl ?_
  exact K dt67 hI68 hM71 M2104 (w72.trans (hk0.trans w88.symm)) (w73.trans (hk1.trans w89.symm)) (w74.trans (hk2.trans w90.symm)) (w75.trans (hk3.trans w91.symm)) (w76.trans (hk4.trans w92.symm)) (w77.trans (hk5.trans w93.symm)) (w78.trans (hk6.trans w94.symm)) (w79.trans (hk7.trans w95.symm)) (w80.trans (hk8.trans w96.symm)) (w81.trans (hk9.trans w97.symm)) (w82.trans (hk10.trans w98.symm)) (w83.trans (hk11.trans w99.symm)) (w84.trans (hk12.trans w100.symm)) (w85.trans (hk13.trans w101.symm)) (w86.trans (hk14.trans w102.symm)) (w87.trans (hk15.trans w103.symm)) (by first | exact hI | exact TPL_k hd0 C123 C126 (by omega) | (exfalso; omega)) (by first | exact hI | exact SCL_k hd1 hM (fun j _ => C105 j) (fun j _ => C106 j) (fun j _ _ => C124 j) | (exfalso; omega)) (by first | exact hI | exact SCL_k hd2 hM2 (fun j _ => C113 j) (fun j _ => C114 j) (fun j _ _ => C125 j) | (exfalso; omega)) (by first | exact hI | exact QRL_k hd3 hM (fun j _ => C110 j) (C124 1) (fun j _ _ => C124 j) | (exfalso; omega)) (by first | exact hI | exact QRL_k hd4 hM2 (fun j _ => C118 j) (C125 1) (fun j _ _ => C125 j) | (exfalso; omega)) (by first | exact hI | exact SDL_k hd5 hM (fun j _ => C111 j) (C124 1) (fun j _ _ => C124 j) (fun j _ _ => C124 j) | (exfalso; omega)) (by first | exact hI | exact SDL_k hd6 hM2 (fun j _ => C119 j) (C125 1) (fun j _ _ => C125 j) (fun j _ _ => C125 j) | (exfalso; omega)) (by first | exact hI | exact LWL_k hd7 hM (fun j _ => C107 j) (fun j _ => C108 j) (fun j _ => C109 j) (fun j _ _ => C124 j) | (exfalso; omega)) (by first | exact hI | exact LWL_k hd8 hM2 (fun j _ => C115 j) (fun j _ => C116 j) (fun j _ => C117 j) (fun j _ _ => C125 j) | (exfalso; omega)) (by first | exact hI | exact CHL_k hd9 hM (fun j _ => C112 j) (by omega) (fun j _ _ => C124 j) | (exfalso; omega)) (by first | exact hI | exact CHL_k hd10 hM2 (fun j _ => C120 j) (by omega) (fun j _ _ => C125 j) | (exfalso; omega)) (by first | exact hI | exact ANL_k hd11 hM (fun j _ => C121 j) (by omega) (by omega) (by omega) (fun j _ _ => C124 j) | (exfalso; omega)) (by first | exact hI | exact ANL_k hd12 hM2 (fun j _ => C122 j) (by omega) (by omega) (by omega) (fun j _ _ => C125 j) | (exfalso; omega))
set_option maxRecDepth 20000 in
set_option maxHeartbeats 8000000 in
theorem sp_case28 (L : Nat) (xs : Nat → Int32) (sio : Option Nat) (d : Nat) (Q : Option AV → am_W → Prop) (hLL : L ≤ 3072) (i : Int) (hi : 0 ≤ i ∧ i ≤ 3066) (hil : i ≤ (L : Int) - 6) (dt : Nat → Nat → Int) (hI : InvC dt) (hM : MW (dt 80)) (hM2 : MW (dt 81)) (hk0 : dt 1 0 = dt 80 0) (hk1 : dt 7 3 = dt 80 1) (hk2 : dt 10 3 = dt 80 2) (hk3 : dt 12 3 = dt 80 3) (hk4 : dt 14 3 = dt 80 4) (hk5 : dt 16 3 = dt 80 5) (hk6 : dt 18 0 = dt 81 0) (hk7 : dt 24 3 = dt 81 1) (hk8 : dt 27 3 = dt 81 2) (hk9 : dt 29 3 = dt 81 3) (hk10 : dt 31 3 = dt 81 4) (hk11 : dt 33 3 = dt 81 5) (hk12 : dt 0 2 = dt 79 2) (hk13 : dt 35 1 = dt 79 12) (hk14 : dt 35 2 = dt 79 19) (hk15 : dt 35 3 = dt 79 21) (hd0 : TPL (dt 36) (dt 85) (dt 35 1)) (hd1 : SCL (dt 2) (dt 3) (dt 80)) (hd2 : SCL (dt 19) (dt 20) (dt 81)) (hd3 : QRL (dt 8) (dt 80)) (hd4 : QRL (dt 25) (dt 81)) (hd5 : SDL (dt 9) (dt 80)) (hd6 : SDL (dt 26) (dt 81)) (hd7 : LWL (dt 4) (dt 5) (dt 6) (dt 80)) (hd8 : LWL (dt 21) (dt 22) (dt 23) (dt 81)) (hd9 : CHL (dt 11) (dt 80)) (hd10 : CHL (dt 28) (dt 81)) (hd11 : ANL (dt 13) (dt 80)) (hd12 : ANL (dt 30) (dt 81)) (K : ∀ (dt : Nat → Nat → Int) (hI : InvC dt) (hM : MW (dt 80)) (hM2 : MW (dt 81)) (hk0 : dt 1 0 = dt 80 0) (hk1 : dt 7 3 = dt 80 1) (hk2 : dt 10 3 = dt 80 2) (hk3 : dt 12 3 = dt 80 3) (hk4 : dt 14 3 = dt 80 4) (hk5 : dt 16 3 = dt 80 5) (hk6 : dt 18 0 = dt 81 0) (hk7 : dt 24 3 = dt 81 1) (hk8 : dt 27 3 = dt 81 2) (hk9 : dt 29 3 = dt 81 3) (hk10 : dt 31 3 = dt 81 4) (hk11 : dt 33 3 = dt 81 5) (hk12 : dt 0 2 = dt 79 2) (hk13 : dt 35 1 = dt 79 12) (hk14 : dt 35 2 = dt 79 19) (hk15 : dt 35 3 = dt 79 21) (hd0 : TPL (dt 36) (dt 85) (dt 35 1)) (hd1 : SCL (dt 2) (dt 3) (dt 80)) (hd2 : SCL (dt 19) (dt 20) (dt 81)) (hd3 : QRL (dt 8) (dt 80)) (hd4 : QRL (dt 25) (dt 81)) (hd5 : SDL (dt 9) (dt 80)) (hd6 : SDL (dt 26) (dt 81)) (hd7 : LWL (dt 4) (dt 5) (dt 6) (dt 80)) (hd8 : LWL (dt 21) (dt 22) (dt 23) (dt 81)) (hd9 : CHL (dt 11) (dt 80)) (hd10 : CHL (dt 28) (dt 81)) (hd11 : ANL (dt 13) (dt 80)) (hd12 : ANL (dt 30) (dt 81)), GO (am_XX L xs sio) (d + 39) 267 1435 [some (.inr (.inr (some 3000))), some (.inr (.inr (some 0))), some (.inr (.inr (some 79))), some (.inl i)] [] (SH, dt) Q) : GO (am_XX L xs sio) (d + 39) 267 1254 [some (.inr (.inr (some 3000))), some (.inr (.inr (some 0))), some (.inr (.inr (some 79))), some (.inl i)] [] (SH, dt) Q := by
  have hF : Fr [0, 1, 2, 3, 4, 5, 6, 7, 8, 9, 10, 11, 12, 13, 14, 15, 16, 17, 18, 19, 20, 21, 22, 23, 24, 25, 26, 27, 28, 29, 30, 31, 32, 33, 34, 35, 36, 37, 38, 39, 40, 41, 42, 43, 44, 45, 46, 47, 48, 49, 50, 51, 52, 53, 54, 55, 56, 57, 58, 59, 60, 61, 62, 63, 64, 65, 66, 67, 68, 69, 70, 71, 72, 73, 74, 75, 76, 77, 78, 79, 80, 81, 82, 83, 84, 85, 86, 87, 88, 89, 90, 91, 92, 93, 94, 95, 96, 97, 98, 99, 100, 101, 102, 103, 104] dt dt := Fr_refl
  have hqo := QOC_R hd3 hM hk1
  have hb1_ := hM.1.1
  have hb2_ := hM.1.2.1
  have hb3_ := hM.1.2.2.1
  have halk : ALK dt (dt 80) := ⟨hd7, hd3, hd5, hd9, hk1, hk2⟩
  have hav_ : ∀ i : Nat, (i : Int) < dt 12 3 → 0 ≤ dt 13 (6 * i + 1) ∧ dt 13 (6 * i + 1) < dt 7 3 := fun i hi => by have z := hd11 i (by omega); have y := z.2.2 1 (by decide); have w := z.2.1; omega
  refine go_toq PM267 (k := 5) (pc' := 1259) (L' := [some (.inr (.inr (some 3000))), some (.inr (.inr (some 0))), some (.inr (.inr (some 79))), some (.inl i)]) (st' := [.inl (i + 1), .inr (.inr (some 3000)), .inr (.inr (some 0))]) (w' := (SH, dt)) rfl ?_
  have r1 := i32_R (xs ((i + 1).toNat))
  refine go_smpq PM267 (L' := [some (.inr (.inr (some 3000))), some (.inr (.inr (some 0))), some (.inr (.inr (some 79))), some (.inl i)]) (st' := [.inl ((xs ((i + 1).toNat)).toInt), .inr (.inr (some 0))]) (w' := (SH, dt)) rfl rfl (s_iald (n := L) (f := fun j => (xs j).toInt) (am_scr hLL) ⟨by omega, by omega⟩) ?_
  refine go_toq PM267 (k := 4) (pc' := 1264) (L' := [some (.inr (.inr (some 3000))), some (.inr (.inr (some 0))), some (.inr (.inr (some 79))), some (.inl i)]) (st' := [.inl (i + 2), .inr (.inr (some 3000)), .inl ((xs ((i + 1).toNat)).toInt), .inr (.inr (some 0))]) (w' := (SH, dt)) rfl ?_
  have r2 := i32_R (xs ((i + 2).toNat))
  refine go_smpq PM267 (L' := [some (.inr (.inr (some 3000))), some (.inr (.inr (some 0))), some (.inr (.inr (some 79))), some (.inl i)]) (st' := [.inl ((xs ((i + 2).toNat)).toInt), .inl ((xs ((i + 1).toNat)).toInt), .inr (.inr (some 0))]) (w' := (SH, dt)) rfl rfl (s_iald (n := L) (f := fun j => (xs j).toInt) (am_scr hLL) ⟨by omega, by omega⟩) ?_
  refine go_callq PM267 PM95 (Q' := _) rfl rfl rfl rfl (sp_X5_curve L xs sio (d + 33) dt hI  ((xs ((i + 1).toNat)).toInt) ⟨by omega, by omega⟩ ((xs ((i + 2).toNat)).toInt) ⟨by omega, by omega⟩ ) ?_
  rintro _ _ ⟨dt4, rfl, hI5, hF6, h3⟩
  refine ⟨rfl, ?_⟩
  have hF7 : Fr [0, 1, 2, 3, 4, 5, 6, 7, 8, 9, 10, 11, 12, 13, 14, 15, 16, 17, 18, 19, 20, 21, 22, 23, 24, 25, 26, 27, 28, 29, 30, 31, 32, 33, 34, 35, 36, 37, 38, 39, 40, 41, 42, 43, 44, 45, 46, 47, 48, 49, 50, 51, 52, 53, 54, 55, 56, 57, 58, 59, 60, 61, 62, 63, 64, 65, 66, 67, 68, 69, 70, 71, 72, 73, 74, 75, 76, 77, 78, 79, 80, 81, 82, 83, 84, 85, 86, 87, 88, 89, 90, 91, 92, 93, 94, 95, 96, 97, 98, 99, 100, 101, 102, 103, 104] dt dt4 := Fr_tr hF hF6 (by decide)
  have hM8 : MW (dt4 80) := MW_fr hM hF6 (by decide)
  have w9 : dt4 1 0 = dt 1 0 := hF6 1 (by decide) 0
  have w10 : dt4 7 3 = dt 7 3 := hF6 7 (by decide) 3
  have w11 : dt4 10 3 = dt 10 3 := hF6 10 (by decide) 3
  have w12 : dt4 12 3 = dt 12 3 := hF6 12 (by decide) 3
  have w13 : dt4 14 3 = dt 14 3 := hF6 14 (by decide) 3
  have w14 : dt4 16 3 = dt 16 3 := hF6 16 (by decide) 3
  have w15 : dt4 18 0 = dt 18 0 := hF6 18 (by decide) 0
  have w16 : dt4 24 3 = dt 24 3 := hF6 24 (by decide) 3
  have w17 : dt4 27 3 = dt 27 3 := hF6 27 (by decide) 3
  have w18 : dt4 29 3 = dt 29 3 := hF6 29 (by decide) 3
  have w19 : dt4 31 3 = dt 31 3 := hF6 31 (by decide) 3
  have w20 : dt4 33 3 = dt 33 3 := hF6 33 (by decide) 3
  have w21 : dt4 0 2 = dt 0 2 := hF6 0 (by decide) 2
  have w22 : dt4 35 1 = dt 35 1 := hF6 35 (by decide) 1
  have w23 : dt4 35 2 = dt 35 2 := hF6 35 (by decide) 2
  have w24 : dt4 35 3 = dt 35 3 := hF6 35 (by decide) 3
  have w25 : dt4 80 0 = dt 80 0 := hF6 80 (by decide) 0
  have w26 : dt4 80 1 = dt 80 1 := hF6 80 (by decide) 1
  have w27 : dt4 80 2 = dt 80 2 := hF6 80 (by decide) 2
  have w28 : dt4 80 3 = dt 80 3 := hF6 80 (by decide) 3
  have w29 : dt4 80 4 = dt 80 4 := hF6 80 (by decide) 4
  have w30 : dt4 80 5 = dt 80 5 := hF6 80 (by decide) 5
  have w31 : dt4 81 0 = dt 81 0 := hF6 81 (by decide) 0
  have w32 : dt4 81 1 = dt 81 1 := hF6 81 (by decide) 1
  have w33 : dt4 81 2 = dt 81 2 := hF6 81 (by decide) 2
  have w34 : dt4 81 3 = dt 81 3 := hF6 81 (by decide) 3
  have w35 : dt4 81 4 = dt 81 4 := hF6 81 (by decide) 4
  have w36 : dt4 81 5 = dt 81 5 := hF6 81 (by decide) 5
  have w37 : dt4 79 2 = dt 79 2 := hF6 79 (by decide) 2
  have w38 : dt4 79 12 = dt 79 12 := hF6 79 (by decide) 12
  have w39 : dt4 79 19 = dt 79 19 := hF6 79 (by decide) 19
  have w40 : dt4 79 21 = dt 79 21 := hF6 79 (by decide) 21
  rcases h3 with ⟨v_h3, rfl, h3r, h3⟩
  have M241 : MW (dt4 81) := MW_frk hM2 hF6 (by decide)
  have C42 : ∀ j : Nat, dt4 2 j = dt 2 j := fun j => (hF6 2 (by decide) j).trans ((fun _ => rfl) j)
  have C43 : ∀ j : Nat, dt4 3 j = dt 3 j := fun j => (hF6 3 (by decide) j).trans ((fun _ => rfl) j)
  have C44 : ∀ j : Nat, dt4 4 j = dt 4 j := fun j => (hF6 4 (by decide) j).trans ((fun _ => rfl) j)
  have C45 : ∀ j : Nat, dt4 5 j = dt 5 j := fun j => (hF6 5 (by decide) j).trans ((fun _ => rfl) j)
  have C46 : ∀ j : Nat, dt4 6 j = dt 6 j := fun j => (hF6 6 (by decide) j).trans ((fun _ => rfl) j)
  have C47 : ∀ j : Nat, dt4 8 j = dt 8 j := fun j => (hF6 8 (by decide) j).trans ((fun _ => rfl) j)
  have C48 : ∀ j : Nat, dt4 9 j = dt 9 j := fun j => (hF6 9 (by decide) j).trans ((fun _ => rfl) j)
  have C49 : ∀ j : Nat, dt4 11 j = dt 11 j := fun j => (hF6 11 (by decide) j).trans ((fun _ => rfl) j)
  have C50 : ∀ j : Nat, dt4 19 j = dt 19 j := fun j => (hF6 19 (by decide) j).trans ((fun _ => rfl) j)
  have C51 : ∀ j : Nat, dt4 20 j = dt 20 j := fun j => (hF6 20 (by decide) j).trans ((fun _ => rfl) j)
  have C52 : ∀ j : Nat, dt4 21 j = dt 21 j := fun j => (hF6 21 (by decide) j).trans ((fun _ => rfl) j)
  have C53 : ∀ j : Nat, dt4 22 j = dt 22 j := fun j => (hF6 22 (by decide) j).trans ((fun _ => rfl) j)
  have C54 : ∀ j : Nat, dt4 23 j = dt 23 j := fun j => (hF6 23 (by decide) j).trans ((fun _ => rfl) j)
  have C55 : ∀ j : Nat, dt4 25 j = dt 25 j := fun j => (hF6 25 (by decide) j).trans ((fun _ => rfl) j)
  have C56 : ∀ j : Nat, dt4 26 j = dt 26 j := fun j => (hF6 26 (by decide) j).trans ((fun _ => rfl) j)
  have C57 : ∀ j : Nat, dt4 28 j = dt 28 j := fun j => (hF6 28 (by decide) j).trans ((fun _ => rfl) j)
  have C58 : ∀ j : Nat, dt4 13 j = dt 13 j := fun j => (hF6 13 (by decide) j).trans ((fun _ => rfl) j)
  have C59 : ∀ j : Nat, dt4 30 j = dt 30 j := fun j => (hF6 30 (by decide) j).trans ((fun _ => rfl) j)
  have C60 : ∀ j : Nat, dt4 36 j = dt 36 j := fun j => (hF6 36 (by decide) j).trans ((fun _ => rfl) j)
  have C61 : ∀ j : Nat, dt4 80 j = dt 80 j := fun j => (hF6 80 (by decide) j).trans ((fun _ => rfl) j)
  have C62 : ∀ j : Nat, dt4 81 j = dt 81 j := fun j => (hF6 81 (by decide) j).trans ((fun _ => rfl) j)
  have C63 : ∀ j : Nat, dt4 85 j = dt 85 j := fun j => (hF6 85 (by decide) j).trans ((fun _ => rfl) j)
  refine go_toq PM267 (k := 6) (pc' := 1274) (L' := [some (.inr (.inr (some 3000))), some (.inr (.inr (some 0))), some (.inr (.inr (some 79))), some (.inl i)]) (st' := [.inl (i + 1), .inr (.inr (some 3000)), .inr (.inr (some 79))]) (w' := (SH, dt4)) rfl ?_
  have r64 := i32_R (xs ((i + 1).toNat))
  refine go_smpq PM267 (L' := [some (.inr (.inr (some 3000))), some (.inr (.inr (some 0))), some (.inr (.inr (some 79))), some (.inl i)]) (st' := [.inl ((xs ((i + 1).toNat)).toInt), .inr (.inr (some 79))]) (w' := (SH, dt4)) rfl rfl (s_iald (n := L) (f := fun j => (xs j).toInt) (am_scr hLL) ⟨by omega, by omega⟩) ?_
  refine go_toq PM267 (k := 4) (pc' := 1279) (L' := [some (.inr (.inr (some 3000))), some (.inr (.inr (some 0))), some (.inr (.inr (some 79))), some (.inl i)]) (st' := [.inl (i + 2), .inr (.inr (some 3000)), .inl ((xs ((i + 1).toNat)).toInt), .inr (.inr (some 79))]) (w' := (SH, dt4)) rfl ?_
  have r65 := i32_R (xs ((i + 2).toNat))
  refine go_smpq PM267 (L' := [some (.inr (.inr (some 3000))), some (.inr (.inr (some 0))), some (.inr (.inr (some 79))), some (.inl i)]) (st' := [.inl ((xs ((i + 2).toNat)).toInt), .inl ((xs ((i + 1).toNat)).toInt), .inr (.inr (some 79))]) (w' := (SH, dt4)) rfl rfl (s_iald (n := L) (f := fun j => (xs j).toInt) (am_scr hLL) ⟨by omega, by omega⟩) ?_
  refine go_callq PM267 PM242 (Q' := _) rfl rfl rfl rfl (sp_X6_curve_k L xs sio (d + 30) dt4 hI5 hM8  ((xs ((i + 1).toNat)).toInt) ⟨by omega, by omega⟩ ((xs ((i + 2).toNat)).toInt) ⟨by omega, by omega⟩ ) ?_
  rintro _ _ ⟨dt67, rfl, hI68, hF69, h66⟩
  refine ⟨rfl, ?_⟩
  have hF70 : Fr [0, 1, 2, 3, 4, 5, 6, 7, 8, 9, 10, 11, 12, 13, 14, 15, 16, 17, 18, 19, 20, 21, 22, 23, 24, 25, 26, 27, 28, 29, 30, 31, 32, 33, 34, 35, 36, 37, 38, 39, 40, 41, 42, 43, 44, 45, 46, 47, 48, 49, 50, 51, 52, 53, 54, 55, 56, 57, 58, 59, 60, 61, 62, 63, 64, 65, 66, 67, 68, 69, 70, 71, 72, 73, 74, 75, 76, 77, 78, 79, 80, 81, 82, 83, 84, 85, 86, 87, 88, 89, 90, 91, 92, 93, 94, 95, 96, 97, 98, 99, 100, 101, 102, 103, 104] dt dt67 := Fr_tr hF7 hF69 (by decide)
  have hM71 : MW (dt67 80) := MW_fr hM8 hF69 (by decide)
  have w72 : dt67 1 0 = dt 1 0 := (hF69 1 (by decide) 0).trans w9
  have w73 : dt67 7 3 = dt 7 3 := (hF69 7 (by decide) 3).trans w10
  have w74 : dt67 10 3 = dt 10 3 := (hF69 10 (by decide) 3).trans w11
  have w75 : dt67 12 3 = dt 12 3 := (hF69 12 (by decide) 3).trans w12
  have w76 : dt67 14 3 = dt 14 3 := (hF69 14 (by decide) 3).trans w13
  have w77 : dt67 16 3 = dt 16 3 := (hF69 16 (by decide) 3).trans w14
  have w78 : dt67 18 0 = dt 18 0 := (hF69 18 (by decide) 0).trans w15
  have w79 : dt67 24 3 = dt 24 3 := (hF69 24 (by decide) 3).trans w16
  have w80 : dt67 27 3 = dt 27 3 := (hF69 27 (by decide) 3).trans w17
  have w81 : dt67 29 3 = dt 29 3 := (hF69 29 (by decide) 3).trans w18
  have w82 : dt67 31 3 = dt 31 3 := (hF69 31 (by decide) 3).trans w19
  have w83 : dt67 33 3 = dt 33 3 := (hF69 33 (by decide) 3).trans w20
  have w84 : dt67 0 2 = dt 0 2 := (hF69 0 (by decide) 2).trans w21
  have w85 : dt67 35 1 = dt 35 1 := (hF69 35 (by decide) 1).trans w22
  have w86 : dt67 35 2 = dt 35 2 := (hF69 35 (by decide) 2).trans w23
  have w87 : dt67 35 3 = dt 35 3 := (hF69 35 (by decide) 3).trans w24
  have w88 : dt67 80 0 = dt 80 0 := (hF69 80 (by decide) 0).trans w25
  have w89 : dt67 80 1 = dt 80 1 := (hF69 80 (by decide) 1).trans w26
  have w90 : dt67 80 2 = dt 80 2 := (hF69 80 (by decide) 2).trans w27
  have w91 : dt67 80 3 = dt 80 3 := (hF69 80 (by decide) 3).trans w28
  have w92 : dt67 80 4 = dt 80 4 := (hF69 80 (by decide) 4).trans w29
  have w93 : dt67 80 5 = dt 80 5 := (hF69 80 (by decide) 5).trans w30
  have w94 : dt67 81 0 = dt 81 0 := (hF69 81 (by decide) 0).trans w31
  have w95 : dt67 81 1 = dt 81 1 := (hF69 81 (by decide) 1).trans w32
  have w96 : dt67 81 2 = dt 81 2 := (hF69 81 (by decide) 2).trans w33
  have w97 : dt67 81 3 = dt 81 3 := (hF69 81 (by decide) 3).trans w34
  have w98 : dt67 81 4 = dt 81 4 := (hF69 81 (by decide) 4).trans w35
  have w99 : dt67 81 5 = dt 81 5 := (hF69 81 (by decide) 5).trans w36
  rcases h66 with ⟨v_h66, rfl, h66r, h66⟩
  obtain ⟨h66_0, h66_1, h66_2, h66_3⟩ := h66
  have w100 : dt67 79 2 = dt 79 2 := h66_0.trans w37
  have w101 : dt67 79 12 = dt 79 12 := h66_1.trans w38
  have w102 : dt67 79 19 = dt 79 19 := h66_2.trans w39
  have w103 : dt67 79 21 = dt 79 21 := h66_3.trans w40
  have M2104 : MW (dt67 81) := MW_frk M241 hF69 (by decide)
  have C105 : ∀ j : Nat, dt67 2 j = dt 2 j := fun j => (hF69 2 (by decide) j).trans (C42 j)
  have C106 : ∀ j : Nat, dt67 3 j = dt 3 j := fun j => (hF69 3 (by decide) j).trans (C43 j)
  have C107 : ∀ j : Nat, dt67 4 j = dt 4 j := fun j => (hF69 4 (by decide) j).trans (C44 j)
  have C108 : ∀ j : Nat, dt67 5 j = dt 5 j := fun j => (hF69 5 (by decide) j).trans (C45 j)
  have C109 : ∀ j : Nat, dt67 6 j = dt 6 j := fun j => (hF69 6 (by decide) j).trans (C46 j)
  have C110 : ∀ j : Nat, dt67 8 j = dt 8 j := fun j => (hF69 8 (by decide) j).trans (C47 j)
  have C111 : ∀ j : Nat, dt67 9 j = dt 9 j := fun j => (hF69 9 (by decide) j).trans (C48 j)
  have C112 : ∀ j : Nat, dt67 11 j = dt 11 j := fun j => (hF69 11 (by decide) j).trans (C49 j)
  have C113 : ∀ j : Nat, dt67 19 j = dt 19 j := fun j => (hF69 19 (by decide) j).trans (C50 j)
  have C114 : ∀ j : Nat, dt67 20 j = dt 20 j := fun j => (hF69 20 (by decide) j).trans (C51 j)
  have C115 : ∀ j : Nat, dt67 21 j = dt 21 j := fun j => (hF69 21 (by decide) j).trans (C52 j)
  have C116 : ∀ j : Nat, dt67 22 j = dt 22 j := fun j => (hF69 22 (by decide) j).trans (C53 j)
  have C117 : ∀ j : Nat, dt67 23 j = dt 23 j := fun j => (hF69 23 (by decide) j).trans (C54 j)
  have C118 : ∀ j : Nat, dt67 25 j = dt 25 j := fun j => (hF69 25 (by decide) j).trans (C55 j)
  have C119 : ∀ j : Nat, dt67 26 j = dt 26 j := fun j => (hF69 26 (by decide) j).trans (C56 j)
  have C120 : ∀ j : Nat, dt67 28 j = dt 28 j := fun j => (hF69 28 (by decide) j).trans (C57 j)
  have C121 : ∀ j : Nat, dt67 13 j = dt 13 j := fun j => (hF69 13 (by decide) j).trans (C58 j)
  have C122 : ∀ j : Nat, dt67 30 j = dt 30 j := fun j => (hF69 30 (by decide) j).trans (C59 j)
  have C123 : ∀ j : Nat, dt67 36 j = dt 36 j := fun j => (hF69 36 (by decide) j).trans (C60 j)
  have C124 : ∀ j : Nat, dt67 80 j = dt 80 j := fun j => (hF69 80 (by decide) j).trans (C61 j)
  have C125 : ∀ j : Nat, dt67 81 j = dt 81 j := fun j => (hF69 81 (by decide) j).trans (C62 j)
  have C126 : ∀ j : Nat, dt67 85 j = dt 85 j := fun j => (hF69 85 (by decide) j).trans (C63 j)
  refine go_toq PM267 (k := 2) (pc' := 1435) (L' := [some (.inr (.inr (some 3000))), some (.inr (.inr (some 0))), some (.inr (.inr (some 79))), some (.inl i)]) (st' := []) (w' := (SH, dt67)) rfl ?_
  exact K dt67 hI68 hM71 M2104 (w72.trans (hk0.trans w88.symm)) (w73.trans (hk1.trans w89.symm)) (w74.trans (hk2.trans w90.symm)) (w75.trans (hk3.trans w91.symm)) (w76.trans (hk4.trans w92.symm)) (w77.trans (hk5.trans w93.symm)) (w78.trans (hk6.trans w94.symm)) (w79.trans (hk7.trans w95.symm)) (w80.trans (hk8.trans w96.symm)) (w81.trans (hk9.trans w97.symm)) (w82.trans (hk10.trans w98.symm)) (w83.trans (hk11.trans w99.symm)) (w84.trans (hk12.trans w100.symm)) (w85.trans (hk13.trans w101.symm)) (w86.trans (hk14.trans w102.symm)) (w87.trans (hk15.trans w103.symm)) (by first | exact hI | exact TPL_k hd0 C123 C126 (by omega) | (exfalso; omega)) (by first | exact hI | exact SCL_k hd1 hM (fun j _ => C105 j) (fun j _ => C106 j) (fun j _ _ => C124 j) | (exfalso; omega)) (by first | exact hI | exact SCL_k hd2 hM2 (fun j _ => C113 j) (fun j _ => C114 j) (fun j _ _ => C125 j) | (exfalso; omega)) (by first | exact hI | exact QRL_k hd3 hM (fun j _ => C110 j) (C124 1) (fun j _ _ => C124 j) | (exfalso; omega)) (by first | exact hI | exact QRL_k hd4 hM2 (fun j _ => C118 j) (C125 1) (fun j _ _ => C125 j) | (exfalso; omega)) (by first | exact hI | exact SDL_k hd5 hM (fun j _ => C111 j) (C124 1) (fun j _ _ => C124 j) (fun j _ _ => C124 j) | (exfalso; omega)) (by first | exact hI | exact SDL_k hd6 hM2 (fun j _ => C119 j) (C125 1) (fun j _ _ => C125 j) (fun j _ _ => C125 j) | (exfalso; omega)) (by first | exact hI | exact LWL_k hd7 hM (fun j _ => C107 j) (fun j _ => C108 j) (fun j _ => C109 j) (fun j _ _ => C124 j) | (exfalso; omega)) (by first | exact hI | exact LWL_k hd8 hM2 (fun j _ => C115 j) (fun j _ => C116 j) (fun j _ => C117 j) (fun j _ _ => C125 j) | (exfalso; omega)) (by first | exact hI | exact CHL_k hd9 hM (fun j _ => C112 j) (by omega) (fun j _ _ => C124 j) | (exfalso; omega)) (by first | exact hI | exact CHL_k hd10 hM2 (fun j _ => C120 j) (by omega) (fun j _ _ => C125 j) | (exfalso; omega)) (by first | exact hI | exact ANL_k hd11 hM (fun j _ => C121 j) (by omega) (by omega) (by omega) (fun j _ _ => C124 j) | (exfalso; omega)) (by first | exact hI | exact ANL_k hd12 hM2 (fun j _ => C122 j) (by omega) (by omega) (by omega) (fun j _ _ => C125 j) | (exfalso; omega))
set_option maxRecDepth 20000 in
set_option maxHeartbeats 8000000 in
theorem sp_case29 (L : Nat) (xs : Nat → Int32) (sio : Option Nat) (d : Nat) (Q : Option AV → am_W → Prop) (hLL : L ≤ 3072) (i : Int) (hi : 0 ≤ i ∧ i ≤ 3066) (hil : i ≤ (L : Int) - 6) (dt : Nat → Nat → Int) (hI : InvC dt) (hM : MW (dt 80)) (hM2 : MW (dt 81)) (hk0 : dt 1 0 = dt 80 0) (hk1 : dt 7 3 = dt 80 1) (hk2 : dt 10 3 = dt 80 2) (hk3 : dt 12 3 = dt 80 3) (hk4 : dt 14 3 = dt 80 4) (hk5 : dt 16 3 = dt 80 5) (hk6 : dt 18 0 = dt 81 0) (hk7 : dt 24 3 = dt 81 1) (hk8 : dt 27 3 = dt 81 2) (hk9 : dt 29 3 = dt 81 3) (hk10 : dt 31 3 = dt 81 4) (hk11 : dt 33 3 = dt 81 5) (hk12 : dt 0 2 = dt 79 2) (hk13 : dt 35 1 = dt 79 12) (hk14 : dt 35 2 = dt 79 19) (hk15 : dt 35 3 = dt 79 21) (hd0 : TPL (dt 36) (dt 85) (dt 35 1)) (hd1 : SCL (dt 2) (dt 3) (dt 80)) (hd2 : SCL (dt 19) (dt 20) (dt 81)) (hd3 : QRL (dt 8) (dt 80)) (hd4 : QRL (dt 25) (dt 81)) (hd5 : SDL (dt 9) (dt 80)) (hd6 : SDL (dt 26) (dt 81)) (hd7 : LWL (dt 4) (dt 5) (dt 6) (dt 80)) (hd8 : LWL (dt 21) (dt 22) (dt 23) (dt 81)) (hd9 : CHL (dt 11) (dt 80)) (hd10 : CHL (dt 28) (dt 81)) (hd11 : ANL (dt 13) (dt 80)) (hd12 : ANL (dt 30) (dt 81)) (K : ∀ (dt : Nat → Nat → Int) (hI : InvC dt) (hM : MW (dt 80)) (hM2 : MW (dt 81)) (hk0 : dt 1 0 = dt 80 0) (hk1 : dt 7 3 = dt 80 1) (hk2 : dt 10 3 = dt 80 2) (hk3 : dt 12 3 = dt 80 3) (hk4 : dt 14 3 = dt 80 4) (hk5 : dt 16 3 = dt 80 5) (hk6 : dt 18 0 = dt 81 0) (hk7 : dt 24 3 = dt 81 1) (hk8 : dt 27 3 = dt 81 2) (hk9 : dt 29 3 = dt 81 3) (hk10 : dt 31 3 = dt 81 4) (hk11 : dt 33 3 = dt 81 5) (hk12 : dt 0 2 = dt 79 2) (hk13 : dt 35 1 = dt 79 12) (hk14 : dt 35 2 = dt 79 19) (hk15 : dt 35 3 = dt 79 21) (hd0 : TPL (dt 36) (dt 85) (dt 35 1)) (hd1 : SCL (dt 2) (dt 3) (dt 80)) (hd2 : SCL (dt 19) (dt 20) (dt 81)) (hd3 : QRL (dt 8) (dt 80)) (hd4 : QRL (dt 25) (dt 81)) (hd5 : SDL (dt 9) (dt 80)) (hd6 : SDL (dt 26) (dt 81)) (hd7 : LWL (dt 4) (dt 5) (dt 6) (dt 80)) (hd8 : LWL (dt 21) (dt 22) (dt 23) (dt 81)) (hd9 : CHL (dt 11) (dt 80)) (hd10 : CHL (dt 28) (dt 81)) (hd11 : ANL (dt 13) (dt 80)) (hd12 : ANL (dt 30) (dt 81)), GO (am_XX L xs sio) (d + 39) 267 1435 [some (.inr (.inr (some 3000))), some (.inr (.inr (some 0))), some (.inr (.inr (some 79))), some (.inl i)] [] (SH, dt) Q) : GO (am_XX L xs sio) (d + 39) 267 1287 [some (.inr (.inr (some 3000))), some (.inr (.inr (some 0))), some (.inr (.inr (some 79))), some (.inl i)] [] (SH, dt) Q := by
  have hF : Fr [0, 1, 2, 3, 4, 5, 6, 7, 8, 9, 10, 11, 12, 13, 14, 15, 16, 17, 18, 19, 20, 21, 22, 23, 24, 25, 26, 27, 28, 29, 30, 31, 32, 33, 34, 35, 36, 37, 38, 39, 40, 41, 42, 43, 44, 45, 46, 47, 48, 49, 50, 51, 52, 53, 54, 55, 56, 57, 58, 59, 60, 61, 62, 63, 64, 65, 66, 67, 68, 69, 70, 71, 72, 73, 74, 75, 76, 77, 78, 79, 80, 81, 82, 83, 84, 85, 86, 87, 88, 89, 90, 91, 92, 93, 94, 95, 96, 97, 98, 99, 100, 101, 102, 103, 104] dt dt := Fr_refl
  have hqo := QOC_R hd3 hM hk1
  have hb1_ := hM.1.1
  have hb2_ := hM.1.2.1
  have hb3_ := hM.1.2.2.1
  have halk : ALK dt (dt 80) := ⟨hd7, hd3, hd5, hd9, hk1, hk2⟩
  have hav_ : ∀ i : Nat, (i : Int) < dt 12 3 → 0 ≤ dt 13 (6 * i + 1) ∧ dt 13 (6 * i + 1) < dt 7 3 := fun i hi => by have z := hd11 i (by omega); have y := z.2.2 1 (by decide); have w := z.2.1; omega
  refine go_toq PM267 (k := 5) (pc' := 1292) (L' := [some (.inr (.inr (some 3000))), some (.inr (.inr (some 0))), some (.inr (.inr (some 79))), some (.inl i)]) (st' := [.inl (i + 1), .inr (.inr (some 3000)), .inr (.inr (some 0))]) (w' := (SH, dt)) rfl ?_
  have r1 := i32_R (xs ((i + 1).toNat))
  refine go_smpq PM267 (L' := [some (.inr (.inr (some 3000))), some (.inr (.inr (some 0))), some (.inr (.inr (some 79))), some (.inl i)]) (st' := [.inl ((xs ((i + 1).toNat)).toInt), .inr (.inr (some 0))]) (w' := (SH, dt)) rfl rfl (s_iald (n := L) (f := fun j => (xs j).toInt) (am_scr hLL) ⟨by omega, by omega⟩) ?_
  refine go_callq PM267 PM96 (Q' := _) rfl rfl rfl rfl (sp_X5_score L xs sio (d + 32) dt hI  ((xs ((i + 1).toNat)).toInt) ⟨by omega, by omega⟩ ) ?_
  rintro _ _ ⟨dt3, rfl, hI4, hF5, h2⟩
  refine ⟨rfl, ?_⟩
  have hF6 : Fr [0, 1, 2, 3, 4, 5, 6, 7, 8, 9, 10, 11, 12, 13, 14, 15, 16, 17, 18, 19, 20, 21, 22, 23, 24, 25, 26, 27, 28, 29, 30, 31, 32, 33, 34, 35, 36, 37, 38, 39, 40, 41, 42, 43, 44, 45, 46, 47, 48, 49, 50, 51, 52, 53, 54, 55, 56, 57, 58, 59, 60, 61, 62, 63, 64, 65, 66, 67, 68, 69, 70, 71, 72, 73, 74, 75, 76, 77, 78, 79, 80, 81, 82, 83, 84, 85, 86, 87, 88, 89, 90, 91, 92, 93, 94, 95, 96, 97, 98, 99, 100, 101, 102, 103, 104] dt dt3 := Fr_tr hF hF5 (by decide)
  have hM7 : MW (dt3 80) := MW_fr hM hF5 (by decide)
  have w8 : dt3 1 0 = dt 1 0 := hF5 1 (by decide) 0
  have w9 : dt3 7 3 = dt 7 3 := hF5 7 (by decide) 3
  have w10 : dt3 10 3 = dt 10 3 := hF5 10 (by decide) 3
  have w11 : dt3 12 3 = dt 12 3 := hF5 12 (by decide) 3
  have w12 : dt3 14 3 = dt 14 3 := hF5 14 (by decide) 3
  have w13 : dt3 16 3 = dt 16 3 := hF5 16 (by decide) 3
  have w14 : dt3 18 0 = dt 18 0 := hF5 18 (by decide) 0
  have w15 : dt3 24 3 = dt 24 3 := hF5 24 (by decide) 3
  have w16 : dt3 27 3 = dt 27 3 := hF5 27 (by decide) 3
  have w17 : dt3 29 3 = dt 29 3 := hF5 29 (by decide) 3
  have w18 : dt3 31 3 = dt 31 3 := hF5 31 (by decide) 3
  have w19 : dt3 33 3 = dt 33 3 := hF5 33 (by decide) 3
  have w20 : dt3 0 2 = dt 0 2 := hF5 0 (by decide) 2
  have w21 : dt3 35 1 = dt 35 1 := hF5 35 (by decide) 1
  have w22 : dt3 35 2 = dt 35 2 := hF5 35 (by decide) 2
  have w23 : dt3 35 3 = dt 35 3 := hF5 35 (by decide) 3
  have w24 : dt3 80 0 = dt 80 0 := hF5 80 (by decide) 0
  have w25 : dt3 80 1 = dt 80 1 := hF5 80 (by decide) 1
  have w26 : dt3 80 2 = dt 80 2 := hF5 80 (by decide) 2
  have w27 : dt3 80 3 = dt 80 3 := hF5 80 (by decide) 3
  have w28 : dt3 80 4 = dt 80 4 := hF5 80 (by decide) 4
  have w29 : dt3 80 5 = dt 80 5 := hF5 80 (by decide) 5
  have w30 : dt3 81 0 = dt 81 0 := hF5 81 (by decide) 0
  have w31 : dt3 81 1 = dt 81 1 := hF5 81 (by decide) 1
  have w32 : dt3 81 2 = dt 81 2 := hF5 81 (by decide) 2
  have w33 : dt3 81 3 = dt 81 3 := hF5 81 (by decide) 3
  have w34 : dt3 81 4 = dt 81 4 := hF5 81 (by decide) 4
  have w35 : dt3 81 5 = dt 81 5 := hF5 81 (by decide) 5
  have w36 : dt3 79 2 = dt 79 2 := hF5 79 (by decide) 2
  have w37 : dt3 79 12 = dt 79 12 := hF5 79 (by decide) 12
  have w38 : dt3 79 19 = dt 79 19 := hF5 79 (by decide) 19
  have w39 : dt3 79 21 = dt 79 21 := hF5 79 (by decide) 21
  rcases h2 with ⟨v_h2, rfl, h2r, h2⟩
  have M240 : MW (dt3 81) := MW_frk hM2 hF5 (by decide)
  have C41 : ∀ j : Nat, dt3 2 j = dt 2 j := fun j => (hF5 2 (by decide) j).trans ((fun _ => rfl) j)
  have C42 : ∀ j : Nat, dt3 3 j = dt 3 j := fun j => (hF5 3 (by decide) j).trans ((fun _ => rfl) j)
  have C43 : ∀ j : Nat, dt3 4 j = dt 4 j := fun j => (hF5 4 (by decide) j).trans ((fun _ => rfl) j)
  have C44 : ∀ j : Nat, dt3 5 j = dt 5 j := fun j => (hF5 5 (by decide) j).trans ((fun _ => rfl) j)
  have C45 : ∀ j : Nat, dt3 6 j = dt 6 j := fun j => (hF5 6 (by decide) j).trans ((fun _ => rfl) j)
  have C46 : ∀ j : Nat, dt3 8 j = dt 8 j := fun j => (hF5 8 (by decide) j).trans ((fun _ => rfl) j)
  have C47 : ∀ j : Nat, dt3 9 j = dt 9 j := fun j => (hF5 9 (by decide) j).trans ((fun _ => rfl) j)
  have C48 : ∀ j : Nat, dt3 11 j = dt 11 j := fun j => (hF5 11 (by decide) j).trans ((fun _ => rfl) j)
  have C49 : ∀ j : Nat, dt3 19 j = dt 19 j := fun j => (hF5 19 (by decide) j).trans ((fun _ => rfl) j)
  have C50 : ∀ j : Nat, dt3 20 j = dt 20 j := fun j => (hF5 20 (by decide) j).trans ((fun _ => rfl) j)
  have C51 : ∀ j : Nat, dt3 21 j = dt 21 j := fun j => (hF5 21 (by decide) j).trans ((fun _ => rfl) j)
  have C52 : ∀ j : Nat, dt3 22 j = dt 22 j := fun j => (hF5 22 (by decide) j).trans ((fun _ => rfl) j)
  have C53 : ∀ j : Nat, dt3 23 j = dt 23 j := fun j => (hF5 23 (by decide) j).trans ((fun _ => rfl) j)
  have C54 : ∀ j : Nat, dt3 25 j = dt 25 j := fun j => (hF5 25 (by decide) j).trans ((fun _ => rfl) j)
  have C55 : ∀ j : Nat, dt3 26 j = dt 26 j := fun j => (hF5 26 (by decide) j).trans ((fun _ => rfl) j)
  have C56 : ∀ j : Nat, dt3 28 j = dt 28 j := fun j => (hF5 28 (by decide) j).trans ((fun _ => rfl) j)
  have C57 : ∀ j : Nat, dt3 13 j = dt 13 j := fun j => (hF5 13 (by decide) j).trans ((fun _ => rfl) j)
  have C58 : ∀ j : Nat, dt3 30 j = dt 30 j := fun j => (hF5 30 (by decide) j).trans ((fun _ => rfl) j)
  have C59 : ∀ j : Nat, dt3 36 j = dt 36 j := fun j => (hF5 36 (by decide) j).trans ((fun _ => rfl) j)
  have C60 : ∀ j : Nat, dt3 80 j = dt 80 j := fun j => (hF5 80 (by decide) j).trans ((fun _ => rfl) j)
  have C61 : ∀ j : Nat, dt3 81 j = dt 81 j := fun j => (hF5 81 (by decide) j).trans ((fun _ => rfl) j)
  have C62 : ∀ j : Nat, dt3 85 j = dt 85 j := fun j => (hF5 85 (by decide) j).trans ((fun _ => rfl) j)
  refine go_toq PM267 (k := 6) (pc' := 1302) (L' := [some (.inr (.inr (some 3000))), some (.inr (.inr (some 0))), some (.inr (.inr (some 79))), some (.inl i)]) (st' := [.inl (i + 1), .inr (.inr (some 3000)), .inr (.inr (some 79))]) (w' := (SH, dt3)) rfl ?_
  have r63 := i32_R (xs ((i + 1).toNat))
  refine go_smpq PM267 (L' := [some (.inr (.inr (some 3000))), some (.inr (.inr (some 0))), some (.inr (.inr (some 79))), some (.inl i)]) (st' := [.inl ((xs ((i + 1).toNat)).toInt), .inr (.inr (some 79))]) (w' := (SH, dt3)) rfl rfl (s_iald (n := L) (f := fun j => (xs j).toInt) (am_scr hLL) ⟨by omega, by omega⟩) ?_
  refine go_callq PM267 PM245 (Q' := _) rfl rfl rfl rfl (sp_X6_score L xs sio (d + 30) dt3 hI4 hM7  ((xs ((i + 1).toNat)).toInt) ⟨by omega, by omega⟩ ) ?_
  rintro _ _ ⟨dt65, rfl, hI66, hF67, h64⟩
  refine ⟨rfl, ?_⟩
  have hF68 : Fr [0, 1, 2, 3, 4, 5, 6, 7, 8, 9, 10, 11, 12, 13, 14, 15, 16, 17, 18, 19, 20, 21, 22, 23, 24, 25, 26, 27, 28, 29, 30, 31, 32, 33, 34, 35, 36, 37, 38, 39, 40, 41, 42, 43, 44, 45, 46, 47, 48, 49, 50, 51, 52, 53, 54, 55, 56, 57, 58, 59, 60, 61, 62, 63, 64, 65, 66, 67, 68, 69, 70, 71, 72, 73, 74, 75, 76, 77, 78, 79, 80, 81, 82, 83, 84, 85, 86, 87, 88, 89, 90, 91, 92, 93, 94, 95, 96, 97, 98, 99, 100, 101, 102, 103, 104] dt dt65 := Fr_tr hF6 hF67 (by decide)
  have hM69 : MW (dt65 80) := MW_fr hM7 hF67 (by decide)
  have w70 : dt65 1 0 = dt 1 0 := (hF67 1 (by decide) 0).trans w8
  have w71 : dt65 7 3 = dt 7 3 := (hF67 7 (by decide) 3).trans w9
  have w72 : dt65 10 3 = dt 10 3 := (hF67 10 (by decide) 3).trans w10
  have w73 : dt65 12 3 = dt 12 3 := (hF67 12 (by decide) 3).trans w11
  have w74 : dt65 14 3 = dt 14 3 := (hF67 14 (by decide) 3).trans w12
  have w75 : dt65 16 3 = dt 16 3 := (hF67 16 (by decide) 3).trans w13
  have w76 : dt65 18 0 = dt 18 0 := (hF67 18 (by decide) 0).trans w14
  have w77 : dt65 24 3 = dt 24 3 := (hF67 24 (by decide) 3).trans w15
  have w78 : dt65 27 3 = dt 27 3 := (hF67 27 (by decide) 3).trans w16
  have w79 : dt65 29 3 = dt 29 3 := (hF67 29 (by decide) 3).trans w17
  have w80 : dt65 31 3 = dt 31 3 := (hF67 31 (by decide) 3).trans w18
  have w81 : dt65 33 3 = dt 33 3 := (hF67 33 (by decide) 3).trans w19
  have w82 : dt65 0 2 = dt 0 2 := (hF67 0 (by decide) 2).trans w20
  have w83 : dt65 35 1 = dt 35 1 := (hF67 35 (by decide) 1).trans w21
  have w84 : dt65 35 2 = dt 35 2 := (hF67 35 (by decide) 2).trans w22
  have w85 : dt65 35 3 = dt 35 3 := (hF67 35 (by decide) 3).trans w23
  have w86 : dt65 80 0 = dt 80 0 := (hF67 80 (by decide) 0).trans w24
  have w87 : dt65 80 1 = dt 80 1 := (hF67 80 (by decide) 1).trans w25
  have w88 : dt65 80 2 = dt 80 2 := (hF67 80 (by decide) 2).trans w26
  have w89 : dt65 80 3 = dt 80 3 := (hF67 80 (by decide) 3).trans w27
  have w90 : dt65 80 4 = dt 80 4 := (hF67 80 (by decide) 4).trans w28
  have w91 : dt65 80 5 = dt 80 5 := (hF67 80 (by decide) 5).trans w29
  have w92 : dt65 81 0 = dt 81 0 := (hF67 81 (by decide) 0).trans w30
  have w93 : dt65 81 1 = dt 81 1 := (hF67 81 (by decide) 1).trans w31
  have w94 : dt65 81 2 = dt 81 2 := (hF67 81 (by decide) 2).trans w32
  have w95 : dt65 81 3 = dt 81 3 := (hF67 81 (by decide) 3).trans w33
  have w96 : dt65 81 4 = dt 81 4 := (hF67 81 (by decide) 4).trans w34
  have w97 : dt65 81 5 = dt 81 5 := (hF67 81 (by decide) 5).trans w35
  have w98 : dt65 79 2 = dt 79 2 := (hF67 79 (by decide) 2).trans w36
  have w99 : dt65 79 12 = dt 79 12 := (hF67 79 (by decide) 12).trans w37
  have w100 : dt65 79 19 = dt 79 19 := (hF67 79 (by decide) 19).trans w38
  have w101 : dt65 79 21 = dt 79 21 := (hF67 79 (by decide) 21).trans w39
  rcases h64 with ⟨v_h64, rfl, h64r, h64⟩
  have M2102 : MW (dt65 81) := MW_frk M240 hF67 (by decide)
  have C103 : ∀ j : Nat, dt65 2 j = dt 2 j := fun j => (hF67 2 (by decide) j).trans (C41 j)
  have C104 : ∀ j : Nat, dt65 3 j = dt 3 j := fun j => (hF67 3 (by decide) j).trans (C42 j)
  have C105 : ∀ j : Nat, dt65 4 j = dt 4 j := fun j => (hF67 4 (by decide) j).trans (C43 j)
  have C106 : ∀ j : Nat, dt65 5 j = dt 5 j := fun j => (hF67 5 (by decide) j).trans (C44 j)
  have C107 : ∀ j : Nat, dt65 6 j = dt 6 j := fun j => (hF67 6 (by decide) j).trans (C45 j)
  have C108 : ∀ j : Nat, dt65 8 j = dt 8 j := fun j => (hF67 8 (by decide) j).trans (C46 j)
  have C109 : ∀ j : Nat, dt65 9 j = dt 9 j := fun j => (hF67 9 (by decide) j).trans (C47 j)
  have C110 : ∀ j : Nat, dt65 11 j = dt 11 j := fun j => (hF67 11 (by decide) j).trans (C48 j)
  have C111 : ∀ j : Nat, dt65 19 j = dt 19 j := fun j => (hF67 19 (by decide) j).trans (C49 j)
  have C112 : ∀ j : Nat, dt65 20 j = dt 20 j := fun j => (hF67 20 (by decide) j).trans (C50 j)
  have C113 : ∀ j : Nat, dt65 21 j = dt 21 j := fun j => (hF67 21 (by decide) j).trans (C51 j)
  have C114 : ∀ j : Nat, dt65 22 j = dt 22 j := fun j => (hF67 22 (by decide) j).trans (C52 j)
  have C115 : ∀ j : Nat, dt65 23 j = dt 23 j := fun j => (hF67 23 (by decide) j).trans (C53 j)
  have C116 : ∀ j : Nat, dt65 25 j = dt 25 j := fun j => (hF67 25 (by decide) j).trans (C54 j)
  have C117 : ∀ j : Nat, dt65 26 j = dt 26 j := fun j => (hF67 26 (by decide) j).trans (C55 j)
  have C118 : ∀ j : Nat, dt65 28 j = dt 28 j := fun j => (hF67 28 (by decide) j).trans (C56 j)
  have C119 : ∀ j : Nat, dt65 13 j = dt 13 j := fun j => (hF67 13 (by decide) j).trans (C57 j)
  have C120 : ∀ j : Nat, dt65 30 j = dt 30 j := fun j => (hF67 30 (by decide) j).trans (C58 j)
  have C121 : ∀ j : Nat, dt65 36 j = dt 36 j := fun j => (hF67 36 (by decide) j).trans (C59 j)
  have C122 : ∀ j : Nat, dt65 80 j = dt 80 j := fun j => (hF67 80 (by decide) j).trans (C60 j)
  have C123 : ∀ j : Nat, dt65 81 j = dt 81 j := fun j => (hF67 81 (by decide) j).trans (C61 j)
  have C124 : ∀ j : Nat, dt65 85 j = dt 85 j := fun j => (hF67 85 (by decide) j).trans (C62 j)
  refine go_toq PM267 (k := 2) (pc' := 1435) (L' := [some (.inr (.inr (some 3000))), some (.inr (.inr (some 0))), some (.inr (.inr (some 79))), some (.inl i)]) (st' := []) (w' := (SH, dt65)) rfl ?_
  exact K dt65 hI66 hM69 M2102 (w70.trans (hk0.trans w86.symm)) (w71.trans (hk1.trans w87.symm)) (w72.trans (hk2.trans w88.symm)) (w73.trans (hk3.trans w89.symm)) (w74.trans (hk4.trans w90.symm)) (w75.trans (hk5.trans w91.symm)) (w76.trans (hk6.trans w92.symm)) (w77.trans (hk7.trans w93.symm)) (w78.trans (hk8.trans w94.symm)) (w79.trans (hk9.trans w95.symm)) (w80.trans (hk10.trans w96.symm)) (w81.trans (hk11.trans w97.symm)) (w82.trans (hk12.trans w98.symm)) (w83.trans (hk13.trans w99.symm)) (w84.trans (hk14.trans w100.symm)) (w85.trans (hk15.trans w101.symm)) (by first | exact hI | exact TPL_k hd0 C121 C124 (by omega) | (exfalso; omega)) (by first | exact hI | exact SCL_k hd1 hM (fun j _ => C103 j) (fun j _ => C104 j) (fun j _ _ => C122 j) | (exfalso; omega)) (by first | exact hI | exact SCL_k hd2 hM2 (fun j _ => C111 j) (fun j _ => C112 j) (fun j _ _ => C123 j) | (exfalso; omega)) (by first | exact hI | exact QRL_k hd3 hM (fun j _ => C108 j) (C122 1) (fun j _ _ => C122 j) | (exfalso; omega)) (by first | exact hI | exact QRL_k hd4 hM2 (fun j _ => C116 j) (C123 1) (fun j _ _ => C123 j) | (exfalso; omega)) (by first | exact hI | exact SDL_k hd5 hM (fun j _ => C109 j) (C122 1) (fun j _ _ => C122 j) (fun j _ _ => C122 j) | (exfalso; omega)) (by first | exact hI | exact SDL_k hd6 hM2 (fun j _ => C117 j) (C123 1) (fun j _ _ => C123 j) (fun j _ _ => C123 j) | (exfalso; omega)) (by first | exact hI | exact LWL_k hd7 hM (fun j _ => C105 j) (fun j _ => C106 j) (fun j _ => C107 j) (fun j _ _ => C122 j) | (exfalso; omega)) (by first | exact hI | exact LWL_k hd8 hM2 (fun j _ => C113 j) (fun j _ => C114 j) (fun j _ => C115 j) (fun j _ _ => C123 j) | (exfalso; omega)) (by first | exact hI | exact CHL_k hd9 hM (fun j _ => C110 j) (by omega) (fun j _ _ => C122 j) | (exfalso; omega)) (by first | exact hI | exact CHL_k hd10 hM2 (fun j _ => C118 j) (by omega) (fun j _ _ => C123 j) | (exfalso; omega)) (by first | exact hI | exact ANL_k hd11 hM (fun j _ => C119 j) (by omega) (by omega) (by omega) (fun j _ _ => C122 j) | (exfalso; omega)) (by first | exact hI | exact ANL_k hd12 hM2 (fun j _ => C120 j) (by omega) (by omega) (by omega) (fun j _ _ => C123 j) | (exfalso; omega))
set_option maxRecDepth 20000 in
set_option maxHeartbeats 8000000 in
theorem sp_case30 (L : Nat) (xs : Nat → Int32) (sio : Option Nat) (d : Nat) (Q : Option AV → am_W → Prop) (hLL : L ≤ 3072) (i : Int) (hi : 0 ≤ i ∧ i ≤ 3066) (hil : i ≤ (L : Int) - 6) (dt : Nat → Nat → Int) (hI : InvC dt) (hM : MW (dt 80)) (hM2 : MW (dt 81)) (hk0 : dt 1 0 = dt 80 0) (hk1 : dt 7 3 = dt 80 1) (hk2 : dt 10 3 = dt 80 2) (hk3 : dt 12 3 = dt 80 3) (hk4 : dt 14 3 = dt 80 4) (hk5 : dt 16 3 = dt 80 5) (hk6 : dt 18 0 = dt 81 0) (hk7 : dt 24 3 = dt 81 1) (hk8 : dt 27 3 = dt 81 2) (hk9 : dt 29 3 = dt 81 3) (hk10 : dt 31 3 = dt 81 4) (hk11 : dt 33 3 = dt 81 5) (hk12 : dt 0 2 = dt 79 2) (hk13 : dt 35 1 = dt 79 12) (hk14 : dt 35 2 = dt 79 19) (hk15 : dt 35 3 = dt 79 21) (hd0 : TPL (dt 36) (dt 85) (dt 35 1)) (hd1 : SCL (dt 2) (dt 3) (dt 80)) (hd2 : SCL (dt 19) (dt 20) (dt 81)) (hd3 : QRL (dt 8) (dt 80)) (hd4 : QRL (dt 25) (dt 81)) (hd5 : SDL (dt 9) (dt 80)) (hd6 : SDL (dt 26) (dt 81)) (hd7 : LWL (dt 4) (dt 5) (dt 6) (dt 80)) (hd8 : LWL (dt 21) (dt 22) (dt 23) (dt 81)) (hd9 : CHL (dt 11) (dt 80)) (hd10 : CHL (dt 28) (dt 81)) (hd11 : ANL (dt 13) (dt 80)) (hd12 : ANL (dt 30) (dt 81)) (K : ∀ (dt : Nat → Nat → Int) (hI : InvC dt) (hM : MW (dt 80)) (hM2 : MW (dt 81)) (hk0 : dt 1 0 = dt 80 0) (hk1 : dt 7 3 = dt 80 1) (hk2 : dt 10 3 = dt 80 2) (hk3 : dt 12 3 = dt 80 3) (hk4 : dt 14 3 = dt 80 4) (hk5 : dt 16 3 = dt 80 5) (hk6 : dt 18 0 = dt 81 0) (hk7 : dt 24 3 = dt 81 1) (hk8 : dt 27 3 = dt 81 2) (hk9 : dt 29 3 = dt 81 3) (hk10 : dt 31 3 = dt 81 4) (hk11 : dt 33 3 = dt 81 5) (hk12 : dt 0 2 = dt 79 2) (hk13 : dt 35 1 = dt 79 12) (hk14 : dt 35 2 = dt 79 19) (hk15 : dt 35 3 = dt 79 21) (hd0 : TPL (dt 36) (dt 85) (dt 35 1)) (hd1 : SCL (dt 2) (dt 3) (dt 80)) (hd2 : SCL (dt 19) (dt 20) (dt 81)) (hd3 : QRL (dt 8) (dt 80)) (hd4 : QRL (dt 25) (dt 81)) (hd5 : SDL (dt 9) (dt 80)) (hd6 : SDL (dt 26) (dt 81)) (hd7 : LWL (dt 4) (dt 5) (dt 6) (dt 80)) (hd8 : LWL (dt 21) (dt 22) (dt 23) (dt 81)) (hd9 : CHL (dt 11) (dt 80)) (hd10 : CHL (dt 28) (dt 81)) (hd11 : ANL (dt 13) (dt 80)) (hd12 : ANL (dt 30) (dt 81)), GO (am_XX L xs sio) (d + 39) 267 1435 [some (.inr (.inr (some 3000))), some (.inr (.inr (some 0))), some (.inr (.inr (some 79))), some (.inl i)] [] (SH, dt) Q) : GO (am_XX L xs sio) (d + 39) 267 1310 [some (.inr (.inr (some 3000))), some (.inr (.inr (some 0))), some (.inr (.inr (some 79))), some (.inl i)] [] (SH, dt) Q := by
  have hF : Fr [0, 1, 2, 3, 4, 5, 6, 7, 8, 9, 10, 11, 12, 13, 14, 15, 16, 17, 18, 19, 20, 21, 22, 23, 24, 25, 26, 27, 28, 29, 30, 31, 32, 33, 34, 35, 36, 37, 38, 39, 40, 41, 42, 43, 44, 45, 46, 47, 48, 49, 50, 51, 52, 53, 54, 55, 56, 57, 58, 59, 60, 61, 62, 63, 64, 65, 66, 67, 68, 69, 70, 71, 72, 73, 74, 75, 76, 77, 78, 79, 80, 81, 82, 83, 84, 85, 86, 87, 88, 89, 90, 91, 92, 93, 94, 95, 96, 97, 98, 99, 100, 101, 102, 103, 104] dt dt := Fr_refl
  have hqo := QOC_R hd3 hM hk1
  have hb1_ := hM.1.1
  have hb2_ := hM.1.2.1
  have hb3_ := hM.1.2.2.1
  have halk : ALK dt (dt 80) := ⟨hd7, hd3, hd5, hd9, hk1, hk2⟩
  have hav_ : ∀ i : Nat, (i : Int) < dt 12 3 → 0 ≤ dt 13 (6 * i + 1) ∧ dt 13 (6 * i + 1) < dt 7 3 := fun i hi => by have z := hd11 i (by omega); have y := z.2.2 1 (by decide); have w := z.2.1; omega
  refine go_toq PM267 (k := 5) (pc' := 1315) (L' := [some (.inr (.inr (some 3000))), some (.inr (.inr (some 0))), some (.inr (.inr (some 79))), some (.inl i)]) (st' := [.inl (i + 1), .inr (.inr (some 3000)), .inr (.inr (some 0))]) (w' := (SH, dt)) rfl ?_
  have r1 := i32_R (xs ((i + 1).toNat))
  refine go_smpq PM267 (L' := [some (.inr (.inr (some 3000))), some (.inr (.inr (some 0))), some (.inr (.inr (some 79))), some (.inl i)]) (st' := [.inl ((xs ((i + 1).toNat)).toInt), .inr (.inr (some 0))]) (w' := (SH, dt)) rfl rfl (s_iald (n := L) (f := fun j => (xs j).toInt) (am_scr hLL) ⟨by omega, by omega⟩) ?_
  refine go_toq PM267 (k := 4) (pc' := 1320) (L' := [some (.inr (.inr (some 3000))), some (.inr (.inr (some 0))), some (.inr (.inr (some 79))), some (.inl i)]) (st' := [.inl (i + 2), .inr (.inr (some 3000)), .inl ((xs ((i + 1).toNat)).toInt), .inr (.inr (some 0))]) (w' := (SH, dt)) rfl ?_
  have r2 := i32_R (xs ((i + 2).toNat))
  refine go_smpq PM267 (L' := [some (.inr (.inr (some 3000))), some (.inr (.inr (some 0))), some (.inr (.inr (some 79))), some (.inl i)]) (st' := [.inl ((xs ((i + 2).toNat)).toInt), .inl ((xs ((i + 1).toNat)).toInt), .inr (.inr (some 0))]) (w' := (SH, dt)) rfl rfl (s_iald (n := L) (f := fun j => (xs j).toInt) (am_scr hLL) ⟨by omega, by omega⟩) ?_
  refine go_toq PM267 (k := 4) (pc' := 1325) (L' := [some (.inr (.inr (some 3000))), some (.inr (.inr (some 0))), some (.inr (.inr (some 79))), some (.inl i)]) (st' := [.inl (i + 3), .inr (.inr (some 3000)), .inl ((xs ((i + 2).toNat)).toInt), .inl ((xs ((i + 1).toNat)).toInt), .inr (.inr (some 0))]) (w' := (SH, dt)) rfl ?_
  have r3 := i32_R (xs ((i + 3).toNat))
  refine go_smpq PM267 (L' := [some (.inr (.inr (some 3000))), some (.inr (.inr (some 0))), some (.inr (.inr (some 79))), some (.inl i)]) (st' := [.inl ((xs ((i + 3).toNat)).toInt), .inl ((xs ((i + 2).toNat)).toInt), .inl ((xs ((i + 1).toNat)).toInt), .inr (.inr (some 0))]) (w' := (SH, dt)) rfl rfl (s_iald (n := L) (f := fun j => (xs j).toInt) (am_scr hLL) ⟨by omega, by omega⟩) ?_
  refine go_toq PM267 (k := 4) (pc' := 1330) (L' := [some (.inr (.inr (some 3000))), some (.inr (.inr (some 0))), some (.inr (.inr (some 79))), some (.inl i)]) (st' := [.inl (i + 4), .inr (.inr (some 3000)), .inl ((xs ((i + 3).toNat)).toInt), .inl ((xs ((i + 2).toNat)).toInt), .inl ((xs ((i + 1).toNat)).toInt), .inr (.inr (some 0))]) (w' := (SH, dt)) rfl ?_
  have r4 := i32_R (xs ((i + 4).toNat))
  refine go_smpq PM267 (L' := [some (.inr (.inr (some 3000))), some (.inr (.inr (some 0))), some (.inr (.inr (some 79))), some (.inl i)]) (st' := [.inl ((xs ((i + 4).toNat)).toInt), .inl ((xs ((i + 3).toNat)).toInt), .inl ((xs ((i + 2).toNat)).toInt), .inl ((xs ((i + 1).toNat)).toInt), .inr (.inr (some 0))]) (w' := (SH, dt)) rfl rfl (s_iald (n := L) (f := fun j => (xs j).toInt) (am_scr hLL) ⟨by omega, by omega⟩) ?_
  refine go_toq PM267 (k := 4) (pc' := 1335) (L' := [some (.inr (.inr (some 3000))), some (.inr (.inr (some 0))), some (.inr (.inr (some 79))), some (.inl i)]) (st' := [.inl (i + 5), .inr (.inr (some 3000)), .inl ((xs ((i + 4).toNat)).toInt), .inl ((xs ((i + 3).toNat)).toInt), .inl ((xs ((i + 2).toNat)).toInt), .inl ((xs ((i + 1).toNat)).toInt), .inr (.inr (some 0))]) (w' := (SH, dt)) rfl ?_
  have r5 := i32_R (xs ((i + 5).toNat))
  refine go_smpq PM267 (L' := [some (.inr (.inr (some 3000))), some (.inr (.inr (some 0))), some (.inr (.inr (some 79))), some (.inl i)]) (st' := [.inl ((xs ((i + 5).toNat)).toInt), .inl ((xs ((i + 4).toNat)).toInt), .inl ((xs ((i + 3).toNat)).toInt), .inl ((xs ((i + 2).toNat)).toInt), .inl ((xs ((i + 1).toNat)).toInt), .inr (.inr (some 0))]) (w' := (SH, dt)) rfl rfl (s_iald (n := L) (f := fun j => (xs j).toInt) (am_scr hLL) ⟨by omega, by omega⟩) ?_
  refine go_callq PM267 PM97 (Q' := _) rfl rfl rfl rfl (sp_X5_next_f L xs sio (d + 32) dt hI (dt 80) hM ((xs ((i + 1).toNat)).toInt) ⟨by omega, by omega⟩ ((xs ((i + 2).toNat)).toInt) ⟨by omega, by omega⟩ ((xs ((i + 3).toNat)).toInt) ⟨by omega, by omega⟩ ((xs ((i + 4).toNat)).toInt) ⟨by omega, by omega⟩ ((xs ((i + 5).toNat)).toInt) ⟨by omega, by omega⟩ (by first | exact True.intro | with_reducible assumption | rfl | omega | trivial | exact hM2 | exact hd1 | exact hqo | exact halk | exact hav_)) ?_
  rintro _ _ ⟨dt7, rfl, hI8, hF9, h6⟩
  refine ⟨rfl, ?_⟩
  have hF10 : Fr [0, 1, 2, 3, 4, 5, 6, 7, 8, 9, 10, 11, 12, 13, 14, 15, 16, 17, 18, 19, 20, 21, 22, 23, 24, 25, 26, 27, 28, 29, 30, 31, 32, 33, 34, 35, 36, 37, 38, 39, 40, 41, 42, 43, 44, 45, 46, 47, 48, 49, 50, 51, 52, 53, 54, 55, 56, 57, 58, 59, 60, 61, 62, 63, 64, 65, 66, 67, 68, 69, 70, 71, 72, 73, 74, 75, 76, 77, 78, 79, 80, 81, 82, 83, 84, 85, 86, 87, 88, 89, 90, 91, 92, 93, 94, 95, 96, 97, 98, 99, 100, 101, 102, 103, 104] dt dt7 := Fr_tr hF hF9 (by decide)
  have hM11 : MW (dt7 80) := MW_fr hM hF9 (by decide)
  have w12 : dt7 1 0 = dt 1 0 := hF9 1 (by decide) 0
  have w13 : dt7 7 3 = dt 7 3 := hF9 7 (by decide) 3
  have w14 : dt7 10 3 = dt 10 3 := hF9 10 (by decide) 3
  have w15 : dt7 12 3 = dt 12 3 := hF9 12 (by decide) 3
  have w16 : dt7 14 3 = dt 14 3 := hF9 14 (by decide) 3
  have w17 : dt7 16 3 = dt 16 3 := hF9 16 (by decide) 3
  have w18 : dt7 18 0 = dt 18 0 := hF9 18 (by decide) 0
  have w19 : dt7 24 3 = dt 24 3 := hF9 24 (by decide) 3
  have w20 : dt7 27 3 = dt 27 3 := hF9 27 (by decide) 3
  have w21 : dt7 29 3 = dt 29 3 := hF9 29 (by decide) 3
  have w22 : dt7 31 3 = dt 31 3 := hF9 31 (by decide) 3
  have w23 : dt7 33 3 = dt 33 3 := hF9 33 (by decide) 3
  have w24 : dt7 0 2 = dt 0 2 := hF9 0 (by decide) 2
  have w25 : dt7 35 1 = dt 35 1 := hF9 35 (by decide) 1
  have w26 : dt7 35 2 = dt 35 2 := hF9 35 (by decide) 2
  have w27 : dt7 35 3 = dt 35 3 := hF9 35 (by decide) 3
  have w28 : dt7 80 0 = dt 80 0 := hF9 80 (by decide) 0
  have w29 : dt7 80 1 = dt 80 1 := hF9 80 (by decide) 1
  have w30 : dt7 80 2 = dt 80 2 := hF9 80 (by decide) 2
  have w31 : dt7 80 3 = dt 80 3 := hF9 80 (by decide) 3
  have w32 : dt7 80 4 = dt 80 4 := hF9 80 (by decide) 4
  have w33 : dt7 80 5 = dt 80 5 := hF9 80 (by decide) 5
  have w34 : dt7 81 0 = dt 81 0 := hF9 81 (by decide) 0
  have w35 : dt7 81 1 = dt 81 1 := hF9 81 (by decide) 1
  have w36 : dt7 81 2 = dt 81 2 := hF9 81 (by decide) 2
  have w37 : dt7 81 3 = dt 81 3 := hF9 81 (by decide) 3
  have w38 : dt7 81 4 = dt 81 4 := hF9 81 (by decide) 4
  have w39 : dt7 81 5 = dt 81 5 := hF9 81 (by decide) 5
  have w40 : dt7 79 2 = dt 79 2 := hF9 79 (by decide) 2
  have w41 : dt7 79 12 = dt 79 12 := hF9 79 (by decide) 12
  have w42 : dt7 79 19 = dt 79 19 := hF9 79 (by decide) 19
  have w43 : dt7 79 21 = dt 79 21 := hF9 79 (by decide) 21
  rcases h6 with ⟨rfl, h6⟩ | ⟨v_h6, rfl, h6r, h6⟩
  · skip
    have M244 : MW (dt7 81) := MW_frk hM2 hF9 (by decide)
    have C45 : ∀ j : Nat, dt7 2 j = dt 2 j := fun j => (hF9 2 (by decide) j).trans ((fun _ => rfl) j)
    have C46 : ∀ j : Nat, dt7 3 j = dt 3 j := fun j => (hF9 3 (by decide) j).trans ((fun _ => rfl) j)
    have C47 : ∀ j : Nat, dt7 4 j = dt 4 j := fun j => (hF9 4 (by decide) j).trans ((fun _ => rfl) j)
    have C48 : ∀ j : Nat, dt7 5 j = dt 5 j := fun j => (hF9 5 (by decide) j).trans ((fun _ => rfl) j)
    have C49 : ∀ j : Nat, dt7 6 j = dt 6 j := fun j => (hF9 6 (by decide) j).trans ((fun _ => rfl) j)
    have C50 : ∀ j : Nat, dt7 8 j = dt 8 j := fun j => (hF9 8 (by decide) j).trans ((fun _ => rfl) j)
    have C51 : ∀ j : Nat, dt7 9 j = dt 9 j := fun j => (hF9 9 (by decide) j).trans ((fun _ => rfl) j)
    have C52 : ∀ j : Nat, dt7 11 j = dt 11 j := fun j => (hF9 11 (by decide) j).trans ((fun _ => rfl) j)
    have C53 : ∀ j : Nat, dt7 19 j = dt 19 j := fun j => (hF9 19 (by decide) j).trans ((fun _ => rfl) j)
    have C54 : ∀ j : Nat, dt7 20 j = dt 20 j := fun j => (hF9 20 (by decide) j).trans ((fun _ => rfl) j)
    have C55 : ∀ j : Nat, dt7 21 j = dt 21 j := fun j => (hF9 21 (by decide) j).trans ((fun _ => rfl) j)
    have C56 : ∀ j : Nat, dt7 22 j = dt 22 j := fun j => (hF9 22 (by decide) j).trans ((fun _ => rfl) j)
    have C57 : ∀ j : Nat, dt7 23 j = dt 23 j := fun j => (hF9 23 (by decide) j).trans ((fun _ => rfl) j)
    have C58 : ∀ j : Nat, dt7 25 j = dt 25 j := fun j => (hF9 25 (by decide) j).trans ((fun _ => rfl) j)
    have C59 : ∀ j : Nat, dt7 26 j = dt 26 j := fun j => (hF9 26 (by decide) j).trans ((fun _ => rfl) j)
    have C60 : ∀ j : Nat, dt7 28 j = dt 28 j := fun j => (hF9 28 (by decide) j).trans ((fun _ => rfl) j)
    have C61 : ∀ j : Nat, dt7 13 j = dt 13 j := fun j => (hF9 13 (by decide) j).trans ((fun _ => rfl) j)
    have C62 : ∀ j : Nat, dt7 30 j = dt 30 j := fun j => (hF9 30 (by decide) j).trans ((fun _ => rfl) j)
    have C63 : ∀ j : Nat, dt7 36 j = dt 36 j := fun j => (hF9 36 (by decide) j).trans ((fun _ => rfl) j)
    have C64 : ∀ j : Nat, dt7 80 j = dt 80 j := fun j => (hF9 80 (by decide) j).trans ((fun _ => rfl) j)
    have C65 : ∀ j : Nat, dt7 81 j = dt 81 j := fun j => (hF9 81 (by decide) j).trans ((fun _ => rfl) j)
    have C66 : ∀ j : Nat, dt7 85 j = dt 85 j := fun j => (hF9 85 (by decide) j).trans ((fun _ => rfl) j)
    refine go_toq PM267 (k := 6) (pc' := 1345) (L' := [some (.inr (.inr (some 3000))), some (.inr (.inr (some 0))), some (.inr (.inr (some 79))), some (.inl i)]) (st' := [.inl (i + 1), .inr (.inr (some 3000)), .inr (.inr (some 79))]) (w' := (SH, dt7)) rfl ?_
    have r67 := i32_R (xs ((i + 1).toNat))
    refine go_smpq PM267 (L' := [some (.inr (.inr (some 3000))), some (.inr (.inr (some 0))), some (.inr (.inr (some 79))), some (.inl i)]) (st' := [.inl ((xs ((i + 1).toNat)).toInt), .inr (.inr (some 79))]) (w' := (SH, dt7)) rfl rfl (s_iald (n := L) (f := fun j => (xs j).toInt) (am_scr hLL) ⟨by omega, by omega⟩) ?_
    refine go_toq PM267 (k := 4) (pc' := 1350) (L' := [some (.inr (.inr (some 3000))), some (.inr (.inr (some 0))), some (.inr (.inr (some 79))), some (.inl i)]) (st' := [.inl (i + 2), .inr (.inr (some 3000)), .inl ((xs ((i + 1).toNat)).toInt), .inr (.inr (some 79))]) (w' := (SH, dt7)) rfl ?_
    have r68 := i32_R (xs ((i + 2).toNat))
    refine go_smpq PM267 (L' := [some (.inr (.inr (some 3000))), some (.inr (.inr (some 0))), some (.inr (.inr (some 79))), some (.inl i)]) (st' := [.inl ((xs ((i + 2).toNat)).toInt), .inl ((xs ((i + 1).toNat)).toInt), .inr (.inr (some 79))]) (w' := (SH, dt7)) rfl rfl (s_iald (n := L) (f := fun j => (xs j).toInt) (am_scr hLL) ⟨by omega, by omega⟩) ?_
    refine go_toq PM267 (k := 4) (pc' := 1355) (L' := [some (.inr (.inr (some 3000))), some (.inr (.inr (some 0))), some (.inr (.inr (some 79))), some (.inl i)]) (st' := [.inl (i + 3), .inr (.inr (some 3000)), .inl ((xs ((i + 2).toNat)).toInt), .inl ((xs ((i + 1).toNat)).toInt), .inr (.inr (some 79))]) (w' := (SH, dt7)) rfl ?_
    have r69 := i32_R (xs ((i + 3).toNat))
    refine go_smpq PM267 (L' := [some (.inr (.inr (some 3000))), some (.inr (.inr (some 0))), some (.inr (.inr (some 79))), some (.inl i)]) (st' := [.inl ((xs ((i + 3).toNat)).toInt), .inl ((xs ((i + 2).toNat)).toInt), .inl ((xs ((i + 1).toNat)).toInt), .inr (.inr (some 79))]) (w' := (SH, dt7)) rfl rfl (s_iald (n := L) (f := fun j => (xs j).toInt) (am_scr hLL) ⟨by omega, by omega⟩) ?_
    refine go_toq PM267 (k := 4) (pc' := 1360) (L' := [some (.inr (.inr (some 3000))), some (.inr (.inr (some 0))), some (.inr (.inr (some 79))), some (.inl i)]) (st' := [.inl (i + 4), .inr (.inr (some 3000)), .inl ((xs ((i + 3).toNat)).toInt), .inl ((xs ((i + 2).toNat)).toInt), .inl ((xs ((i + 1).toNat)).toInt), .inr (.inr (some 79))]) (w' := (SH, dt7)) rfl ?_
    have r70 := i32_R (xs ((i + 4).toNat))
    refine go_smpq PM267 (L' := [some (.inr (.inr (some 3000))), some (.inr (.inr (some 0))), some (.inr (.inr (some 79))), some (.inl i)]) (st' := [.inl ((xs ((i + 4).toNat)).toInt), .inl ((xs ((i + 3).toNat)).toInt), .inl ((xs ((i + 2).toNat)).toInt), .inl ((xs ((i + 1).toNat)).toInt), .inr (.inr (some 79))]) (w' := (SH, dt7)) rfl rfl (s_iald (n := L) (f := fun j => (xs j).toInt) (am_scr hLL) ⟨by omega, by omega⟩) ?_
    refine go_toq PM267 (k := 4) (pc' := 1365) (L' := [some (.inr (.inr (some 3000))), some (.inr (.inr (some 0))), some (.inr (.inr (some 79))), some (.inl i)]) (st' := [.inl (i + 5), .inr (.inr (some 3000)), .inl ((xs ((i + 4).toNat)).toInt), .inl ((xs ((i + 3).toNat)).toInt), .inl ((xs ((i + 2).toNat)).toInt), .inl ((xs ((i + 1).toNat)).toInt), .inr (.inr (some 79))]) (w' := (SH, dt7)) rfl ?_
    have r71 := i32_R (xs ((i + 5).toNat))
    refine go_smpq PM267 (L' := [some (.inr (.inr (some 3000))), some (.inr (.inr (some 0))), some (.inr (.inr (some 79))), some (.inl i)]) (st' := [.inl ((xs ((i + 5).toNat)).toInt), .inl ((xs ((i + 4).toNat)).toInt), .inl ((xs ((i + 3).toNat)).toInt), .inl ((xs ((i + 2).toNat)).toInt), .inl ((xs ((i + 1).toNat)).toInt), .inr (.inr (some 79))]) (w' := (SH, dt7)) rfl rfl (s_iald (n := L) (f := fun j => (xs j).toInt) (am_scr hLL) ⟨by omega, by omega⟩) ?_
    refine go_callq PM267 PM246 (Q' := _) rfl rfl rfl rfl (sp_X6_next_f L xs sio (d + 31) dt7 hI8 hM11  ((xs ((i + 1).toNat)).toInt) ⟨by omega, by omega⟩ ((xs ((i + 2).toNat)).toInt) ⟨by omega, by omega⟩ ((xs ((i + 3).toNat)).toInt) ⟨by omega, by omega⟩ ((xs ((i + 4).toNat)).toInt) ⟨by omega, by omega⟩ ((xs ((i + 5).toNat)).toInt) ⟨by omega, by omega⟩ ) ?_
    rintro _ _ ⟨dt73, rfl, hI74, hF75, h72⟩
    refine ⟨rfl, ?_⟩
    have hF76 : Fr [0, 1, 2, 3, 4, 5, 6, 7, 8, 9, 10, 11, 12, 13, 14, 15, 16, 17, 18, 19, 20, 21, 22, 23, 24, 25, 26, 27, 28, 29, 30, 31, 32, 33, 34, 35, 36, 37, 38, 39, 40, 41, 42, 43, 44, 45, 46, 47, 48, 49, 50, 51, 52, 53, 54, 55, 56, 57, 58, 59, 60, 61, 62, 63, 64, 65, 66, 67, 68, 69, 70, 71, 72, 73, 74, 75, 76, 77, 78, 79, 80, 81, 82, 83, 84, 85, 86, 87, 88, 89, 90, 91, 92, 93, 94, 95, 96, 97, 98, 99, 100, 101, 102, 103, 104] dt dt73 := Fr_tr hF10 hF75 (by decide)
    have hM77 : MW (dt73 80) := MW_fr hM11 hF75 (by decide)
    have w78 : dt73 1 0 = dt 1 0 := (hF75 1 (by decide) 0).trans w12
    have w79 : dt73 7 3 = dt 7 3 := (hF75 7 (by decide) 3).trans w13
    have w80 : dt73 10 3 = dt 10 3 := (hF75 10 (by decide) 3).trans w14
    have w81 : dt73 12 3 = dt 12 3 := (hF75 12 (by decide) 3).trans w15
    have w82 : dt73 14 3 = dt 14 3 := (hF75 14 (by decide) 3).trans w16
    have w83 : dt73 16 3 = dt 16 3 := (hF75 16 (by decide) 3).trans w17
    have w84 : dt73 18 0 = dt 18 0 := (hF75 18 (by decide) 0).trans w18
    have w85 : dt73 24 3 = dt 24 3 := (hF75 24 (by decide) 3).trans w19
    have w86 : dt73 27 3 = dt 27 3 := (hF75 27 (by decide) 3).trans w20
    have w87 : dt73 29 3 = dt 29 3 := (hF75 29 (by decide) 3).trans w21
    have w88 : dt73 31 3 = dt 31 3 := (hF75 31 (by decide) 3).trans w22
    have w89 : dt73 33 3 = dt 33 3 := (hF75 33 (by decide) 3).trans w23
    have w90 : dt73 0 2 = dt 0 2 := (hF75 0 (by decide) 2).trans w24
    have w91 : dt73 35 1 = dt 35 1 := (hF75 35 (by decide) 1).trans w25
    have w92 : dt73 35 2 = dt 35 2 := (hF75 35 (by decide) 2).trans w26
    have w93 : dt73 35 3 = dt 35 3 := (hF75 35 (by decide) 3).trans w27
    have w94 : dt73 80 0 = dt 80 0 := (hF75 80 (by decide) 0).trans w28
    have w95 : dt73 80 1 = dt 80 1 := (hF75 80 (by decide) 1).trans w29
    have w96 : dt73 80 2 = dt 80 2 := (hF75 80 (by decide) 2).trans w30
    have w97 : dt73 80 3 = dt 80 3 := (hF75 80 (by decide) 3).trans w31
    have w98 : dt73 80 4 = dt 80 4 := (hF75 80 (by decide) 4).trans w32
    have w99 : dt73 80 5 = dt 80 5 := (hF75 80 (by decide) 5).trans w33
    have w100 : dt73 81 0 = dt 81 0 := (hF75 81 (by decide) 0).trans w34
    have w101 : dt73 81 1 = dt 81 1 := (hF75 81 (by decide) 1).trans w35
    have w102 : dt73 81 2 = dt 81 2 := (hF75 81 (by decide) 2).trans w36
    have w103 : dt73 81 3 = dt 81 3 := (hF75 81 (by decide) 3).trans w37
    have w104 : dt73 81 4 = dt 81 4 := (hF75 81 (by decide) 4).trans w38
    have w105 : dt73 81 5 = dt 81 5 := (hF75 81 (by decide) 5).trans w39
    have w106 : dt73 79 2 = dt 79 2 := (hF75 79 (by decide) 2).trans w40
    have w107 : dt73 79 12 = dt 79 12 := (hF75 79 (by decide) 12).trans w41
    have w108 : dt73 79 19 = dt 79 19 := (hF75 79 (by decide) 19).trans w42
    have w109 : dt73 79 21 = dt 79 21 := (hF75 79 (by decide) 21).trans w43
    rcases h72 with ⟨rfl, h72⟩ | ⟨v_h72, rfl, h72r, h72⟩
    · skip
      have M2110 : MW (dt73 81) := MW_frk M244 hF75 (by decide)
      have C111 : ∀ j : Nat, dt73 2 j = dt 2 j := fun j => (hF75 2 (by decide) j).trans (C45 j)
      have C112 : ∀ j : Nat, dt73 3 j = dt 3 j := fun j => (hF75 3 (by decide) j).trans (C46 j)
      have C113 : ∀ j : Nat, dt73 4 j = dt 4 j := fun j => (hF75 4 (by decide) j).trans (C47 j)
      have C114 : ∀ j : Nat, dt73 5 j = dt 5 j := fun j => (hF75 5 (by decide) j).trans (C48 j)
      have C115 : ∀ j : Nat, dt73 6 j = dt 6 j := fun j => (hF75 6 (by decide) j).trans (C49 j)
      have C116 : ∀ j : Nat, dt73 8 j = dt 8 j := fun j => (hF75 8 (by decide) j).trans (C50 j)
      have C117 : ∀ j : Nat, dt73 9 j = dt 9 j := fun j => (hF75 9 (by decide) j).trans (C51 j)
      have C118 : ∀ j : Nat, dt73 11 j = dt 11 j := fun j => (hF75 11 (by decide) j).trans (C52 j)
      have C119 : ∀ j : Nat, dt73 19 j = dt 19 j := fun j => (hF75 19 (by decide) j).trans (C53 j)
      have C120 : ∀ j : Nat, dt73 20 j = dt 20 j := fun j => (hF75 20 (by decide) j).trans (C54 j)
      have C121 : ∀ j : Nat, dt73 21 j = dt 21 j := fun j => (hF75 21 (by decide) j).trans (C55 j)
      have C122 : ∀ j : Nat, dt73 22 j = dt 22 j := fun j => (hF75 22 (by decide) j).trans (C56 j)
      have C123 : ∀ j : Nat, dt73 23 j = dt 23 j := fun j => (hF75 23 (by decide) j).trans (C57 j)
      have C124 : ∀ j : Nat, dt73 25 j = dt 25 j := fun j => (hF75 25 (by decide) j).trans (C58 j)
      have C125 : ∀ j : Nat, dt73 26 j = dt 26 j := fun j => (hF75 26 (by decide) j).trans (C59 j)
      have C126 : ∀ j : Nat, dt73 28 j = dt 28 j := fun j => (hF75 28 (by decide) j).trans (C60 j)
      have C127 : ∀ j : Nat, dt73 13 j = dt 13 j := fun j => (hF75 13 (by decide) j).trans (C61 j)
      have C128 : ∀ j : Nat, dt73 30 j = dt 30 j := fun j => (hF75 30 (by decide) j).trans (C62 j)
      have C129 : ∀ j : Nat, dt73 36 j = dt 36 j := fun j => (hF75 36 (by decide) j).trans (C63 j)
      have C130 : ∀ j : Nat, dt73 80 j = dt 80 j := fun j => (hF75 80 (by decide) j).trans (C64 j)
      have C131 : ∀ j : Nat, dt73 81 j = dt 81 j := fun j => (hF75 81 (by decide) j).trans (C65 j)
      have C132 : ∀ j : Nat, dt73 85 j = dt 85 j := fun j => (hF75 85 (by decide) j).trans (C66 j)
      refine go_toq PM267 (k := 2) (pc' := 1435) (L' := [some (.inr (.inr (some 3000))), some (.inr (.inr (some 0))), some (.inr (.inr (some 79))), some (.inl i)]) (st' := []) (w' := (SH, dt73)) rfl ?_
      exact K dt73 hI74 hM77 M2110 (w78.trans (hk0.trans w94.symm)) (w79.trans (hk1.trans w95.symm)) (w80.trans (hk2.trans w96.symm)) (w81.trans (hk3.trans w97.symm)) (w82.trans (hk4.trans w98.symm)) (w83.trans (hk5.trans w99.symm)) (w84.trans (hk6.trans w100.symm)) (w85.trans (hk7.trans w101.symm)) (w86.trans (hk8.trans w102.symm)) (w87.trans (hk9.trans w103.symm)) (w88.trans (hk10.trans w104.symm)) (w89.trans (hk11.trans w105.symm)) (w90.trans (hk12.trans w106.symm)) (w91.trans (hk13.trans w107.symm)) (w92.trans (hk14.trans w108.symm)) (w93.trans (hk15.trans w109.symm)) (by first | exact hI | exact TPL_k hd0 C129 C132 (by omega) | (exfalso; omega)) (by first | exact hI | exact SCL_k hd1 hM (fun j _ => C111 j) (fun j _ => C112 j) (fun j _ _ => C130 j) | (exfalso; omega)) (by first | exact hI | exact SCL_k hd2 hM2 (fun j _ => C119 j) (fun j _ => C120 j) (fun j _ _ => C131 j) | (exfalso; omega)) (by first | exact hI | exact QRL_k hd3 hM (fun j _ => C116 j) (C130 1) (fun j _ _ => C130 j) | (exfalso; omega)) (by first | exact hI | exact QRL_k hd4 hM2 (fun j _ => C124 j) (C131 1) (fun j _ _ => C131 j) | (exfalso; omega)) (by first | exact hI | exact SDL_k hd5 hM (fun j _ => C117 j) (C130 1) (fun j _ _ => C130 j) (fun j _ _ => C130 j) | (exfalso; omega)) (by first | exact hI | exact SDL_k hd6 hM2 (fun j _ => C125 j) (C131 1) (fun j _ _ => C131 j) (fun j _ _ => C131 j) | (exfalso; omega)) (by first | exact hI | exact LWL_k hd7 hM (fun j _ => C113 j) (fun j _ => C114 j) (fun j _ => C115 j) (fun j _ _ => C130 j) | (exfalso; omega)) (by first | exact hI | exact LWL_k hd8 hM2 (fun j _ => C121 j) (fun j _ => C122 j) (fun j _ => C123 j) (fun j _ _ => C131 j) | (exfalso; omega)) (by first | exact hI | exact CHL_k hd9 hM (fun j _ => C118 j) (by omega) (fun j _ _ => C130 j) | (exfalso; omega)) (by first | exact hI | exact CHL_k hd10 hM2 (fun j _ => C126 j) (by omega) (fun j _ _ => C131 j) | (exfalso; omega)) (by first | exact hI | exact ANL_k hd11 hM (fun j _ => C127 j) (by omega) (by omega) (by omega) (fun j _ _ => C130 j) | (exfalso; omega)) (by first | exact hI | exact ANL_k hd12 hM2 (fun j _ => C128 j) (by omega) (by omega) (by omega) (fun j _ _ => C131 j) | (exfalso; omega))
    · skip
      obtain ⟨h72_0, h72_1⟩ := h72
      have M2133 : MW (dt73 81) := MW_frk M244 hF75 (by decide)
      rw [show dt7 80 = dt 80 from funext C64] at h72_1
      rw [show dt 80 1 = dt 7 3 from hk1.symm] at h72_1
      have C134 : ∀ j : Nat, dt73 2 j = dt 2 j := fun j => (hF75 2 (by decide) j).trans (C45 j)
      have C135 : ∀ j : Nat, dt73 3 j = dt 3 j := fun j => (hF75 3 (by decide) j).trans (C46 j)
      have C136 : ∀ j : Nat, dt73 4 j = dt 4 j := fun j => (hF75 4 (by decide) j).trans (C47 j)
      have C137 : ∀ j : Nat, dt73 5 j = dt 5 j := fun j => (hF75 5 (by decide) j).trans (C48 j)
      have C138 : ∀ j : Nat, dt73 6 j = dt 6 j := fun j => (hF75 6 (by decide) j).trans (C49 j)
      have C139 : ∀ j : Nat, dt73 8 j = dt 8 j := fun j => (hF75 8 (by decide) j).trans (C50 j)
      have C140 : ∀ j : Nat, dt73 9 j = dt 9 j := fun j => (hF75 9 (by decide) j).trans (C51 j)
      have C141 : ∀ j : Nat, dt73 11 j = dt 11 j := fun j => (hF75 11 (by decide) j).trans (C52 j)
      have C142 : ∀ j : Nat, dt73 19 j = dt 19 j := fun j => (hF75 19 (by decide) j).trans (C53 j)
      have C143 : ∀ j : Nat, dt73 20 j = dt 20 j := fun j => (hF75 20 (by decide) j).trans (C54 j)
      have C144 : ∀ j : Nat, dt73 21 j = dt 21 j := fun j => (hF75 21 (by decide) j).trans (C55 j)
      have C145 : ∀ j : Nat, dt73 22 j = dt 22 j := fun j => (hF75 22 (by decide) j).trans (C56 j)
      have C146 : ∀ j : Nat, dt73 23 j = dt 23 j := fun j => (hF75 23 (by decide) j).trans (C57 j)
      have C147 : ∀ j : Nat, dt73 25 j = dt 25 j := fun j => (hF75 25 (by decide) j).trans (C58 j)
      have C148 : ∀ j : Nat, dt73 26 j = dt 26 j := fun j => (hF75 26 (by decide) j).trans (C59 j)
      have C149 : ∀ j : Nat, dt73 28 j = dt 28 j := fun j => (hF75 28 (by decide) j).trans (C60 j)
      have C150 : ∀ j : Nat, dt73 13 j = dt 13 j := fun j => (hF75 13 (by decide) j).trans (C61 j)
      have C151 : ∀ j : Nat, dt73 30 j = dt 30 j := fun j => (hF75 30 (by decide) j).trans (C62 j)
      have C152 : ∀ j : Nat, dt73 36 j = dt 36 j := fun j => (hF75 36 (by decide) j).trans (C63 j)
      have C153 : ∀ j : Nat, dt73 80 j = dt 80 j := fun j => (hF75 80 (by decide) j).trans (C64 j)
      have C154 : ∀ j : Nat, dt73 81 j = dt 81 j := fun j => (hF75 81 (by decide) j).trans (C65 j)
      have C155 : ∀ j : Nat, dt73 85 j = dt 85 j := fun j => (hF75 85 (by decide) j).trans (C66 j)
      refine go_toq PM267 (k := 2) (pc' := 1435) (L' := [some (.inr (.inr (some 3000))), some (.inr (.inr (some 0))), some (.inr (.inr (some 79))), some (.inl i)]) (st' := []) (w' := (SH, dt73)) rfl ?_
      exact K dt73 hI74 hM77 M2133 (w78.trans (hk0.trans w94.symm)) (w79.trans (hk1.trans w95.symm)) (w80.trans (hk2.trans w96.symm)) (w81.trans (hk3.trans w97.symm)) (w82.trans (hk4.trans w98.symm)) (w83.trans (hk5.trans w99.symm)) (w84.trans (hk6.trans w100.symm)) (w85.trans (hk7.trans w101.symm)) (w86.trans (hk8.trans w102.symm)) (w87.trans (hk9.trans w103.symm)) (w88.trans (hk10.trans w104.symm)) (w89.trans (hk11.trans w105.symm)) (w90.trans (hk12.trans w106.symm)) (w91.trans (hk13.trans w107.symm)) (w92.trans (hk14.trans w108.symm)) (w93.trans (hk15.trans w109.symm)) (by first | exact hI | exact TPL_k hd0 C152 C155 (by omega) | (exfalso; omega)) (by first | exact hI | exact SCL_k hd1 hM (fun j _ => C134 j) (fun j _ => C135 j) (fun j _ _ => C153 j) | (exfalso; omega)) (by first | exact hI | exact SCL_k hd2 hM2 (fun j _ => C142 j) (fun j _ => C143 j) (fun j _ _ => C154 j) | (exfalso; omega)) (by first | exact hI | exact QRL_k hd3 hM (fun j _ => C139 j) (C153 1) (fun j _ _ => C153 j) | (exfalso; omega)) (by first | exact hI | exact QRL_k hd4 hM2 (fun j _ => C147 j) (C154 1) (fun j _ _ => C154 j) | (exfalso; omega)) (by first | exact hI | exact SDL_k hd5 hM (fun j _ => C140 j) (C153 1) (fun j _ _ => C153 j) (fun j _ _ => C153 j) | (exfalso; omega)) (by first | exact hI | exact SDL_k hd6 hM2 (fun j _ => C148 j) (C154 1) (fun j _ _ => C154 j) (fun j _ _ => C154 j) | (exfalso; omega)) (by first | exact hI | exact LWL_k hd7 hM (fun j _ => C136 j) (fun j _ => C137 j) (fun j _ => C138 j) (fun j _ _ => C153 j) | (exfalso; omega)) (by first | exact hI | exact LWL_k hd8 hM2 (fun j _ => C144 j) (fun j _ => C145 j) (fun j _ => C146 j) (fun j _ _ => C154 j) | (exfalso; omega)) (by first | exact hI | exact CHL_k hd9 hM (fun j _ => C141 j) (by omega) (fun j _ _ => C153 j) | (exfalso; omega)) (by first | exact hI | exact CHL_k hd10 hM2 (fun j _ => C149 j) (by omega) (fun j _ _ => C154 j) | (exfalso; omega)) (by first | exact hI | exact ANL_k hd11 hM (fun j _ => C150 j) (by omega) (by omega) (by omega) (fun j _ _ => C153 j) | (exfalso; omega)) (by first | exact hI | exact ANL_k hd12 hM2 (fun j _ => C151 j) (by omega) (by omega) (by omega) (fun j _ _ => C154 j) | (exfalso; omega))
  · skip
    obtain ⟨h6_0, h6_1⟩ := h6
    have M2156 : MW (dt7 81) := MW_frk hM2 hF9 (by decide)
    have C157 : ∀ j : Nat, dt7 2 j = dt 2 j := fun j => (hF9 2 (by decide) j).trans ((fun _ => rfl) j)
    have C158 : ∀ j : Nat, dt7 3 j = dt 3 j := fun j => (hF9 3 (by decide) j).trans ((fun _ => rfl) j)
    have C159 : ∀ j : Nat, dt7 4 j = dt 4 j := fun j => (hF9 4 (by decide) j).trans ((fun _ => rfl) j)
    have C160 : ∀ j : Nat, dt7 5 j = dt 5 j := fun j => (hF9 5 (by decide) j).trans ((fun _ => rfl) j)
    have C161 : ∀ j : Nat, dt7 6 j = dt 6 j := fun j => (hF9 6 (by decide) j).trans ((fun _ => rfl) j)
    have C162 : ∀ j : Nat, dt7 8 j = dt 8 j := fun j => (hF9 8 (by decide) j).trans ((fun _ => rfl) j)
    have C163 : ∀ j : Nat, dt7 9 j = dt 9 j := fun j => (hF9 9 (by decide) j).trans ((fun _ => rfl) j)
    have C164 : ∀ j : Nat, dt7 11 j = dt 11 j := fun j => (hF9 11 (by decide) j).trans ((fun _ => rfl) j)
    have C165 : ∀ j : Nat, dt7 19 j = dt 19 j := fun j => (hF9 19 (by decide) j).trans ((fun _ => rfl) j)
    have C166 : ∀ j : Nat, dt7 20 j = dt 20 j := fun j => (hF9 20 (by decide) j).trans ((fun _ => rfl) j)
    have C167 : ∀ j : Nat, dt7 21 j = dt 21 j := fun j => (hF9 21 (by decide) j).trans ((fun _ => rfl) j)
    have C168 : ∀ j : Nat, dt7 22 j = dt 22 j := fun j => (hF9 22 (by decide) j).trans ((fun _ => rfl) j)
    have C169 : ∀ j : Nat, dt7 23 j = dt 23 j := fun j => (hF9 23 (by decide) j).trans ((fun _ => rfl) j)
    have C170 : ∀ j : Nat, dt7 25 j = dt 25 j := fun j => (hF9 25 (by decide) j).trans ((fun _ => rfl) j)
    have C171 : ∀ j : Nat, dt7 26 j = dt 26 j := fun j => (hF9 26 (by decide) j).trans ((fun _ => rfl) j)
    have C172 : ∀ j : Nat, dt7 28 j = dt 28 j := fun j => (hF9 28 (by decide) j).trans ((fun _ => rfl) j)
    have C173 : ∀ j : Nat, dt7 13 j = dt 13 j := fun j => (hF9 13 (by decide) j).trans ((fun _ => rfl) j)
    have C174 : ∀ j : Nat, dt7 30 j = dt 30 j := fun j => (hF9 30 (by decide) j).trans ((fun _ => rfl) j)
    have C175 : ∀ j : Nat, dt7 36 j = dt 36 j := fun j => (hF9 36 (by decide) j).trans ((fun _ => rfl) j)
    have C176 : ∀ j : Nat, dt7 80 j = dt 80 j := fun j => (hF9 80 (by decide) j).trans ((fun _ => rfl) j)
    have C177 : ∀ j : Nat, dt7 81 j = dt 81 j := fun j => (hF9 81 (by decide) j).trans ((fun _ => rfl) j)
    have C178 : ∀ j : Nat, dt7 85 j = dt 85 j := fun j => (hF9 85 (by decide) j).trans ((fun _ => rfl) j)
    refine go_toq PM267 (k := 6) (pc' := 1345) (L' := [some (.inr (.inr (some 3000))), some (.inr (.inr (some 0))), some (.inr (.inr (some 79))), some (.inl i)]) (st' := [.inl (i + 1), .inr (.inr (some 3000)), .inr (.inr (some 79))]) (w' := (SH, dt7)) rfl ?_
    have r179 := i32_R (xs ((i + 1).toNat))
    refine go_smpq PM267 (L' := [some (.inr (.inr (some 3000))), some (.inr (.inr (some 0))), some (.inr (.inr (some 79))), some (.inl i)]) (st' := [.inl ((xs ((i + 1).toNat)).toInt), .inr (.inr (some 79))]) (w' := (SH, dt7)) rfl rfl (s_iald (n := L) (f := fun j => (xs j).toInt) (am_scr hLL) ⟨by omega, by omega⟩) ?_
    refine go_toq PM267 (k := 4) (pc' := 1350) (L' := [some (.inr (.inr (some 3000))), some (.inr (.inr (some 0))), some (.inr (.inr (some 79))), some (.inl i)]) (st' := [.inl (i + 2), .inr (.inr (some 3000)), .inl ((xs ((i + 1).toNat)).toInt), .inr (.inr (some 79))]) (w' := (SH, dt7)) rfl ?_
    have r180 := i32_R (xs ((i + 2).toNat))
    refine go_smpq PM267 (L' := [some (.inr (.inr (some 3000))), some (.inr (.inr (some 0))), some (.inr (.inr (some 79))), some (.inl i)]) (st' := [.inl ((xs ((i + 2).toNat)).toInt), .inl ((xs ((i + 1).toNat)).toInt), .inr (.inr (some 79))]) (w' := (SH, dt7)) rfl rfl (s_iald (n := L) (f := fun j => (xs j).toInt) (am_scr hLL) ⟨by omega, by omega⟩) ?_
    refine go_toq PM267 (k := 4) (pc' := 1355) (L' := [some (.inr (.inr (some 3000))), some (.inr (.inr (some 0))), some (.inr (.inr (some 79))), some (.inl i)]) (st' := [.inl (i + 3), .inr (.inr (some 3000)), .inl ((xs ((i + 2).toNat)).toInt), .inl ((xs ((i + 1).toNat)).toInt), .inr (.inr (some 79))]) (w' := (SH, dt7)) rfl ?_
    have r181 := i32_R (xs ((i + 3).toNat))
    refine go_smpq PM267 (L' := [some (.inr (.inr (some 3000))), some (.inr (.inr (some 0))), some (.inr (.inr (some 79))), some (.inl i)]) (st' := [.inl ((xs ((i + 3).toNat)).toInt), .inl ((xs ((i + 2).toNat)).toInt), .inl ((xs ((i + 1).toNat)).toInt), .inr (.inr (some 79))]) (w' := (SH, dt7)) rfl rfl (s_iald (n := L) (f := fun j => (xs j).toInt) (am_scr hLL) ⟨by omega, by omega⟩) ?_
    refine go_toq PM267 (k := 4) (pc' := 1360) (L' := [some (.inr (.inr (some 3000))), some (.inr (.inr (some 0))), some (.inr (.inr (some 79))), some (.inl i)]) (st' := [.inl (i + 4), .inr (.inr (some 3000)), .inl ((xs ((i + 3).toNat)).toInt), .inl ((xs ((i + 2).toNat)).toInt), .inl ((xs ((i + 1).toNat)).toInt), .inr (.inr (some 79))]) (w' := (SH, dt7)) rfl ?_
    have r182 := i32_R (xs ((i + 4).toNat))
    refine go_smpq PM267 (L' := [some (.inr (.inr (some 3000))), some (.inr (.inr (some 0))), some (.inr (.inr (some 79))), some (.inl i)]) (st' := [.inl ((xs ((i + 4).toNat)).toInt), .inl ((xs ((i + 3).toNat)).toInt), .inl ((xs ((i + 2).toNat)).toInt), .inl ((xs ((i + 1).toNat)).toInt), .inr (.inr (some 79))]) (w' := (SH, dt7)) rfl rfl (s_iald (n := L) (f := fun j => (xs j).toInt) (am_scr hLL) ⟨by omega, by omega⟩) ?_
    refine go_toq PM267 (k := 4) (pc' := 1365) (L' := [some (.inr (.inr (some 3000))), some (.inr (.inr (some 0))), some (.inr (.inr (some 79))), some (.inl i)]) (st' := [.inl (i + 5), .inr (.inr (some 3000)), .inl ((xs ((i + 4).toNat)).toInt), .inl ((xs ((i + 3).toNat)).toInt), .inl ((xs ((i + 2).toNat)).toInt), .inl ((xs ((i + 1).toNat)).toInt), .inr (.inr (some 79))]) (w' := (SH, dt7)) rfl ?_
    have r183 := i32_R (xs ((i + 5).toNat))
    refine go_smpq PM267 (L' := [some (.inr (.inr (some 3000))), some (.inr (.inr (some 0))), some (.inr (.inr (some 79))), some (.inl i)]) (st' := [.inl ((xs ((i + 5).toNat)).toInt), .inl ((xs ((i + 4).toNat)).toInt), .inl ((xs ((i + 3).toNat)).toInt), .inl ((xs ((i + 2).toNat)).toInt), .inl ((xs ((i + 1).toNat)).toInt), .inr (.inr (some 79))]) (w' := (SH, dt7)) rfl rfl (s_iald (n := L) (f := fun j => (xs j).toInt) (am_scr hLL) ⟨by omega, by omega⟩) ?_
    refine go_callq PM267 PM246 (Q' := _) rfl rfl rfl rfl (sp_X6_next_f L xs sio (d + 31) dt7 hI8 hM11  ((xs ((i + 1).toNat)).toInt) ⟨by omega, by omega⟩ ((xs ((i + 2).toNat)).toInt) ⟨by omega, by omega⟩ ((xs ((i + 3).toNat)).toInt) ⟨by omega, by omega⟩ ((xs ((i + 4).toNat)).toInt) ⟨by omega, by omega⟩ ((xs ((i + 5).toNat)).toInt) ⟨by omega, by omega⟩ ) ?_
    rintro _ _ ⟨dt185, rfl, hI186, hF187, h184⟩
    refine ⟨rfl, ?_⟩
    have hF188 : Fr [0, 1, 2, 3, 4, 5, 6, 7, 8, 9, 10, 11, 12, 13, 14, 15, 16, 17, 18, 19, 20, 21, 22, 23, 24, 25, 26, 27, 28, 29, 30, 31, 32, 33, 34, 35, 36, 37, 38, 39, 40, 41, 42, 43, 44, 45, 46, 47, 48, 49, 50, 51, 52, 53, 54, 55, 56, 57, 58, 59, 60, 61, 62, 63, 64, 65, 66, 67, 68, 69, 70, 71, 72, 73, 74, 75, 76, 77, 78, 79, 80, 81, 82, 83, 84, 85, 86, 87, 88, 89, 90, 91, 92, 93, 94, 95, 96, 97, 98, 99, 100, 101, 102, 103, 104] dt dt185 := Fr_tr hF10 hF187 (by decide)
    have hM189 : MW (dt185 80) := MW_fr hM11 hF187 (by decide)
    have w190 : dt185 1 0 = dt 1 0 := (hF187 1 (by decide) 0).trans w12
    have w191 : dt185 7 3 = dt 7 3 := (hF187 7 (by decide) 3).trans w13
    have w192 : dt185 10 3 = dt 10 3 := (hF187 10 (by decide) 3).trans w14
    have w193 : dt185 12 3 = dt 12 3 := (hF187 12 (by decide) 3).trans w15
    have w194 : dt185 14 3 = dt 14 3 := (hF187 14 (by decide) 3).trans w16
    have w195 : dt185 16 3 = dt 16 3 := (hF187 16 (by decide) 3).trans w17
    have w196 : dt185 18 0 = dt 18 0 := (hF187 18 (by decide) 0).trans w18
    have w197 : dt185 24 3 = dt 24 3 := (hF187 24 (by decide) 3).trans w19
    have w198 : dt185 27 3 = dt 27 3 := (hF187 27 (by decide) 3).trans w20
    have w199 : dt185 29 3 = dt 29 3 := (hF187 29 (by decide) 3).trans w21
    have w200 : dt185 31 3 = dt 31 3 := (hF187 31 (by decide) 3).trans w22
    have w201 : dt185 33 3 = dt 33 3 := (hF187 33 (by decide) 3).trans w23
    have w202 : dt185 0 2 = dt 0 2 := (hF187 0 (by decide) 2).trans w24
    have w203 : dt185 35 1 = dt 35 1 := (hF187 35 (by decide) 1).trans w25
    have w204 : dt185 35 2 = dt 35 2 := (hF187 35 (by decide) 2).trans w26
    have w205 : dt185 35 3 = dt 35 3 := (hF187 35 (by decide) 3).trans w27
    have w206 : dt185 80 0 = dt 80 0 := (hF187 80 (by decide) 0).trans w28
    have w207 : dt185 80 1 = dt 80 1 := (hF187 80 (by decide) 1).trans w29
    have w208 : dt185 80 2 = dt 80 2 := (hF187 80 (by decide) 2).trans w30
    have w209 : dt185 80 3 = dt 80 3 := (hF187 80 (by decide) 3).trans w31
    have w210 : dt185 80 4 = dt 80 4 := (hF187 80 (by decide) 4).trans w32
    have w211 : dt185 80 5 = dt 80 5 := (hF187 80 (by decide) 5).trans w33
    have w212 : dt185 81 0 = dt 81 0 := (hF187 81 (by decide) 0).trans w34
    have w213 : dt185 81 1 = dt 81 1 := (hF187 81 (by decide) 1).trans w35
    have w214 : dt185 81 2 = dt 81 2 := (hF187 81 (by decide) 2).trans w36
    have w215 : dt185 81 3 = dt 81 3 := (hF187 81 (by decide) 3).trans w37
    have w216 : dt185 81 4 = dt 81 4 := (hF187 81 (by decide) 4).trans w38
    have w217 : dt185 81 5 = dt 81 5 := (hF187 81 (by decide) 5).trans w39
    have w218 : dt185 79 2 = dt 79 2 := (hF187 79 (by decide) 2).trans w40
    have w219 : dt185 79 12 = dt 79 12 := (hF187 79 (by decide) 12).trans w41
    have w220 : dt185 79 19 = dt 79 19 := (hF187 79 (by decide) 19).trans w42
    have w221 : dt185 79 21 = dt 79 21 := (hF187 79 (by decide) 21).trans w43
    rcases h184 with ⟨rfl, h184⟩ | ⟨v_h184, rfl, h184r, h184⟩
    · skip
      have M2222 : MW (dt185 81) := MW_frk M2156 hF187 (by decide)
      have C223 : ∀ j : Nat, dt185 2 j = dt 2 j := fun j => (hF187 2 (by decide) j).trans (C157 j)
      have C224 : ∀ j : Nat, dt185 3 j = dt 3 j := fun j => (hF187 3 (by decide) j).trans (C158 j)
      have C225 : ∀ j : Nat, dt185 4 j = dt 4 j := fun j => (hF187 4 (by decide) j).trans (C159 j)
      have C226 : ∀ j : Nat, dt185 5 j = dt 5 j := fun j => (hF187 5 (by decide) j).trans (C160 j)
      have C227 : ∀ j : Nat, dt185 6 j = dt 6 j := fun j => (hF187 6 (by decide) j).trans (C161 j)
      have C228 : ∀ j : Nat, dt185 8 j = dt 8 j := fun j => (hF187 8 (by decide) j).trans (C162 j)
      have C229 : ∀ j : Nat, dt185 9 j = dt 9 j := fun j => (hF187 9 (by decide) j).trans (C163 j)
      have C230 : ∀ j : Nat, dt185 11 j = dt 11 j := fun j => (hF187 11 (by decide) j).trans (C164 j)
      have C231 : ∀ j : Nat, dt185 19 j = dt 19 j := fun j => (hF187 19 (by decide) j).trans (C165 j)
      have C232 : ∀ j : Nat, dt185 20 j = dt 20 j := fun j => (hF187 20 (by decide) j).trans (C166 j)
      have C233 : ∀ j : Nat, dt185 21 j = dt 21 j := fun j => (hF187 21 (by decide) j).trans (C167 j)
      have C234 : ∀ j : Nat, dt185 22 j = dt 22 j := fun j => (hF187 22 (by decide) j).trans (C168 j)
      have C235 : ∀ j : Nat, dt185 23 j = dt 23 j := fun j => (hF187 23 (by decide) j).trans (C169 j)
      have C236 : ∀ j : Nat, dt185 25 j = dt 25 j := fun j => (hF187 25 (by decide) j).trans (C170 j)
      have C237 : ∀ j : Nat, dt185 26 j = dt 26 j := fun j => (hF187 26 (by decide) j).trans (C171 j)
      have C238 : ∀ j : Nat, dt185 28 j = dt 28 j := fun j => (hF187 28 (by decide) j).trans (C172 j)
      have C239 : ∀ j : Nat, dt185 13 j = dt 13 j := fun j => (hF187 13 (by decide) j).trans (C173 j)
      have C240 : ∀ j : Nat, dt185 30 j = dt 30 j := fun j => (hF187 30 (by decide) j).trans (C174 j)
      have C241 : ∀ j : Nat, dt185 36 j = dt 36 j := fun j => (hF187 36 (by decide) j).trans (C175 j)
      have C242 : ∀ j : Nat, dt185 80 j = dt 80 j := fun j => (hF187 80 (by decide) j).trans (C176 j)
      have C243 : ∀ j : Nat, dt185 81 j = dt 81 j := fun j => (hF187 81 (by decide) j).trans (C177 j)
      have C244 : ∀ j : Nat, dt185 85 j = dt 85 j := fun j => (hF187 85 (by decide) j).trans (C178 j)
      refine go_toq PM267 (k := 2) (pc' := 1435) (L' := [some (.inr (.inr (some 3000))), some (.inr (.inr (some 0))), some (.inr (.inr (some 79))), some (.inl i)]) (st' := []) (w' := (SH, dt185)) rfl ?_
      exact K dt185 hI186 hM189 M2222 (w190.trans (hk0.trans w206.symm)) (w191.trans (hk1.trans w207.symm)) (w192.trans (hk2.trans w208.symm)) (w193.trans (hk3.trans w209.symm)) (w194.trans (hk4.trans w210.symm)) (w195.trans (hk5.trans w211.symm)) (w196.trans (hk6.trans w212.symm)) (w197.trans (hk7.trans w213.symm)) (w198.trans (hk8.trans w214.symm)) (w199.trans (hk9.trans w215.symm)) (w200.trans (hk10.trans w216.symm)) (w201.trans (hk11.trans w217.symm)) (w202.trans (hk12.trans w218.symm)) (w203.trans (hk13.trans w219.symm)) (w204.trans (hk14.trans w220.symm)) (w205.trans (hk15.trans w221.symm)) (by first | exact hI | exact TPL_k hd0 C241 C244 (by omega) | (exfalso; omega)) (by first | exact hI | exact SCL_k hd1 hM (fun j _ => C223 j) (fun j _ => C224 j) (fun j _ _ => C242 j) | (exfalso; omega)) (by first | exact hI | exact SCL_k hd2 hM2 (fun j _ => C231 j) (fun j _ => C232 j) (fun j _ _ => C243 j) | (exfalso; omega)) (by first | exact hI | exact QRL_k hd3 hM (fun j _ => C228 j) (C242 1) (fun j _ _ => C242 j) | (exfalso; omega)) (by first | exact hI | exact QRL_k hd4 hM2 (fun j _ => C236 j) (C243 1) (fun j _ _ => C243 j) | (exfalso; omega)) (by first | exact hI | exact SDL_k hd5 hM (fun j _ => C229 j) (C242 1) (fun j _ _ => C242 j) (fun j _ _ => C242 j) | (exfalso; omega)) (by first | exact hI | exact SDL_k hd6 hM2 (fun j _ => C237 j) (C243 1) (fun j _ _ => C243 j) (fun j _ _ => C243 j) | (exfalso; omega)) (by first | exact hI | exact LWL_k hd7 hM (fun j _ => C225 j) (fun j _ => C226 j) (fun j _ => C227 j) (fun j _ _ => C242 j) | (exfalso; omega)) (by first | exact hI | exact LWL_k hd8 hM2 (fun j _ => C233 j) (fun j _ => C234 j) (fun j _ => C235 j) (fun j _ _ => C243 j) | (exfalso; omega)) (by first | exact hI | exact CHL_k hd9 hM (fun j _ => C230 j) (by omega) (fun j _ _ => C242 j) | (exfalso; omega)) (by first | exact hI | exact CHL_k hd10 hM2 (fun j _ => C238 j) (by omega) (fun j _ _ => C243 j) | (exfalso; omega)) (by first | exact hI | exact ANL_k hd11 hM (fun j _ => C239 j) (by omega) (by omega) (by omega) (fun j _ _ => C242 j) | (exfalso; omega)) (by first | exact hI | exact ANL_k hd12 hM2 (fun j _ => C240 j) (by omega) (by omega) (by omega) (fun j _ _ => C243 j) | (exfalso; omega))
    · skip
      obtain ⟨h184_0, h184_1⟩ := h184
      have M2245 : MW (dt185 81) := MW_frk M2156 hF187 (by decide)
      rw [show dt7 80 = dt 80 from funext C176] at h184_1
      rw [show dt 80 1 = dt 7 3 from hk1.symm] at h184_1
      have C246 : ∀ j : Nat, dt185 2 j = dt 2 j := fun j => (hF187 2 (by decide) j).trans (C157 j)
      have C247 : ∀ j : Nat, dt185 3 j = dt 3 j := fun j => (hF187 3 (by decide) j).trans (C158 j)
      have C248 : ∀ j : Nat, dt185 4 j = dt 4 j := fun j => (hF187 4 (by decide) j).trans (C159 j)
      have C249 : ∀ j : Nat, dt185 5 j = dt 5 j := fun j => (hF187 5 (by decide) j).trans (C160 j)
      have C250 : ∀ j : Nat, dt185 6 j = dt 6 j := fun j => (hF187 6 (by decide) j).trans (C161 j)
      have C251 : ∀ j : Nat, dt185 8 j = dt 8 j := fun j => (hF187 8 (by decide) j).trans (C162 j)
      have C252 : ∀ j : Nat, dt185 9 j = dt 9 j := fun j => (hF187 9 (by decide) j).trans (C163 j)
      have C253 : ∀ j : Nat, dt185 11 j = dt 11 j := fun j => (hF187 11 (by decide) j).trans (C164 j)
      have C254 : ∀ j : Nat, dt185 19 j = dt 19 j := fun j => (hF187 19 (by decide) j).trans (C165 j)
      have C255 : ∀ j : Nat, dt185 20 j = dt 20 j := fun j => (hF187 20 (by decide) j).trans (C166 j)
      have C256 : ∀ j : Nat, dt185 21 j = dt 21 j := fun j => (hF187 21 (by decide) j).trans (C167 j)
      have C257 : ∀ j : Nat, dt185 22 j = dt 22 j := fun j => (hF187 22 (by decide) j).trans (C168 j)
      have C258 : ∀ j : Nat, dt185 23 j = dt 23 j := fun j => (hF187 23 (by decide) j).trans (C169 j)
      have C259 : ∀ j : Nat, dt185 25 j = dt 25 j := fun j => (hF187 25 (by decide) j).trans (C170 j)
      have C260 : ∀ j : Nat, dt185 26 j = dt 26 j := fun j => (hF187 26 (by decide) j).trans (C171 j)
      have C261 : ∀ j : Nat, dt185 28 j = dt 28 j := fun j => (hF187 28 (by decide) j).trans (C172 j)
      have C262 : ∀ j : Nat, dt185 13 j = dt 13 j := fun j => (hF187 13 (by decide) j).trans (C173 j)
      have C263 : ∀ j : Nat, dt185 30 j = dt 30 j := fun j => (hF187 30 (by decide) j).trans (C174 j)
      have C264 : ∀ j : Nat, dt185 36 j = dt 36 j := fun j => (hF187 36 (by decide) j).trans (C175 j)
      have C265 : ∀ j : Nat, dt185 80 j = dt 80 j := fun j => (hF187 80 (by decide) j).trans (C176 j)
      have C266 : ∀ j : Nat, dt185 81 j = dt 81 j := fun j => (hF187 81 (by decide) j).trans (C177 j)
      have C267 : ∀ j : Nat, dt185 85 j = dt 85 j := fun j => (hF187 85 (by decide) j).trans (C178 j)
      refine go_toq PM267 (k := 2) (pc' := 1435) (L' := [some (.inr (.inr (some 3000))), some (.inr (.inr (some 0))), some (.inr (.inr (some 79))), some (.inl i)]) (st' := []) (w' := (SH, dt185)) rfl ?_
      exact K dt185 hI186 hM189 M2245 (w190.trans (hk0.trans w206.symm)) (w191.trans (hk1.trans w207.symm)) (w192.trans (hk2.trans w208.symm)) (w193.trans (hk3.trans w209.symm)) (w194.trans (hk4.trans w210.symm)) (w195.trans (hk5.trans w211.symm)) (w196.trans (hk6.trans w212.symm)) (w197.trans (hk7.trans w213.symm)) (w198.trans (hk8.trans w214.symm)) (w199.trans (hk9.trans w215.symm)) (w200.trans (hk10.trans w216.symm)) (w201.trans (hk11.trans w217.symm)) (w202.trans (hk12.trans w218.symm)) (w203.trans (hk13.trans w219.symm)) (w204.trans (hk14.trans w220.symm)) (w205.trans (hk15.trans w221.symm)) (by first | exact hI | exact TPL_k hd0 C264 C267 (by omega) | (exfalso; omega)) (by first | exact hI | exact SCL_k hd1 hM (fun j _ => C246 j) (fun j _ => C247 j) (fun j _ _ => C265 j) | (exfalso; omega)) (by first | exact hI | exact SCL_k hd2 hM2 (fun j _ => C254 j) (fun j _ => C255 j) (fun j _ _ => C266 j) | (exfalso; omega)) (by first | exact hI | exact QRL_k hd3 hM (fun j _ => C251 j) (C265 1) (fun j _ _ => C265 j) | (exfalso; omega)) (by first | exact hI | exact QRL_k hd4 hM2 (fun j _ => C259 j) (C266 1) (fun j _ _ => C266 j) | (exfalso; omega)) (by first | exact hI | exact SDL_k hd5 hM (fun j _ => C252 j) (C265 1) (fun j _ _ => C265 j) (fun j _ _ => C265 j) | (exfalso; omega)) (by first | exact hI | exact SDL_k hd6 hM2 (fun j _ => C260 j) (C266 1) (fun j _ _ => C266 j) (fun j _ _ => C266 j) | (exfalso; omega)) (by first | exact hI | exact LWL_k hd7 hM (fun j _ => C248 j) (fun j _ => C249 j) (fun j _ => C250 j) (fun j _ _ => C265 j) | (exfalso; omega)) (by first | exact hI | exact LWL_k hd8 hM2 (fun j _ => C256 j) (fun j _ => C257 j) (fun j _ => C258 j) (fun j _ _ => C266 j) | (exfalso; omega)) (by first | exact hI | exact CHL_k hd9 hM (fun j _ => C253 j) (by omega) (fun j _ _ => C265 j) | (exfalso; omega)) (by first | exact hI | exact CHL_k hd10 hM2 (fun j _ => C261 j) (by omega) (fun j _ _ => C266 j) | (exfalso; omega)) (by first | exact hI | exact ANL_k hd11 hM (fun j _ => C262 j) (by omega) (by omega) (by omega) (fun j _ _ => C265 j) | (exfalso; omega)) (by first | exact hI | exact ANL_k hd12 hM2 (fun j _ => C263 j) (by omega) (by omega) (by omega) (fun j _ _ => C266 j) | (exfalso; omega))
set_option maxRecDepth 20000 in
set_option maxHeartbeats 8000000 in
theorem sp_case31 (L : Nat) (xs : Nat → Int32) (sio : Option Nat) (d : Nat) (Q : Option AV → am_W → Prop) (hLL : L ≤ 3072) (i : Int) (hi : 0 ≤ i ∧ i ≤ 3066) (hil : i ≤ (L : Int) - 6) (dt : Nat → Nat → Int) (hI : InvC dt) (hM : MW (dt 80)) (hM2 : MW (dt 81)) (hk0 : dt 1 0 = dt 80 0) (hk1 : dt 7 3 = dt 80 1) (hk2 : dt 10 3 = dt 80 2) (hk3 : dt 12 3 = dt 80 3) (hk4 : dt 14 3 = dt 80 4) (hk5 : dt 16 3 = dt 80 5) (hk6 : dt 18 0 = dt 81 0) (hk7 : dt 24 3 = dt 81 1) (hk8 : dt 27 3 = dt 81 2) (hk9 : dt 29 3 = dt 81 3) (hk10 : dt 31 3 = dt 81 4) (hk11 : dt 33 3 = dt 81 5) (hk12 : dt 0 2 = dt 79 2) (hk13 : dt 35 1 = dt 79 12) (hk14 : dt 35 2 = dt 79 19) (hk15 : dt 35 3 = dt 79 21) (hd0 : TPL (dt 36) (dt 85) (dt 35 1)) (hd1 : SCL (dt 2) (dt 3) (dt 80)) (hd2 : SCL (dt 19) (dt 20) (dt 81)) (hd3 : QRL (dt 8) (dt 80)) (hd4 : QRL (dt 25) (dt 81)) (hd5 : SDL (dt 9) (dt 80)) (hd6 : SDL (dt 26) (dt 81)) (hd7 : LWL (dt 4) (dt 5) (dt 6) (dt 80)) (hd8 : LWL (dt 21) (dt 22) (dt 23) (dt 81)) (hd9 : CHL (dt 11) (dt 80)) (hd10 : CHL (dt 28) (dt 81)) (hd11 : ANL (dt 13) (dt 80)) (hd12 : ANL (dt 30) (dt 81)) (K : ∀ (dt : Nat → Nat → Int) (hI : InvC dt) (hM : MW (dt 80)) (hM2 : MW (dt 81)) (hk0 : dt 1 0 = dt 80 0) (hk1 : dt 7 3 = dt 80 1) (hk2 : dt 10 3 = dt 80 2) (hk3 : dt 12 3 = dt 80 3) (hk4 : dt 14 3 = dt 80 4) (hk5 : dt 16 3 = dt 80 5) (hk6 : dt 18 0 = dt 81 0) (hk7 : dt 24 3 = dt 81 1) (hk8 : dt 27 3 = dt 81 2) (hk9 : dt 29 3 = dt 81 3) (hk10 : dt 31 3 = dt 81 4) (hk11 : dt 33 3 = dt 81 5) (hk12 : dt 0 2 = dt 79 2) (hk13 : dt 35 1 = dt 79 12) (hk14 : dt 35 2 = dt 79 19) (hk15 : dt 35 3 = dt 79 21) (hd0 : TPL (dt 36) (dt 85) (dt 35 1)) (hd1 : SCL (dt 2) (dt 3) (dt 80)) (hd2 : SCL (dt 19) (dt 20) (dt 81)) (hd3 : QRL (dt 8) (dt 80)) (hd4 : QRL (dt 25) (dt 81)) (hd5 : SDL (dt 9) (dt 80)) (hd6 : SDL (dt 26) (dt 81)) (hd7 : LWL (dt 4) (dt 5) (dt 6) (dt 80)) (hd8 : LWL (dt 21) (dt 22) (dt 23) (dt 81)) (hd9 : CHL (dt 11) (dt 80)) (hd10 : CHL (dt 28) (dt 81)) (hd11 : ANL (dt 13) (dt 80)) (hd12 : ANL (dt 30) (dt 81)), GO (am_XX L xs sio) (d + 39) 267 1435 [some (.inr (.inr (some 3000))), some (.inr (.inr (some 0))), some (.inr (.inr (some 79))), some (.inl i)] [] (SH, dt) Q) : GO (am_XX L xs sio) (d + 39) 267 1373 [some (.inr (.inr (some 3000))), some (.inr (.inr (some 0))), some (.inr (.inr (some 79))), some (.inl i)] [] (SH, dt) Q := by
  have hF : Fr [0, 1, 2, 3, 4, 5, 6, 7, 8, 9, 10, 11, 12, 13, 14, 15, 16, 17, 18, 19, 20, 21, 22, 23, 24, 25, 26, 27, 28, 29, 30, 31, 32, 33, 34, 35, 36, 37, 38, 39, 40, 41, 42, 43, 44, 45, 46, 47, 48, 49, 50, 51, 52, 53, 54, 55, 56, 57, 58, 59, 60, 61, 62, 63, 64, 65, 66, 67, 68, 69, 70, 71, 72, 73, 74, 75, 76, 77, 78, 79, 80, 81, 82, 83, 84, 85, 86, 87, 88, 89, 90, 91, 92, 93, 94, 95, 96, 97, 98, 99, 100, 101, 102, 103, 104] dt dt := Fr_refl
  have hqo := QOC_R hd3 hM hk1
  have hb1_ := hM.1.1
  have hb2_ := hM.1.2.1
  have hb3_ := hM.1.2.2.1
  have halk : ALK dt (dt 80) := ⟨hd7, hd3, hd5, hd9, hk1, hk2⟩
  have hav_ : ∀ i : Nat, (i : Int) < dt 12 3 → 0 ≤ dt 13 (6 * i + 1) ∧ dt 13 (6 * i + 1) < dt 7 3 := fun i hi => by have z := hd11 i (by omega); have y := z.2.2 1 (by decide); have w := z.2.1; omega
  refine go_toq PM267 (k := 5) (pc' := 1378) (L' := [some (.inr (.inr (some 3000))), some (.inr (.inr (some 0))), some (.inr (.inr (some 79))), some (.inl i)]) (st' := [.inl (i + 1), .inr (.inr (some 3000)), .inr (.inr (some 0))]) (w' := (SH, dt)) rfl ?_
  have r1 := i32_R (xs ((i + 1).toNat))
  refine go_smpq PM267 (L' := [some (.inr (.inr (some 3000))), some (.inr (.inr (some 0))), some (.inr (.inr (some 79))), some (.inl i)]) (st' := [.inl ((xs ((i + 1).toNat)).toInt), .inr (.inr (some 0))]) (w' := (SH, dt)) rfl rfl (s_iald (n := L) (f := fun j => (xs j).toInt) (am_scr hLL) ⟨by omega, by omega⟩) ?_
  refine go_ifq PM267 (k := 0) (p1 := 1386) (p2 := 1382) (L' := [some (.inr (.inr (some 3000))), some (.inr (.inr (some 0))), some (.inr (.inr (some 79))), some (.inl i)]) (st' := [.inr (.inr (some 0))]) (w' := (SH, dt)) rfl (z_eq (a := (xs ((i + 1).toNat)).toInt) ⟨by omega, by omega⟩) (fun c2 => ?_) (fun c2 => ?_)
  · skip
    refine go_toq PM267 (k := 1) (pc' := 1387) (L' := [some (.inr (.inr (some 3000))), some (.inr (.inr (some 0))), some (.inr (.inr (some 79))), some (.inl i)]) (st' := [.inl 0, .inr (.inr (some 0))]) (w' := (SH, dt)) rfl ?_
    refine go_callq PM267 PM98 (Q' := _) rfl rfl rfl rfl (sp_X5_image_0a L xs sio (d + 35) dt hI   ) ?_
    rintro _ _ ⟨dt4, rfl, hI5, hF6, h3⟩
    refine ⟨rfl, ?_⟩
    have hF7 : Fr [0, 1, 2, 3, 4, 5, 6, 7, 8, 9, 10, 11, 12, 13, 14, 15, 16, 17, 18, 19, 20, 21, 22, 23, 24, 25, 26, 27, 28, 29, 30, 31, 32, 33, 34, 35, 36, 37, 38, 39, 40, 41, 42, 43, 44, 45, 46, 47, 48, 49, 50, 51, 52, 53, 54, 55, 56, 57, 58, 59, 60, 61, 62, 63, 64, 65, 66, 67, 68, 69, 70, 71, 72, 73, 74, 75, 76, 77, 78, 79, 80, 81, 82, 83, 84, 85, 86, 87, 88, 89, 90, 91, 92, 93, 94, 95, 96, 97, 98, 99, 100, 101, 102, 103, 104] dt dt4 := Fr_tr hF hF6 (by decide)
    have hM8 : MW (dt4 80) := MW_fr hM hF6 (by decide)
    have w9 : dt4 18 0 = dt 18 0 := hF6 18 (by decide) 0
    have w10 : dt4 24 3 = dt 24 3 := hF6 24 (by decide) 3
    have w11 : dt4 27 3 = dt 27 3 := hF6 27 (by decide) 3
    have w12 : dt4 29 3 = dt 29 3 := hF6 29 (by decide) 3
    have w13 : dt4 31 3 = dt 31 3 := hF6 31 (by decide) 3
    have w14 : dt4 33 3 = dt 33 3 := hF6 33 (by decide) 3
    have w15 : dt4 0 2 = dt 0 2 := hF6 0 (by decide) 2
    have w16 : dt4 35 1 = dt 35 1 := hF6 35 (by decide) 1
    have w17 : dt4 35 2 = dt 35 2 := hF6 35 (by decide) 2
    have w18 : dt4 35 3 = dt 35 3 := hF6 35 (by decide) 3
    have w19 : dt4 80 0 = dt 80 0 := hF6 80 (by decide) 0
    have w20 : dt4 80 1 = dt 80 1 := hF6 80 (by decide) 1
    have w21 : dt4 80 2 = dt 80 2 := hF6 80 (by decide) 2
    have w22 : dt4 80 3 = dt 80 3 := hF6 80 (by decide) 3
    have w23 : dt4 80 4 = dt 80 4 := hF6 80 (by decide) 4
    have w24 : dt4 80 5 = dt 80 5 := hF6 80 (by decide) 5
    have w25 : dt4 81 0 = dt 81 0 := hF6 81 (by decide) 0
    have w26 : dt4 81 1 = dt 81 1 := hF6 81 (by decide) 1
    have w27 : dt4 81 2 = dt 81 2 := hF6 81 (by decide) 2
    have w28 : dt4 81 3 = dt 81 3 := hF6 81 (by decide) 3
    have w29 : dt4 81 4 = dt 81 4 := hF6 81 (by decide) 4
    have w30 : dt4 81 5 = dt 81 5 := hF6 81 (by decide) 5
    have w31 : dt4 79 2 = dt 79 2 := hF6 79 (by decide) 2
    have w32 : dt4 79 12 = dt 79 12 := hF6 79 (by decide) 12
    have w33 : dt4 79 19 = dt 79 19 := hF6 79 (by decide) 19
    have w34 : dt4 79 21 = dt 79 21 := hF6 79 (by decide) 21
    rcases h3 with ⟨v_h3, rfl, h3r, h3⟩ | ⟨v_h3, rfl, h3r, h3⟩
    · skip
      obtain ⟨h3_0, h3_1, h3_2, h3_3, h3_4, h3_5, h3_6, h3_7, h3_8, h3_9, h3_10, h3_11, h3_12, h3_13, h3_14, h3_15, h3_16, h3_17, h3_18, h3_19, h3_20, h3_21, h3_22, h3_23, h3_24, h3_25, h3_26, h3_27, h3_28, h3_29, h3_30, h3_31, h3_32⟩ := h3
      have w35 : dt4 18 0 = dt 18 0 := h3_9
      have w36 : dt4 24 3 = dt 24 3 := h3_10
      have w37 : dt4 27 3 = dt 27 3 := h3_11
      have w38 : dt4 29 3 = dt 29 3 := h3_12
      have w39 : dt4 31 3 = dt 31 3 := h3_13
      have w40 : dt4 33 3 = dt 33 3 := h3_14
      have M241 : MW (dt4 81) := MW_frk hM2 hF6 (by decide)
      have C42 : ∀ j : Nat, dt4 19 j = dt 19 j := fun j => (hF6 19 (by decide) j).trans ((fun _ => rfl) j)
      have C43 : ∀ j : Nat, dt4 20 j = dt 20 j := fun j => (hF6 20 (by decide) j).trans ((fun _ => rfl) j)
      have C44 : ∀ j : Nat, dt4 21 j = dt 21 j := fun j => (hF6 21 (by decide) j).trans ((fun _ => rfl) j)
      have C45 : ∀ j : Nat, dt4 22 j = dt 22 j := fun j => (hF6 22 (by decide) j).trans ((fun _ => rfl) j)
      have C46 : ∀ j : Nat, dt4 23 j = dt 23 j := fun j => (hF6 23 (by decide) j).trans ((fun _ => rfl) j)
      have C47 : ∀ j : Nat, dt4 25 j = dt 25 j := fun j => (hF6 25 (by decide) j).trans ((fun _ => rfl) j)
      have C48 : ∀ j : Nat, dt4 26 j = dt 26 j := fun j => (hF6 26 (by decide) j).trans ((fun _ => rfl) j)
      have C49 : ∀ j : Nat, dt4 28 j = dt 28 j := fun j => (hF6 28 (by decide) j).trans ((fun _ => rfl) j)
      have C50 : ∀ j : Nat, dt4 30 j = dt 30 j := fun j => (hF6 30 (by decide) j).trans ((fun _ => rfl) j)
      have C51 : ∀ j : Nat, dt4 36 j = dt 36 j := fun j => (hF6 36 (by decide) j).trans ((fun _ => rfl) j)
      have C52 : ∀ j : Nat, dt4 80 j = dt 80 j := fun j => (hF6 80 (by decide) j).trans ((fun _ => rfl) j)
      have C53 : ∀ j : Nat, dt4 81 j = dt 81 j := fun j => (hF6 81 (by decide) j).trans ((fun _ => rfl) j)
      have C54 : ∀ j : Nat, dt4 85 j = dt 85 j := fun j => (hF6 85 (by decide) j).trans ((fun _ => rfl) j)
      refine go_toq PM267 (k := 6) (pc' := 1396) (L' := [some (.inr (.inr (some 3000))), some (.inr (.inr (some 0))), some (.inr (.inr (some 79))), some (.inl i)]) (st' := [.inl (i + 1), .inr (.inr (some 3000)), .inr (.inr (some 79))]) (w' := (SH, dt4)) rfl ?_
      have r55 := i32_R (xs ((i + 1).toNat))
      refine go_smpq PM267 (L' := [some (.inr (.inr (some 3000))), some (.inr (.inr (some 0))), some (.inr (.inr (some 79))), some (.inl i)]) (st' := [.inl ((xs ((i + 1).toNat)).toInt), .inr (.inr (some 79))]) (w' := (SH, dt4)) rfl rfl (s_iald (n := L) (f := fun j => (xs j).toInt) (am_scr hLL) ⟨by omega, by omega⟩) ?_
      refine go_ifq PM267 (k := 0) (p1 := 1404) (p2 := 1400) (L' := [some (.inr (.inr (some 3000))), some (.inr (.inr (some 0))), some (.inr (.inr (some 79))), some (.inl i)]) (st' := [.inr (.inr (some 79))]) (w' := (SH, dt4)) rfl (z_eq (a := (xs ((i + 1).toNat)).toInt) ⟨by omega, by omega⟩) (fun c56 => ?_) (fun c56 => ?_)
      · skip
        refine go_toq PM267 (k := 1) (pc' := 1405) (L' := [some (.inr (.inr (some 3000))), some (.inr (.inr (some 0))), some (.inr (.inr (some 79))), some (.inl i)]) (st' := [.inl 0, .inr (.inr (some 79))]) (w' := (SH, dt4)) rfl ?_
        refine go_callq PM267 PM247 (Q' := _) rfl rfl rfl rfl (sp_X6_image_0v L xs sio (d + 38) dt4 hI5 hM8   (by first | exact True.intro | with_reducible assumption | rfl | omega | trivial | exact M241 | exact hd1 | exact hqo | exact halk | exact hav_)) ?_
        rintro _ _ ⟨dt58, rfl, hI59, hF60, h57⟩
        refine ⟨rfl, ?_⟩
        have hF61 : Fr [0, 1, 2, 3, 4, 5, 6, 7, 8, 9, 10, 11, 12, 13, 14, 15, 16, 17, 18, 19, 20, 21, 22, 23, 24, 25, 26, 27, 28, 29, 30, 31, 32, 33, 34, 35, 36, 37, 38, 39, 40, 41, 42, 43, 44, 45, 46, 47, 48, 49, 50, 51, 52, 53, 54, 55, 56, 57, 58, 59, 60, 61, 62, 63, 64, 65, 66, 67, 68, 69, 70, 71, 72, 73, 74, 75, 76, 77, 78, 79, 80, 81, 82, 83, 84, 85, 86, 87, 88, 89, 90, 91, 92, 93, 94, 95, 96, 97, 98, 99, 100, 101, 102, 103, 104] dt dt58 := Fr_tr hF7 hF60 (by decide)
        have w62 : dt58 1 0 = dt4 1 0 := hF60 1 (by decide) 0
        have w63 : dt58 7 3 = dt4 7 3 := hF60 7 (by decide) 3
        have w64 : dt58 10 3 = dt4 10 3 := hF60 10 (by decide) 3
        have w65 : dt58 12 3 = dt4 12 3 := hF60 12 (by decide) 3
        have w66 : dt58 14 3 = dt4 14 3 := hF60 14 (by decide) 3
        have w67 : dt58 16 3 = dt4 16 3 := hF60 16 (by decide) 3
        have w68 : dt58 18 0 = dt 18 0 := (hF60 18 (by decide) 0).trans w35
        have w69 : dt58 24 3 = dt 24 3 := (hF60 24 (by decide) 3).trans w36
        have w70 : dt58 27 3 = dt 27 3 := (hF60 27 (by decide) 3).trans w37
        have w71 : dt58 29 3 = dt 29 3 := (hF60 29 (by decide) 3).trans w38
        have w72 : dt58 31 3 = dt 31 3 := (hF60 31 (by decide) 3).trans w39
        have w73 : dt58 33 3 = dt 33 3 := (hF60 33 (by decide) 3).trans w40
        have w74 : dt58 0 2 = dt 0 2 := (hF60 0 (by decide) 2).trans w15
        have w75 : dt58 35 1 = dt 35 1 := (hF60 35 (by decide) 1).trans w16
        have w76 : dt58 35 2 = dt 35 2 := (hF60 35 (by decide) 2).trans w17
        have w77 : dt58 35 3 = dt 35 3 := (hF60 35 (by decide) 3).trans w18
        have w78 : dt58 81 0 = dt 81 0 := (hF60 81 (by decide) 0).trans w25
        have w79 : dt58 81 1 = dt 81 1 := (hF60 81 (by decide) 1).trans w26
        have w80 : dt58 81 2 = dt 81 2 := (hF60 81 (by decide) 2).trans w27
        have w81 : dt58 81 3 = dt 81 3 := (hF60 81 (by decide) 3).trans w28
        have w82 : dt58 81 4 = dt 81 4 := (hF60 81 (by decide) 4).trans w29
        have w83 : dt58 81 5 = dt 81 5 := (hF60 81 (by decide) 5).trans w30
        rcases h57 with ⟨rfl, h57⟩ | ⟨rfl, h57⟩
        · skip
          have hM84 : MW (dt58 80) := h57.2.2.1
          obtain ⟨h57_0, h57_1, h57_2, h57_3, h57_4, h57_5, h57_6, h57_7, h57_8, h57_9, h57_10⟩ := h57
          have w85 : dt58 79 12 = dt 79 12 := h57_8.trans w32
          have w86 : dt58 79 19 = dt 79 19 := h57_9.trans w33
          have w87 : dt58 79 21 = dt 79 21 := h57_10.trans w34
          have M288 : MW (dt58 81) := MW_frk M241 hF60 (by decide)
          have y89 := h57_4 0 (by decide)
          have y90 := h57_4 1 (by decide)
          have y91 := h57_4 2 (by decide)
          have y92 := h57_4 3 (by decide)
          have y93 := h57_4 4 (by decide)
          have y94 := h57_4 5 (by decide)
          have y95 := h57_5 0 (by decide)
          have y96 := h57_5 1 (by decide)
          have y97 := h57_5 2 (by decide)
          have y98 := h57_5 3 (by decide)
          have y99 := h57_5 4 (by decide)
          have y100 := h57_5 5 (by decide)
          have C101 : ∀ j : Nat, dt58 19 j = dt 19 j := fun j => (hF60 19 (by decide) j).trans (C42 j)
          have C102 : ∀ j : Nat, dt58 20 j = dt 20 j := fun j => (hF60 20 (by decide) j).trans (C43 j)
          have C103 : ∀ j : Nat, dt58 21 j = dt 21 j := fun j => (hF60 21 (by decide) j).trans (C44 j)
          have C104 : ∀ j : Nat, dt58 22 j = dt 22 j := fun j => (hF60 22 (by decide) j).trans (C45 j)
          have C105 : ∀ j : Nat, dt58 23 j = dt 23 j := fun j => (hF60 23 (by decide) j).trans (C46 j)
          have C106 : ∀ j : Nat, dt58 25 j = dt 25 j := fun j => (hF60 25 (by decide) j).trans (C47 j)
          have C107 : ∀ j : Nat, dt58 26 j = dt 26 j := fun j => (hF60 26 (by decide) j).trans (C48 j)
          have C108 : ∀ j : Nat, dt58 28 j = dt 28 j := fun j => (hF60 28 (by decide) j).trans (C49 j)
          have C109 : ∀ j : Nat, dt58 30 j = dt 30 j := fun j => (hF60 30 (by decide) j).trans (C50 j)
          have C110 : ∀ j : Nat, dt58 36 j = dt 36 j := fun j => (hF60 36 (by decide) j).trans (C51 j)
          have C111 : ∀ j : Nat, dt58 81 j = dt 81 j := fun j => (hF60 81 (by decide) j).trans (C53 j)
          have C112 : ∀ j : Nat, dt58 85 j = dt 85 j := fun j => (hF60 85 (by decide) j).trans (C54 j)
          have C113 : ∀ j : Nat, j < 192 → dt58 2 j = dt 19 j := fun j hj => (hF60 2 (by decide) j).trans (h3_15 j hj)
          have C114 : ∀ j : Nat, j < 8 → dt58 3 j = dt 20 j := fun j hj => (hF60 3 (by decide) j).trans (h3_16 j hj)
          have C115 : ∀ j : Nat, j < 256 → dt58 4 j = dt 21 j := fun j hj => (hF60 4 (by decide) j).trans (h3_17 j hj)
          have C116 : ∀ j : Nat, j < 4 → dt58 5 j = dt 22 j := fun j hj => (hF60 5 (by decide) j).trans (h3_18 j hj)
          have C117 : ∀ j : Nat, j < 2000 → dt58 6 j = dt 23 j := fun j hj => (hF60 6 (by decide) j).trans (h3_19 j hj)
          have C118 : ∀ j : Nat, j < 60 → dt58 8 j = dt 25 j := fun j hj => (hF60 8 (by decide) j).trans (h3_20 j hj)
          have C119 : ∀ j : Nat, j < 132 → dt58 9 j = dt 26 j := fun j hj => (hF60 9 (by decide) j).trans (h3_21 j hj)
          have C120 : ∀ j : Nat, j < 160 → dt58 11 j = dt 28 j := fun j hj => (hF60 11 (by decide) j).trans (h3_22 j hj)
          have C121 : ∀ j : Nat, j < 192 → dt58 19 j = dt 19 j := fun j hj => (hF60 19 (by decide) j).trans (h3_24 j hj)
          have C122 : ∀ j : Nat, j < 8 → dt58 20 j = dt 20 j := fun j hj => (hF60 20 (by decide) j).trans (h3_25 j hj)
          have C123 : ∀ j : Nat, j < 256 → dt58 21 j = dt 21 j := fun j hj => (hF60 21 (by decide) j).trans (h3_26 j hj)
          have C124 : ∀ j : Nat, j < 4 → dt58 22 j = dt 22 j := fun j hj => (hF60 22 (by decide) j).trans (h3_27 j hj)
          have C125 : ∀ j : Nat, j < 2000 → dt58 23 j = dt 23 j := fun j hj => (hF60 23 (by decide) j).trans (h3_28 j hj)
          have C126 : ∀ j : Nat, j < 60 → dt58 25 j = dt 25 j := fun j hj => (hF60 25 (by decide) j).trans (h3_29 j hj)
          have C127 : ∀ j : Nat, j < 132 → dt58 26 j = dt 26 j := fun j hj => (hF60 26 (by decide) j).trans (h3_30 j hj)
          have C128 : ∀ j : Nat, j < 160 → dt58 28 j = dt 28 j := fun j hj => (hF60 28 (by decide) j).trans (h3_31 j hj)
          have C129 : ∀ j : Nat, j < 1800 → dt58 13 j = dt 30 j := fun j hj => (hF60 13 (by decide) j).trans (h3_23 j hj)
          have C130 : ∀ j : Nat, j < 1800 → dt58 30 j = dt 30 j := fun j hj => (hF60 30 (by decide) j).trans (h3_32 j hj)
          have F131 : ∀ j : Nat, j < 7460 → dt58 80 j = dt 80 j := fun j hj => (h57_6 j hj).trans (C52 j)
          have S132 : SCL (dt58 2) (dt58 3) (dt58 80) := by first | exact SCL_k hd2 hM2 C113 C114 (fun j _ h2_ => F131 j (by omega)) | (exfalso; omega)
          have S133 : QRL (dt58 8) (dt58 80) := by first | exact QRL_k hd4 hM2 C118 (F131 1 (by decide)) (fun j _ h2_ => F131 j (by omega)) | (exfalso; omega)
          have S134 : SDL (dt58 9) (dt58 80) := by first | exact SDL_k hd6 hM2 C119 (F131 1 (by decide)) (fun j _ h2_ => F131 j (by omega)) (fun j _ h2_ => F131 j (by omega)) | (exfalso; omega)
          have S135 : LWL (dt58 4) (dt58 5) (dt58 6) (dt58 80) := by first | exact LWL_k hd8 hM2 C115 C116 C117 (fun j _ h2_ => F131 j (by omega)) | (exfalso; omega)
          have S136 : CHL (dt58 11) (dt58 80) := by first | exact CHL_k hd10 hM2 C120 (F131 2 (by decide)) (fun j _ h2_ => F131 j (by omega)) | (exfalso; omega)
          have F137 : ∀ j : Nat, j < 7460 → dt58 81 j = dt 81 j := fun j hj => (h57_7 j hj).trans (C53 j)
          have S138 : SCL (dt58 19) (dt58 20) (dt58 81) := by first | exact SCL_k hd2 hM2 C121 C122 (fun j _ h2_ => F137 j (by omega)) | (exfalso; omega)
          have S139 : QRL (dt58 25) (dt58 81) := by first | exact QRL_k hd4 hM2 C126 (F137 1 (by decide)) (fun j _ h2_ => F137 j (by omega)) | (exfalso; omega)
          have S140 : SDL (dt58 26) (dt58 81) := by first | exact SDL_k hd6 hM2 C127 (F137 1 (by decide)) (fun j _ h2_ => F137 j (by omega)) (fun j _ h2_ => F137 j (by omega)) | (exfalso; omega)
          have S141 : LWL (dt58 21) (dt58 22) (dt58 23) (dt58 81) := by first | exact LWL_k hd8 hM2 C123 C124 C125 (fun j _ h2_ => F137 j (by omega)) | (exfalso; omega)
          have S142 : CHL (dt58 28) (dt58 81) := by first | exact CHL_k hd10 hM2 C128 (F137 2 (by decide)) (fun j _ h2_ => F137 j (by omega)) | (exfalso; omega)
          have S143 : ANL (dt58 13) (dt58 80) := by first | exact ANL_k hd12 hM2 C129 (by omega) (by omega) ((h57_6 3 (by decide)).trans (C52 3)) (fun j _ h2_ => (h57_6 j (by omega)).trans (C52 j)) | (exfalso; omega)
          have S144 : ANL (dt58 30) (dt58 81) := by first | exact ANL_k hd12 hM2 C130 (by omega) (by omega) ((h57_7 3 (by decide)).trans (C53 3)) (fun j _ h2_ => (h57_7 j (by omega)).trans (C53 j)) | (exfalso; omega)
          refine go_toq PM267 (k := 2) (pc' := 1435) (L' := [some (.inr (.inr (some 3000))), some (.inr (.inr (some 0))), some (.inr (.inr (some 79))), some (.inl i)]) (st' := []) (w' := (SH, dt58)) rfl ?_
          exact K dt58 hI59 hM84 M288 (by first | omega | (simp only [*]; done) | simp only [*]) (by omega) (by omega) (by omega) (by omega) (by omega) (w68.trans (hk6.trans w78.symm)) (w69.trans (hk7.trans w79.symm)) (w70.trans (hk8.trans w80.symm)) (w71.trans (hk9.trans w81.symm)) (w72.trans (hk10.trans w82.symm)) (w73.trans (hk11.trans w83.symm)) (by omega) (w75.trans (hk13.trans w85.symm)) (w76.trans (hk14.trans w86.symm)) (w77.trans (hk15.trans w87.symm)) (by first | exact hI | exact TPL_k hd0 C110 C112 (by omega) | (exfalso; omega)) (by first | exact S132 | exact SCL_k hd1 hM hI hI hI | (exfalso; omega)) (by first | exact S138 | exact SCL_k hd2 hM2 (fun j _ => C101 j) (fun j _ => C102 j) (fun j _ _ => C111 j) | (exfalso; omega)) (by first | exact S133 | exact QRL_k hd3 hM hI hI hI | (exfalso; omega)) (by first | exact S139 | exact QRL_k hd4 hM2 (fun j _ => C106 j) (C111 1) (fun j _ _ => C111 j) | (exfalso; omega)) (by first | exact S134 | exact SDL_k hd5 hM hI hI hI hI | (exfalso; omega)) (by first | exact S140 | exact SDL_k hd6 hM2 (fun j _ => C107 j) (C111 1) (fun j _ _ => C111 j) (fun j _ _ => C111 j) | (exfalso; omega)) (by first | exact S135 | exact LWL_k hd7 hM hI hI hI hI | (exfalso; omega)) (by first | exact S141 | exact LWL_k hd8 hM2 (fun j _ => C103 j) (fun j _ => C104 j) (fun j _ => C105 j) (fun j _ _ => C111 j) | (exfalso; omega)) (by first | exact S136 | exact CHL_k hd9 hM hI (by omega) hI | (exfalso; omega)) (by first | exact S142 | exact CHL_k hd10 hM2 (fun j _ => C108 j) (by omega) (fun j _ _ => C111 j) | (exfalso; omega)) (by first | exact S143 | exact ANL_k hd11 hM hI (by omega) (by omega) (by omega) hI | (exfalso; omega)) (by first | exact S144 | exact ANL_k hd12 hM2 (fun j _ => C109 j) (by omega) (by omega) (by omega) (fun j _ _ => C111 j) | (exfalso; omega))
        · skip
          have hM145 : MW (dt58 80) := h57.2.2.1
          obtain ⟨h57_0, h57_1, h57_2, h57_3, h57_4, h57_5, h57_6, h57_7, h57_8, h57_9, h57_10⟩ := h57
          replace h57_0 := hid h57_0
          have w146 : dt58 79 12 = dt 79 12 := h57_8.trans w32
          have w147 : dt58 79 19 = dt 79 19 := h57_9.trans w33
          have w148 : dt58 79 21 = dt 79 21 := h57_10.trans w34
          have M2149 : MW (dt58 81) := MW_frk M241 hF60 (by decide)
          have y150 := h57_4 0 (by decide)
          have y151 := h57_4 1 (by decide)
          have y152 := h57_4 2 (by decide)
          have y153 := h57_4 3 (by decide)
          have y154 := h57_4 4 (by decide)
          have y155 := h57_4 5 (by decide)
          have y156 := h57_5 0 (by decide)
          have y157 := h57_5 1 (by decide)
          have y158 := h57_5 2 (by decide)
          have y159 := h57_5 3 (by decide)
          have y160 := h57_5 4 (by decide)
          have y161 := h57_5 5 (by decide)
          have C162 : ∀ j : Nat, dt58 19 j = dt 19 j := fun j => (hF60 19 (by decide) j).trans (C42 j)
          have C163 : ∀ j : Nat, dt58 20 j = dt 20 j := fun j => (hF60 20 (by decide) j).trans (C43 j)
          have C164 : ∀ j : Nat, dt58 21 j = dt 21 j := fun j => (hF60 21 (by decide) j).trans (C44 j)
          have C165 : ∀ j : Nat, dt58 22 j = dt 22 j := fun j => (hF60 22 (by decide) j).trans (C45 j)
          have C166 : ∀ j : Nat, dt58 23 j = dt 23 j := fun j => (hF60 23 (by decide) j).trans (C46 j)
          have C167 : ∀ j : Nat, dt58 25 j = dt 25 j := fun j => (hF60 25 (by decide) j).trans (C47 j)
          have C168 : ∀ j : Nat, dt58 26 j = dt 26 j := fun j => (hF60 26 (by decide) j).trans (C48 j)
          have C169 : ∀ j : Nat, dt58 28 j = dt 28 j := fun j => (hF60 28 (by decide) j).trans (C49 j)
          have C170 : ∀ j : Nat, dt58 30 j = dt 30 j := fun j => (hF60 30 (by decide) j).trans (C50 j)
          have C171 : ∀ j : Nat, dt58 36 j = dt 36 j := fun j => (hF60 36 (by decide) j).trans (C51 j)
          have C172 : ∀ j : Nat, dt58 81 j = dt 81 j := fun j => (hF60 81 (by decide) j).trans (C53 j)
          have C173 : ∀ j : Nat, dt58 85 j = dt 85 j := fun j => (hF60 85 (by decide) j).trans (C54 j)
          have C174 : ∀ j : Nat, j < 192 → dt58 2 j = dt 19 j := fun j hj => (hF60 2 (by decide) j).trans (h3_15 j hj)
          have C175 : ∀ j : Nat, j < 8 → dt58 3 j = dt 20 j := fun j hj => (hF60 3 (by decide) j).trans (h3_16 j hj)
          have C176 : ∀ j : Nat, j < 256 → dt58 4 j = dt 21 j := fun j hj => (hF60 4 (by decide) j).trans (h3_17 j hj)
          have C177 : ∀ j : Nat, j < 4 → dt58 5 j = dt 22 j := fun j hj => (hF60 5 (by decide) j).trans (h3_18 j hj)
          have C178 : ∀ j : Nat, j < 2000 → dt58 6 j = dt 23 j := fun j hj => (hF60 6 (by decide) j).trans (h3_19 j hj)
          have C179 : ∀ j : Nat, j < 60 → dt58 8 j = dt 25 j := fun j hj => (hF60 8 (by decide) j).trans (h3_20 j hj)
          have C180 : ∀ j : Nat, j < 132 → dt58 9 j = dt 26 j := fun j hj => (hF60 9 (by decide) j).trans (h3_21 j hj)
          have C181 : ∀ j : Nat, j < 160 → dt58 11 j = dt 28 j := fun j hj => (hF60 11 (by decide) j).trans (h3_22 j hj)
          have C182 : ∀ j : Nat, j < 192 → dt58 19 j = dt 19 j := fun j hj => (hF60 19 (by decide) j).trans (h3_24 j hj)
          have C183 : ∀ j : Nat, j < 8 → dt58 20 j = dt 20 j := fun j hj => (hF60 20 (by decide) j).trans (h3_25 j hj)
          have C184 : ∀ j : Nat, j < 256 → dt58 21 j = dt 21 j := fun j hj => (hF60 21 (by decide) j).trans (h3_26 j hj)
          have C185 : ∀ j : Nat, j < 4 → dt58 22 j = dt 22 j := fun j hj => (hF60 22 (by decide) j).trans (h3_27 j hj)
          have C186 : ∀ j : Nat, j < 2000 → dt58 23 j = dt 23 j := fun j hj => (hF60 23 (by decide) j).trans (h3_28 j hj)
          have C187 : ∀ j : Nat, j < 60 → dt58 25 j = dt 25 j := fun j hj => (hF60 25 (by decide) j).trans (h3_29 j hj)
          have C188 : ∀ j : Nat, j < 132 → dt58 26 j = dt 26 j := fun j hj => (hF60 26 (by decide) j).trans (h3_30 j hj)
          have C189 : ∀ j : Nat, j < 160 → dt58 28 j = dt 28 j := fun j hj => (hF60 28 (by decide) j).trans (h3_31 j hj)
          have C190 : ∀ j : Nat, j < 1800 → dt58 13 j = dt 30 j := fun j hj => (hF60 13 (by decide) j).trans (h3_23 j hj)
          have C191 : ∀ j : Nat, j < 1800 → dt58 30 j = dt 30 j := fun j hj => (hF60 30 (by decide) j).trans (h3_32 j hj)
          have F192 : ∀ j : Nat, j < 7460 → dt58 80 j = dt 81 j := fun j hj => (h57_6 j hj).trans (C53 j)
          have S193 : SCL (dt58 2) (dt58 3) (dt58 80) := by first | exact SCL_k hd2 hM2 C174 C175 (fun j _ h2_ => F192 j (by (first | omega | (have z0_ := unhid h57_0; omega)))) | (exfalso; (first | omega | (have z0_ := unhid h57_0; omega)))
          have S194 : QRL (dt58 8) (dt58 80) := by first | exact QRL_k hd4 hM2 C179 (F192 1 (by decide)) (fun j _ h2_ => F192 j (by (first | omega | (have z0_ := unhid h57_0; omega)))) | (exfalso; (first | omega | (have z0_ := unhid h57_0; omega)))
          have S195 : SDL (dt58 9) (dt58 80) := by first | exact SDL_k hd6 hM2 C180 (F192 1 (by decide)) (fun j _ h2_ => F192 j (by (first | omega | (have z0_ := unhid h57_0; omega)))) (fun j _ h2_ => F192 j (by (first | omega | (have z0_ := unhid h57_0; omega)))) | (exfalso; (first | omega | (have z0_ := unhid h57_0; omega)))
          have S196 : LWL (dt58 4) (dt58 5) (dt58 6) (dt58 80) := by first | exact LWL_k hd8 hM2 C176 C177 C178 (fun j _ h2_ => F192 j (by (first | omega | (have z0_ := unhid h57_0; omega)))) | (exfalso; (first | omega | (have z0_ := unhid h57_0; omega)))
          have S197 : CHL (dt58 11) (dt58 80) := by first | exact CHL_k hd10 hM2 C181 (F192 2 (by decide)) (fun j _ h2_ => F192 j (by (first | omega | (have z0_ := unhid h57_0; omega)))) | (exfalso; (first | omega | (have z0_ := unhid h57_0; omega)))
          have F198 : ∀ j : Nat, j < 7460 → dt58 81 j = dt 81 j := fun j hj => (h57_7 j hj).trans (C53 j)
          have S199 : SCL (dt58 19) (dt58 20) (dt58 81) := by first | exact SCL_k hd2 hM2 C182 C183 (fun j _ h2_ => F198 j (by (first | omega | (have z0_ := unhid h57_0; omega)))) | (exfalso; (first | omega | (have z0_ := unhid h57_0; omega)))
          have S200 : QRL (dt58 25) (dt58 81) := by first | exact QRL_k hd4 hM2 C187 (F198 1 (by decide)) (fun j _ h2_ => F198 j (by (first | omega | (have z0_ := unhid h57_0; omega)))) | (exfalso; (first | omega | (have z0_ := unhid h57_0; omega)))
          have S201 : SDL (dt58 26) (dt58 81) := by first | exact SDL_k hd6 hM2 C188 (F198 1 (by decide)) (fun j _ h2_ => F198 j (by (first | omega | (have z0_ := unhid h57_0; omega)))) (fun j _ h2_ => F198 j (by (first | omega | (have z0_ := unhid h57_0; omega)))) | (exfalso; (first | omega | (have z0_ := unhid h57_0; omega)))
          have S202 : LWL (dt58 21) (dt58 22) (dt58 23) (dt58 81) := by first | exact LWL_k hd8 hM2 C184 C185 C186 (fun j _ h2_ => F198 j (by (first | omega | (have z0_ := unhid h57_0; omega)))) | (exfalso; (first | omega | (have z0_ := unhid h57_0; omega)))
          have S203 : CHL (dt58 28) (dt58 81) := by first | exact CHL_k hd10 hM2 C189 (F198 2 (by decide)) (fun j _ h2_ => F198 j (by (first | omega | (have z0_ := unhid h57_0; omega)))) | (exfalso; (first | omega | (have z0_ := unhid h57_0; omega)))
          have S204 : ANL (dt58 13) (dt58 80) := by first | exact ANL_k hd12 hM2 C190 (by (first | omega | (have z0_ := unhid h57_0; omega))) (by (first | omega | (have z0_ := unhid h57_0; omega))) ((h57_6 3 (by decide)).trans (C53 3)) (fun j _ h2_ => (h57_6 j (by (first | omega | (have z0_ := unhid h57_0; omega)))).trans (C53 j)) | (exfalso; (first | omega | (have z0_ := unhid h57_0; omega)))
          have S205 : ANL (dt58 30) (dt58 81) := by first | exact ANL_k hd12 hM2 C191 (by (first | omega | (have z0_ := unhid h57_0; omega))) (by (first | omega | (have z0_ := unhid h57_0; omega))) ((h57_7 3 (by decide)).trans (C53 3)) (fun j _ h2_ => (h57_7 j (by (first | omega | (have z0_ := unhid h57_0; omega)))).trans (C53 j)) | (exfalso; (first | omega | (have z0_ := unhid h57_0; omega)))
          refine go_toq PM267 (k := 2) (pc' := 1435) (L' := [some (.inr (.inr (some 3000))), some (.inr (.inr (some 0))), some (.inr (.inr (some 79))), some (.inl i)]) (st' := []) (w' := (SH, dt58)) rfl ?_
          exact K dt58 hI59 hM145 M2149 (by first | (first | omega | (have z0_ := unhid h57_0; omega)) | (simp only [*]; done) | simp only [*]) (by (first | omega | (have z0_ := unhid h57_0; omega))) (by (first | omega | (have z0_ := unhid h57_0; omega))) (by (first | omega | (have z0_ := unhid h57_0; omega))) (by (first | omega | (have z0_ := unhid h57_0; omega))) (by (first | omega | (have z0_ := unhid h57_0; omega))) (w68.trans (hk6.trans w78.symm)) (w69.trans (hk7.trans w79.symm)) (w70.trans (hk8.trans w80.symm)) (w71.trans (hk9.trans w81.symm)) (w72.trans (hk10.trans w82.symm)) (w73.trans (hk11.trans w83.symm)) (by (first | omega | (have z0_ := unhid h57_0; omega))) (w75.trans (hk13.trans w146.symm)) (w76.trans (hk14.trans w147.symm)) (w77.trans (hk15.trans w148.symm)) (by first | exact hI | exact TPL_k hd0 C171 C173 (by (first | omega | (have z0_ := unhid h57_0; omega))) | (exfalso; (first | omega | (have z0_ := unhid h57_0; omega)))) (by first | exact S193 | exact SCL_k hd1 hM hI hI hI | (exfalso; (first | omega | (have z0_ := unhid h57_0; omega)))) (by first | exact S199 | exact SCL_k hd2 hM2 (fun j _ => C162 j) (fun j _ => C163 j) (fun j _ _ => C172 j) | (exfalso; (first | omega | (have z0_ := unhid h57_0; omega)))) (by first | exact S194 | exact QRL_k hd3 hM hI hI hI | (exfalso; (first | omega | (have z0_ := unhid h57_0; omega)))) (by first | exact S200 | exact QRL_k hd4 hM2 (fun j _ => C167 j) (C172 1) (fun j _ _ => C172 j) | (exfalso; (first | omega | (have z0_ := unhid h57_0; omega)))) (by first | exact S195 | exact SDL_k hd5 hM hI hI hI hI | (exfalso; (first | omega | (have z0_ := unhid h57_0; omega)))) (by first | exact S201 | exact SDL_k hd6 hM2 (fun j _ => C168 j) (C172 1) (fun j _ _ => C172 j) (fun j _ _ => C172 j) | (exfalso; (first | omega | (have z0_ := unhid h57_0; omega)))) (by first | exact S196 | exact LWL_k hd7 hM hI hI hI hI | (exfalso; (first | omega | (have z0_ := unhid h57_0; omega)))) (by first | exact S202 | exact LWL_k hd8 hM2 (fun j _ => C164 j) (fun j _ => C165 j) (fun j _ => C166 j) (fun j _ _ => C172 j) | (exfalso; (first | omega | (have z0_ := unhid h57_0; omega)))) (by first | exact S197 | exact CHL_k hd9 hM hI (by (first | omega | (have z0_ := unhid h57_0; omega))) hI | (exfalso; (first | omega | (have z0_ := unhid h57_0; omega)))) (by first | exact S203 | exact CHL_k hd10 hM2 (fun j _ => C169 j) (by (first | omega | (have z0_ := unhid h57_0; omega))) (fun j _ _ => C172 j) | (exfalso; (first | omega | (have z0_ := unhid h57_0; omega)))) (by first | exact S204 | exact ANL_k hd11 hM hI (by (first | omega | (have z0_ := unhid h57_0; omega))) (by (first | omega | (have z0_ := unhid h57_0; omega))) (by (first | omega | (have z0_ := unhid h57_0; omega))) hI | (exfalso; (first | omega | (have z0_ := unhid h57_0; omega)))) (by first | exact S205 | exact ANL_k hd12 hM2 (fun j _ => C170 j) (by (first | omega | (have z0_ := unhid h57_0; omega))) (by (first | omega | (have z0_ := unhid h57_0; omega))) (by (first | omega | (have z0_ := unhid h57_0; omega))) (fun j _ _ => C172 j) | (exfalso; (first | omega | (have z0_ := unhid h57_0; omega))))
      · skip
        replace c56 := hid c56
        refine go_toq PM267 (k := 2) (pc' := 1405) (L' := [some (.inr (.inr (some 3000))), some (.inr (.inr (some 0))), some (.inr (.inr (some 79))), some (.inl i)]) (st' := [.inl 1, .inr (.inr (some 79))]) (w' := (SH, dt4)) rfl ?_
        refine go_callq PM267 PM247 (Q' := _) rfl rfl rfl rfl (sp_X6_image_1v L xs sio (d + 38) dt4 hI5 hM8   ) ?_
        rintro _ _ ⟨dt207, rfl, hI208, hF209, h206⟩
        refine ⟨rfl, ?_⟩
        have hF210 : Fr [0, 1, 2, 3, 4, 5, 6, 7, 8, 9, 10, 11, 12, 13, 14, 15, 16, 17, 18, 19, 20, 21, 22, 23, 24, 25, 26, 27, 28, 29, 30, 31, 32, 33, 34, 35, 36, 37, 38, 39, 40, 41, 42, 43, 44, 45, 46, 47, 48, 49, 50, 51, 52, 53, 54, 55, 56, 57, 58, 59, 60, 61, 62, 63, 64, 65, 66, 67, 68, 69, 70, 71, 72, 73, 74, 75, 76, 77, 78, 79, 80, 81, 82, 83, 84, 85, 86, 87, 88, 89, 90, 91, 92, 93, 94, 95, 96, 97, 98, 99, 100, 101, 102, 103, 104] dt dt207 := Fr_tr hF7 hF209 (by decide)
        have hM211 : MW (dt207 80) := MW_fr hM8 hF209 (by decide)
        have w212 : dt207 1 0 = dt4 1 0 := hF209 1 (by decide) 0
        have w213 : dt207 7 3 = dt4 7 3 := hF209 7 (by decide) 3
        have w214 : dt207 10 3 = dt4 10 3 := hF209 10 (by decide) 3
        have w215 : dt207 12 3 = dt4 12 3 := hF209 12 (by decide) 3
        have w216 : dt207 14 3 = dt4 14 3 := hF209 14 (by decide) 3
        have w217 : dt207 16 3 = dt4 16 3 := hF209 16 (by decide) 3
        have w218 : dt207 18 0 = dt 18 0 := (hF209 18 (by decide) 0).trans w35
        have w219 : dt207 24 3 = dt 24 3 := (hF209 24 (by decide) 3).trans w36
        have w220 : dt207 27 3 = dt 27 3 := (hF209 27 (by decide) 3).trans w37
        have w221 : dt207 29 3 = dt 29 3 := (hF209 29 (by decide) 3).trans w38
        have w222 : dt207 31 3 = dt 31 3 := (hF209 31 (by decide) 3).trans w39
        have w223 : dt207 33 3 = dt 33 3 := (hF209 33 (by decide) 3).trans w40
        have w224 : dt207 0 2 = dt 0 2 := (hF209 0 (by decide) 2).trans w15
        have w225 : dt207 35 1 = dt 35 1 := (hF209 35 (by decide) 1).trans w16
        have w226 : dt207 35 2 = dt 35 2 := (hF209 35 (by decide) 2).trans w17
        have w227 : dt207 35 3 = dt 35 3 := (hF209 35 (by decide) 3).trans w18
        have w228 : dt207 80 0 = dt 80 0 := (hF209 80 (by decide) 0).trans w19
        have w229 : dt207 80 1 = dt 80 1 := (hF209 80 (by decide) 1).trans w20
        have w230 : dt207 80 2 = dt 80 2 := (hF209 80 (by decide) 2).trans w21
        have w231 : dt207 80 3 = dt 80 3 := (hF209 80 (by decide) 3).trans w22
        have w232 : dt207 80 4 = dt 80 4 := (hF209 80 (by decide) 4).trans w23
        have w233 : dt207 80 5 = dt 80 5 := (hF209 80 (by decide) 5).trans w24
        rcases h206 with ⟨rfl, h206⟩
        have hM234 : MW (dt207 80) := h206.2.1
        obtain ⟨h206_0, h206_1, h206_2, h206_3, h206_4, h206_5, h206_6, h206_7, h206_8, h206_9⟩ := h206
        have w235 : dt207 79 12 = dt 79 12 := h206_7.trans w32
        have w236 : dt207 79 19 = dt 79 19 := h206_8.trans w33
        have w237 : dt207 79 21 = dt 79 21 := h206_9.trans w34
        have y238 := h206_3 0 (by decide)
        have y239 := h206_3 1 (by decide)
        have y240 := h206_3 2 (by decide)
        have y241 := h206_3 3 (by decide)
        have y242 := h206_3 4 (by decide)
        have y243 := h206_3 5 (by decide)
        have y244 := h206_4 0 (by decide)
        have y245 := h206_4 1 (by decide)
        have y246 := h206_4 2 (by decide)
        have y247 := h206_4 3 (by decide)
        have y248 := h206_4 4 (by decide)
        have y249 := h206_4 5 (by decide)
        have C250 : ∀ j : Nat, dt207 19 j = dt 19 j := fun j => (hF209 19 (by decide) j).trans (C42 j)
        have C251 : ∀ j : Nat, dt207 20 j = dt 20 j := fun j => (hF209 20 (by decide) j).trans (C43 j)
        have C252 : ∀ j : Nat, dt207 21 j = dt 21 j := fun j => (hF209 21 (by decide) j).trans (C44 j)
        have C253 : ∀ j : Nat, dt207 22 j = dt 22 j := fun j => (hF209 22 (by decide) j).trans (C45 j)
        have C254 : ∀ j : Nat, dt207 23 j = dt 23 j := fun j => (hF209 23 (by decide) j).trans (C46 j)
        have C255 : ∀ j : Nat, dt207 25 j = dt 25 j := fun j => (hF209 25 (by decide) j).trans (C47 j)
        have C256 : ∀ j : Nat, dt207 26 j = dt 26 j := fun j => (hF209 26 (by decide) j).trans (C48 j)
        have C257 : ∀ j : Nat, dt207 28 j = dt 28 j := fun j => (hF209 28 (by decide) j).trans (C49 j)
        have C258 : ∀ j : Nat, dt207 30 j = dt 30 j := fun j => (hF209 30 (by decide) j).trans (C50 j)
        have C259 : ∀ j : Nat, dt207 36 j = dt 36 j := fun j => (hF209 36 (by decide) j).trans (C51 j)
        have C260 : ∀ j : Nat, dt207 80 j = dt 80 j := fun j => (hF209 80 (by decide) j).trans (C52 j)
        have C261 : ∀ j : Nat, dt207 85 j = dt 85 j := fun j => (hF209 85 (by decide) j).trans (C54 j)
        have C262 : ∀ j : Nat, j < 192 → dt207 2 j = dt 19 j := fun j hj => (hF209 2 (by decide) j).trans (h3_15 j hj)
        have C263 : ∀ j : Nat, j < 8 → dt207 3 j = dt 20 j := fun j hj => (hF209 3 (by decide) j).trans (h3_16 j hj)
        have C264 : ∀ j : Nat, j < 256 → dt207 4 j = dt 21 j := fun j hj => (hF209 4 (by decide) j).trans (h3_17 j hj)
        have C265 : ∀ j : Nat, j < 4 → dt207 5 j = dt 22 j := fun j hj => (hF209 5 (by decide) j).trans (h3_18 j hj)
        have C266 : ∀ j : Nat, j < 2000 → dt207 6 j = dt 23 j := fun j hj => (hF209 6 (by decide) j).trans (h3_19 j hj)
        have C267 : ∀ j : Nat, j < 60 → dt207 8 j = dt 25 j := fun j hj => (hF209 8 (by decide) j).trans (h3_20 j hj)
        have C268 : ∀ j : Nat, j < 132 → dt207 9 j = dt 26 j := fun j hj => (hF209 9 (by decide) j).trans (h3_21 j hj)
        have C269 : ∀ j : Nat, j < 160 → dt207 11 j = dt 28 j := fun j hj => (hF209 11 (by decide) j).trans (h3_22 j hj)
        have C270 : ∀ j : Nat, j < 192 → dt207 19 j = dt 19 j := fun j hj => (hF209 19 (by decide) j).trans (h3_24 j hj)
        have C271 : ∀ j : Nat, j < 8 → dt207 20 j = dt 20 j := fun j hj => (hF209 20 (by decide) j).trans (h3_25 j hj)
        have C272 : ∀ j : Nat, j < 256 → dt207 21 j = dt 21 j := fun j hj => (hF209 21 (by decide) j).trans (h3_26 j hj)
        have C273 : ∀ j : Nat, j < 4 → dt207 22 j = dt 22 j := fun j hj => (hF209 22 (by decide) j).trans (h3_27 j hj)
        have C274 : ∀ j : Nat, j < 2000 → dt207 23 j = dt 23 j := fun j hj => (hF209 23 (by decide) j).trans (h3_28 j hj)
        have C275 : ∀ j : Nat, j < 60 → dt207 25 j = dt 25 j := fun j hj => (hF209 25 (by decide) j).trans (h3_29 j hj)
        have C276 : ∀ j : Nat, j < 132 → dt207 26 j = dt 26 j := fun j hj => (hF209 26 (by decide) j).trans (h3_30 j hj)
        have C277 : ∀ j : Nat, j < 160 → dt207 28 j = dt 28 j := fun j hj => (hF209 28 (by decide) j).trans (h3_31 j hj)
        have C278 : ∀ j : Nat, j < 1800 → dt207 13 j = dt 30 j := fun j hj => (hF209 13 (by decide) j).trans (h3_23 j hj)
        have C279 : ∀ j : Nat, j < 1800 → dt207 30 j = dt 30 j := fun j hj => (hF209 30 (by decide) j).trans (h3_32 j hj)
        have F280 : ∀ j : Nat, j < 7460 → dt207 80 j = dt 80 j := fun j hj => (h206_5 j hj).trans (C52 j)
        have S281 : SCL (dt207 2) (dt207 3) (dt207 80) := by first | exact SCL_k hd2 hM2 C262 C263 (fun j _ h2_ => F280 j (by (first | omega | (have z0_ := unhid c56; omega)))) | (exfalso; (first | omega | (have z0_ := unhid c56; omega)))
        have S282 : QRL (dt207 8) (dt207 80) := by first | exact QRL_k hd4 hM2 C267 (F280 1 (by decide)) (fun j _ h2_ => F280 j (by (first | omega | (have z0_ := unhid c56; omega)))) | (exfalso; (first | omega | (have z0_ := unhid c56; omega)))
        have S283 : SDL (dt207 9) (dt207 80) := by first | exact SDL_k hd6 hM2 C268 (F280 1 (by decide)) (fun j _ h2_ => F280 j (by (first | omega | (have z0_ := unhid c56; omega)))) (fun j _ h2_ => F280 j (by (first | omega | (have z0_ := unhid c56; omega)))) | (exfalso; (first | omega | (have z0_ := unhid c56; omega)))
        have S284 : LWL (dt207 4) (dt207 5) (dt207 6) (dt207 80) := by first | exact LWL_k hd8 hM2 C264 C265 C266 (fun j _ h2_ => F280 j (by (first | omega | (have z0_ := unhid c56; omega)))) | (exfalso; (first | omega | (have z0_ := unhid c56; omega)))
        have S285 : CHL (dt207 11) (dt207 80) := by first | exact CHL_k hd10 hM2 C269 (F280 2 (by decide)) (fun j _ h2_ => F280 j (by (first | omega | (have z0_ := unhid c56; omega)))) | (exfalso; (first | omega | (have z0_ := unhid c56; omega)))
        have F286 : ∀ j : Nat, j < 7460 → dt207 81 j = dt 80 j := fun j hj => (h206_6 j hj).trans (C52 j)
        have S287 : SCL (dt207 19) (dt207 20) (dt207 81) := by first | exact SCL_k hd2 hM2 C270 C271 (fun j _ h2_ => F286 j (by (first | omega | (have z0_ := unhid c56; omega)))) | (exfalso; (first | omega | (have z0_ := unhid c56; omega)))
        have S288 : QRL (dt207 25) (dt207 81) := by first | exact QRL_k hd4 hM2 C275 (F286 1 (by decide)) (fun j _ h2_ => F286 j (by (first | omega | (have z0_ := unhid c56; omega)))) | (exfalso; (first | omega | (have z0_ := unhid c56; omega)))
        have S289 : SDL (dt207 26) (dt207 81) := by first | exact SDL_k hd6 hM2 C276 (F286 1 (by decide)) (fun j _ h2_ => F286 j (by (first | omega | (have z0_ := unhid c56; omega)))) (fun j _ h2_ => F286 j (by (first | omega | (have z0_ := unhid c56; omega)))) | (exfalso; (first | omega | (have z0_ := unhid c56; omega)))
        have S290 : LWL (dt207 21) (dt207 22) (dt207 23) (dt207 81) := by first | exact LWL_k hd8 hM2 C272 C273 C274 (fun j _ h2_ => F286 j (by (first | omega | (have z0_ := unhid c56; omega)))) | (exfalso; (first | omega | (have z0_ := unhid c56; omega)))
        have S291 : CHL (dt207 28) (dt207 81) := by first | exact CHL_k hd10 hM2 C277 (F286 2 (by decide)) (fun j _ h2_ => F286 j (by (first | omega | (have z0_ := unhid c56; omega)))) | (exfalso; (first | omega | (have z0_ := unhid c56; omega)))
        have S292 : ANL (dt207 13) (dt207 80) := by first | exact ANL_k hd12 hM2 C278 (by (first | omega | (have z0_ := unhid c56; omega))) (by (first | omega | (have z0_ := unhid c56; omega))) ((h206_5 3 (by decide)).trans (C52 3)) (fun j _ h2_ => (h206_5 j (by (first | omega | (have z0_ := unhid c56; omega)))).trans (C52 j)) | (exfalso; (first | omega | (have z0_ := unhid c56; omega)))
        have S293 : ANL (dt207 30) (dt207 81) := by first | exact ANL_k hd12 hM2 C279 (by (first | omega | (have z0_ := unhid c56; omega))) (by (first | omega | (have z0_ := unhid c56; omega))) ((h206_6 3 (by decide)).trans (C52 3)) (fun j _ h2_ => (h206_6 j (by (first | omega | (have z0_ := unhid c56; omega)))).trans (C52 j)) | (exfalso; (first | omega | (have z0_ := unhid c56; omega)))
        refine go_toq PM267 (k := 2) (pc' := 1435) (L' := [some (.inr (.inr (some 3000))), some (.inr (.inr (some 0))), some (.inr (.inr (some 79))), some (.inl i)]) (st' := []) (w' := (SH, dt207)) rfl ?_
        exact K dt207 hI208 hM234 h206_2 (by first | (first | omega | (have z0_ := unhid c56; omega)) | (simp only [*]; done) | simp only [*]) (by (first | omega | (have z0_ := unhid c56; omega))) (by (first | omega | (have z0_ := unhid c56; omega))) (by (first | omega | (have z0_ := unhid c56; omega))) (by (first | omega | (have z0_ := unhid c56; omega))) (by (first | omega | (have z0_ := unhid c56; omega))) (by (first | omega | (have z0_ := unhid c56; omega))) (by (first | omega | (have z0_ := unhid c56; omega))) (by (first | omega | (have z0_ := unhid c56; omega))) (by (first | omega | (have z0_ := unhid c56; omega))) (by (first | omega | (have z0_ := unhid c56; omega))) (by (first | omega | (have z0_ := unhid c56; omega))) (by (first | omega | (have z0_ := unhid c56; omega))) (w225.trans (hk13.trans w235.symm)) (w226.trans (hk14.trans w236.symm)) (w227.trans (hk15.trans w237.symm)) (by first | exact hI | exact TPL_k hd0 C259 C261 (by (first | omega | (have z0_ := unhid c56; omega))) | (exfalso; (first | omega | (have z0_ := unhid c56; omega)))) (by first | exact S281 | exact SCL_k hd1 hM hI hI (fun j _ _ => C260 j) | (exfalso; (first | omega | (have z0_ := unhid c56; omega)))) (by first | exact S287 | exact SCL_k hd2 hM2 (fun j _ => C250 j) (fun j _ => C251 j) hI | (exfalso; (first | omega | (have z0_ := unhid c56; omega)))) (by first | exact S282 | exact QRL_k hd3 hM hI (C260 1) (fun j _ _ => C260 j) | (exfalso; (first | omega | (have z0_ := unhid c56; omega)))) (by first | exact S288 | exact QRL_k hd4 hM2 (fun j _ => C255 j) hI hI | (exfalso; (first | omega | (have z0_ := unhid c56; omega)))) (by first | exact S283 | exact SDL_k hd5 hM hI (C260 1) (fun j _ _ => C260 j) (fun j _ _ => C260 j) | (exfalso; (first | omega | (have z0_ := unhid c56; omega)))) (by first | exact S289 | exact SDL_k hd6 hM2 (fun j _ => C256 j) hI hI hI | (exfalso; (first | omega | (have z0_ := unhid c56; omega)))) (by first | exact S284 | exact LWL_k hd7 hM hI hI hI (fun j _ _ => C260 j) | (exfalso; (first | omega | (have z0_ := unhid c56; omega)))) (by first | exact S290 | exact LWL_k hd8 hM2 (fun j _ => C252 j) (fun j _ => C253 j) (fun j _ => C254 j) hI | (exfalso; (first | omega | (have z0_ := unhid c56; omega)))) (by first | exact S285 | exact CHL_k hd9 hM hI (by (first | omega | (have z0_ := unhid c56; omega))) (fun j _ _ => C260 j) | (exfalso; (first | omega | (have z0_ := unhid c56; omega)))) (by first | exact S291 | exact CHL_k hd10 hM2 (fun j _ => C257 j) (by (first | omega | (have z0_ := unhid c56; omega))) hI | (exfalso; (first | omega | (have z0_ := unhid c56; omega)))) (by first | exact S292 | exact ANL_k hd11 hM hI (by (first | omega | (have z0_ := unhid c56; omega))) (by (first | omega | (have z0_ := unhid c56; omega))) (by (first | omega | (have z0_ := unhid c56; omega))) (fun j _ _ => C260 j) | (exfalso; (first | omega | (have z0_ := unhid c56; omega)))) (by first | exact S293 | exact ANL_k hd12 hM2 (fun j _ => C258 j) (by (first | omega | (have z0_ := unhid c56; omega))) (by (first | omega | (have z0_ := unhid c56; omega))) (by (first | omega | (have z0_ := unhid c56; omega))) hI | (exfalso; (first | omega | (have z0_ := unhid c56; omega))))
    · skip
      obtain ⟨h3_0, h3_1, h3_2, h3_3, h3_4, h3_5, h3_6, h3_7, h3_8, h3_9, h3_10, h3_11, h3_12, h3_13, h3_14, h3_15, h3_16, h3_17, h3_18, h3_19, h3_20, h3_21, h3_22, h3_23, h3_24, h3_25, h3_26, h3_27, h3_28, h3_29, h3_30, h3_31, h3_32⟩ := h3
      have w294 : dt4 1 0 = dt 1 0 := h3_3
      have w295 : dt4 7 3 = dt 7 3 := h3_4
      have w296 : dt4 10 3 = dt 10 3 := h3_5
      have w297 : dt4 12 3 = dt 12 3 := h3_6
      have w298 : dt4 14 3 = dt 14 3 := h3_7
      have w299 : dt4 16 3 = dt 16 3 := h3_8
      have w300 : dt4 18 0 = dt 18 0 := h3_9
      have w301 : dt4 24 3 = dt 24 3 := h3_10
      have w302 : dt4 27 3 = dt 27 3 := h3_11
      have w303 : dt4 29 3 = dt 29 3 := h3_12
      have w304 : dt4 31 3 = dt 31 3 := h3_13
      have w305 : dt4 33 3 = dt 33 3 := h3_14
      have M2306 : MW (dt4 81) := MW_frk hM2 hF6 (by decide)
      have C307 : ∀ j : Nat, dt4 19 j = dt 19 j := fun j => (hF6 19 (by decide) j).trans ((fun _ => rfl) j)
      have C308 : ∀ j : Nat, dt4 20 j = dt 20 j := fun j => (hF6 20 (by decide) j).trans ((fun _ => rfl) j)
      have C309 : ∀ j : Nat, dt4 21 j = dt 21 j := fun j => (hF6 21 (by decide) j).trans ((fun _ => rfl) j)
      have C310 : ∀ j : Nat, dt4 22 j = dt 22 j := fun j => (hF6 22 (by decide) j).trans ((fun _ => rfl) j)
      have C311 : ∀ j : Nat, dt4 23 j = dt 23 j := fun j => (hF6 23 (by decide) j).trans ((fun _ => rfl) j)
      have C312 : ∀ j : Nat, dt4 25 j = dt 25 j := fun j => (hF6 25 (by decide) j).trans ((fun _ => rfl) j)
      have C313 : ∀ j : Nat, dt4 26 j = dt 26 j := fun j => (hF6 26 (by decide) j).trans ((fun _ => rfl) j)
      have C314 : ∀ j : Nat, dt4 28 j = dt 28 j := fun j => (hF6 28 (by decide) j).trans ((fun _ => rfl) j)
      have C315 : ∀ j : Nat, dt4 30 j = dt 30 j := fun j => (hF6 30 (by decide) j).trans ((fun _ => rfl) j)
      have C316 : ∀ j : Nat, dt4 36 j = dt 36 j := fun j => (hF6 36 (by decide) j).trans ((fun _ => rfl) j)
      have C317 : ∀ j : Nat, dt4 80 j = dt 80 j := fun j => (hF6 80 (by decide) j).trans ((fun _ => rfl) j)
      have C318 : ∀ j : Nat, dt4 81 j = dt 81 j := fun j => (hF6 81 (by decide) j).trans ((fun _ => rfl) j)
      have C319 : ∀ j : Nat, dt4 85 j = dt 85 j := fun j => (hF6 85 (by decide) j).trans ((fun _ => rfl) j)
      refine go_toq PM267 (k := 6) (pc' := 1396) (L' := [some (.inr (.inr (some 3000))), some (.inr (.inr (some 0))), some (.inr (.inr (some 79))), some (.inl i)]) (st' := [.inl (i + 1), .inr (.inr (some 3000)), .inr (.inr (some 79))]) (w' := (SH, dt4)) rfl ?_
      have r320 := i32_R (xs ((i + 1).toNat))
      refine go_smpq PM267 (L' := [some (.inr (.inr (some 3000))), some (.inr (.inr (some 0))), some (.inr (.inr (some 79))), some (.inl i)]) (st' := [.inl ((xs ((i + 1).toNat)).toInt), .inr (.inr (some 79))]) (w' := (SH, dt4)) rfl rfl (s_iald (n := L) (f := fun j => (xs j).toInt) (am_scr hLL) ⟨by omega, by omega⟩) ?_
      refine go_ifq PM267 (k := 0) (p1 := 1404) (p2 := 1400) (L' := [some (.inr (.inr (some 3000))), some (.inr (.inr (some 0))), some (.inr (.inr (some 79))), some (.inl i)]) (st' := [.inr (.inr (some 79))]) (w' := (SH, dt4)) rfl (z_eq (a := (xs ((i + 1).toNat)).toInt) ⟨by omega, by omega⟩) (fun c321 => ?_) (fun c321 => ?_)
      · skip
        refine go_toq PM267 (k := 1) (pc' := 1405) (L' := [some (.inr (.inr (some 3000))), some (.inr (.inr (some 0))), some (.inr (.inr (some 79))), some (.inl i)]) (st' := [.inl 0, .inr (.inr (some 79))]) (w' := (SH, dt4)) rfl ?_
        refine go_callq PM267 PM247 (Q' := _) rfl rfl rfl rfl (sp_X6_image_0v L xs sio (d + 38) dt4 hI5 hM8   (by first | exact True.intro | with_reducible assumption | rfl | omega | trivial | exact M2306 | exact hd1 | exact hqo | exact halk | exact hav_)) ?_
        rintro _ _ ⟨dt323, rfl, hI324, hF325, h322⟩
        refine ⟨rfl, ?_⟩
        have hF326 : Fr [0, 1, 2, 3, 4, 5, 6, 7, 8, 9, 10, 11, 12, 13, 14, 15, 16, 17, 18, 19, 20, 21, 22, 23, 24, 25, 26, 27, 28, 29, 30, 31, 32, 33, 34, 35, 36, 37, 38, 39, 40, 41, 42, 43, 44, 45, 46, 47, 48, 49, 50, 51, 52, 53, 54, 55, 56, 57, 58, 59, 60, 61, 62, 63, 64, 65, 66, 67, 68, 69, 70, 71, 72, 73, 74, 75, 76, 77, 78, 79, 80, 81, 82, 83, 84, 85, 86, 87, 88, 89, 90, 91, 92, 93, 94, 95, 96, 97, 98, 99, 100, 101, 102, 103, 104] dt dt323 := Fr_tr hF7 hF325 (by decide)
        have w327 : dt323 1 0 = dt 1 0 := (hF325 1 (by decide) 0).trans w294
        have w328 : dt323 7 3 = dt 7 3 := (hF325 7 (by decide) 3).trans w295
        have w329 : dt323 10 3 = dt 10 3 := (hF325 10 (by decide) 3).trans w296
        have w330 : dt323 12 3 = dt 12 3 := (hF325 12 (by decide) 3).trans w297
        have w331 : dt323 14 3 = dt 14 3 := (hF325 14 (by decide) 3).trans w298
        have w332 : dt323 16 3 = dt 16 3 := (hF325 16 (by decide) 3).trans w299
        have w333 : dt323 18 0 = dt 18 0 := (hF325 18 (by decide) 0).trans w300
        have w334 : dt323 24 3 = dt 24 3 := (hF325 24 (by decide) 3).trans w301
        have w335 : dt323 27 3 = dt 27 3 := (hF325 27 (by decide) 3).trans w302
        have w336 : dt323 29 3 = dt 29 3 := (hF325 29 (by decide) 3).trans w303
        have w337 : dt323 31 3 = dt 31 3 := (hF325 31 (by decide) 3).trans w304
        have w338 : dt323 33 3 = dt 33 3 := (hF325 33 (by decide) 3).trans w305
        have w339 : dt323 0 2 = dt 0 2 := (hF325 0 (by decide) 2).trans w15
        have w340 : dt323 35 1 = dt 35 1 := (hF325 35 (by decide) 1).trans w16
        have w341 : dt323 35 2 = dt 35 2 := (hF325 35 (by decide) 2).trans w17
        have w342 : dt323 35 3 = dt 35 3 := (hF325 35 (by decide) 3).trans w18
        have w343 : dt323 81 0 = dt 81 0 := (hF325 81 (by decide) 0).trans w25
        have w344 : dt323 81 1 = dt 81 1 := (hF325 81 (by decide) 1).trans w26
        have w345 : dt323 81 2 = dt 81 2 := (hF325 81 (by decide) 2).trans w27
        have w346 : dt323 81 3 = dt 81 3 := (hF325 81 (by decide) 3).trans w28
        have w347 : dt323 81 4 = dt 81 4 := (hF325 81 (by decide) 4).trans w29
        have w348 : dt323 81 5 = dt 81 5 := (hF325 81 (by decide) 5).trans w30
        rcases h322 with ⟨rfl, h322⟩ | ⟨rfl, h322⟩
        · skip
          have hM349 : MW (dt323 80) := h322.2.2.1
          obtain ⟨h322_0, h322_1, h322_2, h322_3, h322_4, h322_5, h322_6, h322_7, h322_8, h322_9, h322_10⟩ := h322
          have w350 : dt323 79 12 = dt 79 12 := h322_8.trans w32
          have w351 : dt323 79 19 = dt 79 19 := h322_9.trans w33
          have w352 : dt323 79 21 = dt 79 21 := h322_10.trans w34
          have M2353 : MW (dt323 81) := MW_frk M2306 hF325 (by decide)
          have y354 := h322_4 0 (by decide)
          have y355 := h322_4 1 (by decide)
          have y356 := h322_4 2 (by decide)
          have y357 := h322_4 3 (by decide)
          have y358 := h322_4 4 (by decide)
          have y359 := h322_4 5 (by decide)
          have y360 := h322_5 0 (by decide)
          have y361 := h322_5 1 (by decide)
          have y362 := h322_5 2 (by decide)
          have y363 := h322_5 3 (by decide)
          have y364 := h322_5 4 (by decide)
          have y365 := h322_5 5 (by decide)
          have C366 : ∀ j : Nat, dt323 19 j = dt 19 j := fun j => (hF325 19 (by decide) j).trans (C307 j)
          have C367 : ∀ j : Nat, dt323 20 j = dt 20 j := fun j => (hF325 20 (by decide) j).trans (C308 j)
          have C368 : ∀ j : Nat, dt323 21 j = dt 21 j := fun j => (hF325 21 (by decide) j).trans (C309 j)
          have C369 : ∀ j : Nat, dt323 22 j = dt 22 j := fun j => (hF325 22 (by decide) j).trans (C310 j)
          have C370 : ∀ j : Nat, dt323 23 j = dt 23 j := fun j => (hF325 23 (by decide) j).trans (C311 j)
          have C371 : ∀ j : Nat, dt323 25 j = dt 25 j := fun j => (hF325 25 (by decide) j).trans (C312 j)
          have C372 : ∀ j : Nat, dt323 26 j = dt 26 j := fun j => (hF325 26 (by decide) j).trans (C313 j)
          have C373 : ∀ j : Nat, dt323 28 j = dt 28 j := fun j => (hF325 28 (by decide) j).trans (C314 j)
          have C374 : ∀ j : Nat, dt323 30 j = dt 30 j := fun j => (hF325 30 (by decide) j).trans (C315 j)
          have C375 : ∀ j : Nat, dt323 36 j = dt 36 j := fun j => (hF325 36 (by decide) j).trans (C316 j)
          have C376 : ∀ j : Nat, dt323 81 j = dt 81 j := fun j => (hF325 81 (by decide) j).trans (C318 j)
          have C377 : ∀ j : Nat, dt323 85 j = dt 85 j := fun j => (hF325 85 (by decide) j).trans (C319 j)
          have C378 : ∀ j : Nat, j < 192 → dt323 2 j = dt 2 j := fun j hj => (hF325 2 (by decide) j).trans (h3_15 j hj)
          have C379 : ∀ j : Nat, j < 8 → dt323 3 j = dt 3 j := fun j hj => (hF325 3 (by decide) j).trans (h3_16 j hj)
          have C380 : ∀ j : Nat, j < 256 → dt323 4 j = dt 4 j := fun j hj => (hF325 4 (by decide) j).trans (h3_17 j hj)
          have C381 : ∀ j : Nat, j < 4 → dt323 5 j = dt 5 j := fun j hj => (hF325 5 (by decide) j).trans (h3_18 j hj)
          have C382 : ∀ j : Nat, j < 2000 → dt323 6 j = dt 6 j := fun j hj => (hF325 6 (by decide) j).trans (h3_19 j hj)
          have C383 : ∀ j : Nat, j < 60 → dt323 8 j = dt 8 j := fun j hj => (hF325 8 (by decide) j).trans (h3_20 j hj)
          have C384 : ∀ j : Nat, j < 132 → dt323 9 j = dt 9 j := fun j hj => (hF325 9 (by decide) j).trans (h3_21 j hj)
          have C385 : ∀ j : Nat, j < 160 → dt323 11 j = dt 11 j := fun j hj => (hF325 11 (by decide) j).trans (h3_22 j hj)
          have C386 : ∀ j : Nat, j < 192 → dt323 19 j = dt 19 j := fun j hj => (hF325 19 (by decide) j).trans (h3_24 j hj)
          have C387 : ∀ j : Nat, j < 8 → dt323 20 j = dt 20 j := fun j hj => (hF325 20 (by decide) j).trans (h3_25 j hj)
          have C388 : ∀ j : Nat, j < 256 → dt323 21 j = dt 21 j := fun j hj => (hF325 21 (by decide) j).trans (h3_26 j hj)
          have C389 : ∀ j : Nat, j < 4 → dt323 22 j = dt 22 j := fun j hj => (hF325 22 (by decide) j).trans (h3_27 j hj)
          have C390 : ∀ j : Nat, j < 2000 → dt323 23 j = dt 23 j := fun j hj => (hF325 23 (by decide) j).trans (h3_28 j hj)
          have C391 : ∀ j : Nat, j < 60 → dt323 25 j = dt 25 j := fun j hj => (hF325 25 (by decide) j).trans (h3_29 j hj)
          have C392 : ∀ j : Nat, j < 132 → dt323 26 j = dt 26 j := fun j hj => (hF325 26 (by decide) j).trans (h3_30 j hj)
          have C393 : ∀ j : Nat, j < 160 → dt323 28 j = dt 28 j := fun j hj => (hF325 28 (by decide) j).trans (h3_31 j hj)
          have C394 : ∀ j : Nat, j < 1800 → dt323 13 j = dt 13 j := fun j hj => (hF325 13 (by decide) j).trans (h3_23 j hj)
          have C395 : ∀ j : Nat, j < 1800 → dt323 30 j = dt 30 j := fun j hj => (hF325 30 (by decide) j).trans (h3_32 j hj)
          have F396 : ∀ j : Nat, j < 7460 → dt323 80 j = dt 80 j := fun j hj => (h322_6 j hj).trans (C317 j)
          have S397 : SCL (dt323 2) (dt323 3) (dt323 80) := by first | exact SCL_k hd1 hM C378 C379 (fun j _ h2_ => F396 j (by omega)) | (exfalso; omega)
          have S398 : QRL (dt323 8) (dt323 80) := by first | exact QRL_k hd3 hM C383 (F396 1 (by decide)) (fun j _ h2_ => F396 j (by omega)) | (exfalso; omega)
          have S399 : SDL (dt323 9) (dt323 80) := by first | exact SDL_k hd5 hM C384 (F396 1 (by decide)) (fun j _ h2_ => F396 j (by omega)) (fun j _ h2_ => F396 j (by omega)) | (exfalso; omega)
          have S400 : LWL (dt323 4) (dt323 5) (dt323 6) (dt323 80) := by first | exact LWL_k hd7 hM C380 C381 C382 (fun j _ h2_ => F396 j (by omega)) | (exfalso; omega)
          have S401 : CHL (dt323 11) (dt323 80) := by first | exact CHL_k hd9 hM C385 (F396 2 (by decide)) (fun j _ h2_ => F396 j (by omega)) | (exfalso; omega)
          have F402 : ∀ j : Nat, j < 7460 → dt323 81 j = dt 81 j := fun j hj => (h322_7 j hj).trans (C318 j)
          have S403 : SCL (dt323 19) (dt323 20) (dt323 81) := by first | exact SCL_k hd2 hM2 C386 C387 (fun j _ h2_ => F402 j (by omega)) | (exfalso; omega)
          have S404 : QRL (dt323 25) (dt323 81) := by first | exact QRL_k hd4 hM2 C391 (F402 1 (by decide)) (fun j _ h2_ => F402 j (by omega)) | (exfalso; omega)
          have S405 : SDL (dt323 26) (dt323 81) := by first | exact SDL_k hd6 hM2 C392 (F402 1 (by decide)) (fun j _ h2_ => F402 j (by omega)) (fun j _ h2_ => F402 j (by omega)) | (exfalso; omega)
          have S406 : LWL (dt323 21) (dt323 22) (dt323 23) (dt323 81) := by first | exact LWL_k hd8 hM2 C388 C389 C390 (fun j _ h2_ => F402 j (by omega)) | (exfalso; omega)
          have S407 : CHL (dt323 28) (dt323 81) := by first | exact CHL_k hd10 hM2 C393 (F402 2 (by decide)) (fun j _ h2_ => F402 j (by omega)) | (exfalso; omega)
          have S408 : ANL (dt323 13) (dt323 80) := by first | exact ANL_k hd11 hM C394 (by omega) (by omega) ((h322_6 3 (by decide)).trans (C317 3)) (fun j _ h2_ => (h322_6 j (by omega)).trans (C317 j)) | (exfalso; omega)
          have S409 : ANL (dt323 30) (dt323 81) := by first | exact ANL_k hd12 hM2 C395 (by omega) (by omega) ((h322_7 3 (by decide)).trans (C318 3)) (fun j _ h2_ => (h322_7 j (by omega)).trans (C318 j)) | (exfalso; omega)
          refine go_toq PM267 (k := 2) (pc' := 1435) (L' := [some (.inr (.inr (some 3000))), some (.inr (.inr (some 0))), some (.inr (.inr (some 79))), some (.inl i)]) (st' := []) (w' := (SH, dt323)) rfl ?_
          exact K dt323 hI324 hM349 M2353 (by first | omega | (simp only [*]; done) | simp only [*]) (by omega) (by omega) (by omega) (by omega) (by omega) (w333.trans (hk6.trans w343.symm)) (w334.trans (hk7.trans w344.symm)) (w335.trans (hk8.trans w345.symm)) (w336.trans (hk9.trans w346.symm)) (w337.trans (hk10.trans w347.symm)) (w338.trans (hk11.trans w348.symm)) (by omega) (w340.trans (hk13.trans w350.symm)) (w341.trans (hk14.trans w351.symm)) (w342.trans (hk15.trans w352.symm)) (by first | exact hI | exact TPL_k hd0 C375 C377 (by omega) | (exfalso; omega)) (by first | exact S397 | exact SCL_k hd1 hM hI hI hI | (exfalso; omega)) (by first | exact S403 | exact SCL_k hd2 hM2 (fun j _ => C366 j) (fun j _ => C367 j) (fun j _ _ => C376 j) | (exfalso; omega)) (by first | exact S398 | exact QRL_k hd3 hM hI hI hI | (exfalso; omega)) (by first | exact S404 | exact QRL_k hd4 hM2 (fun j _ => C371 j) (C376 1) (fun j _ _ => C376 j) | (exfalso; omega)) (by first | exact S399 | exact SDL_k hd5 hM hI hI hI hI | (exfalso; omega)) (by first | exact S405 | exact SDL_k hd6 hM2 (fun j _ => C372 j) (C376 1) (fun j _ _ => C376 j) (fun j _ _ => C376 j) | (exfalso; omega)) (by first | exact S400 | exact LWL_k hd7 hM hI hI hI hI | (exfalso; omega)) (by first | exact S406 | exact LWL_k hd8 hM2 (fun j _ => C368 j) (fun j _ => C369 j) (fun j _ => C370 j) (fun j _ _ => C376 j) | (exfalso; omega)) (by first | exact S401 | exact CHL_k hd9 hM hI (by omega) hI | (exfalso; omega)) (by first | exact S407 | exact CHL_k hd10 hM2 (fun j _ => C373 j) (by omega) (fun j _ _ => C376 j) | (exfalso; omega)) (by first | exact S408 | exact ANL_k hd11 hM hI (by omega) (by omega) (by omega) hI | (exfalso; omega)) (by first | exact S409 | exact ANL_k hd12 hM2 (fun j _ => C374 j) (by omega) (by omega) (by omega) (fun j _ _ => C376 j) | (exfalso; omega))
        · skip
          have hM410 : MW (dt323 80) := h322.2.2.1
          obtain ⟨h322_0, h322_1, h322_2, h322_3, h322_4, h322_5, h322_6, h322_7, h322_8, h322_9, h322_10⟩ := h322
          replace h322_0 := hid h322_0
          have w411 : dt323 79 12 = dt 79 12 := h322_8.trans w32
          have w412 : dt323 79 19 = dt 79 19 := h322_9.trans w33
          have w413 : dt323 79 21 = dt 79 21 := h322_10.trans w34
          have M2414 : MW (dt323 81) := MW_frk M2306 hF325 (by decide)
          have y415 := h322_4 0 (by decide)
          have y416 := h322_4 1 (by decide)
          have y417 := h322_4 2 (by decide)
          have y418 := h322_4 3 (by decide)
          have y419 := h322_4 4 (by decide)
          have y420 := h322_4 5 (by decide)
          have y421 := h322_5 0 (by decide)
          have y422 := h322_5 1 (by decide)
          have y423 := h322_5 2 (by decide)
          have y424 := h322_5 3 (by decide)
          have y425 := h322_5 4 (by decide)
          have y426 := h322_5 5 (by decide)
          have C427 : ∀ j : Nat, dt323 19 j = dt 19 j := fun j => (hF325 19 (by decide) j).trans (C307 j)
          have C428 : ∀ j : Nat, dt323 20 j = dt 20 j := fun j => (hF325 20 (by decide) j).trans (C308 j)
          have C429 : ∀ j : Nat, dt323 21 j = dt 21 j := fun j => (hF325 21 (by decide) j).trans (C309 j)
          have C430 : ∀ j : Nat, dt323 22 j = dt 22 j := fun j => (hF325 22 (by decide) j).trans (C310 j)
          have C431 : ∀ j : Nat, dt323 23 j = dt 23 j := fun j => (hF325 23 (by decide) j).trans (C311 j)
          have C432 : ∀ j : Nat, dt323 25 j = dt 25 j := fun j => (hF325 25 (by decide) j).trans (C312 j)
          have C433 : ∀ j : Nat, dt323 26 j = dt 26 j := fun j => (hF325 26 (by decide) j).trans (C313 j)
          have C434 : ∀ j : Nat, dt323 28 j = dt 28 j := fun j => (hF325 28 (by decide) j).trans (C314 j)
          have C435 : ∀ j : Nat, dt323 30 j = dt 30 j := fun j => (hF325 30 (by decide) j).trans (C315 j)
          have C436 : ∀ j : Nat, dt323 36 j = dt 36 j := fun j => (hF325 36 (by decide) j).trans (C316 j)
          have C437 : ∀ j : Nat, dt323 81 j = dt 81 j := fun j => (hF325 81 (by decide) j).trans (C318 j)
          have C438 : ∀ j : Nat, dt323 85 j = dt 85 j := fun j => (hF325 85 (by decide) j).trans (C319 j)
          have C439 : ∀ j : Nat, j < 192 → dt323 2 j = dt 2 j := fun j hj => (hF325 2 (by decide) j).trans (h3_15 j hj)
          have C440 : ∀ j : Nat, j < 8 → dt323 3 j = dt 3 j := fun j hj => (hF325 3 (by decide) j).trans (h3_16 j hj)
          have C441 : ∀ j : Nat, j < 256 → dt323 4 j = dt 4 j := fun j hj => (hF325 4 (by decide) j).trans (h3_17 j hj)
          have C442 : ∀ j : Nat, j < 4 → dt323 5 j = dt 5 j := fun j hj => (hF325 5 (by decide) j).trans (h3_18 j hj)
          have C443 : ∀ j : Nat, j < 2000 → dt323 6 j = dt 6 j := fun j hj => (hF325 6 (by decide) j).trans (h3_19 j hj)
          have C444 : ∀ j : Nat, j < 60 → dt323 8 j = dt 8 j := fun j hj => (hF325 8 (by decide) j).trans (h3_20 j hj)
          have C445 : ∀ j : Nat, j < 132 → dt323 9 j = dt 9 j := fun j hj => (hF325 9 (by decide) j).trans (h3_21 j hj)
          have C446 : ∀ j : Nat, j < 160 → dt323 11 j = dt 11 j := fun j hj => (hF325 11 (by decide) j).trans (h3_22 j hj)
          have C447 : ∀ j : Nat, j < 192 → dt323 19 j = dt 19 j := fun j hj => (hF325 19 (by decide) j).trans (h3_24 j hj)
          have C448 : ∀ j : Nat, j < 8 → dt323 20 j = dt 20 j := fun j hj => (hF325 20 (by decide) j).trans (h3_25 j hj)
          have C449 : ∀ j : Nat, j < 256 → dt323 21 j = dt 21 j := fun j hj => (hF325 21 (by decide) j).trans (h3_26 j hj)
          have C450 : ∀ j : Nat, j < 4 → dt323 22 j = dt 22 j := fun j hj => (hF325 22 (by decide) j).trans (h3_27 j hj)
          have C451 : ∀ j : Nat, j < 2000 → dt323 23 j = dt 23 j := fun j hj => (hF325 23 (by decide) j).trans (h3_28 j hj)
          have C452 : ∀ j : Nat, j < 60 → dt323 25 j = dt 25 j := fun j hj => (hF325 25 (by decide) j).trans (h3_29 j hj)
          have C453 : ∀ j : Nat, j < 132 → dt323 26 j = dt 26 j := fun j hj => (hF325 26 (by decide) j).trans (h3_30 j hj)
          have C454 : ∀ j : Nat, j < 160 → dt323 28 j = dt 28 j := fun j hj => (hF325 28 (by decide) j).trans (h3_31 j hj)
          have C455 : ∀ j : Nat, j < 1800 → dt323 13 j = dt 13 j := fun j hj => (hF325 13 (by decide) j).trans (h3_23 j hj)
          have C456 : ∀ j : Nat, j < 1800 → dt323 30 j = dt 30 j := fun j hj => (hF325 30 (by decide) j).trans (h3_32 j hj)
          have F457 : ∀ j : Nat, j < 7460 → dt323 80 j = dt 81 j := fun j hj => (h322_6 j hj).trans (C318 j)
          have S458 : SCL (dt323 2) (dt323 3) (dt323 80) := by first | exact SCL_k hd1 hM C439 C440 (fun j _ h2_ => F457 j (by (first | omega | (have z0_ := unhid h322_0; omega)))) | (exfalso; (first | omega | (have z0_ := unhid h322_0; omega)))
          have S459 : QRL (dt323 8) (dt323 80) := by first | exact QRL_k hd3 hM C444 (F457 1 (by decide)) (fun j _ h2_ => F457 j (by (first | omega | (have z0_ := unhid h322_0; omega)))) | (exfalso; (first | omega | (have z0_ := unhid h322_0; omega)))
          have S460 : SDL (dt323 9) (dt323 80) := by first | exact SDL_k hd5 hM C445 (F457 1 (by decide)) (fun j _ h2_ => F457 j (by (first | omega | (have z0_ := unhid h322_0; omega)))) (fun j _ h2_ => F457 j (by (first | omega | (have z0_ := unhid h322_0; omega)))) | (exfalso; (first | omega | (have z0_ := unhid h322_0; omega)))
          have S461 : LWL (dt323 4) (dt323 5) (dt323 6) (dt323 80) := by first | exact LWL_k hd7 hM C441 C442 C443 (fun j _ h2_ => F457 j (by (first | omega | (have z0_ := unhid h322_0; omega)))) | (exfalso; (first | omega | (have z0_ := unhid h322_0; omega)))
          have S462 : CHL (dt323 11) (dt323 80) := by first | exact CHL_k hd9 hM C446 (F457 2 (by decide)) (fun j _ h2_ => F457 j (by (first | omega | (have z0_ := unhid h322_0; omega)))) | (exfalso; (first | omega | (have z0_ := unhid h322_0; omega)))
          have F463 : ∀ j : Nat, j < 7460 → dt323 81 j = dt 81 j := fun j hj => (h322_7 j hj).trans (C318 j)
          have S464 : SCL (dt323 19) (dt323 20) (dt323 81) := by first | exact SCL_k hd2 hM2 C447 C448 (fun j _ h2_ => F463 j (by (first | omega | (have z0_ := unhid h322_0; omega)))) | (exfalso; (first | omega | (have z0_ := unhid h322_0; omega)))
          have S465 : QRL (dt323 25) (dt323 81) := by first | exact QRL_k hd4 hM2 C452 (F463 1 (by decide)) (fun j _ h2_ => F463 j (by (first | omega | (have z0_ := unhid h322_0; omega)))) | (exfalso; (first | omega | (have z0_ := unhid h322_0; omega)))
          have S466 : SDL (dt323 26) (dt323 81) := by first | exact SDL_k hd6 hM2 C453 (F463 1 (by decide)) (fun j _ h2_ => F463 j (by (first | omega | (have z0_ := unhid h322_0; omega)))) (fun j _ h2_ => F463 j (by (first | omega | (have z0_ := unhid h322_0; omega)))) | (exfalso; (first | omega | (have z0_ := unhid h322_0; omega)))
          have S467 : LWL (dt323 21) (dt323 22) (dt323 23) (dt323 81) := by first | exact LWL_k hd8 hM2 C449 C450 C451 (fun j _ h2_ => F463 j (by (first | omega | (have z0_ := unhid h322_0; omega)))) | (exfalso; (first | omega | (have z0_ := unhid h322_0; omega)))
          have S468 : CHL (dt323 28) (dt323 81) := by first | exact CHL_k hd10 hM2 C454 (F463 2 (by decide)) (fun j _ h2_ => F463 j (by (first | omega | (have z0_ := unhid h322_0; omega)))) | (exfalso; (first | omega | (have z0_ := unhid h322_0; omega)))
          have S469 : ANL (dt323 13) (dt323 80) := by first | exact ANL_k hd11 hM C455 (by (first | omega | (have z0_ := unhid h322_0; omega))) (by (first | omega | (have z0_ := unhid h322_0; omega))) ((h322_6 3 (by decide)).trans (C318 3)) (fun j _ h2_ => (h322_6 j (by (first | omega | (have z0_ := unhid h322_0; omega)))).trans (C318 j)) | (exfalso; (first | omega | (have z0_ := unhid h322_0; omega)))
          have S470 : ANL (dt323 30) (dt323 81) := by first | exact ANL_k hd12 hM2 C456 (by (first | omega | (have z0_ := unhid h322_0; omega))) (by (first | omega | (have z0_ := unhid h322_0; omega))) ((h322_7 3 (by decide)).trans (C318 3)) (fun j _ h2_ => (h322_7 j (by (first | omega | (have z0_ := unhid h322_0; omega)))).trans (C318 j)) | (exfalso; (first | omega | (have z0_ := unhid h322_0; omega)))
          refine go_toq PM267 (k := 2) (pc' := 1435) (L' := [some (.inr (.inr (some 3000))), some (.inr (.inr (some 0))), some (.inr (.inr (some 79))), some (.inl i)]) (st' := []) (w' := (SH, dt323)) rfl ?_
          exact K dt323 hI324 hM410 M2414 (by first | (first | omega | (have z0_ := unhid h322_0; omega)) | (simp only [*]; done) | simp only [*]) (by (first | omega | (have z0_ := unhid h322_0; omega))) (by (first | omega | (have z0_ := unhid h322_0; omega))) (by (first | omega | (have z0_ := unhid h322_0; omega))) (by (first | omega | (have z0_ := unhid h322_0; omega))) (by (first | omega | (have z0_ := unhid h322_0; omega))) (w333.trans (hk6.trans w343.symm)) (w334.trans (hk7.trans w344.symm)) (w335.trans (hk8.trans w345.symm)) (w336.trans (hk9.trans w346.symm)) (w337.trans (hk10.trans w347.symm)) (w338.trans (hk11.trans w348.symm)) (by (first | omega | (have z0_ := unhid h322_0; omega))) (w340.trans (hk13.trans w411.symm)) (w341.trans (hk14.trans w412.symm)) (w342.trans (hk15.trans w413.symm)) (by first | exact hI | exact TPL_k hd0 C436 C438 (by (first | omega | (have z0_ := unhid h322_0; omega))) | (exfalso; (first | omega | (have z0_ := unhid h322_0; omega)))) (by first | exact S458 | exact SCL_k hd1 hM hI hI hI | (exfalso; (first | omega | (have z0_ := unhid h322_0; omega)))) (by first | exact S464 | exact SCL_k hd2 hM2 (fun j _ => C427 j) (fun j _ => C428 j) (fun j _ _ => C437 j) | (exfalso; (first | omega | (have z0_ := unhid h322_0; omega)))) (by first | exact S459 | exact QRL_k hd3 hM hI hI hI | (exfalso; (first | omega | (have z0_ := unhid h322_0; omega)))) (by first | exact S465 | exact QRL_k hd4 hM2 (fun j _ => C432 j) (C437 1) (fun j _ _ => C437 j) | (exfalso; (first | omega | (have z0_ := unhid h322_0; omega)))) (by first | exact S460 | exact SDL_k hd5 hM hI hI hI hI | (exfalso; (first | omega | (have z0_ := unhid h322_0; omega)))) (by first | exact S466 | exact SDL_k hd6 hM2 (fun j _ => C433 j) (C437 1) (fun j _ _ => C437 j) (fun j _ _ => C437 j) | (exfalso; (first | omega | (have z0_ := unhid h322_0; omega)))) (by first | exact S461 | exact LWL_k hd7 hM hI hI hI hI | (exfalso; (first | omega | (have z0_ := unhid h322_0; omega)))) (by first | exact S467 | exact LWL_k hd8 hM2 (fun j _ => C429 j) (fun j _ => C430 j) (fun j _ => C431 j) (fun j _ _ => C437 j) | (exfalso; (first | omega | (have z0_ := unhid h322_0; omega)))) (by first | exact S462 | exact CHL_k hd9 hM hI (by (first | omega | (have z0_ := unhid h322_0; omega))) hI | (exfalso; (first | omega | (have z0_ := unhid h322_0; omega)))) (by first | exact S468 | exact CHL_k hd10 hM2 (fun j _ => C434 j) (by (first | omega | (have z0_ := unhid h322_0; omega))) (fun j _ _ => C437 j) | (exfalso; (first | omega | (have z0_ := unhid h322_0; omega)))) (by first | exact S469 | exact ANL_k hd11 hM hI (by (first | omega | (have z0_ := unhid h322_0; omega))) (by (first | omega | (have z0_ := unhid h322_0; omega))) (by (first | omega | (have z0_ := unhid h322_0; omega))) hI | (exfalso; (first | omega | (have z0_ := unhid h322_0; omega)))) (by first | exact S470 | exact ANL_k hd12 hM2 (fun j _ => C435 j) (by (first | omega | (have z0_ := unhid h322_0; omega))) (by (first | omega | (have z0_ := unhid h322_0; omega))) (by (first | omega | (have z0_ := unhid h322_0; omega))) (fun j _ _ => C437 j) | (exfalso; (first | omega | (have z0_ := unhid h322_0; omega))))
      · skip
        replace c321 := hid c321
        refine go_toq PM267 (k := 2) (pc' := 1405) (L' := [some (.inr (.inr (some 3000))), some (.inr (.inr (some 0))), some (.inr (.inr (some 79))), some (.inl i)]) (st' := [.inl 1, .inr (.inr (some 79))]) (w' := (SH, dt4)) rfl ?_
        refine go_callq PM267 PM247 (Q' := _) rfl rfl rfl rfl (sp_X6_image_1v L xs sio (d + 38) dt4 hI5 hM8   ) ?_
        rintro _ _ ⟨dt472, rfl, hI473, hF474, h471⟩
        refine ⟨rfl, ?_⟩
        have hF475 : Fr [0, 1, 2, 3, 4, 5, 6, 7, 8, 9, 10, 11, 12, 13, 14, 15, 16, 17, 18, 19, 20, 21, 22, 23, 24, 25, 26, 27, 28, 29, 30, 31, 32, 33, 34, 35, 36, 37, 38, 39, 40, 41, 42, 43, 44, 45, 46, 47, 48, 49, 50, 51, 52, 53, 54, 55, 56, 57, 58, 59, 60, 61, 62, 63, 64, 65, 66, 67, 68, 69, 70, 71, 72, 73, 74, 75, 76, 77, 78, 79, 80, 81, 82, 83, 84, 85, 86, 87, 88, 89, 90, 91, 92, 93, 94, 95, 96, 97, 98, 99, 100, 101, 102, 103, 104] dt dt472 := Fr_tr hF7 hF474 (by decide)
        have hM476 : MW (dt472 80) := MW_fr hM8 hF474 (by decide)
        have w477 : dt472 1 0 = dt 1 0 := (hF474 1 (by decide) 0).trans w294
        have w478 : dt472 7 3 = dt 7 3 := (hF474 7 (by decide) 3).trans w295
        have w479 : dt472 10 3 = dt 10 3 := (hF474 10 (by decide) 3).trans w296
        have w480 : dt472 12 3 = dt 12 3 := (hF474 12 (by decide) 3).trans w297
        have w481 : dt472 14 3 = dt 14 3 := (hF474 14 (by decide) 3).trans w298
        have w482 : dt472 16 3 = dt 16 3 := (hF474 16 (by decide) 3).trans w299
        have w483 : dt472 18 0 = dt 18 0 := (hF474 18 (by decide) 0).trans w300
        have w484 : dt472 24 3 = dt 24 3 := (hF474 24 (by decide) 3).trans w301
        have w485 : dt472 27 3 = dt 27 3 := (hF474 27 (by decide) 3).trans w302
        have w486 : dt472 29 3 = dt 29 3 := (hF474 29 (by decide) 3).trans w303
        have w487 : dt472 31 3 = dt 31 3 := (hF474 31 (by decide) 3).trans w304
        have w488 : dt472 33 3 = dt 33 3 := (hF474 33 (by decide) 3).trans w305
        have w489 : dt472 0 2 = dt 0 2 := (hF474 0 (by decide) 2).trans w15
        have w490 : dt472 35 1 = dt 35 1 := (hF474 35 (by decide) 1).trans w16
        have w491 : dt472 35 2 = dt 35 2 := (hF474 35 (by decide) 2).trans w17
        have w492 : dt472 35 3 = dt 35 3 := (hF474 35 (by decide) 3).trans w18
        have w493 : dt472 80 0 = dt 80 0 := (hF474 80 (by decide) 0).trans w19
        have w494 : dt472 80 1 = dt 80 1 := (hF474 80 (by decide) 1).trans w20
        have w495 : dt472 80 2 = dt 80 2 := (hF474 80 (by decide) 2).trans w21
        have w496 : dt472 80 3 = dt 80 3 := (hF474 80 (by decide) 3).trans w22
        have w497 : dt472 80 4 = dt 80 4 := (hF474 80 (by decide) 4).trans w23
        have w498 : dt472 80 5 = dt 80 5 := (hF474 80 (by decide) 5).trans w24
        rcases h471 with ⟨rfl, h471⟩
        have hM499 : MW (dt472 80) := h471.2.1
        obtain ⟨h471_0, h471_1, h471_2, h471_3, h471_4, h471_5, h471_6, h471_7, h471_8, h471_9⟩ := h471
        have w500 : dt472 79 12 = dt 79 12 := h471_7.trans w32
        have w501 : dt472 79 19 = dt 79 19 := h471_8.trans w33
        have w502 : dt472 79 21 = dt 79 21 := h471_9.trans w34
        have y503 := h471_3 0 (by decide)
        have y504 := h471_3 1 (by decide)
        have y505 := h471_3 2 (by decide)
        have y506 := h471_3 3 (by decide)
        have y507 := h471_3 4 (by decide)
        have y508 := h471_3 5 (by decide)
        have y509 := h471_4 0 (by decide)
        have y510 := h471_4 1 (by decide)
        have y511 := h471_4 2 (by decide)
        have y512 := h471_4 3 (by decide)
        have y513 := h471_4 4 (by decide)
        have y514 := h471_4 5 (by decide)
        have C515 : ∀ j : Nat, dt472 19 j = dt 19 j := fun j => (hF474 19 (by decide) j).trans (C307 j)
        have C516 : ∀ j : Nat, dt472 20 j = dt 20 j := fun j => (hF474 20 (by decide) j).trans (C308 j)
        have C517 : ∀ j : Nat, dt472 21 j = dt 21 j := fun j => (hF474 21 (by decide) j).trans (C309 j)
        have C518 : ∀ j : Nat, dt472 22 j = dt 22 j := fun j => (hF474 22 (by decide) j).trans (C310 j)
        have C519 : ∀ j : Nat, dt472 23 j = dt 23 j := fun j => (hF474 23 (by decide) j).trans (C311 j)
        have C520 : ∀ j : Nat, dt472 25 j = dt 25 j := fun j => (hF474 25 (by decide) j).trans (C312 j)
        have C521 : ∀ j : Nat, dt472 26 j = dt 26 j := fun j => (hF474 26 (by decide) j).trans (C313 j)
        have C522 : ∀ j : Nat, dt472 28 j = dt 28 j := fun j => (hF474 28 (by decide) j).trans (C314 j)
        have C523 : ∀ j : Nat, dt472 30 j = dt 30 j := fun j => (hF474 30 (by decide) j).trans (C315 j)
        have C524 : ∀ j : Nat, dt472 36 j = dt 36 j := fun j => (hF474 36 (by decide) j).trans (C316 j)
        have C525 : ∀ j : Nat, dt472 80 j = dt 80 j := fun j => (hF474 80 (by decide) j).trans (C317 j)
        have C526 : ∀ j : Nat, dt472 85 j = dt 85 j := fun j => (hF474 85 (by decide) j).trans (C319 j)
        have C527 : ∀ j : Nat, j < 192 → dt472 2 j = dt 2 j := fun j hj => (hF474 2 (by decide) j).trans (h3_15 j hj)
        have C528 : ∀ j : Nat, j < 8 → dt472 3 j = dt 3 j := fun j hj => (hF474 3 (by decide) j).trans (h3_16 j hj)
        have C529 : ∀ j : Nat, j < 256 → dt472 4 j = dt 4 j := fun j hj => (hF474 4 (by decide) j).trans (h3_17 j hj)
        have C530 : ∀ j : Nat, j < 4 → dt472 5 j = dt 5 j := fun j hj => (hF474 5 (by decide) j).trans (h3_18 j hj)
        have C531 : ∀ j : Nat, j < 2000 → dt472 6 j = dt 6 j := fun j hj => (hF474 6 (by decide) j).trans (h3_19 j hj)
        have C532 : ∀ j : Nat, j < 60 → dt472 8 j = dt 8 j := fun j hj => (hF474 8 (by decide) j).trans (h3_20 j hj)
        have C533 : ∀ j : Nat, j < 132 → dt472 9 j = dt 9 j := fun j hj => (hF474 9 (by decide) j).trans (h3_21 j hj)
        have C534 : ∀ j : Nat, j < 160 → dt472 11 j = dt 11 j := fun j hj => (hF474 11 (by decide) j).trans (h3_22 j hj)
        have C535 : ∀ j : Nat, j < 192 → dt472 19 j = dt 19 j := fun j hj => (hF474 19 (by decide) j).trans (h3_24 j hj)
        have C536 : ∀ j : Nat, j < 8 → dt472 20 j = dt 20 j := fun j hj => (hF474 20 (by decide) j).trans (h3_25 j hj)
        have C537 : ∀ j : Nat, j < 256 → dt472 21 j = dt 21 j := fun j hj => (hF474 21 (by decide) j).trans (h3_26 j hj)
        have C538 : ∀ j : Nat, j < 4 → dt472 22 j = dt 22 j := fun j hj => (hF474 22 (by decide) j).trans (h3_27 j hj)
        have C539 : ∀ j : Nat, j < 2000 → dt472 23 j = dt 23 j := fun j hj => (hF474 23 (by decide) j).trans (h3_28 j hj)
        have C540 : ∀ j : Nat, j < 60 → dt472 25 j = dt 25 j := fun j hj => (hF474 25 (by decide) j).trans (h3_29 j hj)
        have C541 : ∀ j : Nat, j < 132 → dt472 26 j = dt 26 j := fun j hj => (hF474 26 (by decide) j).trans (h3_30 j hj)
        have C542 : ∀ j : Nat, j < 160 → dt472 28 j = dt 28 j := fun j hj => (hF474 28 (by decide) j).trans (h3_31 j hj)
        have C543 : ∀ j : Nat, j < 1800 → dt472 13 j = dt 13 j := fun j hj => (hF474 13 (by decide) j).trans (h3_23 j hj)
        have C544 : ∀ j : Nat, j < 1800 → dt472 30 j = dt 30 j := fun j hj => (hF474 30 (by decide) j).trans (h3_32 j hj)
        have F545 : ∀ j : Nat, j < 7460 → dt472 80 j = dt 80 j := fun j hj => (h471_5 j hj).trans (C317 j)
        have S546 : SCL (dt472 2) (dt472 3) (dt472 80) := by first | exact SCL_k hd1 hM C527 C528 (fun j _ h2_ => F545 j (by (first | omega | (have z0_ := unhid c321; omega)))) | (exfalso; (first | omega | (have z0_ := unhid c321; omega)))
        have S547 : QRL (dt472 8) (dt472 80) := by first | exact QRL_k hd3 hM C532 (F545 1 (by decide)) (fun j _ h2_ => F545 j (by (first | omega | (have z0_ := unhid c321; omega)))) | (exfalso; (first | omega | (have z0_ := unhid c321; omega)))
        have S548 : SDL (dt472 9) (dt472 80) := by first | exact SDL_k hd5 hM C533 (F545 1 (by decide)) (fun j _ h2_ => F545 j (by (first | omega | (have z0_ := unhid c321; omega)))) (fun j _ h2_ => F545 j (by (first | omega | (have z0_ := unhid c321; omega)))) | (exfalso; (first | omega | (have z0_ := unhid c321; omega)))
        have S549 : LWL (dt472 4) (dt472 5) (dt472 6) (dt472 80) := by first | exact LWL_k hd7 hM C529 C530 C531 (fun j _ h2_ => F545 j (by (first | omega | (have z0_ := unhid c321; omega)))) | (exfalso; (first | omega | (have z0_ := unhid c321; omega)))
        have S550 : CHL (dt472 11) (dt472 80) := by first | exact CHL_k hd9 hM C534 (F545 2 (by decide)) (fun j _ h2_ => F545 j (by (first | omega | (have z0_ := unhid c321; omega)))) | (exfalso; (first | omega | (have z0_ := unhid c321; omega)))
        have F551 : ∀ j : Nat, j < 7460 → dt472 81 j = dt 80 j := fun j hj => (h471_6 j hj).trans (C317 j)
        have S552 : SCL (dt472 19) (dt472 20) (dt472 81) := by first | exact SCL_k hd2 hM2 C535 C536 (fun j _ h2_ => F551 j (by (first | omega | (have z0_ := unhid c321; omega)))) | (exfalso; (first | omega | (have z0_ := unhid c321; omega)))
        have S553 : QRL (dt472 25) (dt472 81) := by first | exact QRL_k hd4 hM2 C540 (F551 1 (by decide)) (fun j _ h2_ => F551 j (by (first | omega | (have z0_ := unhid c321; omega)))) | (exfalso; (first | omega | (have z0_ := unhid c321; omega)))
        have S554 : SDL (dt472 26) (dt472 81) := by first | exact SDL_k hd6 hM2 C541 (F551 1 (by decide)) (fun j _ h2_ => F551 j (by (first | omega | (have z0_ := unhid c321; omega)))) (fun j _ h2_ => F551 j (by (first | omega | (have z0_ := unhid c321; omega)))) | (exfalso; (first | omega | (have z0_ := unhid c321; omega)))
        have S555 : LWL (dt472 21) (dt472 22) (dt472 23) (dt472 81) := by first | exact LWL_k hd8 hM2 C537 C538 C539 (fun j _ h2_ => F551 j (by (first | omega | (have z0_ := unhid c321; omega)))) | (exfalso; (first | omega | (have z0_ := unhid c321; omega)))
        have S556 : CHL (dt472 28) (dt472 81) := by first | exact CHL_k hd10 hM2 C542 (F551 2 (by decide)) (fun j _ h2_ => F551 j (by (first | omega | (have z0_ := unhid c321; omega)))) | (exfalso; (first | omega | (have z0_ := unhid c321; omega)))
        have S557 : ANL (dt472 13) (dt472 80) := by first | exact ANL_k hd11 hM C543 (by (first | omega | (have z0_ := unhid c321; omega))) (by (first | omega | (have z0_ := unhid c321; omega))) ((h471_5 3 (by decide)).trans (C317 3)) (fun j _ h2_ => (h471_5 j (by (first | omega | (have z0_ := unhid c321; omega)))).trans (C317 j)) | (exfalso; (first | omega | (have z0_ := unhid c321; omega)))
        have S558 : ANL (dt472 30) (dt472 81) := by first | exact ANL_k hd12 hM2 C544 (by (first | omega | (have z0_ := unhid c321; omega))) (by (first | omega | (have z0_ := unhid c321; omega))) ((h471_6 3 (by decide)).trans (C317 3)) (fun j _ h2_ => (h471_6 j (by (first | omega | (have z0_ := unhid c321; omega)))).trans (C317 j)) | (exfalso; (first | omega | (have z0_ := unhid c321; omega)))
        refine go_toq PM267 (k := 2) (pc' := 1435) (L' := [some (.inr (.inr (some 3000))), some (.inr (.inr (some 0))), some (.inr (.inr (some 79))), some (.inl i)]) (st' := []) (w' := (SH, dt472)) rfl ?_
        exact K dt472 hI473 hM499 h471_2 (w477.trans (hk0.trans w493.symm)) (w478.trans (hk1.trans w494.symm)) (w479.trans (hk2.trans w495.symm)) (w480.trans (hk3.trans w496.symm)) (w481.trans (hk4.trans w497.symm)) (w482.trans (hk5.trans w498.symm)) (by (first | omega | (have z0_ := unhid c321; omega))) (by (first | omega | (have z0_ := unhid c321; omega))) (by (first | omega | (have z0_ := unhid c321; omega))) (by (first | omega | (have z0_ := unhid c321; omega))) (by (first | omega | (have z0_ := unhid c321; omega))) (by (first | omega | (have z0_ := unhid c321; omega))) (by (first | omega | (have z0_ := unhid c321; omega))) (w490.trans (hk13.trans w500.symm)) (w491.trans (hk14.trans w501.symm)) (w492.trans (hk15.trans w502.symm)) (by first | exact hI | exact TPL_k hd0 C524 C526 (by (first | omega | (have z0_ := unhid c321; omega))) | (exfalso; (first | omega | (have z0_ := unhid c321; omega)))) (by first | exact S546 | exact SCL_k hd1 hM hI hI (fun j _ _ => C525 j) | (exfalso; (first | omega | (have z0_ := unhid c321; omega)))) (by first | exact S552 | exact SCL_k hd2 hM2 (fun j _ => C515 j) (fun j _ => C516 j) hI | (exfalso; (first | omega | (have z0_ := unhid c321; omega)))) (by first | exact S547 | exact QRL_k hd3 hM hI (C525 1) (fun j _ _ => C525 j) | (exfalso; (first | omega | (have z0_ := unhid c321; omega)))) (by first | exact S553 | exact QRL_k hd4 hM2 (fun j _ => C520 j) hI hI | (exfalso; (first | omega | (have z0_ := unhid c321; omega)))) (by first | exact S548 | exact SDL_k hd5 hM hI (C525 1) (fun j _ _ => C525 j) (fun j _ _ => C525 j) | (exfalso; (first | omega | (have z0_ := unhid c321; omega)))) (by first | exact S554 | exact SDL_k hd6 hM2 (fun j _ => C521 j) hI hI hI | (exfalso; (first | omega | (have z0_ := unhid c321; omega)))) (by first | exact S549 | exact LWL_k hd7 hM hI hI hI (fun j _ _ => C525 j) | (exfalso; (first | omega | (have z0_ := unhid c321; omega)))) (by first | exact S555 | exact LWL_k hd8 hM2 (fun j _ => C517 j) (fun j _ => C518 j) (fun j _ => C519 j) hI | (exfalso; (first | omega | (have z0_ := unhid c321; omega)))) (by first | exact S550 | exact CHL_k hd9 hM hI (by (first | omega | (have z0_ := unhid c321; omega))) (fun j _ _ => C525 j) | (exfalso; (first | omega | (have z0_ := unhid c321; omega)))) (by first | exact S556 | exact CHL_k hd10 hM2 (fun j _ => C522 j) (by (first | omega | (have z0_ := unhid c321; omega))) hI | (exfalso; (first | omega | (have z0_ := unhid c321; omega)))) (by first | exact S557 | exact ANL_k hd11 hM hI (by (first | omega | (have z0_ := unhid c321; omega))) (by (first | omega | (have z0_ := unhid c321; omega))) (by (first | omega | (have z0_ := unhid c321; omega))) (fun j _ _ => C525 j) | (exfalso; (first | omega | (have z0_ := unhid c321; omega)))) (by first | exact S558 | exact ANL_k hd12 hM2 (fun j _ => C523 j) (by (first | omega | (have z0_ := unhid c321; omega))) (by (first | omega | (have z0_ := unhid c321; omega))) (by (first | omega | (have z0_ := unhid c321; omega))) hI | (exfalso; (first | omega | (have z0_ := unhid c321; omega))))
  · skip
    replace c2 := hid c2
    refine go_toq PM267 (k := 2) (pc' := 1387) (L' := [some (.inr (.inr (some 3000))), some (.inr (.inr (some 0))), some (.inr (.inr (some 79))), some (.inl i)]) (st' := [.inl 1, .inr (.inr (some 0))]) (w' := (SH, dt)) rfl ?_
    refine go_callq PM267 PM98 (Q' := _) rfl rfl rfl rfl (sp_X5_image_1a L xs sio (d + 35) dt hI   ) ?_
    rintro _ _ ⟨dt560, rfl, hI561, hF562, h559⟩
    refine ⟨rfl, ?_⟩
    have hF563 : Fr [0, 1, 2, 3, 4, 5, 6, 7, 8, 9, 10, 11, 12, 13, 14, 15, 16, 17, 18, 19, 20, 21, 22, 23, 24, 25, 26, 27, 28, 29, 30, 31, 32, 33, 34, 35, 36, 37, 38, 39, 40, 41, 42, 43, 44, 45, 46, 47, 48, 49, 50, 51, 52, 53, 54, 55, 56, 57, 58, 59, 60, 61, 62, 63, 64, 65, 66, 67, 68, 69, 70, 71, 72, 73, 74, 75, 76, 77, 78, 79, 80, 81, 82, 83, 84, 85, 86, 87, 88, 89, 90, 91, 92, 93, 94, 95, 96, 97, 98, 99, 100, 101, 102, 103, 104] dt dt560 := Fr_tr hF hF562 (by decide)
    have hM564 : MW (dt560 80) := MW_fr hM hF562 (by decide)
    have w565 : dt560 1 0 = dt 1 0 := hF562 1 (by decide) 0
    have w566 : dt560 7 3 = dt 7 3 := hF562 7 (by decide) 3
    have w567 : dt560 10 3 = dt 10 3 := hF562 10 (by decide) 3
    have w568 : dt560 12 3 = dt 12 3 := hF562 12 (by decide) 3
    have w569 : dt560 14 3 = dt 14 3 := hF562 14 (by decide) 3
    have w570 : dt560 16 3 = dt 16 3 := hF562 16 (by decide) 3
    have w571 : dt560 35 1 = dt 35 1 := hF562 35 (by decide) 1
    have w572 : dt560 35 2 = dt 35 2 := hF562 35 (by decide) 2
    have w573 : dt560 35 3 = dt 35 3 := hF562 35 (by decide) 3
    have w574 : dt560 80 0 = dt 80 0 := hF562 80 (by decide) 0
    have w575 : dt560 80 1 = dt 80 1 := hF562 80 (by decide) 1
    have w576 : dt560 80 2 = dt 80 2 := hF562 80 (by decide) 2
    have w577 : dt560 80 3 = dt 80 3 := hF562 80 (by decide) 3
    have w578 : dt560 80 4 = dt 80 4 := hF562 80 (by decide) 4
    have w579 : dt560 80 5 = dt 80 5 := hF562 80 (by decide) 5
    have w580 : dt560 81 0 = dt 81 0 := hF562 81 (by decide) 0
    have w581 : dt560 81 1 = dt 81 1 := hF562 81 (by decide) 1
    have w582 : dt560 81 2 = dt 81 2 := hF562 81 (by decide) 2
    have w583 : dt560 81 3 = dt 81 3 := hF562 81 (by decide) 3
    have w584 : dt560 81 4 = dt 81 4 := hF562 81 (by decide) 4
    have w585 : dt560 81 5 = dt 81 5 := hF562 81 (by decide) 5
    have w586 : dt560 79 2 = dt 79 2 := hF562 79 (by decide) 2
    have w587 : dt560 79 12 = dt 79 12 := hF562 79 (by decide) 12
    have w588 : dt560 79 19 = dt 79 19 := hF562 79 (by decide) 19
    have w589 : dt560 79 21 = dt 79 21 := hF562 79 (by decide) 21
    rcases h559 with ⟨v_h559, rfl, h559r, h559⟩
    obtain ⟨h559_0, h559_1, h559_2, h559_3, h559_4, h559_5, h559_6, h559_7, h559_8, h559_9, h559_10, h559_11, h559_12, h559_13, h559_14, h559_15, h559_16, h559_17, h559_18, h559_19, h559_20, h559_21, h559_22, h559_23, h559_24, h559_25, h559_26, h559_27, h559_28, h559_29, h559_30, h559_31⟩ := h559
    have w590 : dt560 1 0 = dt 1 0 := h559_2
    have w591 : dt560 7 3 = dt 7 3 := h559_3
    have w592 : dt560 10 3 = dt 10 3 := h559_4
    have w593 : dt560 12 3 = dt 12 3 := h559_5
    have w594 : dt560 14 3 = dt 14 3 := h559_6
    have w595 : dt560 16 3 = dt 16 3 := h559_7
    have M2596 : MW (dt560 81) := MW_frk hM2 hF562 (by decide)
    have C597 : ∀ j : Nat, dt560 2 j = dt 2 j := fun j => (hF562 2 (by decide) j).trans ((fun _ => rfl) j)
    have C598 : ∀ j : Nat, dt560 3 j = dt 3 j := fun j => (hF562 3 (by decide) j).trans ((fun _ => rfl) j)
    have C599 : ∀ j : Nat, dt560 4 j = dt 4 j := fun j => (hF562 4 (by decide) j).trans ((fun _ => rfl) j)
    have C600 : ∀ j : Nat, dt560 5 j = dt 5 j := fun j => (hF562 5 (by decide) j).trans ((fun _ => rfl) j)
    have C601 : ∀ j : Nat, dt560 6 j = dt 6 j := fun j => (hF562 6 (by decide) j).trans ((fun _ => rfl) j)
    have C602 : ∀ j : Nat, dt560 8 j = dt 8 j := fun j => (hF562 8 (by decide) j).trans ((fun _ => rfl) j)
    have C603 : ∀ j : Nat, dt560 9 j = dt 9 j := fun j => (hF562 9 (by decide) j).trans ((fun _ => rfl) j)
    have C604 : ∀ j : Nat, dt560 11 j = dt 11 j := fun j => (hF562 11 (by decide) j).trans ((fun _ => rfl) j)
    have C605 : ∀ j : Nat, dt560 13 j = dt 13 j := fun j => (hF562 13 (by decide) j).trans ((fun _ => rfl) j)
    have C606 : ∀ j : Nat, dt560 36 j = dt 36 j := fun j => (hF562 36 (by decide) j).trans ((fun _ => rfl) j)
    have C607 : ∀ j : Nat, dt560 80 j = dt 80 j := fun j => (hF562 80 (by decide) j).trans ((fun _ => rfl) j)
    have C608 : ∀ j : Nat, dt560 81 j = dt 81 j := fun j => (hF562 81 (by decide) j).trans ((fun _ => rfl) j)
    have C609 : ∀ j : Nat, dt560 85 j = dt 85 j := fun j => (hF562 85 (by decide) j).trans ((fun _ => rfl) j)
    refine go_toq PM267 (k := 6) (pc' := 1396) (L' := [some (.inr (.inr (some 3000))), some (.inr (.inr (some 0))), some (.inr (.inr (some 79))), some (.inl i)]) (st' := [.inl (i + 1), .inr (.inr (some 3000)), .inr (.inr (some 79))]) (w' := (SH, dt560)) rfl ?_
    have r610 := i32_R (xs ((i + 1).toNat))
    refine go_smpq PM267 (L' := [some (.inr (.inr (some 3000))), some (.inr (.inr (some 0))), some (.inr (.inr (some 79))), some (.inl i)]) (st' := [.inl ((xs ((i + 1).toNat)).toInt), .inr (.inr (some 79))]) (w' := (SH, dt560)) rfl rfl (s_iald (n := L) (f := fun j => (xs j).toInt) (am_scr hLL) ⟨by (first | omega | (have z0_ := unhid c2; omega)), by (first | omega | (have z0_ := unhid c2; omega))⟩) ?_
    refine go_ifq PM267 (k := 0) (p1 := 1404) (p2 := 1400) (L' := [some (.inr (.inr (some 3000))), some (.inr (.inr (some 0))), some (.inr (.inr (some 79))), some (.inl i)]) (st' := [.inr (.inr (some 79))]) (w' := (SH, dt560)) rfl (z_eq (a := (xs ((i + 1).toNat)).toInt) ⟨by (first | omega | (have z0_ := unhid c2; omega)), by (first | omega | (have z0_ := unhid c2; omega))⟩) (fun c611 => ?_) (fun c611 => ?_)
    · skip
      refine go_toq PM267 (k := 1) (pc' := 1405) (L' := [some (.inr (.inr (some 3000))), some (.inr (.inr (some 0))), some (.inr (.inr (some 79))), some (.inl i)]) (st' := [.inl 0, .inr (.inr (some 79))]) (w' := (SH, dt560)) rfl ?_
      refine go_callq PM267 PM247 (Q' := _) rfl rfl rfl rfl (sp_X6_image_0v L xs sio (d + 38) dt560 hI561 hM564   (by first | exact True.intro | with_reducible assumption | exact unhid (by with_reducible assumption) | rfl | (first | omega | (have z0_ := unhid c2; omega)) | trivial | exact M2596 | exact hd1 | exact hqo | exact halk | exact hav_)) ?_
      rintro _ _ ⟨dt613, rfl, hI614, hF615, h612⟩
      refine ⟨rfl, ?_⟩
      have hF616 : Fr [0, 1, 2, 3, 4, 5, 6, 7, 8, 9, 10, 11, 12, 13, 14, 15, 16, 17, 18, 19, 20, 21, 22, 23, 24, 25, 26, 27, 28, 29, 30, 31, 32, 33, 34, 35, 36, 37, 38, 39, 40, 41, 42, 43, 44, 45, 46, 47, 48, 49, 50, 51, 52, 53, 54, 55, 56, 57, 58, 59, 60, 61, 62, 63, 64, 65, 66, 67, 68, 69, 70, 71, 72, 73, 74, 75, 76, 77, 78, 79, 80, 81, 82, 83, 84, 85, 86, 87, 88, 89, 90, 91, 92, 93, 94, 95, 96, 97, 98, 99, 100, 101, 102, 103, 104] dt dt613 := Fr_tr hF563 hF615 (by decide)
      have w617 : dt613 1 0 = dt 1 0 := (hF615 1 (by decide) 0).trans w590
      have w618 : dt613 7 3 = dt 7 3 := (hF615 7 (by decide) 3).trans w591
      have w619 : dt613 10 3 = dt 10 3 := (hF615 10 (by decide) 3).trans w592
      have w620 : dt613 12 3 = dt 12 3 := (hF615 12 (by decide) 3).trans w593
      have w621 : dt613 14 3 = dt 14 3 := (hF615 14 (by decide) 3).trans w594
      have w622 : dt613 16 3 = dt 16 3 := (hF615 16 (by decide) 3).trans w595
      have w623 : dt613 18 0 = dt560 18 0 := hF615 18 (by decide) 0
      have w624 : dt613 24 3 = dt560 24 3 := hF615 24 (by decide) 3
      have w625 : dt613 27 3 = dt560 27 3 := hF615 27 (by decide) 3
      have w626 : dt613 29 3 = dt560 29 3 := hF615 29 (by decide) 3
      have w627 : dt613 31 3 = dt560 31 3 := hF615 31 (by decide) 3
      have w628 : dt613 33 3 = dt560 33 3 := hF615 33 (by decide) 3
      have w629 : dt613 0 2 = dt560 0 2 := hF615 0 (by decide) 2
      have w630 : dt613 35 1 = dt 35 1 := (hF615 35 (by decide) 1).trans w571
      have w631 : dt613 35 2 = dt 35 2 := (hF615 35 (by decide) 2).trans w572
      have w632 : dt613 35 3 = dt 35 3 := (hF615 35 (by decide) 3).trans w573
      have w633 : dt613 81 0 = dt 81 0 := (hF615 81 (by decide) 0).trans w580
      have w634 : dt613 81 1 = dt 81 1 := (hF615 81 (by decide) 1).trans w581
      have w635 : dt613 81 2 = dt 81 2 := (hF615 81 (by decide) 2).trans w582
      have w636 : dt613 81 3 = dt 81 3 := (hF615 81 (by decide) 3).trans w583
      have w637 : dt613 81 4 = dt 81 4 := (hF615 81 (by decide) 4).trans w584
      have w638 : dt613 81 5 = dt 81 5 := (hF615 81 (by decide) 5).trans w585
      rcases h612 with ⟨rfl, h612⟩ | ⟨rfl, h612⟩
      · skip
        have hM639 : MW (dt613 80) := h612.2.2.1
        obtain ⟨h612_0, h612_1, h612_2, h612_3, h612_4, h612_5, h612_6, h612_7, h612_8, h612_9, h612_10⟩ := h612
        have w640 : dt613 79 12 = dt 79 12 := h612_8.trans w587
        have w641 : dt613 79 19 = dt 79 19 := h612_9.trans w588
        have w642 : dt613 79 21 = dt 79 21 := h612_10.trans w589
        have M2643 : MW (dt613 81) := MW_frk M2596 hF615 (by decide)
        have y644 := h612_4 0 (by decide)
        have y645 := h612_4 1 (by decide)
        have y646 := h612_4 2 (by decide)
        have y647 := h612_4 3 (by decide)
        have y648 := h612_4 4 (by decide)
        have y649 := h612_4 5 (by decide)
        have y650 := h612_5 0 (by decide)
        have y651 := h612_5 1 (by decide)
        have y652 := h612_5 2 (by decide)
        have y653 := h612_5 3 (by decide)
        have y654 := h612_5 4 (by decide)
        have y655 := h612_5 5 (by decide)
        have C656 : ∀ j : Nat, dt613 2 j = dt 2 j := fun j => (hF615 2 (by decide) j).trans (C597 j)
        have C657 : ∀ j : Nat, dt613 3 j = dt 3 j := fun j => (hF615 3 (by decide) j).trans (C598 j)
        have C658 : ∀ j : Nat, dt613 4 j = dt 4 j := fun j => (hF615 4 (by decide) j).trans (C599 j)
        have C659 : ∀ j : Nat, dt613 5 j = dt 5 j := fun j => (hF615 5 (by decide) j).trans (C600 j)
        have C660 : ∀ j : Nat, dt613 6 j = dt 6 j := fun j => (hF615 6 (by decide) j).trans (C601 j)
        have C661 : ∀ j : Nat, dt613 8 j = dt 8 j := fun j => (hF615 8 (by decide) j).trans (C602 j)
        have C662 : ∀ j : Nat, dt613 9 j = dt 9 j := fun j => (hF615 9 (by decide) j).trans (C603 j)
        have C663 : ∀ j : Nat, dt613 11 j = dt 11 j := fun j => (hF615 11 (by decide) j).trans (C604 j)
        have C664 : ∀ j : Nat, dt613 13 j = dt 13 j := fun j => (hF615 13 (by decide) j).trans (C605 j)
        have C665 : ∀ j : Nat, dt613 36 j = dt 36 j := fun j => (hF615 36 (by decide) j).trans (C606 j)
        have C666 : ∀ j : Nat, dt613 81 j = dt 81 j := fun j => (hF615 81 (by decide) j).trans (C608 j)
        have C667 : ∀ j : Nat, dt613 85 j = dt 85 j := fun j => (hF615 85 (by decide) j).trans (C609 j)
        have C668 : ∀ j : Nat, j < 192 → dt613 2 j = dt 2 j := fun j hj => (hF615 2 (by decide) j).trans (h559_14 j hj)
        have C669 : ∀ j : Nat, j < 8 → dt613 3 j = dt 3 j := fun j hj => (hF615 3 (by decide) j).trans (h559_15 j hj)
        have C670 : ∀ j : Nat, j < 256 → dt613 4 j = dt 4 j := fun j hj => (hF615 4 (by decide) j).trans (h559_16 j hj)
        have C671 : ∀ j : Nat, j < 4 → dt613 5 j = dt 5 j := fun j hj => (hF615 5 (by decide) j).trans (h559_17 j hj)
        have C672 : ∀ j : Nat, j < 2000 → dt613 6 j = dt 6 j := fun j hj => (hF615 6 (by decide) j).trans (h559_18 j hj)
        have C673 : ∀ j : Nat, j < 60 → dt613 8 j = dt 8 j := fun j hj => (hF615 8 (by decide) j).trans (h559_19 j hj)
        have C674 : ∀ j : Nat, j < 132 → dt613 9 j = dt 9 j := fun j hj => (hF615 9 (by decide) j).trans (h559_20 j hj)
        have C675 : ∀ j : Nat, j < 160 → dt613 11 j = dt 11 j := fun j hj => (hF615 11 (by decide) j).trans (h559_21 j hj)
        have C676 : ∀ j : Nat, j < 192 → dt613 19 j = dt 2 j := fun j hj => (hF615 19 (by decide) j).trans (h559_23 j hj)
        have C677 : ∀ j : Nat, j < 8 → dt613 20 j = dt 3 j := fun j hj => (hF615 20 (by decide) j).trans (h559_24 j hj)
        have C678 : ∀ j : Nat, j < 256 → dt613 21 j = dt 4 j := fun j hj => (hF615 21 (by decide) j).trans (h559_25 j hj)
        have C679 : ∀ j : Nat, j < 4 → dt613 22 j = dt 5 j := fun j hj => (hF615 22 (by decide) j).trans (h559_26 j hj)
        have C680 : ∀ j : Nat, j < 2000 → dt613 23 j = dt 6 j := fun j hj => (hF615 23 (by decide) j).trans (h559_27 j hj)
        have C681 : ∀ j : Nat, j < 60 → dt613 25 j = dt 8 j := fun j hj => (hF615 25 (by decide) j).trans (h559_28 j hj)
        have C682 : ∀ j : Nat, j < 132 → dt613 26 j = dt 9 j := fun j hj => (hF615 26 (by decide) j).trans (h559_29 j hj)
        have C683 : ∀ j : Nat, j < 160 → dt613 28 j = dt 11 j := fun j hj => (hF615 28 (by decide) j).trans (h559_30 j hj)
        have C684 : ∀ j : Nat, j < 1800 → dt613 13 j = dt 13 j := fun j hj => (hF615 13 (by decide) j).trans (h559_22 j hj)
        have C685 : ∀ j : Nat, j < 1800 → dt613 30 j = dt 13 j := fun j hj => (hF615 30 (by decide) j).trans (h559_31 j hj)
        have F686 : ∀ j : Nat, j < 7460 → dt613 80 j = dt 80 j := fun j hj => (h612_6 j hj).trans (C607 j)
        have S687 : SCL (dt613 2) (dt613 3) (dt613 80) := by first | exact SCL_k hd1 hM C668 C669 (fun j _ h2_ => F686 j (by (first | omega | (have z0_ := unhid c2; omega)))) | (exfalso; (first | omega | (have z0_ := unhid c2; omega)))
        have S688 : QRL (dt613 8) (dt613 80) := by first | exact QRL_k hd3 hM C673 (F686 1 (by decide)) (fun j _ h2_ => F686 j (by (first | omega | (have z0_ := unhid c2; omega)))) | (exfalso; (first | omega | (have z0_ := unhid c2; omega)))
        have S689 : SDL (dt613 9) (dt613 80) := by first | exact SDL_k hd5 hM C674 (F686 1 (by decide)) (fun j _ h2_ => F686 j (by (first | omega | (have z0_ := unhid c2; omega)))) (fun j _ h2_ => F686 j (by (first | omega | (have z0_ := unhid c2; omega)))) | (exfalso; (first | omega | (have z0_ := unhid c2; omega)))
        have S690 : LWL (dt613 4) (dt613 5) (dt613 6) (dt613 80) := by first | exact LWL_k hd7 hM C670 C671 C672 (fun j _ h2_ => F686 j (by (first | omega | (have z0_ := unhid c2; omega)))) | (exfalso; (first | omega | (have z0_ := unhid c2; omega)))
        have S691 : CHL (dt613 11) (dt613 80) := by first | exact CHL_k hd9 hM C675 (F686 2 (by decide)) (fun j _ h2_ => F686 j (by (first | omega | (have z0_ := unhid c2; omega)))) | (exfalso; (first | omega | (have z0_ := unhid c2; omega)))
        have F692 : ∀ j : Nat, j < 7460 → dt613 81 j = dt 81 j := fun j hj => (h612_7 j hj).trans (C608 j)
        have S693 : SCL (dt613 19) (dt613 20) (dt613 81) := by first | exact SCL_k hd1 hM C676 C677 (fun j _ h2_ => F692 j (by (first | omega | (have z0_ := unhid c2; omega)))) | (exfalso; (first | omega | (have z0_ := unhid c2; omega)))
        have S694 : QRL (dt613 25) (dt613 81) := by first | exact QRL_k hd3 hM C681 (F692 1 (by decide)) (fun j _ h2_ => F692 j (by (first | omega | (have z0_ := unhid c2; omega)))) | (exfalso; (first | omega | (have z0_ := unhid c2; omega)))
        have S695 : SDL (dt613 26) (dt613 81) := by first | exact SDL_k hd5 hM C682 (F692 1 (by decide)) (fun j _ h2_ => F692 j (by (first | omega | (have z0_ := unhid c2; omega)))) (fun j _ h2_ => F692 j (by (first | omega | (have z0_ := unhid c2; omega)))) | (exfalso; (first | omega | (have z0_ := unhid c2; omega)))
        have S696 : LWL (dt613 21) (dt613 22) (dt613 23) (dt613 81) := by first | exact LWL_k hd7 hM C678 C679 C680 (fun j _ h2_ => F692 j (by (first | omega | (have z0_ := unhid c2; omega)))) | (exfalso; (first | omega | (have z0_ := unhid c2; omega)))
        have S697 : CHL (dt613 28) (dt613 81) := by first | exact CHL_k hd9 hM C683 (F692 2 (by decide)) (fun j _ h2_ => F692 j (by (first | omega | (have z0_ := unhid c2; omega)))) | (exfalso; (first | omega | (have z0_ := unhid c2; omega)))
        have S698 : ANL (dt613 13) (dt613 80) := by first | exact ANL_k hd11 hM C684 (by (first | omega | (have z0_ := unhid c2; omega))) (by (first | omega | (have z0_ := unhid c2; omega))) ((h612_6 3 (by decide)).trans (C607 3)) (fun j _ h2_ => (h612_6 j (by (first | omega | (have z0_ := unhid c2; omega)))).trans (C607 j)) | (exfalso; (first | omega | (have z0_ := unhid c2; omega)))
        have S699 : ANL (dt613 30) (dt613 81) := by first | exact ANL_k hd11 hM C685 (by (first | omega | (have z0_ := unhid c2; omega))) (by (first | omega | (have z0_ := unhid c2; omega))) ((h612_7 3 (by decide)).trans (C608 3)) (fun j _ h2_ => (h612_7 j (by (first | omega | (have z0_ := unhid c2; omega)))).trans (C608 j)) | (exfalso; (first | omega | (have z0_ := unhid c2; omega)))
        refine go_toq PM267 (k := 2) (pc' := 1435) (L' := [some (.inr (.inr (some 3000))), some (.inr (.inr (some 0))), some (.inr (.inr (some 79))), some (.inl i)]) (st' := []) (w' := (SH, dt613)) rfl ?_
        exact K dt613 hI614 hM639 M2643 (by first | (first | omega | (have z0_ := unhid c2; omega)) | (simp only [*]; done) | simp only [*]) (by (first | omega | (have z0_ := unhid c2; omega))) (by (first | omega | (have z0_ := unhid c2; omega))) (by (first | omega | (have z0_ := unhid c2; omega))) (by (first | omega | (have z0_ := unhid c2; omega))) (by (first | omega | (have z0_ := unhid c2; omega))) (by (first | omega | (have z0_ := unhid c2; omega))) (by (first | omega | (have z0_ := unhid c2; omega))) (by (first | omega | (have z0_ := unhid c2; omega))) (by (first | omega | (have z0_ := unhid c2; omega))) (by (first | omega | (have z0_ := unhid c2; omega))) (by (first | omega | (have z0_ := unhid c2; omega))) (by (first | omega | (have z0_ := unhid c2; omega))) (w630.trans (hk13.trans w640.symm)) (w631.trans (hk14.trans w641.symm)) (w632.trans (hk15.trans w642.symm)) (by first | exact hI | exact TPL_k hd0 C665 C667 (by (first | omega | (have z0_ := unhid c2; omega))) | (exfalso; (first | omega | (have z0_ := unhid c2; omega)))) (by first | exact S687 | exact SCL_k hd1 hM (fun j _ => C656 j) (fun j _ => C657 j) hI | (exfalso; (first | omega | (have z0_ := unhid c2; omega)))) (by first | exact S693 | exact SCL_k hd2 hM2 hI hI (fun j _ _ => C666 j) | (exfalso; (first | omega | (have z0_ := unhid c2; omega)))) (by first | exact S688 | exact QRL_k hd3 hM (fun j _ => C661 j) hI hI | (exfalso; (first | omega | (have z0_ := unhid c2; omega)))) (by first | exact S694 | exact QRL_k hd4 hM2 hI (C666 1) (fun j _ _ => C666 j) | (exfalso; (first | omega | (have z0_ := unhid c2; omega)))) (by first | exact S689 | exact SDL_k hd5 hM (fun j _ => C662 j) hI hI hI | (exfalso; (first | omega | (have z0_ := unhid c2; omega)))) (by first | exact S695 | exact SDL_k hd6 hM2 hI (C666 1) (fun j _ _ => C666 j) (fun j _ _ => C666 j) | (exfalso; (first | omega | (have z0_ := unhid c2; omega)))) (by first | exact S690 | exact LWL_k hd7 hM (fun j _ => C658 j) (fun j _ => C659 j) (fun j _ => C660 j) hI | (exfalso; (first | omega | (have z0_ := unhid c2; omega)))) (by first | exact S696 | exact LWL_k hd8 hM2 hI hI hI (fun j _ _ => C666 j) | (exfalso; (first | omega | (have z0_ := unhid c2; omega)))) (by first | exact S691 | exact CHL_k hd9 hM (fun j _ => C663 j) (by (first | omega | (have z0_ := unhid c2; omega))) hI | (exfalso; (first | omega | (have z0_ := unhid c2; omega)))) (by first | exact S697 | exact CHL_k hd10 hM2 hI (by (first | omega | (have z0_ := unhid c2; omega))) (fun j _ _ => C666 j) | (exfalso; (first | omega | (have z0_ := unhid c2; omega)))) (by first | exact S698 | exact ANL_k hd11 hM (fun j _ => C664 j) (by (first | omega | (have z0_ := unhid c2; omega))) (by (first | omega | (have z0_ := unhid c2; omega))) (by (first | omega | (have z0_ := unhid c2; omega))) hI | (exfalso; (first | omega | (have z0_ := unhid c2; omega)))) (by first | exact S699 | exact ANL_k hd12 hM2 hI (by (first | omega | (have z0_ := unhid c2; omega))) (by (first | omega | (have z0_ := unhid c2; omega))) (by (first | omega | (have z0_ := unhid c2; omega))) (fun j _ _ => C666 j) | (exfalso; (first | omega | (have z0_ := unhid c2; omega))))
      · skip
        have hM700 : MW (dt613 80) := h612.2.2.1
        obtain ⟨h612_0, h612_1, h612_2, h612_3, h612_4, h612_5, h612_6, h612_7, h612_8, h612_9, h612_10⟩ := h612
        replace h612_0 := hid h612_0
        have w701 : dt613 79 12 = dt 79 12 := h612_8.trans w587
        have w702 : dt613 79 19 = dt 79 19 := h612_9.trans w588
        have w703 : dt613 79 21 = dt 79 21 := h612_10.trans w589
        have M2704 : MW (dt613 81) := MW_frk M2596 hF615 (by decide)
        have y705 := h612_4 0 (by decide)
        have y706 := h612_4 1 (by decide)
        have y707 := h612_4 2 (by decide)
        have y708 := h612_4 3 (by decide)
        have y709 := h612_4 4 (by decide)
        have y710 := h612_4 5 (by decide)
        have y711 := h612_5 0 (by decide)
        have y712 := h612_5 1 (by decide)
        have y713 := h612_5 2 (by decide)
        have y714 := h612_5 3 (by decide)
        have y715 := h612_5 4 (by decide)
        have y716 := h612_5 5 (by decide)
        have C717 : ∀ j : Nat, dt613 2 j = dt 2 j := fun j => (hF615 2 (by decide) j).trans (C597 j)
        have C718 : ∀ j : Nat, dt613 3 j = dt 3 j := fun j => (hF615 3 (by decide) j).trans (C598 j)
        have C719 : ∀ j : Nat, dt613 4 j = dt 4 j := fun j => (hF615 4 (by decide) j).trans (C599 j)
        have C720 : ∀ j : Nat, dt613 5 j = dt 5 j := fun j => (hF615 5 (by decide) j).trans (C600 j)
        have C721 : ∀ j : Nat, dt613 6 j = dt 6 j := fun j => (hF615 6 (by decide) j).trans (C601 j)
        have C722 : ∀ j : Nat, dt613 8 j = dt 8 j := fun j => (hF615 8 (by decide) j).trans (C602 j)
        have C723 : ∀ j : Nat, dt613 9 j = dt 9 j := fun j => (hF615 9 (by decide) j).trans (C603 j)
        have C724 : ∀ j : Nat, dt613 11 j = dt 11 j := fun j => (hF615 11 (by decide) j).trans (C604 j)
        have C725 : ∀ j : Nat, dt613 13 j = dt 13 j := fun j => (hF615 13 (by decide) j).trans (C605 j)
        have C726 : ∀ j : Nat, dt613 36 j = dt 36 j := fun j => (hF615 36 (by decide) j).trans (C606 j)
        have C727 : ∀ j : Nat, dt613 81 j = dt 81 j := fun j => (hF615 81 (by decide) j).trans (C608 j)
        have C728 : ∀ j : Nat, dt613 85 j = dt 85 j := fun j => (hF615 85 (by decide) j).trans (C609 j)
        have C729 : ∀ j : Nat, j < 192 → dt613 2 j = dt 2 j := fun j hj => (hF615 2 (by decide) j).trans (h559_14 j hj)
        have C730 : ∀ j : Nat, j < 8 → dt613 3 j = dt 3 j := fun j hj => (hF615 3 (by decide) j).trans (h559_15 j hj)
        have C731 : ∀ j : Nat, j < 256 → dt613 4 j = dt 4 j := fun j hj => (hF615 4 (by decide) j).trans (h559_16 j hj)
        have C732 : ∀ j : Nat, j < 4 → dt613 5 j = dt 5 j := fun j hj => (hF615 5 (by decide) j).trans (h559_17 j hj)
        have C733 : ∀ j : Nat, j < 2000 → dt613 6 j = dt 6 j := fun j hj => (hF615 6 (by decide) j).trans (h559_18 j hj)
        have C734 : ∀ j : Nat, j < 60 → dt613 8 j = dt 8 j := fun j hj => (hF615 8 (by decide) j).trans (h559_19 j hj)
        have C735 : ∀ j : Nat, j < 132 → dt613 9 j = dt 9 j := fun j hj => (hF615 9 (by decide) j).trans (h559_20 j hj)
        have C736 : ∀ j : Nat, j < 160 → dt613 11 j = dt 11 j := fun j hj => (hF615 11 (by decide) j).trans (h559_21 j hj)
        have C737 : ∀ j : Nat, j < 192 → dt613 19 j = dt 2 j := fun j hj => (hF615 19 (by decide) j).trans (h559_23 j hj)
        have C738 : ∀ j : Nat, j < 8 → dt613 20 j = dt 3 j := fun j hj => (hF615 20 (by decide) j).trans (h559_24 j hj)
        have C739 : ∀ j : Nat, j < 256 → dt613 21 j = dt 4 j := fun j hj => (hF615 21 (by decide) j).trans (h559_25 j hj)
        have C740 : ∀ j : Nat, j < 4 → dt613 22 j = dt 5 j := fun j hj => (hF615 22 (by decide) j).trans (h559_26 j hj)
        have C741 : ∀ j : Nat, j < 2000 → dt613 23 j = dt 6 j := fun j hj => (hF615 23 (by decide) j).trans (h559_27 j hj)
        have C742 : ∀ j : Nat, j < 60 → dt613 25 j = dt 8 j := fun j hj => (hF615 25 (by decide) j).trans (h559_28 j hj)
        have C743 : ∀ j : Nat, j < 132 → dt613 26 j = dt 9 j := fun j hj => (hF615 26 (by decide) j).trans (h559_29 j hj)
        have C744 : ∀ j : Nat, j < 160 → dt613 28 j = dt 11 j := fun j hj => (hF615 28 (by decide) j).trans (h559_30 j hj)
        have C745 : ∀ j : Nat, j < 1800 → dt613 13 j = dt 13 j := fun j hj => (hF615 13 (by decide) j).trans (h559_22 j hj)
        have C746 : ∀ j : Nat, j < 1800 → dt613 30 j = dt 13 j := fun j hj => (hF615 30 (by decide) j).trans (h559_31 j hj)
        have F747 : ∀ j : Nat, j < 7460 → dt613 80 j = dt 81 j := fun j hj => (h612_6 j hj).trans (C608 j)
        have S748 : SCL (dt613 2) (dt613 3) (dt613 80) := by first | exact SCL_k hd1 hM C729 C730 (fun j _ h2_ => F747 j (by (first | omega | (have z0_ := unhid c2; have z1_ := unhid h612_0; omega)))) | (exfalso; (first | omega | (have z0_ := unhid c2; have z1_ := unhid h612_0; omega)))
        have S749 : QRL (dt613 8) (dt613 80) := by first | exact QRL_k hd3 hM C734 (F747 1 (by decide)) (fun j _ h2_ => F747 j (by (first | omega | (have z0_ := unhid c2; have z1_ := unhid h612_0; omega)))) | (exfalso; (first | omega | (have z0_ := unhid c2; have z1_ := unhid h612_0; omega)))
        have S750 : SDL (dt613 9) (dt613 80) := by first | exact SDL_k hd5 hM C735 (F747 1 (by decide)) (fun j _ h2_ => F747 j (by (first | omega | (have z0_ := unhid c2; have z1_ := unhid h612_0; omega)))) (fun j _ h2_ => F747 j (by (first | omega | (have z0_ := unhid c2; have z1_ := unhid h612_0; omega)))) | (exfalso; (first | omega | (have z0_ := unhid c2; have z1_ := unhid h612_0; omega)))
        have S751 : LWL (dt613 4) (dt613 5) (dt613 6) (dt613 80) := by first | exact LWL_k hd7 hM C731 C732 C733 (fun j _ h2_ => F747 j (by (first | omega | (have z0_ := unhid c2; have z1_ := unhid h612_0; omega)))) | (exfalso; (first | omega | (have z0_ := unhid c2; have z1_ := unhid h612_0; omega)))
        have S752 : CHL (dt613 11) (dt613 80) := by first | exact CHL_k hd9 hM C736 (F747 2 (by decide)) (fun j _ h2_ => F747 j (by (first | omega | (have z0_ := unhid c2; have z1_ := unhid h612_0; omega)))) | (exfalso; (first | omega | (have z0_ := unhid c2; have z1_ := unhid h612_0; omega)))
        have F753 : ∀ j : Nat, j < 7460 → dt613 81 j = dt 81 j := fun j hj => (h612_7 j hj).trans (C608 j)
        have S754 : SCL (dt613 19) (dt613 20) (dt613 81) := by first | exact SCL_k hd1 hM C737 C738 (fun j _ h2_ => F753 j (by (first | omega | (have z0_ := unhid c2; have z1_ := unhid h612_0; omega)))) | (exfalso; (first | omega | (have z0_ := unhid c2; have z1_ := unhid h612_0; omega)))
        have S755 : QRL (dt613 25) (dt613 81) := by first | exact QRL_k hd3 hM C742 (F753 1 (by decide)) (fun j _ h2_ => F753 j (by (first | omega | (have z0_ := unhid c2; have z1_ := unhid h612_0; omega)))) | (exfalso; (first | omega | (have z0_ := unhid c2; have z1_ := unhid h612_0; omega)))
        have S756 : SDL (dt613 26) (dt613 81) := by first | exact SDL_k hd5 hM C743 (F753 1 (by decide)) (fun j _ h2_ => F753 j (by (first | omega | (have z0_ := unhid c2; have z1_ := unhid h612_0; omega)))) (fun j _ h2_ => F753 j (by (first | omega | (have z0_ := unhid c2; have z1_ := unhid h612_0; omega)))) | (exfalso; (first | omega | (have z0_ := unhid c2; have z1_ := unhid h612_0; omega)))
        have S757 : LWL (dt613 21) (dt613 22) (dt613 23) (dt613 81) := by first | exact LWL_k hd7 hM C739 C740 C741 (fun j _ h2_ => F753 j (by (first | omega | (have z0_ := unhid c2; have z1_ := unhid h612_0; omega)))) | (exfalso; (first | omega | (have z0_ := unhid c2; have z1_ := unhid h612_0; omega)))
        have S758 : CHL (dt613 28) (dt613 81) := by first | exact CHL_k hd9 hM C744 (F753 2 (by decide)) (fun j _ h2_ => F753 j (by (first | omega | (have z0_ := unhid c2; have z1_ := unhid h612_0; omega)))) | (exfalso; (first | omega | (have z0_ := unhid c2; have z1_ := unhid h612_0; omega)))
        have S759 : ANL (dt613 13) (dt613 80) := by first | exact ANL_k hd11 hM C745 (by (first | omega | (have z0_ := unhid c2; have z1_ := unhid h612_0; omega))) (by (first | omega | (have z0_ := unhid c2; have z1_ := unhid h612_0; omega))) ((h612_6 3 (by decide)).trans (C608 3)) (fun j _ h2_ => (h612_6 j (by (first | omega | (have z0_ := unhid c2; have z1_ := unhid h612_0; omega)))).trans (C608 j)) | (exfalso; (first | omega | (have z0_ := unhid c2; have z1_ := unhid h612_0; omega)))
        have S760 : ANL (dt613 30) (dt613 81) := by first | exact ANL_k hd11 hM C746 (by (first | omega | (have z0_ := unhid c2; have z1_ := unhid h612_0; omega))) (by (first | omega | (have z0_ := unhid c2; have z1_ := unhid h612_0; omega))) ((h612_7 3 (by decide)).trans (C608 3)) (fun j _ h2_ => (h612_7 j (by (first | omega | (have z0_ := unhid c2; have z1_ := unhid h612_0; omega)))).trans (C608 j)) | (exfalso; (first | omega | (have z0_ := unhid c2; have z1_ := unhid h612_0; omega)))
        refine go_toq PM267 (k := 2) (pc' := 1435) (L' := [some (.inr (.inr (some 3000))), some (.inr (.inr (some 0))), some (.inr (.inr (some 79))), some (.inl i)]) (st' := []) (w' := (SH, dt613)) rfl ?_
        exact K dt613 hI614 hM700 M2704 (by first | (first | omega | (have z0_ := unhid c2; have z1_ := unhid h612_0; omega)) | (simp only [*]; done) | simp only [*]) (by (first | omega | (have z0_ := unhid c2; have z1_ := unhid h612_0; omega))) (by (first | omega | (have z0_ := unhid c2; have z1_ := unhid h612_0; omega))) (by (first | omega | (have z0_ := unhid c2; have z1_ := unhid h612_0; omega))) (by (first | omega | (have z0_ := unhid c2; have z1_ := unhid h612_0; omega))) (by (first | omega | (have z0_ := unhid c2; have z1_ := unhid h612_0; omega))) (by (first | omega | (have z0_ := unhid c2; have z1_ := unhid h612_0; omega))) (by (first | omega | (have z0_ := unhid c2; have z1_ := unhid h612_0; omega))) (by (first | omega | (have z0_ := unhid c2; have z1_ := unhid h612_0; omega))) (by (first | omega | (have z0_ := unhid c2; have z1_ := unhid h612_0; omega))) (by (first | omega | (have z0_ := unhid c2; have z1_ := unhid h612_0; omega))) (by (first | omega | (have z0_ := unhid c2; have z1_ := unhid h612_0; omega))) (by (first | omega | (have z0_ := unhid c2; have z1_ := unhid h612_0; omega))) (w630.trans (hk13.trans w701.symm)) (w631.trans (hk14.trans w702.symm)) (w632.trans (hk15.trans w703.symm)) (by first | exact hI | exact TPL_k hd0 C726 C728 (by (first | omega | (have z0_ := unhid c2; have z1_ := unhid h612_0; omega))) | (exfalso; (first | omega | (have z0_ := unhid c2; have z1_ := unhid h612_0; omega)))) (by first | exact S748 | exact SCL_k hd1 hM (fun j _ => C717 j) (fun j _ => C718 j) hI | (exfalso; (first | omega | (have z0_ := unhid c2; have z1_ := unhid h612_0; omega)))) (by first | exact S754 | exact SCL_k hd2 hM2 hI hI (fun j _ _ => C727 j) | (exfalso; (first | omega | (have z0_ := unhid c2; have z1_ := unhid h612_0; omega)))) (by first | exact S749 | exact QRL_k hd3 hM (fun j _ => C722 j) hI hI | (exfalso; (first | omega | (have z0_ := unhid c2; have z1_ := unhid h612_0; omega)))) (by first | exact S755 | exact QRL_k hd4 hM2 hI (C727 1) (fun j _ _ => C727 j) | (exfalso; (first | omega | (have z0_ := unhid c2; have z1_ := unhid h612_0; omega)))) (by first | exact S750 | exact SDL_k hd5 hM (fun j _ => C723 j) hI hI hI | (exfalso; (first | omega | (have z0_ := unhid c2; have z1_ := unhid h612_0; omega)))) (by first | exact S756 | exact SDL_k hd6 hM2 hI (C727 1) (fun j _ _ => C727 j) (fun j _ _ => C727 j) | (exfalso; (first | omega | (have z0_ := unhid c2; have z1_ := unhid h612_0; omega)))) (by first | exact S751 | exact LWL_k hd7 hM (fun j _ => C719 j) (fun j _ => C720 j) (fun j _ => C721 j) hI | (exfalso; (first | omega | (have z0_ := unhid c2; have z1_ := unhid h612_0; omega)))) (by first | exact S757 | exact LWL_k hd8 hM2 hI hI hI (fun j _ _ => C727 j) | (exfalso; (first | omega | (have z0_ := unhid c2; have z1_ := unhid h612_0; omega)))) (by first | exact S752 | exact CHL_k hd9 hM (fun j _ => C724 j) (by (first | omega | (have z0_ := unhid c2; have z1_ := unhid h612_0; omega))) hI | (exfalso; (first | omega | (have z0_ := unhid c2; have z1_ := unhid h612_0; omega)))) (by first | exact S758 | exact CHL_k hd10 hM2 hI (by (first | omega | (have z0_ := unhid c2; have z1_ := unhid h612_0; omega))) (fun j _ _ => C727 j) | (exfalso; (first | omega | (have z0_ := unhid c2; have z1_ := unhid h612_0; omega)))) (by first | exact S759 | exact ANL_k hd11 hM (fun j _ => C725 j) (by (first | omega | (have z0_ := unhid c2; have z1_ := unhid h612_0; omega))) (by (first | omega | (have z0_ := unhid c2; have z1_ := unhid h612_0; omega))) (by (first | omega | (have z0_ := unhid c2; have z1_ := unhid h612_0; omega))) hI | (exfalso; (first | omega | (have z0_ := unhid c2; have z1_ := unhid h612_0; omega)))) (by first | exact S760 | exact ANL_k hd12 hM2 hI (by (first | omega | (have z0_ := unhid c2; have z1_ := unhid h612_0; omega))) (by (first | omega | (have z0_ := unhid c2; have z1_ := unhid h612_0; omega))) (by (first | omega | (have z0_ := unhid c2; have z1_ := unhid h612_0; omega))) (fun j _ _ => C727 j) | (exfalso; (first | omega | (have z0_ := unhid c2; have z1_ := unhid h612_0; omega))))
    · skip
      replace c611 := hid c611
      refine go_toq PM267 (k := 2) (pc' := 1405) (L' := [some (.inr (.inr (some 3000))), some (.inr (.inr (some 0))), some (.inr (.inr (some 79))), some (.inl i)]) (st' := [.inl 1, .inr (.inr (some 79))]) (w' := (SH, dt560)) rfl ?_
      refine go_callq PM267 PM247 (Q' := _) rfl rfl rfl rfl (sp_X6_image_1v L xs sio (d + 38) dt560 hI561 hM564   ) ?_
      rintro _ _ ⟨dt762, rfl, hI763, hF764, h761⟩
      refine ⟨rfl, ?_⟩
      have hF765 : Fr [0, 1, 2, 3, 4, 5, 6, 7, 8, 9, 10, 11, 12, 13, 14, 15, 16, 17, 18, 19, 20, 21, 22, 23, 24, 25, 26, 27, 28, 29, 30, 31, 32, 33, 34, 35, 36, 37, 38, 39, 40, 41, 42, 43, 44, 45, 46, 47, 48, 49, 50, 51, 52, 53, 54, 55, 56, 57, 58, 59, 60, 61, 62, 63, 64, 65, 66, 67, 68, 69, 70, 71, 72, 73, 74, 75, 76, 77, 78, 79, 80, 81, 82, 83, 84, 85, 86, 87, 88, 89, 90, 91, 92, 93, 94, 95, 96, 97, 98, 99, 100, 101, 102, 103, 104] dt dt762 := Fr_tr hF563 hF764 (by decide)
      have hM766 : MW (dt762 80) := MW_fr hM564 hF764 (by decide)
      have w767 : dt762 1 0 = dt 1 0 := (hF764 1 (by decide) 0).trans w590
      have w768 : dt762 7 3 = dt 7 3 := (hF764 7 (by decide) 3).trans w591
      have w769 : dt762 10 3 = dt 10 3 := (hF764 10 (by decide) 3).trans w592
      have w770 : dt762 12 3 = dt 12 3 := (hF764 12 (by decide) 3).trans w593
      have w771 : dt762 14 3 = dt 14 3 := (hF764 14 (by decide) 3).trans w594
      have w772 : dt762 16 3 = dt 16 3 := (hF764 16 (by decide) 3).trans w595
      have w773 : dt762 18 0 = dt560 18 0 := hF764 18 (by decide) 0
      have w774 : dt762 24 3 = dt560 24 3 := hF764 24 (by decide) 3
      have w775 : dt762 27 3 = dt560 27 3 := hF764 27 (by decide) 3
      have w776 : dt762 29 3 = dt560 29 3 := hF764 29 (by decide) 3
      have w777 : dt762 31 3 = dt560 31 3 := hF764 31 (by decide) 3
      have w778 : dt762 33 3 = dt560 33 3 := hF764 33 (by decide) 3
      have w779 : dt762 0 2 = dt560 0 2 := hF764 0 (by decide) 2
      have w780 : dt762 35 1 = dt 35 1 := (hF764 35 (by decide) 1).trans w571
      have w781 : dt762 35 2 = dt 35 2 := (hF764 35 (by decide) 2).trans w572
      have w782 : dt762 35 3 = dt 35 3 := (hF764 35 (by decide) 3).trans w573
      have w783 : dt762 80 0 = dt 80 0 := (hF764 80 (by decide) 0).trans w574
      have w784 : dt762 80 1 = dt 80 1 := (hF764 80 (by decide) 1).trans w575
      have w785 : dt762 80 2 = dt 80 2 := (hF764 80 (by decide) 2).trans w576
      have w786 : dt762 80 3 = dt 80 3 := (hF764 80 (by decide) 3).trans w577
      have w787 : dt762 80 4 = dt 80 4 := (hF764 80 (by decide) 4).trans w578
      have w788 : dt762 80 5 = dt 80 5 := (hF764 80 (by decide) 5).trans w579
      rcases h761 with ⟨rfl, h761⟩
      have hM789 : MW (dt762 80) := h761.2.1
      obtain ⟨h761_0, h761_1, h761_2, h761_3, h761_4, h761_5, h761_6, h761_7, h761_8, h761_9⟩ := h761
      have w790 : dt762 79 12 = dt 79 12 := h761_7.trans w587
      have w791 : dt762 79 19 = dt 79 19 := h761_8.trans w588
      have w792 : dt762 79 21 = dt 79 21 := h761_9.trans w589
      have y793 := h761_3 0 (by decide)
      have y794 := h761_3 1 (by decide)
      have y795 := h761_3 2 (by decide)
      have y796 := h761_3 3 (by decide)
      have y797 := h761_3 4 (by decide)
      have y798 := h761_3 5 (by decide)
      have y799 := h761_4 0 (by decide)
      have y800 := h761_4 1 (by decide)
      have y801 := h761_4 2 (by decide)
      have y802 := h761_4 3 (by decide)
      have y803 := h761_4 4 (by decide)
      have y804 := h761_4 5 (by decide)
      have C805 : ∀ j : Nat, dt762 2 j = dt 2 j := fun j => (hF764 2 (by decide) j).trans (C597 j)
      have C806 : ∀ j : Nat, dt762 3 j = dt 3 j := fun j => (hF764 3 (by decide) j).trans (C598 j)
      have C807 : ∀ j : Nat, dt762 4 j = dt 4 j := fun j => (hF764 4 (by decide) j).trans (C599 j)
      have C808 : ∀ j : Nat, dt762 5 j = dt 5 j := fun j => (hF764 5 (by decide) j).trans (C600 j)
      have C809 : ∀ j : Nat, dt762 6 j = dt 6 j := fun j => (hF764 6 (by decide) j).trans (C601 j)
      have C810 : ∀ j : Nat, dt762 8 j = dt 8 j := fun j => (hF764 8 (by decide) j).trans (C602 j)
      have C811 : ∀ j : Nat, dt762 9 j = dt 9 j := fun j => (hF764 9 (by decide) j).trans (C603 j)
      have C812 : ∀ j : Nat, dt762 11 j = dt 11 j := fun j => (hF764 11 (by decide) j).trans (C604 j)
      have C813 : ∀ j : Nat, dt762 13 j = dt 13 j := fun j => (hF764 13 (by decide) j).trans (C605 j)
      have C814 : ∀ j : Nat, dt762 36 j = dt 36 j := fun j => (hF764 36 (by decide) j).trans (C606 j)
      have C815 : ∀ j : Nat, dt762 80 j = dt 80 j := fun j => (hF764 80 (by decide) j).trans (C607 j)
      have C816 : ∀ j : Nat, dt762 85 j = dt 85 j := fun j => (hF764 85 (by decide) j).trans (C609 j)
      have C817 : ∀ j : Nat, j < 192 → dt762 2 j = dt 2 j := fun j hj => (hF764 2 (by decide) j).trans (h559_14 j hj)
      have C818 : ∀ j : Nat, j < 8 → dt762 3 j = dt 3 j := fun j hj => (hF764 3 (by decide) j).trans (h559_15 j hj)
      have C819 : ∀ j : Nat, j < 256 → dt762 4 j = dt 4 j := fun j hj => (hF764 4 (by decide) j).trans (h559_16 j hj)
      have C820 : ∀ j : Nat, j < 4 → dt762 5 j = dt 5 j := fun j hj => (hF764 5 (by decide) j).trans (h559_17 j hj)
      have C821 : ∀ j : Nat, j < 2000 → dt762 6 j = dt 6 j := fun j hj => (hF764 6 (by decide) j).trans (h559_18 j hj)
      have C822 : ∀ j : Nat, j < 60 → dt762 8 j = dt 8 j := fun j hj => (hF764 8 (by decide) j).trans (h559_19 j hj)
      have C823 : ∀ j : Nat, j < 132 → dt762 9 j = dt 9 j := fun j hj => (hF764 9 (by decide) j).trans (h559_20 j hj)
      have C824 : ∀ j : Nat, j < 160 → dt762 11 j = dt 11 j := fun j hj => (hF764 11 (by decide) j).trans (h559_21 j hj)
      have C825 : ∀ j : Nat, j < 192 → dt762 19 j = dt 2 j := fun j hj => (hF764 19 (by decide) j).trans (h559_23 j hj)
      have C826 : ∀ j : Nat, j < 8 → dt762 20 j = dt 3 j := fun j hj => (hF764 20 (by decide) j).trans (h559_24 j hj)
      have C827 : ∀ j : Nat, j < 256 → dt762 21 j = dt 4 j := fun j hj => (hF764 21 (by decide) j).trans (h559_25 j hj)
      have C828 : ∀ j : Nat, j < 4 → dt762 22 j = dt 5 j := fun j hj => (hF764 22 (by decide) j).trans (h559_26 j hj)
      have C829 : ∀ j : Nat, j < 2000 → dt762 23 j = dt 6 j := fun j hj => (hF764 23 (by decide) j).trans (h559_27 j hj)
      have C830 : ∀ j : Nat, j < 60 → dt762 25 j = dt 8 j := fun j hj => (hF764 25 (by decide) j).trans (h559_28 j hj)
      have C831 : ∀ j : Nat, j < 132 → dt762 26 j = dt 9 j := fun j hj => (hF764 26 (by decide) j).trans (h559_29 j hj)
      have C832 : ∀ j : Nat, j < 160 → dt762 28 j = dt 11 j := fun j hj => (hF764 28 (by decide) j).trans (h559_30 j hj)
      have C833 : ∀ j : Nat, j < 1800 → dt762 13 j = dt 13 j := fun j hj => (hF764 13 (by decide) j).trans (h559_22 j hj)
      have C834 : ∀ j : Nat, j < 1800 → dt762 30 j = dt 13 j := fun j hj => (hF764 30 (by decide) j).trans (h559_31 j hj)
      have F835 : ∀ j : Nat, j < 7460 → dt762 80 j = dt 80 j := fun j hj => (h761_5 j hj).trans (C607 j)
      have S836 : SCL (dt762 2) (dt762 3) (dt762 80) := by first | exact SCL_k hd1 hM C817 C818 (fun j _ h2_ => F835 j (by (first | omega | (have z0_ := unhid c2; have z1_ := unhid c611; omega)))) | (exfalso; (first | omega | (have z0_ := unhid c2; have z1_ := unhid c611; omega)))
      have S837 : QRL (dt762 8) (dt762 80) := by first | exact QRL_k hd3 hM C822 (F835 1 (by decide)) (fun j _ h2_ => F835 j (by (first | omega | (have z0_ := unhid c2; have z1_ := unhid c611; omega)))) | (exfalso; (first | omega | (have z0_ := unhid c2; have z1_ := unhid c611; omega)))
      have S838 : SDL (dt762 9) (dt762 80) := by first | exact SDL_k hd5 hM C823 (F835 1 (by decide)) (fun j _ h2_ => F835 j (by (first | omega | (have z0_ := unhid c2; have z1_ := unhid c611; omega)))) (fun j _ h2_ => F835 j (by (first | omega | (have z0_ := unhid c2; have z1_ := unhid c611; omega)))) | (exfalso; (first | omega | (have z0_ := unhid c2; have z1_ := unhid c611; omega)))
      have S839 : LWL (dt762 4) (dt762 5) (dt762 6) (dt762 80) := by first | exact LWL_k hd7 hM C819 C820 C821 (fun j _ h2_ => F835 j (by (first | omega | (have z0_ := unhid c2; have z1_ := unhid c611; omega)))) | (exfalso; (first | omega | (have z0_ := unhid c2; have z1_ := unhid c611; omega)))
      have S840 : CHL (dt762 11) (dt762 80) := by first | exact CHL_k hd9 hM C824 (F835 2 (by decide)) (fun j _ h2_ => F835 j (by (first | omega | (have z0_ := unhid c2; have z1_ := unhid c611; omega)))) | (exfalso; (first | omega | (have z0_ := unhid c2; have z1_ := unhid c611; omega)))
      have F841 : ∀ j : Nat, j < 7460 → dt762 81 j = dt 80 j := fun j hj => (h761_6 j hj).trans (C607 j)
      have S842 : SCL (dt762 19) (dt762 20) (dt762 81) := by first | exact SCL_k hd1 hM C825 C826 (fun j _ h2_ => F841 j (by (first | omega | (have z0_ := unhid c2; have z1_ := unhid c611; omega)))) | (exfalso; (first | omega | (have z0_ := unhid c2; have z1_ := unhid c611; omega)))
      have S843 : QRL (dt762 25) (dt762 81) := by first | exact QRL_k hd3 hM C830 (F841 1 (by decide)) (fun j _ h2_ => F841 j (by (first | omega | (have z0_ := unhid c2; have z1_ := unhid c611; omega)))) | (exfalso; (first | omega | (have z0_ := unhid c2; have z1_ := unhid c611; omega)))
      have S844 : SDL (dt762 26) (dt762 81) := by first | exact SDL_k hd5 hM C831 (F841 1 (by decide)) (fun j _ h2_ => F841 j (by (first | omega | (have z0_ := unhid c2; have z1_ := unhid c611; omega)))) (fun j _ h2_ => F841 j (by (first | omega | (have z0_ := unhid c2; have z1_ := unhid c611; omega)))) | (exfalso; (first | omega | (have z0_ := unhid c2; have z1_ := unhid c611; omega)))
      have S845 : LWL (dt762 21) (dt762 22) (dt762 23) (dt762 81) := by first | exact LWL_k hd7 hM C827 C828 C829 (fun j _ h2_ => F841 j (by (first | omega | (have z0_ := unhid c2; have z1_ := unhid c611; omega)))) | (exfalso; (first | omega | (have z0_ := unhid c2; have z1_ := unhid c611; omega)))
      have S846 : CHL (dt762 28) (dt762 81) := by first | exact CHL_k hd9 hM C832 (F841 2 (by decide)) (fun j _ h2_ => F841 j (by (first | omega | (have z0_ := unhid c2; have z1_ := unhid c611; omega)))) | (exfalso; (first | omega | (have z0_ := unhid c2; have z1_ := unhid c611; omega)))
      have S847 : ANL (dt762 13) (dt762 80) := by first | exact ANL_k hd11 hM C833 (by (first | omega | (have z0_ := unhid c2; have z1_ := unhid c611; omega))) (by (first | omega | (have z0_ := unhid c2; have z1_ := unhid c611; omega))) ((h761_5 3 (by decide)).trans (C607 3)) (fun j _ h2_ => (h761_5 j (by (first | omega | (have z0_ := unhid c2; have z1_ := unhid c611; omega)))).trans (C607 j)) | (exfalso; (first | omega | (have z0_ := unhid c2; have z1_ := unhid c611; omega)))
      have S848 : ANL (dt762 30) (dt762 81) := by first | exact ANL_k hd11 hM C834 (by (first | omega | (have z0_ := unhid c2; have z1_ := unhid c611; omega))) (by (first | omega | (have z0_ := unhid c2; have z1_ := unhid c611; omega))) ((h761_6 3 (by decide)).trans (C607 3)) (fun j _ h2_ => (h761_6 j (by (first | omega | (have z0_ := unhid c2; have z1_ := unhid c611; omega)))).trans (C607 j)) | (exfalso; (first | omega | (have z0_ := unhid c2; have z1_ := unhid c611; omega)))
      refine go_toq PM267 (k := 2) (pc' := 1435) (L' := [some (.inr (.inr (some 3000))), some (.inr (.inr (some 0))), some (.inr (.inr (some 79))), some (.inl i)]) (st' := []) (w' := (SH, dt762)) rfl ?_
      exact K dt762 hI763 hM789 h761_2 (w767.trans (hk0.trans w783.symm)) (w768.trans (hk1.trans w784.symm)) (w769.trans (hk2.trans w785.symm)) (w770.trans (hk3.trans w786.symm)) (w771.trans (hk4.trans w787.symm)) (w772.trans (hk5.trans w788.symm)) (by (first | omega | (have z0_ := unhid c2; have z1_ := unhid c611; omega))) (by (first | omega | (have z0_ := unhid c2; have z1_ := unhid c611; omega))) (by (first | omega | (have z0_ := unhid c2; have z1_ := unhid c611; omega))) (by (first | omega | (have z0_ := unhid c2; have z1_ := unhid c611; omega))) (by (first | omega | (have z0_ := unhid c2; have z1_ := unhid c611; omega))) (by (first | omega | (have z0_ := unhid c2; have z1_ := unhid c611; omega))) (by (first | omega | (have z0_ := unhid c2; have z1_ := unhid c611; omega))) (w780.trans (hk13.trans w790.symm)) (w781.trans (hk14.trans w791.symm)) (w782.trans (hk15.trans w792.symm)) (by first | exact hI | exact TPL_k hd0 C814 C816 (by (first | omega | (have z0_ := unhid c2; have z1_ := unhid c611; omega))) | (exfalso; (first | omega | (have z0_ := unhid c2; have z1_ := unhid c611; omega)))) (by first | exact S836 | exact SCL_k hd1 hM (fun j _ => C805 j) (fun j _ => C806 j) (fun j _ _ => C815 j) | (exfalso; (first | omega | (have z0_ := unhid c2; have z1_ := unhid c611; omega)))) (by first | exact S842 | exact SCL_k hd2 hM2 hI hI hI | (exfalso; (first | omega | (have z0_ := unhid c2; have z1_ := unhid c611; omega)))) (by first | exact S837 | exact QRL_k hd3 hM (fun j _ => C810 j) (C815 1) (fun j _ _ => C815 j) | (exfalso; (first | omega | (have z0_ := unhid c2; have z1_ := unhid c611; omega)))) (by first | exact S843 | exact QRL_k hd4 hM2 hI hI hI | (exfalso; (first | omega | (have z0_ := unhid c2; have z1_ := unhid c611; omega)))) (by first | exact S838 | exact SDL_k hd5 hM (fun j _ => C811 j) (C815 1) (fun j _ _ => C815 j) (fun j _ _ => C815 j) | (exfalso; (first | omega | (have z0_ := unhid c2; have z1_ := unhid c611; omega)))) (by first | exact S844 | exact SDL_k hd6 hM2 hI hI hI hI | (exfalso; (first | omega | (have z0_ := unhid c2; have z1_ := unhid c611; omega)))) (by first | exact S839 | exact LWL_k hd7 hM (fun j _ => C807 j) (fun j _ => C808 j) (fun j _ => C809 j) (fun j _ _ => C815 j) | (exfalso; (first | omega | (have z0_ := unhid c2; have z1_ := unhid c611; omega)))) (by first | exact S845 | exact LWL_k hd8 hM2 hI hI hI hI | (exfalso; (first | omega | (have z0_ := unhid c2; have z1_ := unhid c611; omega)))) (by first | exact S840 | exact CHL_k hd9 hM (fun j _ => C812 j) (by (first | omega | (have z0_ := unhid c2; have z1_ := unhid c611; omega))) (fun j _ _ => C815 j) | (exfalso; (first | omega | (have z0_ := unhid c2; have z1_ := unhid c611; omega)))) (by first | exact S846 | exact CHL_k hd10 hM2 hI (by (first | omega | (have z0_ := unhid c2; have z1_ := unhid c611; omega))) hI | (exfalso; (first | omega | (have z0_ := unhid c2; have z1_ := unhid c611; omega)))) (by first | exact S847 | exact ANL_k hd11 hM (fun j _ => C813 j) (by (first | omega | (have z0_ := unhid c2; have z1_ := unhid c611; omega))) (by (first | omega | (have z0_ := unhid c2; have z1_ := unhid c611; omega))) (by (first | omega | (have z0_ := unhid c2; have z1_ := unhid c611; omega))) (fun j _ _ => C815 j) | (exfalso; (first | omega | (have z0_ := unhid c2; have z1_ := unhid c611; omega)))) (by first | exact S848 | exact ANL_k hd12 hM2 hI (by (first | omega | (have z0_ := unhid c2; have z1_ := unhid c611; omega))) (by (first | omega | (have z0_ := unhid c2; have z1_ := unhid c611; omega))) (by (first | omega | (have z0_ := unhid c2; have z1_ := unhid c611; omega))) hI | (exfalso; (first | omega | (have z0_ := unhid c2; have z1_ := unhid c611; omega))))
set_option maxRecDepth 20000 in
set_option maxHeartbeats 8000000 in
theorem sp_case32 (L : Nat) (xs : Nat → Int32) (sio : Option Nat) (d : Nat) (Q : Option AV → am_W → Prop) (hLL : L ≤ 3072) (i : Int) (hi : 0 ≤ i ∧ i ≤ 3066) (hil : i ≤ (L : Int) - 6) (dt : Nat → Nat → Int) (hI : InvC dt) (hM : MW (dt 80)) (hM2 : MW (dt 81)) (hk0 : dt 1 0 = dt 80 0) (hk1 : dt 7 3 = dt 80 1) (hk2 : dt 10 3 = dt 80 2) (hk3 : dt 12 3 = dt 80 3) (hk4 : dt 14 3 = dt 80 4) (hk5 : dt 16 3 = dt 80 5) (hk6 : dt 18 0 = dt 81 0) (hk7 : dt 24 3 = dt 81 1) (hk8 : dt 27 3 = dt 81 2) (hk9 : dt 29 3 = dt 81 3) (hk10 : dt 31 3 = dt 81 4) (hk11 : dt 33 3 = dt 81 5) (hk12 : dt 0 2 = dt 79 2) (hk13 : dt 35 1 = dt 79 12) (hk14 : dt 35 2 = dt 79 19) (hk15 : dt 35 3 = dt 79 21) (hd0 : TPL (dt 36) (dt 85) (dt 35 1)) (hd1 : SCL (dt 2) (dt 3) (dt 80)) (hd2 : SCL (dt 19) (dt 20) (dt 81)) (hd3 : QRL (dt 8) (dt 80)) (hd4 : QRL (dt 25) (dt 81)) (hd5 : SDL (dt 9) (dt 80)) (hd6 : SDL (dt 26) (dt 81)) (hd7 : LWL (dt 4) (dt 5) (dt 6) (dt 80)) (hd8 : LWL (dt 21) (dt 22) (dt 23) (dt 81)) (hd9 : CHL (dt 11) (dt 80)) (hd10 : CHL (dt 28) (dt 81)) (hd11 : ANL (dt 13) (dt 80)) (hd12 : ANL (dt 30) (dt 81)) (K : ∀ (dt : Nat → Nat → Int) (hI : InvC dt) (hM : MW (dt 80)) (hM2 : MW (dt 81)) (hk0 : dt 1 0 = dt 80 0) (hk1 : dt 7 3 = dt 80 1) (hk2 : dt 10 3 = dt 80 2) (hk3 : dt 12 3 = dt 80 3) (hk4 : dt 14 3 = dt 80 4) (hk5 : dt 16 3 = dt 80 5) (hk6 : dt 18 0 = dt 81 0) (hk7 : dt 24 3 = dt 81 1) (hk8 : dt 27 3 = dt 81 2) (hk9 : dt 29 3 = dt 81 3) (hk10 : dt 31 3 = dt 81 4) (hk11 : dt 33 3 = dt 81 5) (hk12 : dt 0 2 = dt 79 2) (hk13 : dt 35 1 = dt 79 12) (hk14 : dt 35 2 = dt 79 19) (hk15 : dt 35 3 = dt 79 21) (hd0 : TPL (dt 36) (dt 85) (dt 35 1)) (hd1 : SCL (dt 2) (dt 3) (dt 80)) (hd2 : SCL (dt 19) (dt 20) (dt 81)) (hd3 : QRL (dt 8) (dt 80)) (hd4 : QRL (dt 25) (dt 81)) (hd5 : SDL (dt 9) (dt 80)) (hd6 : SDL (dt 26) (dt 81)) (hd7 : LWL (dt 4) (dt 5) (dt 6) (dt 80)) (hd8 : LWL (dt 21) (dt 22) (dt 23) (dt 81)) (hd9 : CHL (dt 11) (dt 80)) (hd10 : CHL (dt 28) (dt 81)) (hd11 : ANL (dt 13) (dt 80)) (hd12 : ANL (dt 30) (dt 81)), GO (am_XX L xs sio) (d + 39) 267 1435 [some (.inr (.inr (some 3000))), some (.inr (.inr (some 0))), some (.inr (.inr (some 79))), some (.inl i)] [] (SH, dt) Q) : GO (am_XX L xs sio) (d + 39) 267 1412 [some (.inr (.inr (some 3000))), some (.inr (.inr (some 0))), some (.inr (.inr (some 79))), some (.inl i)] [] (SH, dt) Q := by
  have hF : Fr [0, 1, 2, 3, 4, 5, 6, 7, 8, 9, 10, 11, 12, 13, 14, 15, 16, 17, 18, 19, 20, 21, 22, 23, 24, 25, 26, 27, 28, 29, 30, 31, 32, 33, 34, 35, 36, 37, 38, 39, 40, 41, 42, 43, 44, 45, 46, 47, 48, 49, 50, 51, 52, 53, 54, 55, 56, 57, 58, 59, 60, 61, 62, 63, 64, 65, 66, 67, 68, 69, 70, 71, 72, 73, 74, 75, 76, 77, 78, 79, 80, 81, 82, 83, 84, 85, 86, 87, 88, 89, 90, 91, 92, 93, 94, 95, 96, 97, 98, 99, 100, 101, 102, 103, 104] dt dt := Fr_refl
  have hqo := QOC_R hd3 hM hk1
  have hb1_ := hM.1.1
  have hb2_ := hM.1.2.1
  have hb3_ := hM.1.2.2.1
  have halk : ALK dt (dt 80) := ⟨hd7, hd3, hd5, hd9, hk1, hk2⟩
  have hav_ : ∀ i : Nat, (i : Int) < dt 12 3 → 0 ≤ dt 13 (6 * i + 1) ∧ dt 13 (6 * i + 1) < dt 7 3 := fun i hi => by have z := hd11 i (by omega); have y := z.2.2 1 (by decide); have w := z.2.1; omega
  refine go_toq PM267 (k := 5) (pc' := 1417) (L' := [some (.inr (.inr (some 3000))), some (.inr (.inr (some 0))), some (.inr (.inr (some 79))), some (.inl i)]) (st' := [.inl (i + 1), .inr (.inr (some 3000)), .inr (.inr (some 0))]) (w' := (SH, dt)) rfl ?_
  have r1 := i32_R (xs ((i + 1).toNat))
  refine go_smpq PM267 (L' := [some (.inr (.inr (some 3000))), some (.inr (.inr (some 0))), some (.inr (.inr (some 79))), some (.inl i)]) (st' := [.inl ((xs ((i + 1).toNat)).toInt), .inr (.inr (some 0))]) (w' := (SH, dt)) rfl rfl (s_iald (n := L) (f := fun j => (xs j).toInt) (am_scr hLL) ⟨by omega, by omega⟩) ?_
  refine go_callq PM267 PM99 (Q' := _) rfl rfl rfl rfl (sp_X5_look L xs sio (d + 38) dt hI  ((xs ((i + 1).toNat)).toInt) ⟨by omega, by omega⟩ ) ?_
  rintro _ _ ⟨rfl, h2⟩
  refine ⟨rfl, ?_⟩
  rcases h2 with ⟨rfl, h2⟩ | ⟨rfl, h2⟩ | ⟨rfl, h2⟩ | ⟨rfl, h2⟩ | ⟨rfl, h2⟩ | ⟨rfl, h2⟩ | ⟨rfl, h2⟩ | ⟨rfl, h2⟩ | ⟨rfl, h2⟩
  · skip
    refine go_toq PM267 (k := 6) (pc' := 1427) (L' := [some (.inr (.inr (some 3000))), some (.inr (.inr (some 0))), some (.inr (.inr (some 79))), some (.inl i)]) (st' := [.inl (i + 1), .inr (.inr (some 3000)), .inr (.inr (some 79))]) (w' := (SH, dt)) rfl ?_
    refine go_smpq PM267 (L' := [some (.inr (.inr (some 3000))), some (.inr (.inr (some 0))), some (.inr (.inr (some 79))), some (.inl i)]) (st' := [.inl ((xs ((i + 1).toNat)).toInt), .inr (.inr (some 79))]) (w' := (SH, dt)) rfl rfl (s_iald (n := L) (f := fun j => (xs j).toInt) (am_scr hLL) ⟨by omega, by omega⟩) ?_
    refine go_callq PM267 PM248 (Q' := _) rfl rfl rfl rfl (sp_X6_look L xs sio (d + 38) dt hI  ((xs ((i + 1).toNat)).toInt) ⟨by omega, by omega⟩ ) ?_
    rintro _ _ ⟨rfl, h3⟩
    refine ⟨rfl, ?_⟩
    rcases h3 with ⟨rfl, h3⟩ | ⟨rfl, h3⟩ | ⟨rfl, h3⟩ | ⟨rfl, h3⟩ | ⟨rfl, h3⟩ | ⟨rfl, h3⟩ | ⟨rfl, h3⟩ | ⟨rfl, h3⟩ | ⟨rfl, h3⟩
    · skip
      refine go_toq PM267 (k := 2) (pc' := 1435) (L' := [some (.inr (.inr (some 3000))), some (.inr (.inr (some 0))), some (.inr (.inr (some 79))), some (.inl i)]) (st' := []) (w' := (SH, dt)) rfl ?_
      exact K dt hI hM hM2 hk0 hk1 hk2 hk3 hk4 hk5 hk6 hk7 hk8 hk9 hk10 hk11 hk12 hk13 hk14 hk15 (by first | exact hI | exact TPL_k hd0 (fun _ => rfl) (fun _ => rfl) (by omega) | (exfalso; omega)) (by first | exact hI | exact SCL_k hd1 hM (fun j _ => (fun _ => rfl) j) (fun j _ => (fun _ => rfl) j) (fun j _ _ => (fun _ => rfl) j) | (exfalso; omega)) (by first | exact hI | exact SCL_k hd2 hM2 (fun j _ => (fun _ => rfl) j) (fun j _ => (fun _ => rfl) j) (fun j _ _ => (fun _ => rfl) j) | (exfalso; omega)) (by first | exact hI | exact QRL_k hd3 hM (fun j _ => (fun _ => rfl) j) ((fun _ => rfl) 1) (fun j _ _ => (fun _ => rfl) j) | (exfalso; omega)) (by first | exact hI | exact QRL_k hd4 hM2 (fun j _ => (fun _ => rfl) j) ((fun _ => rfl) 1) (fun j _ _ => (fun _ => rfl) j) | (exfalso; omega)) (by first | exact hI | exact SDL_k hd5 hM (fun j _ => (fun _ => rfl) j) ((fun _ => rfl) 1) (fun j _ _ => (fun _ => rfl) j) (fun j _ _ => (fun _ => rfl) j) | (exfalso; omega)) (by first | exact hI | exact SDL_k hd6 hM2 (fun j _ => (fun _ => rfl) j) ((fun _ => rfl) 1) (fun j _ _ => (fun _ => rfl) j) (fun j _ _ => (fun _ => rfl) j) | (exfalso; omega)) (by first | exact hI | exact LWL_k hd7 hM (fun j _ => (fun _ => rfl) j) (fun j _ => (fun _ => rfl) j) (fun j _ => (fun _ => rfl) j) (fun j _ _ => (fun _ => rfl) j) | (exfalso; omega)) (by first | exact hI | exact LWL_k hd8 hM2 (fun j _ => (fun _ => rfl) j) (fun j _ => (fun _ => rfl) j) (fun j _ => (fun _ => rfl) j) (fun j _ _ => (fun _ => rfl) j) | (exfalso; omega)) (by first | exact hI | exact CHL_k hd9 hM (fun j _ => (fun _ => rfl) j) (by omega) (fun j _ _ => (fun _ => rfl) j) | (exfalso; omega)) (by first | exact hI | exact CHL_k hd10 hM2 (fun j _ => (fun _ => rfl) j) (by omega) (fun j _ _ => (fun _ => rfl) j) | (exfalso; omega)) (by first | exact hI | exact ANL_k hd11 hM (fun j _ => (fun _ => rfl) j) (by omega) (by omega) (by omega) (fun j _ _ => (fun _ => rfl) j) | (exfalso; omega)) (by first | exact hI | exact ANL_k hd12 hM2 (fun j _ => (fun _ => rfl) j) (by omega) (by omega) (by omega) (fun j _ _ => (fun _ => rfl) j) | (exfalso; omega))
    · skip
      refine go_toq PM267 (k := 2) (pc' := 1435) (L' := [some (.inr (.inr (some 3000))), some (.inr (.inr (some 0))), some (.inr (.inr (some 79))), some (.inl i)]) (st' := []) (w' := (SH, dt)) rfl ?_
      exact K dt hI hM hM2 hk0 hk1 hk2 hk3 hk4 hk5 hk6 hk7 hk8 hk9 hk10 hk11 hk12 hk13 hk14 hk15 (by first | exact hI | exact TPL_k hd0 (fun _ => rfl) (fun _ => rfl) (by omega) | (exfalso; omega)) (by first | exact hI | exact SCL_k hd1 hM (fun j _ => (fun _ => rfl) j) (fun j _ => (fun _ => rfl) j) (fun j _ _ => (fun _ => rfl) j) | (exfalso; omega)) (by first | exact hI | exact SCL_k hd2 hM2 (fun j _ => (fun _ => rfl) j) (fun j _ => (fun _ => rfl) j) (fun j _ _ => (fun _ => rfl) j) | (exfalso; omega)) (by first | exact hI | exact QRL_k hd3 hM (fun j _ => (fun _ => rfl) j) ((fun _ => rfl) 1) (fun j _ _ => (fun _ => rfl) j) | (exfalso; omega)) (by first | exact hI | exact QRL_k hd4 hM2 (fun j _ => (fun _ => rfl) j) ((fun _ => rfl) 1) (fun j _ _ => (fun _ => rfl) j) | (exfalso; omega)) (by first | exact hI | exact SDL_k hd5 hM (fun j _ => (fun _ => rfl) j) ((fun _ => rfl) 1) (fun j _ _ => (fun _ => rfl) j) (fun j _ _ => (fun _ => rfl) j) | (exfalso; omega)) (by first | exact hI | exact SDL_k hd6 hM2 (fun j _ => (fun _ => rfl) j) ((fun _ => rfl) 1) (fun j _ _ => (fun _ => rfl) j) (fun j _ _ => (fun _ => rfl) j) | (exfalso; omega)) (by first | exact hI | exact LWL_k hd7 hM (fun j _ => (fun _ => rfl) j) (fun j _ => (fun _ => rfl) j) (fun j _ => (fun _ => rfl) j) (fun j _ _ => (fun _ => rfl) j) | (exfalso; omega)) (by first | exact hI | exact LWL_k hd8 hM2 (fun j _ => (fun _ => rfl) j) (fun j _ => (fun _ => rfl) j) (fun j _ => (fun _ => rfl) j) (fun j _ _ => (fun _ => rfl) j) | (exfalso; omega)) (by first | exact hI | exact CHL_k hd9 hM (fun j _ => (fun _ => rfl) j) (by omega) (fun j _ _ => (fun _ => rfl) j) | (exfalso; omega)) (by first | exact hI | exact CHL_k hd10 hM2 (fun j _ => (fun _ => rfl) j) (by omega) (fun j _ _ => (fun _ => rfl) j) | (exfalso; omega)) (by first | exact hI | exact ANL_k hd11 hM (fun j _ => (fun _ => rfl) j) (by omega) (by omega) (by omega) (fun j _ _ => (fun _ => rfl) j) | (exfalso; omega)) (by first | exact hI | exact ANL_k hd12 hM2 (fun j _ => (fun _ => rfl) j) (by omega) (by omega) (by omega) (fun j _ _ => (fun _ => rfl) j) | (exfalso; omega))
    · skip
      refine go_toq PM267 (k := 2) (pc' := 1435) (L' := [some (.inr (.inr (some 3000))), some (.inr (.inr (some 0))), some (.inr (.inr (some 79))), some (.inl i)]) (st' := []) (w' := (SH, dt)) rfl ?_
      exact K dt hI hM hM2 hk0 hk1 hk2 hk3 hk4 hk5 hk6 hk7 hk8 hk9 hk10 hk11 hk12 hk13 hk14 hk15 (by first | exact hI | exact TPL_k hd0 (fun _ => rfl) (fun _ => rfl) (by omega) | (exfalso; omega)) (by first | exact hI | exact SCL_k hd1 hM (fun j _ => (fun _ => rfl) j) (fun j _ => (fun _ => rfl) j) (fun j _ _ => (fun _ => rfl) j) | (exfalso; omega)) (by first | exact hI | exact SCL_k hd2 hM2 (fun j _ => (fun _ => rfl) j) (fun j _ => (fun _ => rfl) j) (fun j _ _ => (fun _ => rfl) j) | (exfalso; omega)) (by first | exact hI | exact QRL_k hd3 hM (fun j _ => (fun _ => rfl) j) ((fun _ => rfl) 1) (fun j _ _ => (fun _ => rfl) j) | (exfalso; omega)) (by first | exact hI | exact QRL_k hd4 hM2 (fun j _ => (fun _ => rfl) j) ((fun _ => rfl) 1) (fun j _ _ => (fun _ => rfl) j) | (exfalso; omega)) (by first | exact hI | exact SDL_k hd5 hM (fun j _ => (fun _ => rfl) j) ((fun _ => rfl) 1) (fun j _ _ => (fun _ => rfl) j) (fun j _ _ => (fun _ => rfl) j) | (exfalso; omega)) (by first | exact hI | exact SDL_k hd6 hM2 (fun j _ => (fun _ => rfl) j) ((fun _ => rfl) 1) (fun j _ _ => (fun _ => rfl) j) (fun j _ _ => (fun _ => rfl) j) | (exfalso; omega)) (by first | exact hI | exact LWL_k hd7 hM (fun j _ => (fun _ => rfl) j) (fun j _ => (fun _ => rfl) j) (fun j _ => (fun _ => rfl) j) (fun j _ _ => (fun _ => rfl) j) | (exfalso; omega)) (by first | exact hI | exact LWL_k hd8 hM2 (fun j _ => (fun _ => rfl) j) (fun j _ => (fun _ => rfl) j) (fun j _ => (fun _ => rfl) j) (fun j _ _ => (fun _ => rfl) j) | (exfalso; omega)) (by first | exact hI | exact CHL_k hd9 hM (fun j _ => (fun _ => rfl) j) (by omega) (fun j _ _ => (fun _ => rfl) j) | (exfalso; omega)) (by first | exact hI | exact CHL_k hd10 hM2 (fun j _ => (fun _ => rfl) j) (by omega) (fun j _ _ => (fun _ => rfl) j) | (exfalso; omega)) (by first | exact hI | exact ANL_k hd11 hM (fun j _ => (fun _ => rfl) j) (by omega) (by omega) (by omega) (fun j _ _ => (fun _ => rfl) j) | (exfalso; omega)) (by first | exact hI | exact ANL_k hd12 hM2 (fun j _ => (fun _ => rfl) j) (by omega) (by omega) (by omega) (fun j _ _ => (fun _ => rfl) j) | (exfalso; omega))
    · skip
      refine go_toq PM267 (k := 2) (pc' := 1435) (L' := [some (.inr (.inr (some 3000))), some (.inr (.inr (some 0))), some (.inr (.inr (some 79))), some (.inl i)]) (st' := []) (w' := (SH, dt)) rfl ?_
      exact K dt hI hM hM2 hk0 hk1 hk2 hk3 hk4 hk5 hk6 hk7 hk8 hk9 hk10 hk11 hk12 hk13 hk14 hk15 (by first | exact hI | exact TPL_k hd0 (fun _ => rfl) (fun _ => rfl) (by omega) | (exfalso; omega)) (by first | exact hI | exact SCL_k hd1 hM (fun j _ => (fun _ => rfl) j) (fun j _ => (fun _ => rfl) j) (fun j _ _ => (fun _ => rfl) j) | (exfalso; omega)) (by first | exact hI | exact SCL_k hd2 hM2 (fun j _ => (fun _ => rfl) j) (fun j _ => (fun _ => rfl) j) (fun j _ _ => (fun _ => rfl) j) | (exfalso; omega)) (by first | exact hI | exact QRL_k hd3 hM (fun j _ => (fun _ => rfl) j) ((fun _ => rfl) 1) (fun j _ _ => (fun _ => rfl) j) | (exfalso; omega)) (by first | exact hI | exact QRL_k hd4 hM2 (fun j _ => (fun _ => rfl) j) ((fun _ => rfl) 1) (fun j _ _ => (fun _ => rfl) j) | (exfalso; omega)) (by first | exact hI | exact SDL_k hd5 hM (fun j _ => (fun _ => rfl) j) ((fun _ => rfl) 1) (fun j _ _ => (fun _ => rfl) j) (fun j _ _ => (fun _ => rfl) j) | (exfalso; omega)) (by first | exact hI | exact SDL_k hd6 hM2 (fun j _ => (fun _ => rfl) j) ((fun _ => rfl) 1) (fun j _ _ => (fun _ => rfl) j) (fun j _ _ => (fun _ => rfl) j) | (exfalso; omega)) (by first | exact hI | exact LWL_k hd7 hM (fun j _ => (fun _ => rfl) j) (fun j _ => (fun _ => rfl) j) (fun j _ => (fun _ => rfl) j) (fun j _ _ => (fun _ => rfl) j) | (exfalso; omega)) (by first | exact hI | exact LWL_k hd8 hM2 (fun j _ => (fun _ => rfl) j) (fun j _ => (fun _ => rfl) j) (fun j _ => (fun _ => rfl) j) (fun j _ _ => (fun _ => rfl) j) | (exfalso; omega)) (by first | exact hI | exact CHL_k hd9 hM (fun j _ => (fun _ => rfl) j) (by omega) (fun j _ _ => (fun _ => rfl) j) | (exfalso; omega)) (by first | exact hI | exact CHL_k hd10 hM2 (fun j _ => (fun _ => rfl) j) (by omega) (fun j _ _ => (fun _ => rfl) j) | (exfalso; omega)) (by first | exact hI | exact ANL_k hd11 hM (fun j _ => (fun _ => rfl) j) (by omega) (by omega) (by omega) (fun j _ _ => (fun _ => rfl) j) | (exfalso; omega)) (by first | exact hI | exact ANL_k hd12 hM2 (fun j _ => (fun _ => rfl) j) (by omega) (by omega) (by omega) (fun j _ _ => (fun _ => rfl) j) | (exfalso; omega))
    · skip
      refine go_toq PM267 (k := 2) (pc' := 1435) (L' := [some (.inr (.inr (some 3000))), some (.inr (.inr (some 0))), some (.inr (.inr (some 79))), some (.inl i)]) (st' := []) (w' := (SH, dt)) rfl ?_
      exact K dt hI hM hM2 hk0 hk1 hk2 hk3 hk4 hk5 hk6 hk7 hk8 hk9 hk10 hk11 hk12 hk13 hk14 hk15 (by first | exact hI | exact TPL_k hd0 (fun _ => rfl) (fun _ => rfl) (by omega) | (exfalso; omega)) (by first | exact hI | exact SCL_k hd1 hM (fun j _ => (fun _ => rfl) j) (fun j _ => (fun _ => rfl) j) (fun j _ _ => (fun _ => rfl) j) | (exfalso; omega)) (by first | exact hI | exact SCL_k hd2 hM2 (fun j _ => (fun _ => rfl) j) (fun j _ => (fun _ => rfl) j) (fun j _ _ => (fun _ => rfl) j) | (exfalso; omega)) (by first | exact hI | exact QRL_k hd3 hM (fun j _ => (fun _ => rfl) j) ((fun _ => rfl) 1) (fun j _ _ => (fun _ => rfl) j) | (exfalso; omega)) (by first | exact hI | exact QRL_k hd4 hM2 (fun j _ => (fun _ => rfl) j) ((fun _ => rfl) 1) (fun j _ _ => (fun _ => rfl) j) | (exfalso; omega)) (by first | exact hI | exact SDL_k hd5 hM (fun j _ => (fun _ => rfl) j) ((fun _ => rfl) 1) (fun j _ _ => (fun _ => rfl) j) (fun j _ _ => (fun _ => rfl) j) | (exfalso; omega)) (by first | exact hI | exact SDL_k hd6 hM2 (fun j _ => (fun _ => rfl) j) ((fun _ => rfl) 1) (fun j _ _ => (fun _ => rfl) j) (fun j _ _ => (fun _ => rfl) j) | (exfalso; omega)) (by first | exact hI | exact LWL_k hd7 hM (fun j _ => (fun _ => rfl) j) (fun j _ => (fun _ => rfl) j) (fun j _ => (fun _ => rfl) j) (fun j _ _ => (fun _ => rfl) j) | (exfalso; omega)) (by first | exact hI | exact LWL_k hd8 hM2 (fun j _ => (fun _ => rfl) j) (fun j _ => (fun _ => rfl) j) (fun j _ => (fun _ => rfl) j) (fun j _ _ => (fun _ => rfl) j) | (exfalso; omega)) (by first | exact hI | exact CHL_k hd9 hM (fun j _ => (fun _ => rfl) j) (by omega) (fun j _ _ => (fun _ => rfl) j) | (exfalso; omega)) (by first | exact hI | exact CHL_k hd10 hM2 (fun j _ => (fun _ => rfl) j) (by omega) (fun j _ _ => (fun _ => rfl) j) | (exfalso; omega)) (by first | exact hI | exact ANL_k hd11 hM (fun j _ => (fun _ => rfl) j) (by omega) (by omega) (by omega) (fun j _ _ => (fun _ => rfl) j) | (exfalso; omega)) (by first | exact hI | exact ANL_k hd12 hM2 (fun j _ => (fun _ => rfl) j) (by omega) (by omega) (by omega) (fun j _ _ => (fun _ => rfl) j) | (exfalso; omega))
    · skip
      refine go_toq PM267 (k := 2) (pc' := 1435) (L' := [some (.inr (.inr (some 3000))), some (.inr (.inr (some 0))), some (.inr (.inr (some 79))), some (.inl i)]) (st' := []) (w' := (SH, dt)) rfl ?_
      exact K dt hI hM hM2 hk0 hk1 hk2 hk3 hk4 hk5 hk6 hk7 hk8 hk9 hk10 hk11 hk12 hk13 hk14 hk15 (by first | exact hI | exact TPL_k hd0 (fun _ => rfl) (fun _ => rfl) (by omega) | (exfalso; omega)) (by first | exact hI | exact SCL_k hd1 hM (fun j _ => (fun _ => rfl) j) (fun j _ => (fun _ => rfl) j) (fun j _ _ => (fun _ => rfl) j) | (exfalso; omega)) (by first | exact hI | exact SCL_k hd2 hM2 (fun j _ => (fun _ => rfl) j) (fun j _ => (fun _ => rfl) j) (fun j _ _ => (fun _ => rfl) j) | (exfalso; omega)) (by first | exact hI | exact QRL_k hd3 hM (fun j _ => (fun _ => rfl) j) ((fun _ => rfl) 1) (fun j _ _ => (fun _ => rfl) j) | (exfalso; omega)) (by first | exact hI | exact QRL_k hd4 hM2 (fun j _ => (fun _ => rfl) j) ((fun _ => rfl) 1) (fun j _ _ => (fun _ => rfl) j) | (exfalso; omega)) (by first | exact hI | exact SDL_k hd5 hM (fun j _ => (fun _ => rfl) j) ((fun _ => rfl) 1) (fun j _ _ => (fun _ => rfl) j) (fun j _ _ => (fun _ => rfl) j) | (exfalso; omega)) (by first | exact hI | exact SDL_k hd6 hM2 (fun j _ => (fun _ => rfl) j) ((fun _ => rfl) 1) (fun j _ _ => (fun _ => rfl) j) (fun j _ _ => (fun _ => rfl) j) | (exfalso; omega)) (by first | exact hI | exact LWL_k hd7 hM (fun j _ => (fun _ => rfl) j) (fun j _ => (fun _ => rfl) j) (fun j _ => (fun _ => rfl) j) (fun j _ _ => (fun _ => rfl) j) | (exfalso; omega)) (by first | exact hI | exact LWL_k hd8 hM2 (fun j _ => (fun _ => rfl) j) (fun j _ => (fun _ => rfl) j) (fun j _ => (fun _ => rfl) j) (fun j _ _ => (fun _ => rfl) j) | (exfalso; omega)) (by first | exact hI | exact CHL_k hd9 hM (fun j _ => (fun _ => rfl) j) (by omega) (fun j _ _ => (fun _ => rfl) j) | (exfalso; omega)) (by first | exact hI | exact CHL_k hd10 hM2 (fun j _ => (fun _ => rfl) j) (by omega) (fun j _ _ => (fun _ => rfl) j) | (exfalso; omega)) (by first | exact hI | exact ANL_k hd11 hM (fun j _ => (fun _ => rfl) j) (by omega) (by omega) (by omega) (fun j _ _ => (fun _ => rfl) j) | (exfalso; omega)) (by first | exact hI | exact ANL_k hd12 hM2 (fun j _ => (fun _ => rfl) j) (by omega) (by omega) (by omega) (fun j _ _ => (fun _ => rfl) j) | (exfalso; omega))
    · skip
      obtain ⟨h3_0, h3_1⟩ := h3
      replace h3_1 := hid h3_1
      refine go_toq PM267 (k := 2) (pc' := 1435) (L' := [some (.inr (.inr (some 3000))), some (.inr (.inr (some 0))), some (.inr (.inr (some 79))), some (.inl i)]) (st' := []) (w' := (SH, dt)) rfl ?_
      exact K dt hI hM hM2 hk0 hk1 hk2 hk3 hk4 hk5 hk6 hk7 hk8 hk9 hk10 hk11 hk12 hk13 hk14 hk15 (by first | exact hI | exact TPL_k hd0 (fun _ => rfl) (fun _ => rfl) (by (first | omega | (have z0_ := unhid h3_1; omega))) | (exfalso; (first | omega | (have z0_ := unhid h3_1; omega)))) (by first | exact hI | exact SCL_k hd1 hM (fun j _ => (fun _ => rfl) j) (fun j _ => (fun _ => rfl) j) (fun j _ _ => (fun _ => rfl) j) | (exfalso; (first | omega | (have z0_ := unhid h3_1; omega)))) (by first | exact hI | exact SCL_k hd2 hM2 (fun j _ => (fun _ => rfl) j) (fun j _ => (fun _ => rfl) j) (fun j _ _ => (fun _ => rfl) j) | (exfalso; (first | omega | (have z0_ := unhid h3_1; omega)))) (by first | exact hI | exact QRL_k hd3 hM (fun j _ => (fun _ => rfl) j) ((fun _ => rfl) 1) (fun j _ _ => (fun _ => rfl) j) | (exfalso; (first | omega | (have z0_ := unhid h3_1; omega)))) (by first | exact hI | exact QRL_k hd4 hM2 (fun j _ => (fun _ => rfl) j) ((fun _ => rfl) 1) (fun j _ _ => (fun _ => rfl) j) | (exfalso; (first | omega | (have z0_ := unhid h3_1; omega)))) (by first | exact hI | exact SDL_k hd5 hM (fun j _ => (fun _ => rfl) j) ((fun _ => rfl) 1) (fun j _ _ => (fun _ => rfl) j) (fun j _ _ => (fun _ => rfl) j) | (exfalso; (first | omega | (have z0_ := unhid h3_1; omega)))) (by first | exact hI | exact SDL_k hd6 hM2 (fun j _ => (fun _ => rfl) j) ((fun _ => rfl) 1) (fun j _ _ => (fun _ => rfl) j) (fun j _ _ => (fun _ => rfl) j) | (exfalso; (first | omega | (have z0_ := unhid h3_1; omega)))) (by first | exact hI | exact LWL_k hd7 hM (fun j _ => (fun _ => rfl) j) (fun j _ => (fun _ => rfl) j) (fun j _ => (fun _ => rfl) j) (fun j _ _ => (fun _ => rfl) j) | (exfalso; (first | omega | (have z0_ := unhid h3_1; omega)))) (by first | exact hI | exact LWL_k hd8 hM2 (fun j _ => (fun _ => rfl) j) (fun j _ => (fun _ => rfl) j) (fun j _ => (fun _ => rfl) j) (fun j _ _ => (fun _ => rfl) j) | (exfalso; (first | omega | (have z0_ := unhid h3_1; omega)))) (by first | exact hI | exact CHL_k hd9 hM (fun j _ => (fun _ => rfl) j) (by (first | omega | (have z0_ := unhid h3_1; omega))) (fun j _ _ => (fun _ => rfl) j) | (exfalso; (first | omega | (have z0_ := unhid h3_1; omega)))) (by first | exact hI | exact CHL_k hd10 hM2 (fun j _ => (fun _ => rfl) j) (by (first | omega | (have z0_ := unhid h3_1; omega))) (fun j _ _ => (fun _ => rfl) j) | (exfalso; (first | omega | (have z0_ := unhid h3_1; omega)))) (by first | exact hI | exact ANL_k hd11 hM (fun j _ => (fun _ => rfl) j) (by (first | omega | (have z0_ := unhid h3_1; omega))) (by (first | omega | (have z0_ := unhid h3_1; omega))) (by (first | omega | (have z0_ := unhid h3_1; omega))) (fun j _ _ => (fun _ => rfl) j) | (exfalso; (first | omega | (have z0_ := unhid h3_1; omega)))) (by first | exact hI | exact ANL_k hd12 hM2 (fun j _ => (fun _ => rfl) j) (by (first | omega | (have z0_ := unhid h3_1; omega))) (by (first | omega | (have z0_ := unhid h3_1; omega))) (by (first | omega | (have z0_ := unhid h3_1; omega))) (fun j _ _ => (fun _ => rfl) j) | (exfalso; (first | omega | (have z0_ := unhid h3_1; omega))))
    · skip
      obtain ⟨h3_0, h3_1⟩ := h3
      refine go_toq PM267 (k := 2) (pc' := 1435) (L' := [some (.inr (.inr (some 3000))), some (.inr (.inr (some 0))), some (.inr (.inr (some 79))), some (.inl i)]) (st' := []) (w' := (SH, dt)) rfl ?_
      exact K dt hI hM hM2 hk0 hk1 hk2 hk3 hk4 hk5 hk6 hk7 hk8 hk9 hk10 hk11 hk12 hk13 hk14 hk15 (by first | exact hI | exact TPL_k hd0 (fun _ => rfl) (fun _ => rfl) (by omega) | (exfalso; omega)) (by first | exact hI | exact SCL_k hd1 hM (fun j _ => (fun _ => rfl) j) (fun j _ => (fun _ => rfl) j) (fun j _ _ => (fun _ => rfl) j) | (exfalso; omega)) (by first | exact hI | exact SCL_k hd2 hM2 (fun j _ => (fun _ => rfl) j) (fun j _ => (fun _ => rfl) j) (fun j _ _ => (fun _ => rfl) j) | (exfalso; omega)) (by first | exact hI | exact QRL_k hd3 hM (fun j _ => (fun _ => rfl) j) ((fun _ => rfl) 1) (fun j _ _ => (fun _ => rfl) j) | (exfalso; omega)) (by first | exact hI | exact QRL_k hd4 hM2 (fun j _ => (fun _ => rfl) j) ((fun _ => rfl) 1) (fun j _ _ => (fun _ => rfl) j) | (exfalso; omega)) (by first | exact hI | exact SDL_k hd5 hM (fun j _ => (fun _ => rfl) j) ((fun _ => rfl) 1) (fun j _ _ => (fun _ => rfl) j) (fun j _ _ => (fun _ => rfl) j) | (exfalso; omega)) (by first | exact hI | exact SDL_k hd6 hM2 (fun j _ => (fun _ => rfl) j) ((fun _ => rfl) 1) (fun j _ _ => (fun _ => rfl) j) (fun j _ _ => (fun _ => rfl) j) | (exfalso; omega)) (by first | exact hI | exact LWL_k hd7 hM (fun j _ => (fun _ => rfl) j) (fun j _ => (fun _ => rfl) j) (fun j _ => (fun _ => rfl) j) (fun j _ _ => (fun _ => rfl) j) | (exfalso; omega)) (by first | exact hI | exact LWL_k hd8 hM2 (fun j _ => (fun _ => rfl) j) (fun j _ => (fun _ => rfl) j) (fun j _ => (fun _ => rfl) j) (fun j _ _ => (fun _ => rfl) j) | (exfalso; omega)) (by first | exact hI | exact CHL_k hd9 hM (fun j _ => (fun _ => rfl) j) (by omega) (fun j _ _ => (fun _ => rfl) j) | (exfalso; omega)) (by first | exact hI | exact CHL_k hd10 hM2 (fun j _ => (fun _ => rfl) j) (by omega) (fun j _ _ => (fun _ => rfl) j) | (exfalso; omega)) (by first | exact hI | exact ANL_k hd11 hM (fun j _ => (fun _ => rfl) j) (by omega) (by omega) (by omega) (fun j _ _ => (fun _ => rfl) j) | (exfalso; omega)) (by first | exact hI | exact ANL_k hd12 hM2 (fun j _ => (fun _ => rfl) j) (by omega) (by omega) (by omega) (fun j _ _ => (fun _ => rfl) j) | (exfalso; omega))
    · skip
      refine go_toq PM267 (k := 2) (pc' := 1435) (L' := [some (.inr (.inr (some 3000))), some (.inr (.inr (some 0))), some (.inr (.inr (some 79))), some (.inl i)]) (st' := []) (w' := (SH, dt)) rfl ?_
      exact K dt hI hM hM2 hk0 hk1 hk2 hk3 hk4 hk5 hk6 hk7 hk8 hk9 hk10 hk11 hk12 hk13 hk14 hk15 (by first | exact hI | exact TPL_k hd0 (fun _ => rfl) (fun _ => rfl) (by omega) | (exfalso; omega)) (by first | exact hI | exact SCL_k hd1 hM (fun j _ => (fun _ => rfl) j) (fun j _ => (fun _ => rfl) j) (fun j _ _ => (fun _ => rfl) j) | (exfalso; omega)) (by first | exact hI | exact SCL_k hd2 hM2 (fun j _ => (fun _ => rfl) j) (fun j _ => (fun _ => rfl) j) (fun j _ _ => (fun _ => rfl) j) | (exfalso; omega)) (by first | exact hI | exact QRL_k hd3 hM (fun j _ => (fun _ => rfl) j) ((fun _ => rfl) 1) (fun j _ _ => (fun _ => rfl) j) | (exfalso; omega)) (by first | exact hI | exact QRL_k hd4 hM2 (fun j _ => (fun _ => rfl) j) ((fun _ => rfl) 1) (fun j _ _ => (fun _ => rfl) j) | (exfalso; omega)) (by first | exact hI | exact SDL_k hd5 hM (fun j _ => (fun _ => rfl) j) ((fun _ => rfl) 1) (fun j _ _ => (fun _ => rfl) j) (fun j _ _ => (fun _ => rfl) j) | (exfalso; omega)) (by first | exact hI | exact SDL_k hd6 hM2 (fun j _ => (fun _ => rfl) j) ((fun _ => rfl) 1) (fun j _ _ => (fun _ => rfl) j) (fun j _ _ => (fun _ => rfl) j) | (exfalso; omega)) (by first | exact hI | exact LWL_k hd7 hM (fun j _ => (fun _ => rfl) j) (fun j _ => (fun _ => rfl) j) (fun j _ => (fun _ => rfl) j) (fun j _ _ => (fun _ => rfl) j) | (exfalso; omega)) (by first | exact hI | exact LWL_k hd8 hM2 (fun j _ => (fun _ => rfl) j) (fun j _ => (fun _ => rfl) j) (fun j _ => (fun _ => rfl) j) (fun j _ _ => (fun _ => rfl) j) | (exfalso; omega)) (by first | exact hI | exact CHL_k hd9 hM (fun j _ => (fun _ => rfl) j) (by omega) (fun j _ _ => (fun _ => rfl) j) | (exfalso; omega)) (by first | exact hI | exact CHL_k hd10 hM2 (fun j _ => (fun _ => rfl) j) (by omega) (fun j _ _ => (fun _ => rfl) j) | (exfalso; omega)) (by first | exact hI | exact ANL_k hd11 hM (fun j _ => (fun _ => rfl) j) (by omega) (by omega) (by omega) (fun j _ _ => (fun _ => rfl) j) | (exfalso; omega)) (by first | exact hI | exact ANL_k hd12 hM2 (fun j _ => (fun _ => rfl) j) (by omega) (by omega) (by omega) (fun j _ _ => (fun _ => rfl) j) | (exfalso; omega))
  · skip
    refine go_toq PM267 (k := 6) (pc' := 1427) (L' := [some (.inr (.inr (some 3000))), some (.inr (.inr (some 0))), some (.inr (.inr (some 79))), some (.inl i)]) (st' := [.inl (i + 1), .inr (.inr (some 3000)), .inr (.inr (some 79))]) (w' := (SH, dt)) rfl ?_
    refine go_smpq PM267 (L' := [some (.inr (.inr (some 3000))), some (.inr (.inr (some 0))), some (.inr (.inr (some 79))), some (.inl i)]) (st' := [.inl ((xs ((i + 1).toNat)).toInt), .inr (.inr (some 79))]) (w' := (SH, dt)) rfl rfl (s_iald (n := L) (f := fun j => (xs j).toInt) (am_scr hLL) ⟨by omega, by omega⟩) ?_
    refine go_callq PM267 PM248 (Q' := _) rfl rfl rfl rfl (sp_X6_look L xs sio (d + 38) dt hI  ((xs ((i + 1).toNat)).toInt) ⟨by omega, by omega⟩ ) ?_
    rintro _ _ ⟨rfl, h4⟩
    refine ⟨rfl, ?_⟩
    rcases h4 with ⟨rfl, h4⟩ | ⟨rfl, h4⟩ | ⟨rfl, h4⟩ | ⟨rfl, h4⟩ | ⟨rfl, h4⟩ | ⟨rfl, h4⟩ | ⟨rfl, h4⟩ | ⟨rfl, h4⟩ | ⟨rfl, h4⟩
    · skip
      refine go_toq PM267 (k := 2) (pc' := 1435) (L' := [some (.inr (.inr (some 3000))), some (.inr (.inr (some 0))), some (.inr (.inr (some 79))), some (.inl i)]) (st' := []) (w' := (SH, dt)) rfl ?_
      exact K dt hI hM hM2 hk0 hk1 hk2 hk3 hk4 hk5 hk6 hk7 hk8 hk9 hk10 hk11 hk12 hk13 hk14 hk15 (by first | exact hI | exact TPL_k hd0 (fun _ => rfl) (fun _ => rfl) (by omega) | (exfalso; omega)) (by first | exact hI | exact SCL_k hd1 hM (fun j _ => (fun _ => rfl) j) (fun j _ => (fun _ => rfl) j) (fun j _ _ => (fun _ => rfl) j) | (exfalso; omega)) (by first | exact hI | exact SCL_k hd2 hM2 (fun j _ => (fun _ => rfl) j) (fun j _ => (fun _ => rfl) j) (fun j _ _ => (fun _ => rfl) j) | (exfalso; omega)) (by first | exact hI | exact QRL_k hd3 hM (fun j _ => (fun _ => rfl) j) ((fun _ => rfl) 1) (fun j _ _ => (fun _ => rfl) j) | (exfalso; omega)) (by first | exact hI | exact QRL_k hd4 hM2 (fun j _ => (fun _ => rfl) j) ((fun _ => rfl) 1) (fun j _ _ => (fun _ => rfl) j) | (exfalso; omega)) (by first | exact hI | exact SDL_k hd5 hM (fun j _ => (fun _ => rfl) j) ((fun _ => rfl) 1) (fun j _ _ => (fun _ => rfl) j) (fun j _ _ => (fun _ => rfl) j) | (exfalso; omega)) (by first | exact hI | exact SDL_k hd6 hM2 (fun j _ => (fun _ => rfl) j) ((fun _ => rfl) 1) (fun j _ _ => (fun _ => rfl) j) (fun j _ _ => (fun _ => rfl) j) | (exfalso; omega)) (by first | exact hI | exact LWL_k hd7 hM (fun j _ => (fun _ => rfl) j) (fun j _ => (fun _ => rfl) j) (fun j _ => (fun _ => rfl) j) (fun j _ _ => (fun _ => rfl) j) | (exfalso; omega)) (by first | exact hI | exact LWL_k hd8 hM2 (fun j _ => (fun _ => rfl) j) (fun j _ => (fun _ => rfl) j) (fun j _ => (fun _ => rfl) j) (fun j _ _ => (fun _ => rfl) j) | (exfalso; omega)) (by first | exact hI | exact CHL_k hd9 hM (fun j _ => (fun _ => rfl) j) (by omega) (fun j _ _ => (fun _ => rfl) j) | (exfalso; omega)) (by first | exact hI | exact CHL_k hd10 hM2 (fun j _ => (fun _ => rfl) j) (by omega) (fun j _ _ => (fun _ => rfl) j) | (exfalso; omega)) (by first | exact hI | exact ANL_k hd11 hM (fun j _ => (fun _ => rfl) j) (by omega) (by omega) (by omega) (fun j _ _ => (fun _ => rfl) j) | (exfalso; omega)) (by first | exact hI | exact ANL_k hd12 hM2 (fun j _ => (fun _ => rfl) j) (by omega) (by omega) (by omega) (fun j _ _ => (fun _ => rfl) j) | (exfalso; omega))
    · skip
      refine go_toq PM267 (k := 2) (pc' := 1435) (L' := [some (.inr (.inr (some 3000))), some (.inr (.inr (some 0))), some (.inr (.inr (some 79))), some (.inl i)]) (st' := []) (w' := (SH, dt)) rfl ?_
      exact K dt hI hM hM2 hk0 hk1 hk2 hk3 hk4 hk5 hk6 hk7 hk8 hk9 hk10 hk11 hk12 hk13 hk14 hk15 (by first | exact hI | exact TPL_k hd0 (fun _ => rfl) (fun _ => rfl) (by omega) | (exfalso; omega)) (by first | exact hI | exact SCL_k hd1 hM (fun j _ => (fun _ => rfl) j) (fun j _ => (fun _ => rfl) j) (fun j _ _ => (fun _ => rfl) j) | (exfalso; omega)) (by first | exact hI | exact SCL_k hd2 hM2 (fun j _ => (fun _ => rfl) j) (fun j _ => (fun _ => rfl) j) (fun j _ _ => (fun _ => rfl) j) | (exfalso; omega)) (by first | exact hI | exact QRL_k hd3 hM (fun j _ => (fun _ => rfl) j) ((fun _ => rfl) 1) (fun j _ _ => (fun _ => rfl) j) | (exfalso; omega)) (by first | exact hI | exact QRL_k hd4 hM2 (fun j _ => (fun _ => rfl) j) ((fun _ => rfl) 1) (fun j _ _ => (fun _ => rfl) j) | (exfalso; omega)) (by first | exact hI | exact SDL_k hd5 hM (fun j _ => (fun _ => rfl) j) ((fun _ => rfl) 1) (fun j _ _ => (fun _ => rfl) j) (fun j _ _ => (fun _ => rfl) j) | (exfalso; omega)) (by first | exact hI | exact SDL_k hd6 hM2 (fun j _ => (fun _ => rfl) j) ((fun _ => rfl) 1) (fun j _ _ => (fun _ => rfl) j) (fun j _ _ => (fun _ => rfl) j) | (exfalso; omega)) (by first | exact hI | exact LWL_k hd7 hM (fun j _ => (fun _ => rfl) j) (fun j _ => (fun _ => rfl) j) (fun j _ => (fun _ => rfl) j) (fun j _ _ => (fun _ => rfl) j) | (exfalso; omega)) (by first | exact hI | exact LWL_k hd8 hM2 (fun j _ => (fun _ => rfl) j) (fun j _ => (fun _ => rfl) j) (fun j _ => (fun _ => rfl) j) (fun j _ _ => (fun _ => rfl) j) | (exfalso; omega)) (by first | exact hI | exact CHL_k hd9 hM (fun j _ => (fun _ => rfl) j) (by omega) (fun j _ _ => (fun _ => rfl) j) | (exfalso; omega)) (by first | exact hI | exact CHL_k hd10 hM2 (fun j _ => (fun _ => rfl) j) (by omega) (fun j _ _ => (fun _ => rfl) j) | (exfalso; omega)) (by first | exact hI | exact ANL_k hd11 hM (fun j _ => (fun _ => rfl) j) (by omega) (by omega) (by omega) (fun j _ _ => (fun _ => rfl) j) | (exfalso; omega)) (by first | exact hI | exact ANL_k hd12 hM2 (fun j _ => (fun _ => rfl) j) (by omega) (by omega) (by omega) (fun j _ _ => (fun _ => rfl) j) | (exfalso; omega))
    · skip
      refine go_toq PM267 (k := 2) (pc' := 1435) (L' := [some (.inr (.inr (some 3000))), some (.inr (.inr (some 0))), some (.inr (.inr (some 79))), some (.inl i)]) (st' := []) (w' := (SH, dt)) rfl ?_
      exact K dt hI hM hM2 hk0 hk1 hk2 hk3 hk4 hk5 hk6 hk7 hk8 hk9 hk10 hk11 hk12 hk13 hk14 hk15 (by first | exact hI | exact TPL_k hd0 (fun _ => rfl) (fun _ => rfl) (by omega) | (exfalso; omega)) (by first | exact hI | exact SCL_k hd1 hM (fun j _ => (fun _ => rfl) j) (fun j _ => (fun _ => rfl) j) (fun j _ _ => (fun _ => rfl) j) | (exfalso; omega)) (by first | exact hI | exact SCL_k hd2 hM2 (fun j _ => (fun _ => rfl) j) (fun j _ => (fun _ => rfl) j) (fun j _ _ => (fun _ => rfl) j) | (exfalso; omega)) (by first | exact hI | exact QRL_k hd3 hM (fun j _ => (fun _ => rfl) j) ((fun _ => rfl) 1) (fun j _ _ => (fun _ => rfl) j) | (exfalso; omega)) (by first | exact hI | exact QRL_k hd4 hM2 (fun j _ => (fun _ => rfl) j) ((fun _ => rfl) 1) (fun j _ _ => (fun _ => rfl) j) | (exfalso; omega)) (by first | exact hI | exact SDL_k hd5 hM (fun j _ => (fun _ => rfl) j) ((fun _ => rfl) 1) (fun j _ _ => (fun _ => rfl) j) (fun j _ _ => (fun _ => rfl) j) | (exfalso; omega)) (by first | exact hI | exact SDL_k hd6 hM2 (fun j _ => (fun _ => rfl) j) ((fun _ => rfl) 1) (fun j _ _ => (fun _ => rfl) j) (fun j _ _ => (fun _ => rfl) j) | (exfalso; omega)) (by first | exact hI | exact LWL_k hd7 hM (fun j _ => (fun _ => rfl) j) (fun j _ => (fun _ => rfl) j) (fun j _ => (fun _ => rfl) j) (fun j _ _ => (fun _ => rfl) j) | (exfalso; omega)) (by first | exact hI | exact LWL_k hd8 hM2 (fun j _ => (fun _ => rfl) j) (fun j _ => (fun _ => rfl) j) (fun j _ => (fun _ => rfl) j) (fun j _ _ => (fun _ => rfl) j) | (exfalso; omega)) (by first | exact hI | exact CHL_k hd9 hM (fun j _ => (fun _ => rfl) j) (by omega) (fun j _ _ => (fun _ => rfl) j) | (exfalso; omega)) (by first | exact hI | exact CHL_k hd10 hM2 (fun j _ => (fun _ => rfl) j) (by omega) (fun j _ _ => (fun _ => rfl) j) | (exfalso; omega)) (by first | exact hI | exact ANL_k hd11 hM (fun j _ => (fun _ => rfl) j) (by omega) (by omega) (by omega) (fun j _ _ => (fun _ => rfl) j) | (exfalso; omega)) (by first | exact hI | exact ANL_k hd12 hM2 (fun j _ => (fun _ => rfl) j) (by omega) (by omega) (by omega) (fun j _ _ => (fun _ => rfl) j) | (exfalso; omega))
    · skip
      refine go_toq PM267 (k := 2) (pc' := 1435) (L' := [some (.inr (.inr (some 3000))), some (.inr (.inr (some 0))), some (.inr (.inr (some 79))), some (.inl i)]) (st' := []) (w' := (SH, dt)) rfl ?_
      exact K dt hI hM hM2 hk0 hk1 hk2 hk3 hk4 hk5 hk6 hk7 hk8 hk9 hk10 hk11 hk12 hk13 hk14 hk15 (by first | exact hI | exact TPL_k hd0 (fun _ => rfl) (fun _ => rfl) (by omega) | (exfalso; omega)) (by first | exact hI | exact SCL_k hd1 hM (fun j _ => (fun _ => rfl) j) (fun j _ => (fun _ => rfl) j) (fun j _ _ => (fun _ => rfl) j) | (exfalso; omega)) (by first | exact hI | exact SCL_k hd2 hM2 (fun j _ => (fun _ => rfl) j) (fun j _ => (fun _ => rfl) j) (fun j _ _ => (fun _ => rfl) j) | (exfalso; omega)) (by first | exact hI | exact QRL_k hd3 hM (fun j _ => (fun _ => rfl) j) ((fun _ => rfl) 1) (fun j _ _ => (fun _ => rfl) j) | (exfalso; omega)) (by first | exact hI | exact QRL_k hd4 hM2 (fun j _ => (fun _ => rfl) j) ((fun _ => rfl) 1) (fun j _ _ => (fun _ => rfl) j) | (exfalso; omega)) (by first | exact hI | exact SDL_k hd5 hM (fun j _ => (fun _ => rfl) j) ((fun _ => rfl) 1) (fun j _ _ => (fun _ => rfl) j) (fun j _ _ => (fun _ => rfl) j) | (exfalso; omega)) (by first | exact hI | exact SDL_k hd6 hM2 (fun j _ => (fun _ => rfl) j) ((fun _ => rfl) 1) (fun j _ _ => (fun _ => rfl) j) (fun j _ _ => (fun _ => rfl) j) | (exfalso; omega)) (by first | exact hI | exact LWL_k hd7 hM (fun j _ => (fun _ => rfl) j) (fun j _ => (fun _ => rfl) j) (fun j _ => (fun _ => rfl) j) (fun j _ _ => (fun _ => rfl) j) | (exfalso; omega)) (by first | exact hI | exact LWL_k hd8 hM2 (fun j _ => (fun _ => rfl) j) (fun j _ => (fun _ => rfl) j) (fun j _ => (fun _ => rfl) j) (fun j _ _ => (fun _ => rfl) j) | (exfalso; omega)) (by first | exact hI | exact CHL_k hd9 hM (fun j _ => (fun _ => rfl) j) (by omega) (fun j _ _ => (fun _ => rfl) j) | (exfalso; omega)) (by first | exact hI | exact CHL_k hd10 hM2 (fun j _ => (fun _ => rfl) j) (by omega) (fun j _ _ => (fun _ => rfl) j) | (exfalso; omega)) (by first | exact hI | exact ANL_k hd11 hM (fun j _ => (fun _ => rfl) j) (by omega) (by omega) (by omega) (fun j _ _ => (fun _ => rfl) j) | (exfalso; omega)) (by first | exact hI | exact ANL_k hd12 hM2 (fun j _ => (fun _ => rfl) j) (by omega) (by omega) (by omega) (fun j _ _ => (fun _ => rfl) j) | (exfalso; omega))
    · skip
      refine go_toq PM267 (k := 2) (pc' := 1435) (L' := [some (.inr (.inr (some 3000))), some (.inr (.inr (some 0))), some (.inr (.inr (some 79))), some (.inl i)]) (st' := []) (w' := (SH, dt)) rfl ?_
      exact K dt hI hM hM2 hk0 hk1 hk2 hk3 hk4 hk5 hk6 hk7 hk8 hk9 hk10 hk11 hk12 hk13 hk14 hk15 (by first | exact hI | exact TPL_k hd0 (fun _ => rfl) (fun _ => rfl) (by omega) | (exfalso; omega)) (by first | exact hI | exact SCL_k hd1 hM (fun j _ => (fun _ => rfl) j) (fun j _ => (fun _ => rfl) j) (fun j _ _ => (fun _ => rfl) j) | (exfalso; omega)) (by first | exact hI | exact SCL_k hd2 hM2 (fun j _ => (fun _ => rfl) j) (fun j _ => (fun _ => rfl) j) (fun j _ _ => (fun _ => rfl) j) | (exfalso; omega)) (by first | exact hI | exact QRL_k hd3 hM (fun j _ => (fun _ => rfl) j) ((fun _ => rfl) 1) (fun j _ _ => (fun _ => rfl) j) | (exfalso; omega)) (by first | exact hI | exact QRL_k hd4 hM2 (fun j _ => (fun _ => rfl) j) ((fun _ => rfl) 1) (fun j _ _ => (fun _ => rfl) j) | (exfalso; omega)) (by first | exact hI | exact SDL_k hd5 hM (fun j _ => (fun _ => rfl) j) ((fun _ => rfl) 1) (fun j _ _ => (fun _ => rfl) j) (fun j _ _ => (fun _ => rfl) j) | (exfalso; omega)) (by first | exact hI | exact SDL_k hd6 hM2 (fun j _ => (fun _ => rfl) j) ((fun _ => rfl) 1) (fun j _ _ => (fun _ => rfl) j) (fun j _ _ => (fun _ => rfl) j) | (exfalso; omega)) (by first | exact hI | exact LWL_k hd7 hM (fun j _ => (fun _ => rfl) j) (fun j _ => (fun _ => rfl) j) (fun j _ => (fun _ => rfl) j) (fun j _ _ => (fun _ => rfl) j) | (exfalso; omega)) (by first | exact hI | exact LWL_k hd8 hM2 (fun j _ => (fun _ => rfl) j) (fun j _ => (fun _ => rfl) j) (fun j _ => (fun _ => rfl) j) (fun j _ _ => (fun _ => rfl) j) | (exfalso; omega)) (by first | exact hI | exact CHL_k hd9 hM (fun j _ => (fun _ => rfl) j) (by omega) (fun j _ _ => (fun _ => rfl) j) | (exfalso; omega)) (by first | exact hI | exact CHL_k hd10 hM2 (fun j _ => (fun _ => rfl) j) (by omega) (fun j _ _ => (fun _ => rfl) j) | (exfalso; omega)) (by first | exact hI | exact ANL_k hd11 hM (fun j _ => (fun _ => rfl) j) (by omega) (by omega) (by omega) (fun j _ _ => (fun _ => rfl) j) | (exfalso; omega)) (by first | exact hI | exact ANL_k hd12 hM2 (fun j _ => (fun _ => rfl) j) (by omega) (by omega) (by omega) (fun j _ _ => (fun _ => rfl) j) | (exfalso; omega))
    · skip
      refine go_toq PM267 (k := 2) (pc' := 1435) (L' := [some (.inr (.inr (some 3000))), some (.inr (.inr (some 0))), some (.inr (.inr (some 79))), some (.inl i)]) (st' := []) (w' := (SH, dt)) rfl ?_
      exact K dt hI hM hM2 hk0 hk1 hk2 hk3 hk4 hk5 hk6 hk7 hk8 hk9 hk10 hk11 hk12 hk13 hk14 hk15 (by first | exact hI | exact TPL_k hd0 (fun _ => rfl) (fun _ => rfl) (by omega) | (exfalso; omega)) (by first | exact hI | exact SCL_k hd1 hM (fun j _ => (fun _ => rfl) j) (fun j _ => (fun _ => rfl) j) (fun j _ _ => (fun _ => rfl) j) | (exfalso; omega)) (by first | exact hI | exact SCL_k hd2 hM2 (fun j _ => (fun _ => rfl) j) (fun j _ => (fun _ => rfl) j) (fun j _ _ => (fun _ => rfl) j) | (exfalso; omega)) (by first | exact hI | exact QRL_k hd3 hM (fun j _ => (fun _ => rfl) j) ((fun _ => rfl) 1) (fun j _ _ => (fun _ => rfl) j) | (exfalso; omega)) (by first | exact hI | exact QRL_k hd4 hM2 (fun j _ => (fun _ => rfl) j) ((fun _ => rfl) 1) (fun j _ _ => (fun _ => rfl) j) | (exfalso; omega)) (by first | exact hI | exact SDL_k hd5 hM (fun j _ => (fun _ => rfl) j) ((fun _ => rfl) 1) (fun j _ _ => (fun _ => rfl) j) (fun j _ _ => (fun _ => rfl) j) | (exfalso; omega)) (by first | exact hI | exact SDL_k hd6 hM2 (fun j _ => (fun _ => rfl) j) ((fun _ => rfl) 1) (fun j _ _ => (fun _ => rfl) j) (fun j _ _ => (fun _ => rfl) j) | (exfalso; omega)) (by first | exact hI | exact LWL_k hd7 hM (fun j _ => (fun _ => rfl) j) (fun j _ => (fun _ => rfl) j) (fun j _ => (fun _ => rfl) j) (fun j _ _ => (fun _ => rfl) j) | (exfalso; omega)) (by first | exact hI | exact LWL_k hd8 hM2 (fun j _ => (fun _ => rfl) j) (fun j _ => (fun _ => rfl) j) (fun j _ => (fun _ => rfl) j) (fun j _ _ => (fun _ => rfl) j) | (exfalso; omega)) (by first | exact hI | exact CHL_k hd9 hM (fun j _ => (fun _ => rfl) j) (by omega) (fun j _ _ => (fun _ => rfl) j) | (exfalso; omega)) (by first | exact hI | exact CHL_k hd10 hM2 (fun j _ => (fun _ => rfl) j) (by omega) (fun j _ _ => (fun _ => rfl) j) | (exfalso; omega)) (by first | exact hI | exact ANL_k hd11 hM (fun j _ => (fun _ => rfl) j) (by omega) (by omega) (by omega) (fun j _ _ => (fun _ => rfl) j) | (exfalso; omega)) (by first | exact hI | exact ANL_k hd12 hM2 (fun j _ => (fun _ => rfl) j) (by omega) (by omega) (by omega) (fun j _ _ => (fun _ => rfl) j) | (exfalso; omega))
    · skip
      obtain ⟨h4_0, h4_1⟩ := h4
      replace h4_1 := hid h4_1
      refine go_toq PM267 (k := 2) (pc' := 1435) (L' := [some (.inr (.inr (some 3000))), some (.inr (.inr (some 0))), some (.inr (.inr (some 79))), some (.inl i)]) (st' := []) (w' := (SH, dt)) rfl ?_
      exact K dt hI hM hM2 hk0 hk1 hk2 hk3 hk4 hk5 hk6 hk7 hk8 hk9 hk10 hk11 hk12 hk13 hk14 hk15 (by first | exact hI | exact TPL_k hd0 (fun _ => rfl) (fun _ => rfl) (by (first | omega | (have z0_ := unhid h4_1; omega))) | (exfalso; (first | omega | (have z0_ := unhid h4_1; omega)))) (by first | exact hI | exact SCL_k hd1 hM (fun j _ => (fun _ => rfl) j) (fun j _ => (fun _ => rfl) j) (fun j _ _ => (fun _ => rfl) j) | (exfalso; (first | omega | (have z0_ := unhid h4_1; omega)))) (by first | exact hI | exact SCL_k hd2 hM2 (fun j _ => (fun _ => rfl) j) (fun j _ => (fun _ => rfl) j) (fun j _ _ => (fun _ => rfl) j) | (exfalso; (first | omega | (have z0_ := unhid h4_1; omega)))) (by first | exact hI | exact QRL_k hd3 hM (fun j _ => (fun _ => rfl) j) ((fun _ => rfl) 1) (fun j _ _ => (fun _ => rfl) j) | (exfalso; (first | omega | (have z0_ := unhid h4_1; omega)))) (by first | exact hI | exact QRL_k hd4 hM2 (fun j _ => (fun _ => rfl) j) ((fun _ => rfl) 1) (fun j _ _ => (fun _ => rfl) j) | (exfalso; (first | omega | (have z0_ := unhid h4_1; omega)))) (by first | exact hI | exact SDL_k hd5 hM (fun j _ => (fun _ => rfl) j) ((fun _ => rfl) 1) (fun j _ _ => (fun _ => rfl) j) (fun j _ _ => (fun _ => rfl) j) | (exfalso; (first | omega | (have z0_ := unhid h4_1; omega)))) (by first | exact hI | exact SDL_k hd6 hM2 (fun j _ => (fun _ => rfl) j) ((fun _ => rfl) 1) (fun j _ _ => (fun _ => rfl) j) (fun j _ _ => (fun _ => rfl) j) | (exfalso; (first | omega | (have z0_ := unhid h4_1; omega)))) (by first | exact hI | exact LWL_k hd7 hM (fun j _ => (fun _ => rfl) j) (fun j _ => (fun _ => rfl) j) (fun j _ => (fun _ => rfl) j) (fun j _ _ => (fun _ => rfl) j) | (exfalso; (first | omega | (have z0_ := unhid h4_1; omega)))) (by first | exact hI | exact LWL_k hd8 hM2 (fun j _ => (fun _ => rfl) j) (fun j _ => (fun _ => rfl) j) (fun j _ => (fun _ => rfl) j) (fun j _ _ => (fun _ => rfl) j) | (exfalso; (first | omega | (have z0_ := unhid h4_1; omega)))) (by first | exact hI | exact CHL_k hd9 hM (fun j _ => (fun _ => rfl) j) (by (first | omega | (have z0_ := unhid h4_1; omega))) (fun j _ _ => (fun _ => rfl) j) | (exfalso; (first | omega | (have z0_ := unhid h4_1; omega)))) (by first | exact hI | exact CHL_k hd10 hM2 (fun j _ => (fun _ => rfl) j) (by (first | omega | (have z0_ := unhid h4_1; omega))) (fun j _ _ => (fun _ => rfl) j) | (exfalso; (first | omega | (have z0_ := unhid h4_1; omega)))) (by first | exact hI | exact ANL_k hd11 hM (fun j _ => (fun _ => rfl) j) (by (first | omega | (have z0_ := unhid h4_1; omega))) (by (first | omega | (have z0_ := unhid h4_1; omega))) (by (first | omega | (have z0_ := unhid h4_1; omega))) (fun j _ _ => (fun _ => rfl) j) | (exfalso; (first | omega | (have z0_ := unhid h4_1; omega)))) (by first | exact hI | exact ANL_k hd12 hM2 (fun j _ => (fun _ => rfl) j) (by (first | omega | (have z0_ := unhid h4_1; omega))) (by (first | omega | (have z0_ := unhid h4_1; omega))) (by (first | omega | (have z0_ := unhid h4_1; omega))) (fun j _ _ => (fun _ => rfl) j) | (exfalso; (first | omega | (have z0_ := unhid h4_1; omega))))
    · skip
      obtain ⟨h4_0, h4_1⟩ := h4
      refine go_toq PM267 (k := 2) (pc' := 1435) (L' := [some (.inr (.inr (some 3000))), some (.inr (.inr (some 0))), some (.inr (.inr (some 79))), some (.inl i)]) (st' := []) (w' := (SH, dt)) rfl ?_
      exact K dt hI hM hM2 hk0 hk1 hk2 hk3 hk4 hk5 hk6 hk7 hk8 hk9 hk10 hk11 hk12 hk13 hk14 hk15 (by first | exact hI | exact TPL_k hd0 (fun _ => rfl) (fun _ => rfl) (by omega) | (exfalso; omega)) (by first | exact hI | exact SCL_k hd1 hM (fun j _ => (fun _ => rfl) j) (fun j _ => (fun _ => rfl) j) (fun j _ _ => (fun _ => rfl) j) | (exfalso; omega)) (by first | exact hI | exact SCL_k hd2 hM2 (fun j _ => (fun _ => rfl) j) (fun j _ => (fun _ => rfl) j) (fun j _ _ => (fun _ => rfl) j) | (exfalso; omega)) (by first | exact hI | exact QRL_k hd3 hM (fun j _ => (fun _ => rfl) j) ((fun _ => rfl) 1) (fun j _ _ => (fun _ => rfl) j) | (exfalso; omega)) (by first | exact hI | exact QRL_k hd4 hM2 (fun j _ => (fun _ => rfl) j) ((fun _ => rfl) 1) (fun j _ _ => (fun _ => rfl) j) | (exfalso; omega)) (by first | exact hI | exact SDL_k hd5 hM (fun j _ => (fun _ => rfl) j) ((fun _ => rfl) 1) (fun j _ _ => (fun _ => rfl) j) (fun j _ _ => (fun _ => rfl) j) | (exfalso; omega)) (by first | exact hI | exact SDL_k hd6 hM2 (fun j _ => (fun _ => rfl) j) ((fun _ => rfl) 1) (fun j _ _ => (fun _ => rfl) j) (fun j _ _ => (fun _ => rfl) j) | (exfalso; omega)) (by first | exact hI | exact LWL_k hd7 hM (fun j _ => (fun _ => rfl) j) (fun j _ => (fun _ => rfl) j) (fun j _ => (fun _ => rfl) j) (fun j _ _ => (fun _ => rfl) j) | (exfalso; omega)) (by first | exact hI | exact LWL_k hd8 hM2 (fun j _ => (fun _ => rfl) j) (fun j _ => (fun _ => rfl) j) (fun j _ => (fun _ => rfl) j) (fun j _ _ => (fun _ => rfl) j) | (exfalso; omega)) (by first | exact hI | exact CHL_k hd9 hM (fun j _ => (fun _ => rfl) j) (by omega) (fun j _ _ => (fun _ => rfl) j) | (exfalso; omega)) (by first | exact hI | exact CHL_k hd10 hM2 (fun j _ => (fun _ => rfl) j) (by omega) (fun j _ _ => (fun _ => rfl) j) | (exfalso; omega)) (by first | exact hI | exact ANL_k hd11 hM (fun j _ => (fun _ => rfl) j) (by omega) (by omega) (by omega) (fun j _ _ => (fun _ => rfl) j) | (exfalso; omega)) (by first | exact hI | exact ANL_k hd12 hM2 (fun j _ => (fun _ => rfl) j) (by omega) (by omega) (by omega) (fun j _ _ => (fun _ => rfl) j) | (exfalso; omega))
    · skip
      refine go_toq PM267 (k := 2) (pc' := 1435) (L' := [some (.inr (.inr (some 3000))), some (.inr (.inr (some 0))), some (.inr (.inr (some 79))), some (.inl i)]) (st' := []) (w' := (SH, dt)) rfl ?_
      exact K dt hI hM hM2 hk0 hk1 hk2 hk3 hk4 hk5 hk6 hk7 hk8 hk9 hk10 hk11 hk12 hk13 hk14 hk15 (by first | exact hI | exact TPL_k hd0 (fun _ => rfl) (fun _ => rfl) (by omega) | (exfalso; omega)) (by first | exact hI | exact SCL_k hd1 hM (fun j _ => (fun _ => rfl) j) (fun j _ => (fun _ => rfl) j) (fun j _ _ => (fun _ => rfl) j) | (exfalso; omega)) (by first | exact hI | exact SCL_k hd2 hM2 (fun j _ => (fun _ => rfl) j) (fun j _ => (fun _ => rfl) j) (fun j _ _ => (fun _ => rfl) j) | (exfalso; omega)) (by first | exact hI | exact QRL_k hd3 hM (fun j _ => (fun _ => rfl) j) ((fun _ => rfl) 1) (fun j _ _ => (fun _ => rfl) j) | (exfalso; omega)) (by first | exact hI | exact QRL_k hd4 hM2 (fun j _ => (fun _ => rfl) j) ((fun _ => rfl) 1) (fun j _ _ => (fun _ => rfl) j) | (exfalso; omega)) (by first | exact hI | exact SDL_k hd5 hM (fun j _ => (fun _ => rfl) j) ((fun _ => rfl) 1) (fun j _ _ => (fun _ => rfl) j) (fun j _ _ => (fun _ => rfl) j) | (exfalso; omega)) (by first | exact hI | exact SDL_k hd6 hM2 (fun j _ => (fun _ => rfl) j) ((fun _ => rfl) 1) (fun j _ _ => (fun _ => rfl) j) (fun j _ _ => (fun _ => rfl) j) | (exfalso; omega)) (by first | exact hI | exact LWL_k hd7 hM (fun j _ => (fun _ => rfl) j) (fun j _ => (fun _ => rfl) j) (fun j _ => (fun _ => rfl) j) (fun j _ _ => (fun _ => rfl) j) | (exfalso; omega)) (by first | exact hI | exact LWL_k hd8 hM2 (fun j _ => (fun _ => rfl) j) (fun j _ => (fun _ => rfl) j) (fun j _ => (fun _ => rfl) j) (fun j _ _ => (fun _ => rfl) j) | (exfalso; omega)) (by first | exact hI | exact CHL_k hd9 hM (fun j _ => (fun _ => rfl) j) (by omega) (fun j _ _ => (fun _ => rfl) j) | (exfalso; omega)) (by first | exact hI | exact CHL_k hd10 hM2 (fun j _ => (fun _ => rfl) j) (by omega) (fun j _ _ => (fun _ => rfl) j) | (exfalso; omega)) (by first | exact hI | exact ANL_k hd11 hM (fun j _ => (fun _ => rfl) j) (by omega) (by omega) (by omega) (fun j _ _ => (fun _ => rfl) j) | (exfalso; omega)) (by first | exact hI | exact ANL_k hd12 hM2 (fun j _ => (fun _ => rfl) j) (by omega) (by omega) (by omega) (fun j _ _ => (fun _ => rfl) j) | (exfalso; omega))
  · skip
    refine go_toq PM267 (k := 6) (pc' := 1427) (L' := [some (.inr (.inr (some 3000))), some (.inr (.inr (some 0))), some (.inr (.inr (some 79))), some (.inl i)]) (st' := [.inl (i + 1), .inr (.inr (some 3000)), .inr (.inr (some 79))]) (w' := (SH, dt)) rfl ?_
    refine go_smpq PM267 (L' := [some (.inr (.inr (some 3000))), some (.inr (.inr (some 0))), some (.inr (.inr (some 79))), some (.inl i)]) (st' := [.inl ((xs ((i + 1).toNat)).toInt), .inr (.inr (some 79))]) (w' := (SH, dt)) rfl rfl (s_iald (n := L) (f := fun j => (xs j).toInt) (am_scr hLL) ⟨by omega, by omega⟩) ?_
    refine go_callq PM267 PM248 (Q' := _) rfl rfl rfl rfl (sp_X6_look L xs sio (d + 38) dt hI  ((xs ((i + 1).toNat)).toInt) ⟨by omega, by omega⟩ ) ?_
    rintro _ _ ⟨rfl, h5⟩
    refine ⟨rfl, ?_⟩
    rcases h5 with ⟨rfl, h5⟩ | ⟨rfl, h5⟩ | ⟨rfl, h5⟩ | ⟨rfl, h5⟩ | ⟨rfl, h5⟩ | ⟨rfl, h5⟩ | ⟨rfl, h5⟩ | ⟨rfl, h5⟩ | ⟨rfl, h5⟩
    · skip
      refine go_toq PM267 (k := 2) (pc' := 1435) (L' := [some (.inr (.inr (some 3000))), some (.inr (.inr (some 0))), some (.inr (.inr (some 79))), some (.inl i)]) (st' := []) (w' := (SH, dt)) rfl ?_
      exact K dt hI hM hM2 hk0 hk1 hk2 hk3 hk4 hk5 hk6 hk7 hk8 hk9 hk10 hk11 hk12 hk13 hk14 hk15 (by first | exact hI | exact TPL_k hd0 (fun _ => rfl) (fun _ => rfl) (by omega) | (exfalso; omega)) (by first | exact hI | exact SCL_k hd1 hM (fun j _ => (fun _ => rfl) j) (fun j _ => (fun _ => rfl) j) (fun j _ _ => (fun _ => rfl) j) | (exfalso; omega)) (by first | exact hI | exact SCL_k hd2 hM2 (fun j _ => (fun _ => rfl) j) (fun j _ => (fun _ => rfl) j) (fun j _ _ => (fun _ => rfl) j) | (exfalso; omega)) (by first | exact hI | exact QRL_k hd3 hM (fun j _ => (fun _ => rfl) j) ((fun _ => rfl) 1) (fun j _ _ => (fun _ => rfl) j) | (exfalso; omega)) (by first | exact hI | exact QRL_k hd4 hM2 (fun j _ => (fun _ => rfl) j) ((fun _ => rfl) 1) (fun j _ _ => (fun _ => rfl) j) | (exfalso; omega)) (by first | exact hI | exact SDL_k hd5 hM (fun j _ => (fun _ => rfl) j) ((fun _ => rfl) 1) (fun j _ _ => (fun _ => rfl) j) (fun j _ _ => (fun _ => rfl) j) | (exfalso; omega)) (by first | exact hI | exact SDL_k hd6 hM2 (fun j _ => (fun _ => rfl) j) ((fun _ => rfl) 1) (fun j _ _ => (fun _ => rfl) j) (fun j _ _ => (fun _ => rfl) j) | (exfalso; omega)) (by first | exact hI | exact LWL_k hd7 hM (fun j _ => (fun _ => rfl) j) (fun j _ => (fun _ => rfl) j) (fun j _ => (fun _ => rfl) j) (fun j _ _ => (fun _ => rfl) j) | (exfalso; omega)) (by first | exact hI | exact LWL_k hd8 hM2 (fun j _ => (fun _ => rfl) j) (fun j _ => (fun _ => rfl) j) (fun j _ => (fun _ => rfl) j) (fun j _ _ => (fun _ => rfl) j) | (exfalso; omega)) (by first | exact hI | exact CHL_k hd9 hM (fun j _ => (fun _ => rfl) j) (by omega) (fun j _ _ => (fun _ => rfl) j) | (exfalso; omega)) (by first | exact hI | exact CHL_k hd10 hM2 (fun j _ => (fun _ => rfl) j) (by omega) (fun j _ _ => (fun _ => rfl) j) | (exfalso; omega)) (by first | exact hI | exact ANL_k hd11 hM (fun j _ => (fun _ => rfl) j) (by omega) (by omega) (by omega) (fun j _ _ => (fun _ => rfl) j) | (exfalso; omega)) (by first | exact hI | exact ANL_k hd12 hM2 (fun j _ => (fun _ => rfl) j) (by omega) (by omega) (by omega) (fun j _ _ => (fun _ => rfl) j) | (exfalso; omega))
    · skip
      refine go_toq PM267 (k := 2) (pc' := 1435) (L' := [some (.inr (.inr (some 3000))), some (.inr (.inr (some 0))), some (.inr (.inr (some 79))), some (.inl i)]) (st' := []) (w' := (SH, dt)) rfl ?_
      exact K dt hI hM hM2 hk0 hk1 hk2 hk3 hk4 hk5 hk6 hk7 hk8 hk9 hk10 hk11 hk12 hk13 hk14 hk15 (by first | exact hI | exact TPL_k hd0 (fun _ => rfl) (fun _ => rfl) (by omega) | (exfalso; omega)) (by first | exact hI | exact SCL_k hd1 hM (fun j _ => (fun _ => rfl) j) (fun j _ => (fun _ => rfl) j) (fun j _ _ => (fun _ => rfl) j) | (exfalso; omega)) (by first | exact hI | exact SCL_k hd2 hM2 (fun j _ => (fun _ => rfl) j) (fun j _ => (fun _ => rfl) j) (fun j _ _ => (fun _ => rfl) j) | (exfalso; omega)) (by first | exact hI | exact QRL_k hd3 hM (fun j _ => (fun _ => rfl) j) ((fun _ => rfl) 1) (fun j _ _ => (fun _ => rfl) j) | (exfalso; omega)) (by first | exact hI | exact QRL_k hd4 hM2 (fun j _ => (fun _ => rfl) j) ((fun _ => rfl) 1) (fun j _ _ => (fun _ => rfl) j) | (exfalso; omega)) (by first | exact hI | exact SDL_k hd5 hM (fun j _ => (fun _ => rfl) j) ((fun _ => rfl) 1) (fun j _ _ => (fun _ => rfl) j) (fun j _ _ => (fun _ => rfl) j) | (exfalso; omega)) (by first | exact hI | exact SDL_k hd6 hM2 (fun j _ => (fun _ => rfl) j) ((fun _ => rfl) 1) (fun j _ _ => (fun _ => rfl) j) (fun j _ _ => (fun _ => rfl) j) | (exfalso; omega)) (by first | exact hI | exact LWL_k hd7 hM (fun j _ => (fun _ => rfl) j) (fun j _ => (fun _ => rfl) j) (fun j _ => (fun _ => rfl) j) (fun j _ _ => (fun _ => rfl) j) | (exfalso; omega)) (by first | exact hI | exact LWL_k hd8 hM2 (fun j _ => (fun _ => rfl) j) (fun j _ => (fun _ => rfl) j) (fun j _ => (fun _ => rfl) j) (fun j _ _ => (fun _ => rfl) j) | (exfalso; omega)) (by first | exact hI | exact CHL_k hd9 hM (fun j _ => (fun _ => rfl) j) (by omega) (fun j _ _ => (fun _ => rfl) j) | (exfalso; omega)) (by first | exact hI | exact CHL_k hd10 hM2 (fun j _ => (fun _ => rfl) j) (by omega) (fun j _ _ => (fun _ => rfl) j) | (exfalso; omega)) (by first | exact hI | exact ANL_k hd11 hM (fun j _ => (fun _ => rfl) j) (by omega) (by omega) (by omega) (fun j _ _ => (fun _ => rfl) j) | (exfalso; omega)) (by first | exact hI | exact ANL_k hd12 hM2 (fun j _ => (fun _ => rfl) j) (by omega) (by omega) (by omega) (fun j _ _ => (fun _ => rfl) j) | (exfalso; omega))
    · skip
      refine go_toq PM267 (k := 2) (pc' := 1435) (L' := [some (.inr (.inr (some 3000))), some (.inr (.inr (some 0))), some (.inr (.inr (some 79))), some (.inl i)]) (st' := []) (w' := (SH, dt)) rfl ?_
      exact K dt hI hM hM2 hk0 hk1 hk2 hk3 hk4 hk5 hk6 hk7 hk8 hk9 hk10 hk11 hk12 hk13 hk14 hk15 (by first | exact hI | exact TPL_k hd0 (fun _ => rfl) (fun _ => rfl) (by omega) | (exfalso; omega)) (by first | exact hI | exact SCL_k hd1 hM (fun j _ => (fun _ => rfl) j) (fun j _ => (fun _ => rfl) j) (fun j _ _ => (fun _ => rfl) j) | (exfalso; omega)) (by first | exact hI | exact SCL_k hd2 hM2 (fun j _ => (fun _ => rfl) j) (fun j _ => (fun _ => rfl) j) (fun j _ _ => (fun _ => rfl) j) | (exfalso; omega)) (by first | exact hI | exact QRL_k hd3 hM (fun j _ => (fun _ => rfl) j) ((fun _ => rfl) 1) (fun j _ _ => (fun _ => rfl) j) | (exfalso; omega)) (by first | exact hI | exact QRL_k hd4 hM2 (fun j _ => (fun _ => rfl) j) ((fun _ => rfl) 1) (fun j _ _ => (fun _ => rfl) j) | (exfalso; omega)) (by first | exact hI | exact SDL_k hd5 hM (fun j _ => (fun _ => rfl) j) ((fun _ => rfl) 1) (fun j _ _ => (fun _ => rfl) j) (fun j _ _ => (fun _ => rfl) j) | (exfalso; omega)) (by first | exact hI | exact SDL_k hd6 hM2 (fun j _ => (fun _ => rfl) j) ((fun _ => rfl) 1) (fun j _ _ => (fun _ => rfl) j) (fun j _ _ => (fun _ => rfl) j) | (exfalso; omega)) (by first | exact hI | exact LWL_k hd7 hM (fun j _ => (fun _ => rfl) j) (fun j _ => (fun _ => rfl) j) (fun j _ => (fun _ => rfl) j) (fun j _ _ => (fun _ => rfl) j) | (exfalso; omega)) (by first | exact hI | exact LWL_k hd8 hM2 (fun j _ => (fun _ => rfl) j) (fun j _ => (fun _ => rfl) j) (fun j _ => (fun _ => rfl) j) (fun j _ _ => (fun _ => rfl) j) | (exfalso; omega)) (by first | exact hI | exact CHL_k hd9 hM (fun j _ => (fun _ => rfl) j) (by omega) (fun j _ _ => (fun _ => rfl) j) | (exfalso; omega)) (by first | exact hI | exact CHL_k hd10 hM2 (fun j _ => (fun _ => rfl) j) (by omega) (fun j _ _ => (fun _ => rfl) j) | (exfalso; omega)) (by first | exact hI | exact ANL_k hd11 hM (fun j _ => (fun _ => rfl) j) (by omega) (by omega) (by omega) (fun j _ _ => (fun _ => rfl) j) | (exfalso; omega)) (by first | exact hI | exact ANL_k hd12 hM2 (fun j _ => (fun _ => rfl) j) (by omega) (by omega) (by omega) (fun j _ _ => (fun _ => rfl) j) | (exfalso; omega))
    · skip
      refine go_toq PM267 (k := 2) (pc' := 1435) (L' := [some (.inr (.inr (some 3000))), some (.inr (.inr (some 0))), some (.inr (.inr (some 79))), some (.inl i)]) (st' := []) (w' := (SH, dt)) rfl ?_
      exact K dt hI hM hM2 hk0 hk1 hk2 hk3 hk4 hk5 hk6 hk7 hk8 hk9 hk10 hk11 hk12 hk13 hk14 hk15 (by first | exact hI | exact TPL_k hd0 (fun _ => rfl) (fun _ => rfl) (by omega) | (exfalso; omega)) (by first | exact hI | exact SCL_k hd1 hM (fun j _ => (fun _ => rfl) j) (fun j _ => (fun _ => rfl) j) (fun j _ _ => (fun _ => rfl) j) | (exfalso; omega)) (by first | exact hI | exact SCL_k hd2 hM2 (fun j _ => (fun _ => rfl) j) (fun j _ => (fun _ => rfl) j) (fun j _ _ => (fun _ => rfl) j) | (exfalso; omega)) (by first | exact hI | exact QRL_k hd3 hM (fun j _ => (fun _ => rfl) j) ((fun _ => rfl) 1) (fun j _ _ => (fun _ => rfl) j) | (exfalso; omega)) (by first | exact hI | exact QRL_k hd4 hM2 (fun j _ => (fun _ => rfl) j) ((fun _ => rfl) 1) (fun j _ _ => (fun _ => rfl) j) | (exfalso; omega)) (by first | exact hI | exact SDL_k hd5 hM (fun j _ => (fun _ => rfl) j) ((fun _ => rfl) 1) (fun j _ _ => (fun _ => rfl) j) (fun j _ _ => (fun _ => rfl) j) | (exfalso; omega)) (by first | exact hI | exact SDL_k hd6 hM2 (fun j _ => (fun _ => rfl) j) ((fun _ => rfl) 1) (fun j _ _ => (fun _ => rfl) j) (fun j _ _ => (fun _ => rfl) j) | (exfalso; omega)) (by first | exact hI | exact LWL_k hd7 hM (fun j _ => (fun _ => rfl) j) (fun j _ => (fun _ => rfl) j) (fun j _ => (fun _ => rfl) j) (fun j _ _ => (fun _ => rfl) j) | (exfalso; omega)) (by first | exact hI | exact LWL_k hd8 hM2 (fun j _ => (fun _ => rfl) j) (fun j _ => (fun _ => rfl) j) (fun j _ => (fun _ => rfl) j) (fun j _ _ => (fun _ => rfl) j) | (exfalso; omega)) (by first | exact hI | exact CHL_k hd9 hM (fun j _ => (fun _ => rfl) j) (by omega) (fun j _ _ => (fun _ => rfl) j) | (exfalso; omega)) (by first | exact hI | exact CHL_k hd10 hM2 (fun j _ => (fun _ => rfl) j) (by omega) (fun j _ _ => (fun _ => rfl) j) | (exfalso; omega)) (by first | exact hI | exact ANL_k hd11 hM (fun j _ => (fun _ => rfl) j) (by omega) (by omega) (by omega) (fun j _ _ => (fun _ => rfl) j) | (exfalso; omega)) (by first | exact hI | exact ANL_k hd12 hM2 (fun j _ => (fun _ => rfl) j) (by omega) (by omega) (by omega) (fun j _ _ => (fun _ => rfl) j) | (exfalso; omega))
    · skip
      refine go_toq PM267 (k := 2) (pc' := 1435) (L' := [some (.inr (.inr (some 3000))), some (.inr (.inr (some 0))), some (.inr (.inr (some 79))), some (.inl i)]) (st' := []) (w' := (SH, dt)) rfl ?_
      exact K dt hI hM hM2 hk0 hk1 hk2 hk3 hk4 hk5 hk6 hk7 hk8 hk9 hk10 hk11 hk12 hk13 hk14 hk15 (by first | exact hI | exact TPL_k hd0 (fun _ => rfl) (fun _ => rfl) (by omega) | (exfalso; omega)) (by first | exact hI | exact SCL_k hd1 hM (fun j _ => (fun _ => rfl) j) (fun j _ => (fun _ => rfl) j) (fun j _ _ => (fun _ => rfl) j) | (exfalso; omega)) (by first | exact hI | exact SCL_k hd2 hM2 (fun j _ => (fun _ => rfl) j) (fun j _ => (fun _ => rfl) j) (fun j _ _ => (fun _ => rfl) j) | (exfalso; omega)) (by first | exact hI | exact QRL_k hd3 hM (fun j _ => (fun _ => rfl) j) ((fun _ => rfl) 1) (fun j _ _ => (fun _ => rfl) j) | (exfalso; omega)) (by first | exact hI | exact QRL_k hd4 hM2 (fun j _ => (fun _ => rfl) j) ((fun _ => rfl) 1) (fun j _ _ => (fun _ => rfl) j) | (exfalso; omega)) (by first | exact hI | exact SDL_k hd5 hM (fun j _ => (fun _ => rfl) j) ((fun _ => rfl) 1) (fun j _ _ => (fun _ => rfl) j) (fun j _ _ => (fun _ => rfl) j) | (exfalso; omega)) (by first | exact hI | exact SDL_k hd6 hM2 (fun j _ => (fun _ => rfl) j) ((fun _ => rfl) 1) (fun j _ _ => (fun _ => rfl) j) (fun j _ _ => (fun _ => rfl) j) | (exfalso; omega)) (by first | exact hI | exact LWL_k hd7 hM (fun j _ => (fun _ => rfl) j) (fun j _ => (fun _ => rfl) j) (fun j _ => (fun _ => rfl) j) (fun j _ _ => (fun _ => rfl) j) | (exfalso; omega)) (by first | exact hI | exact LWL_k hd8 hM2 (fun j _ => (fun _ => rfl) j) (fun j _ => (fun _ => rfl) j) (fun j _ => (fun _ => rfl) j) (fun j _ _ => (fun _ => rfl) j) | (exfalso; omega)) (by first | exact hI | exact CHL_k hd9 hM (fun j _ => (fun _ => rfl) j) (by omega) (fun j _ _ => (fun _ => rfl) j) | (exfalso; omega)) (by first | exact hI | exact CHL_k hd10 hM2 (fun j _ => (fun _ => rfl) j) (by omega) (fun j _ _ => (fun _ => rfl) j) | (exfalso; omega)) (by first | exact hI | exact ANL_k hd11 hM (fun j _ => (fun _ => rfl) j) (by omega) (by omega) (by omega) (fun j _ _ => (fun _ => rfl) j) | (exfalso; omega)) (by first | exact hI | exact ANL_k hd12 hM2 (fun j _ => (fun _ => rfl) j) (by omega) (by omega) (by omega) (fun j _ _ => (fun _ => rfl) j) | (exfalso; omega))
    · skip
      refine go_toq PM267 (k := 2) (pc' := 1435) (L' := [some (.inr (.inr (some 3000))), some (.inr (.inr (some 0))), some (.inr (.inr (some 79))), some (.inl i)]) (st' := []) (w' := (SH, dt)) rfl ?_
      exact K dt hI hM hM2 hk0 hk1 hk2 hk3 hk4 hk5 hk6 hk7 hk8 hk9 hk10 hk11 hk12 hk13 hk14 hk15 (by first | exact hI | exact TPL_k hd0 (fun _ => rfl) (fun _ => rfl) (by omega) | (exfalso; omega)) (by first | exact hI | exact SCL_k hd1 hM (fun j _ => (fun _ => rfl) j) (fun j _ => (fun _ => rfl) j) (fun j _ _ => (fun _ => rfl) j) | (exfalso; omega)) (by first | exact hI | exact SCL_k hd2 hM2 (fun j _ => (fun _ => rfl) j) (fun j _ => (fun _ => rfl) j) (fun j _ _ => (fun _ => rfl) j) | (exfalso; omega)) (by first | exact hI | exact QRL_k hd3 hM (fun j _ => (fun _ => rfl) j) ((fun _ => rfl) 1) (fun j _ _ => (fun _ => rfl) j) | (exfalso; omega)) (by first | exact hI | exact QRL_k hd4 hM2 (fun j _ => (fun _ => rfl) j) ((fun _ => rfl) 1) (fun j _ _ => (fun _ => rfl) j) | (exfalso; omega)) (by first | exact hI | exact SDL_k hd5 hM (fun j _ => (fun _ => rfl) j) ((fun _ => rfl) 1) (fun j _ _ => (fun _ => rfl) j) (fun j _ _ => (fun _ => rfl) j) | (exfalso; omega)) (by first | exact hI | exact SDL_k hd6 hM2 (fun j _ => (fun _ => rfl) j) ((fun _ => rfl) 1) (fun j _ _ => (fun _ => rfl) j) (fun j _ _ => (fun _ => rfl) j) | (exfalso; omega)) (by first | exact hI | exact LWL_k hd7 hM (fun j _ => (fun _ => rfl) j) (fun j _ => (fun _ => rfl) j) (fun j _ => (fun _ => rfl) j) (fun j _ _ => (fun _ => rfl) j) | (exfalso; omega)) (by first | exact hI | exact LWL_k hd8 hM2 (fun j _ => (fun _ => rfl) j) (fun j _ => (fun _ => rfl) j) (fun j _ => (fun _ => rfl) j) (fun j _ _ => (fun _ => rfl) j) | (exfalso; omega)) (by first | exact hI | exact CHL_k hd9 hM (fun j _ => (fun _ => rfl) j) (by omega) (fun j _ _ => (fun _ => rfl) j) | (exfalso; omega)) (by first | exact hI | exact CHL_k hd10 hM2 (fun j _ => (fun _ => rfl) j) (by omega) (fun j _ _ => (fun _ => rfl) j) | (exfalso; omega)) (by first | exact hI | exact ANL_k hd11 hM (fun j _ => (fun _ => rfl) j) (by omega) (by omega) (by omega) (fun j _ _ => (fun _ => rfl) j) | (exfalso; omega)) (by first | exact hI | exact ANL_k hd12 hM2 (fun j _ => (fun _ => rfl) j) (by omega) (by omega) (by omega) (fun j _ _ => (fun _ => rfl) j) | (exfalso; omega))
    · skip
      obtain ⟨h5_0, h5_1⟩ := h5
      replace h5_1 := hid h5_1
      refine go_toq PM267 (k := 2) (pc' := 1435) (L' := [some (.inr (.inr (some 3000))), some (.inr (.inr (some 0))), some (.inr (.inr (some 79))), some (.inl i)]) (st' := []) (w' := (SH, dt)) rfl ?_
      exact K dt hI hM hM2 hk0 hk1 hk2 hk3 hk4 hk5 hk6 hk7 hk8 hk9 hk10 hk11 hk12 hk13 hk14 hk15 (by first | exact hI | exact TPL_k hd0 (fun _ => rfl) (fun _ => rfl) (by (first | omega | (have z0_ := unhid h5_1; omega))) | (exfalso; (first | omega | (have z0_ := unhid h5_1; omega)))) (by first | exact hI | exact SCL_k hd1 hM (fun j _ => (fun _ => rfl) j) (fun j _ => (fun _ => rfl) j) (fun j _ _ => (fun _ => rfl) j) | (exfalso; (first | omega | (have z0_ := unhid h5_1; omega)))) (by first | exact hI | exact SCL_k hd2 hM2 (fun j _ => (fun _ => rfl) j) (fun j _ => (fun _ => rfl) j) (fun j _ _ => (fun _ => rfl) j) | (exfalso; (first | omega | (have z0_ := unhid h5_1; omega)))) (by first | exact hI | exact QRL_k hd3 hM (fun j _ => (fun _ => rfl) j) ((fun _ => rfl) 1) (fun j _ _ => (fun _ => rfl) j) | (exfalso; (first | omega | (have z0_ := unhid h5_1; omega)))) (by first | exact hI | exact QRL_k hd4 hM2 (fun j _ => (fun _ => rfl) j) ((fun _ => rfl) 1) (fun j _ _ => (fun _ => rfl) j) | (exfalso; (first | omega | (have z0_ := unhid h5_1; omega)))) (by first | exact hI | exact SDL_k hd5 hM (fun j _ => (fun _ => rfl) j) ((fun _ => rfl) 1) (fun j _ _ => (fun _ => rfl) j) (fun j _ _ => (fun _ => rfl) j) | (exfalso; (first | omega | (have z0_ := unhid h5_1; omega)))) (by first | exact hI | exact SDL_k hd6 hM2 (fun j _ => (fun _ => rfl) j) ((fun _ => rfl) 1) (fun j _ _ => (fun _ => rfl) j) (fun j _ _ => (fun _ => rfl) j) | (exfalso; (first | omega | (have z0_ := unhid h5_1; omega)))) (by first | exact hI | exact LWL_k hd7 hM (fun j _ => (fun _ => rfl) j) (fun j _ => (fun _ => rfl) j) (fun j _ => (fun _ => rfl) j) (fun j _ _ => (fun _ => rfl) j) | (exfalso; (first | omega | (have z0_ := unhid h5_1; omega)))) (by first | exact hI | exact LWL_k hd8 hM2 (fun j _ => (fun _ => rfl) j) (fun j _ => (fun _ => rfl) j) (fun j _ => (fun _ => rfl) j) (fun j _ _ => (fun _ => rfl) j) | (exfalso; (first | omega | (have z0_ := unhid h5_1; omega)))) (by first | exact hI | exact CHL_k hd9 hM (fun j _ => (fun _ => rfl) j) (by (first | omega | (have z0_ := unhid h5_1; omega))) (fun j _ _ => (fun _ => rfl) j) | (exfalso; (first | omega | (have z0_ := unhid h5_1; omega)))) (by first | exact hI | exact CHL_k hd10 hM2 (fun j _ => (fun _ => rfl) j) (by (first | omega | (have z0_ := unhid h5_1; omega))) (fun j _ _ => (fun _ => rfl) j) | (exfalso; (first | omega | (have z0_ := unhid h5_1; omega)))) (by first | exact hI | exact ANL_k hd11 hM (fun j _ => (fun _ => rfl) j) (by (first | omega | (have z0_ := unhid h5_1; omega))) (by (first | omega | (have z0_ := unhid h5_1; omega))) (by (first | omega | (have z0_ := unhid h5_1; omega))) (fun j _ _ => (fun _ => rfl) j) | (exfalso; (first | omega | (have z0_ := unhid h5_1; omega)))) (by first | exact hI | exact ANL_k hd12 hM2 (fun j _ => (fun _ => rfl) j) (by (first | omega | (have z0_ := unhid h5_1; omega))) (by (first | omega | (have z0_ := unhid h5_1; omega))) (by (first | omega | (have z0_ := unhid h5_1; omega))) (fun j _ _ => (fun _ => rfl) j) | (exfalso; (first | omega | (have z0_ := unhid h5_1; omega))))
    · skip
      obtain ⟨h5_0, h5_1⟩ := h5
      refine go_toq PM267 (k := 2) (pc' := 1435) (L' := [some (.inr (.inr (some 3000))), some (.inr (.inr (some 0))), some (.inr (.inr (some 79))), some (.inl i)]) (st' := []) (w' := (SH, dt)) rfl ?_
      exact K dt hI hM hM2 hk0 hk1 hk2 hk3 hk4 hk5 hk6 hk7 hk8 hk9 hk10 hk11 hk12 hk13 hk14 hk15 (by first | exact hI | exact TPL_k hd0 (fun _ => rfl) (fun _ => rfl) (by omega) | (exfalso; omega)) (by first | exact hI | exact SCL_k hd1 hM (fun j _ => (fun _ => rfl) j) (fun j _ => (fun _ => rfl) j) (fun j _ _ => (fun _ => rfl) j) | (exfalso; omega)) (by first | exact hI | exact SCL_k hd2 hM2 (fun j _ => (fun _ => rfl) j) (fun j _ => (fun _ => rfl) j) (fun j _ _ => (fun _ => rfl) j) | (exfalso; omega)) (by first | exact hI | exact QRL_k hd3 hM (fun j _ => (fun _ => rfl) j) ((fun _ => rfl) 1) (fun j _ _ => (fun _ => rfl) j) | (exfalso; omega)) (by first | exact hI | exact QRL_k hd4 hM2 (fun j _ => (fun _ => rfl) j) ((fun _ => rfl) 1) (fun j _ _ => (fun _ => rfl) j) | (exfalso; omega)) (by first | exact hI | exact SDL_k hd5 hM (fun j _ => (fun _ => rfl) j) ((fun _ => rfl) 1) (fun j _ _ => (fun _ => rfl) j) (fun j _ _ => (fun _ => rfl) j) | (exfalso; omega)) (by first | exact hI | exact SDL_k hd6 hM2 (fun j _ => (fun _ => rfl) j) ((fun _ => rfl) 1) (fun j _ _ => (fun _ => rfl) j) (fun j _ _ => (fun _ => rfl) j) | (exfalso; omega)) (by first | exact hI | exact LWL_k hd7 hM (fun j _ => (fun _ => rfl) j) (fun j _ => (fun _ => rfl) j) (fun j _ => (fun _ => rfl) j) (fun j _ _ => (fun _ => rfl) j) | (exfalso; omega)) (by first | exact hI | exact LWL_k hd8 hM2 (fun j _ => (fun _ => rfl) j) (fun j _ => (fun _ => rfl) j) (fun j _ => (fun _ => rfl) j) (fun j _ _ => (fun _ => rfl) j) | (exfalso; omega)) (by first | exact hI | exact CHL_k hd9 hM (fun j _ => (fun _ => rfl) j) (by omega) (fun j _ _ => (fun _ => rfl) j) | (exfalso; omega)) (by first | exact hI | exact CHL_k hd10 hM2 (fun j _ => (fun _ => rfl) j) (by omega) (fun j _ _ => (fun _ => rfl) j) | (exfalso; omega)) (by first | exact hI | exact ANL_k hd11 hM (fun j _ => (fun _ => rfl) j) (by omega) (by omega) (by omega) (fun j _ _ => (fun _ => rfl) j) | (exfalso; omega)) (by first | exact hI | exact ANL_k hd12 hM2 (fun j _ => (fun _ => rfl) j) (by omega) (by omega) (by omega) (fun j _ _ => (fun _ => rfl) j) | (exfalso; omega))
    · skip
      refine go_toq PM267 (k := 2) (pc' := 1435) (L' := [some (.inr (.inr (some 3000))), some (.inr (.inr (some 0))), some (.inr (.inr (some 79))), some (.inl i)]) (st' := []) (w' := (SH, dt)) rfl ?_
      exact K dt hI hM hM2 hk0 hk1 hk2 hk3 hk4 hk5 hk6 hk7 hk8 hk9 hk10 hk11 hk12 hk13 hk14 hk15 (by first | exact hI | exact TPL_k hd0 (fun _ => rfl) (fun _ => rfl) (by omega) | (exfalso; omega)) (by first | exact hI | exact SCL_k hd1 hM (fun j _ => (fun _ => rfl) j) (fun j _ => (fun _ => rfl) j) (fun j _ _ => (fun _ => rfl) j) | (exfalso; omega)) (by first | exact hI | exact SCL_k hd2 hM2 (fun j _ => (fun _ => rfl) j) (fun j _ => (fun _ => rfl) j) (fun j _ _ => (fun _ => rfl) j) | (exfalso; omega)) (by first | exact hI | exact QRL_k hd3 hM (fun j _ => (fun _ => rfl) j) ((fun _ => rfl) 1) (fun j _ _ => (fun _ => rfl) j) | (exfalso; omega)) (by first | exact hI | exact QRL_k hd4 hM2 (fun j _ => (fun _ => rfl) j) ((fun _ => rfl) 1) (fun j _ _ => (fun _ => rfl) j) | (exfalso; omega)) (by first | exact hI | exact SDL_k hd5 hM (fun j _ => (fun _ => rfl) j) ((fun _ => rfl) 1) (fun j _ _ => (fun _ => rfl) j) (fun j _ _ => (fun _ => rfl) j) | (exfalso; omega)) (by first | exact hI | exact SDL_k hd6 hM2 (fun j _ => (fun _ => rfl) j) ((fun _ => rfl) 1) (fun j _ _ => (fun _ => rfl) j) (fun j _ _ => (fun _ => rfl) j) | (exfalso; omega)) (by first | exact hI | exact LWL_k hd7 hM (fun j _ => (fun _ => rfl) j) (fun j _ => (fun _ => rfl) j) (fun j _ => (fun _ => rfl) j) (fun j _ _ => (fun _ => rfl) j) | (exfalso; omega)) (by first | exact hI | exact LWL_k hd8 hM2 (fun j _ => (fun _ => rfl) j) (fun j _ => (fun _ => rfl) j) (fun j _ => (fun _ => rfl) j) (fun j _ _ => (fun _ => rfl) j) | (exfalso; omega)) (by first | exact hI | exact CHL_k hd9 hM (fun j _ => (fun _ => rfl) j) (by omega) (fun j _ _ => (fun _ => rfl) j) | (exfalso; omega)) (by first | exact hI | exact CHL_k hd10 hM2 (fun j _ => (fun _ => rfl) j) (by omega) (fun j _ _ => (fun _ => rfl) j) | (exfalso; omega)) (by first | exact hI | exact ANL_k hd11 hM (fun j _ => (fun _ => rfl) j) (by omega) (by omega) (by omega) (fun j _ _ => (fun _ => rfl) j) | (exfalso; omega)) (by first | exact hI | exact ANL_k hd12 hM2 (fun j _ => (fun _ => rfl) j) (by omega) (by omega) (by omega) (fun j _ _ => (fun _ => rfl) j) | (exfalso; omega))
  · skip
    refine go_toq PM267 (k := 6) (pc' := 1427) (L' := [some (.inr (.inr (some 3000))), some (.inr (.inr (some 0))), some (.inr (.inr (some 79))), some (.inl i)]) (st' := [.inl (i + 1), .inr (.inr (some 3000)), .inr (.inr (some 79))]) (w' := (SH, dt)) rfl ?_
    refine go_smpq PM267 (L' := [some (.inr (.inr (some 3000))), some (.inr (.inr (some 0))), some (.inr (.inr (some 79))), some (.inl i)]) (st' := [.inl ((xs ((i + 1).toNat)).toInt), .inr (.inr (some 79))]) (w' := (SH, dt)) rfl rfl (s_iald (n := L) (f := fun j => (xs j).toInt) (am_scr hLL) ⟨by omega, by omega⟩) ?_
    refine go_callq PM267 PM248 (Q' := _) rfl rfl rfl rfl (sp_X6_look L xs sio (d + 38) dt hI  ((xs ((i + 1).toNat)).toInt) ⟨by omega, by omega⟩ ) ?_
    rintro _ _ ⟨rfl, h6⟩
    refine ⟨rfl, ?_⟩
    rcases h6 with ⟨rfl, h6⟩ | ⟨rfl, h6⟩ | ⟨rfl, h6⟩ | ⟨rfl, h6⟩ | ⟨rfl, h6⟩ | ⟨rfl, h6⟩ | ⟨rfl, h6⟩ | ⟨rfl, h6⟩ | ⟨rfl, h6⟩
    · skip
      refine go_toq PM267 (k := 2) (pc' := 1435) (L' := [some (.inr (.inr (some 3000))), some (.inr (.inr (some 0))), some (.inr (.inr (some 79))), some (.inl i)]) (st' := []) (w' := (SH, dt)) rfl ?_
      exact K dt hI hM hM2 hk0 hk1 hk2 hk3 hk4 hk5 hk6 hk7 hk8 hk9 hk10 hk11 hk12 hk13 hk14 hk15 (by first | exact hI | exact TPL_k hd0 (fun _ => rfl) (fun _ => rfl) (by omega) | (exfalso; omega)) (by first | exact hI | exact SCL_k hd1 hM (fun j _ => (fun _ => rfl) j) (fun j _ => (fun _ => rfl) j) (fun j _ _ => (fun _ => rfl) j) | (exfalso; omega)) (by first | exact hI | exact SCL_k hd2 hM2 (fun j _ => (fun _ => rfl) j) (fun j _ => (fun _ => rfl) j) (fun j _ _ => (fun _ => rfl) j) | (exfalso; omega)) (by first | exact hI | exact QRL_k hd3 hM (fun j _ => (fun _ => rfl) j) ((fun _ => rfl) 1) (fun j _ _ => (fun _ => rfl) j) | (exfalso; omega)) (by first | exact hI | exact QRL_k hd4 hM2 (fun j _ => (fun _ => rfl) j) ((fun _ => rfl) 1) (fun j _ _ => (fun _ => rfl) j) | (exfalso; omega)) (by first | exact hI | exact SDL_k hd5 hM (fun j _ => (fun _ => rfl) j) ((fun _ => rfl) 1) (fun j _ _ => (fun _ => rfl) j) (fun j _ _ => (fun _ => rfl) j) | (exfalso; omega)) (by first | exact hI | exact SDL_k hd6 hM2 (fun j _ => (fun _ => rfl) j) ((fun _ => rfl) 1) (fun j _ _ => (fun _ => rfl) j) (fun j _ _ => (fun _ => rfl) j) | (exfalso; omega)) (by first | exact hI | exact LWL_k hd7 hM (fun j _ => (fun _ => rfl) j) (fun j _ => (fun _ => rfl) j) (fun j _ => (fun _ => rfl) j) (fun j _ _ => (fun _ => rfl) j) | (exfalso; omega)) (by first | exact hI | exact LWL_k hd8 hM2 (fun j _ => (fun _ => rfl) j) (fun j _ => (fun _ => rfl) j) (fun j _ => (fun _ => rfl) j) (fun j _ _ => (fun _ => rfl) j) | (exfalso; omega)) (by first | exact hI | exact CHL_k hd9 hM (fun j _ => (fun _ => rfl) j) (by omega) (fun j _ _ => (fun _ => rfl) j) | (exfalso; omega)) (by first | exact hI | exact CHL_k hd10 hM2 (fun j _ => (fun _ => rfl) j) (by omega) (fun j _ _ => (fun _ => rfl) j) | (exfalso; omega)) (by first | exact hI | exact ANL_k hd11 hM (fun j _ => (fun _ => rfl) j) (by omega) (by omega) (by omega) (fun j _ _ => (fun _ => rfl) j) | (exfalso; omega)) (by first | exact hI | exact ANL_k hd12 hM2 (fun j _ => (fun _ => rfl) j) (by omega) (by omega) (by omega) (fun j _ _ => (fun _ => rfl) j) | (exfalso; omega))
    · skip
      refine go_toq PM267 (k := 2) (pc' := 1435) (L' := [some (.inr (.inr (some 3000))), some (.inr (.inr (some 0))), some (.inr (.inr (some 79))), some (.inl i)]) (st' := []) (w' := (SH, dt)) rfl ?_
      exact K dt hI hM hM2 hk0 hk1 hk2 hk3 hk4 hk5 hk6 hk7 hk8 hk9 hk10 hk11 hk12 hk13 hk14 hk15 (by first | exact hI | exact TPL_k hd0 (fun _ => rfl) (fun _ => rfl) (by omega) | (exfalso; omega)) (by first | exact hI | exact SCL_k hd1 hM (fun j _ => (fun _ => rfl) j) (fun j _ => (fun _ => rfl) j) (fun j _ _ => (fun _ => rfl) j) | (exfalso; omega)) (by first | exact hI | exact SCL_k hd2 hM2 (fun j _ => (fun _ => rfl) j) (fun j _ => (fun _ => rfl) j) (fun j _ _ => (fun _ => rfl) j) | (exfalso; omega)) (by first | exact hI | exact QRL_k hd3 hM (fun j _ => (fun _ => rfl) j) ((fun _ => rfl) 1) (fun j _ _ => (fun _ => rfl) j) | (exfalso; omega)) (by first | exact hI | exact QRL_k hd4 hM2 (fun j _ => (fun _ => rfl) j) ((fun _ => rfl) 1) (fun j _ _ => (fun _ => rfl) j) | (exfalso; omega)) (by first | exact hI | exact SDL_k hd5 hM (fun j _ => (fun _ => rfl) j) ((fun _ => rfl) 1) (fun j _ _ => (fun _ => rfl) j) (fun j _ _ => (fun _ => rfl) j) | (exfalso; omega)) (by first | exact hI | exact SDL_k hd6 hM2 (fun j _ => (fun _ => rfl) j) ((fun _ => rfl) 1) (fun j _ _ => (fun _ => rfl) j) (fun j _ _ => (fun _ => rfl) j) | (exfalso; omega)) (by first | exact hI | exact LWL_k hd7 hM (fun j _ => (fun _ => rfl) j) (fun j _ => (fun _ => rfl) j) (fun j _ => (fun _ => rfl) j) (fun j _ _ => (fun _ => rfl) j) | (exfalso; omega)) (by first | exact hI | exact LWL_k hd8 hM2 (fun j _ => (fun _ => rfl) j) (fun j _ => (fun _ => rfl) j) (fun j _ => (fun _ => rfl) j) (fun j _ _ => (fun _ => rfl) j) | (exfalso; omega)) (by first | exact hI | exact CHL_k hd9 hM (fun j _ => (fun _ => rfl) j) (by omega) (fun j _ _ => (fun _ => rfl) j) | (exfalso; omega)) (by first | exact hI | exact CHL_k hd10 hM2 (fun j _ => (fun _ => rfl) j) (by omega) (fun j _ _ => (fun _ => rfl) j) | (exfalso; omega)) (by first | exact hI | exact ANL_k hd11 hM (fun j _ => (fun _ => rfl) j) (by omega) (by omega) (by omega) (fun j _ _ => (fun _ => rfl) j) | (exfalso; omega)) (by first | exact hI | exact ANL_k hd12 hM2 (fun j _ => (fun _ => rfl) j) (by omega) (by omega) (by omega) (fun j _ _ => (fun _ => rfl) j) | (exfalso; omega))
    · skip
      refine go_toq PM267 (k := 2) (pc' := 1435) (L' := [some (.inr (.inr (some 3000))), some (.inr (.inr (some 0))), some (.inr (.inr (some 79))), some (.inl i)]) (st' := []) (w' := (SH, dt)) rfl ?_
      exact K dt hI hM hM2 hk0 hk1 hk2 hk3 hk4 hk5 hk6 hk7 hk8 hk9 hk10 hk11 hk12 hk13 hk14 hk15 (by first | exact hI | exact TPL_k hd0 (fun _ => rfl) (fun _ => rfl) (by omega) | (exfalso; omega)) (by first | exact hI | exact SCL_k hd1 hM (fun j _ => (fun _ => rfl) j) (fun j _ => (fun _ => rfl) j) (fun j _ _ => (fun _ => rfl) j) | (exfalso; omega)) (by first | exact hI | exact SCL_k hd2 hM2 (fun j _ => (fun _ => rfl) j) (fun j _ => (fun _ => rfl) j) (fun j _ _ => (fun _ => rfl) j) | (exfalso; omega)) (by first | exact hI | exact QRL_k hd3 hM (fun j _ => (fun _ => rfl) j) ((fun _ => rfl) 1) (fun j _ _ => (fun _ => rfl) j) | (exfalso; omega)) (by first | exact hI | exact QRL_k hd4 hM2 (fun j _ => (fun _ => rfl) j) ((fun _ => rfl) 1) (fun j _ _ => (fun _ => rfl) j) | (exfalso; omega)) (by first | exact hI | exact SDL_k hd5 hM (fun j _ => (fun _ => rfl) j) ((fun _ => rfl) 1) (fun j _ _ => (fun _ => rfl) j) (fun j _ _ => (fun _ => rfl) j) | (exfalso; omega)) (by first | exact hI | exact SDL_k hd6 hM2 (fun j _ => (fun _ => rfl) j) ((fun _ => rfl) 1) (fun j _ _ => (fun _ => rfl) j) (fun j _ _ => (fun _ => rfl) j) | (exfalso; omega)) (by first | exact hI | exact LWL_k hd7 hM (fun j _ => (fun _ => rfl) j) (fun j _ => (fun _ => rfl) j) (fun j _ => (fun _ => rfl) j) (fun j _ _ => (fun _ => rfl) j) | (exfalso; omega)) (by first | exact hI | exact LWL_k hd8 hM2 (fun j _ => (fun _ => rfl) j) (fun j _ => (fun _ => rfl) j) (fun j _ => (fun _ => rfl) j) (fun j _ _ => (fun _ => rfl) j) | (exfalso; omega)) (by first | exact hI | exact CHL_k hd9 hM (fun j _ => (fun _ => rfl) j) (by omega) (fun j _ _ => (fun _ => rfl) j) | (exfalso; omega)) (by first | exact hI | exact CHL_k hd10 hM2 (fun j _ => (fun _ => rfl) j) (by omega) (fun j _ _ => (fun _ => rfl) j) | (exfalso; omega)) (by first | exact hI | exact ANL_k hd11 hM (fun j _ => (fun _ => rfl) j) (by omega) (by omega) (by omega) (fun j _ _ => (fun _ => rfl) j) | (exfalso; omega)) (by first | exact hI | exact ANL_k hd12 hM2 (fun j _ => (fun _ => rfl) j) (by omega) (by omega) (by omega) (fun j _ _ => (fun _ => rfl) j) | (exfalso; omega))
    · skip
      refine go_toq PM267 (k := 2) (pc' := 1435) (L' := [some (.inr (.inr (some 3000))), some (.inr (.inr (some 0))), some (.inr (.inr (some 79))), some (.inl i)]) (st' := []) (w' := (SH, dt)) rfl ?_
      exact K dt hI hM hM2 hk0 hk1 hk2 hk3 hk4 hk5 hk6 hk7 hk8 hk9 hk10 hk11 hk12 hk13 hk14 hk15 (by first | exact hI | exact TPL_k hd0 (fun _ => rfl) (fun _ => rfl) (by omega) | (exfalso; omega)) (by first | exact hI | exact SCL_k hd1 hM (fun j _ => (fun _ => rfl) j) (fun j _ => (fun _ => rfl) j) (fun j _ _ => (fun _ => rfl) j) | (exfalso; omega)) (by first | exact hI | exact SCL_k hd2 hM2 (fun j _ => (fun _ => rfl) j) (fun j _ => (fun _ => rfl) j) (fun j _ _ => (fun _ => rfl) j) | (exfalso; omega)) (by first | exact hI | exact QRL_k hd3 hM (fun j _ => (fun _ => rfl) j) ((fun _ => rfl) 1) (fun j _ _ => (fun _ => rfl) j) | (exfalso; omega)) (by first | exact hI | exact QRL_k hd4 hM2 (fun j _ => (fun _ => rfl) j) ((fun _ => rfl) 1) (fun j _ _ => (fun _ => rfl) j) | (exfalso; omega)) (by first | exact hI | exact SDL_k hd5 hM (fun j _ => (fun _ => rfl) j) ((fun _ => rfl) 1) (fun j _ _ => (fun _ => rfl) j) (fun j _ _ => (fun _ => rfl) j) | (exfalso; omega)) (by first | exact hI | exact SDL_k hd6 hM2 (fun j _ => (fun _ => rfl) j) ((fun _ => rfl) 1) (fun j _ _ => (fun _ => rfl) j) (fun j _ _ => (fun _ => rfl) j) | (exfalso; omega)) (by first | exact hI | exact LWL_k hd7 hM (fun j _ => (fun _ => rfl) j) (fun j _ => (fun _ => rfl) j) (fun j _ => (fun _ => rfl) j) (fun j _ _ => (fun _ => rfl) j) | (exfalso; omega)) (by first | exact hI | exact LWL_k hd8 hM2 (fun j _ => (fun _ => rfl) j) (fun j _ => (fun _ => rfl) j) (fun j _ => (fun _ => rfl) j) (fun j _ _ => (fun _ => rfl) j) | (exfalso; omega)) (by first | exact hI | exact CHL_k hd9 hM (fun j _ => (fun _ => rfl) j) (by omega) (fun j _ _ => (fun _ => rfl) j) | (exfalso; omega)) (by first | exact hI | exact CHL_k hd10 hM2 (fun j _ => (fun _ => rfl) j) (by omega) (fun j _ _ => (fun _ => rfl) j) | (exfalso; omega)) (by first | exact hI | exact ANL_k hd11 hM (fun j _ => (fun _ => rfl) j) (by omega) (by omega) (by omega) (fun j _ _ => (fun _ => rfl) j) | (exfalso; omega)) (by first | exact hI | exact ANL_k hd12 hM2 (fun j _ => (fun _ => rfl) j) (by omega) (by omega) (by omega) (fun j _ _ => (fun _ => rfl) j) | (exfalso; omega))
    · skip
      refine go_toq PM267 (k := 2) (pc' := 1435) (L' := [some (.inr (.inr (some 3000))), some (.inr (.inr (some 0))), some (.inr (.inr (some 79))), some (.inl i)]) (st' := []) (w' := (SH, dt)) rfl ?_
      exact K dt hI hM hM2 hk0 hk1 hk2 hk3 hk4 hk5 hk6 hk7 hk8 hk9 hk10 hk11 hk12 hk13 hk14 hk15 (by first | exact hI | exact TPL_k hd0 (fun _ => rfl) (fun _ => rfl) (by omega) | (exfalso; omega)) (by first | exact hI | exact SCL_k hd1 hM (fun j _ => (fun _ => rfl) j) (fun j _ => (fun _ => rfl) j) (fun j _ _ => (fun _ => rfl) j) | (exfalso; omega)) (by first | exact hI | exact SCL_k hd2 hM2 (fun j _ => (fun _ => rfl) j) (fun j _ => (fun _ => rfl) j) (fun j _ _ => (fun _ => rfl) j) | (exfalso; omega)) (by first | exact hI | exact QRL_k hd3 hM (fun j _ => (fun _ => rfl) j) ((fun _ => rfl) 1) (fun j _ _ => (fun _ => rfl) j) | (exfalso; omega)) (by first | exact hI | exact QRL_k hd4 hM2 (fun j _ => (fun _ => rfl) j) ((fun _ => rfl) 1) (fun j _ _ => (fun _ => rfl) j) | (exfalso; omega)) (by first | exact hI | exact SDL_k hd5 hM (fun j _ => (fun _ => rfl) j) ((fun _ => rfl) 1) (fun j _ _ => (fun _ => rfl) j) (fun j _ _ => (fun _ => rfl) j) | (exfalso; omega)) (by first | exact hI | exact SDL_k hd6 hM2 (fun j _ => (fun _ => rfl) j) ((fun _ => rfl) 1) (fun j _ _ => (fun _ => rfl) j) (fun j _ _ => (fun _ => rfl) j) | (exfalso; omega)) (by first | exact hI | exact LWL_k hd7 hM (fun j _ => (fun _ => rfl) j) (fun j _ => (fun _ => rfl) j) (fun j _ => (fun _ => rfl) j) (fun j _ _ => (fun _ => rfl) j) | (exfalso; omega)) (by first | exact hI | exact LWL_k hd8 hM2 (fun j _ => (fun _ => rfl) j) (fun j _ => (fun _ => rfl) j) (fun j _ => (fun _ => rfl) j) (fun j _ _ => (fun _ => rfl) j) | (exfalso; omega)) (by first | exact hI | exact CHL_k hd9 hM (fun j _ => (fun _ => rfl) j) (by omega) (fun j _ _ => (fun _ => rfl) j) | (exfalso; omega)) (by first | exact hI | exact CHL_k hd10 hM2 (fun j _ => (fun _ => rfl) j) (by omega) (fun j _ _ => (fun _ => rfl) j) | (exfalso; omega)) (by first | exact hI | exact ANL_k hd11 hM (fun j _ => (fun _ => rfl) j) (by omega) (by omega) (by omega) (fun j _ _ => (fun _ => rfl) j) | (exfalso; omega)) (by first | exact hI | exact ANL_k hd12 hM2 (fun j _ => (fun _ => rfl) j) (by omega) (by omega) (by omega) (fun j _ _ => (fun _ => rfl) j) | (exfalso; omega))
    · skip
      refine go_toq PM267 (k := 2) (pc' := 1435) (L' := [some (.inr (.inr (some 3000))), some (.inr (.inr (some 0))), some (.inr (.inr (some 79))), some (.inl i)]) (st' := []) (w' := (SH, dt)) rfl ?_
      exact K dt hI hM hM2 hk0 hk1 hk2 hk3 hk4 hk5 hk6 hk7 hk8 hk9 hk10 hk11 hk12 hk13 hk14 hk15 (by first | exact hI | exact TPL_k hd0 (fun _ => rfl) (fun _ => rfl) (by omega) | (exfalso; omega)) (by first | exact hI | exact SCL_k hd1 hM (fun j _ => (fun _ => rfl) j) (fun j _ => (fun _ => rfl) j) (fun j _ _ => (fun _ => rfl) j) | (exfalso; omega)) (by first | exact hI | exact SCL_k hd2 hM2 (fun j _ => (fun _ => rfl) j) (fun j _ => (fun _ => rfl) j) (fun j _ _ => (fun _ => rfl) j) | (exfalso; omega)) (by first | exact hI | exact QRL_k hd3 hM (fun j _ => (fun _ => rfl) j) ((fun _ => rfl) 1) (fun j _ _ => (fun _ => rfl) j) | (exfalso; omega)) (by first | exact hI | exact QRL_k hd4 hM2 (fun j _ => (fun _ => rfl) j) ((fun _ => rfl) 1) (fun j _ _ => (fun _ => rfl) j) | (exfalso; omega)) (by first | exact hI | exact SDL_k hd5 hM (fun j _ => (fun _ => rfl) j) ((fun _ => rfl) 1) (fun j _ _ => (fun _ => rfl) j) (fun j _ _ => (fun _ => rfl) j) | (exfalso; omega)) (by first | exact hI | exact SDL_k hd6 hM2 (fun j _ => (fun _ => rfl) j) ((fun _ => rfl) 1) (fun j _ _ => (fun _ => rfl) j) (fun j _ _ => (fun _ => rfl) j) | (exfalso; omega)) (by first | exact hI | exact LWL_k hd7 hM (fun j _ => (fun _ => rfl) j) (fun j _ => (fun _ => rfl) j) (fun j _ => (fun _ => rfl) j) (fun j _ _ => (fun _ => rfl) j) | (exfalso; omega)) (by first | exact hI | exact LWL_k hd8 hM2 (fun j _ => (fun _ => rfl) j) (fun j _ => (fun _ => rfl) j) (fun j _ => (fun _ => rfl) j) (fun j _ _ => (fun _ => rfl) j) | (exfalso; omega)) (by first | exact hI | exact CHL_k hd9 hM (fun j _ => (fun _ => rfl) j) (by omega) (fun j _ _ => (fun _ => rfl) j) | (exfalso; omega)) (by first | exact hI | exact CHL_k hd10 hM2 (fun j _ => (fun _ => rfl) j) (by omega) (fun j _ _ => (fun _ => rfl) j) | (exfalso; omega)) (by first | exact hI | exact ANL_k hd11 hM (fun j _ => (fun _ => rfl) j) (by omega) (by omega) (by omega) (fun j _ _ => (fun _ => rfl) j) | (exfalso; omega)) (by first | exact hI | exact ANL_k hd12 hM2 (fun j _ => (fun _ => rfl) j) (by omega) (by omega) (by omega) (fun j _ _ => (fun _ => rfl) j) | (exfalso; omega))
    · skip
      obtain ⟨h6_0, h6_1⟩ := h6
      replace h6_1 := hid h6_1
      refine go_toq PM267 (k := 2) (pc' := 1435) (L' := [some (.inr (.inr (some 3000))), some (.inr (.inr (some 0))), some (.inr (.inr (some 79))), some (.inl i)]) (st' := []) (w' := (SH, dt)) rfl ?_
      exact K dt hI hM hM2 hk0 hk1 hk2 hk3 hk4 hk5 hk6 hk7 hk8 hk9 hk10 hk11 hk12 hk13 hk14 hk15 (by first | exact hI | exact TPL_k hd0 (fun _ => rfl) (fun _ => rfl) (by (first | omega | (have z0_ := unhid h6_1; omega))) | (exfalso; (first | omega | (have z0_ := unhid h6_1; omega)))) (by first | exact hI | exact SCL_k hd1 hM (fun j _ => (fun _ => rfl) j) (fun j _ => (fun _ => rfl) j) (fun j _ _ => (fun _ => rfl) j) | (exfalso; (first | omega | (have z0_ := unhid h6_1; omega)))) (by first | exact hI | exact SCL_k hd2 hM2 (fun j _ => (fun _ => rfl) j) (fun j _ => (fun _ => rfl) j) (fun j _ _ => (fun _ => rfl) j) | (exfalso; (first | omega | (have z0_ := unhid h6_1; omega)))) (by first | exact hI | exact QRL_k hd3 hM (fun j _ => (fun _ => rfl) j) ((fun _ => rfl) 1) (fun j _ _ => (fun _ => rfl) j) | (exfalso; (first | omega | (have z0_ := unhid h6_1; omega)))) (by first | exact hI | exact QRL_k hd4 hM2 (fun j _ => (fun _ => rfl) j) ((fun _ => rfl) 1) (fun j _ _ => (fun _ => rfl) j) | (exfalso; (first | omega | (have z0_ := unhid h6_1; omega)))) (by first | exact hI | exact SDL_k hd5 hM (fun j _ => (fun _ => rfl) j) ((fun _ => rfl) 1) (fun j _ _ => (fun _ => rfl) j) (fun j _ _ => (fun _ => rfl) j) | (exfalso; (first | omega | (have z0_ := unhid h6_1; omega)))) (by first | exact hI | exact SDL_k hd6 hM2 (fun j _ => (fun _ => rfl) j) ((fun _ => rfl) 1) (fun j _ _ => (fun _ => rfl) j) (fun j _ _ => (fun _ => rfl) j) | (exfalso; (first | omega | (have z0_ := unhid h6_1; omega)))) (by first | exact hI | exact LWL_k hd7 hM (fun j _ => (fun _ => rfl) j) (fun j _ => (fun _ => rfl) j) (fun j _ => (fun _ => rfl) j) (fun j _ _ => (fun _ => rfl) j) | (exfalso; (first | omega | (have z0_ := unhid h6_1; omega)))) (by first | exact hI | exact LWL_k hd8 hM2 (fun j _ => (fun _ => rfl) j) (fun j _ => (fun _ => rfl) j) (fun j _ => (fun _ => rfl) j) (fun j _ _ => (fun _ => rfl) j) | (exfalso; (first | omega | (have z0_ := unhid h6_1; omega)))) (by first | exact hI | exact CHL_k hd9 hM (fun j _ => (fun _ => rfl) j) (by (first | omega | (have z0_ := unhid h6_1; omega))) (fun j _ _ => (fun _ => rfl) j) | (exfalso; (first | omega | (have z0_ := unhid h6_1; omega)))) (by first | exact hI | exact CHL_k hd10 hM2 (fun j _ => (fun _ => rfl) j) (by (first | omega | (have z0_ := unhid h6_1; omega))) (fun j _ _ => (fun _ => rfl) j) | (exfalso; (first | omega | (have z0_ := unhid h6_1; omega)))) (by first | exact hI | exact ANL_k hd11 hM (fun j _ => (fun _ => rfl) j) (by (first | omega | (have z0_ := unhid h6_1; omega))) (by (first | omega | (have z0_ := unhid h6_1; omega))) (by (first | omega | (have z0_ := unhid h6_1; omega))) (fun j _ _ => (fun _ => rfl) j) | (exfalso; (first | omega | (have z0_ := unhid h6_1; omega)))) (by first | exact hI | exact ANL_k hd12 hM2 (fun j _ => (fun _ => rfl) j) (by (first | omega | (have z0_ := unhid h6_1; omega))) (by (first | omega | (have z0_ := unhid h6_1; omega))) (by (first | omega | (have z0_ := unhid h6_1; omega))) (fun j _ _ => (fun _ => rfl) j) | (exfalso; (first | omega | (have z0_ := unhid h6_1; omega))))
    · skip
      obtain ⟨h6_0, h6_1⟩ := h6
      refine go_toq PM267 (k := 2) (pc' := 1435) (L' := [some (.inr (.inr (some 3000))), some (.inr (.inr (some 0))), some (.inr (.inr (some 79))), some (.inl i)]) (st' := []) (w' := (SH, dt)) rfl ?_
      exact K dt hI hM hM2 hk0 hk1 hk2 hk3 hk4 hk5 hk6 hk7 hk8 hk9 hk10 hk11 hk12 hk13 hk14 hk15 (by first | exact hI | exact TPL_k hd0 (fun _ => rfl) (fun _ => rfl) (by omega) | (exfalso; omega)) (by first | exact hI | exact SCL_k hd1 hM (fun j _ => (fun _ => rfl) j) (fun j _ => (fun _ => rfl) j) (fun j _ _ => (fun _ => rfl) j) | (exfalso; omega)) (by first | exact hI | exact SCL_k hd2 hM2 (fun j _ => (fun _ => rfl) j) (fun j _ => (fun _ => rfl) j) (fun j _ _ => (fun _ => rfl) j) | (exfalso; omega)) (by first | exact hI | exact QRL_k hd3 hM (fun j _ => (fun _ => rfl) j) ((fun _ => rfl) 1) (fun j _ _ => (fun _ => rfl) j) | (exfalso; omega)) (by first | exact hI | exact QRL_k hd4 hM2 (fun j _ => (fun _ => rfl) j) ((fun _ => rfl) 1) (fun j _ _ => (fun _ => rfl) j) | (exfalso; omega)) (by first | exact hI | exact SDL_k hd5 hM (fun j _ => (fun _ => rfl) j) ((fun _ => rfl) 1) (fun j _ _ => (fun _ => rfl) j) (fun j _ _ => (fun _ => rfl) j) | (exfalso; omega)) (by first | exact hI | exact SDL_k hd6 hM2 (fun j _ => (fun _ => rfl) j) ((fun _ => rfl) 1) (fun j _ _ => (fun _ => rfl) j) (fun j _ _ => (fun _ => rfl) j) | (exfalso; omega)) (by first | exact hI | exact LWL_k hd7 hM (fun j _ => (fun _ => rfl) j) (fun j _ => (fun _ => rfl) j) (fun j _ => (fun _ => rfl) j) (fun j _ _ => (fun _ => rfl) j) | (exfalso; omega)) (by first | exact hI | exact LWL_k hd8 hM2 (fun j _ => (fun _ => rfl) j) (fun j _ => (fun _ => rfl) j) (fun j _ => (fun _ => rfl) j) (fun j _ _ => (fun _ => rfl) j) | (exfalso; omega)) (by first | exact hI | exact CHL_k hd9 hM (fun j _ => (fun _ => rfl) j) (by omega) (fun j _ _ => (fun _ => rfl) j) | (exfalso; omega)) (by first | exact hI | exact CHL_k hd10 hM2 (fun j _ => (fun _ => rfl) j) (by omega) (fun j _ _ => (fun _ => rfl) j) | (exfalso; omega)) (by first | exact hI | exact ANL_k hd11 hM (fun j _ => (fun _ => rfl) j) (by omega) (by omega) (by omega) (fun j _ _ => (fun _ => rfl) j) | (exfalso; omega)) (by first | exact hI | exact ANL_k hd12 hM2 (fun j _ => (fun _ => rfl) j) (by omega) (by omega) (by omega) (fun j _ _ => (fun _ => rfl) j) | (exfalso; omega))
    · skip
      refine go_toq PM267 (k := 2) (pc' := 1435) (L' := [some (.inr (.inr (some 3000))), some (.inr (.inr (some 0))), some (.inr (.inr (some 79))), some (.inl i)]) (st' := []) (w' := (SH, dt)) rfl ?_
      exact K dt hI hM hM2 hk0 hk1 hk2 hk3 hk4 hk5 hk6 hk7 hk8 hk9 hk10 hk11 hk12 hk13 hk14 hk15 (by first | exact hI | exact TPL_k hd0 (fun _ => rfl) (fun _ => rfl) (by omega) | (exfalso; omega)) (by first | exact hI | exact SCL_k hd1 hM (fun j _ => (fun _ => rfl) j) (fun j _ => (fun _ => rfl) j) (fun j _ _ => (fun _ => rfl) j) | (exfalso; omega)) (by first | exact hI | exact SCL_k hd2 hM2 (fun j _ => (fun _ => rfl) j) (fun j _ => (fun _ => rfl) j) (fun j _ _ => (fun _ => rfl) j) | (exfalso; omega)) (by first | exact hI | exact QRL_k hd3 hM (fun j _ => (fun _ => rfl) j) ((fun _ => rfl) 1) (fun j _ _ => (fun _ => rfl) j) | (exfalso; omega)) (by first | exact hI | exact QRL_k hd4 hM2 (fun j _ => (fun _ => rfl) j) ((fun _ => rfl) 1) (fun j _ _ => (fun _ => rfl) j) | (exfalso; omega)) (by first | exact hI | exact SDL_k hd5 hM (fun j _ => (fun _ => rfl) j) ((fun _ => rfl) 1) (fun j _ _ => (fun _ => rfl) j) (fun j _ _ => (fun _ => rfl) j) | (exfalso; omega)) (by first | exact hI | exact SDL_k hd6 hM2 (fun j _ => (fun _ => rfl) j) ((fun _ => rfl) 1) (fun j _ _ => (fun _ => rfl) j) (fun j _ _ => (fun _ => rfl) j) | (exfalso; omega)) (by first | exact hI | exact LWL_k hd7 hM (fun j _ => (fun _ => rfl) j) (fun j _ => (fun _ => rfl) j) (fun j _ => (fun _ => rfl) j) (fun j _ _ => (fun _ => rfl) j) | (exfalso; omega)) (by first | exact hI | exact LWL_k hd8 hM2 (fun j _ => (fun _ => rfl) j) (fun j _ => (fun _ => rfl) j) (fun j _ => (fun _ => rfl) j) (fun j _ _ => (fun _ => rfl) j) | (exfalso; omega)) (by first | exact hI | exact CHL_k hd9 hM (fun j _ => (fun _ => rfl) j) (by omega) (fun j _ _ => (fun _ => rfl) j) | (exfalso; omega)) (by first | exact hI | exact CHL_k hd10 hM2 (fun j _ => (fun _ => rfl) j) (by omega) (fun j _ _ => (fun _ => rfl) j) | (exfalso; omega)) (by first | exact hI | exact ANL_k hd11 hM (fun j _ => (fun _ => rfl) j) (by omega) (by omega) (by omega) (fun j _ _ => (fun _ => rfl) j) | (exfalso; omega)) (by first | exact hI | exact ANL_k hd12 hM2 (fun j _ => (fun _ => rfl) j) (by omega) (by omega) (by omega) (fun j _ _ => (fun _ => rfl) j) | (exfalso; omega))
  · skip
    refine go_toq PM267 (k := 6) (pc' := 1427) (L' := [some (.inr (.inr (some 3000))), some (.inr (.inr (some 0))), some (.inr (.inr (some 79))), some (.inl i)]) (st' := [.inl (i + 1), .inr (.inr (some 3000)), .inr (.inr (some 79))]) (w' := (SH, dt)) rfl ?_
    refine go_smpq PM267 (L' := [some (.inr (.inr (some 3000))), some (.inr (.inr (some 0))), some (.inr (.inr (some 79))), some (.inl i)]) (st' := [.inl ((xs ((i + 1).toNat)).toInt), .inr (.inr (some 79))]) (w' := (SH, dt)) rfl rfl (s_iald (n := L) (f := fun j => (xs j).toInt) (am_scr hLL) ⟨by omega, by omega⟩) ?_
    refine go_callq PM267 PM248 (Q' := _) rfl rfl rfl rfl (sp_X6_look L xs sio (d + 38) dt hI  ((xs ((i + 1).toNat)).toInt) ⟨by omega, by omega⟩ ) ?_
    rintro _ _ ⟨rfl, h7⟩
    refine ⟨rfl, ?_⟩
    rcases h7 with ⟨rfl, h7⟩ | ⟨rfl, h7⟩ | ⟨rfl, h7⟩ | ⟨rfl, h7⟩ | ⟨rfl, h7⟩ | ⟨rfl, h7⟩ | ⟨rfl, h7⟩ | ⟨rfl, h7⟩ | ⟨rfl, h7⟩
    · skip
      refine go_toq PM267 (k := 2) (pc' := 1435) (L' := [some (.inr (.inr (some 3000))), some (.inr (.inr (some 0))), some (.inr (.inr (some 79))), some (.inl i)]) (st' := []) (w' := (SH, dt)) rfl ?_
      exact K dt hI hM hM2 hk0 hk1 hk2 hk3 hk4 hk5 hk6 hk7 hk8 hk9 hk10 hk11 hk12 hk13 hk14 hk15 (by first | exact hI | exact TPL_k hd0 (fun _ => rfl) (fun _ => rfl) (by omega) | (exfalso; omega)) (by first | exact hI | exact SCL_k hd1 hM (fun j _ => (fun _ => rfl) j) (fun j _ => (fun _ => rfl) j) (fun j _ _ => (fun _ => rfl) j) | (exfalso; omega)) (by first | exact hI | exact SCL_k hd2 hM2 (fun j _ => (fun _ => rfl) j) (fun j _ => (fun _ => rfl) j) (fun j _ _ => (fun _ => rfl) j) | (exfalso; omega)) (by first | exact hI | exact QRL_k hd3 hM (fun j _ => (fun _ => rfl) j) ((fun _ => rfl) 1) (fun j _ _ => (fun _ => rfl) j) | (exfalso; omega)) (by first | exact hI | exact QRL_k hd4 hM2 (fun j _ => (fun _ => rfl) j) ((fun _ => rfl) 1) (fun j _ _ => (fun _ => rfl) j) | (exfalso; omega)) (by first | exact hI | exact SDL_k hd5 hM (fun j _ => (fun _ => rfl) j) ((fun _ => rfl) 1) (fun j _ _ => (fun _ => rfl) j) (fun j _ _ => (fun _ => rfl) j) | (exfalso; omega)) (by first | exact hI | exact SDL_k hd6 hM2 (fun j _ => (fun _ => rfl) j) ((fun _ => rfl) 1) (fun j _ _ => (fun _ => rfl) j) (fun j _ _ => (fun _ => rfl) j) | (exfalso; omega)) (by first | exact hI | exact LWL_k hd7 hM (fun j _ => (fun _ => rfl) j) (fun j _ => (fun _ => rfl) j) (fun j _ => (fun _ => rfl) j) (fun j _ _ => (fun _ => rfl) j) | (exfalso; omega)) (by first | exact hI | exact LWL_k hd8 hM2 (fun j _ => (fun _ => rfl) j) (fun j _ => (fun _ => rfl) j) (fun j _ => (fun _ => rfl) j) (fun j _ _ => (fun _ => rfl) j) | (exfalso; omega)) (by first | exact hI | exact CHL_k hd9 hM (fun j _ => (fun _ => rfl) j) (by omega) (fun j _ _ => (fun _ => rfl) j) | (exfalso; omega)) (by first | exact hI | exact CHL_k hd10 hM2 (fun j _ => (fun _ => rfl) j) (by omega) (fun j _ _ => (fun _ => rfl) j) | (exfalso; omega)) (by first | exact hI | exact ANL_k hd11 hM (fun j _ => (fun _ => rfl) j) (by omega) (by omega) (by omega) (fun j _ _ => (fun _ => rfl) j) | (exfalso; omega)) (by first | exact hI | exact ANL_k hd12 hM2 (fun j _ => (fun _ => rfl) j) (by omega) (by omega) (by omega) (fun j _ _ => (fun _ => rfl) j) | (exfalso; omega))
    · skip
      refine go_toq PM267 (k := 2) (pc' := 1435) (L' := [some (.inr (.inr (some 3000))), some (.inr (.inr (some 0))), some (.inr (.inr (some 79))), some (.inl i)]) (st' := []) (w' := (SH, dt)) rfl ?_
      exact K dt hI hM hM2 hk0 hk1 hk2 hk3 hk4 hk5 hk6 hk7 hk8 hk9 hk10 hk11 hk12 hk13 hk14 hk15 (by first | exact hI | exact TPL_k hd0 (fun _ => rfl) (fun _ => rfl) (by omega) | (exfalso; omega)) (by first | exact hI | exact SCL_k hd1 hM (fun j _ => (fun _ => rfl) j) (fun j _ => (fun _ => rfl) j) (fun j _ _ => (fun _ => rfl) j) | (exfalso; omega)) (by first | exact hI | exact SCL_k hd2 hM2 (fun j _ => (fun _ => rfl) j) (fun j _ => (fun _ => rfl) j) (fun j _ _ => (fun _ => rfl) j) | (exfalso; omega)) (by first | exact hI | exact QRL_k hd3 hM (fun j _ => (fun _ => rfl) j) ((fun _ => rfl) 1) (fun j _ _ => (fun _ => rfl) j) | (exfalso; omega)) (by first | exact hI | exact QRL_k hd4 hM2 (fun j _ => (fun _ => rfl) j) ((fun _ => rfl) 1) (fun j _ _ => (fun _ => rfl) j) | (exfalso; omega)) (by first | exact hI | exact SDL_k hd5 hM (fun j _ => (fun _ => rfl) j) ((fun _ => rfl) 1) (fun j _ _ => (fun _ => rfl) j) (fun j _ _ => (fun _ => rfl) j) | (exfalso; omega)) (by first | exact hI | exact SDL_k hd6 hM2 (fun j _ => (fun _ => rfl) j) ((fun _ => rfl) 1) (fun j _ _ => (fun _ => rfl) j) (fun j _ _ => (fun _ => rfl) j) | (exfalso; omega)) (by first | exact hI | exact LWL_k hd7 hM (fun j _ => (fun _ => rfl) j) (fun j _ => (fun _ => rfl) j) (fun j _ => (fun _ => rfl) j) (fun j _ _ => (fun _ => rfl) j) | (exfalso; omega)) (by first | exact hI | exact LWL_k hd8 hM2 (fun j _ => (fun _ => rfl) j) (fun j _ => (fun _ => rfl) j) (fun j _ => (fun _ => rfl) j) (fun j _ _ => (fun _ => rfl) j) | (exfalso; omega)) (by first | exact hI | exact CHL_k hd9 hM (fun j _ => (fun _ => rfl) j) (by omega) (fun j _ _ => (fun _ => rfl) j) | (exfalso; omega)) (by first | exact hI | exact CHL_k hd10 hM2 (fun j _ => (fun _ => rfl) j) (by omega) (fun j _ _ => (fun _ => rfl) j) | (exfalso; omega)) (by first | exact hI | exact ANL_k hd11 hM (fun j _ => (fun _ => rfl) j) (by omega) (by omega) (by omega) (fun j _ _ => (fun _ => rfl) j) | (exfalso; omega)) (by first | exact hI | exact ANL_k hd12 hM2 (fun j _ => (fun _ => rfl) j) (by omega) (by omega) (by omega) (fun j _ _ => (fun _ => rfl) j) | (exfalso; omega))
    · skip
      refine go_toq PM267 (k := 2) (pc' := 1435) (L' := [some (.inr (.inr (some 3000))), some (.inr (.inr (some 0))), some (.inr (.inr (some 79))), some (.inl i)]) (st' := []) (w' := (SH, dt)) rfl ?_
      exact K dt hI hM hM2 hk0 hk1 hk2 hk3 hk4 hk5 hk6 hk7 hk8 hk9 hk10 hk11 hk12 hk13 hk14 hk15 (by first | exact hI | exact TPL_k hd0 (fun _ => rfl) (fun _ => rfl) (by omega) | (exfalso; omega)) (by first | exact hI | exact SCL_k hd1 hM (fun j _ => (fun _ => rfl) j) (fun j _ => (fun _ => rfl) j) (fun j _ _ => (fun _ => rfl) j) | (exfalso; omega)) (by first | exact hI | exact SCL_k hd2 hM2 (fun j _ => (fun _ => rfl) j) (fun j _ => (fun _ => rfl) j) (fun j _ _ => (fun _ => rfl) j) | (exfalso; omega)) (by first | exact hI | exact QRL_k hd3 hM (fun j _ => (fun _ => rfl) j) ((fun _ => rfl) 1) (fun j _ _ => (fun _ => rfl) j) | (exfalso; omega)) (by first | exact hI | exact QRL_k hd4 hM2 (fun j _ => (fun _ => rfl) j) ((fun _ => rfl) 1) (fun j _ _ => (fun _ => rfl) j) | (exfalso; omega)) (by first | exact hI | exact SDL_k hd5 hM (fun j _ => (fun _ => rfl) j) ((fun _ => rfl) 1) (fun j _ _ => (fun _ => rfl) j) (fun j _ _ => (fun _ => rfl) j) | (exfalso; omega)) (by first | exact hI | exact SDL_k hd6 hM2 (fun j _ => (fun _ => rfl) j) ((fun _ => rfl) 1) (fun j _ _ => (fun _ => rfl) j) (fun j _ _ => (fun _ => rfl) j) | (exfalso; omega)) (by first | exact hI | exact LWL_k hd7 hM (fun j _ => (fun _ => rfl) j) (fun j _ => (fun _ => rfl) j) (fun j _ => (fun _ => rfl) j) (fun j _ _ => (fun _ => rfl) j) | (exfalso; omega)) (by first | exact hI | exact LWL_k hd8 hM2 (fun j _ => (fun _ => rfl) j) (fun j _ => (fun _ => rfl) j) (fun j _ => (fun _ => rfl) j) (fun j _ _ => (fun _ => rfl) j) | (exfalso; omega)) (by first | exact hI | exact CHL_k hd9 hM (fun j _ => (fun _ => rfl) j) (by omega) (fun j _ _ => (fun _ => rfl) j) | (exfalso; omega)) (by first | exact hI | exact CHL_k hd10 hM2 (fun j _ => (fun _ => rfl) j) (by omega) (fun j _ _ => (fun _ => rfl) j) | (exfalso; omega)) (by first | exact hI | exact ANL_k hd11 hM (fun j _ => (fun _ => rfl) j) (by omega) (by omega) (by omega) (fun j _ _ => (fun _ => rfl) j) | (exfalso; omega)) (by first | exact hI | exact ANL_k hd12 hM2 (fun j _ => (fun _ => rfl) j) (by omega) (by omega) (by omega) (fun j _ _ => (fun _ => rfl) j) | (exfalso; omega))
    · skip
      refine go_toq PM267 (k := 2) (pc' := 1435) (L' := [some (.inr (.inr (some 3000))), some (.inr (.inr (some 0))), some (.inr (.inr (some 79))), some (.inl i)]) (st' := []) (w' := (SH, dt)) rfl ?_
      exact K dt hI hM hM2 hk0 hk1 hk2 hk3 hk4 hk5 hk6 hk7 hk8 hk9 hk10 hk11 hk12 hk13 hk14 hk15 (by first | exact hI | exact TPL_k hd0 (fun _ => rfl) (fun _ => rfl) (by omega) | (exfalso; omega)) (by first | exact hI | exact SCL_k hd1 hM (fun j _ => (fun _ => rfl) j) (fun j _ => (fun _ => rfl) j) (fun j _ _ => (fun _ => rfl) j) | (exfalso; omega)) (by first | exact hI | exact SCL_k hd2 hM2 (fun j _ => (fun _ => rfl) j) (fun j _ => (fun _ => rfl) j) (fun j _ _ => (fun _ => rfl) j) | (exfalso; omega)) (by first | exact hI | exact QRL_k hd3 hM (fun j _ => (fun _ => rfl) j) ((fun _ => rfl) 1) (fun j _ _ => (fun _ => rfl) j) | (exfalso; omega)) (by first | exact hI | exact QRL_k hd4 hM2 (fun j _ => (fun _ => rfl) j) ((fun _ => rfl) 1) (fun j _ _ => (fun _ => rfl) j) | (exfalso; omega)) (by first | exact hI | exact SDL_k hd5 hM (fun j _ => (fun _ => rfl) j) ((fun _ => rfl) 1) (fun j _ _ => (fun _ => rfl) j) (fun j _ _ => (fun _ => rfl) j) | (exfalso; omega)) (by first | exact hI | exact SDL_k hd6 hM2 (fun j _ => (fun _ => rfl) j) ((fun _ => rfl) 1) (fun j _ _ => (fun _ => rfl) j) (fun j _ _ => (fun _ => rfl) j) | (exfalso; omega)) (by first | exact hI | exact LWL_k hd7 hM (fun j _ => (fun _ => rfl) j) (fun j _ => (fun _ => rfl) j) (fun j _ => (fun _ => rfl) j) (fun j _ _ => (fun _ => rfl) j) | (exfalso; omega)) (by first | exact hI | exact LWL_k hd8 hM2 (fun j _ => (fun _ => rfl) j) (fun j _ => (fun _ => rfl) j) (fun j _ => (fun _ => rfl) j) (fun j _ _ => (fun _ => rfl) j) | (exfalso; omega)) (by first | exact hI | exact CHL_k hd9 hM (fun j _ => (fun _ => rfl) j) (by omega) (fun j _ _ => (fun _ => rfl) j) | (exfalso; omega)) (by first | exact hI | exact CHL_k hd10 hM2 (fun j _ => (fun _ => rfl) j) (by omega) (fun j _ _ => (fun _ => rfl) j) | (exfalso; omega)) (by first | exact hI | exact ANL_k hd11 hM (fun j _ => (fun _ => rfl) j) (by omega) (by omega) (by omega) (fun j _ _ => (fun _ => rfl) j) | (exfalso; omega)) (by first | exact hI | exact ANL_k hd12 hM2 (fun j _ => (fun _ => rfl) j) (by omega) (by omega) (by omega) (fun j _ _ => (fun _ => rfl) j) | (exfalso; omega))
    · skip
      refine go_toq PM267 (k := 2) (pc' := 1435) (L' := [some (.inr (.inr (some 3000))), some (.inr (.inr (some 0))), some (.inr (.inr (some 79))), some (.inl i)]) (st' := []) (w' := (SH, dt)) rfl ?_
      exact K dt hI hM hM2 hk0 hk1 hk2 hk3 hk4 hk5 hk6 hk7 hk8 hk9 hk10 hk11 hk12 hk13 hk14 hk15 (by first | exact hI | exact TPL_k hd0 (fun _ => rfl) (fun _ => rfl) (by omega) | (exfalso; omega)) (by first | exact hI | exact SCL_k hd1 hM (fun j _ => (fun _ => rfl) j) (fun j _ => (fun _ => rfl) j) (fun j _ _ => (fun _ => rfl) j) | (exfalso; omega)) (by first | exact hI | exact SCL_k hd2 hM2 (fun j _ => (fun _ => rfl) j) (fun j _ => (fun _ => rfl) j) (fun j _ _ => (fun _ => rfl) j) | (exfalso; omega)) (by first | exact hI | exact QRL_k hd3 hM (fun j _ => (fun _ => rfl) j) ((fun _ => rfl) 1) (fun j _ _ => (fun _ => rfl) j) | (exfalso; omega)) (by first | exact hI | exact QRL_k hd4 hM2 (fun j _ => (fun _ => rfl) j) ((fun _ => rfl) 1) (fun j _ _ => (fun _ => rfl) j) | (exfalso; omega)) (by first | exact hI | exact SDL_k hd5 hM (fun j _ => (fun _ => rfl) j) ((fun _ => rfl) 1) (fun j _ _ => (fun _ => rfl) j) (fun j _ _ => (fun _ => rfl) j) | (exfalso; omega)) (by first | exact hI | exact SDL_k hd6 hM2 (fun j _ => (fun _ => rfl) j) ((fun _ => rfl) 1) (fun j _ _ => (fun _ => rfl) j) (fun j _ _ => (fun _ => rfl) j) | (exfalso; omega)) (by first | exact hI | exact LWL_k hd7 hM (fun j _ => (fun _ => rfl) j) (fun j _ => (fun _ => rfl) j) (fun j _ => (fun _ => rfl) j) (fun j _ _ => (fun _ => rfl) j) | (exfalso; omega)) (by first | exact hI | exact LWL_k hd8 hM2 (fun j _ => (fun _ => rfl) j) (fun j _ => (fun _ => rfl) j) (fun j _ => (fun _ => rfl) j) (fun j _ _ => (fun _ => rfl) j) | (exfalso; omega)) (by first | exact hI | exact CHL_k hd9 hM (fun j _ => (fun _ => rfl) j) (by omega) (fun j _ _ => (fun _ => rfl) j) | (exfalso; omega)) (by first | exact hI | exact CHL_k hd10 hM2 (fun j _ => (fun _ => rfl) j) (by omega) (fun j _ _ => (fun _ => rfl) j) | (exfalso; omega)) (by first | exact hI | exact ANL_k hd11 hM (fun j _ => (fun _ => rfl) j) (by omega) (by omega) (by omega) (fun j _ _ => (fun _ => rfl) j) | (exfalso; omega)) (by first | exact hI | exact ANL_k hd12 hM2 (fun j _ => (fun _ => rfl) j) (by omega) (by omega) (by omega) (fun j _ _ => (fun _ => rfl) j) | (exfalso; omega))
    · skip
      refine go_toq PM267 (k := 2) (pc' := 1435) (L' := [some (.inr (.inr (some 3000))), some (.inr (.inr (some 0))), some (.inr (.inr (some 79))), some (.inl i)]) (st' := []) (w' := (SH, dt)) rfl ?_
      exact K dt hI hM hM2 hk0 hk1 hk2 hk3 hk4 hk5 hk6 hk7 hk8 hk9 hk10 hk11 hk12 hk13 hk14 hk15 (by first | exact hI | exact TPL_k hd0 (fun _ => rfl) (fun _ => rfl) (by omega) | (exfalso; omega)) (by first | exact hI | exact SCL_k hd1 hM (fun j _ => (fun _ => rfl) j) (fun j _ => (fun _ => rfl) j) (fun j _ _ => (fun _ => rfl) j) | (exfalso; omega)) (by first | exact hI | exact SCL_k hd2 hM2 (fun j _ => (fun _ => rfl) j) (fun j _ => (fun _ => rfl) j) (fun j _ _ => (fun _ => rfl) j) | (exfalso; omega)) (by first | exact hI | exact QRL_k hd3 hM (fun j _ => (fun _ => rfl) j) ((fun _ => rfl) 1) (fun j _ _ => (fun _ => rfl) j) | (exfalso; omega)) (by first | exact hI | exact QRL_k hd4 hM2 (fun j _ => (fun _ => rfl) j) ((fun _ => rfl) 1) (fun j _ _ => (fun _ => rfl) j) | (exfalso; omega)) (by first | exact hI | exact SDL_k hd5 hM (fun j _ => (fun _ => rfl) j) ((fun _ => rfl) 1) (fun j _ _ => (fun _ => rfl) j) (fun j _ _ => (fun _ => rfl) j) | (exfalso; omega)) (by first | exact hI | exact SDL_k hd6 hM2 (fun j _ => (fun _ => rfl) j) ((fun _ => rfl) 1) (fun j _ _ => (fun _ => rfl) j) (fun j _ _ => (fun _ => rfl) j) | (exfalso; omega)) (by first | exact hI | exact LWL_k hd7 hM (fun j _ => (fun _ => rfl) j) (fun j _ => (fun _ => rfl) j) (fun j _ => (fun _ => rfl) j) (fun j _ _ => (fun _ => rfl) j) | (exfalso; omega)) (by first | exact hI | exact LWL_k hd8 hM2 (fun j _ => (fun _ => rfl) j) (fun j _ => (fun _ => rfl) j) (fun j _ => (fun _ => rfl) j) (fun j _ _ => (fun _ => rfl) j) | (exfalso; omega)) (by first | exact hI | exact CHL_k hd9 hM (fun j _ => (fun _ => rfl) j) (by omega) (fun j _ _ => (fun _ => rfl) j) | (exfalso; omega)) (by first | exact hI | exact CHL_k hd10 hM2 (fun j _ => (fun _ => rfl) j) (by omega) (fun j _ _ => (fun _ => rfl) j) | (exfalso; omega)) (by first | exact hI | exact ANL_k hd11 hM (fun j _ => (fun _ => rfl) j) (by omega) (by omega) (by omega) (fun j _ _ => (fun _ => rfl) j) | (exfalso; omega)) (by first | exact hI | exact ANL_k hd12 hM2 (fun j _ => (fun _ => rfl) j) (by omega) (by omega) (by omega) (fun j _ _ => (fun _ => rfl) j) | (exfalso; omega))
    · skip
      obtain ⟨h7_0, h7_1⟩ := h7
      replace h7_1 := hid h7_1
      refine go_toq PM267 (k := 2) (pc' := 1435) (L' := [some (.inr (.inr (some 3000))), some (.inr (.inr (some 0))), some (.inr (.inr (some 79))), some (.inl i)]) (st' := []) (w' := (SH, dt)) rfl ?_
      exact K dt hI hM hM2 hk0 hk1 hk2 hk3 hk4 hk5 hk6 hk7 hk8 hk9 hk10 hk11 hk12 hk13 hk14 hk15 (by first | exact hI | exact TPL_k hd0 (fun _ => rfl) (fun _ => rfl) (by (first | omega | (have z0_ := unhid h7_1; omega))) | (exfalso; (first | omega | (have z0_ := unhid h7_1; omega)))) (by first | exact hI | exact SCL_k hd1 hM (fun j _ => (fun _ => rfl) j) (fun j _ => (fun _ => rfl) j) (fun j _ _ => (fun _ => rfl) j) | (exfalso; (first | omega | (have z0_ := unhid h7_1; omega)))) (by first | exact hI | exact SCL_k hd2 hM2 (fun j _ => (fun _ => rfl) j) (fun j _ => (fun _ => rfl) j) (fun j _ _ => (fun _ => rfl) j) | (exfalso; (first | omega | (have z0_ := unhid h7_1; omega)))) (by first | exact hI | exact QRL_k hd3 hM (fun j _ => (fun _ => rfl) j) ((fun _ => rfl) 1) (fun j _ _ => (fun _ => rfl) j) | (exfalso; (first | omega | (have z0_ := unhid h7_1; omega)))) (by first | exact hI | exact QRL_k hd4 hM2 (fun j _ => (fun _ => rfl) j) ((fun _ => rfl) 1) (fun j _ _ => (fun _ => rfl) j) | (exfalso; (first | omega | (have z0_ := unhid h7_1; omega)))) (by first | exact hI | exact SDL_k hd5 hM (fun j _ => (fun _ => rfl) j) ((fun _ => rfl) 1) (fun j _ _ => (fun _ => rfl) j) (fun j _ _ => (fun _ => rfl) j) | (exfalso; (first | omega | (have z0_ := unhid h7_1; omega)))) (by first | exact hI | exact SDL_k hd6 hM2 (fun j _ => (fun _ => rfl) j) ((fun _ => rfl) 1) (fun j _ _ => (fun _ => rfl) j) (fun j _ _ => (fun _ => rfl) j) | (exfalso; (first | omega | (have z0_ := unhid h7_1; omega)))) (by first | exact hI | exact LWL_k hd7 hM (fun j _ => (fun _ => rfl) j) (fun j _ => (fun _ => rfl) j) (fun j _ => (fun _ => rfl) j) (fun j _ _ => (fun _ => rfl) j) | (exfalso; (first | omega | (have z0_ := unhid h7_1; omega)))) (by first | exact hI | exact LWL_k hd8 hM2 (fun j _ => (fun _ => rfl) j) (fun j _ => (fun _ => rfl) j) (fun j _ => (fun _ => rfl) j) (fun j _ _ => (fun _ => rfl) j) | (exfalso; (first | omega | (have z0_ := unhid h7_1; omega)))) (by first | exact hI | exact CHL_k hd9 hM (fun j _ => (fun _ => rfl) j) (by (first | omega | (have z0_ := unhid h7_1; omega))) (fun j _ _ => (fun _ => rfl) j) | (exfalso; (first | omega | (have z0_ := unhid h7_1; omega)))) (by first | exact hI | exact CHL_k hd10 hM2 (fun j _ => (fun _ => rfl) j) (by (first | omega | (have z0_ := unhid h7_1; omega))) (fun j _ _ => (fun _ => rfl) j) | (exfalso; (first | omega | (have z0_ := unhid h7_1; omega)))) (by first | exact hI | exact ANL_k hd11 hM (fun j _ => (fun _ => rfl) j) (by (first | omega | (have z0_ := unhid h7_1; omega))) (by (first | omega | (have z0_ := unhid h7_1; omega))) (by (first | omega | (have z0_ := unhid h7_1; omega))) (fun j _ _ => (fun _ => rfl) j) | (exfalso; (first | omega | (have z0_ := unhid h7_1; omega)))) (by first | exact hI | exact ANL_k hd12 hM2 (fun j _ => (fun _ => rfl) j) (by (first | omega | (have z0_ := unhid h7_1; omega))) (by (first | omega | (have z0_ := unhid h7_1; omega))) (by (first | omega | (have z0_ := unhid h7_1; omega))) (fun j _ _ => (fun _ => rfl) j) | (exfalso; (first | omega | (have z0_ := unhid h7_1; omega))))
    · skip
      obtain ⟨h7_0, h7_1⟩ := h7
      refine go_toq PM267 (k := 2) (pc' := 1435) (L' := [some (.inr (.inr (some 3000))), some (.inr (.inr (some 0))), some (.inr (.inr (some 79))), some (.inl i)]) (st' := []) (w' := (SH, dt)) rfl ?_
      exact K dt hI hM hM2 hk0 hk1 hk2 hk3 hk4 hk5 hk6 hk7 hk8 hk9 hk10 hk11 hk12 hk13 hk14 hk15 (by first | exact hI | exact TPL_k hd0 (fun _ => rfl) (fun _ => rfl) (by omega) | (exfalso; omega)) (by first | exact hI | exact SCL_k hd1 hM (fun j _ => (fun _ => rfl) j) (fun j _ => (fun _ => rfl) j) (fun j _ _ => (fun _ => rfl) j) | (exfalso; omega)) (by first | exact hI | exact SCL_k hd2 hM2 (fun j _ => (fun _ => rfl) j) (fun j _ => (fun _ => rfl) j) (fun j _ _ => (fun _ => rfl) j) | (exfalso; omega)) (by first | exact hI | exact QRL_k hd3 hM (fun j _ => (fun _ => rfl) j) ((fun _ => rfl) 1) (fun j _ _ => (fun _ => rfl) j) | (exfalso; omega)) (by first | exact hI | exact QRL_k hd4 hM2 (fun j _ => (fun _ => rfl) j) ((fun _ => rfl) 1) (fun j _ _ => (fun _ => rfl) j) | (exfalso; omega)) (by first | exact hI | exact SDL_k hd5 hM (fun j _ => (fun _ => rfl) j) ((fun _ => rfl) 1) (fun j _ _ => (fun _ => rfl) j) (fun j _ _ => (fun _ => rfl) j) | (exfalso; omega)) (by first | exact hI | exact SDL_k hd6 hM2 (fun j _ => (fun _ => rfl) j) ((fun _ => rfl) 1) (fun j _ _ => (fun _ => rfl) j) (fun j _ _ => (fun _ => rfl) j) | (exfalso; omega)) (by first | exact hI | exact LWL_k hd7 hM (fun j _ => (fun _ => rfl) j) (fun j _ => (fun _ => rfl) j) (fun j _ => (fun _ => rfl) j) (fun j _ _ => (fun _ => rfl) j) | (exfalso; omega)) (by first | exact hI | exact LWL_k hd8 hM2 (fun j _ => (fun _ => rfl) j) (fun j _ => (fun _ => rfl) j) (fun j _ => (fun _ => rfl) j) (fun j _ _ => (fun _ => rfl) j) | (exfalso; omega)) (by first | exact hI | exact CHL_k hd9 hM (fun j _ => (fun _ => rfl) j) (by omega) (fun j _ _ => (fun _ => rfl) j) | (exfalso; omega)) (by first | exact hI | exact CHL_k hd10 hM2 (fun j _ => (fun _ => rfl) j) (by omega) (fun j _ _ => (fun _ => rfl) j) | (exfalso; omega)) (by first | exact hI | exact ANL_k hd11 hM (fun j _ => (fun _ => rfl) j) (by omega) (by omega) (by omega) (fun j _ _ => (fun _ => rfl) j) | (exfalso; omega)) (by first | exact hI | exact ANL_k hd12 hM2 (fun j _ => (fun _ => rfl) j) (by omega) (by omega) (by omega) (fun j _ _ => (fun _ => rfl) j) | (exfalso; omega))
    · skip
      refine go_toq PM267 (k := 2) (pc' := 1435) (L' := [some (.inr (.inr (some 3000))), some (.inr (.inr (some 0))), some (.inr (.inr (some 79))), some (.inl i)]) (st' := []) (w' := (SH, dt)) rfl ?_
      exact K dt hI hM hM2 hk0 hk1 hk2 hk3 hk4 hk5 hk6 hk7 hk8 hk9 hk10 hk11 hk12 hk13 hk14 hk15 (by first | exact hI | exact TPL_k hd0 (fun _ => rfl) (fun _ => rfl) (by omega) | (exfalso; omega)) (by first | exact hI | exact SCL_k hd1 hM (fun j _ => (fun _ => rfl) j) (fun j _ => (fun _ => rfl) j) (fun j _ _ => (fun _ => rfl) j) | (exfalso; omega)) (by first | exact hI | exact SCL_k hd2 hM2 (fun j _ => (fun _ => rfl) j) (fun j _ => (fun _ => rfl) j) (fun j _ _ => (fun _ => rfl) j) | (exfalso; omega)) (by first | exact hI | exact QRL_k hd3 hM (fun j _ => (fun _ => rfl) j) ((fun _ => rfl) 1) (fun j _ _ => (fun _ => rfl) j) | (exfalso; omega)) (by first | exact hI | exact QRL_k hd4 hM2 (fun j _ => (fun _ => rfl) j) ((fun _ => rfl) 1) (fun j _ _ => (fun _ => rfl) j) | (exfalso; omega)) (by first | exact hI | exact SDL_k hd5 hM (fun j _ => (fun _ => rfl) j) ((fun _ => rfl) 1) (fun j _ _ => (fun _ => rfl) j) (fun j _ _ => (fun _ => rfl) j) | (exfalso; omega)) (by first | exact hI | exact SDL_k hd6 hM2 (fun j _ => (fun _ => rfl) j) ((fun _ => rfl) 1) (fun j _ _ => (fun _ => rfl) j) (fun j _ _ => (fun _ => rfl) j) | (exfalso; omega)) (by first | exact hI | exact LWL_k hd7 hM (fun j _ => (fun _ => rfl) j) (fun j _ => (fun _ => rfl) j) (fun j _ => (fun _ => rfl) j) (fun j _ _ => (fun _ => rfl) j) | (exfalso; omega)) (by first | exact hI | exact LWL_k hd8 hM2 (fun j _ => (fun _ => rfl) j) (fun j _ => (fun _ => rfl) j) (fun j _ => (fun _ => rfl) j) (fun j _ _ => (fun _ => rfl) j) | (exfalso; omega)) (by first | exact hI | exact CHL_k hd9 hM (fun j _ => (fun _ => rfl) j) (by omega) (fun j _ _ => (fun _ => rfl) j) | (exfalso; omega)) (by first | exact hI | exact CHL_k hd10 hM2 (fun j _ => (fun _ => rfl) j) (by omega) (fun j _ _ => (fun _ => rfl) j) | (exfalso; omega)) (by first | exact hI | exact ANL_k hd11 hM (fun j _ => (fun _ => rfl) j) (by omega) (by omega) (by omega) (fun j _ _ => (fun _ => rfl) j) | (exfalso; omega)) (by first | exact hI | exact ANL_k hd12 hM2 (fun j _ => (fun _ => rfl) j) (by omega) (by omega) (by omega) (fun j _ _ => (fun _ => rfl) j) | (exfalso; omega))
  · skip
    refine go_toq PM267 (k := 6) (pc' := 1427) (L' := [some (.inr (.inr (some 3000))), some (.inr (.inr (some 0))), some (.inr (.inr (some 79))), some (.inl i)]) (st' := [.inl (i + 1), .inr (.inr (some 3000)), .inr (.inr (some 79))]) (w' := (SH, dt)) rfl ?_
    refine go_smpq PM267 (L' := [some (.inr (.inr (some 3000))), some (.inr (.inr (some 0))), some (.inr (.inr (some 79))), some (.inl i)]) (st' := [.inl ((xs ((i + 1).toNat)).toInt), .inr (.inr (some 79))]) (w' := (SH, dt)) rfl rfl (s_iald (n := L) (f := fun j => (xs j).toInt) (am_scr hLL) ⟨by omega, by omega⟩) ?_
    refine go_callq PM267 PM248 (Q' := _) rfl rfl rfl rfl (sp_X6_look L xs sio (d + 38) dt hI  ((xs ((i + 1).toNat)).toInt) ⟨by omega, by omega⟩ ) ?_
    rintro _ _ ⟨rfl, h8⟩
    refine ⟨rfl, ?_⟩
    rcases h8 with ⟨rfl, h8⟩ | ⟨rfl, h8⟩ | ⟨rfl, h8⟩ | ⟨rfl, h8⟩ | ⟨rfl, h8⟩ | ⟨rfl, h8⟩ | ⟨rfl, h8⟩ | ⟨rfl, h8⟩ | ⟨rfl, h8⟩
    · skip
      refine go_toq PM267 (k := 2) (pc' := 1435) (L' := [some (.inr (.inr (some 3000))), some (.inr (.inr (some 0))), some (.inr (.inr (some 79))), some (.inl i)]) (st' := []) (w' := (SH, dt)) rfl ?_
      exact K dt hI hM hM2 hk0 hk1 hk2 hk3 hk4 hk5 hk6 hk7 hk8 hk9 hk10 hk11 hk12 hk13 hk14 hk15 (by first | exact hI | exact TPL_k hd0 (fun _ => rfl) (fun _ => rfl) (by omega) | (exfalso; omega)) (by first | exact hI | exact SCL_k hd1 hM (fun j _ => (fun _ => rfl) j) (fun j _ => (fun _ => rfl) j) (fun j _ _ => (fun _ => rfl) j) | (exfalso; omega)) (by first | exact hI | exact SCL_k hd2 hM2 (fun j _ => (fun _ => rfl) j) (fun j _ => (fun _ => rfl) j) (fun j _ _ => (fun _ => rfl) j) | (exfalso; omega)) (by first | exact hI | exact QRL_k hd3 hM (fun j _ => (fun _ => rfl) j) ((fun _ => rfl) 1) (fun j _ _ => (fun _ => rfl) j) | (exfalso; omega)) (by first | exact hI | exact QRL_k hd4 hM2 (fun j _ => (fun _ => rfl) j) ((fun _ => rfl) 1) (fun j _ _ => (fun _ => rfl) j) | (exfalso; omega)) (by first | exact hI | exact SDL_k hd5 hM (fun j _ => (fun _ => rfl) j) ((fun _ => rfl) 1) (fun j _ _ => (fun _ => rfl) j) (fun j _ _ => (fun _ => rfl) j) | (exfalso; omega)) (by first | exact hI | exact SDL_k hd6 hM2 (fun j _ => (fun _ => rfl) j) ((fun _ => rfl) 1) (fun j _ _ => (fun _ => rfl) j) (fun j _ _ => (fun _ => rfl) j) | (exfalso; omega)) (by first | exact hI | exact LWL_k hd7 hM (fun j _ => (fun _ => rfl) j) (fun j _ => (fun _ => rfl) j) (fun j _ => (fun _ => rfl) j) (fun j _ _ => (fun _ => rfl) j) | (exfalso; omega)) (by first | exact hI | exact LWL_k hd8 hM2 (fun j _ => (fun _ => rfl) j) (fun j _ => (fun _ => rfl) j) (fun j _ => (fun _ => rfl) j) (fun j _ _ => (fun _ => rfl) j) | (exfalso; omega)) (by first | exact hI | exact CHL_k hd9 hM (fun j _ => (fun _ => rfl) j) (by omega) (fun j _ _ => (fun _ => rfl) j) | (exfalso; omega)) (by first | exact hI | exact CHL_k hd10 hM2 (fun j _ => (fun _ => rfl) j) (by omega) (fun j _ _ => (fun _ => rfl) j) | (exfalso; omega)) (by first | exact hI | exact ANL_k hd11 hM (fun j _ => (fun _ => rfl) j) (by omega) (by omega) (by omega) (fun j _ _ => (fun _ => rfl) j) | (exfalso; omega)) (by first | exact hI | exact ANL_k hd12 hM2 (fun j _ => (fun _ => rfl) j) (by omega) (by omega) (by omega) (fun j _ _ => (fun _ => rfl) j) | (exfalso; omega))
    · skip
      refine go_toq PM267 (k := 2) (pc' := 1435) (L' := [some (.inr (.inr (some 3000))), some (.inr (.inr (some 0))), some (.inr (.inr (some 79))), some (.inl i)]) (st' := []) (w' := (SH, dt)) rfl ?_
      exact K dt hI hM hM2 hk0 hk1 hk2 hk3 hk4 hk5 hk6 hk7 hk8 hk9 hk10 hk11 hk12 hk13 hk14 hk15 (by first | exact hI | exact TPL_k hd0 (fun _ => rfl) (fun _ => rfl) (by omega) | (exfalso; omega)) (by first | exact hI | exact SCL_k hd1 hM (fun j _ => (fun _ => rfl) j) (fun j _ => (fun _ => rfl) j) (fun j _ _ => (fun _ => rfl) j) | (exfalso; omega)) (by first | exact hI | exact SCL_k hd2 hM2 (fun j _ => (fun _ => rfl) j) (fun j _ => (fun _ => rfl) j) (fun j _ _ => (fun _ => rfl) j) | (exfalso; omega)) (by first | exact hI | exact QRL_k hd3 hM (fun j _ => (fun _ => rfl) j) ((fun _ => rfl) 1) (fun j _ _ => (fun _ => rfl) j) | (exfalso; omega)) (by first | exact hI | exact QRL_k hd4 hM2 (fun j _ => (fun _ => rfl) j) ((fun _ => rfl) 1) (fun j _ _ => (fun _ => rfl) j) | (exfalso; omega)) (by first | exact hI | exact SDL_k hd5 hM (fun j _ => (fun _ => rfl) j) ((fun _ => rfl) 1) (fun j _ _ => (fun _ => rfl) j) (fun j _ _ => (fun _ => rfl) j) | (exfalso; omega)) (by first | exact hI | exact SDL_k hd6 hM2 (fun j _ => (fun _ => rfl) j) ((fun _ => rfl) 1) (fun j _ _ => (fun _ => rfl) j) (fun j _ _ => (fun _ => rfl) j) | (exfalso; omega)) (by first | exact hI | exact LWL_k hd7 hM (fun j _ => (fun _ => rfl) j) (fun j _ => (fun _ => rfl) j) (fun j _ => (fun _ => rfl) j) (fun j _ _ => (fun _ => rfl) j) | (exfalso; omega)) (by first | exact hI | exact LWL_k hd8 hM2 (fun j _ => (fun _ => rfl) j) (fun j _ => (fun _ => rfl) j) (fun j _ => (fun _ => rfl) j) (fun j _ _ => (fun _ => rfl) j) | (exfalso; omega)) (by first | exact hI | exact CHL_k hd9 hM (fun j _ => (fun _ => rfl) j) (by omega) (fun j _ _ => (fun _ => rfl) j) | (exfalso; omega)) (by first | exact hI | exact CHL_k hd10 hM2 (fun j _ => (fun _ => rfl) j) (by omega) (fun j _ _ => (fun _ => rfl) j) | (exfalso; omega)) (by first | exact hI | exact ANL_k hd11 hM (fun j _ => (fun _ => rfl) j) (by omega) (by omega) (by omega) (fun j _ _ => (fun _ => rfl) j) | (exfalso; omega)) (by first | exact hI | exact ANL_k hd12 hM2 (fun j _ => (fun _ => rfl) j) (by omega) (by omega) (by omega) (fun j _ _ => (fun _ => rfl) j) | (exfalso; omega))
    · skip
      refine go_toq PM267 (k := 2) (pc' := 1435) (L' := [some (.inr (.inr (some 3000))), some (.inr (.inr (some 0))), some (.inr (.inr (some 79))), some (.inl i)]) (st' := []) (w' := (SH, dt)) rfl ?_
      exact K dt hI hM hM2 hk0 hk1 hk2 hk3 hk4 hk5 hk6 hk7 hk8 hk9 hk10 hk11 hk12 hk13 hk14 hk15 (by first | exact hI | exact TPL_k hd0 (fun _ => rfl) (fun _ => rfl) (by omega) | (exfalso; omega)) (by first | exact hI | exact SCL_k hd1 hM (fun j _ => (fun _ => rfl) j) (fun j _ => (fun _ => rfl) j) (fun j _ _ => (fun _ => rfl) j) | (exfalso; omega)) (by first | exact hI | exact SCL_k hd2 hM2 (fun j _ => (fun _ => rfl) j) (fun j _ => (fun _ => rfl) j) (fun j _ _ => (fun _ => rfl) j) | (exfalso; omega)) (by first | exact hI | exact QRL_k hd3 hM (fun j _ => (fun _ => rfl) j) ((fun _ => rfl) 1) (fun j _ _ => (fun _ => rfl) j) | (exfalso; omega)) (by first | exact hI | exact QRL_k hd4 hM2 (fun j _ => (fun _ => rfl) j) ((fun _ => rfl) 1) (fun j _ _ => (fun _ => rfl) j) | (exfalso; omega)) (by first | exact hI | exact SDL_k hd5 hM (fun j _ => (fun _ => rfl) j) ((fun _ => rfl) 1) (fun j _ _ => (fun _ => rfl) j) (fun j _ _ => (fun _ => rfl) j) | (exfalso; omega)) (by first | exact hI | exact SDL_k hd6 hM2 (fun j _ => (fun _ => rfl) j) ((fun _ => rfl) 1) (fun j _ _ => (fun _ => rfl) j) (fun j _ _ => (fun _ => rfl) j) | (exfalso; omega)) (by first | exact hI | exact LWL_k hd7 hM (fun j _ => (fun _ => rfl) j) (fun j _ => (fun _ => rfl) j) (fun j _ => (fun _ => rfl) j) (fun j _ _ => (fun _ => rfl) j) | (exfalso; omega)) (by first | exact hI | exact LWL_k hd8 hM2 (fun j _ => (fun _ => rfl) j) (fun j _ => (fun _ => rfl) j) (fun j _ => (fun _ => rfl) j) (fun j _ _ => (fun _ => rfl) j) | (exfalso; omega)) (by first | exact hI | exact CHL_k hd9 hM (fun j _ => (fun _ => rfl) j) (by omega) (fun j _ _ => (fun _ => rfl) j) | (exfalso; omega)) (by first | exact hI | exact CHL_k hd10 hM2 (fun j _ => (fun _ => rfl) j) (by omega) (fun j _ _ => (fun _ => rfl) j) | (exfalso; omega)) (by first | exact hI | exact ANL_k hd11 hM (fun j _ => (fun _ => rfl) j) (by omega) (by omega) (by omega) (fun j _ _ => (fun _ => rfl) j) | (exfalso; omega)) (by first | exact hI | exact ANL_k hd12 hM2 (fun j _ => (fun _ => rfl) j) (by omega) (by omega) (by omega) (fun j _ _ => (fun _ => rfl) j) | (exfalso; omega))
    · skip
      refine go_toq PM267 (k := 2) (pc' := 1435) (L' := [some (.inr (.inr (some 3000))), some (.inr (.inr (some 0))), some (.inr (.inr (some 79))), some (.inl i)]) (st' := []) (w' := (SH, dt)) rfl ?_
      exact K dt hI hM hM2 hk0 hk1 hk2 hk3 hk4 hk5 hk6 hk7 hk8 hk9 hk10 hk11 hk12 hk13 hk14 hk15 (by first | exact hI | exact TPL_k hd0 (fun _ => rfl) (fun _ => rfl) (by omega) | (exfalso; omega)) (by first | exact hI | exact SCL_k hd1 hM (fun j _ => (fun _ => rfl) j) (fun j _ => (fun _ => rfl) j) (fun j _ _ => (fun _ => rfl) j) | (exfalso; omega)) (by first | exact hI | exact SCL_k hd2 hM2 (fun j _ => (fun _ => rfl) j) (fun j _ => (fun _ => rfl) j) (fun j _ _ => (fun _ => rfl) j) | (exfalso; omega)) (by first | exact hI | exact QRL_k hd3 hM (fun j _ => (fun _ => rfl) j) ((fun _ => rfl) 1) (fun j _ _ => (fun _ => rfl) j) | (exfalso; omega)) (by first | exact hI | exact QRL_k hd4 hM2 (fun j _ => (fun _ => rfl) j) ((fun _ => rfl) 1) (fun j _ _ => (fun _ => rfl) j) | (exfalso; omega)) (by first | exact hI | exact SDL_k hd5 hM (fun j _ => (fun _ => rfl) j) ((fun _ => rfl) 1) (fun j _ _ => (fun _ => rfl) j) (fun j _ _ => (fun _ => rfl) j) | (exfalso; omega)) (by first | exact hI | exact SDL_k hd6 hM2 (fun j _ => (fun _ => rfl) j) ((fun _ => rfl) 1) (fun j _ _ => (fun _ => rfl) j) (fun j _ _ => (fun _ => rfl) j) | (exfalso; omega)) (by first | exact hI | exact LWL_k hd7 hM (fun j _ => (fun _ => rfl) j) (fun j _ => (fun _ => rfl) j) (fun j _ => (fun _ => rfl) j) (fun j _ _ => (fun _ => rfl) j) | (exfalso; omega)) (by first | exact hI | exact LWL_k hd8 hM2 (fun j _ => (fun _ => rfl) j) (fun j _ => (fun _ => rfl) j) (fun j _ => (fun _ => rfl) j) (fun j _ _ => (fun _ => rfl) j) | (exfalso; omega)) (by first | exact hI | exact CHL_k hd9 hM (fun j _ => (fun _ => rfl) j) (by omega) (fun j _ _ => (fun _ => rfl) j) | (exfalso; omega)) (by first | exact hI | exact CHL_k hd10 hM2 (fun j _ => (fun _ => rfl) j) (by omega) (fun j _ _ => (fun _ => rfl) j) | (exfalso; omega)) (by first | exact hI | exact ANL_k hd11 hM (fun j _ => (fun _ => rfl) j) (by omega) (by omega) (by omega) (fun j _ _ => (fun _ => rfl) j) | (exfalso; omega)) (by first | exact hI | exact ANL_k hd12 hM2 (fun j _ => (fun _ => rfl) j) (by omega) (by omega) (by omega) (fun j _ _ => (fun _ => rfl) j) | (exfalso; omega))
    · skip
      refine go_toq PM267 (k := 2) (pc' := 1435) (L' := [some (.inr (.inr (some 3000))), some (.inr (.inr (some 0))), some (.inr (.inr (some 79))), some (.inl i)]) (st' := []) (w' := (SH, dt)) rfl ?_
      exact K dt hI hM hM2 hk0 hk1 hk2 hk3 hk4 hk5 hk6 hk7 hk8 hk9 hk10 hk11 hk12 hk13 hk14 hk15 (by first | exact hI | exact TPL_k hd0 (fun _ => rfl) (fun _ => rfl) (by omega) | (exfalso; omega)) (by first | exact hI | exact SCL_k hd1 hM (fun j _ => (fun _ => rfl) j) (fun j _ => (fun _ => rfl) j) (fun j _ _ => (fun _ => rfl) j) | (exfalso; omega)) (by first | exact hI | exact SCL_k hd2 hM2 (fun j _ => (fun _ => rfl) j) (fun j _ => (fun _ => rfl) j) (fun j _ _ => (fun _ => rfl) j) | (exfalso; omega)) (by first | exact hI | exact QRL_k hd3 hM (fun j _ => (fun _ => rfl) j) ((fun _ => rfl) 1) (fun j _ _ => (fun _ => rfl) j) | (exfalso; omega)) (by first | exact hI | exact QRL_k hd4 hM2 (fun j _ => (fun _ => rfl) j) ((fun _ => rfl) 1) (fun j _ _ => (fun _ => rfl) j) | (exfalso; omega)) (by first | exact hI | exact SDL_k hd5 hM (fun j _ => (fun _ => rfl) j) ((fun _ => rfl) 1) (fun j _ _ => (fun _ => rfl) j) (fun j _ _ => (fun _ => rfl) j) | (exfalso; omega)) (by first | exact hI | exact SDL_k hd6 hM2 (fun j _ => (fun _ => rfl) j) ((fun _ => rfl) 1) (fun j _ _ => (fun _ => rfl) j) (fun j _ _ => (fun _ => rfl) j) | (exfalso; omega)) (by first | exact hI | exact LWL_k hd7 hM (fun j _ => (fun _ => rfl) j) (fun j _ => (fun _ => rfl) j) (fun j _ => (fun _ => rfl) j) (fun j _ _ => (fun _ => rfl) j) | (exfalso; omega)) (by first | exact hI | exact LWL_k hd8 hM2 (fun j _ => (fun _ => rfl) j) (fun j _ => (fun _ => rfl) j) (fun j _ => (fun _ => rfl) j) (fun j _ _ => (fun _ => rfl) j) | (exfalso; omega)) (by first | exact hI | exact CHL_k hd9 hM (fun j _ => (fun _ => rfl) j) (by omega) (fun j _ _ => (fun _ => rfl) j) | (exfalso; omega)) (by first | exact hI | exact CHL_k hd10 hM2 (fun j _ => (fun _ => rfl) j) (by omega) (fun j _ _ => (fun _ => rfl) j) | (exfalso; omega)) (by first | exact hI | exact ANL_k hd11 hM (fun j _ => (fun _ => rfl) j) (by omega) (by omega) (by omega) (fun j _ _ => (fun _ => rfl) j) | (exfalso; omega)) (by first | exact hI | exact ANL_k hd12 hM2 (fun j _ => (fun _ => rfl) j) (by omega) (by omega) (by omega) (fun j _ _ => (fun _ => rfl) j) | (exfalso; omega))
    · skip
      refine go_toq PM267 (k := 2) (pc' := 1435) (L' := [some (.inr (.inr (some 3000))), some (.inr (.inr (some 0))), some (.inr (.inr (some 79))), some (.inl i)]) (st' := []) (w' := (SH, dt)) rfl ?_
      exact K dt hI hM hM2 hk0 hk1 hk2 hk3 hk4 hk5 hk6 hk7 hk8 hk9 hk10 hk11 hk12 hk13 hk14 hk15 (by first | exact hI | exact TPL_k hd0 (fun _ => rfl) (fun _ => rfl) (by omega) | (exfalso; omega)) (by first | exact hI | exact SCL_k hd1 hM (fun j _ => (fun _ => rfl) j) (fun j _ => (fun _ => rfl) j) (fun j _ _ => (fun _ => rfl) j) | (exfalso; omega)) (by first | exact hI | exact SCL_k hd2 hM2 (fun j _ => (fun _ => rfl) j) (fun j _ => (fun _ => rfl) j) (fun j _ _ => (fun _ => rfl) j) | (exfalso; omega)) (by first | exact hI | exact QRL_k hd3 hM (fun j _ => (fun _ => rfl) j) ((fun _ => rfl) 1) (fun j _ _ => (fun _ => rfl) j) | (exfalso; omega)) (by first | exact hI | exact QRL_k hd4 hM2 (fun j _ => (fun _ => rfl) j) ((fun _ => rfl) 1) (fun j _ _ => (fun _ => rfl) j) | (exfalso; omega)) (by first | exact hI | exact SDL_k hd5 hM (fun j _ => (fun _ => rfl) j) ((fun _ => rfl) 1) (fun j _ _ => (fun _ => rfl) j) (fun j _ _ => (fun _ => rfl) j) | (exfalso; omega)) (by first | exact hI | exact SDL_k hd6 hM2 (fun j _ => (fun _ => rfl) j) ((fun _ => rfl) 1) (fun j _ _ => (fun _ => rfl) j) (fun j _ _ => (fun _ => rfl) j) | (exfalso; omega)) (by first | exact hI | exact LWL_k hd7 hM (fun j _ => (fun _ => rfl) j) (fun j _ => (fun _ => rfl) j) (fun j _ => (fun _ => rfl) j) (fun j _ _ => (fun _ => rfl) j) | (exfalso; omega)) (by first | exact hI | exact LWL_k hd8 hM2 (fun j _ => (fun _ => rfl) j) (fun j _ => (fun _ => rfl) j) (fun j _ => (fun _ => rfl) j) (fun j _ _ => (fun _ => rfl) j) | (exfalso; omega)) (by first | exact hI | exact CHL_k hd9 hM (fun j _ => (fun _ => rfl) j) (by omega) (fun j _ _ => (fun _ => rfl) j) | (exfalso; omega)) (by first | exact hI | exact CHL_k hd10 hM2 (fun j _ => (fun _ => rfl) j) (by omega) (fun j _ _ => (fun _ => rfl) j) | (exfalso; omega)) (by first | exact hI | exact ANL_k hd11 hM (fun j _ => (fun _ => rfl) j) (by omega) (by omega) (by omega) (fun j _ _ => (fun _ => rfl) j) | (exfalso; omega)) (by first | exact hI | exact ANL_k hd12 hM2 (fun j _ => (fun _ => rfl) j) (by omega) (by omega) (by omega) (fun j _ _ => (fun _ => rfl) j) | (exfalso; omega))
    · skip
      obtain ⟨h8_0, h8_1⟩ := h8
      replace h8_1 := hid h8_1
      refine go_toq PM267 (k := 2) (pc' := 1435) (L' := [some (.inr (.inr (some 3000))), some (.inr (.inr (some 0))), some (.inr (.inr (some 79))), some (.inl i)]) (st' := []) (w' := (SH, dt)) rfl ?_
      exact K dt hI hM hM2 hk0 hk1 hk2 hk3 hk4 hk5 hk6 hk7 hk8 hk9 hk10 hk11 hk12 hk13 hk14 hk15 (by first | exact hI | exact TPL_k hd0 (fun _ => rfl) (fun _ => rfl) (by (first | omega | (have z0_ := unhid h8_1; omega))) | (exfalso; (first | omega | (have z0_ := unhid h8_1; omega)))) (by first | exact hI | exact SCL_k hd1 hM (fun j _ => (fun _ => rfl) j) (fun j _ => (fun _ => rfl) j) (fun j _ _ => (fun _ => rfl) j) | (exfalso; (first | omega | (have z0_ := unhid h8_1; omega)))) (by first | exact hI | exact SCL_k hd2 hM2 (fun j _ => (fun _ => rfl) j) (fun j _ => (fun _ => rfl) j) (fun j _ _ => (fun _ => rfl) j) | (exfalso; (first | omega | (have z0_ := unhid h8_1; omega)))) (by first | exact hI | exact QRL_k hd3 hM (fun j _ => (fun _ => rfl) j) ((fun _ => rfl) 1) (fun j _ _ => (fun _ => rfl) j) | (exfalso; (first | omega | (have z0_ := unhid h8_1; omega)))) (by first | exact hI | exact QRL_k hd4 hM2 (fun j _ => (fun _ => rfl) j) ((fun _ => rfl) 1) (fun j _ _ => (fun _ => rfl) j) | (exfalso; (first | omega | (have z0_ := unhid h8_1; omega)))) (by first | exact hI | exact SDL_k hd5 hM (fun j _ => (fun _ => rfl) j) ((fun _ => rfl) 1) (fun j _ _ => (fun _ => rfl) j) (fun j _ _ => (fun _ => rfl) j) | (exfalso; (first | omega | (have z0_ := unhid h8_1; omega)))) (by first | exact hI | exact SDL_k hd6 hM2 (fun j _ => (fun _ => rfl) j) ((fun _ => rfl) 1) (fun j _ _ => (fun _ => rfl) j) (fun j _ _ => (fun _ => rfl) j) | (exfalso; (first | omega | (have z0_ := unhid h8_1; omega)))) (by first | exact hI | exact LWL_k hd7 hM (fun j _ => (fun _ => rfl) j) (fun j _ => (fun _ => rfl) j) (fun j _ => (fun _ => rfl) j) (fun j _ _ => (fun _ => rfl) j) | (exfalso; (first | omega | (have z0_ := unhid h8_1; omega)))) (by first | exact hI | exact LWL_k hd8 hM2 (fun j _ => (fun _ => rfl) j) (fun j _ => (fun _ => rfl) j) (fun j _ => (fun _ => rfl) j) (fun j _ _ => (fun _ => rfl) j) | (exfalso; (first | omega | (have z0_ := unhid h8_1; omega)))) (by first | exact hI | exact CHL_k hd9 hM (fun j _ => (fun _ => rfl) j) (by (first | omega | (have z0_ := unhid h8_1; omega))) (fun j _ _ => (fun _ => rfl) j) | (exfalso; (first | omega | (have z0_ := unhid h8_1; omega)))) (by first | exact hI | exact CHL_k hd10 hM2 (fun j _ => (fun _ => rfl) j) (by (first | omega | (have z0_ := unhid h8_1; omega))) (fun j _ _ => (fun _ => rfl) j) | (exfalso; (first | omega | (have z0_ := unhid h8_1; omega)))) (by first | exact hI | exact ANL_k hd11 hM (fun j _ => (fun _ => rfl) j) (by (first | omega | (have z0_ := unhid h8_1; omega))) (by (first | omega | (have z0_ := unhid h8_1; omega))) (by (first | omega | (have z0_ := unhid h8_1; omega))) (fun j _ _ => (fun _ => rfl) j) | (exfalso; (first | omega | (have z0_ := unhid h8_1; omega)))) (by first | exact hI | exact ANL_k hd12 hM2 (fun j _ => (fun _ => rfl) j) (by (first | omega | (have z0_ := unhid h8_1; omega))) (by (first | omega | (have z0_ := unhid h8_1; omega))) (by (first | omega | (have z0_ := unhid h8_1; omega))) (fun j _ _ => (fun _ => rfl) j) | (exfalso; (first | omega | (have z0_ := unhid h8_1; omega))))
    · skip
      obtain ⟨h8_0, h8_1⟩ := h8
      refine go_toq PM267 (k := 2) (pc' := 1435) (L' := [some (.inr (.inr (some 3000))), some (.inr (.inr (some 0))), some (.inr (.inr (some 79))), some (.inl i)]) (st' := []) (w' := (SH, dt)) rfl ?_
      exact K dt hI hM hM2 hk0 hk1 hk2 hk3 hk4 hk5 hk6 hk7 hk8 hk9 hk10 hk11 hk12 hk13 hk14 hk15 (by first | exact hI | exact TPL_k hd0 (fun _ => rfl) (fun _ => rfl) (by omega) | (exfalso; omega)) (by first | exact hI | exact SCL_k hd1 hM (fun j _ => (fun _ => rfl) j) (fun j _ => (fun _ => rfl) j) (fun j _ _ => (fun _ => rfl) j) | (exfalso; omega)) (by first | exact hI | exact SCL_k hd2 hM2 (fun j _ => (fun _ => rfl) j) (fun j _ => (fun _ => rfl) j) (fun j _ _ => (fun _ => rfl) j) | (exfalso; omega)) (by first | exact hI | exact QRL_k hd3 hM (fun j _ => (fun _ => rfl) j) ((fun _ => rfl) 1) (fun j _ _ => (fun _ => rfl) j) | (exfalso; omega)) (by first | exact hI | exact QRL_k hd4 hM2 (fun j _ => (fun _ => rfl) j) ((fun _ => rfl) 1) (fun j _ _ => (fun _ => rfl) j) | (exfalso; omega)) (by first | exact hI | exact SDL_k hd5 hM (fun j _ => (fun _ => rfl) j) ((fun _ => rfl) 1) (fun j _ _ => (fun _ => rfl) j) (fun j _ _ => (fun _ => rfl) j) | (exfalso; omega)) (by first | exact hI | exact SDL_k hd6 hM2 (fun j _ => (fun _ => rfl) j) ((fun _ => rfl) 1) (fun j _ _ => (fun _ => rfl) j) (fun j _ _ => (fun _ => rfl) j) | (exfalso; omega)) (by first | exact hI | exact LWL_k hd7 hM (fun j _ => (fun _ => rfl) j) (fun j _ => (fun _ => rfl) j) (fun j _ => (fun _ => rfl) j) (fun j _ _ => (fun _ => rfl) j) | (exfalso; omega)) (by first | exact hI | exact LWL_k hd8 hM2 (fun j _ => (fun _ => rfl) j) (fun j _ => (fun _ => rfl) j) (fun j _ => (fun _ => rfl) j) (fun j _ _ => (fun _ => rfl) j) | (exfalso; omega)) (by first | exact hI | exact CHL_k hd9 hM (fun j _ => (fun _ => rfl) j) (by omega) (fun j _ _ => (fun _ => rfl) j) | (exfalso; omega)) (by first | exact hI | exact CHL_k hd10 hM2 (fun j _ => (fun _ => rfl) j) (by omega) (fun j _ _ => (fun _ => rfl) j) | (exfalso; omega)) (by first | exact hI | exact ANL_k hd11 hM (fun j _ => (fun _ => rfl) j) (by omega) (by omega) (by omega) (fun j _ _ => (fun _ => rfl) j) | (exfalso; omega)) (by first | exact hI | exact ANL_k hd12 hM2 (fun j _ => (fun _ => rfl) j) (by omega) (by omega) (by omega) (fun j _ _ => (fun _ => rfl) j) | (exfalso; omega))
    · skip
      refine go_toq PM267 (k := 2) (pc' := 1435) (L' := [some (.inr (.inr (some 3000))), some (.inr (.inr (some 0))), some (.inr (.inr (some 79))), some (.inl i)]) (st' := []) (w' := (SH, dt)) rfl ?_
      exact K dt hI hM hM2 hk0 hk1 hk2 hk3 hk4 hk5 hk6 hk7 hk8 hk9 hk10 hk11 hk12 hk13 hk14 hk15 (by first | exact hI | exact TPL_k hd0 (fun _ => rfl) (fun _ => rfl) (by omega) | (exfalso; omega)) (by first | exact hI | exact SCL_k hd1 hM (fun j _ => (fun _ => rfl) j) (fun j _ => (fun _ => rfl) j) (fun j _ _ => (fun _ => rfl) j) | (exfalso; omega)) (by first | exact hI | exact SCL_k hd2 hM2 (fun j _ => (fun _ => rfl) j) (fun j _ => (fun _ => rfl) j) (fun j _ _ => (fun _ => rfl) j) | (exfalso; omega)) (by first | exact hI | exact QRL_k hd3 hM (fun j _ => (fun _ => rfl) j) ((fun _ => rfl) 1) (fun j _ _ => (fun _ => rfl) j) | (exfalso; omega)) (by first | exact hI | exact QRL_k hd4 hM2 (fun j _ => (fun _ => rfl) j) ((fun _ => rfl) 1) (fun j _ _ => (fun _ => rfl) j) | (exfalso; omega)) (by first | exact hI | exact SDL_k hd5 hM (fun j _ => (fun _ => rfl) j) ((fun _ => rfl) 1) (fun j _ _ => (fun _ => rfl) j) (fun j _ _ => (fun _ => rfl) j) | (exfalso; omega)) (by first | exact hI | exact SDL_k hd6 hM2 (fun j _ => (fun _ => rfl) j) ((fun _ => rfl) 1) (fun j _ _ => (fun _ => rfl) j) (fun j _ _ => (fun _ => rfl) j) | (exfalso; omega)) (by first | exact hI | exact LWL_k hd7 hM (fun j _ => (fun _ => rfl) j) (fun j _ => (fun _ => rfl) j) (fun j _ => (fun _ => rfl) j) (fun j _ _ => (fun _ => rfl) j) | (exfalso; omega)) (by first | exact hI | exact LWL_k hd8 hM2 (fun j _ => (fun _ => rfl) j) (fun j _ => (fun _ => rfl) j) (fun j _ => (fun _ => rfl) j) (fun j _ _ => (fun _ => rfl) j) | (exfalso; omega)) (by first | exact hI | exact CHL_k hd9 hM (fun j _ => (fun _ => rfl) j) (by omega) (fun j _ _ => (fun _ => rfl) j) | (exfalso; omega)) (by first | exact hI | exact CHL_k hd10 hM2 (fun j _ => (fun _ => rfl) j) (by omega) (fun j _ _ => (fun _ => rfl) j) | (exfalso; omega)) (by first | exact hI | exact ANL_k hd11 hM (fun j _ => (fun _ => rfl) j) (by omega) (by omega) (by omega) (fun j _ _ => (fun _ => rfl) j) | (exfalso; omega)) (by first | exact hI | exact ANL_k hd12 hM2 (fun j _ => (fun _ => rfl) j) (by omega) (by omega) (by omega) (fun j _ _ => (fun _ => rfl) j) | (exfalso; omega))
  · skip
    obtain ⟨h2_0, h2_1⟩ := h2
    refine go_toq PM267 (k := 6) (pc' := 1427) (L' := [some (.inr (.inr (some 3000))), some (.inr (.inr (some 0))), some (.inr (.inr (some 79))), some (.inl i)]) (st' := [.inl (i + 1), .inr (.inr (some 3000)), .inr (.inr (some 79))]) (w' := (SH, dt)) rfl ?_
    refine go_smpq PM267 (L' := [some (.inr (.inr (some 3000))), some (.inr (.inr (some 0))), some (.inr (.inr (some 79))), some (.inl i)]) (st' := [.inl ((xs ((i + 1).toNat)).toInt), .inr (.inr (some 79))]) (w' := (SH, dt)) rfl rfl (s_iald (n := L) (f := fun j => (xs j).toInt) (am_scr hLL) ⟨by omega, by omega⟩) ?_
    refine go_callq PM267 PM248 (Q' := _) rfl rfl rfl rfl (sp_X6_look L xs sio (d + 38) dt hI  ((xs ((i + 1).toNat)).toInt) ⟨by omega, by omega⟩ ) ?_
    rintro _ _ ⟨rfl, h9⟩
    refine ⟨rfl, ?_⟩
    rcases h9 with ⟨rfl, h9⟩ | ⟨rfl, h9⟩ | ⟨rfl, h9⟩ | ⟨rfl, h9⟩ | ⟨rfl, h9⟩ | ⟨rfl, h9⟩ | ⟨rfl, h9⟩ | ⟨rfl, h9⟩ | ⟨rfl, h9⟩
    · skip
      refine go_toq PM267 (k := 2) (pc' := 1435) (L' := [some (.inr (.inr (some 3000))), some (.inr (.inr (some 0))), some (.inr (.inr (some 79))), some (.inl i)]) (st' := []) (w' := (SH, dt)) rfl ?_
      exact K dt hI hM hM2 hk0 hk1 hk2 hk3 hk4 hk5 hk6 hk7 hk8 hk9 hk10 hk11 hk12 hk13 hk14 hk15 (by first | exact hI | exact TPL_k hd0 (fun _ => rfl) (fun _ => rfl) (by omega) | (exfalso; omega)) (by first | exact hI | exact SCL_k hd1 hM (fun j _ => (fun _ => rfl) j) (fun j _ => (fun _ => rfl) j) (fun j _ _ => (fun _ => rfl) j) | (exfalso; omega)) (by first | exact hI | exact SCL_k hd2 hM2 (fun j _ => (fun _ => rfl) j) (fun j _ => (fun _ => rfl) j) (fun j _ _ => (fun _ => rfl) j) | (exfalso; omega)) (by first | exact hI | exact QRL_k hd3 hM (fun j _ => (fun _ => rfl) j) ((fun _ => rfl) 1) (fun j _ _ => (fun _ => rfl) j) | (exfalso; omega)) (by first | exact hI | exact QRL_k hd4 hM2 (fun j _ => (fun _ => rfl) j) ((fun _ => rfl) 1) (fun j _ _ => (fun _ => rfl) j) | (exfalso; omega)) (by first | exact hI | exact SDL_k hd5 hM (fun j _ => (fun _ => rfl) j) ((fun _ => rfl) 1) (fun j _ _ => (fun _ => rfl) j) (fun j _ _ => (fun _ => rfl) j) | (exfalso; omega)) (by first | exact hI | exact SDL_k hd6 hM2 (fun j _ => (fun _ => rfl) j) ((fun _ => rfl) 1) (fun j _ _ => (fun _ => rfl) j) (fun j _ _ => (fun _ => rfl) j) | (exfalso; omega)) (by first | exact hI | exact LWL_k hd7 hM (fun j _ => (fun _ => rfl) j) (fun j _ => (fun _ => rfl) j) (fun j _ => (fun _ => rfl) j) (fun j _ _ => (fun _ => rfl) j) | (exfalso; omega)) (by first | exact hI | exact LWL_k hd8 hM2 (fun j _ => (fun _ => rfl) j) (fun j _ => (fun _ => rfl) j) (fun j _ => (fun _ => rfl) j) (fun j _ _ => (fun _ => rfl) j) | (exfalso; omega)) (by first | exact hI | exact CHL_k hd9 hM (fun j _ => (fun _ => rfl) j) (by omega) (fun j _ _ => (fun _ => rfl) j) | (exfalso; omega)) (by first | exact hI | exact CHL_k hd10 hM2 (fun j _ => (fun _ => rfl) j) (by omega) (fun j _ _ => (fun _ => rfl) j) | (exfalso; omega)) (by first | exact hI | exact ANL_k hd11 hM (fun j _ => (fun _ => rfl) j) (by omega) (by omega) (by omega) (fun j _ _ => (fun _ => rfl) j) | (exfalso; omega)) (by first | exact hI | exact ANL_k hd12 hM2 (fun j _ => (fun _ => rfl) j) (by omega) (by omega) (by omega) (fun j _ _ => (fun _ => rfl) j) | (exfalso; omega))
    · skip
      refine go_toq PM267 (k := 2) (pc' := 1435) (L' := [some (.inr (.inr (some 3000))), some (.inr (.inr (some 0))), some (.inr (.inr (some 79))), some (.inl i)]) (st' := []) (w' := (SH, dt)) rfl ?_
      exact K dt hI hM hM2 hk0 hk1 hk2 hk3 hk4 hk5 hk6 hk7 hk8 hk9 hk10 hk11 hk12 hk13 hk14 hk15 (by first | exact hI | exact TPL_k hd0 (fun _ => rfl) (fun _ => rfl) (by omega) | (exfalso; omega)) (by first | exact hI | exact SCL_k hd1 hM (fun j _ => (fun _ => rfl) j) (fun j _ => (fun _ => rfl) j) (fun j _ _ => (fun _ => rfl) j) | (exfalso; omega)) (by first | exact hI | exact SCL_k hd2 hM2 (fun j _ => (fun _ => rfl) j) (fun j _ => (fun _ => rfl) j) (fun j _ _ => (fun _ => rfl) j) | (exfalso; omega)) (by first | exact hI | exact QRL_k hd3 hM (fun j _ => (fun _ => rfl) j) ((fun _ => rfl) 1) (fun j _ _ => (fun _ => rfl) j) | (exfalso; omega)) (by first | exact hI | exact QRL_k hd4 hM2 (fun j _ => (fun _ => rfl) j) ((fun _ => rfl) 1) (fun j _ _ => (fun _ => rfl) j) | (exfalso; omega)) (by first | exact hI | exact SDL_k hd5 hM (fun j _ => (fun _ => rfl) j) ((fun _ => rfl) 1) (fun j _ _ => (fun _ => rfl) j) (fun j _ _ => (fun _ => rfl) j) | (exfalso; omega)) (by first | exact hI | exact SDL_k hd6 hM2 (fun j _ => (fun _ => rfl) j) ((fun _ => rfl) 1) (fun j _ _ => (fun _ => rfl) j) (fun j _ _ => (fun _ => rfl) j) | (exfalso; omega)) (by first | exact hI | exact LWL_k hd7 hM (fun j _ => (fun _ => rfl) j) (fun j _ => (fun _ => rfl) j) (fun j _ => (fun _ => rfl) j) (fun j _ _ => (fun _ => rfl) j) | (exfalso; omega)) (by first | exact hI | exact LWL_k hd8 hM2 (fun j _ => (fun _ => rfl) j) (fun j _ => (fun _ => rfl) j) (fun j _ => (fun _ => rfl) j) (fun j _ _ => (fun _ => rfl) j) | (exfalso; omega)) (by first | exact hI | exact CHL_k hd9 hM (fun j _ => (fun _ => rfl) j) (by omega) (fun j _ _ => (fun _ => rfl) j) | (exfalso; omega)) (by first | exact hI | exact CHL_k hd10 hM2 (fun j _ => (fun _ => rfl) j) (by omega) (fun j _ _ => (fun _ => rfl) j) | (exfalso; omega)) (by first | exact hI | exact ANL_k hd11 hM (fun j _ => (fun _ => rfl) j) (by omega) (by omega) (by omega) (fun j _ _ => (fun _ => rfl) j) | (exfalso; omega)) (by first | exact hI | exact ANL_k hd12 hM2 (fun j _ => (fun _ => rfl) j) (by omega) (by omega) (by omega) (fun j _ _ => (fun _ => rfl) j) | (exfalso; omega))
    · skip
      refine go_toq PM267 (k := 2) (pc' := 1435) (L' := [some (.inr (.inr (some 3000))), some (.inr (.inr (some 0))), some (.inr (.inr (some 79))), some (.inl i)]) (st' := []) (w' := (SH, dt)) rfl ?_
      exact K dt hI hM hM2 hk0 hk1 hk2 hk3 hk4 hk5 hk6 hk7 hk8 hk9 hk10 hk11 hk12 hk13 hk14 hk15 (by first | exact hI | exact TPL_k hd0 (fun _ => rfl) (fun _ => rfl) (by omega) | (exfalso; omega)) (by first | exact hI | exact SCL_k hd1 hM (fun j _ => (fun _ => rfl) j) (fun j _ => (fun _ => rfl) j) (fun j _ _ => (fun _ => rfl) j) | (exfalso; omega)) (by first | exact hI | exact SCL_k hd2 hM2 (fun j _ => (fun _ => rfl) j) (fun j _ => (fun _ => rfl) j) (fun j _ _ => (fun _ => rfl) j) | (exfalso; omega)) (by first | exact hI | exact QRL_k hd3 hM (fun j _ => (fun _ => rfl) j) ((fun _ => rfl) 1) (fun j _ _ => (fun _ => rfl) j) | (exfalso; omega)) (by first | exact hI | exact QRL_k hd4 hM2 (fun j _ => (fun _ => rfl) j) ((fun _ => rfl) 1) (fun j _ _ => (fun _ => rfl) j) | (exfalso; omega)) (by first | exact hI | exact SDL_k hd5 hM (fun j _ => (fun _ => rfl) j) ((fun _ => rfl) 1) (fun j _ _ => (fun _ => rfl) j) (fun j _ _ => (fun _ => rfl) j) | (exfalso; omega)) (by first | exact hI | exact SDL_k hd6 hM2 (fun j _ => (fun _ => rfl) j) ((fun _ => rfl) 1) (fun j _ _ => (fun _ => rfl) j) (fun j _ _ => (fun _ => rfl) j) | (exfalso; omega)) (by first | exact hI | exact LWL_k hd7 hM (fun j _ => (fun _ => rfl) j) (fun j _ => (fun _ => rfl) j) (fun j _ => (fun _ => rfl) j) (fun j _ _ => (fun _ => rfl) j) | (exfalso; omega)) (by first | exact hI | exact LWL_k hd8 hM2 (fun j _ => (fun _ => rfl) j) (fun j _ => (fun _ => rfl) j) (fun j _ => (fun _ => rfl) j) (fun j _ _ => (fun _ => rfl) j) | (exfalso; omega)) (by first | exact hI | exact CHL_k hd9 hM (fun j _ => (fun _ => rfl) j) (by omega) (fun j _ _ => (fun _ => rfl) j) | (exfalso; omega)) (by first | exact hI | exact CHL_k hd10 hM2 (fun j _ => (fun _ => rfl) j) (by omega) (fun j _ _ => (fun _ => rfl) j) | (exfalso; omega)) (by first | exact hI | exact ANL_k hd11 hM (fun j _ => (fun _ => rfl) j) (by omega) (by omega) (by omega) (fun j _ _ => (fun _ => rfl) j) | (exfalso; omega)) (by first | exact hI | exact ANL_k hd12 hM2 (fun j _ => (fun _ => rfl) j) (by omega) (by omega) (by omega) (fun j _ _ => (fun _ => rfl) j) | (exfalso; omega))
    · skip
      refine go_toq PM267 (k := 2) (pc' := 1435) (L' := [some (.inr (.inr (some 3000))), some (.inr (.inr (some 0))), some (.inr (.inr (some 79))), some (.inl i)]) (st' := []) (w' := (SH, dt)) rfl ?_
      exact K dt hI hM hM2 hk0 hk1 hk2 hk3 hk4 hk5 hk6 hk7 hk8 hk9 hk10 hk11 hk12 hk13 hk14 hk15 (by first | exact hI | exact TPL_k hd0 (fun _ => rfl) (fun _ => rfl) (by omega) | (exfalso; omega)) (by first | exact hI | exact SCL_k hd1 hM (fun j _ => (fun _ => rfl) j) (fun j _ => (fun _ => rfl) j) (fun j _ _ => (fun _ => rfl) j) | (exfalso; omega)) (by first | exact hI | exact SCL_k hd2 hM2 (fun j _ => (fun _ => rfl) j) (fun j _ => (fun _ => rfl) j) (fun j _ _ => (fun _ => rfl) j) | (exfalso; omega)) (by first | exact hI | exact QRL_k hd3 hM (fun j _ => (fun _ => rfl) j) ((fun _ => rfl) 1) (fun j _ _ => (fun _ => rfl) j) | (exfalso; omega)) (by first | exact hI | exact QRL_k hd4 hM2 (fun j _ => (fun _ => rfl) j) ((fun _ => rfl) 1) (fun j _ _ => (fun _ => rfl) j) | (exfalso; omega)) (by first | exact hI | exact SDL_k hd5 hM (fun j _ => (fun _ => rfl) j) ((fun _ => rfl) 1) (fun j _ _ => (fun _ => rfl) j) (fun j _ _ => (fun _ => rfl) j) | (exfalso; omega)) (by first | exact hI | exact SDL_k hd6 hM2 (fun j _ => (fun _ => rfl) j) ((fun _ => rfl) 1) (fun j _ _ => (fun _ => rfl) j) (fun j _ _ => (fun _ => rfl) j) | (exfalso; omega)) (by first | exact hI | exact LWL_k hd7 hM (fun j _ => (fun _ => rfl) j) (fun j _ => (fun _ => rfl) j) (fun j _ => (fun _ => rfl) j) (fun j _ _ => (fun _ => rfl) j) | (exfalso; omega)) (by first | exact hI | exact LWL_k hd8 hM2 (fun j _ => (fun _ => rfl) j) (fun j _ => (fun _ => rfl) j) (fun j _ => (fun _ => rfl) j) (fun j _ _ => (fun _ => rfl) j) | (exfalso; omega)) (by first | exact hI | exact CHL_k hd9 hM (fun j _ => (fun _ => rfl) j) (by omega) (fun j _ _ => (fun _ => rfl) j) | (exfalso; omega)) (by first | exact hI | exact CHL_k hd10 hM2 (fun j _ => (fun _ => rfl) j) (by omega) (fun j _ _ => (fun _ => rfl) j) | (exfalso; omega)) (by first | exact hI | exact ANL_k hd11 hM (fun j _ => (fun _ => rfl) j) (by omega) (by omega) (by omega) (fun j _ _ => (fun _ => rfl) j) | (exfalso; omega)) (by first | exact hI | exact ANL_k hd12 hM2 (fun j _ => (fun _ => rfl) j) (by omega) (by omega) (by omega) (fun j _ _ => (fun _ => rfl) j) | (exfalso; omega))
    · skip
      refine go_toq PM267 (k := 2) (pc' := 1435) (L' := [some (.inr (.inr (some 3000))), some (.inr (.inr (some 0))), some (.inr (.inr (some 79))), some (.inl i)]) (st' := []) (w' := (SH, dt)) rfl ?_
      exact K dt hI hM hM2 hk0 hk1 hk2 hk3 hk4 hk5 hk6 hk7 hk8 hk9 hk10 hk11 hk12 hk13 hk14 hk15 (by first | exact hI | exact TPL_k hd0 (fun _ => rfl) (fun _ => rfl) (by omega) | (exfalso; omega)) (by first | exact hI | exact SCL_k hd1 hM (fun j _ => (fun _ => rfl) j) (fun j _ => (fun _ => rfl) j) (fun j _ _ => (fun _ => rfl) j) | (exfalso; omega)) (by first | exact hI | exact SCL_k hd2 hM2 (fun j _ => (fun _ => rfl) j) (fun j _ => (fun _ => rfl) j) (fun j _ _ => (fun _ => rfl) j) | (exfalso; omega)) (by first | exact hI | exact QRL_k hd3 hM (fun j _ => (fun _ => rfl) j) ((fun _ => rfl) 1) (fun j _ _ => (fun _ => rfl) j) | (exfalso; omega)) (by first | exact hI | exact QRL_k hd4 hM2 (fun j _ => (fun _ => rfl) j) ((fun _ => rfl) 1) (fun j _ _ => (fun _ => rfl) j) | (exfalso; omega)) (by first | exact hI | exact SDL_k hd5 hM (fun j _ => (fun _ => rfl) j) ((fun _ => rfl) 1) (fun j _ _ => (fun _ => rfl) j) (fun j _ _ => (fun _ => rfl) j) | (exfalso; omega)) (by first | exact hI | exact SDL_k hd6 hM2 (fun j _ => (fun _ => rfl) j) ((fun _ => rfl) 1) (fun j _ _ => (fun _ => rfl) j) (fun j _ _ => (fun _ => rfl) j) | (exfalso; omega)) (by first | exact hI | exact LWL_k hd7 hM (fun j _ => (fun _ => rfl) j) (fun j _ => (fun _ => rfl) j) (fun j _ => (fun _ => rfl) j) (fun j _ _ => (fun _ => rfl) j) | (exfalso; omega)) (by first | exact hI | exact LWL_k hd8 hM2 (fun j _ => (fun _ => rfl) j) (fun j _ => (fun _ => rfl) j) (fun j _ => (fun _ => rfl) j) (fun j _ _ => (fun _ => rfl) j) | (exfalso; omega)) (by first | exact hI | exact CHL_k hd9 hM (fun j _ => (fun _ => rfl) j) (by omega) (fun j _ _ => (fun _ => rfl) j) | (exfalso; omega)) (by first | exact hI | exact CHL_k hd10 hM2 (fun j _ => (fun _ => rfl) j) (by omega) (fun j _ _ => (fun _ => rfl) j) | (exfalso; omega)) (by first | exact hI | exact ANL_k hd11 hM (fun j _ => (fun _ => rfl) j) (by omega) (by omega) (by omega) (fun j _ _ => (fun _ => rfl) j) | (exfalso; omega)) (by first | exact hI | exact ANL_k hd12 hM2 (fun j _ => (fun _ => rfl) j) (by omega) (by omega) (by omega) (fun j _ _ => (fun _ => rfl) j) | (exfalso; omega))
    · skip
      refine go_toq PM267 (k := 2) (pc' := 1435) (L' := [some (.inr (.inr (some 3000))), some (.inr (.inr (some 0))), some (.inr (.inr (some 79))), some (.inl i)]) (st' := []) (w' := (SH, dt)) rfl ?_
      exact K dt hI hM hM2 hk0 hk1 hk2 hk3 hk4 hk5 hk6 hk7 hk8 hk9 hk10 hk11 hk12 hk13 hk14 hk15 (by first | exact hI | exact TPL_k hd0 (fun _ => rfl) (fun _ => rfl) (by omega) | (exfalso; omega)) (by first | exact hI | exact SCL_k hd1 hM (fun j _ => (fun _ => rfl) j) (fun j _ => (fun _ => rfl) j) (fun j _ _ => (fun _ => rfl) j) | (exfalso; omega)) (by first | exact hI | exact SCL_k hd2 hM2 (fun j _ => (fun _ => rfl) j) (fun j _ => (fun _ => rfl) j) (fun j _ _ => (fun _ => rfl) j) | (exfalso; omega)) (by first | exact hI | exact QRL_k hd3 hM (fun j _ => (fun _ => rfl) j) ((fun _ => rfl) 1) (fun j _ _ => (fun _ => rfl) j) | (exfalso; omega)) (by first | exact hI | exact QRL_k hd4 hM2 (fun j _ => (fun _ => rfl) j) ((fun _ => rfl) 1) (fun j _ _ => (fun _ => rfl) j) | (exfalso; omega)) (by first | exact hI | exact SDL_k hd5 hM (fun j _ => (fun _ => rfl) j) ((fun _ => rfl) 1) (fun j _ _ => (fun _ => rfl) j) (fun j _ _ => (fun _ => rfl) j) | (exfalso; omega)) (by first | exact hI | exact SDL_k hd6 hM2 (fun j _ => (fun _ => rfl) j) ((fun _ => rfl) 1) (fun j _ _ => (fun _ => rfl) j) (fun j _ _ => (fun _ => rfl) j) | (exfalso; omega)) (by first | exact hI | exact LWL_k hd7 hM (fun j _ => (fun _ => rfl) j) (fun j _ => (fun _ => rfl) j) (fun j _ => (fun _ => rfl) j) (fun j _ _ => (fun _ => rfl) j) | (exfalso; omega)) (by first | exact hI | exact LWL_k hd8 hM2 (fun j _ => (fun _ => rfl) j) (fun j _ => (fun _ => rfl) j) (fun j _ => (fun _ => rfl) j) (fun j _ _ => (fun _ => rfl) j) | (exfalso; omega)) (by first | exact hI | exact CHL_k hd9 hM (fun j _ => (fun _ => rfl) j) (by omega) (fun j _ _ => (fun _ => rfl) j) | (exfalso; omega)) (by first | exact hI | exact CHL_k hd10 hM2 (fun j _ => (fun _ => rfl) j) (by omega) (fun j _ _ => (fun _ => rfl) j) | (exfalso; omega)) (by first | exact hI | exact ANL_k hd11 hM (fun j _ => (fun _ => rfl) j) (by omega) (by omega) (by omega) (fun j _ _ => (fun _ => rfl) j) | (exfalso; omega)) (by first | exact hI | exact ANL_k hd12 hM2 (fun j _ => (fun _ => rfl) j) (by omega) (by omega) (by omega) (fun j _ _ => (fun _ => rfl) j) | (exfalso; omega))
    · skip
      obtain ⟨h9_0, h9_1⟩ := h9
      replace h9_1 := hid h9_1
      refine go_toq PM267 (k := 2) (pc' := 1435) (L' := [some (.inr (.inr (some 3000))), some (.inr (.inr (some 0))), some (.inr (.inr (some 79))), some (.inl i)]) (st' := []) (w' := (SH, dt)) rfl ?_
      exact K dt hI hM hM2 hk0 hk1 hk2 hk3 hk4 hk5 hk6 hk7 hk8 hk9 hk10 hk11 hk12 hk13 hk14 hk15 (by first | exact hI | exact TPL_k hd0 (fun _ => rfl) (fun _ => rfl) (by (first | omega | (have z0_ := unhid h9_1; omega))) | (exfalso; (first | omega | (have z0_ := unhid h9_1; omega)))) (by first | exact hI | exact SCL_k hd1 hM (fun j _ => (fun _ => rfl) j) (fun j _ => (fun _ => rfl) j) (fun j _ _ => (fun _ => rfl) j) | (exfalso; (first | omega | (have z0_ := unhid h9_1; omega)))) (by first | exact hI | exact SCL_k hd2 hM2 (fun j _ => (fun _ => rfl) j) (fun j _ => (fun _ => rfl) j) (fun j _ _ => (fun _ => rfl) j) | (exfalso; (first | omega | (have z0_ := unhid h9_1; omega)))) (by first | exact hI | exact QRL_k hd3 hM (fun j _ => (fun _ => rfl) j) ((fun _ => rfl) 1) (fun j _ _ => (fun _ => rfl) j) | (exfalso; (first | omega | (have z0_ := unhid h9_1; omega)))) (by first | exact hI | exact QRL_k hd4 hM2 (fun j _ => (fun _ => rfl) j) ((fun _ => rfl) 1) (fun j _ _ => (fun _ => rfl) j) | (exfalso; (first | omega | (have z0_ := unhid h9_1; omega)))) (by first | exact hI | exact SDL_k hd5 hM (fun j _ => (fun _ => rfl) j) ((fun _ => rfl) 1) (fun j _ _ => (fun _ => rfl) j) (fun j _ _ => (fun _ => rfl) j) | (exfalso; (first | omega | (have z0_ := unhid h9_1; omega)))) (by first | exact hI | exact SDL_k hd6 hM2 (fun j _ => (fun _ => rfl) j) ((fun _ => rfl) 1) (fun j _ _ => (fun _ => rfl) j) (fun j _ _ => (fun _ => rfl) j) | (exfalso; (first | omega | (have z0_ := unhid h9_1; omega)))) (by first | exact hI | exact LWL_k hd7 hM (fun j _ => (fun _ => rfl) j) (fun j _ => (fun _ => rfl) j) (fun j _ => (fun _ => rfl) j) (fun j _ _ => (fun _ => rfl) j) | (exfalso; (first | omega | (have z0_ := unhid h9_1; omega)))) (by first | exact hI | exact LWL_k hd8 hM2 (fun j _ => (fun _ => rfl) j) (fun j _ => (fun _ => rfl) j) (fun j _ => (fun _ => rfl) j) (fun j _ _ => (fun _ => rfl) j) | (exfalso; (first | omega | (have z0_ := unhid h9_1; omega)))) (by first | exact hI | exact CHL_k hd9 hM (fun j _ => (fun _ => rfl) j) (by (first | omega | (have z0_ := unhid h9_1; omega))) (fun j _ _ => (fun _ => rfl) j) | (exfalso; (first | omega | (have z0_ := unhid h9_1; omega)))) (by first | exact hI | exact CHL_k hd10 hM2 (fun j _ => (fun _ => rfl) j) (by (first | omega | (have z0_ := unhid h9_1; omega))) (fun j _ _ => (fun _ => rfl) j) | (exfalso; (first | omega | (have z0_ := unhid h9_1; omega)))) (by first | exact hI | exact ANL_k hd11 hM (fun j _ => (fun _ => rfl) j) (by (first | omega | (have z0_ := unhid h9_1; omega))) (by (first | omega | (have z0_ := unhid h9_1; omega))) (by (first | omega | (have z0_ := unhid h9_1; omega))) (fun j _ _ => (fun _ => rfl) j) | (exfalso; (first | omega | (have z0_ := unhid h9_1; omega)))) (by first | exact hI | exact ANL_k hd12 hM2 (fun j _ => (fun _ => rfl) j) (by (first | omega | (have z0_ := unhid h9_1; omega))) (by (first | omega | (have z0_ := unhid h9_1; omega))) (by (first | omega | (have z0_ := unhid h9_1; omega))) (fun j _ _ => (fun _ => rfl) j) | (exfalso; (first | omega | (have z0_ := unhid h9_1; omega))))
    · skip
      obtain ⟨h9_0, h9_1⟩ := h9
      refine go_toq PM267 (k := 2) (pc' := 1435) (L' := [some (.inr (.inr (some 3000))), some (.inr (.inr (some 0))), some (.inr (.inr (some 79))), some (.inl i)]) (st' := []) (w' := (SH, dt)) rfl ?_
      exact K dt hI hM hM2 hk0 hk1 hk2 hk3 hk4 hk5 hk6 hk7 hk8 hk9 hk10 hk11 hk12 hk13 hk14 hk15 (by first | exact hI | exact TPL_k hd0 (fun _ => rfl) (fun _ => rfl) (by omega) | (exfalso; omega)) (by first | exact hI | exact SCL_k hd1 hM (fun j _ => (fun _ => rfl) j) (fun j _ => (fun _ => rfl) j) (fun j _ _ => (fun _ => rfl) j) | (exfalso; omega)) (by first | exact hI | exact SCL_k hd2 hM2 (fun j _ => (fun _ => rfl) j) (fun j _ => (fun _ => rfl) j) (fun j _ _ => (fun _ => rfl) j) | (exfalso; omega)) (by first | exact hI | exact QRL_k hd3 hM (fun j _ => (fun _ => rfl) j) ((fun _ => rfl) 1) (fun j _ _ => (fun _ => rfl) j) | (exfalso; omega)) (by first | exact hI | exact QRL_k hd4 hM2 (fun j _ => (fun _ => rfl) j) ((fun _ => rfl) 1) (fun j _ _ => (fun _ => rfl) j) | (exfalso; omega)) (by first | exact hI | exact SDL_k hd5 hM (fun j _ => (fun _ => rfl) j) ((fun _ => rfl) 1) (fun j _ _ => (fun _ => rfl) j) (fun j _ _ => (fun _ => rfl) j) | (exfalso; omega)) (by first | exact hI | exact SDL_k hd6 hM2 (fun j _ => (fun _ => rfl) j) ((fun _ => rfl) 1) (fun j _ _ => (fun _ => rfl) j) (fun j _ _ => (fun _ => rfl) j) | (exfalso; omega)) (by first | exact hI | exact LWL_k hd7 hM (fun j _ => (fun _ => rfl) j) (fun j _ => (fun _ => rfl) j) (fun j _ => (fun _ => rfl) j) (fun j _ _ => (fun _ => rfl) j) | (exfalso; omega)) (by first | exact hI | exact LWL_k hd8 hM2 (fun j _ => (fun _ => rfl) j) (fun j _ => (fun _ => rfl) j) (fun j _ => (fun _ => rfl) j) (fun j _ _ => (fun _ => rfl) j) | (exfalso; omega)) (by first | exact hI | exact CHL_k hd9 hM (fun j _ => (fun _ => rfl) j) (by omega) (fun j _ _ => (fun _ => rfl) j) | (exfalso; omega)) (by first | exact hI | exact CHL_k hd10 hM2 (fun j _ => (fun _ => rfl) j) (by omega) (fun j _ _ => (fun _ => rfl) j) | (exfalso; omega)) (by first | exact hI | exact ANL_k hd11 hM (fun j _ => (fun _ => rfl) j) (by omega) (by omega) (by omega) (fun j _ _ => (fun _ => rfl) j) | (exfalso; omega)) (by first | exact hI | exact ANL_k hd12 hM2 (fun j _ => (fun _ => rfl) j) (by omega) (by omega) (by omega) (fun j _ _ => (fun _ => rfl) j) | (exfalso; omega))
    · skip
      refine go_toq PM267 (k := 2) (pc' := 1435) (L' := [some (.inr (.inr (some 3000))), some (.inr (.inr (some 0))), some (.inr (.inr (some 79))), some (.inl i)]) (st' := []) (w' := (SH, dt)) rfl ?_
      exact K dt hI hM hM2 hk0 hk1 hk2 hk3 hk4 hk5 hk6 hk7 hk8 hk9 hk10 hk11 hk12 hk13 hk14 hk15 (by first | exact hI | exact TPL_k hd0 (fun _ => rfl) (fun _ => rfl) (by omega) | (exfalso; omega)) (by first | exact hI | exact SCL_k hd1 hM (fun j _ => (fun _ => rfl) j) (fun j _ => (fun _ => rfl) j) (fun j _ _ => (fun _ => rfl) j) | (exfalso; omega)) (by first | exact hI | exact SCL_k hd2 hM2 (fun j _ => (fun _ => rfl) j) (fun j _ => (fun _ => rfl) j) (fun j _ _ => (fun _ => rfl) j) | (exfalso; omega)) (by first | exact hI | exact QRL_k hd3 hM (fun j _ => (fun _ => rfl) j) ((fun _ => rfl) 1) (fun j _ _ => (fun _ => rfl) j) | (exfalso; omega)) (by first | exact hI | exact QRL_k hd4 hM2 (fun j _ => (fun _ => rfl) j) ((fun _ => rfl) 1) (fun j _ _ => (fun _ => rfl) j) | (exfalso; omega)) (by first | exact hI | exact SDL_k hd5 hM (fun j _ => (fun _ => rfl) j) ((fun _ => rfl) 1) (fun j _ _ => (fun _ => rfl) j) (fun j _ _ => (fun _ => rfl) j) | (exfalso; omega)) (by first | exact hI | exact SDL_k hd6 hM2 (fun j _ => (fun _ => rfl) j) ((fun _ => rfl) 1) (fun j _ _ => (fun _ => rfl) j) (fun j _ _ => (fun _ => rfl) j) | (exfalso; omega)) (by first | exact hI | exact LWL_k hd7 hM (fun j _ => (fun _ => rfl) j) (fun j _ => (fun _ => rfl) j) (fun j _ => (fun _ => rfl) j) (fun j _ _ => (fun _ => rfl) j) | (exfalso; omega)) (by first | exact hI | exact LWL_k hd8 hM2 (fun j _ => (fun _ => rfl) j) (fun j _ => (fun _ => rfl) j) (fun j _ => (fun _ => rfl) j) (fun j _ _ => (fun _ => rfl) j) | (exfalso; omega)) (by first | exact hI | exact CHL_k hd9 hM (fun j _ => (fun _ => rfl) j) (by omega) (fun j _ _ => (fun _ => rfl) j) | (exfalso; omega)) (by first | exact hI | exact CHL_k hd10 hM2 (fun j _ => (fun _ => rfl) j) (by omega) (fun j _ _ => (fun _ => rfl) j) | (exfalso; omega)) (by first | exact hI | exact ANL_k hd11 hM (fun j _ => (fun _ => rfl) j) (by omega) (by omega) (by omega) (fun j _ _ => (fun _ => rfl) j) | (exfalso; omega)) (by first | exact hI | exact ANL_k hd12 hM2 (fun j _ => (fun _ => rfl) j) (by omega) (by omega) (by omega) (fun j _ _ => (fun _ => rfl) j) | (exfalso; omega))
  · skip
    obtain ⟨h2_0, h2_1⟩ := h2
    refine go_toq PM267 (k := 6) (pc' := 1427) (L' := [some (.inr (.inr (some 3000))), some (.inr (.inr (some 0))), some (.inr (.inr (some 79))), some (.inl i)]) (st' := [.inl (i + 1), .inr (.inr (some 3000)), .inr (.inr (some 79))]) (w' := (SH, dt)) rfl ?_
    refine go_smpq PM267 (L' := [some (.inr (.inr (some 3000))), some (.inr (.inr (some 0))), some (.inr (.inr (some 79))), some (.inl i)]) (st' := [.inl ((xs ((i + 1).toNat)).toInt), .inr (.inr (some 79))]) (w' := (SH, dt)) rfl rfl (s_iald (n := L) (f := fun j => (xs j).toInt) (am_scr hLL) ⟨by omega, by omega⟩) ?_
    refine go_callq PM267 PM248 (Q' := _) rfl rfl rfl rfl (sp_X6_look L xs sio (d + 38) dt hI  ((xs ((i + 1).toNat)).toInt) ⟨by omega, by omega⟩ ) ?_
    rintro _ _ ⟨rfl, h10⟩
    refine ⟨rfl, ?_⟩
    rcases h10 with ⟨rfl, h10⟩ | ⟨rfl, h10⟩ | ⟨rfl, h10⟩ | ⟨rfl, h10⟩ | ⟨rfl, h10⟩ | ⟨rfl, h10⟩ | ⟨rfl, h10⟩ | ⟨rfl, h10⟩ | ⟨rfl, h10⟩
    · skip
      refine go_toq PM267 (k := 2) (pc' := 1435) (L' := [some (.inr (.inr (some 3000))), some (.inr (.inr (some 0))), some (.inr (.inr (some 79))), some (.inl i)]) (st' := []) (w' := (SH, dt)) rfl ?_
      exact K dt hI hM hM2 hk0 hk1 hk2 hk3 hk4 hk5 hk6 hk7 hk8 hk9 hk10 hk11 hk12 hk13 hk14 hk15 (by first | exact hI | exact TPL_k hd0 (fun _ => rfl) (fun _ => rfl) (by omega) | (exfalso; omega)) (by first | exact hI | exact SCL_k hd1 hM (fun j _ => (fun _ => rfl) j) (fun j _ => (fun _ => rfl) j) (fun j _ _ => (fun _ => rfl) j) | (exfalso; omega)) (by first | exact hI | exact SCL_k hd2 hM2 (fun j _ => (fun _ => rfl) j) (fun j _ => (fun _ => rfl) j) (fun j _ _ => (fun _ => rfl) j) | (exfalso; omega)) (by first | exact hI | exact QRL_k hd3 hM (fun j _ => (fun _ => rfl) j) ((fun _ => rfl) 1) (fun j _ _ => (fun _ => rfl) j) | (exfalso; omega)) (by first | exact hI | exact QRL_k hd4 hM2 (fun j _ => (fun _ => rfl) j) ((fun _ => rfl) 1) (fun j _ _ => (fun _ => rfl) j) | (exfalso; omega)) (by first | exact hI | exact SDL_k hd5 hM (fun j _ => (fun _ => rfl) j) ((fun _ => rfl) 1) (fun j _ _ => (fun _ => rfl) j) (fun j _ _ => (fun _ => rfl) j) | (exfalso; omega)) (by first | exact hI | exact SDL_k hd6 hM2 (fun j _ => (fun _ => rfl) j) ((fun _ => rfl) 1) (fun j _ _ => (fun _ => rfl) j) (fun j _ _ => (fun _ => rfl) j) | (exfalso; omega)) (by first | exact hI | exact LWL_k hd7 hM (fun j _ => (fun _ => rfl) j) (fun j _ => (fun _ => rfl) j) (fun j _ => (fun _ => rfl) j) (fun j _ _ => (fun _ => rfl) j) | (exfalso; omega)) (by first | exact hI | exact LWL_k hd8 hM2 (fun j _ => (fun _ => rfl) j) (fun j _ => (fun _ => rfl) j) (fun j _ => (fun _ => rfl) j) (fun j _ _ => (fun _ => rfl) j) | (exfalso; omega)) (by first | exact hI | exact CHL_k hd9 hM (fun j _ => (fun _ => rfl) j) (by omega) (fun j _ _ => (fun _ => rfl) j) | (exfalso; omega)) (by first | exact hI | exact CHL_k hd10 hM2 (fun j _ => (fun _ => rfl) j) (by omega) (fun j _ _ => (fun _ => rfl) j) | (exfalso; omega)) (by first | exact hI | exact ANL_k hd11 hM (fun j _ => (fun _ => rfl) j) (by omega) (by omega) (by omega) (fun j _ _ => (fun _ => rfl) j) | (exfalso; omega)) (by first | exact hI | exact ANL_k hd12 hM2 (fun j _ => (fun _ => rfl) j) (by omega) (by omega) (by omega) (fun j _ _ => (fun _ => rfl) j) | (exfalso; omega))
    · skip
      refine go_toq PM267 (k := 2) (pc' := 1435) (L' := [some (.inr (.inr (some 3000))), some (.inr (.inr (some 0))), some (.inr (.inr (some 79))), some (.inl i)]) (st' := []) (w' := (SH, dt)) rfl ?_
      exact K dt hI hM hM2 hk0 hk1 hk2 hk3 hk4 hk5 hk6 hk7 hk8 hk9 hk10 hk11 hk12 hk13 hk14 hk15 (by first | exact hI | exact TPL_k hd0 (fun _ => rfl) (fun _ => rfl) (by omega) | (exfalso; omega)) (by first | exact hI | exact SCL_k hd1 hM (fun j _ => (fun _ => rfl) j) (fun j _ => (fun _ => rfl) j) (fun j _ _ => (fun _ => rfl) j) | (exfalso; omega)) (by first | exact hI | exact SCL_k hd2 hM2 (fun j _ => (fun _ => rfl) j) (fun j _ => (fun _ => rfl) j) (fun j _ _ => (fun _ => rfl) j) | (exfalso; omega)) (by first | exact hI | exact QRL_k hd3 hM (fun j _ => (fun _ => rfl) j) ((fun _ => rfl) 1) (fun j _ _ => (fun _ => rfl) j) | (exfalso; omega)) (by first | exact hI | exact QRL_k hd4 hM2 (fun j _ => (fun _ => rfl) j) ((fun _ => rfl) 1) (fun j _ _ => (fun _ => rfl) j) | (exfalso; omega)) (by first | exact hI | exact SDL_k hd5 hM (fun j _ => (fun _ => rfl) j) ((fun _ => rfl) 1) (fun j _ _ => (fun _ => rfl) j) (fun j _ _ => (fun _ => rfl) j) | (exfalso; omega)) (by first | exact hI | exact SDL_k hd6 hM2 (fun j _ => (fun _ => rfl) j) ((fun _ => rfl) 1) (fun j _ _ => (fun _ => rfl) j) (fun j _ _ => (fun _ => rfl) j) | (exfalso; omega)) (by first | exact hI | exact LWL_k hd7 hM (fun j _ => (fun _ => rfl) j) (fun j _ => (fun _ => rfl) j) (fun j _ => (fun _ => rfl) j) (fun j _ _ => (fun _ => rfl) j) | (exfalso; omega)) (by first | exact hI | exact LWL_k hd8 hM2 (fun j _ => (fun _ => rfl) j) (fun j _ => (fun _ => rfl) j) (fun j _ => (fun _ => rfl) j) (fun j _ _ => (fun _ => rfl) j) | (exfalso; omega)) (by first | exact hI | exact CHL_k hd9 hM (fun j _ => (fun _ => rfl) j) (by omega) (fun j _ _ => (fun _ => rfl) j) | (exfalso; omega)) (by first | exact hI | exact CHL_k hd10 hM2 (fun j _ => (fun _ => rfl) j) (by omega) (fun j _ _ => (fun _ => rfl) j) | (exfalso; omega)) (by first | exact hI | exact ANL_k hd11 hM (fun j _ => (fun _ => rfl) j) (by omega) (by omega) (by omega) (fun j _ _ => (fun _ => rfl) j) | (exfalso; omega)) (by first | exact hI | exact ANL_k hd12 hM2 (fun j _ => (fun _ => rfl) j) (by omega) (by omega) (by omega) (fun j _ _ => (fun _ => rfl) j) | (exfalso; omega))
    · skip
      refine go_toq PM267 (k := 2) (pc' := 1435) (L' := [some (.inr (.inr (some 3000))), some (.inr (.inr (some 0))), some (.inr (.inr (some 79))), some (.inl i)]) (st' := []) (w' := (SH, dt)) rfl ?_
      exact K dt hI hM hM2 hk0 hk1 hk2 hk3 hk4 hk5 hk6 hk7 hk8 hk9 hk10 hk11 hk12 hk13 hk14 hk15 (by first | exact hI | exact TPL_k hd0 (fun _ => rfl) (fun _ => rfl) (by omega) | (exfalso; omega)) (by first | exact hI | exact SCL_k hd1 hM (fun j _ => (fun _ => rfl) j) (fun j _ => (fun _ => rfl) j) (fun j _ _ => (fun _ => rfl) j) | (exfalso; omega)) (by first | exact hI | exact SCL_k hd2 hM2 (fun j _ => (fun _ => rfl) j) (fun j _ => (fun _ => rfl) j) (fun j _ _ => (fun _ => rfl) j) | (exfalso; omega)) (by first | exact hI | exact QRL_k hd3 hM (fun j _ => (fun _ => rfl) j) ((fun _ => rfl) 1) (fun j _ _ => (fun _ => rfl) j) | (exfalso; omega)) (by first | exact hI | exact QRL_k hd4 hM2 (fun j _ => (fun _ => rfl) j) ((fun _ => rfl) 1) (fun j _ _ => (fun _ => rfl) j) | (exfalso; omega)) (by first | exact hI | exact SDL_k hd5 hM (fun j _ => (fun _ => rfl) j) ((fun _ => rfl) 1) (fun j _ _ => (fun _ => rfl) j) (fun j _ _ => (fun _ => rfl) j) | (exfalso; omega)) (by first | exact hI | exact SDL_k hd6 hM2 (fun j _ => (fun _ => rfl) j) ((fun _ => rfl) 1) (fun j _ _ => (fun _ => rfl) j) (fun j _ _ => (fun _ => rfl) j) | (exfalso; omega)) (by first | exact hI | exact LWL_k hd7 hM (fun j _ => (fun _ => rfl) j) (fun j _ => (fun _ => rfl) j) (fun j _ => (fun _ => rfl) j) (fun j _ _ => (fun _ => rfl) j) | (exfalso; omega)) (by first | exact hI | exact LWL_k hd8 hM2 (fun j _ => (fun _ => rfl) j) (fun j _ => (fun _ => rfl) j) (fun j _ => (fun _ => rfl) j) (fun j _ _ => (fun _ => rfl) j) | (exfalso; omega)) (by first | exact hI | exact CHL_k hd9 hM (fun j _ => (fun _ => rfl) j) (by omega) (fun j _ _ => (fun _ => rfl) j) | (exfalso; omega)) (by first | exact hI | exact CHL_k hd10 hM2 (fun j _ => (fun _ => rfl) j) (by omega) (fun j _ _ => (fun _ => rfl) j) | (exfalso; omega)) (by first | exact hI | exact ANL_k hd11 hM (fun j _ => (fun _ => rfl) j) (by omega) (by omega) (by omega) (fun j _ _ => (fun _ => rfl) j) | (exfalso; omega)) (by first | exact hI | exact ANL_k hd12 hM2 (fun j _ => (fun _ => rfl) j) (by omega) (by omega) (by omega) (fun j _ _ => (fun _ => rfl) j) | (exfalso; omega))
    · skip
      refine go_toq PM267 (k := 2) (pc' := 1435) (L' := [some (.inr (.inr (some 3000))), some (.inr (.inr (some 0))), some (.inr (.inr (some 79))), some (.inl i)]) (st' := []) (w' := (SH, dt)) rfl ?_
      exact K dt hI hM hM2 hk0 hk1 hk2 hk3 hk4 hk5 hk6 hk7 hk8 hk9 hk10 hk11 hk12 hk13 hk14 hk15 (by first | exact hI | exact TPL_k hd0 (fun _ => rfl) (fun _ => rfl) (by omega) | (exfalso; omega)) (by first | exact hI | exact SCL_k hd1 hM (fun j _ => (fun _ => rfl) j) (fun j _ => (fun _ => rfl) j) (fun j _ _ => (fun _ => rfl) j) | (exfalso; omega)) (by first | exact hI | exact SCL_k hd2 hM2 (fun j _ => (fun _ => rfl) j) (fun j _ => (fun _ => rfl) j) (fun j _ _ => (fun _ => rfl) j) | (exfalso; omega)) (by first | exact hI | exact QRL_k hd3 hM (fun j _ => (fun _ => rfl) j) ((fun _ => rfl) 1) (fun j _ _ => (fun _ => rfl) j) | (exfalso; omega)) (by first | exact hI | exact QRL_k hd4 hM2 (fun j _ => (fun _ => rfl) j) ((fun _ => rfl) 1) (fun j _ _ => (fun _ => rfl) j) | (exfalso; omega)) (by first | exact hI | exact SDL_k hd5 hM (fun j _ => (fun _ => rfl) j) ((fun _ => rfl) 1) (fun j _ _ => (fun _ => rfl) j) (fun j _ _ => (fun _ => rfl) j) | (exfalso; omega)) (by first | exact hI | exact SDL_k hd6 hM2 (fun j _ => (fun _ => rfl) j) ((fun _ => rfl) 1) (fun j _ _ => (fun _ => rfl) j) (fun j _ _ => (fun _ => rfl) j) | (exfalso; omega)) (by first | exact hI | exact LWL_k hd7 hM (fun j _ => (fun _ => rfl) j) (fun j _ => (fun _ => rfl) j) (fun j _ => (fun _ => rfl) j) (fun j _ _ => (fun _ => rfl) j) | (exfalso; omega)) (by first | exact hI | exact LWL_k hd8 hM2 (fun j _ => (fun _ => rfl) j) (fun j _ => (fun _ => rfl) j) (fun j _ => (fun _ => rfl) j) (fun j _ _ => (fun _ => rfl) j) | (exfalso; omega)) (by first | exact hI | exact CHL_k hd9 hM (fun j _ => (fun _ => rfl) j) (by omega) (fun j _ _ => (fun _ => rfl) j) | (exfalso; omega)) (by first | exact hI | exact CHL_k hd10 hM2 (fun j _ => (fun _ => rfl) j) (by omega) (fun j _ _ => (fun _ => rfl) j) | (exfalso; omega)) (by first | exact hI | exact ANL_k hd11 hM (fun j _ => (fun _ => rfl) j) (by omega) (by omega) (by omega) (fun j _ _ => (fun _ => rfl) j) | (exfalso; omega)) (by first | exact hI | exact ANL_k hd12 hM2 (fun j _ => (fun _ => rfl) j) (by omega) (by omega) (by omega) (fun j _ _ => (fun _ => rfl) j) | (exfalso; omega))
    · skip
      refine go_toq PM267 (k := 2) (pc' := 1435) (L' := [some (.inr (.inr (some 3000))), some (.inr (.inr (some 0))), some (.inr (.inr (some 79))), some (.inl i)]) (st' := []) (w' := (SH, dt)) rfl ?_
      exact K dt hI hM hM2 hk0 hk1 hk2 hk3 hk4 hk5 hk6 hk7 hk8 hk9 hk10 hk11 hk12 hk13 hk14 hk15 (by first | exact hI | exact TPL_k hd0 (fun _ => rfl) (fun _ => rfl) (by omega) | (exfalso; omega)) (by first | exact hI | exact SCL_k hd1 hM (fun j _ => (fun _ => rfl) j) (fun j _ => (fun _ => rfl) j) (fun j _ _ => (fun _ => rfl) j) | (exfalso; omega)) (by first | exact hI | exact SCL_k hd2 hM2 (fun j _ => (fun _ => rfl) j) (fun j _ => (fun _ => rfl) j) (fun j _ _ => (fun _ => rfl) j) | (exfalso; omega)) (by first | exact hI | exact QRL_k hd3 hM (fun j _ => (fun _ => rfl) j) ((fun _ => rfl) 1) (fun j _ _ => (fun _ => rfl) j) | (exfalso; omega)) (by first | exact hI | exact QRL_k hd4 hM2 (fun j _ => (fun _ => rfl) j) ((fun _ => rfl) 1) (fun j _ _ => (fun _ => rfl) j) | (exfalso; omega)) (by first | exact hI | exact SDL_k hd5 hM (fun j _ => (fun _ => rfl) j) ((fun _ => rfl) 1) (fun j _ _ => (fun _ => rfl) j) (fun j _ _ => (fun _ => rfl) j) | (exfalso; omega)) (by first | exact hI | exact SDL_k hd6 hM2 (fun j _ => (fun _ => rfl) j) ((fun _ => rfl) 1) (fun j _ _ => (fun _ => rfl) j) (fun j _ _ => (fun _ => rfl) j) | (exfalso; omega)) (by first | exact hI | exact LWL_k hd7 hM (fun j _ => (fun _ => rfl) j) (fun j _ => (fun _ => rfl) j) (fun j _ => (fun _ => rfl) j) (fun j _ _ => (fun _ => rfl) j) | (exfalso; omega)) (by first | exact hI | exact LWL_k hd8 hM2 (fun j _ => (fun _ => rfl) j) (fun j _ => (fun _ => rfl) j) (fun j _ => (fun _ => rfl) j) (fun j _ _ => (fun _ => rfl) j) | (exfalso; omega)) (by first | exact hI | exact CHL_k hd9 hM (fun j _ => (fun _ => rfl) j) (by omega) (fun j _ _ => (fun _ => rfl) j) | (exfalso; omega)) (by first | exact hI | exact CHL_k hd10 hM2 (fun j _ => (fun _ => rfl) j) (by omega) (fun j _ _ => (fun _ => rfl) j) | (exfalso; omega)) (by first | exact hI | exact ANL_k hd11 hM (fun j _ => (fun _ => rfl) j) (by omega) (by omega) (by omega) (fun j _ _ => (fun _ => rfl) j) | (exfalso; omega)) (by first | exact hI | exact ANL_k hd12 hM2 (fun j _ => (fun _ => rfl) j) (by omega) (by omega) (by omega) (fun j _ _ => (fun _ => rfl) j) | (exfalso; omega))
    · skip
      refine go_toq PM267 (k := 2) (pc' := 1435) (L' := [some (.inr (.inr (some 3000))), some (.inr (.inr (some 0))), some (.inr (.inr (some 79))), some (.inl i)]) (st' := []) (w' := (SH, dt)) rfl ?_
      exact K dt hI hM hM2 hk0 hk1 hk2 hk3 hk4 hk5 hk6 hk7 hk8 hk9 hk10 hk11 hk12 hk13 hk14 hk15 (by first | exact hI | exact TPL_k hd0 (fun _ => rfl) (fun _ => rfl) (by omega) | (exfalso; omega)) (by first | exact hI | exact SCL_k hd1 hM (fun j _ => (fun _ => rfl) j) (fun j _ => (fun _ => rfl) j) (fun j _ _ => (fun _ => rfl) j) | (exfalso; omega)) (by first | exact hI | exact SCL_k hd2 hM2 (fun j _ => (fun _ => rfl) j) (fun j _ => (fun _ => rfl) j) (fun j _ _ => (fun _ => rfl) j) | (exfalso; omega)) (by first | exact hI | exact QRL_k hd3 hM (fun j _ => (fun _ => rfl) j) ((fun _ => rfl) 1) (fun j _ _ => (fun _ => rfl) j) | (exfalso; omega)) (by first | exact hI | exact QRL_k hd4 hM2 (fun j _ => (fun _ => rfl) j) ((fun _ => rfl) 1) (fun j _ _ => (fun _ => rfl) j) | (exfalso; omega)) (by first | exact hI | exact SDL_k hd5 hM (fun j _ => (fun _ => rfl) j) ((fun _ => rfl) 1) (fun j _ _ => (fun _ => rfl) j) (fun j _ _ => (fun _ => rfl) j) | (exfalso; omega)) (by first | exact hI | exact SDL_k hd6 hM2 (fun j _ => (fun _ => rfl) j) ((fun _ => rfl) 1) (fun j _ _ => (fun _ => rfl) j) (fun j _ _ => (fun _ => rfl) j) | (exfalso; omega)) (by first | exact hI | exact LWL_k hd7 hM (fun j _ => (fun _ => rfl) j) (fun j _ => (fun _ => rfl) j) (fun j _ => (fun _ => rfl) j) (fun j _ _ => (fun _ => rfl) j) | (exfalso; omega)) (by first | exact hI | exact LWL_k hd8 hM2 (fun j _ => (fun _ => rfl) j) (fun j _ => (fun _ => rfl) j) (fun j _ => (fun _ => rfl) j) (fun j _ _ => (fun _ => rfl) j) | (exfalso; omega)) (by first | exact hI | exact CHL_k hd9 hM (fun j _ => (fun _ => rfl) j) (by omega) (fun j _ _ => (fun _ => rfl) j) | (exfalso; omega)) (by first | exact hI | exact CHL_k hd10 hM2 (fun j _ => (fun _ => rfl) j) (by omega) (fun j _ _ => (fun _ => rfl) j) | (exfalso; omega)) (by first | exact hI | exact ANL_k hd11 hM (fun j _ => (fun _ => rfl) j) (by omega) (by omega) (by omega) (fun j _ _ => (fun _ => rfl) j) | (exfalso; omega)) (by first | exact hI | exact ANL_k hd12 hM2 (fun j _ => (fun _ => rfl) j) (by omega) (by omega) (by omega) (fun j _ _ => (fun _ => rfl) j) | (exfalso; omega))
    · skip
      obtain ⟨h10_0, h10_1⟩ := h10
      replace h10_1 := hid h10_1
      refine go_toq PM267 (k := 2) (pc' := 1435) (L' := [some (.inr (.inr (some 3000))), some (.inr (.inr (some 0))), some (.inr (.inr (some 79))), some (.inl i)]) (st' := []) (w' := (SH, dt)) rfl ?_
      exact K dt hI hM hM2 hk0 hk1 hk2 hk3 hk4 hk5 hk6 hk7 hk8 hk9 hk10 hk11 hk12 hk13 hk14 hk15 (by first | exact hI | exact TPL_k hd0 (fun _ => rfl) (fun _ => rfl) (by (first | omega | (have z0_ := unhid h10_1; omega))) | (exfalso; (first | omega | (have z0_ := unhid h10_1; omega)))) (by first | exact hI | exact SCL_k hd1 hM (fun j _ => (fun _ => rfl) j) (fun j _ => (fun _ => rfl) j) (fun j _ _ => (fun _ => rfl) j) | (exfalso; (first | omega | (have z0_ := unhid h10_1; omega)))) (by first | exact hI | exact SCL_k hd2 hM2 (fun j _ => (fun _ => rfl) j) (fun j _ => (fun _ => rfl) j) (fun j _ _ => (fun _ => rfl) j) | (exfalso; (first | omega | (have z0_ := unhid h10_1; omega)))) (by first | exact hI | exact QRL_k hd3 hM (fun j _ => (fun _ => rfl) j) ((fun _ => rfl) 1) (fun j _ _ => (fun _ => rfl) j) | (exfalso; (first | omega | (have z0_ := unhid h10_1; omega)))) (by first | exact hI | exact QRL_k hd4 hM2 (fun j _ => (fun _ => rfl) j) ((fun _ => rfl) 1) (fun j _ _ => (fun _ => rfl) j) | (exfalso; (first | omega | (have z0_ := unhid h10_1; omega)))) (by first | exact hI | exact SDL_k hd5 hM (fun j _ => (fun _ => rfl) j) ((fun _ => rfl) 1) (fun j _ _ => (fun _ => rfl) j) (fun j _ _ => (fun _ => rfl) j) | (exfalso; (first | omega | (have z0_ := unhid h10_1; omega)))) (by first | exact hI | exact SDL_k hd6 hM2 (fun j _ => (fun _ => rfl) j) ((fun _ => rfl) 1) (fun j _ _ => (fun _ => rfl) j) (fun j _ _ => (fun _ => rfl) j) | (exfalso; (first | omega | (have z0_ := unhid h10_1; omega)))) (by first | exact hI | exact LWL_k hd7 hM (fun j _ => (fun _ => rfl) j) (fun j _ => (fun _ => rfl) j) (fun j _ => (fun _ => rfl) j) (fun j _ _ => (fun _ => rfl) j) | (exfalso; (first | omega | (have z0_ := unhid h10_1; omega)))) (by first | exact hI | exact LWL_k hd8 hM2 (fun j _ => (fun _ => rfl) j) (fun j _ => (fun _ => rfl) j) (fun j _ => (fun _ => rfl) j) (fun j _ _ => (fun _ => rfl) j) | (exfalso; (first | omega | (have z0_ := unhid h10_1; omega)))) (by first | exact hI | exact CHL_k hd9 hM (fun j _ => (fun _ => rfl) j) (by (first | omega | (have z0_ := unhid h10_1; omega))) (fun j _ _ => (fun _ => rfl) j) | (exfalso; (first | omega | (have z0_ := unhid h10_1; omega)))) (by first | exact hI | exact CHL_k hd10 hM2 (fun j _ => (fun _ => rfl) j) (by (first | omega | (have z0_ := unhid h10_1; omega))) (fun j _ _ => (fun _ => rfl) j) | (exfalso; (first | omega | (have z0_ := unhid h10_1; omega)))) (by first | exact hI | exact ANL_k hd11 hM (fun j _ => (fun _ => rfl) j) (by (first | omega | (have z0_ := unhid h10_1; omega))) (by (first | omega | (have z0_ := unhid h10_1; omega))) (by (first | omega | (have z0_ := unhid h10_1; omega))) (fun j _ _ => (fun _ => rfl) j) | (exfalso; (first | omega | (have z0_ := unhid h10_1; omega)))) (by first | exact hI | exact ANL_k hd12 hM2 (fun j _ => (fun _ => rfl) j) (by (first | omega | (have z0_ := unhid h10_1; omega))) (by (first | omega | (have z0_ := unhid h10_1; omega))) (by (first | omega | (have z0_ := unhid h10_1; omega))) (fun j _ _ => (fun _ => rfl) j) | (exfalso; (first | omega | (have z0_ := unhid h10_1; omega))))
    · skip
      obtain ⟨h10_0, h10_1⟩ := h10
      refine go_toq PM267 (k := 2) (pc' := 1435) (L' := [some (.inr (.inr (some 3000))), some (.inr (.inr (some 0))), some (.inr (.inr (some 79))), some (.inl i)]) (st' := []) (w' := (SH, dt)) rfl ?_
      exact K dt hI hM hM2 hk0 hk1 hk2 hk3 hk4 hk5 hk6 hk7 hk8 hk9 hk10 hk11 hk12 hk13 hk14 hk15 (by first | exact hI | exact TPL_k hd0 (fun _ => rfl) (fun _ => rfl) (by omega) | (exfalso; omega)) (by first | exact hI | exact SCL_k hd1 hM (fun j _ => (fun _ => rfl) j) (fun j _ => (fun _ => rfl) j) (fun j _ _ => (fun _ => rfl) j) | (exfalso; omega)) (by first | exact hI | exact SCL_k hd2 hM2 (fun j _ => (fun _ => rfl) j) (fun j _ => (fun _ => rfl) j) (fun j _ _ => (fun _ => rfl) j) | (exfalso; omega)) (by first | exact hI | exact QRL_k hd3 hM (fun j _ => (fun _ => rfl) j) ((fun _ => rfl) 1) (fun j _ _ => (fun _ => rfl) j) | (exfalso; omega)) (by first | exact hI | exact QRL_k hd4 hM2 (fun j _ => (fun _ => rfl) j) ((fun _ => rfl) 1) (fun j _ _ => (fun _ => rfl) j) | (exfalso; omega)) (by first | exact hI | exact SDL_k hd5 hM (fun j _ => (fun _ => rfl) j) ((fun _ => rfl) 1) (fun j _ _ => (fun _ => rfl) j) (fun j _ _ => (fun _ => rfl) j) | (exfalso; omega)) (by first | exact hI | exact SDL_k hd6 hM2 (fun j _ => (fun _ => rfl) j) ((fun _ => rfl) 1) (fun j _ _ => (fun _ => rfl) j) (fun j _ _ => (fun _ => rfl) j) | (exfalso; omega)) (by first | exact hI | exact LWL_k hd7 hM (fun j _ => (fun _ => rfl) j) (fun j _ => (fun _ => rfl) j) (fun j _ => (fun _ => rfl) j) (fun j _ _ => (fun _ => rfl) j) | (exfalso; omega)) (by first | exact hI | exact LWL_k hd8 hM2 (fun j _ => (fun _ => rfl) j) (fun j _ => (fun _ => rfl) j) (fun j _ => (fun _ => rfl) j) (fun j _ _ => (fun _ => rfl) j) | (exfalso; omega)) (by first | exact hI | exact CHL_k hd9 hM (fun j _ => (fun _ => rfl) j) (by omega) (fun j _ _ => (fun _ => rfl) j) | (exfalso; omega)) (by first | exact hI | exact CHL_k hd10 hM2 (fun j _ => (fun _ => rfl) j) (by omega) (fun j _ _ => (fun _ => rfl) j) | (exfalso; omega)) (by first | exact hI | exact ANL_k hd11 hM (fun j _ => (fun _ => rfl) j) (by omega) (by omega) (by omega) (fun j _ _ => (fun _ => rfl) j) | (exfalso; omega)) (by first | exact hI | exact ANL_k hd12 hM2 (fun j _ => (fun _ => rfl) j) (by omega) (by omega) (by omega) (fun j _ _ => (fun _ => rfl) j) | (exfalso; omega))
    · skip
      refine go_toq PM267 (k := 2) (pc' := 1435) (L' := [some (.inr (.inr (some 3000))), some (.inr (.inr (some 0))), some (.inr (.inr (some 79))), some (.inl i)]) (st' := []) (w' := (SH, dt)) rfl ?_
      exact K dt hI hM hM2 hk0 hk1 hk2 hk3 hk4 hk5 hk6 hk7 hk8 hk9 hk10 hk11 hk12 hk13 hk14 hk15 (by first | exact hI | exact TPL_k hd0 (fun _ => rfl) (fun _ => rfl) (by omega) | (exfalso; omega)) (by first | exact hI | exact SCL_k hd1 hM (fun j _ => (fun _ => rfl) j) (fun j _ => (fun _ => rfl) j) (fun j _ _ => (fun _ => rfl) j) | (exfalso; omega)) (by first | exact hI | exact SCL_k hd2 hM2 (fun j _ => (fun _ => rfl) j) (fun j _ => (fun _ => rfl) j) (fun j _ _ => (fun _ => rfl) j) | (exfalso; omega)) (by first | exact hI | exact QRL_k hd3 hM (fun j _ => (fun _ => rfl) j) ((fun _ => rfl) 1) (fun j _ _ => (fun _ => rfl) j) | (exfalso; omega)) (by first | exact hI | exact QRL_k hd4 hM2 (fun j _ => (fun _ => rfl) j) ((fun _ => rfl) 1) (fun j _ _ => (fun _ => rfl) j) | (exfalso; omega)) (by first | exact hI | exact SDL_k hd5 hM (fun j _ => (fun _ => rfl) j) ((fun _ => rfl) 1) (fun j _ _ => (fun _ => rfl) j) (fun j _ _ => (fun _ => rfl) j) | (exfalso; omega)) (by first | exact hI | exact SDL_k hd6 hM2 (fun j _ => (fun _ => rfl) j) ((fun _ => rfl) 1) (fun j _ _ => (fun _ => rfl) j) (fun j _ _ => (fun _ => rfl) j) | (exfalso; omega)) (by first | exact hI | exact LWL_k hd7 hM (fun j _ => (fun _ => rfl) j) (fun j _ => (fun _ => rfl) j) (fun j _ => (fun _ => rfl) j) (fun j _ _ => (fun _ => rfl) j) | (exfalso; omega)) (by first | exact hI | exact LWL_k hd8 hM2 (fun j _ => (fun _ => rfl) j) (fun j _ => (fun _ => rfl) j) (fun j _ => (fun _ => rfl) j) (fun j _ _ => (fun _ => rfl) j) | (exfalso; omega)) (by first | exact hI | exact CHL_k hd9 hM (fun j _ => (fun _ => rfl) j) (by omega) (fun j _ _ => (fun _ => rfl) j) | (exfalso; omega)) (by first | exact hI | exact CHL_k hd10 hM2 (fun j _ => (fun _ => rfl) j) (by omega) (fun j _ _ => (fun _ => rfl) j) | (exfalso; omega)) (by first | exact hI | exact ANL_k hd11 hM (fun j _ => (fun _ => rfl) j) (by omega) (by omega) (by omega) (fun j _ _ => (fun _ => rfl) j) | (exfalso; omega)) (by first | exact hI | exact ANL_k hd12 hM2 (fun j _ => (fun _ => rfl) j) (by omega) (by omega) (by omega) (fun j _ _ => (fun _ => rfl) j) | (exfalso; omega))
  · skip
    refine go_toq PM267 (k := 6) (pc' := 1427) (L' := [some (.inr (.inr (some 3000))), some (.inr (.inr (some 0))), some (.inr (.inr (some 79))), some (.inl i)]) (st' := [.inl (i + 1), .inr (.inr (some 3000)), .inr (.inr (some 79))]) (w' := (SH, dt)) rfl ?_
    refine go_smpq PM267 (L' := [some (.inr (.inr (some 3000))), some (.inr (.inr (some 0))), some (.inr (.inr (some 79))), some (.inl i)]) (st' := [.inl ((xs ((i + 1).toNat)).toInt), .inr (.inr (some 79))]) (w' := (SH, dt)) rfl rfl (s_iald (n := L) (f := fun j => (xs j).toInt) (am_scr hLL) ⟨by omega, by omega⟩) ?_
    refine go_callq PM267 PM248 (Q' := _) rfl rfl rfl rfl (sp_X6_look L xs sio (d + 38) dt hI  ((xs ((i + 1).toNat)).toInt) ⟨by omega, by omega⟩ ) ?_
    rintro _ _ ⟨rfl, h11⟩
    refine ⟨rfl, ?_⟩
    rcases h11 with ⟨rfl, h11⟩ | ⟨rfl, h11⟩ | ⟨rfl, h11⟩ | ⟨rfl, h11⟩ | ⟨rfl, h11⟩ | ⟨rfl, h11⟩ | ⟨rfl, h11⟩ | ⟨rfl, h11⟩ | ⟨rfl, h11⟩
    · skip
      refine go_toq PM267 (k := 2) (pc' := 1435) (L' := [some (.inr (.inr (some 3000))), some (.inr (.inr (some 0))), some (.inr (.inr (some 79))), some (.inl i)]) (st' := []) (w' := (SH, dt)) rfl ?_
      exact K dt hI hM hM2 hk0 hk1 hk2 hk3 hk4 hk5 hk6 hk7 hk8 hk9 hk10 hk11 hk12 hk13 hk14 hk15 (by first | exact hI | exact TPL_k hd0 (fun _ => rfl) (fun _ => rfl) (by omega) | (exfalso; omega)) (by first | exact hI | exact SCL_k hd1 hM (fun j _ => (fun _ => rfl) j) (fun j _ => (fun _ => rfl) j) (fun j _ _ => (fun _ => rfl) j) | (exfalso; omega)) (by first | exact hI | exact SCL_k hd2 hM2 (fun j _ => (fun _ => rfl) j) (fun j _ => (fun _ => rfl) j) (fun j _ _ => (fun _ => rfl) j) | (exfalso; omega)) (by first | exact hI | exact QRL_k hd3 hM (fun j _ => (fun _ => rfl) j) ((fun _ => rfl) 1) (fun j _ _ => (fun _ => rfl) j) | (exfalso; omega)) (by first | exact hI | exact QRL_k hd4 hM2 (fun j _ => (fun _ => rfl) j) ((fun _ => rfl) 1) (fun j _ _ => (fun _ => rfl) j) | (exfalso; omega)) (by first | exact hI | exact SDL_k hd5 hM (fun j _ => (fun _ => rfl) j) ((fun _ => rfl) 1) (fun j _ _ => (fun _ => rfl) j) (fun j _ _ => (fun _ => rfl) j) | (exfalso; omega)) (by first | exact hI | exact SDL_k hd6 hM2 (fun j _ => (fun _ => rfl) j) ((fun _ => rfl) 1) (fun j _ _ => (fun _ => rfl) j) (fun j _ _ => (fun _ => rfl) j) | (exfalso; omega)) (by first | exact hI | exact LWL_k hd7 hM (fun j _ => (fun _ => rfl) j) (fun j _ => (fun _ => rfl) j) (fun j _ => (fun _ => rfl) j) (fun j _ _ => (fun _ => rfl) j) | (exfalso; omega)) (by first | exact hI | exact LWL_k hd8 hM2 (fun j _ => (fun _ => rfl) j) (fun j _ => (fun _ => rfl) j) (fun j _ => (fun _ => rfl) j) (fun j _ _ => (fun _ => rfl) j) | (exfalso; omega)) (by first | exact hI | exact CHL_k hd9 hM (fun j _ => (fun _ => rfl) j) (by omega) (fun j _ _ => (fun _ => rfl) j) | (exfalso; omega)) (by first | exact hI | exact CHL_k hd10 hM2 (fun j _ => (fun _ => rfl) j) (by omega) (fun j _ _ => (fun _ => rfl) j) | (exfalso; omega)) (by first | exact hI | exact ANL_k hd11 hM (fun j _ => (fun _ => rfl) j) (by omega) (by omega) (by omega) (fun j _ _ => (fun _ => rfl) j) | (exfalso; omega)) (by first | exact hI | exact ANL_k hd12 hM2 (fun j _ => (fun _ => rfl) j) (by omega) (by omega) (by omega) (fun j _ _ => (fun _ => rfl) j) | (exfalso; omega))
    · skip
      refine go_toq PM267 (k := 2) (pc' := 1435) (L' := [some (.inr (.inr (some 3000))), some (.inr (.inr (some 0))), some (.inr (.inr (some 79))), some (.inl i)]) (st' := []) (w' := (SH, dt)) rfl ?_
      exact K dt hI hM hM2 hk0 hk1 hk2 hk3 hk4 hk5 hk6 hk7 hk8 hk9 hk10 hk11 hk12 hk13 hk14 hk15 (by first | exact hI | exact TPL_k hd0 (fun _ => rfl) (fun _ => rfl) (by omega) | (exfalso; omega)) (by first | exact hI | exact SCL_k hd1 hM (fun j _ => (fun _ => rfl) j) (fun j _ => (fun _ => rfl) j) (fun j _ _ => (fun _ => rfl) j) | (exfalso; omega)) (by first | exact hI | exact SCL_k hd2 hM2 (fun j _ => (fun _ => rfl) j) (fun j _ => (fun _ => rfl) j) (fun j _ _ => (fun _ => rfl) j) | (exfalso; omega)) (by first | exact hI | exact QRL_k hd3 hM (fun j _ => (fun _ => rfl) j) ((fun _ => rfl) 1) (fun j _ _ => (fun _ => rfl) j) | (exfalso; omega)) (by first | exact hI | exact QRL_k hd4 hM2 (fun j _ => (fun _ => rfl) j) ((fun _ => rfl) 1) (fun j _ _ => (fun _ => rfl) j) | (exfalso; omega)) (by first | exact hI | exact SDL_k hd5 hM (fun j _ => (fun _ => rfl) j) ((fun _ => rfl) 1) (fun j _ _ => (fun _ => rfl) j) (fun j _ _ => (fun _ => rfl) j) | (exfalso; omega)) (by first | exact hI | exact SDL_k hd6 hM2 (fun j _ => (fun _ => rfl) j) ((fun _ => rfl) 1) (fun j _ _ => (fun _ => rfl) j) (fun j _ _ => (fun _ => rfl) j) | (exfalso; omega)) (by first | exact hI | exact LWL_k hd7 hM (fun j _ => (fun _ => rfl) j) (fun j _ => (fun _ => rfl) j) (fun j _ => (fun _ => rfl) j) (fun j _ _ => (fun _ => rfl) j) | (exfalso; omega)) (by first | exact hI | exact LWL_k hd8 hM2 (fun j _ => (fun _ => rfl) j) (fun j _ => (fun _ => rfl) j) (fun j _ => (fun _ => rfl) j) (fun j _ _ => (fun _ => rfl) j) | (exfalso; omega)) (by first | exact hI | exact CHL_k hd9 hM (fun j _ => (fun _ => rfl) j) (by omega) (fun j _ _ => (fun _ => rfl) j) | (exfalso; omega)) (by first | exact hI | exact CHL_k hd10 hM2 (fun j _ => (fun _ => rfl) j) (by omega) (fun j _ _ => (fun _ => rfl) j) | (exfalso; omega)) (by first | exact hI | exact ANL_k hd11 hM (fun j _ => (fun _ => rfl) j) (by omega) (by omega) (by omega) (fun j _ _ => (fun _ => rfl) j) | (exfalso; omega)) (by first | exact hI | exact ANL_k hd12 hM2 (fun j _ => (fun _ => rfl) j) (by omega) (by omega) (by omega) (fun j _ _ => (fun _ => rfl) j) | (exfalso; omega))
    · skip
      refine go_toq PM267 (k := 2) (pc' := 1435) (L' := [some (.inr (.inr (some 3000))), some (.inr (.inr (some 0))), some (.inr (.inr (some 79))), some (.inl i)]) (st' := []) (w' := (SH, dt)) rfl ?_
      exact K dt hI hM hM2 hk0 hk1 hk2 hk3 hk4 hk5 hk6 hk7 hk8 hk9 hk10 hk11 hk12 hk13 hk14 hk15 (by first | exact hI | exact TPL_k hd0 (fun _ => rfl) (fun _ => rfl) (by omega) | (exfalso; omega)) (by first | exact hI | exact SCL_k hd1 hM (fun j _ => (fun _ => rfl) j) (fun j _ => (fun _ => rfl) j) (fun j _ _ => (fun _ => rfl) j) | (exfalso; omega)) (by first | exact hI | exact SCL_k hd2 hM2 (fun j _ => (fun _ => rfl) j) (fun j _ => (fun _ => rfl) j) (fun j _ _ => (fun _ => rfl) j) | (exfalso; omega)) (by first | exact hI | exact QRL_k hd3 hM (fun j _ => (fun _ => rfl) j) ((fun _ => rfl) 1) (fun j _ _ => (fun _ => rfl) j) | (exfalso; omega)) (by first | exact hI | exact QRL_k hd4 hM2 (fun j _ => (fun _ => rfl) j) ((fun _ => rfl) 1) (fun j _ _ => (fun _ => rfl) j) | (exfalso; omega)) (by first | exact hI | exact SDL_k hd5 hM (fun j _ => (fun _ => rfl) j) ((fun _ => rfl) 1) (fun j _ _ => (fun _ => rfl) j) (fun j _ _ => (fun _ => rfl) j) | (exfalso; omega)) (by first | exact hI | exact SDL_k hd6 hM2 (fun j _ => (fun _ => rfl) j) ((fun _ => rfl) 1) (fun j _ _ => (fun _ => rfl) j) (fun j _ _ => (fun _ => rfl) j) | (exfalso; omega)) (by first | exact hI | exact LWL_k hd7 hM (fun j _ => (fun _ => rfl) j) (fun j _ => (fun _ => rfl) j) (fun j _ => (fun _ => rfl) j) (fun j _ _ => (fun _ => rfl) j) | (exfalso; omega)) (by first | exact hI | exact LWL_k hd8 hM2 (fun j _ => (fun _ => rfl) j) (fun j _ => (fun _ => rfl) j) (fun j _ => (fun _ => rfl) j) (fun j _ _ => (fun _ => rfl) j) | (exfalso; omega)) (by first | exact hI | exact CHL_k hd9 hM (fun j _ => (fun _ => rfl) j) (by omega) (fun j _ _ => (fun _ => rfl) j) | (exfalso; omega)) (by first | exact hI | exact CHL_k hd10 hM2 (fun j _ => (fun _ => rfl) j) (by omega) (fun j _ _ => (fun _ => rfl) j) | (exfalso; omega)) (by first | exact hI | exact ANL_k hd11 hM (fun j _ => (fun _ => rfl) j) (by omega) (by omega) (by omega) (fun j _ _ => (fun _ => rfl) j) | (exfalso; omega)) (by first | exact hI | exact ANL_k hd12 hM2 (fun j _ => (fun _ => rfl) j) (by omega) (by omega) (by omega) (fun j _ _ => (fun _ => rfl) j) | (exfalso; omega))
    · skip
      refine go_toq PM267 (k := 2) (pc' := 1435) (L' := [some (.inr (.inr (some 3000))), some (.inr (.inr (some 0))), some (.inr (.inr (some 79))), some (.inl i)]) (st' := []) (w' := (SH, dt)) rfl ?_
      exact K dt hI hM hM2 hk0 hk1 hk2 hk3 hk4 hk5 hk6 hk7 hk8 hk9 hk10 hk11 hk12 hk13 hk14 hk15 (by first | exact hI | exact TPL_k hd0 (fun _ => rfl) (fun _ => rfl) (by omega) | (exfalso; omega)) (by first | exact hI | exact SCL_k hd1 hM (fun j _ => (fun _ => rfl) j) (fun j _ => (fun _ => rfl) j) (fun j _ _ => (fun _ => rfl) j) | (exfalso; omega)) (by first | exact hI | exact SCL_k hd2 hM2 (fun j _ => (fun _ => rfl) j) (fun j _ => (fun _ => rfl) j) (fun j _ _ => (fun _ => rfl) j) | (exfalso; omega)) (by first | exact hI | exact QRL_k hd3 hM (fun j _ => (fun _ => rfl) j) ((fun _ => rfl) 1) (fun j _ _ => (fun _ => rfl) j) | (exfalso; omega)) (by first | exact hI | exact QRL_k hd4 hM2 (fun j _ => (fun _ => rfl) j) ((fun _ => rfl) 1) (fun j _ _ => (fun _ => rfl) j) | (exfalso; omega)) (by first | exact hI | exact SDL_k hd5 hM (fun j _ => (fun _ => rfl) j) ((fun _ => rfl) 1) (fun j _ _ => (fun _ => rfl) j) (fun j _ _ => (fun _ => rfl) j) | (exfalso; omega)) (by first | exact hI | exact SDL_k hd6 hM2 (fun j _ => (fun _ => rfl) j) ((fun _ => rfl) 1) (fun j _ _ => (fun _ => rfl) j) (fun j _ _ => (fun _ => rfl) j) | (exfalso; omega)) (by first | exact hI | exact LWL_k hd7 hM (fun j _ => (fun _ => rfl) j) (fun j _ => (fun _ => rfl) j) (fun j _ => (fun _ => rfl) j) (fun j _ _ => (fun _ => rfl) j) | (exfalso; omega)) (by first | exact hI | exact LWL_k hd8 hM2 (fun j _ => (fun _ => rfl) j) (fun j _ => (fun _ => rfl) j) (fun j _ => (fun _ => rfl) j) (fun j _ _ => (fun _ => rfl) j) | (exfalso; omega)) (by first | exact hI | exact CHL_k hd9 hM (fun j _ => (fun _ => rfl) j) (by omega) (fun j _ _ => (fun _ => rfl) j) | (exfalso; omega)) (by first | exact hI | exact CHL_k hd10 hM2 (fun j _ => (fun _ => rfl) j) (by omega) (fun j _ _ => (fun _ => rfl) j) | (exfalso; omega)) (by first | exact hI | exact ANL_k hd11 hM (fun j _ => (fun _ => rfl) j) (by omega) (by omega) (by omega) (fun j _ _ => (fun _ => rfl) j) | (exfalso; omega)) (by first | exact hI | exact ANL_k hd12 hM2 (fun j _ => (fun _ => rfl) j) (by omega) (by omega) (by omega) (fun j _ _ => (fun _ => rfl) j) | (exfalso; omega))
    · skip
      refine go_toq PM267 (k := 2) (pc' := 1435) (L' := [some (.inr (.inr (some 3000))), some (.inr (.inr (some 0))), some (.inr (.inr (some 79))), some (.inl i)]) (st' := []) (w' := (SH, dt)) rfl ?_
      exact K dt hI hM hM2 hk0 hk1 hk2 hk3 hk4 hk5 hk6 hk7 hk8 hk9 hk10 hk11 hk12 hk13 hk14 hk15 (by first | exact hI | exact TPL_k hd0 (fun _ => rfl) (fun _ => rfl) (by omega) | (exfalso; omega)) (by first | exact hI | exact SCL_k hd1 hM (fun j _ => (fun _ => rfl) j) (fun j _ => (fun _ => rfl) j) (fun j _ _ => (fun _ => rfl) j) | (exfalso; omega)) (by first | exact hI | exact SCL_k hd2 hM2 (fun j _ => (fun _ => rfl) j) (fun j _ => (fun _ => rfl) j) (fun j _ _ => (fun _ => rfl) j) | (exfalso; omega)) (by first | exact hI | exact QRL_k hd3 hM (fun j _ => (fun _ => rfl) j) ((fun _ => rfl) 1) (fun j _ _ => (fun _ => rfl) j) | (exfalso; omega)) (by first | exact hI | exact QRL_k hd4 hM2 (fun j _ => (fun _ => rfl) j) ((fun _ => rfl) 1) (fun j _ _ => (fun _ => rfl) j) | (exfalso; omega)) (by first | exact hI | exact SDL_k hd5 hM (fun j _ => (fun _ => rfl) j) ((fun _ => rfl) 1) (fun j _ _ => (fun _ => rfl) j) (fun j _ _ => (fun _ => rfl) j) | (exfalso; omega)) (by first | exact hI | exact SDL_k hd6 hM2 (fun j _ => (fun _ => rfl) j) ((fun _ => rfl) 1) (fun j _ _ => (fun _ => rfl) j) (fun j _ _ => (fun _ => rfl) j) | (exfalso; omega)) (by first | exact hI | exact LWL_k hd7 hM (fun j _ => (fun _ => rfl) j) (fun j _ => (fun _ => rfl) j) (fun j _ => (fun _ => rfl) j) (fun j _ _ => (fun _ => rfl) j) | (exfalso; omega)) (by first | exact hI | exact LWL_k hd8 hM2 (fun j _ => (fun _ => rfl) j) (fun j _ => (fun _ => rfl) j) (fun j _ => (fun _ => rfl) j) (fun j _ _ => (fun _ => rfl) j) | (exfalso; omega)) (by first | exact hI | exact CHL_k hd9 hM (fun j _ => (fun _ => rfl) j) (by omega) (fun j _ _ => (fun _ => rfl) j) | (exfalso; omega)) (by first | exact hI | exact CHL_k hd10 hM2 (fun j _ => (fun _ => rfl) j) (by omega) (fun j _ _ => (fun _ => rfl) j) | (exfalso; omega)) (by first | exact hI | exact ANL_k hd11 hM (fun j _ => (fun _ => rfl) j) (by omega) (by omega) (by omega) (fun j _ _ => (fun _ => rfl) j) | (exfalso; omega)) (by first | exact hI | exact ANL_k hd12 hM2 (fun j _ => (fun _ => rfl) j) (by omega) (by omega) (by omega) (fun j _ _ => (fun _ => rfl) j) | (exfalso; omega))
    · skip
      refine go_toq PM267 (k := 2) (pc' := 1435) (L' := [some (.inr (.inr (some 3000))), some (.inr (.inr (some 0))), some (.inr (.inr (some 79))), some (.inl i)]) (st' := []) (w' := (SH, dt)) rfl ?_
      exact K dt hI hM hM2 hk0 hk1 hk2 hk3 hk4 hk5 hk6 hk7 hk8 hk9 hk10 hk11 hk12 hk13 hk14 hk15 (by first | exact hI | exact TPL_k hd0 (fun _ => rfl) (fun _ => rfl) (by omega) | (exfalso; omega)) (by first | exact hI | exact SCL_k hd1 hM (fun j _ => (fun _ => rfl) j) (fun j _ => (fun _ => rfl) j) (fun j _ _ => (fun _ => rfl) j) | (exfalso; omega)) (by first | exact hI | exact SCL_k hd2 hM2 (fun j _ => (fun _ => rfl) j) (fun j _ => (fun _ => rfl) j) (fun j _ _ => (fun _ => rfl) j) | (exfalso; omega)) (by first | exact hI | exact QRL_k hd3 hM (fun j _ => (fun _ => rfl) j) ((fun _ => rfl) 1) (fun j _ _ => (fun _ => rfl) j) | (exfalso; omega)) (by first | exact hI | exact QRL_k hd4 hM2 (fun j _ => (fun _ => rfl) j) ((fun _ => rfl) 1) (fun j _ _ => (fun _ => rfl) j) | (exfalso; omega)) (by first | exact hI | exact SDL_k hd5 hM (fun j _ => (fun _ => rfl) j) ((fun _ => rfl) 1) (fun j _ _ => (fun _ => rfl) j) (fun j _ _ => (fun _ => rfl) j) | (exfalso; omega)) (by first | exact hI | exact SDL_k hd6 hM2 (fun j _ => (fun _ => rfl) j) ((fun _ => rfl) 1) (fun j _ _ => (fun _ => rfl) j) (fun j _ _ => (fun _ => rfl) j) | (exfalso; omega)) (by first | exact hI | exact LWL_k hd7 hM (fun j _ => (fun _ => rfl) j) (fun j _ => (fun _ => rfl) j) (fun j _ => (fun _ => rfl) j) (fun j _ _ => (fun _ => rfl) j) | (exfalso; omega)) (by first | exact hI | exact LWL_k hd8 hM2 (fun j _ => (fun _ => rfl) j) (fun j _ => (fun _ => rfl) j) (fun j _ => (fun _ => rfl) j) (fun j _ _ => (fun _ => rfl) j) | (exfalso; omega)) (by first | exact hI | exact CHL_k hd9 hM (fun j _ => (fun _ => rfl) j) (by omega) (fun j _ _ => (fun _ => rfl) j) | (exfalso; omega)) (by first | exact hI | exact CHL_k hd10 hM2 (fun j _ => (fun _ => rfl) j) (by omega) (fun j _ _ => (fun _ => rfl) j) | (exfalso; omega)) (by first | exact hI | exact ANL_k hd11 hM (fun j _ => (fun _ => rfl) j) (by omega) (by omega) (by omega) (fun j _ _ => (fun _ => rfl) j) | (exfalso; omega)) (by first | exact hI | exact ANL_k hd12 hM2 (fun j _ => (fun _ => rfl) j) (by omega) (by omega) (by omega) (fun j _ _ => (fun _ => rfl) j) | (exfalso; omega))
    · skip
      obtain ⟨h11_0, h11_1⟩ := h11
      replace h11_1 := hid h11_1
      refine go_toq PM267 (k := 2) (pc' := 1435) (L' := [some (.inr (.inr (some 3000))), some (.inr (.inr (some 0))), some (.inr (.inr (some 79))), some (.inl i)]) (st' := []) (w' := (SH, dt)) rfl ?_
      exact K dt hI hM hM2 hk0 hk1 hk2 hk3 hk4 hk5 hk6 hk7 hk8 hk9 hk10 hk11 hk12 hk13 hk14 hk15 (by first | exact hI | exact TPL_k hd0 (fun _ => rfl) (fun _ => rfl) (by (first | omega | (have z0_ := unhid h11_1; omega))) | (exfalso; (first | omega | (have z0_ := unhid h11_1; omega)))) (by first | exact hI | exact SCL_k hd1 hM (fun j _ => (fun _ => rfl) j) (fun j _ => (fun _ => rfl) j) (fun j _ _ => (fun _ => rfl) j) | (exfalso; (first | omega | (have z0_ := unhid h11_1; omega)))) (by first | exact hI | exact SCL_k hd2 hM2 (fun j _ => (fun _ => rfl) j) (fun j _ => (fun _ => rfl) j) (fun j _ _ => (fun _ => rfl) j) | (exfalso; (first | omega | (have z0_ := unhid h11_1; omega)))) (by first | exact hI | exact QRL_k hd3 hM (fun j _ => (fun _ => rfl) j) ((fun _ => rfl) 1) (fun j _ _ => (fun _ => rfl) j) | (exfalso; (first | omega | (have z0_ := unhid h11_1; omega)))) (by first | exact hI | exact QRL_k hd4 hM2 (fun j _ => (fun _ => rfl) j) ((fun _ => rfl) 1) (fun j _ _ => (fun _ => rfl) j) | (exfalso; (first | omega | (have z0_ := unhid h11_1; omega)))) (by first | exact hI | exact SDL_k hd5 hM (fun j _ => (fun _ => rfl) j) ((fun _ => rfl) 1) (fun j _ _ => (fun _ => rfl) j) (fun j _ _ => (fun _ => rfl) j) | (exfalso; (first | omega | (have z0_ := unhid h11_1; omega)))) (by first | exact hI | exact SDL_k hd6 hM2 (fun j _ => (fun _ => rfl) j) ((fun _ => rfl) 1) (fun j _ _ => (fun _ => rfl) j) (fun j _ _ => (fun _ => rfl) j) | (exfalso; (first | omega | (have z0_ := unhid h11_1; omega)))) (by first | exact hI | exact LWL_k hd7 hM (fun j _ => (fun _ => rfl) j) (fun j _ => (fun _ => rfl) j) (fun j _ => (fun _ => rfl) j) (fun j _ _ => (fun _ => rfl) j) | (exfalso; (first | omega | (have z0_ := unhid h11_1; omega)))) (by first | exact hI | exact LWL_k hd8 hM2 (fun j _ => (fun _ => rfl) j) (fun j _ => (fun _ => rfl) j) (fun j _ => (fun _ => rfl) j) (fun j _ _ => (fun _ => rfl) j) | (exfalso; (first | omega | (have z0_ := unhid h11_1; omega)))) (by first | exact hI | exact CHL_k hd9 hM (fun j _ => (fun _ => rfl) j) (by (first | omega | (have z0_ := unhid h11_1; omega))) (fun j _ _ => (fun _ => rfl) j) | (exfalso; (first | omega | (have z0_ := unhid h11_1; omega)))) (by first | exact hI | exact CHL_k hd10 hM2 (fun j _ => (fun _ => rfl) j) (by (first | omega | (have z0_ := unhid h11_1; omega))) (fun j _ _ => (fun _ => rfl) j) | (exfalso; (first | omega | (have z0_ := unhid h11_1; omega)))) (by first | exact hI | exact ANL_k hd11 hM (fun j _ => (fun _ => rfl) j) (by (first | omega | (have z0_ := unhid h11_1; omega))) (by (first | omega | (have z0_ := unhid h11_1; omega))) (by (first | omega | (have z0_ := unhid h11_1; omega))) (fun j _ _ => (fun _ => rfl) j) | (exfalso; (first | omega | (have z0_ := unhid h11_1; omega)))) (by first | exact hI | exact ANL_k hd12 hM2 (fun j _ => (fun _ => rfl) j) (by (first | omega | (have z0_ := unhid h11_1; omega))) (by (first | omega | (have z0_ := unhid h11_1; omega))) (by (first | omega | (have z0_ := unhid h11_1; omega))) (fun j _ _ => (fun _ => rfl) j) | (exfalso; (first | omega | (have z0_ := unhid h11_1; omega))))
    · skip
      obtain ⟨h11_0, h11_1⟩ := h11
      refine go_toq PM267 (k := 2) (pc' := 1435) (L' := [some (.inr (.inr (some 3000))), some (.inr (.inr (some 0))), some (.inr (.inr (some 79))), some (.inl i)]) (st' := []) (w' := (SH, dt)) rfl ?_
      exact K dt hI hM hM2 hk0 hk1 hk2 hk3 hk4 hk5 hk6 hk7 hk8 hk9 hk10 hk11 hk12 hk13 hk14 hk15 (by first | exact hI | exact TPL_k hd0 (fun _ => rfl) (fun _ => rfl) (by omega) | (exfalso; omega)) (by first | exact hI | exact SCL_k hd1 hM (fun j _ => (fun _ => rfl) j) (fun j _ => (fun _ => rfl) j) (fun j _ _ => (fun _ => rfl) j) | (exfalso; omega)) (by first | exact hI | exact SCL_k hd2 hM2 (fun j _ => (fun _ => rfl) j) (fun j _ => (fun _ => rfl) j) (fun j _ _ => (fun _ => rfl) j) | (exfalso; omega)) (by first | exact hI | exact QRL_k hd3 hM (fun j _ => (fun _ => rfl) j) ((fun _ => rfl) 1) (fun j _ _ => (fun _ => rfl) j) | (exfalso; omega)) (by first | exact hI | exact QRL_k hd4 hM2 (fun j _ => (fun _ => rfl) j) ((fun _ => rfl) 1) (fun j _ _ => (fun _ => rfl) j) | (exfalso; omega)) (by first | exact hI | exact SDL_k hd5 hM (fun j _ => (fun _ => rfl) j) ((fun _ => rfl) 1) (fun j _ _ => (fun _ => rfl) j) (fun j _ _ => (fun _ => rfl) j) | (exfalso; omega)) (by first | exact hI | exact SDL_k hd6 hM2 (fun j _ => (fun _ => rfl) j) ((fun _ => rfl) 1) (fun j _ _ => (fun _ => rfl) j) (fun j _ _ => (fun _ => rfl) j) | (exfalso; omega)) (by first | exact hI | exact LWL_k hd7 hM (fun j _ => (fun _ => rfl) j) (fun j _ => (fun _ => rfl) j) (fun j _ => (fun _ => rfl) j) (fun j _ _ => (fun _ => rfl) j) | (exfalso; omega)) (by first | exact hI | exact LWL_k hd8 hM2 (fun j _ => (fun _ => rfl) j) (fun j _ => (fun _ => rfl) j) (fun j _ => (fun _ => rfl) j) (fun j _ _ => (fun _ => rfl) j) | (exfalso; omega)) (by first | exact hI | exact CHL_k hd9 hM (fun j _ => (fun _ => rfl) j) (by omega) (fun j _ _ => (fun _ => rfl) j) | (exfalso; omega)) (by first | exact hI | exact CHL_k hd10 hM2 (fun j _ => (fun _ => rfl) j) (by omega) (fun j _ _ => (fun _ => rfl) j) | (exfalso; omega)) (by first | exact hI | exact ANL_k hd11 hM (fun j _ => (fun _ => rfl) j) (by omega) (by omega) (by omega) (fun j _ _ => (fun _ => rfl) j) | (exfalso; omega)) (by first | exact hI | exact ANL_k hd12 hM2 (fun j _ => (fun _ => rfl) j) (by omega) (by omega) (by omega) (fun j _ _ => (fun _ => rfl) j) | (exfalso; omega))
    · skip
      refine go_toq PM267 (k := 2) (pc' := 1435) (L' := [some (.inr (.inr (some 3000))), some (.inr (.inr (some 0))), some (.inr (.inr (some 79))), some (.inl i)]) (st' := []) (w' := (SH, dt)) rfl ?_
      exact K dt hI hM hM2 hk0 hk1 hk2 hk3 hk4 hk5 hk6 hk7 hk8 hk9 hk10 hk11 hk12 hk13 hk14 hk15 (by first | exact hI | exact TPL_k hd0 (fun _ => rfl) (fun _ => rfl) (by omega) | (exfalso; omega)) (by first | exact hI | exact SCL_k hd1 hM (fun j _ => (fun _ => rfl) j) (fun j _ => (fun _ => rfl) j) (fun j _ _ => (fun _ => rfl) j) | (exfalso; omega)) (by first | exact hI | exact SCL_k hd2 hM2 (fun j _ => (fun _ => rfl) j) (fun j _ => (fun _ => rfl) j) (fun j _ _ => (fun _ => rfl) j) | (exfalso; omega)) (by first | exact hI | exact QRL_k hd3 hM (fun j _ => (fun _ => rfl) j) ((fun _ => rfl) 1) (fun j _ _ => (fun _ => rfl) j) | (exfalso; omega)) (by first | exact hI | exact QRL_k hd4 hM2 (fun j _ => (fun _ => rfl) j) ((fun _ => rfl) 1) (fun j _ _ => (fun _ => rfl) j) | (exfalso; omega)) (by first | exact hI | exact SDL_k hd5 hM (fun j _ => (fun _ => rfl) j) ((fun _ => rfl) 1) (fun j _ _ => (fun _ => rfl) j) (fun j _ _ => (fun _ => rfl) j) | (exfalso; omega)) (by first | exact hI | exact SDL_k hd6 hM2 (fun j _ => (fun _ => rfl) j) ((fun _ => rfl) 1) (fun j _ _ => (fun _ => rfl) j) (fun j _ _ => (fun _ => rfl) j) | (exfalso; omega)) (by first | exact hI | exact LWL_k hd7 hM (fun j _ => (fun _ => rfl) j) (fun j _ => (fun _ => rfl) j) (fun j _ => (fun _ => rfl) j) (fun j _ _ => (fun _ => rfl) j) | (exfalso; omega)) (by first | exact hI | exact LWL_k hd8 hM2 (fun j _ => (fun _ => rfl) j) (fun j _ => (fun _ => rfl) j) (fun j _ => (fun _ => rfl) j) (fun j _ _ => (fun _ => rfl) j) | (exfalso; omega)) (by first | exact hI | exact CHL_k hd9 hM (fun j _ => (fun _ => rfl) j) (by omega) (fun j _ _ => (fun _ => rfl) j) | (exfalso; omega)) (by first | exact hI | exact CHL_k hd10 hM2 (fun j _ => (fun _ => rfl) j) (by omega) (fun j _ _ => (fun _ => rfl) j) | (exfalso; omega)) (by first | exact hI | exact ANL_k hd11 hM (fun j _ => (fun _ => rfl) j) (by omega) (by omega) (by omega) (fun j _ _ => (fun _ => rfl) j) | (exfalso; omega)) (by first | exact hI | exact ANL_k hd12 hM2 (fun j _ => (fun _ => rfl) j) (by omega) (by omega) (by omega) (fun j _ _ => (fun _ => rfl) j) | (exfalso; omega))
