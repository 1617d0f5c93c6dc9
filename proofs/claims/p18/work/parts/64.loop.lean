set_option maxRecDepth 20000 in
set_option maxHeartbeats 8000000 in
theorem sp_case22 (L : Nat) (xs : Nat → Int32) (sio : Option Nat) (d : Nat) (Q : Option AV → am_W → Prop) (hLL : L ≤ 3072) (i : Int) (hi : 0 ≤ i ∧ i ≤ 3066) (hil : i ≤ (L : Int) - 6) (dt : Nat → Nat → Int) (hI : InvC dt) (hM : MW (dt 80)) (hM2 : MW (dt 81)) (hk0 : dt 1 0 = dt 80 0) (hk1 : dt 7 3 = dt 80 1) (hk2 : dt 10 3 = dt 80 2) (hk3 : dt 12 3 = dt 80 3) (hk4 : dt 14 3 = dt 80 4) (hk5 : dt 16 3 = dt 80 5) (hk6 : dt 18 0 = dt 81 0) (hk7 : dt 24 3 = dt 81 1) (hk8 : dt 27 3 = dt 81 2) (hk9 : dt 29 3 = dt 81 3) (hk10 : dt 31 3 = dt 81 4) (hk11 : dt 33 3 = dt 81 5) (hk12 : dt 0 2 = dt 79 2) (hk13 : dt 35 1 = dt 79 12) (hk14 : dt 35 2 = dt 79 19) (hk15 : dt 35 3 = dt 79 21) (hd0 : TPL (dt 36) (dt 85) (dt 35 1)) (hd1 : SCL (dt 2) (dt 3) (dt 80)) (hd2 : SCL (dt 19) (dt 20) (dt 81)) (hd3 : QRL (dt 8) (dt 80)) (hd4 : QRL (dt 25) (dt 81)) (hd5 : SDL (dt 9) (dt 80)) (hd6 : SDL (dt 26) (dt 81)) (K : ∀ (dt : Nat → Nat → Int) (hI : InvC dt) (hM : MW (dt 80)) (hM2 : MW (dt 81)) (hk0 : dt 1 0 = dt 80 0) (hk1 : dt 7 3 = dt 80 1) (hk2 : dt 10 3 = dt 80 2) (hk3 : dt 12 3 = dt 80 3) (hk4 : dt 14 3 = dt 80 4) (hk5 : dt 16 3 = dt 80 5) (hk6 : dt 18 0 = dt 81 0) (hk7 : dt 24 3 = dt 81 1) (hk8 : dt 27 3 = dt 81 2) (hk9 : dt 29 3 = dt 81 3) (hk10 : dt 31 3 = dt 81 4) (hk11 : dt 33 3 = dt 81 5) (hk12 : dt 0 2 = dt 79 2) (hk13 : dt 35 1 = dt 79 12) (hk14 : dt 35 2 = dt 79 19) (hk15 : dt 35 3 = dt 79 21) (hd0 : TPL (dt 36) (dt 85) (dt 35 1)) (hd1 : SCL (dt 2) (dt 3) (dt 80)) (hd2 : SCL (dt 19) (dt 20) (dt 81)) (hd3 : QRL (dt 8) (dt 80)) (hd4 : QRL (dt 25) (dt 81)) (hd5 : SDL (dt 9) (dt 80)) (hd6 : SDL (dt 26) (dt 81)), GO (am_XX L xs sio) (d + 39) 267 1435 [some (.inr (.inr (some 3000))), some (.inr (.inr (some 0))), some (.inr (.inr (some 79))), some (.inl i)] [] (SH, dt) Q) : GO (am_XX L xs sio) (d + 39) 267 1086 [some (.inr (.inr (some 3000))), some (.inr (.inr (some 0))), some (.inr (.inr (some 79))), some (.inl i)] [] (SH, dt) Q := by
  have hF : Fr [0, 1, 2, 3, 4, 5, 6, 7, 8, 9, 10, 11, 12, 13, 14, 15, 16, 17, 18, 19, 20, 21, 22, 23, 24, 25, 26, 27, 28, 29, 30, 31, 32, 33, 34, 35, 36, 37, 38, 39, 40, 41, 42, 43, 44, 45, 46, 47, 48, 49, 50, 51, 52, 53, 54, 55, 56, 57, 58, 59, 60, 61, 62, 63, 64, 65, 66, 67, 68, 69, 70, 71, 72, 73, 74, 75, 76, 77, 78, 79, 80, 81, 82, 83, 84, 85, 86, 87, 88, 89, 90, 91, 92, 93, 94, 95, 96, 97, 98, 99, 100, 101, 102, 103, 104] dt dt := Fr_refl
  have hqo := QOC_R hd3 hM hk1
  have hb1_ := hM.1.1
  refine go_toq PM267 (k := 5) (pc' := 1091) (L' := [some (.inr (.inr (some 3000))), some (.inr (.inr (some 0))), some (.inr (.inr (some 79))), some (.inl i)]) (st' := [.inl (i + 1), .inr (.inr (some 3000)), .inr (.inr (some 0))]) (w' := (SH, dt)) rfl ?_
  have r1 := i32_R (xs ((i + 1).toNat))
  refine go_smpq PM267 (L' := [some (.inr (.inr (some 3000))), some (.inr (.inr (some 0))), some (.inr (.inr (some 79))), some (.inl i)]) (st' := [.inl ((xs ((i + 1).toNat)).toInt), .inr (.inr (some 0))]) (w' := (SH, dt)) rfl rfl (s_iald (n := L) (f := fun j => (xs j).toInt) (am_scr hLL) ⟨by omega, by omega⟩) ?_
  refine go_callq PM267 PM89 (Q' := _) rfl rfl rfl rfl (sp_X5_beside L xs sio (d + 34) dt hI  ((xs ((i + 1).toNat)).toInt) ⟨by omega, by omega⟩ ) ?_
  rintro _ _ ⟨dt3, rfl, hI4, hF5, h2⟩
  refine ⟨rfl, ?_⟩
  have hF6 : Fr [0, 1, 2, 3, 4, 5, 6, 7, 8, 9, 10, 11, 12, 13, 14, 15, 16, 17, 18, 19, 20, 21, 22, 23, 24, 25, 26, 27, 28, 29, 30, 31, 32, 33, 34, 35, 36, 37, 38, 39, 40, 41, 42, 43, 44, 45, 46, 47, 48, 49, 50, 51, 52, 53, 54, 55, 56, 57, 58, 59, 60, 61, 62, 63, 64, 65, 66, 67, 68, 69, 70, 71, 72, 73, 74, 75, 76, 77, 78, 79, 80, 81, 82, 83, 84, 85, 86, 87, 88, 89, 90, 91, 92, 93, 94, 95, 96, 97, 98, 99, 100, 101, 102, 103, 104] dt dt3 := Fr_tr hF hF5 (by decide)
  have hM7 : MW (dt3 80) := MW_fr hM hF5 (by decide)
  have w8 : dt3 1 0 = dt 1 0 := hF5 1 (by decide) 0
  have w9 : dt3 7 3 = dt 7 3 := hF5 7 (by decide) 3
  have w10 : dt3 10 3 = dt 10 3 := hF5 10 (by decide) 3
  have w11 : dt3 12 3 = dt 12 3 := hF5 12 (by decide) 3
  have w12 : dt3 14 3 = dt 14 3 := hF5 14 (by decide) 3
  have w13 : dt3 16 3 = dt 16 3 := hF5 16 (by decide) 3
  have w14 : dt3 18 0 = dt 18 0 := hF5 18 (by decide) 0
  have w15 : dt3 24 3 = dt 24 3 := hF5 24 (by decide) 3
  have w16 : dt3 27 3 = dt 27 3 := hF5 27 (by decide) 3
  have w17 : dt3 29 3 = dt 29 3 := hF5 29 (by decide) 3
  have w18 : dt3 31 3 = dt 31 3 := hF5 31 (by decide) 3
  have w19 : dt3 33 3 = dt 33 3 := hF5 33 (by decide) 3
  have w20 : dt3 0 2 = dt 0 2 := hF5 0 (by decide) 2
  have w21 : dt3 35 1 = dt 35 1 := hF5 35 (by decide) 1
  have w22 : dt3 35 2 = dt 35 2 := hF5 35 (by decide) 2
  have w23 : dt3 35 3 = dt 35 3 := hF5 35 (by decide) 3
  have w24 : dt3 80 0 = dt 80 0 := hF5 80 (by decide) 0
  have w25 : dt3 80 1 = dt 80 1 := hF5 80 (by decide) 1
  have w26 : dt3 80 2 = dt 80 2 := hF5 80 (by decide) 2
  have w27 : dt3 80 3 = dt 80 3 := hF5 80 (by decide) 3
  have w28 : dt3 80 4 = dt 80 4 := hF5 80 (by decide) 4
  have w29 : dt3 80 5 = dt 80 5 := hF5 80 (by decide) 5
  have w30 : dt3 81 0 = dt 81 0 := hF5 81 (by decide) 0
  have w31 : dt3 81 1 = dt 81 1 := hF5 81 (by decide) 1
  have w32 : dt3 81 2 = dt 81 2 := hF5 81 (by decide) 2
  have w33 : dt3 81 3 = dt 81 3 := hF5 81 (by decide) 3
  have w34 : dt3 81 4 = dt 81 4 := hF5 81 (by decide) 4
  have w35 : dt3 81 5 = dt 81 5 := hF5 81 (by decide) 5
  have w36 : dt3 79 2 = dt 79 2 := hF5 79 (by decide) 2
  have w37 : dt3 79 12 = dt 79 12 := hF5 79 (by decide) 12
  have w38 : dt3 79 19 = dt 79 19 := hF5 79 (by decide) 19
  have w39 : dt3 79 21 = dt 79 21 := hF5 79 (by decide) 21
  rcases h2 with ⟨v_h2, rfl, h2r, h2⟩
  have M240 : MW (dt3 81) := MW_frk hM2 hF5 (by decide)
  have C41 : ∀ j : Nat, dt3 2 j = dt 2 j := fun j => (hF5 2 (by decide) j).trans ((fun _ => rfl) j)
  have C42 : ∀ j : Nat, dt3 3 j = dt 3 j := fun j => (hF5 3 (by decide) j).trans ((fun _ => rfl) j)
  have C43 : ∀ j : Nat, dt3 19 j = dt 19 j := fun j => (hF5 19 (by decide) j).trans ((fun _ => rfl) j)
  have C44 : ∀ j : Nat, dt3 20 j = dt 20 j := fun j => (hF5 20 (by decide) j).trans ((fun _ => rfl) j)
  have C45 : ∀ j : Nat, dt3 8 j = dt 8 j := fun j => (hF5 8 (by decide) j).trans ((fun _ => rfl) j)
  have C46 : ∀ j : Nat, dt3 25 j = dt 25 j := fun j => (hF5 25 (by decide) j).trans ((fun _ => rfl) j)
  have C47 : ∀ j : Nat, dt3 9 j = dt 9 j := fun j => (hF5 9 (by decide) j).trans ((fun _ => rfl) j)
  have C48 : ∀ j : Nat, dt3 26 j = dt 26 j := fun j => (hF5 26 (by decide) j).trans ((fun _ => rfl) j)
  have C49 : ∀ j : Nat, dt3 36 j = dt 36 j := fun j => (hF5 36 (by decide) j).trans ((fun _ => rfl) j)
  have C50 : ∀ j : Nat, dt3 80 j = dt 80 j := fun j => (hF5 80 (by decide) j).trans ((fun _ => rfl) j)
  have C51 : ∀ j : Nat, dt3 81 j = dt 81 j := fun j => (hF5 81 (by decide) j).trans ((fun _ => rfl) j)
  have C52 : ∀ j : Nat, dt3 85 j = dt 85 j := fun j => (hF5 85 (by decide) j).trans ((fun _ => rfl) j)
  refine go_toq PM267 (k := 6) (pc' := 1101) (L' := [some (.inr (.inr (some 3000))), some (.inr (.inr (some 0))), some (.inr (.inr (some 79))), some (.inl i)]) (st' := [.inl (i + 1), .inr (.inr (some 3000)), .inr (.inr (some 79))]) (w' := (SH, dt3)) rfl ?_
  have r53 := i32_R (xs ((i + 1).toNat))
  refine go_smpq PM267 (L' := [some (.inr (.inr (some 3000))), some (.inr (.inr (some 0))), some (.inr (.inr (some 79))), some (.inl i)]) (st' := [.inl ((xs ((i + 1).toNat)).toInt), .inr (.inr (some 79))]) (w' := (SH, dt3)) rfl rfl (s_iald (n := L) (f := fun j => (xs j).toInt) (am_scr hLL) ⟨by omega, by omega⟩) ?_
  refine go_callq PM267 PM232 (Q' := _) rfl rfl rfl rfl (sp_X6_beside L xs sio (d + 31) dt3 hI4 hM7  ((xs ((i + 1).toNat)).toInt) ⟨by omega, by omega⟩ ) ?_
  rintro _ _ ⟨dt55, rfl, hI56, hF57, h54⟩
  refine ⟨rfl, ?_⟩
  have hF58 : Fr [0, 1, 2, 3, 4, 5, 6, 7, 8, 9, 10, 11, 12, 13, 14, 15, 16, 17, 18, 19, 20, 21, 22, 23, 24, 25, 26, 27, 28, 29, 30, 31, 32, 33, 34, 35, 36, 37, 38, 39, 40, 41, 42, 43, 44, 45, 46, 47, 48, 49, 50, 51, 52, 53, 54, 55, 56, 57, 58, 59, 60, 61, 62, 63, 64, 65, 66, 67, 68, 69, 70, 71, 72, 73, 74, 75, 76, 77, 78, 79, 80, 81, 82, 83, 84, 85, 86, 87, 88, 89, 90, 91, 92, 93, 94, 95, 96, 97, 98, 99, 100, 101, 102, 103, 104] dt dt55 := Fr_tr hF6 hF57 (by decide)
  have hM59 : MW (dt55 80) := MW_fr hM7 hF57 (by decide)
  have w60 : dt55 1 0 = dt 1 0 := (hF57 1 (by decide) 0).trans w8
  have w61 : dt55 7 3 = dt 7 3 := (hF57 7 (by decide) 3).trans w9
  have w62 : dt55 10 3 = dt 10 3 := (hF57 10 (by decide) 3).trans w10
  have w63 : dt55 12 3 = dt 12 3 := (hF57 12 (by decide) 3).trans w11
  have w64 : dt55 14 3 = dt 14 3 := (hF57 14 (by decide) 3).trans w12
  have w65 : dt55 16 3 = dt 16 3 := (hF57 16 (by decide) 3).trans w13
  have w66 : dt55 18 0 = dt 18 0 := (hF57 18 (by decide) 0).trans w14
  have w67 : dt55 24 3 = dt 24 3 := (hF57 24 (by decide) 3).trans w15
  have w68 : dt55 27 3 = dt 27 3 := (hF57 27 (by decide) 3).trans w16
  have w69 : dt55 29 3 = dt 29 3 := (hF57 29 (by decide) 3).trans w17
  have w70 : dt55 31 3 = dt 31 3 := (hF57 31 (by decide) 3).trans w18
  have w71 : dt55 33 3 = dt 33 3 := (hF57 33 (by decide) 3).trans w19
  have w72 : dt55 0 2 = dt 0 2 := (hF57 0 (by decide) 2).trans w20
  have w73 : dt55 35 1 = dt 35 1 := (hF57 35 (by decide) 1).trans w21
  have w74 : dt55 35 2 = dt 35 2 := (hF57 35 (by decide) 2).trans w22
  have w75 : dt55 35 3 = dt 35 3 := (hF57 35 (by decide) 3).trans w23
  have w76 : dt55 80 0 = dt 80 0 := (hF57 80 (by decide) 0).trans w24
  have w77 : dt55 80 1 = dt 80 1 := (hF57 80 (by decide) 1).trans w25
  have w78 : dt55 80 2 = dt 80 2 := (hF57 80 (by decide) 2).trans w26
  have w79 : dt55 80 3 = dt 80 3 := (hF57 80 (by decide) 3).trans w27
  have w80 : dt55 80 4 = dt 80 4 := (hF57 80 (by decide) 4).trans w28
  have w81 : dt55 80 5 = dt 80 5 := (hF57 80 (by decide) 5).trans w29
  have w82 : dt55 81 0 = dt 81 0 := (hF57 81 (by decide) 0).trans w30
  have w83 : dt55 81 1 = dt 81 1 := (hF57 81 (by decide) 1).trans w31
  have w84 : dt55 81 2 = dt 81 2 := (hF57 81 (by decide) 2).trans w32
  have w85 : dt55 81 3 = dt 81 3 := (hF57 81 (by decide) 3).trans w33
  have w86 : dt55 81 4 = dt 81 4 := (hF57 81 (by decide) 4).trans w34
  have w87 : dt55 81 5 = dt 81 5 := (hF57 81 (by decide) 5).trans w35
  have w88 : dt55 79 2 = dt 79 2 := (hF57 79 (by decide) 2).trans w36
  have w89 : dt55 79 12 = dt 79 12 := (hF57 79 (by decide) 12).trans w37
  have w90 : dt55 79 19 = dt 79 19 := (hF57 79 (by decide) 19).trans w38
  have w91 : dt55 79 21 = dt 79 21 := (hF57 79 (by decide) 21).trans w39
  rcases h54 with ⟨v_h54, rfl, h54r, h54⟩
  have M292 : MW (dt55 81) := MW_frk M240 hF57 (by decide)
  have C93 : ∀ j : Nat, dt55 2 j = dt 2 j := fun j => (hF57 2 (by decide) j).trans (C41 j)
  have C94 : ∀ j : Nat, dt55 3 j = dt 3 j := fun j => (hF57 3 (by decide) j).trans (C42 j)
  have C95 : ∀ j : Nat, dt55 19 j = dt 19 j := fun j => (hF57 19 (by decide) j).trans (C43 j)
  have C96 : ∀ j : Nat, dt55 20 j = dt 20 j := fun j => (hF57 20 (by decide) j).trans (C44 j)
  have C97 : ∀ j : Nat, dt55 8 j = dt 8 j := fun j => (hF57 8 (by decide) j).trans (C45 j)
  have C98 : ∀ j : Nat, dt55 25 j = dt 25 j := fun j => (hF57 25 (by decide) j).trans (C46 j)
  have C99 : ∀ j : Nat, dt55 9 j = dt 9 j := fun j => (hF57 9 (by decide) j).trans (C47 j)
  have C100 : ∀ j : Nat, dt55 26 j = dt 26 j := fun j => (hF57 26 (by decide) j).trans (C48 j)
  have C101 : ∀ j : Nat, dt55 36 j = dt 36 j := fun j => (hF57 36 (by decide) j).trans (C49 j)
  have C102 : ∀ j : Nat, dt55 80 j = dt 80 j := fun j => (hF57 80 (by decide) j).trans (C50 j)
  have C103 : ∀ j : Nat, dt55 81 j = dt 81 j := fun j => (hF57 81 (by decide) j).trans (C51 j)
  have C104 : ∀ j : Nat, dt55 85 j = dt 85 j := fun j => (hF57 85 (by decide) j).trans (C52 j)
  refine go_toq PM267 (k := 2) (pc' := 1435) (L' := [some (.inr (.inr (some 3000))), some (.inr (.inr (some 0))), some (.inr (.inr (some 79))), some (.inl i)]) (st' := []) (w' := (SH, dt55)) rfl ?_
  exact K dt55 hI56 hM59 M292 (w60.trans (hk0.trans w76.symm)) (w61.trans (hk1.trans w77.symm)) (w62.trans (hk2.trans w78.symm)) (w63.trans (hk3.trans w79.symm)) (w64.trans (hk4.trans w80.symm)) (w65.trans (hk5.trans w81.symm)) (w66.trans (hk6.trans w82.symm)) (w67.trans (hk7.trans w83.symm)) (w68.trans (hk8.trans w84.symm)) (w69.trans (hk9.trans w85.symm)) (w70.trans (hk10.trans w86.symm)) (w71.trans (hk11.trans w87.symm)) (w72.trans (hk12.trans w88.symm)) (w73.trans (hk13.trans w89.symm)) (w74.trans (hk14.trans w90.symm)) (w75.trans (hk15.trans w91.symm)) (by first | exact hI | exact TPL_k hd0 C101 C104 (by omega) | (exfalso; omega)) (by first | exact hI | exact SCL_k hd1 hM (fun j _ => C93 j) (fun j _ => C94 j) (fun j _ _ => C102 j) | (exfalso; omega)) (by first | exact hI | exact SCL_k hd2 hM2 (fun j _ => C95 j) (fun j _ => C96 j) (fun j _ _ => C103 j) | (exfalso; omega)) (by first | exact hI | exact QRL_k hd3 hM (fun j _ => C97 j) (C102 1) (fun j _ _ => C102 j) | (exfalso; omega)) (by first | exact hI | exact QRL_k hd4 hM2 (fun j _ => C98 j) (C103 1) (fun j _ _ => C103 j) | (exfalso; omega)) (by first | exact hI | exact SDL_k hd5 hM (fun j _ => C99 j) (C102 1) (fun j _ _ => C102 j) (fun j _ _ => C102 j) | (exfalso; omega)) (by first | exact hI | exact SDL_k hd6 hM2 (fun j _ => C100 j) (C103 1) (fun j _ _ => C103 j) (fun j _ _ => C103 j) | (exfalso; omega))
set_option maxRecDepth 20000 in
set_option maxHeartbeats 8000000 in
theorem sp_case23 (L : Nat) (xs : Nat → Int32) (sio : Option Nat) (d : Nat) (Q : Option AV → am_W → Prop) (hLL : L ≤ 3072) (i : Int) (hi : 0 ≤ i ∧ i ≤ 3066) (hil : i ≤ (L : Int) - 6) (dt : Nat → Nat → Int) (hI : InvC dt) (hM : MW (dt 80)) (hM2 : MW (dt 81)) (hk0 : dt 1 0 = dt 80 0) (hk1 : dt 7 3 = dt 80 1) (hk2 : dt 10 3 = dt 80 2) (hk3 : dt 12 3 = dt 80 3) (hk4 : dt 14 3 = dt 80 4) (hk5 : dt 16 3 = dt 80 5) (hk6 : dt 18 0 = dt 81 0) (hk7 : dt 24 3 = dt 81 1) (hk8 : dt 27 3 = dt 81 2) (hk9 : dt 29 3 = dt 81 3) (hk10 : dt 31 3 = dt 81 4) (hk11 : dt 33 3 = dt 81 5) (hk12 : dt 0 2 = dt 79 2) (hk13 : dt 35 1 = dt 79 12) (hk14 : dt 35 2 = dt 79 19) (hk15 : dt 35 3 = dt 79 21) (hd0 : TPL (dt 36) (dt 85) (dt 35 1)) (hd1 : SCL (dt 2) (dt 3) (dt 80)) (hd2 : SCL (dt 19) (dt 20) (dt 81)) (hd3 : QRL (dt 8) (dt 80)) (hd4 : QRL (dt 25) (dt 81)) (hd5 : SDL (dt 9) (dt 80)) (hd6 : SDL (dt 26) (dt 81)) (K : ∀ (dt : Nat → Nat → Int) (hI : InvC dt) (hM : MW (dt 80)) (hM2 : MW (dt 81)) (hk0 : dt 1 0 = dt 80 0) (hk1 : dt 7 3 = dt 80 1) (hk2 : dt 10 3 = dt 80 2) (hk3 : dt 12 3 = dt 80 3) (hk4 : dt 14 3 = dt 80 4) (hk5 : dt 16 3 = dt 80 5) (hk6 : dt 18 0 = dt 81 0) (hk7 : dt 24 3 = dt 81 1) (hk8 : dt 27 3 = dt 81 2) (hk9 : dt 29 3 = dt 81 3) (hk10 : dt 31 3 = dt 81 4) (hk11 : dt 33 3 = dt 81 5) (hk12 : dt 0 2 = dt 79 2) (hk13 : dt 35 1 = dt 79 12) (hk14 : dt 35 2 = dt 79 19) (hk15 : dt 35 3 = dt 79 21) (hd0 : TPL (dt 36) (dt 85) (dt 35 1)) (hd1 : SCL (dt 2) (dt 3) (dt 80)) (hd2 : SCL (dt 19) (dt 20) (dt 81)) (hd3 : QRL (dt 8) (dt 80)) (hd4 : QRL (dt 25) (dt 81)) (hd5 : SDL (dt 9) (dt 80)) (hd6 : SDL (dt 26) (dt 81)), GO (am_XX L xs sio) (d + 39) 267 1435 [some (.inr (.inr (some 3000))), some (.inr (.inr (some 0))), some (.inr (.inr (some 79))), some (.inl i)] [] (SH, dt) Q) : GO (am_XX L xs sio) (d + 39) 267 1109 [some (.inr (.inr (some 3000))), some (.inr (.inr (some 0))), some (.inr (.inr (some 79))), some (.inl i)] [] (SH, dt) Q := by
  have hF : Fr [0, 1, 2, 3, 4, 5, 6, 7, 8, 9, 10, 11, 12, 13, 14, 15, 16, 17, 18, 19, 20, 21, 22, 23, 24, 25, 26, 27, 28, 29, 30, 31, 32, 33, 34, 35, 36, 37, 38, 39, 40, 41, 42, 43, 44, 45, 46, 47, 48, 49, 50, 51, 52, 53, 54, 55, 56, 57, 58, 59, 60, 61, 62, 63, 64, 65, 66, 67, 68, 69, 70, 71, 72, 73, 74, 75, 76, 77, 78, 79, 80, 81, 82, 83, 84, 85, 86, 87, 88, 89, 90, 91, 92, 93, 94, 95, 96, 97, 98, 99, 100, 101, 102, 103, 104] dt dt := Fr_refl
  have hqo := QOC_R hd3 hM hk1
  have hb1_ := hM.1.1
  refine go_toq PM267 (k := 5) (pc' := 1114) (L' := [some (.inr (.inr (some 3000))), some (.inr (.inr (some 0))), some (.inr (.inr (some 79))), some (.inl i)]) (st' := [.inl (i + 1), .inr (.inr (some 3000)), .inr (.inr (some 0))]) (w' := (SH, dt)) rfl ?_
  have r1 := i32_R (xs ((i + 1).toNat))
  refine go_smpq PM267 (L' := [some (.inr (.inr (some 3000))), some (.inr (.inr (some 0))), some (.inr (.inr (some 79))), some (.inl i)]) (st' := [.inl ((xs ((i + 1).toNat)).toInt), .inr (.inr (some 0))]) (w' := (SH, dt)) rfl rfl (s_iald (n := L) (f := fun j => (xs j).toInt) (am_scr hLL) ⟨by omega, by omega⟩) ?_
  refine go_toq PM267 (k := 4) (pc' := 1119) (L' := [some (.inr (.inr (some 3000))), some (.inr (.inr (some 0))), some (.inr (.inr (some 79))), some (.inl i)]) (st' := [.inl (i + 2), .inr (.inr (some 3000)), .inl ((xs ((i + 1).toNat)).toInt), .inr (.inr (some 0))]) (w' := (SH, dt)) rfl ?_
  have r2 := i32_R (xs ((i + 2).toNat))
  refine go_smpq PM267 (L' := [some (.inr (.inr (some 3000))), some (.inr (.inr (some 0))), some (.inr (.inr (some 79))), some (.inl i)]) (st' := [.inl ((xs ((i + 2).toNat)).toInt), .inl ((xs ((i + 1).toNat)).toInt), .inr (.inr (some 0))]) (w' := (SH, dt)) rfl rfl (s_iald (n := L) (f := fun j => (xs j).toInt) (am_scr hLL) ⟨by omega, by omega⟩) ?_
  refine go_callq PM267 PM90 (Q' := _) rfl rfl rfl rfl (sp_X5_eyes L xs sio (d + 36) dt hI  ((xs ((i + 1).toNat)).toInt) ⟨by omega, by omega⟩ ((xs ((i + 2).toNat)).toInt) ⟨by omega, by omega⟩ ) ?_
  rintro _ _ ⟨dt4, rfl, hI5, hF6, h3⟩
  refine ⟨rfl, ?_⟩
  have hF7 : Fr [0, 1, 2, 3, 4, 5, 6, 7, 8, 9, 10, 11, 12, 13, 14, 15, 16, 17, 18, 19, 20, 21, 22, 23, 24, 25, 26, 27, 28, 29, 30, 31, 32, 33, 34, 35, 36, 37, 38, 39, 40, 41, 42, 43, 44, 45, 46, 47, 48, 49, 50, 51, 52, 53, 54, 55, 56, 57, 58, 59, 60, 61, 62, 63, 64, 65, 66, 67, 68, 69, 70, 71, 72, 73, 74, 75, 76, 77, 78, 79, 80, 81, 82, 83, 84, 85, 86, 87, 88, 89, 90, 91, 92, 93, 94, 95, 96, 97, 98, 99, 100, 101, 102, 103, 104] dt dt4 := Fr_tr hF hF6 (by decide)
  have hM8 : MW (dt4 80) := MW_fr hM hF6 (by decide)
  have w9 : dt4 1 0 = dt 1 0 := hF6 1 (by decide) 0
  have w10 : dt4 7 3 = dt 7 3 := hF6 7 (by decide) 3
  have w11 : dt4 10 3 = dt 10 3 := hF6 10 (by decide) 3
  have w12 : dt4 12 3 = dt 12 3 := hF6 12 (by decide) 3
  have w13 : dt4 16 3 = dt 16 3 := hF6 16 (by decide) 3
  have w14 : dt4 18 0 = dt 18 0 := hF6 18 (by decide) 0
  have w15 : dt4 24 3 = dt 24 3 := hF6 24 (by decide) 3
  have w16 : dt4 27 3 = dt 27 3 := hF6 27 (by decide) 3
  have w17 : dt4 29 3 = dt 29 3 := hF6 29 (by decide) 3
  have w18 : dt4 31 3 = dt 31 3 := hF6 31 (by decide) 3
  have w19 : dt4 33 3 = dt 33 3 := hF6 33 (by decide) 3
  have w20 : dt4 0 2 = dt 0 2 := hF6 0 (by decide) 2
  have w21 : dt4 35 1 = dt 35 1 := hF6 35 (by decide) 1
  have w22 : dt4 35 2 = dt 35 2 := hF6 35 (by decide) 2
  have w23 : dt4 35 3 = dt 35 3 := hF6 35 (by decide) 3
  have w24 : dt4 80 0 = dt 80 0 := hF6 80 (by decide) 0
  have w25 : dt4 80 1 = dt 80 1 := hF6 80 (by decide) 1
  have w26 : dt4 80 2 = dt 80 2 := hF6 80 (by decide) 2
  have w27 : dt4 80 3 = dt 80 3 := hF6 80 (by decide) 3
  have w28 : dt4 80 4 = dt 80 4 := hF6 80 (by decide) 4
  have w29 : dt4 80 5 = dt 80 5 := hF6 80 (by decide) 5
  have w30 : dt4 81 0 = dt 81 0 := hF6 81 (by decide) 0
  have w31 : dt4 81 1 = dt 81 1 := hF6 81 (by decide) 1
  have w32 : dt4 81 2 = dt 81 2 := hF6 81 (by decide) 2
  have w33 : dt4 81 3 = dt 81 3 := hF6 81 (by decide) 3
  have w34 : dt4 81 4 = dt 81 4 := hF6 81 (by decide) 4
  have w35 : dt4 81 5 = dt 81 5 := hF6 81 (by decide) 5
  have w36 : dt4 79 2 = dt 79 2 := hF6 79 (by decide) 2
  have w37 : dt4 79 12 = dt 79 12 := hF6 79 (by decide) 12
  have w38 : dt4 79 19 = dt 79 19 := hF6 79 (by decide) 19
  have w39 : dt4 79 21 = dt 79 21 := hF6 79 (by decide) 21
  rcases h3 with ⟨rfl, h3⟩ | ⟨v_h3, rfl, h3r, h3⟩
  · skip
    obtain ⟨h3_0, h3_1⟩ := h3
    have w40 : dt4 14 3 = dt 14 3 := h3_1
    have M241 : MW (dt4 81) := MW_frk hM2 hF6 (by decide)
    have C42 : ∀ j : Nat, dt4 2 j = dt 2 j := fun j => (hF6 2 (by decide) j).trans ((fun _ => rfl) j)
    have C43 : ∀ j : Nat, dt4 3 j = dt 3 j := fun j => (hF6 3 (by decide) j).trans ((fun _ => rfl) j)
    have C44 : ∀ j : Nat, dt4 19 j = dt 19 j := fun j => (hF6 19 (by decide) j).trans ((fun _ => rfl) j)
    have C45 : ∀ j : Nat, dt4 20 j = dt 20 j := fun j => (hF6 20 (by decide) j).trans ((fun _ => rfl) j)
    have C46 : ∀ j : Nat, dt4 8 j = dt 8 j := fun j => (hF6 8 (by decide) j).trans ((fun _ => rfl) j)
    have C47 : ∀ j : Nat, dt4 25 j = dt 25 j := fun j => (hF6 25 (by decide) j).trans ((fun _ => rfl) j)
    have C48 : ∀ j : Nat, dt4 9 j = dt 9 j := fun j => (hF6 9 (by decide) j).trans ((fun _ => rfl) j)
    have C49 : ∀ j : Nat, dt4 26 j = dt 26 j := fun j => (hF6 26 (by decide) j).trans ((fun _ => rfl) j)
    have C50 : ∀ j : Nat, dt4 36 j = dt 36 j := fun j => (hF6 36 (by decide) j).trans ((fun _ => rfl) j)
    have C51 : ∀ j : Nat, dt4 80 j = dt 80 j := fun j => (hF6 80 (by decide) j).trans ((fun _ => rfl) j)
    have C52 : ∀ j : Nat, dt4 81 j = dt 81 j := fun j => (hF6 81 (by decide) j).trans ((fun _ => rfl) j)
    have C53 : ∀ j : Nat, dt4 85 j = dt 85 j := fun j => (hF6 85 (by decide) j).trans ((fun _ => rfl) j)
    refine go_toq PM267 (k := 6) (pc' := 1129) (L' := [some (.inr (.inr (some 3000))), some (.inr (.inr (some 0))), some (.inr (.inr (some 79))), some (.inl i)]) (st' := [.inl (i + 1), .inr (.inr (some 3000)), .inr (.inr (some 79))]) (w' := (SH, dt4)) rfl ?_
    have r54 := i32_R (xs ((i + 1).toNat))
    refine go_smpq PM267 (L' := [some (.inr (.inr (some 3000))), some (.inr (.inr (some 0))), some (.inr (.inr (some 79))), some (.inl i)]) (st' := [.inl ((xs ((i + 1).toNat)).toInt), .inr (.inr (some 79))]) (w' := (SH, dt4)) rfl rfl (s_iald (n := L) (f := fun j => (xs j).toInt) (am_scr hLL) ⟨by omega, by omega⟩) ?_
    refine go_toq PM267 (k := 4) (pc' := 1134) (L' := [some (.inr (.inr (some 3000))), some (.inr (.inr (some 0))), some (.inr (.inr (some 79))), some (.inl i)]) (st' := [.inl (i + 2), .inr (.inr (some 3000)), .inl ((xs ((i + 1).toNat)).toInt), .inr (.inr (some 79))]) (w' := (SH, dt4)) rfl ?_
    have r55 := i32_R (xs ((i + 2).toNat))
    refine go_smpq PM267 (L' := [some (.inr (.inr (some 3000))), some (.inr (.inr (some 0))), some (.inr (.inr (some 79))), some (.inl i)]) (st' := [.inl ((xs ((i + 2).toNat)).toInt), .inl ((xs ((i + 1).toNat)).toInt), .inr (.inr (some 79))]) (w' := (SH, dt4)) rfl rfl (s_iald (n := L) (f := fun j => (xs j).toInt) (am_scr hLL) ⟨by omega, by omega⟩) ?_
    refine go_callq PM267 PM233 (Q' := _) rfl rfl rfl rfl (sp_X6_eyes_v L xs sio (d + 37) dt4 hI5 hM8  ((xs ((i + 1).toNat)).toInt) ⟨by omega, by omega⟩ ((xs ((i + 2).toNat)).toInt) ⟨by omega, by omega⟩ ) ?_
    rintro _ _ ⟨dt57, rfl, hI58, hF59, h56⟩
    refine ⟨rfl, ?_⟩
    have hF60 : Fr [0, 1, 2, 3, 4, 5, 6, 7, 8, 9, 10, 11, 12, 13, 14, 15, 16, 17, 18, 19, 20, 21, 22, 23, 24, 25, 26, 27, 28, 29, 30, 31, 32, 33, 34, 35, 36, 37, 38, 39, 40, 41, 42, 43, 44, 45, 46, 47, 48, 49, 50, 51, 52, 53, 54, 55, 56, 57, 58, 59, 60, 61, 62, 63, 64, 65, 66, 67, 68, 69, 70, 71, 72, 73, 74, 75, 76, 77, 78, 79, 80, 81, 82, 83, 84, 85, 86, 87, 88, 89, 90, 91, 92, 93, 94, 95, 96, 97, 98, 99, 100, 101, 102, 103, 104] dt dt57 := Fr_tr hF7 hF59 (by decide)
    have w61 : dt57 1 0 = dt 1 0 := (hF59 1 (by decide) 0).trans w9
    have w62 : dt57 7 3 = dt 7 3 := (hF59 7 (by decide) 3).trans w10
    have w63 : dt57 10 3 = dt 10 3 := (hF59 10 (by decide) 3).trans w11
    have w64 : dt57 12 3 = dt 12 3 := (hF59 12 (by decide) 3).trans w12
    have w65 : dt57 14 3 = dt 14 3 := (hF59 14 (by decide) 3).trans w40
    have w66 : dt57 16 3 = dt 16 3 := (hF59 16 (by decide) 3).trans w13
    have w67 : dt57 18 0 = dt 18 0 := (hF59 18 (by decide) 0).trans w14
    have w68 : dt57 24 3 = dt 24 3 := (hF59 24 (by decide) 3).trans w15
    have w69 : dt57 27 3 = dt 27 3 := (hF59 27 (by decide) 3).trans w16
    have w70 : dt57 29 3 = dt 29 3 := (hF59 29 (by decide) 3).trans w17
    have w71 : dt57 31 3 = dt 31 3 := (hF59 31 (by decide) 3).trans w18
    have w72 : dt57 33 3 = dt 33 3 := (hF59 33 (by decide) 3).trans w19
    have w73 : dt57 0 2 = dt 0 2 := (hF59 0 (by decide) 2).trans w20
    have w74 : dt57 35 1 = dt 35 1 := (hF59 35 (by decide) 1).trans w21
    have w75 : dt57 35 2 = dt 35 2 := (hF59 35 (by decide) 2).trans w22
    have w76 : dt57 35 3 = dt 35 3 := (hF59 35 (by decide) 3).trans w23
    have w77 : dt57 81 0 = dt 81 0 := (hF59 81 (by decide) 0).trans w30
    have w78 : dt57 81 1 = dt 81 1 := (hF59 81 (by decide) 1).trans w31
    have w79 : dt57 81 2 = dt 81 2 := (hF59 81 (by decide) 2).trans w32
    have w80 : dt57 81 3 = dt 81 3 := (hF59 81 (by decide) 3).trans w33
    have w81 : dt57 81 4 = dt 81 4 := (hF59 81 (by decide) 4).trans w34
    have w82 : dt57 81 5 = dt 81 5 := (hF59 81 (by decide) 5).trans w35
    have w83 : dt57 79 2 = dt 79 2 := (hF59 79 (by decide) 2).trans w36
    have w84 : dt57 79 12 = dt 79 12 := (hF59 79 (by decide) 12).trans w37
    have w85 : dt57 79 19 = dt 79 19 := (hF59 79 (by decide) 19).trans w38
    have w86 : dt57 79 21 = dt 79 21 := (hF59 79 (by decide) 21).trans w39
    rcases h56 with ⟨rfl, h56⟩ | ⟨v_h56, rfl, h56r, h56⟩
    · skip
      have hM87 : MW (dt57 80) := h56.2.1
      obtain ⟨h56_0, h56_1, h56_2, h56_3, h56_4, h56_5, h56_6, h56_7, h56_8⟩ := h56
      have w88 : dt57 80 0 = dt 80 0 := h56_2.trans w24
      have w89 : dt57 80 1 = dt 80 1 := h56_3.trans w25
      have w90 : dt57 80 2 = dt 80 2 := h56_4.trans w26
      have w91 : dt57 80 3 = dt 80 3 := h56_5.trans w27
      have w92 : dt57 80 4 = dt 80 4 := h56_6.trans w28
      have w93 : dt57 80 5 = dt 80 5 := h56_7.trans w29
      have M294 : MW (dt57 81) := MW_frk M241 hF59 (by decide)
      have C95 : ∀ j : Nat, dt57 2 j = dt 2 j := fun j => (hF59 2 (by decide) j).trans (C42 j)
      have C96 : ∀ j : Nat, dt57 3 j = dt 3 j := fun j => (hF59 3 (by decide) j).trans (C43 j)
      have C97 : ∀ j : Nat, dt57 19 j = dt 19 j := fun j => (hF59 19 (by decide) j).trans (C44 j)
      have C98 : ∀ j : Nat, dt57 20 j = dt 20 j := fun j => (hF59 20 (by decide) j).trans (C45 j)
      have C99 : ∀ j : Nat, dt57 8 j = dt 8 j := fun j => (hF59 8 (by decide) j).trans (C46 j)
      have C100 : ∀ j : Nat, dt57 25 j = dt 25 j := fun j => (hF59 25 (by decide) j).trans (C47 j)
      have C101 : ∀ j : Nat, dt57 9 j = dt 9 j := fun j => (hF59 9 (by decide) j).trans (C48 j)
      have C102 : ∀ j : Nat, dt57 26 j = dt 26 j := fun j => (hF59 26 (by decide) j).trans (C49 j)
      have C103 : ∀ j : Nat, dt57 36 j = dt 36 j := fun j => (hF59 36 (by decide) j).trans (C50 j)
      have C104 : ∀ j : Nat, dt57 80 j = dt 80 j := fun j => (h56_8 j).trans (C51 j)
      have C105 : ∀ j : Nat, dt57 81 j = dt 81 j := fun j => (hF59 81 (by decide) j).trans (C52 j)
      have C106 : ∀ j : Nat, dt57 85 j = dt 85 j := fun j => (hF59 85 (by decide) j).trans (C53 j)
      refine go_toq PM267 (k := 2) (pc' := 1435) (L' := [some (.inr (.inr (some 3000))), some (.inr (.inr (some 0))), some (.inr (.inr (some 79))), some (.inl i)]) (st' := []) (w' := (SH, dt57)) rfl ?_
      exact K dt57 hI58 hM87 M294 (w61.trans (hk0.trans w88.symm)) (w62.trans (hk1.trans w89.symm)) (w63.trans (hk2.trans w90.symm)) (w64.trans (hk3.trans w91.symm)) (w65.trans (hk4.trans w92.symm)) (w66.trans (hk5.trans w93.symm)) (w67.trans (hk6.trans w77.symm)) (w68.trans (hk7.trans w78.symm)) (w69.trans (hk8.trans w79.symm)) (w70.trans (hk9.trans w80.symm)) (w71.trans (hk10.trans w81.symm)) (w72.trans (hk11.trans w82.symm)) (w73.trans (hk12.trans w83.symm)) (w74.trans (hk13.trans w84.symm)) (w75.trans (hk14.trans w85.symm)) (w76.trans (hk15.trans w86.symm)) (by first | exact hI | exact TPL_k hd0 C103 C106 (by omega) | (exfalso; omega)) (by first | exact hI | exact SCL_k hd1 hM (fun j _ => C95 j) (fun j _ => C96 j) (fun j _ _ => C104 j) | (exfalso; omega)) (by first | exact hI | exact SCL_k hd2 hM2 (fun j _ => C97 j) (fun j _ => C98 j) (fun j _ _ => C105 j) | (exfalso; omega)) (by first | exact hI | exact QRL_k hd3 hM (fun j _ => C99 j) (C104 1) (fun j _ _ => C104 j) | (exfalso; omega)) (by first | exact hI | exact QRL_k hd4 hM2 (fun j _ => C100 j) (C105 1) (fun j _ _ => C105 j) | (exfalso; omega)) (by first | exact hI | exact SDL_k hd5 hM (fun j _ => C101 j) (C104 1) (fun j _ _ => C104 j) (fun j _ _ => C104 j) | (exfalso; omega)) (by first | exact hI | exact SDL_k hd6 hM2 (fun j _ => C102 j) (C105 1) (fun j _ _ => C105 j) (fun j _ _ => C105 j) | (exfalso; omega))
    · skip
      have hM107 : MW (dt57 80) := h56.2.2.1
      obtain ⟨h56_0, h56_1, h56_2, h56_3, h56_4, h56_5, h56_6, h56_7, h56_8, h56_9, h56_10, h56_11⟩ := h56
      have w108 : dt57 80 0 = dt 80 0 := h56_4.trans w24
      have w109 : dt57 80 1 = dt 80 1 := h56_5.trans w25
      have w110 : dt57 80 2 = dt 80 2 := h56_6.trans w26
      have w111 : dt57 80 3 = dt 80 3 := h56_7.trans w27
      have w112 : dt57 80 5 = dt 80 5 := h56_8.trans w29
      have M2113 : MW (dt57 81) := MW_frk M241 hF59 (by decide)
      have C114 : ∀ j : Nat, dt57 2 j = dt 2 j := fun j => (hF59 2 (by decide) j).trans (C42 j)
      have C115 : ∀ j : Nat, dt57 3 j = dt 3 j := fun j => (hF59 3 (by decide) j).trans (C43 j)
      have C116 : ∀ j : Nat, dt57 19 j = dt 19 j := fun j => (hF59 19 (by decide) j).trans (C44 j)
      have C117 : ∀ j : Nat, dt57 20 j = dt 20 j := fun j => (hF59 20 (by decide) j).trans (C45 j)
      have C118 : ∀ j : Nat, dt57 8 j = dt 8 j := fun j => (hF59 8 (by decide) j).trans (C46 j)
      have C119 : ∀ j : Nat, dt57 25 j = dt 25 j := fun j => (hF59 25 (by decide) j).trans (C47 j)
      have C120 : ∀ j : Nat, dt57 9 j = dt 9 j := fun j => (hF59 9 (by decide) j).trans (C48 j)
      have C121 : ∀ j : Nat, dt57 26 j = dt 26 j := fun j => (hF59 26 (by decide) j).trans (C49 j)
      have C122 : ∀ j : Nat, dt57 36 j = dt 36 j := fun j => (hF59 36 (by decide) j).trans (C50 j)
      have C123 : ∀ j : Nat, dt57 81 j = dt 81 j := fun j => (hF59 81 (by decide) j).trans (C52 j)
      have C124 : ∀ j : Nat, dt57 85 j = dt 85 j := fun j => (hF59 85 (by decide) j).trans (C53 j)
      have F125 : ∀ j : Nat, 6 ≤ j → j < 974 → dt57 80 j = dt 80 j := fun j h1_ h2_ => (h56_9 j (by omega) (by omega)).trans (C51 j)
      have F126 : ∀ j : Nat, 5320 ≤ j → j < 5380 → dt57 80 j = dt 80 j := fun j h1_ h2_ => (h56_9 j (by omega) (by omega)).trans (C51 j)
      have F127 : dt57 80 1 = dt 80 1 := (h56_9 1 (by omega) (by omega)).trans (C51 1)
      refine go_toq PM267 (k := 2) (pc' := 1435) (L' := [some (.inr (.inr (some 3000))), some (.inr (.inr (some 0))), some (.inr (.inr (some 79))), some (.inl i)]) (st' := []) (w' := (SH, dt57)) rfl ?_
      exact K dt57 hI58 hM107 M2113 (w61.trans (hk0.trans w108.symm)) (w62.trans (hk1.trans w109.symm)) (w63.trans (hk2.trans w110.symm)) (w64.trans (hk3.trans w111.symm)) (by omega) (w66.trans (hk5.trans w112.symm)) (w67.trans (hk6.trans w77.symm)) (w68.trans (hk7.trans w78.symm)) (w69.trans (hk8.trans w79.symm)) (w70.trans (hk9.trans w80.symm)) (w71.trans (hk10.trans w81.symm)) (w72.trans (hk11.trans w82.symm)) (w73.trans (hk12.trans w83.symm)) (w74.trans (hk13.trans w84.symm)) (w75.trans (hk14.trans w85.symm)) (w76.trans (hk15.trans w86.symm)) (by first | exact hI | exact TPL_k hd0 C122 C124 (by omega) | (exfalso; omega)) (by first | exact hI | exact SCL_k hd1 hM (fun j _ => C114 j) (fun j _ => C115 j) F125 | (exfalso; omega)) (by first | exact hI | exact SCL_k hd2 hM2 (fun j _ => C116 j) (fun j _ => C117 j) (fun j _ _ => C123 j) | (exfalso; omega)) (by first | exact hI | exact QRL_k hd3 hM (fun j _ => C118 j) F127 F126 | (exfalso; omega)) (by first | exact hI | exact QRL_k hd4 hM2 (fun j _ => C119 j) (C123 1) (fun j _ _ => C123 j) | (exfalso; omega)) (by first | exact hI | exact SDL_k hd5 hM (fun j _ => C120 j) F127 F125 F126 | (exfalso; omega)) (by first | exact hI | exact SDL_k hd6 hM2 (fun j _ => C121 j) (C123 1) (fun j _ _ => C123 j) (fun j _ _ => C123 j) | (exfalso; omega))
  · skip
    obtain ⟨h3_0, h3_1, h3_2⟩ := h3
    have M2128 : MW (dt4 81) := MW_frk hM2 hF6 (by decide)
    have C129 : ∀ j : Nat, dt4 2 j = dt 2 j := fun j => (hF6 2 (by decide) j).trans ((fun _ => rfl) j)
    have C130 : ∀ j : Nat, dt4 3 j = dt 3 j := fun j => (hF6 3 (by decide) j).trans ((fun _ => rfl) j)
    have C131 : ∀ j : Nat, dt4 19 j = dt 19 j := fun j => (hF6 19 (by decide) j).trans ((fun _ => rfl) j)
    have C132 : ∀ j : Nat, dt4 20 j = dt 20 j := fun j => (hF6 20 (by decide) j).trans ((fun _ => rfl) j)
    have C133 : ∀ j : Nat, dt4 8 j = dt 8 j := fun j => (hF6 8 (by decide) j).trans ((fun _ => rfl) j)
    have C134 : ∀ j : Nat, dt4 25 j = dt 25 j := fun j => (hF6 25 (by decide) j).trans ((fun _ => rfl) j)
    have C135 : ∀ j : Nat, dt4 9 j = dt 9 j := fun j => (hF6 9 (by decide) j).trans ((fun _ => rfl) j)
    have C136 : ∀ j : Nat, dt4 26 j = dt 26 j := fun j => (hF6 26 (by decide) j).trans ((fun _ => rfl) j)
    have C137 : ∀ j : Nat, dt4 36 j = dt 36 j := fun j => (hF6 36 (by decide) j).trans ((fun _ => rfl) j)
    have C138 : ∀ j : Nat, dt4 80 j = dt 80 j := fun j => (hF6 80 (by decide) j).trans ((fun _ => rfl) j)
    have C139 : ∀ j : Nat, dt4 81 j = dt 81 j := fun j => (hF6 81 (by decide) j).trans ((fun _ => rfl) j)
    have C140 : ∀ j : Nat, dt4 85 j = dt 85 j := fun j => (hF6 85 (by decide) j).trans ((fun _ => rfl) j)
    refine go_toq PM267 (k := 6) (pc' := 1129) (L' := [some (.inr (.inr (some 3000))), some (.inr (.inr (some 0))), some (.inr (.inr (some 79))), some (.inl i)]) (st' := [.inl (i + 1), .inr (.inr (some 3000)), .inr (.inr (some 79))]) (w' := (SH, dt4)) rfl ?_
    have r141 := i32_R (xs ((i + 1).toNat))
    refine go_smpq PM267 (L' := [some (.inr (.inr (some 3000))), some (.inr (.inr (some 0))), some (.inr (.inr (some 79))), some (.inl i)]) (st' := [.inl ((xs ((i + 1).toNat)).toInt), .inr (.inr (some 79))]) (w' := (SH, dt4)) rfl rfl (s_iald (n := L) (f := fun j => (xs j).toInt) (am_scr hLL) ⟨by omega, by omega⟩) ?_
    refine go_toq PM267 (k := 4) (pc' := 1134) (L' := [some (.inr (.inr (some 3000))), some (.inr (.inr (some 0))), some (.inr (.inr (some 79))), some (.inl i)]) (st' := [.inl (i + 2), .inr (.inr (some 3000)), .inl ((xs ((i + 1).toNat)).toInt), .inr (.inr (some 79))]) (w' := (SH, dt4)) rfl ?_
    have r142 := i32_R (xs ((i + 2).toNat))
    refine go_smpq PM267 (L' := [some (.inr (.inr (some 3000))), some (.inr (.inr (some 0))), some (.inr (.inr (some 79))), some (.inl i)]) (st' := [.inl ((xs ((i + 2).toNat)).toInt), .inl ((xs ((i + 1).toNat)).toInt), .inr (.inr (some 79))]) (w' := (SH, dt4)) rfl rfl (s_iald (n := L) (f := fun j => (xs j).toInt) (am_scr hLL) ⟨by omega, by omega⟩) ?_
    refine go_callq PM267 PM233 (Q' := _) rfl rfl rfl rfl (sp_X6_eyes_v L xs sio (d + 37) dt4 hI5 hM8  ((xs ((i + 1).toNat)).toInt) ⟨by omega, by omega⟩ ((xs ((i + 2).toNat)).toInt) ⟨by omega, by omega⟩ ) ?_
    rintro _ _ ⟨dt144, rfl, hI145, hF146, h143⟩
    refine ⟨rfl, ?_⟩
    have hF147 : Fr [0, 1, 2, 3, 4, 5, 6, 7, 8, 9, 10, 11, 12, 13, 14, 15, 16, 17, 18, 19, 20, 21, 22, 23, 24, 25, 26, 27, 28, 29, 30, 31, 32, 33, 34, 35, 36, 37, 38, 39, 40, 41, 42, 43, 44, 45, 46, 47, 48, 49, 50, 51, 52, 53, 54, 55, 56, 57, 58, 59, 60, 61, 62, 63, 64, 65, 66, 67, 68, 69, 70, 71, 72, 73, 74, 75, 76, 77, 78, 79, 80, 81, 82, 83, 84, 85, 86, 87, 88, 89, 90, 91, 92, 93, 94, 95, 96, 97, 98, 99, 100, 101, 102, 103, 104] dt dt144 := Fr_tr hF7 hF146 (by decide)
    have w148 : dt144 1 0 = dt 1 0 := (hF146 1 (by decide) 0).trans w9
    have w149 : dt144 7 3 = dt 7 3 := (hF146 7 (by decide) 3).trans w10
    have w150 : dt144 10 3 = dt 10 3 := (hF146 10 (by decide) 3).trans w11
    have w151 : dt144 12 3 = dt 12 3 := (hF146 12 (by decide) 3).trans w12
    have w152 : dt144 14 3 = dt4 14 3 := hF146 14 (by decide) 3
    have w153 : dt144 16 3 = dt 16 3 := (hF146 16 (by decide) 3).trans w13
    have w154 : dt144 18 0 = dt 18 0 := (hF146 18 (by decide) 0).trans w14
    have w155 : dt144 24 3 = dt 24 3 := (hF146 24 (by decide) 3).trans w15
    have w156 : dt144 27 3 = dt 27 3 := (hF146 27 (by decide) 3).trans w16
    have w157 : dt144 29 3 = dt 29 3 := (hF146 29 (by decide) 3).trans w17
    have w158 : dt144 31 3 = dt 31 3 := (hF146 31 (by decide) 3).trans w18
    have w159 : dt144 33 3 = dt 33 3 := (hF146 33 (by decide) 3).trans w19
    have w160 : dt144 0 2 = dt 0 2 := (hF146 0 (by decide) 2).trans w20
    have w161 : dt144 35 1 = dt 35 1 := (hF146 35 (by decide) 1).trans w21
    have w162 : dt144 35 2 = dt 35 2 := (hF146 35 (by decide) 2).trans w22
    have w163 : dt144 35 3 = dt 35 3 := (hF146 35 (by decide) 3).trans w23
    have w164 : dt144 81 0 = dt 81 0 := (hF146 81 (by decide) 0).trans w30
    have w165 : dt144 81 1 = dt 81 1 := (hF146 81 (by decide) 1).trans w31
    have w166 : dt144 81 2 = dt 81 2 := (hF146 81 (by decide) 2).trans w32
    have w167 : dt144 81 3 = dt 81 3 := (hF146 81 (by decide) 3).trans w33
    have w168 : dt144 81 4 = dt 81 4 := (hF146 81 (by decide) 4).trans w34
    have w169 : dt144 81 5 = dt 81 5 := (hF146 81 (by decide) 5).trans w35
    have w170 : dt144 79 2 = dt 79 2 := (hF146 79 (by decide) 2).trans w36
    have w171 : dt144 79 12 = dt 79 12 := (hF146 79 (by decide) 12).trans w37
    have w172 : dt144 79 19 = dt 79 19 := (hF146 79 (by decide) 19).trans w38
    have w173 : dt144 79 21 = dt 79 21 := (hF146 79 (by decide) 21).trans w39
    rcases h143 with ⟨rfl, h143⟩ | ⟨v_h143, rfl, h143r, h143⟩
    · skip
      have hM174 : MW (dt144 80) := h143.2.1
      obtain ⟨h143_0, h143_1, h143_2, h143_3, h143_4, h143_5, h143_6, h143_7, h143_8⟩ := h143
      have w175 : dt144 80 0 = dt 80 0 := h143_2.trans w24
      have w176 : dt144 80 1 = dt 80 1 := h143_3.trans w25
      have w177 : dt144 80 2 = dt 80 2 := h143_4.trans w26
      have w178 : dt144 80 3 = dt 80 3 := h143_5.trans w27
      have w179 : dt144 80 4 = dt 80 4 := h143_6.trans w28
      have w180 : dt144 80 5 = dt 80 5 := h143_7.trans w29
      have M2181 : MW (dt144 81) := MW_frk M2128 hF146 (by decide)
      have C182 : ∀ j : Nat, dt144 2 j = dt 2 j := fun j => (hF146 2 (by decide) j).trans (C129 j)
      have C183 : ∀ j : Nat, dt144 3 j = dt 3 j := fun j => (hF146 3 (by decide) j).trans (C130 j)
      have C184 : ∀ j : Nat, dt144 19 j = dt 19 j := fun j => (hF146 19 (by decide) j).trans (C131 j)
      have C185 : ∀ j : Nat, dt144 20 j = dt 20 j := fun j => (hF146 20 (by decide) j).trans (C132 j)
      have C186 : ∀ j : Nat, dt144 8 j = dt 8 j := fun j => (hF146 8 (by decide) j).trans (C133 j)
      have C187 : ∀ j : Nat, dt144 25 j = dt 25 j := fun j => (hF146 25 (by decide) j).trans (C134 j)
      have C188 : ∀ j : Nat, dt144 9 j = dt 9 j := fun j => (hF146 9 (by decide) j).trans (C135 j)
      have C189 : ∀ j : Nat, dt144 26 j = dt 26 j := fun j => (hF146 26 (by decide) j).trans (C136 j)
      have C190 : ∀ j : Nat, dt144 36 j = dt 36 j := fun j => (hF146 36 (by decide) j).trans (C137 j)
      have C191 : ∀ j : Nat, dt144 80 j = dt 80 j := fun j => (h143_8 j).trans (C138 j)
      have C192 : ∀ j : Nat, dt144 81 j = dt 81 j := fun j => (hF146 81 (by decide) j).trans (C139 j)
      have C193 : ∀ j : Nat, dt144 85 j = dt 85 j := fun j => (hF146 85 (by decide) j).trans (C140 j)
      refine go_toq PM267 (k := 2) (pc' := 1435) (L' := [some (.inr (.inr (some 3000))), some (.inr (.inr (some 0))), some (.inr (.inr (some 79))), some (.inl i)]) (st' := []) (w' := (SH, dt144)) rfl ?_
      exact K dt144 hI145 hM174 M2181 (w148.trans (hk0.trans w175.symm)) (w149.trans (hk1.trans w176.symm)) (w150.trans (hk2.trans w177.symm)) (w151.trans (hk3.trans w178.symm)) (by omega) (w153.trans (hk5.trans w180.symm)) (w154.trans (hk6.trans w164.symm)) (w155.trans (hk7.trans w165.symm)) (w156.trans (hk8.trans w166.symm)) (w157.trans (hk9.trans w167.symm)) (w158.trans (hk10.trans w168.symm)) (w159.trans (hk11.trans w169.symm)) (w160.trans (hk12.trans w170.symm)) (w161.trans (hk13.trans w171.symm)) (w162.trans (hk14.trans w172.symm)) (w163.trans (hk15.trans w173.symm)) (by first | exact hI | exact TPL_k hd0 C190 C193 (by omega) | (exfalso; omega)) (by first | exact hI | exact SCL_k hd1 hM (fun j _ => C182 j) (fun j _ => C183 j) (fun j _ _ => C191 j) | (exfalso; omega)) (by first | exact hI | exact SCL_k hd2 hM2 (fun j _ => C184 j) (fun j _ => C185 j) (fun j _ _ => C192 j) | (exfalso; omega)) (by first | exact hI | exact QRL_k hd3 hM (fun j _ => C186 j) (C191 1) (fun j _ _ => C191 j) | (exfalso; omega)) (by first | exact hI | exact QRL_k hd4 hM2 (fun j _ => C187 j) (C192 1) (fun j _ _ => C192 j) | (exfalso; omega)) (by first | exact hI | exact SDL_k hd5 hM (fun j _ => C188 j) (C191 1) (fun j _ _ => C191 j) (fun j _ _ => C191 j) | (exfalso; omega)) (by first | exact hI | exact SDL_k hd6 hM2 (fun j _ => C189 j) (C192 1) (fun j _ _ => C192 j) (fun j _ _ => C192 j) | (exfalso; omega))
    · skip
      have hM194 : MW (dt144 80) := h143.2.2.1
      obtain ⟨h143_0, h143_1, h143_2, h143_3, h143_4, h143_5, h143_6, h143_7, h143_8, h143_9, h143_10, h143_11⟩ := h143
      have w195 : dt144 80 0 = dt 80 0 := h143_4.trans w24
      have w196 : dt144 80 1 = dt 80 1 := h143_5.trans w25
      have w197 : dt144 80 2 = dt 80 2 := h143_6.trans w26
      have w198 : dt144 80 3 = dt 80 3 := h143_7.trans w27
      have w199 : dt144 80 5 = dt 80 5 := h143_8.trans w29
      have M2200 : MW (dt144 81) := MW_frk M2128 hF146 (by decide)
      have C201 : ∀ j : Nat, dt144 2 j = dt 2 j := fun j => (hF146 2 (by decide) j).trans (C129 j)
      have C202 : ∀ j : Nat, dt144 3 j = dt 3 j := fun j => (hF146 3 (by decide) j).trans (C130 j)
      have C203 : ∀ j : Nat, dt144 19 j = dt 19 j := fun j => (hF146 19 (by decide) j).trans (C131 j)
      have C204 : ∀ j : Nat, dt144 20 j = dt 20 j := fun j => (hF146 20 (by decide) j).trans (C132 j)
      have C205 : ∀ j : Nat, dt144 8 j = dt 8 j := fun j => (hF146 8 (by decide) j).trans (C133 j)
      have C206 : ∀ j : Nat, dt144 25 j = dt 25 j := fun j => (hF146 25 (by decide) j).trans (C134 j)
      have C207 : ∀ j : Nat, dt144 9 j = dt 9 j := fun j => (hF146 9 (by decide) j).trans (C135 j)
      have C208 : ∀ j : Nat, dt144 26 j = dt 26 j := fun j => (hF146 26 (by decide) j).trans (C136 j)
      have C209 : ∀ j : Nat, dt144 36 j = dt 36 j := fun j => (hF146 36 (by decide) j).trans (C137 j)
      have C210 : ∀ j : Nat, dt144 81 j = dt 81 j := fun j => (hF146 81 (by decide) j).trans (C139 j)
      have C211 : ∀ j : Nat, dt144 85 j = dt 85 j := fun j => (hF146 85 (by decide) j).trans (C140 j)
      have F212 : ∀ j : Nat, 6 ≤ j → j < 974 → dt144 80 j = dt 80 j := fun j h1_ h2_ => (h143_9 j (by omega) (by omega)).trans (C138 j)
      have F213 : ∀ j : Nat, 5320 ≤ j → j < 5380 → dt144 80 j = dt 80 j := fun j h1_ h2_ => (h143_9 j (by omega) (by omega)).trans (C138 j)
      have F214 : dt144 80 1 = dt 80 1 := (h143_9 1 (by omega) (by omega)).trans (C138 1)
      refine go_toq PM267 (k := 2) (pc' := 1435) (L' := [some (.inr (.inr (some 3000))), some (.inr (.inr (some 0))), some (.inr (.inr (some 79))), some (.inl i)]) (st' := []) (w' := (SH, dt144)) rfl ?_
      exact K dt144 hI145 hM194 M2200 (w148.trans (hk0.trans w195.symm)) (w149.trans (hk1.trans w196.symm)) (w150.trans (hk2.trans w197.symm)) (w151.trans (hk3.trans w198.symm)) (by omega) (w153.trans (hk5.trans w199.symm)) (w154.trans (hk6.trans w164.symm)) (w155.trans (hk7.trans w165.symm)) (w156.trans (hk8.trans w166.symm)) (w157.trans (hk9.trans w167.symm)) (w158.trans (hk10.trans w168.symm)) (w159.trans (hk11.trans w169.symm)) (w160.trans (hk12.trans w170.symm)) (w161.trans (hk13.trans w171.symm)) (w162.trans (hk14.trans w172.symm)) (w163.trans (hk15.trans w173.symm)) (by first | exact hI | exact TPL_k hd0 C209 C211 (by omega) | (exfalso; omega)) (by first | exact hI | exact SCL_k hd1 hM (fun j _ => C201 j) (fun j _ => C202 j) F212 | (exfalso; omega)) (by first | exact hI | exact SCL_k hd2 hM2 (fun j _ => C203 j) (fun j _ => C204 j) (fun j _ _ => C210 j) | (exfalso; omega)) (by first | exact hI | exact QRL_k hd3 hM (fun j _ => C205 j) F214 F213 | (exfalso; omega)) (by first | exact hI | exact QRL_k hd4 hM2 (fun j _ => C206 j) (C210 1) (fun j _ _ => C210 j) | (exfalso; omega)) (by first | exact hI | exact SDL_k hd5 hM (fun j _ => C207 j) F214 F212 F213 | (exfalso; omega)) (by first | exact hI | exact SDL_k hd6 hM2 (fun j _ => C208 j) (C210 1) (fun j _ _ => C210 j) (fun j _ _ => C210 j) | (exfalso; omega))
set_option maxRecDepth 20000 in
set_option maxHeartbeats 8000000 in
theorem sp_case24 (L : Nat) (xs : Nat → Int32) (sio : Option Nat) (d : Nat) (Q : Option AV → am_W → Prop) (hLL : L ≤ 3072) (i : Int) (hi : 0 ≤ i ∧ i ≤ 3066) (hil : i ≤ (L : Int) - 6) (dt : Nat → Nat → Int) (hI : InvC dt) (hM : MW (dt 80)) (hM2 : MW (dt 81)) (hk0 : dt 1 0 = dt 80 0) (hk1 : dt 7 3 = dt 80 1) (hk2 : dt 10 3 = dt 80 2) (hk3 : dt 12 3 = dt 80 3) (hk4 : dt 14 3 = dt 80 4) (hk5 : dt 16 3 = dt 80 5) (hk6 : dt 18 0 = dt 81 0) (hk7 : dt 24 3 = dt 81 1) (hk8 : dt 27 3 = dt 81 2) (hk9 : dt 29 3 = dt 81 3) (hk10 : dt 31 3 = dt 81 4) (hk11 : dt 33 3 = dt 81 5) (hk12 : dt 0 2 = dt 79 2) (hk13 : dt 35 1 = dt 79 12) (hk14 : dt 35 2 = dt 79 19) (hk15 : dt 35 3 = dt 79 21) (hd0 : TPL (dt 36) (dt 85) (dt 35 1)) (hd1 : SCL (dt 2) (dt 3) (dt 80)) (hd2 : SCL (dt 19) (dt 20) (dt 81)) (hd3 : QRL (dt 8) (dt 80)) (hd4 : QRL (dt 25) (dt 81)) (hd5 : SDL (dt 9) (dt 80)) (hd6 : SDL (dt 26) (dt 81)) (K : ∀ (dt : Nat → Nat → Int) (hI : InvC dt) (hM : MW (dt 80)) (hM2 : MW (dt 81)) (hk0 : dt 1 0 = dt 80 0) (hk1 : dt 7 3 = dt 80 1) (hk2 : dt 10 3 = dt 80 2) (hk3 : dt 12 3 = dt 80 3) (hk4 : dt 14 3 = dt 80 4) (hk5 : dt 16 3 = dt 80 5) (hk6 : dt 18 0 = dt 81 0) (hk7 : dt 24 3 = dt 81 1) (hk8 : dt 27 3 = dt 81 2) (hk9 : dt 29 3 = dt 81 3) (hk10 : dt 31 3 = dt 81 4) (hk11 : dt 33 3 = dt 81 5) (hk12 : dt 0 2 = dt 79 2) (hk13 : dt 35 1 = dt 79 12) (hk14 : dt 35 2 = dt 79 19) (hk15 : dt 35 3 = dt 79 21) (hd0 : TPL (dt 36) (dt 85) (dt 35 1)) (hd1 : SCL (dt 2) (dt 3) (dt 80)) (hd2 : SCL (dt 19) (dt 20) (dt 81)) (hd3 : QRL (dt 8) (dt 80)) (hd4 : QRL (dt 25) (dt 81)) (hd5 : SDL (dt 9) (dt 80)) (hd6 : SDL (dt 26) (dt 81)), GO (am_XX L xs sio) (d + 39) 267 1435 [some (.inr (.inr (some 3000))), some (.inr (.inr (some 0))), some (.inr (.inr (some 79))), some (.inl i)] [] (SH, dt) Q) : GO (am_XX L xs sio) (d + 39) 267 1142 [some (.inr (.inr (some 3000))), some (.inr (.inr (some 0))), some (.inr (.inr (some 79))), some (.inl i)] [] (SH, dt) Q := by
  have hF : Fr [0, 1, 2, 3, 4, 5, 6, 7, 8, 9, 10, 11, 12, 13, 14, 15, 16, 17, 18, 19, 20, 21, 22, 23, 24, 25, 26, 27, 28, 29, 30, 31, 32, 33, 34, 35, 36, 37, 38, 39, 40, 41, 42, 43, 44, 45, 46, 47, 48, 49, 50, 51, 52, 53, 54, 55, 56, 57, 58, 59, 60, 61, 62, 63, 64, 65, 66, 67, 68, 69, 70, 71, 72, 73, 74, 75, 76, 77, 78, 79, 80, 81, 82, 83, 84, 85, 86, 87, 88, 89, 90, 91, 92, 93, 94, 95, 96, 97, 98, 99, 100, 101, 102, 103, 104] dt dt := Fr_refl
  have hqo := QOC_R hd3 hM hk1
  have hb1_ := hM.1.1
  refine go_toq PM267 (k := 5) (pc' := 1147) (L' := [some (.inr (.inr (some 3000))), some (.inr (.inr (some 0))), some (.inr (.inr (some 79))), some (.inl i)]) (st' := [.inl (i + 1), .inr (.inr (some 3000)), .inr (.inr (some 0))]) (w' := (SH, dt)) rfl ?_
  have r1 := i32_R (xs ((i + 1).toNat))
  refine go_smpq PM267 (L' := [some (.inr (.inr (some 3000))), some (.inr (.inr (some 0))), some (.inr (.inr (some 79))), some (.inl i)]) (st' := [.inl ((xs ((i + 1).toNat)).toInt), .inr (.inr (some 0))]) (w' := (SH, dt)) rfl rfl (s_iald (n := L) (f := fun j => (xs j).toInt) (am_scr hLL) ⟨by omega, by omega⟩) ?_
  refine go_callq PM267 PM91 (Q' := _) rfl rfl rfl rfl (sp_X5_way L xs sio (d + 35) dt hI  ((xs ((i + 1).toNat)).toInt) ⟨by omega, by omega⟩ ) ?_
  rintro _ _ ⟨rfl, h2⟩
  refine ⟨rfl, ?_⟩
  rcases h2 with ⟨v_h2, rfl, h2r, h2⟩
  refine go_toq PM267 (k := 6) (pc' := 1157) (L' := [some (.inr (.inr (some 3000))), some (.inr (.inr (some 0))), some (.inr (.inr (some 79))), some (.inl i)]) (st' := [.inl (i + 1), .inr (.inr (some 3000)), .inr (.inr (some 79))]) (w' := (SH, dt)) rfl ?_
  refine go_smpq PM267 (L' := [some (.inr (.inr (some 3000))), some (.inr (.inr (some 0))), some (.inr (.inr (some 79))), some (.inl i)]) (st' := [.inl ((xs ((i + 1).toNat)).toInt), .inr (.inr (some 79))]) (w' := (SH, dt)) rfl rfl (s_iald (n := L) (f := fun j => (xs j).toInt) (am_scr hLL) ⟨by omega, by omega⟩) ?_
  refine go_callq PM267 PM236 (Q' := _) rfl rfl rfl rfl (sp_X6_way L xs sio (d + 36) dt hI hM  ((xs ((i + 1).toNat)).toInt) ⟨by omega, by omega⟩ ) ?_
  rintro _ _ ⟨dt4, rfl, hI5, hF6, h3⟩
  refine ⟨rfl, ?_⟩
  have hF7 : Fr [0, 1, 2, 3, 4, 5, 6, 7, 8, 9, 10, 11, 12, 13, 14, 15, 16, 17, 18, 19, 20, 21, 22, 23, 24, 25, 26, 27, 28, 29, 30, 31, 32, 33, 34, 35, 36, 37, 38, 39, 40, 41, 42, 43, 44, 45, 46, 47, 48, 49, 50, 51, 52, 53, 54, 55, 56, 57, 58, 59, 60, 61, 62, 63, 64, 65, 66, 67, 68, 69, 70, 71, 72, 73, 74, 75, 76, 77, 78, 79, 80, 81, 82, 83, 84, 85, 86, 87, 88, 89, 90, 91, 92, 93, 94, 95, 96, 97, 98, 99, 100, 101, 102, 103, 104] dt dt4 := Fr_tr hF hF6 (by decide)
  have hM8 : MW (dt4 80) := MW_fr hM hF6 (by decide)
  have w9 : dt4 1 0 = dt 1 0 := hF6 1 (by decide) 0
  have w10 : dt4 7 3 = dt 7 3 := hF6 7 (by decide) 3
  have w11 : dt4 10 3 = dt 10 3 := hF6 10 (by decide) 3
  have w12 : dt4 12 3 = dt 12 3 := hF6 12 (by decide) 3
  have w13 : dt4 14 3 = dt 14 3 := hF6 14 (by decide) 3
  have w14 : dt4 16 3 = dt 16 3 := hF6 16 (by decide) 3
  have w15 : dt4 18 0 = dt 18 0 := hF6 18 (by decide) 0
  have w16 : dt4 24 3 = dt 24 3 := hF6 24 (by decide) 3
  have w17 : dt4 27 3 = dt 27 3 := hF6 27 (by decide) 3
  have w18 : dt4 29 3 = dt 29 3 := hF6 29 (by decide) 3
  have w19 : dt4 31 3 = dt 31 3 := hF6 31 (by decide) 3
  have w20 : dt4 33 3 = dt 33 3 := hF6 33 (by decide) 3
  have w21 : dt4 0 2 = dt 0 2 := hF6 0 (by decide) 2
  have w22 : dt4 35 1 = dt 35 1 := hF6 35 (by decide) 1
  have w23 : dt4 35 2 = dt 35 2 := hF6 35 (by decide) 2
  have w24 : dt4 35 3 = dt 35 3 := hF6 35 (by decide) 3
  have w25 : dt4 80 0 = dt 80 0 := hF6 80 (by decide) 0
  have w26 : dt4 80 1 = dt 80 1 := hF6 80 (by decide) 1
  have w27 : dt4 80 2 = dt 80 2 := hF6 80 (by decide) 2
  have w28 : dt4 80 3 = dt 80 3 := hF6 80 (by decide) 3
  have w29 : dt4 80 4 = dt 80 4 := hF6 80 (by decide) 4
  have w30 : dt4 80 5 = dt 80 5 := hF6 80 (by decide) 5
  have w31 : dt4 81 0 = dt 81 0 := hF6 81 (by decide) 0
  have w32 : dt4 81 1 = dt 81 1 := hF6 81 (by decide) 1
  have w33 : dt4 81 2 = dt 81 2 := hF6 81 (by decide) 2
  have w34 : dt4 81 3 = dt 81 3 := hF6 81 (by decide) 3
  have w35 : dt4 81 4 = dt 81 4 := hF6 81 (by decide) 4
  have w36 : dt4 81 5 = dt 81 5 := hF6 81 (by decide) 5
  have w37 : dt4 79 2 = dt 79 2 := hF6 79 (by decide) 2
  have w38 : dt4 79 12 = dt 79 12 := hF6 79 (by decide) 12
  have w39 : dt4 79 19 = dt 79 19 := hF6 79 (by decide) 19
  have w40 : dt4 79 21 = dt 79 21 := hF6 79 (by decide) 21
  rcases h3 with ⟨v_h3, rfl, h3r, h3⟩
  have M241 : MW (dt4 81) := MW_frk hM2 hF6 (by decide)
  have C42 : ∀ j : Nat, dt4 2 j = dt 2 j := fun j => (hF6 2 (by decide) j).trans ((fun _ => rfl) j)
  have C43 : ∀ j : Nat, dt4 3 j = dt 3 j := fun j => (hF6 3 (by decide) j).trans ((fun _ => rfl) j)
  have C44 : ∀ j : Nat, dt4 19 j = dt 19 j := fun j => (hF6 19 (by decide) j).trans ((fun _ => rfl) j)
  have C45 : ∀ j : Nat, dt4 20 j = dt 20 j := fun j => (hF6 20 (by decide) j).trans ((fun _ => rfl) j)
  have C46 : ∀ j : Nat, dt4 8 j = dt 8 j := fun j => (hF6 8 (by decide) j).trans ((fun _ => rfl) j)
  have C47 : ∀ j : Nat, dt4 25 j = dt 25 j := fun j => (hF6 25 (by decide) j).trans ((fun _ => rfl) j)
  have C48 : ∀ j : Nat, dt4 9 j = dt 9 j := fun j => (hF6 9 (by decide) j).trans ((fun _ => rfl) j)
  have C49 : ∀ j : Nat, dt4 26 j = dt 26 j := fun j => (hF6 26 (by decide) j).trans ((fun _ => rfl) j)
  have C50 : ∀ j : Nat, dt4 36 j = dt 36 j := fun j => (hF6 36 (by decide) j).trans ((fun _ => rfl) j)
  have C51 : ∀ j : Nat, dt4 80 j = dt 80 j := fun j => (hF6 80 (by decide) j).trans ((fun _ => rfl) j)
  have C52 : ∀ j : Nat, dt4 81 j = dt 81 j := fun j => (hF6 81 (by decide) j).trans ((fun _ => rfl) j)
  have C53 : ∀ j : Nat, dt4 85 j = dt 85 j := fun j => (hF6 85 (by decide) j).trans ((fun _ => rfl) j)
  refine go_toq PM267 (k := 2) (pc' := 1435) (L' := [some (.inr (.inr (some 3000))), some (.inr (.inr (some 0))), some (.inr (.inr (some 79))), some (.inl i)]) (st' := []) (w' := (SH, dt4)) rfl ?_
  exact K dt4 hI5 hM8 M241 (w9.trans (hk0.trans w25.symm)) (w10.trans (hk1.trans w26.symm)) (w11.trans (hk2.trans w27.symm)) (w12.trans (hk3.trans w28.symm)) (w13.trans (hk4.trans w29.symm)) (w14.trans (hk5.trans w30.symm)) (w15.trans (hk6.trans w31.symm)) (w16.trans (hk7.trans w32.symm)) (w17.trans (hk8.trans w33.symm)) (w18.trans (hk9.trans w34.symm)) (w19.trans (hk10.trans w35.symm)) (w20.trans (hk11.trans w36.symm)) (w21.trans (hk12.trans w37.symm)) (w22.trans (hk13.trans w38.symm)) (w23.trans (hk14.trans w39.symm)) (w24.trans (hk15.trans w40.symm)) (by first | exact hI | exact TPL_k hd0 C50 C53 (by omega) | (exfalso; omega)) (by first | exact hI | exact SCL_k hd1 hM (fun j _ => C42 j) (fun j _ => C43 j) (fun j _ _ => C51 j) | (exfalso; omega)) (by first | exact hI | exact SCL_k hd2 hM2 (fun j _ => C44 j) (fun j _ => C45 j) (fun j _ _ => C52 j) | (exfalso; omega)) (by first | exact hI | exact QRL_k hd3 hM (fun j _ => C46 j) (C51 1) (fun j _ _ => C51 j) | (exfalso; omega)) (by first | exact hI | exact QRL_k hd4 hM2 (fun j _ => C47 j) (C52 1) (fun j _ _ => C52 j) | (exfalso; omega)) (by first | exact hI | exact SDL_k hd5 hM (fun j _ => C48 j) (C51 1) (fun j _ _ => C51 j) (fun j _ _ => C51 j) | (exfalso; omega)) (by first | exact hI | exact SDL_k hd6 hM2 (fun j _ => C49 j) (C52 1) (fun j _ _ => C52 j) (fun j _ _ => C52 j) | (exfalso; omega))
set_option maxRecDepth 20000 in
set_option maxHeartbeats 8000000 in
theorem sp_case25 (L : Nat) (xs : Nat → Int32) (sio : Option Nat) (d : Nat) (Q : Option AV → am_W → Prop) (hLL : L ≤ 3072) (i : Int) (hi : 0 ≤ i ∧ i ≤ 3066) (hil : i ≤ (L : Int) - 6) (dt : Nat → Nat → Int) (hI : InvC dt) (hM : MW (dt 80)) (hM2 : MW (dt 81)) (hk0 : dt 1 0 = dt 80 0) (hk1 : dt 7 3 = dt 80 1) (hk2 : dt 10 3 = dt 80 2) (hk3 : dt 12 3 = dt 80 3) (hk4 : dt 14 3 = dt 80 4) (hk5 : dt 16 3 = dt 80 5) (hk6 : dt 18 0 = dt 81 0) (hk7 : dt 24 3 = dt 81 1) (hk8 : dt 27 3 = dt 81 2) (hk9 : dt 29 3 = dt 81 3) (hk10 : dt 31 3 = dt 81 4) (hk11 : dt 33 3 = dt 81 5) (hk12 : dt 0 2 = dt 79 2) (hk13 : dt 35 1 = dt 79 12) (hk14 : dt 35 2 = dt 79 19) (hk15 : dt 35 3 = dt 79 21) (hd0 : TPL (dt 36) (dt 85) (dt 35 1)) (hd1 : SCL (dt 2) (dt 3) (dt 80)) (hd2 : SCL (dt 19) (dt 20) (dt 81)) (hd3 : QRL (dt 8) (dt 80)) (hd4 : QRL (dt 25) (dt 81)) (hd5 : SDL (dt 9) (dt 80)) (hd6 : SDL (dt 26) (dt 81)) (K : ∀ (dt : Nat → Nat → Int) (hI : InvC dt) (hM : MW (dt 80)) (hM2 : MW (dt 81)) (hk0 : dt 1 0 = dt 80 0) (hk1 : dt 7 3 = dt 80 1) (hk2 : dt 10 3 = dt 80 2) (hk3 : dt 12 3 = dt 80 3) (hk4 : dt 14 3 = dt 80 4) (hk5 : dt 16 3 = dt 80 5) (hk6 : dt 18 0 = dt 81 0) (hk7 : dt 24 3 = dt 81 1) (hk8 : dt 27 3 = dt 81 2) (hk9 : dt 29 3 = dt 81 3) (hk10 : dt 31 3 = dt 81 4) (hk11 : dt 33 3 = dt 81 5) (hk12 : dt 0 2 = dt 79 2) (hk13 : dt 35 1 = dt 79 12) (hk14 : dt 35 2 = dt 79 19) (hk15 : dt 35 3 = dt 79 21) (hd0 : TPL (dt 36) (dt 85) (dt 35 1)) (hd1 : SCL (dt 2) (dt 3) (dt 80)) (hd2 : SCL (dt 19) (dt 20) (dt 81)) (hd3 : QRL (dt 8) (dt 80)) (hd4 : QRL (dt 25) (dt 81)) (hd5 : SDL (dt 9) (dt 80)) (hd6 : SDL (dt 26) (dt 81)), GO (am_XX L xs sio) (d + 39) 267 1435 [some (.inr (.inr (some 3000))), some (.inr (.inr (some 0))), some (.inr (.inr (some 79))), some (.inl i)] [] (SH, dt) Q) : GO (am_XX L xs sio) (d + 39) 267 1165 [some (.inr (.inr (some 3000))), some (.inr (.inr (some 0))), some (.inr (.inr (some 79))), some (.inl i)] [] (SH, dt) Q := by
  have hF : Fr [0, 1, 2, 3, 4, 5, 6, 7, 8, 9, 10, 11, 12, 13, 14, 15, 16, 17, 18, 19, 20, 21, 22, 23, 24, 25, 26, 27, 28, 29, 30, 31, 32, 33, 34, 35, 36, 37, 38, 39, 40, 41, 42, 43, 44, 45, 46, 47, 48, 49, 50, 51, 52, 53, 54, 55, 56, 57, 58, 59, 60, 61, 62, 63, 64, 65, 66, 67, 68, 69, 70, 71, 72, 73, 74, 75, 76, 77, 78, 79, 80, 81, 82, 83, 84, 85, 86, 87, 88, 89, 90, 91, 92, 93, 94, 95, 96, 97, 98, 99, 100, 101, 102, 103, 104] dt dt := Fr_refl
  have hqo := QOC_R hd3 hM hk1
  have hb1_ := hM.1.1
  refine go_toq PM267 (k := 5) (pc' := 1170) (L' := [some (.inr (.inr (some 3000))), some (.inr (.inr (some 0))), some (.inr (.inr (some 79))), some (.inl i)]) (st' := [.inl (i + 1), .inr (.inr (some 3000)), .inr (.inr (some 0))]) (w' := (SH, dt)) rfl ?_
  have r1 := i32_R (xs ((i + 1).toNat))
  refine go_smpq PM267 (L' := [some (.inr (.inr (some 3000))), some (.inr (.inr (some 0))), some (.inr (.inr (some 79))), some (.inl i)]) (st' := [.inl ((xs ((i + 1).toNat)).toInt), .inr (.inr (some 0))]) (w' := (SH, dt)) rfl rfl (s_iald (n := L) (f := fun j => (xs j).toInt) (am_scr hLL) ⟨by omega, by omega⟩) ?_
  refine go_toq PM267 (k := 4) (pc' := 1175) (L' := [some (.inr (.inr (some 3000))), some (.inr (.inr (some 0))), some (.inr (.inr (some 79))), some (.inl i)]) (st' := [.inl (i + 2), .inr (.inr (some 3000)), .inl ((xs ((i + 1).toNat)).toInt), .inr (.inr (some 0))]) (w' := (SH, dt)) rfl ?_
  have r2 := i32_R (xs ((i + 2).toNat))
  refine go_smpq PM267 (L' := [some (.inr (.inr (some 3000))), some (.inr (.inr (some 0))), some (.inr (.inr (some 79))), some (.inl i)]) (st' := [.inl ((xs ((i + 2).toNat)).toInt), .inl ((xs ((i + 1).toNat)).toInt), .inr (.inr (some 0))]) (w' := (SH, dt)) rfl rfl (s_iald (n := L) (f := fun j => (xs j).toInt) (am_scr hLL) ⟨by omega, by omega⟩) ?_
  refine go_callq PM267 PM92 (Q' := _) rfl rfl rfl rfl (sp_X5_house L xs sio (d + 36) dt hI  ((xs ((i + 1).toNat)).toInt) ⟨by omega, by omega⟩ ((xs ((i + 2).toNat)).toInt) ⟨by omega, by omega⟩ ) ?_
  rintro _ _ ⟨dt4, rfl, hI5, hF6, h3⟩
  refine ⟨rfl, ?_⟩
  have hF7 : Fr [0, 1, 2, 3, 4, 5, 6, 7, 8, 9, 10, 11, 12, 13, 14, 15, 16, 17, 18, 19, 20, 21, 22, 23, 24, 25, 26, 27, 28, 29, 30, 31, 32, 33, 34, 35, 36, 37, 38, 39, 40, 41, 42, 43, 44, 45, 46, 47, 48, 49, 50, 51, 52, 53, 54, 55, 56, 57, 58, 59, 60, 61, 62, 63, 64, 65, 66, 67, 68, 69, 70, 71, 72, 73, 74, 75, 76, 77, 78, 79, 80, 81, 82, 83, 84, 85, 86, 87, 88, 89, 90, 91, 92, 93, 94, 95, 96, 97, 98, 99, 100, 101, 102, 103, 104] dt dt4 := Fr_tr hF hF6 (by decide)
  have hM8 : MW (dt4 80) := MW_fr hM hF6 (by decide)
  have w9 : dt4 1 0 = dt 1 0 := hF6 1 (by decide) 0
  have w10 : dt4 7 3 = dt 7 3 := hF6 7 (by decide) 3
  have w11 : dt4 10 3 = dt 10 3 := hF6 10 (by decide) 3
  have w12 : dt4 12 3 = dt 12 3 := hF6 12 (by decide) 3
  have w13 : dt4 14 3 = dt 14 3 := hF6 14 (by decide) 3
  have w14 : dt4 18 0 = dt 18 0 := hF6 18 (by decide) 0
  have w15 : dt4 24 3 = dt 24 3 := hF6 24 (by decide) 3
  have w16 : dt4 27 3 = dt 27 3 := hF6 27 (by decide) 3
  have w17 : dt4 29 3 = dt 29 3 := hF6 29 (by decide) 3
  have w18 : dt4 31 3 = dt 31 3 := hF6 31 (by decide) 3
  have w19 : dt4 33 3 = dt 33 3 := hF6 33 (by decide) 3
  have w20 : dt4 0 2 = dt 0 2 := hF6 0 (by decide) 2
  have w21 : dt4 35 1 = dt 35 1 := hF6 35 (by decide) 1
  have w22 : dt4 35 2 = dt 35 2 := hF6 35 (by decide) 2
  have w23 : dt4 35 3 = dt 35 3 := hF6 35 (by decide) 3
  have w24 : dt4 80 0 = dt 80 0 := hF6 80 (by decide) 0
  have w25 : dt4 80 1 = dt 80 1 := hF6 80 (by decide) 1
  have w26 : dt4 80 2 = dt 80 2 := hF6 80 (by decide) 2
  have w27 : dt4 80 3 = dt 80 3 := hF6 80 (by decide) 3
  have w28 : dt4 80 4 = dt 80 4 := hF6 80 (by decide) 4
  have w29 : dt4 80 5 = dt 80 5 := hF6 80 (by decide) 5
  have w30 : dt4 81 0 = dt 81 0 := hF6 81 (by decide) 0
  have w31 : dt4 81 1 = dt 81 1 := hF6 81 (by decide) 1
  have w32 : dt4 81 2 = dt 81 2 := hF6 81 (by decide) 2
  have w33 : dt4 81 3 = dt 81 3 := hF6 81 (by decide) 3
  have w34 : dt4 81 4 = dt 81 4 := hF6 81 (by decide) 4
  have w35 : dt4 81 5 = dt 81 5 := hF6 81 (by decide) 5
  have w36 : dt4 79 2 = dt 79 2 := hF6 79 (by decide) 2
  have w37 : dt4 79 12 = dt 79 12 := hF6 79 (by decide) 12
  have w38 : dt4 79 19 = dt 79 19 := hF6 79 (by decide) 19
  have w39 : dt4 79 21 = dt 79 21 := hF6 79 (by decide) 21
  rcases h3 with ⟨rfl, h3⟩ | ⟨v_h3, rfl, h3r, h3⟩
  · skip
    obtain ⟨h3_0, h3_1⟩ := h3
    have w40 : dt4 16 3 = dt 16 3 := h3_1
    have M241 : MW (dt4 81) := MW_frk hM2 hF6 (by decide)
    have C42 : ∀ j : Nat, dt4 2 j = dt 2 j := fun j => (hF6 2 (by decide) j).trans ((fun _ => rfl) j)
    have C43 : ∀ j : Nat, dt4 3 j = dt 3 j := fun j => (hF6 3 (by decide) j).trans ((fun _ => rfl) j)
    have C44 : ∀ j : Nat, dt4 19 j = dt 19 j := fun j => (hF6 19 (by decide) j).trans ((fun _ => rfl) j)
    have C45 : ∀ j : Nat, dt4 20 j = dt 20 j := fun j => (hF6 20 (by decide) j).trans ((fun _ => rfl) j)
    have C46 : ∀ j : Nat, dt4 8 j = dt 8 j := fun j => (hF6 8 (by decide) j).trans ((fun _ => rfl) j)
    have C47 : ∀ j : Nat, dt4 25 j = dt 25 j := fun j => (hF6 25 (by decide) j).trans ((fun _ => rfl) j)
    have C48 : ∀ j : Nat, dt4 9 j = dt 9 j := fun j => (hF6 9 (by decide) j).trans ((fun _ => rfl) j)
    have C49 : ∀ j : Nat, dt4 26 j = dt 26 j := fun j => (hF6 26 (by decide) j).trans ((fun _ => rfl) j)
    have C50 : ∀ j : Nat, dt4 36 j = dt 36 j := fun j => (hF6 36 (by decide) j).trans ((fun _ => rfl) j)
    have C51 : ∀ j : Nat, dt4 80 j = dt 80 j := fun j => (hF6 80 (by decide) j).trans ((fun _ => rfl) j)
    have C52 : ∀ j : Nat, dt4 81 j = dt 81 j := fun j => (hF6 81 (by decide) j).trans ((fun _ => rfl) j)
    have C53 : ∀ j : Nat, dt4 85 j = dt 85 j := fun j => (hF6 85 (by decide) j).trans ((fun _ => rfl) j)
    refine go_toq PM267 (k := 6) (pc' := 1185) (L' := [some (.inr (.inr (some 3000))), some (.inr (.inr (some 0))), some (.inr (.inr (some 79))), some (.inl i)]) (st' := [.inl (i + 1), .inr (.inr (some 3000)), .inr (.inr (some 79))]) (w' := (SH, dt4)) rfl ?_
    have r54 := i32_R (xs ((i + 1).toNat))
    refine go_smpq PM267 (L' := [some (.inr (.inr (some 3000))), some (.inr (.inr (some 0))), some (.inr (.inr (some 79))), some (.inl i)]) (st' := [.inl ((xs ((i + 1).toNat)).toInt), .inr (.inr (some 79))]) (w' := (SH, dt4)) rfl rfl (s_iald (n := L) (f := fun j => (xs j).toInt) (am_scr hLL) ⟨by omega, by omega⟩) ?_
    refine go_toq PM267 (k := 4) (pc' := 1190) (L' := [some (.inr (.inr (some 3000))), some (.inr (.inr (some 0))), some (.inr (.inr (some 79))), some (.inl i)]) (st' := [.inl (i + 2), .inr (.inr (some 3000)), .inl ((xs ((i + 1).toNat)).toInt), .inr (.inr (some 79))]) (w' := (SH, dt4)) rfl ?_
    have r55 := i32_R (xs ((i + 2).toNat))
    refine go_smpq PM267 (L' := [some (.inr (.inr (some 3000))), some (.inr (.inr (some 0))), some (.inr (.inr (some 79))), some (.inl i)]) (st' := [.inl ((xs ((i + 2).toNat)).toInt), .inl ((xs ((i + 1).toNat)).toInt), .inr (.inr (some 79))]) (w' := (SH, dt4)) rfl rfl (s_iald (n := L) (f := fun j => (xs j).toInt) (am_scr hLL) ⟨by omega, by omega⟩) ?_
    refine go_callq PM267 PM237 (Q' := _) rfl rfl rfl rfl (sp_X6_house_v L xs sio (d + 37) dt4 hI5 hM8  ((xs ((i + 1).toNat)).toInt) ⟨by omega, by omega⟩ ((xs ((i + 2).toNat)).toInt) ⟨by omega, by omega⟩ ) ?_
    rintro _ _ ⟨dt57, rfl, hI58, hF59, h56⟩
    refine ⟨rfl, ?_⟩
    have hF60 : Fr [0, 1, 2, 3, 4, 5, 6, 7, 8, 9, 10, 11, 12, 13, 14, 15, 16, 17, 18, 19, 20, 21, 22, 23, 24, 25, 26, 27, 28, 29, 30, 31, 32, 33, 34, 35, 36, 37, 38, 39, 40, 41, 42, 43, 44, 45, 46, 47, 48, 49, 50, 51, 52, 53, 54, 55, 56, 57, 58, 59, 60, 61, 62, 63, 64, 65, 66, 67, 68, 69, 70, 71, 72, 73, 74, 75, 76, 77, 78, 79, 80, 81, 82, 83, 84, 85, 86, 87, 88, 89, 90, 91, 92, 93, 94, 95, 96, 97, 98, 99, 100, 101, 102, 103, 104] dt dt57 := Fr_tr hF7 hF59 (by decide)
    have w61 : dt57 1 0 = dt 1 0 := (hF59 1 (by decide) 0).trans w9
    have w62 : dt57 7 3 = dt 7 3 := (hF59 7 (by decide) 3).trans w10
    have w63 : dt57 10 3 = dt 10 3 := (hF59 10 (by decide) 3).trans w11
    have w64 : dt57 12 3 = dt 12 3 := (hF59 12 (by decide) 3).trans w12
    have w65 : dt57 14 3 = dt 14 3 := (hF59 14 (by decide) 3).trans w13
    have w66 : dt57 16 3 = dt 16 3 := (hF59 16 (by decide) 3).trans w40
    have w67 : dt57 18 0 = dt 18 0 := (hF59 18 (by decide) 0).trans w14
    have w68 : dt57 24 3 = dt 24 3 := (hF59 24 (by decide) 3).trans w15
    have w69 : dt57 27 3 = dt 27 3 := (hF59 27 (by decide) 3).trans w16
    have w70 : dt57 29 3 = dt 29 3 := (hF59 29 (by decide) 3).trans w17
    have w71 : dt57 31 3 = dt 31 3 := (hF59 31 (by decide) 3).trans w18
    have w72 : dt57 33 3 = dt 33 3 := (hF59 33 (by decide) 3).trans w19
    have w73 : dt57 0 2 = dt 0 2 := (hF59 0 (by decide) 2).trans w20
    have w74 : dt57 35 1 = dt 35 1 := (hF59 35 (by decide) 1).trans w21
    have w75 : dt57 35 2 = dt 35 2 := (hF59 35 (by decide) 2).trans w22
    have w76 : dt57 35 3 = dt 35 3 := (hF59 35 (by decide) 3).trans w23
    have w77 : dt57 81 0 = dt 81 0 := (hF59 81 (by decide) 0).trans w30
    have w78 : dt57 81 1 = dt 81 1 := (hF59 81 (by decide) 1).trans w31
    have w79 : dt57 81 2 = dt 81 2 := (hF59 81 (by decide) 2).trans w32
    have w80 : dt57 81 3 = dt 81 3 := (hF59 81 (by decide) 3).trans w33
    have w81 : dt57 81 4 = dt 81 4 := (hF59 81 (by decide) 4).trans w34
    have w82 : dt57 81 5 = dt 81 5 := (hF59 81 (by decide) 5).trans w35
    have w83 : dt57 79 2 = dt 79 2 := (hF59 79 (by decide) 2).trans w36
    have w84 : dt57 79 12 = dt 79 12 := (hF59 79 (by decide) 12).trans w37
    have w85 : dt57 79 19 = dt 79 19 := (hF59 79 (by decide) 19).trans w38
    have w86 : dt57 79 21 = dt 79 21 := (hF59 79 (by decide) 21).trans w39
    rcases h56 with ⟨rfl, h56⟩ | ⟨v_h56, rfl, h56r, h56⟩
    · skip
      have hM87 : MW (dt57 80) := h56.2.1
      obtain ⟨h56_0, h56_1, h56_2, h56_3, h56_4, h56_5, h56_6, h56_7, h56_8⟩ := h56
      have w88 : dt57 80 0 = dt 80 0 := h56_2.trans w24
      have w89 : dt57 80 1 = dt 80 1 := h56_3.trans w25
      have w90 : dt57 80 2 = dt 80 2 := h56_4.trans w26
      have w91 : dt57 80 3 = dt 80 3 := h56_5.trans w27
      have w92 : dt57 80 4 = dt 80 4 := h56_6.trans w28
      have w93 : dt57 80 5 = dt 80 5 := h56_7.trans w29
      have M294 : MW (dt57 81) := MW_frk M241 hF59 (by decide)
      have C95 : ∀ j : Nat, dt57 2 j = dt 2 j := fun j => (hF59 2 (by decide) j).trans (C42 j)
      have C96 : ∀ j : Nat, dt57 3 j = dt 3 j := fun j => (hF59 3 (by decide) j).trans (C43 j)
      have C97 : ∀ j : Nat, dt57 19 j = dt 19 j := fun j => (hF59 19 (by decide) j).trans (C44 j)
      have C98 : ∀ j : Nat, dt57 20 j = dt 20 j := fun j => (hF59 20 (by decide) j).trans (C45 j)
      have C99 : ∀ j : Nat, dt57 8 j = dt 8 j := fun j => (hF59 8 (by decide) j).trans (C46 j)
      have C100 : ∀ j : Nat, dt57 25 j = dt 25 j := fun j => (hF59 25 (by decide) j).trans (C47 j)
      have C101 : ∀ j : Nat, dt57 9 j = dt 9 j := fun j => (hF59 9 (by decide) j).trans (C48 j)
      have C102 : ∀ j : Nat, dt57 26 j = dt 26 j := fun j => (hF59 26 (by decide) j).trans (C49 j)
      have C103 : ∀ j : Nat, dt57 36 j = dt 36 j := fun j => (hF59 36 (by decide) j).trans (C50 j)
      have C104 : ∀ j : Nat, dt57 80 j = dt 80 j := fun j => (h56_8 j).trans (C51 j)
      have C105 : ∀ j : Nat, dt57 81 j = dt 81 j := fun j => (hF59 81 (by decide) j).trans (C52 j)
      have C106 : ∀ j : Nat, dt57 85 j = dt 85 j := fun j => (hF59 85 (by decide) j).trans (C53 j)
      refine go_toq PM267 (k := 2) (pc' := 1435) (L' := [some (.inr (.inr (some 3000))), some (.inr (.inr (some 0))), some (.inr (.inr (some 79))), some (.inl i)]) (st' := []) (w' := (SH, dt57)) rfl ?_
      exact K dt57 hI58 hM87 M294 (w61.trans (hk0.trans w88.symm)) (w62.trans (hk1.trans w89.symm)) (w63.trans (hk2.trans w90.symm)) (w64.trans (hk3.trans w91.symm)) (w65.trans (hk4.trans w92.symm)) (w66.trans (hk5.trans w93.symm)) (w67.trans (hk6.trans w77.symm)) (w68.trans (hk7.trans w78.symm)) (w69.trans (hk8.trans w79.symm)) (w70.trans (hk9.trans w80.symm)) (w71.trans (hk10.trans w81.symm)) (w72.trans (hk11.trans w82.symm)) (w73.trans (hk12.trans w83.symm)) (w74.trans (hk13.trans w84.symm)) (w75.trans (hk14.trans w85.symm)) (w76.trans (hk15.trans w86.symm)) (by first | exact hI | exact TPL_k hd0 C103 C106 (by omega) | (exfalso; omega)) (by first | exact hI | exact SCL_k hd1 hM (fun j _ => C95 j) (fun j _ => C96 j) (fun j _ _ => C104 j) | (exfalso; omega)) (by first | exact hI | exact SCL_k hd2 hM2 (fun j _ => C97 j) (fun j _ => C98 j) (fun j _ _ => C105 j) | (exfalso; omega)) (by first | exact hI | exact QRL_k hd3 hM (fun j _ => C99 j) (C104 1) (fun j _ _ => C104 j) | (exfalso; omega)) (by first | exact hI | exact QRL_k hd4 hM2 (fun j _ => C100 j) (C105 1) (fun j _ _ => C105 j) | (exfalso; omega)) (by first | exact hI | exact SDL_k hd5 hM (fun j _ => C101 j) (C104 1) (fun j _ _ => C104 j) (fun j _ _ => C104 j) | (exfalso; omega)) (by first | exact hI | exact SDL_k hd6 hM2 (fun j _ => C102 j) (C105 1) (fun j _ _ => C105 j) (fun j _ _ => C105 j) | (exfalso; omega))
    · skip
      have hM107 : MW (dt57 80) := h56.2.2.1
      obtain ⟨h56_0, h56_1, h56_2, h56_3, h56_4, h56_5, h56_6, h56_7, h56_8, h56_9, h56_10, h56_11⟩ := h56
      have w108 : dt57 80 0 = dt 80 0 := h56_4.trans w24
      have w109 : dt57 80 1 = dt 80 1 := h56_5.trans w25
      have w110 : dt57 80 2 = dt 80 2 := h56_6.trans w26
      have w111 : dt57 80 3 = dt 80 3 := h56_7.trans w27
      have w112 : dt57 80 4 = dt 80 4 := h56_8.trans w28
      have M2113 : MW (dt57 81) := MW_frk M241 hF59 (by decide)
      have C114 : ∀ j : Nat, dt57 2 j = dt 2 j := fun j => (hF59 2 (by decide) j).trans (C42 j)
      have C115 : ∀ j : Nat, dt57 3 j = dt 3 j := fun j => (hF59 3 (by decide) j).trans (C43 j)
      have C116 : ∀ j : Nat, dt57 19 j = dt 19 j := fun j => (hF59 19 (by decide) j).trans (C44 j)
      have C117 : ∀ j : Nat, dt57 20 j = dt 20 j := fun j => (hF59 20 (by decide) j).trans (C45 j)
      have C118 : ∀ j : Nat, dt57 8 j = dt 8 j := fun j => (hF59 8 (by decide) j).trans (C46 j)
      have C119 : ∀ j : Nat, dt57 25 j = dt 25 j := fun j => (hF59 25 (by decide) j).trans (C47 j)
      have C120 : ∀ j : Nat, dt57 9 j = dt 9 j := fun j => (hF59 9 (by decide) j).trans (C48 j)
      have C121 : ∀ j : Nat, dt57 26 j = dt 26 j := fun j => (hF59 26 (by decide) j).trans (C49 j)
      have C122 : ∀ j : Nat, dt57 36 j = dt 36 j := fun j => (hF59 36 (by decide) j).trans (C50 j)
      have C123 : ∀ j : Nat, dt57 81 j = dt 81 j := fun j => (hF59 81 (by decide) j).trans (C52 j)
      have C124 : ∀ j : Nat, dt57 85 j = dt 85 j := fun j => (hF59 85 (by decide) j).trans (C53 j)
      have F125 : ∀ j : Nat, 6 ≤ j → j < 974 → dt57 80 j = dt 80 j := fun j h1_ h2_ => (h56_9 j (by omega) (by omega)).trans (C51 j)
      have F126 : ∀ j : Nat, 5320 ≤ j → j < 5380 → dt57 80 j = dt 80 j := fun j h1_ h2_ => (h56_9 j (by omega) (by omega)).trans (C51 j)
      have F127 : dt57 80 1 = dt 80 1 := (h56_9 1 (by omega) (by omega)).trans (C51 1)
      refine go_toq PM267 (k := 2) (pc' := 1435) (L' := [some (.inr (.inr (some 3000))), some (.inr (.inr (some 0))), some (.inr (.inr (some 79))), some (.inl i)]) (st' := []) (w' := (SH, dt57)) rfl ?_
      exact K dt57 hI58 hM107 M2113 (w61.trans (hk0.trans w108.symm)) (w62.trans (hk1.trans w109.symm)) (w63.trans (hk2.trans w110.symm)) (w64.trans (hk3.trans w111.symm)) (w65.trans (hk4.trans w112.symm)) (by omega) (w67.trans (hk6.trans w77.symm)) (w68.trans (hk7.trans w78.symm)) (w69.trans (hk8.trans w79.symm)) (w70.trans (hk9.trans w80.symm)) (w71.trans (hk10.trans w81.symm)) (w72.trans (hk11.trans w82.symm)) (w73.trans (hk12.trans w83.symm)) (w74.trans (hk13.trans w84.symm)) (w75.trans (hk14.trans w85.symm)) (w76.trans (hk15.trans w86.symm)) (by first | exact hI | exact TPL_k hd0 C122 C124 (by omega) | (exfalso; omega)) (by first | exact hI | exact SCL_k hd1 hM (fun j _ => C114 j) (fun j _ => C115 j) F125 | (exfalso; omega)) (by first | exact hI | exact SCL_k hd2 hM2 (fun j _ => C116 j) (fun j _ => C117 j) (fun j _ _ => C123 j) | (exfalso; omega)) (by first | exact hI | exact QRL_k hd3 hM (fun j _ => C118 j) F127 F126 | (exfalso; omega)) (by first | exact hI | exact QRL_k hd4 hM2 (fun j _ => C119 j) (C123 1) (fun j _ _ => C123 j) | (exfalso; omega)) (by first | exact hI | exact SDL_k hd5 hM (fun j _ => C120 j) F127 F125 F126 | (exfalso; omega)) (by first | exact hI | exact SDL_k hd6 hM2 (fun j _ => C121 j) (C123 1) (fun j _ _ => C123 j) (fun j _ _ => C123 j) | (exfalso; omega))
  · skip
    obtain ⟨h3_0, h3_1, h3_2⟩ := h3
    have M2128 : MW (dt4 81) := MW_frk hM2 hF6 (by decide)
    have C129 : ∀ j : Nat, dt4 2 j = dt 2 j := fun j => (hF6 2 (by decide) j).trans ((fun _ => rfl) j)
    have C130 : ∀ j : Nat, dt4 3 j = dt 3 j := fun j => (hF6 3 (by decide) j).trans ((fun _ => rfl) j)
    have C131 : ∀ j : Nat, dt4 19 j = dt 19 j := fun j => (hF6 19 (by decide) j).trans ((fun _ => rfl) j)
    have C132 : ∀ j : Nat, dt4 20 j = dt 20 j := fun j => (hF6 20 (by decide) j).trans ((fun _ => rfl) j)
    have C133 : ∀ j : Nat, dt4 8 j = dt 8 j := fun j => (hF6 8 (by decide) j).trans ((fun _ => rfl) j)
    have C134 : ∀ j : Nat, dt4 25 j = dt 25 j := fun j => (hF6 25 (by decide) j).trans ((fun _ => rfl) j)
    have C135 : ∀ j : Nat, dt4 9 j = dt 9 j := fun j => (hF6 9 (by decide) j).trans ((fun _ => rfl) j)
    have C136 : ∀ j : Nat, dt4 26 j = dt 26 j := fun j => (hF6 26 (by decide) j).trans ((fun _ => rfl) j)
    have C137 : ∀ j : Nat, dt4 36 j = dt 36 j := fun j => (hF6 36 (by decide) j).trans ((fun _ => rfl) j)
    have C138 : ∀ j : Nat, dt4 80 j = dt 80 j := fun j => (hF6 80 (by decide) j).trans ((fun _ => rfl) j)
    have C139 : ∀ j : Nat, dt4 81 j = dt 81 j := fun j => (hF6 81 (by decide) j).trans ((fun _ => rfl) j)
    have C140 : ∀ j : Nat, dt4 85 j = dt 85 j := fun j => (hF6 85 (by decide) j).trans ((fun _ => rfl) j)
    refine go_toq PM267 (k := 6) (pc' := 1185) (L' := [some (.inr (.inr (some 3000))), some (.inr (.inr (some 0))), some (.inr (.inr (some 79))), some (.inl i)]) (st' := [.inl (i + 1), .inr (.inr (some 3000)), .inr (.inr (some 79))]) (w' := (SH, dt4)) rfl ?_
    have r141 := i32_R (xs ((i + 1).toNat))
    refine go_smpq PM267 (L' := [some (.inr (.inr (some 3000))), some (.inr (.inr (some 0))), some (.inr (.inr (some 79))), some (.inl i)]) (st' := [.inl ((xs ((i + 1).toNat)).toInt), .inr (.inr (some 79))]) (w' := (SH, dt4)) rfl rfl (s_iald (n := L) (f := fun j => (xs j).toInt) (am_scr hLL) ⟨by omega, by omega⟩) ?_
    refine go_toq PM267 (k := 4) (pc' := 1190) (L' := [some (.inr (.inr (some 3000))), some (.inr (.inr (some 0))), some (.inr (.inr (some 79))), some (.inl i)]) (st' := [.inl (i + 2), .inr (.inr (some 3000)), .inl ((xs ((i + 1).toNat)).toInt), .inr (.inr (some 79))]) (w' := (SH, dt4)) rfl ?_
    have r142 := i32_R (xs ((i + 2).toNat))
    refine go_smpq PM267 (L' := [some (.inr (.inr (some 3000))), some (.inr (.inr (some 0))), some (.inr (.inr (some 79))), some (.inl i)]) (st' := [.inl ((xs ((i + 2).toNat)).toInt), .inl ((xs ((i + 1).toNat)).toInt), .inr (.inr (some 79))]) (w' := (SH, dt4)) rfl rfl (s_iald (n := L) (f := fun j => (xs j).toInt) (am_scr hLL) ⟨by omega, by omega⟩) ?_
    refine go_callq PM267 PM237 (Q' := _) rfl rfl rfl rfl (sp_X6_house_v L xs sio (d + 37) dt4 hI5 hM8  ((xs ((i + 1).toNat)).toInt) ⟨by omega, by omega⟩ ((xs ((i + 2).toNat)).toInt) ⟨by omega, by omega⟩ ) ?_
    rintro _ _ ⟨dt144, rfl, hI145, hF146, h143⟩
    refine ⟨rfl, ?_⟩
    have hF147 : Fr [0, 1, 2, 3, 4, 5, 6, 7, 8, 9, 10, 11, 12, 13, 14, 15, 16, 17, 18, 19, 20, 21, 22, 23, 24, 25, 26, 27, 28, 29, 30, 31, 32, 33, 34, 35, 36, 37, 38, 39, 40, 41, 42, 43, 44, 45, 46, 47, 48, 49, 50, 51, 52, 53, 54, 55, 56, 57, 58, 59, 60, 61, 62, 63, 64, 65, 66, 67, 68, 69, 70, 71, 72, 73, 74, 75, 76, 77, 78, 79, 80, 81, 82, 83, 84, 85, 86, 87, 88, 89, 90, 91, 92, 93, 94, 95, 96, 97, 98, 99, 100, 101, 102, 103, 104] dt dt144 := Fr_tr hF7 hF146 (by decide)
    have w148 : dt144 1 0 = dt 1 0 := (hF146 1 (by decide) 0).trans w9
    have w149 : dt144 7 3 = dt 7 3 := (hF146 7 (by decide) 3).trans w10
    have w150 : dt144 10 3 = dt 10 3 := (hF146 10 (by decide) 3).trans w11
    have w151 : dt144 12 3 = dt 12 3 := (hF146 12 (by decide) 3).trans w12
    have w152 : dt144 14 3 = dt 14 3 := (hF146 14 (by decide) 3).trans w13
    have w153 : dt144 16 3 = dt4 16 3 := hF146 16 (by decide) 3
    have w154 : dt144 18 0 = dt 18 0 := (hF146 18 (by decide) 0).trans w14
    have w155 : dt144 24 3 = dt 24 3 := (hF146 24 (by decide) 3).trans w15
    have w156 : dt144 27 3 = dt 27 3 := (hF146 27 (by decide) 3).trans w16
    have w157 : dt144 29 3 = dt 29 3 := (hF146 29 (by decide) 3).trans w17
    have w158 : dt144 31 3 = dt 31 3 := (hF146 31 (by decide) 3).trans w18
    have w159 : dt144 33 3 = dt 33 3 := (hF146 33 (by decide) 3).trans w19
    have w160 : dt144 0 2 = dt 0 2 := (hF146 0 (by decide) 2).trans w20
    have w161 : dt144 35 1 = dt 35 1 := (hF146 35 (by decide) 1).trans w21
    have w162 : dt144 35 2 = dt 35 2 := (hF146 35 (by decide) 2).trans w22
    have w163 : dt144 35 3 = dt 35 3 := (hF146 35 (by decide) 3).trans w23
    have w164 : dt144 81 0 = dt 81 0 := (hF146 81 (by decide) 0).trans w30
    have w165 : dt144 81 1 = dt 81 1 := (hF146 81 (by decide) 1).trans w31
    have w166 : dt144 81 2 = dt 81 2 := (hF146 81 (by decide) 2).trans w32
    have w167 : dt144 81 3 = dt 81 3 := (hF146 81 (by decide) 3).trans w33
    have w168 : dt144 81 4 = dt 81 4 := (hF146 81 (by decide) 4).trans w34
    have w169 : dt144 81 5 = dt 81 5 := (hF146 81 (by decide) 5).trans w35
    have w170 : dt144 79 2 = dt 79 2 := (hF146 79 (by decide) 2).trans w36
    have w171 : dt144 79 12 = dt 79 12 := (hF146 79 (by decide) 12).trans w37
    have w172 : dt144 79 19 = dt 79 19 := (hF146 79 (by decide) 19).trans w38
    have w173 : dt144 79 21 = dt 79 21 := (hF146 79 (by decide) 21).trans w39
    rcases h143 with ⟨rfl, h143⟩ | ⟨v_h143, rfl, h143r, h143⟩
    · skip
      have hM174 : MW (dt144 80) := h143.2.1
      obtain ⟨h143_0, h143_1, h143_2, h143_3, h143_4, h143_5, h143_6, h143_7, h143_8⟩ := h143
      have w175 : dt144 80 0 = dt 80 0 := h143_2.trans w24
      have w176 : dt144 80 1 = dt 80 1 := h143_3.trans w25
      have w177 : dt144 80 2 = dt 80 2 := h143_4.trans w26
      have w178 : dt144 80 3 = dt 80 3 := h143_5.trans w27
      have w179 : dt144 80 4 = dt 80 4 := h143_6.trans w28
      have w180 : dt144 80 5 = dt 80 5 := h143_7.trans w29
      have M2181 : MW (dt144 81) := MW_frk M2128 hF146 (by decide)
      have C182 : ∀ j : Nat, dt144 2 j = dt 2 j := fun j => (hF146 2 (by decide) j).trans (C129 j)
      have C183 : ∀ j : Nat, dt144 3 j = dt 3 j := fun j => (hF146 3 (by decide) j).trans (C130 j)
      have C184 : ∀ j : Nat, dt144 19 j = dt 19 j := fun j => (hF146 19 (by decide) j).trans (C131 j)
      have C185 : ∀ j : Nat, dt144 20 j = dt 20 j := fun j => (hF146 20 (by decide) j).trans (C132 j)
      have C186 : ∀ j : Nat, dt144 8 j = dt 8 j := fun j => (hF146 8 (by decide) j).trans (C133 j)
      have C187 : ∀ j : Nat, dt144 25 j = dt 25 j := fun j => (hF146 25 (by decide) j).trans (C134 j)
      have C188 : ∀ j : Nat, dt144 9 j = dt 9 j := fun j => (hF146 9 (by decide) j).trans (C135 j)
      have C189 : ∀ j : Nat, dt144 26 j = dt 26 j := fun j => (hF146 26 (by decide) j).trans (C136 j)
      have C190 : ∀ j : Nat, dt144 36 j = dt 36 j := fun j => (hF146 36 (by decide) j).trans (C137 j)
      have C191 : ∀ j : Nat, dt144 80 j = dt 80 j := fun j => (h143_8 j).trans (C138 j)
      have C192 : ∀ j : Nat, dt144 81 j = dt 81 j := fun j => (hF146 81 (by decide) j).trans (C139 j)
      have C193 : ∀ j : Nat, dt144 85 j = dt 85 j := fun j => (hF146 85 (by decide) j).trans (C140 j)
      refine go_toq PM267 (k := 2) (pc' := 1435) (L' := [some (.inr (.inr (some 3000))), some (.inr (.inr (some 0))), some (.inr (.inr (some 79))), some (.inl i)]) (st' := []) (w' := (SH, dt144)) rfl ?_
      exact K dt144 hI145 hM174 M2181 (w148.trans (hk0.trans w175.symm)) (w149.trans (hk1.trans w176.symm)) (w150.trans (hk2.trans w177.symm)) (w151.trans (hk3.trans w178.symm)) (w152.trans (hk4.trans w179.symm)) (by omega) (w154.trans (hk6.trans w164.symm)) (w155.trans (hk7.trans w165.symm)) (w156.trans (hk8.trans w166.symm)) (w157.trans (hk9.trans w167.symm)) (w158.trans (hk10.trans w168.symm)) (w159.trans (hk11.trans w169.symm)) (w160.trans (hk12.trans w170.symm)) (w161.trans (hk13.trans w171.symm)) (w162.trans (hk14.trans w172.symm)) (w163.trans (hk15.trans w173.symm)) (by first | exact hI | exact TPL_k hd0 C190 C193 (by omega) | (exfalso; omega)) (by first | exact hI | exact SCL_k hd1 hM (fun j _ => C182 j) (fun j _ => C183 j) (fun j _ _ => C191 j) | (exfalso; omega)) (by first | exact hI | exact SCL_k hd2 hM2 (fun j _ => C184 j) (fun j _ => C185 j) (fun j _ _ => C192 j) | (exfalso; omega)) (by first | exact hI | exact QRL_k hd3 hM (fun j _ => C186 j) (C191 1) (fun j _ _ => C191 j) | (exfalso; omega)) (by first | exact hI | exact QRL_k hd4 hM2 (fun j _ => C187 j) (C192 1) (fun j _ _ => C192 j) | (exfalso; omega)) (by first | exact hI | exact SDL_k hd5 hM (fun j _ => C188 j) (C191 1) (fun j _ _ => C191 j) (fun j _ _ => C191 j) | (exfalso; omega)) (by first | exact hI | exact SDL_k hd6 hM2 (fun j _ => C189 j) (C192 1) (fun j _ _ => C192 j) (fun j _ _ => C192 j) | (exfalso; omega))
    · skip
      have hM194 : MW (dt144 80) := h143.2.2.1
      obtain ⟨h143_0, h143_1, h143_2, h143_3, h143_4, h143_5, h143_6, h143_7, h143_8, h143_9, h143_10, h143_11⟩ := h143
      have w195 : dt144 80 0 = dt 80 0 := h143_4.trans w24
      have w196 : dt144 80 1 = dt 80 1 := h143_5.trans w25
      have w197 : dt144 80 2 = dt 80 2 := h143_6.trans w26
      have w198 : dt144 80 3 = dt 80 3 := h143_7.trans w27
      have w199 : dt144 80 4 = dt 80 4 := h143_8.trans w28
      have M2200 : MW (dt144 81) := MW_frk M2128 hF146 (by decide)
      have C201 : ∀ j : Nat, dt144 2 j = dt 2 j := fun j => (hF146 2 (by decide) j).trans (C129 j)
      have C202 : ∀ j : Nat, dt144 3 j = dt 3 j := fun j => (hF146 3 (by decide) j).trans (C130 j)
      have C203 : ∀ j : Nat, dt144 19 j = dt 19 j := fun j => (hF146 19 (by decide) j).trans (C131 j)
      have C204 : ∀ j : Nat, dt144 20 j = dt 20 j := fun j => (hF146 20 (by decide) j).trans (C132 j)
      have C205 : ∀ j : Nat, dt144 8 j = dt 8 j := fun j => (hF146 8 (by decide) j).trans (C133 j)
      have C206 : ∀ j : Nat, dt144 25 j = dt 25 j := fun j => (hF146 25 (by decide) j).trans (C134 j)
      have C207 : ∀ j : Nat, dt144 9 j = dt 9 j := fun j => (hF146 9 (by decide) j).trans (C135 j)
      have C208 : ∀ j : Nat, dt144 26 j = dt 26 j := fun j => (hF146 26 (by decide) j).trans (C136 j)
      have C209 : ∀ j : Nat, dt144 36 j = dt 36 j := fun j => (hF146 36 (by decide) j).trans (C137 j)
      have C210 : ∀ j : Nat, dt144 81 j = dt 81 j := fun j => (hF146 81 (by decide) j).trans (C139 j)
      have C211 : ∀ j : Nat, dt144 85 j = dt 85 j := fun j => (hF146 85 (by decide) j).trans (C140 j)
      have F212 : ∀ j : Nat, 6 ≤ j → j < 974 → dt144 80 j = dt 80 j := fun j h1_ h2_ => (h143_9 j (by omega) (by omega)).trans (C138 j)
      have F213 : ∀ j : Nat, 5320 ≤ j → j < 5380 → dt144 80 j = dt 80 j := fun j h1_ h2_ => (h143_9 j (by omega) (by omega)).trans (C138 j)
      have F214 : dt144 80 1 = dt 80 1 := (h143_9 1 (by omega) (by omega)).trans (C138 1)
      refine go_toq PM267 (k := 2) (pc' := 1435) (L' := [some (.inr (.inr (some 3000))), some (.inr (.inr (some 0))), some (.inr (.inr (some 79))), some (.inl i)]) (st' := []) (w' := (SH, dt144)) rfl ?_
      exact K dt144 hI145 hM194 M2200 (w148.trans (hk0.trans w195.symm)) (w149.trans (hk1.trans w196.symm)) (w150.trans (hk2.trans w197.symm)) (w151.trans (hk3.trans w198.symm)) (w152.trans (hk4.trans w199.symm)) (by omega) (w154.trans (hk6.trans w164.symm)) (w155.trans (hk7.trans w165.symm)) (w156.trans (hk8.trans w166.symm)) (w157.trans (hk9.trans w167.symm)) (w158.trans (hk10.trans w168.symm)) (w159.trans (hk11.trans w169.symm)) (w160.trans (hk12.trans w170.symm)) (w161.trans (hk13.trans w171.symm)) (w162.trans (hk14.trans w172.symm)) (w163.trans (hk15.trans w173.symm)) (by first | exact hI | exact TPL_k hd0 C209 C211 (by omega) | (exfalso; omega)) (by first | exact hI | exact SCL_k hd1 hM (fun j _ => C201 j) (fun j _ => C202 j) F212 | (exfalso; omega)) (by first | exact hI | exact SCL_k hd2 hM2 (fun j _ => C203 j) (fun j _ => C204 j) (fun j _ _ => C210 j) | (exfalso; omega)) (by first | exact hI | exact QRL_k hd3 hM (fun j _ => C205 j) F214 F213 | (exfalso; omega)) (by first | exact hI | exact QRL_k hd4 hM2 (fun j _ => C206 j) (C210 1) (fun j _ _ => C210 j) | (exfalso; omega)) (by first | exact hI | exact SDL_k hd5 hM (fun j _ => C207 j) F214 F212 F213 | (exfalso; omega)) (by first | exact hI | exact SDL_k hd6 hM2 (fun j _ => C208 j) (C210 1) (fun j _ _ => C210 j) (fun j _ _ => C210 j) | (exfalso; omega))
set_option maxRecDepth 20000 in
set_option maxHeartbeats 8000000 in
theorem sp_case26 (L : Nat) (xs : Nat → Int32) (sio : Option Nat) (d : Nat) (Q : Option AV → am_W → Prop) (hLL : L ≤ 3072) (i : Int) (hi : 0 ≤ i ∧ i ≤ 3066) (hil : i ≤ (L : Int) - 6) (dt : Nat → Nat → Int) (hI : InvC dt) (hM : MW (dt 80)) (hM2 : MW (dt 81)) (hk0 : dt 1 0 = dt 80 0) (hk1 : dt 7 3 = dt 80 1) (hk2 : dt 10 3 = dt 80 2) (hk3 : dt 12 3 = dt 80 3) (hk4 : dt 14 3 = dt 80 4) (hk5 : dt 16 3 = dt 80 5) (hk6 : dt 18 0 = dt 81 0) (hk7 : dt 24 3 = dt 81 1) (hk8 : dt 27 3 = dt 81 2) (hk9 : dt 29 3 = dt 81 3) (hk10 : dt 31 3 = dt 81 4) (hk11 : dt 33 3 = dt 81 5) (hk12 : dt 0 2 = dt 79 2) (hk13 : dt 35 1 = dt 79 12) (hk14 : dt 35 2 = dt 79 19) (hk15 : dt 35 3 = dt 79 21) (hd0 : TPL (dt 36) (dt 85) (dt 35 1)) (hd1 : SCL (dt 2) (dt 3) (dt 80)) (hd2 : SCL (dt 19) (dt 20) (dt 81)) (hd3 : QRL (dt 8) (dt 80)) (hd4 : QRL (dt 25) (dt 81)) (hd5 : SDL (dt 9) (dt 80)) (hd6 : SDL (dt 26) (dt 81)) (K : ∀ (dt : Nat → Nat → Int) (hI : InvC dt) (hM : MW (dt 80)) (hM2 : MW (dt 81)) (hk0 : dt 1 0 = dt 80 0) (hk1 : dt 7 3 = dt 80 1) (hk2 : dt 10 3 = dt 80 2) (hk3 : dt 12 3 = dt 80 3) (hk4 : dt 14 3 = dt 80 4) (hk5 : dt 16 3 = dt 80 5) (hk6 : dt 18 0 = dt 81 0) (hk7 : dt 24 3 = dt 81 1) (hk8 : dt 27 3 = dt 81 2) (hk9 : dt 29 3 = dt 81 3) (hk10 : dt 31 3 = dt 81 4) (hk11 : dt 33 3 = dt 81 5) (hk12 : dt 0 2 = dt 79 2) (hk13 : dt 35 1 = dt 79 12) (hk14 : dt 35 2 = dt 79 19) (hk15 : dt 35 3 = dt 79 21) (hd0 : TPL (dt 36) (dt 85) (dt 35 1)) (hd1 : SCL (dt 2) (dt 3) (dt 80)) (hd2 : SCL (dt 19) (dt 20) (dt 81)) (hd3 : QRL (dt 8) (dt 80)) (hd4 : QRL (dt 25) (dt 81)) (hd5 : SDL (dt 9) (dt 80)) (hd6 : SDL (dt 26) (dt 81)), GO (am_XX L xs sio) (d + 39) 267 1435 [some (.inr (.inr (some 3000))), some (.inr (.inr (some 0))), some (.inr (.inr (some 79))), some (.inl i)] [] (SH, dt) Q) : GO (am_XX L xs sio) (d + 39) 267 1198 [some (.inr (.inr (some 3000))), some (.inr (.inr (some 0))), some (.inr (.inr (some 79))), some (.inl i)] [] (SH, dt) Q := by
  have hF : Fr [0, 1, 2, 3, 4, 5, 6, 7, 8, 9, 10, 11, 12, 13, 14, 15, 16, 17, 18, 19, 20, 21, 22, 23, 24, 25, 26, 27, 28, 29, 30, 31, 32, 33, 34, 35, 36, 37, 38, 39, 40, 41, 42, 43, 44, 45, 46, 47, 48, 49, 50, 51, 52, 53, 54, 55, 56, 57, 58, 59, 60, 61, 62, 63, 64, 65, 66, 67, 68, 69, 70, 71, 72, 73, 74, 75, 76, 77, 78, 79, 80, 81, 82, 83, 84, 85, 86, 87, 88, 89, 90, 91, 92, 93, 94, 95, 96, 97, 98, 99, 100, 101, 102, 103, 104] dt dt := Fr_refl
  have hqo := QOC_R hd3 hM hk1
  have hb1_ := hM.1.1
  refine go_toq PM267 (k := 5) (pc' := 1203) (L' := [some (.inr (.inr (some 3000))), some (.inr (.inr (some 0))), some (.inr (.inr (some 79))), some (.inl i)]) (st' := [.inl (i + 1), .inr (.inr (some 3000)), .inr (.inr (some 0))]) (w' := (SH, dt)) rfl ?_
  have r1 := i32_R (xs ((i + 1).toNat))
  refine go_smpq PM267 (L' := [some (.inr (.inr (some 3000))), some (.inr (.inr (some 0))), some (.inr (.inr (some 79))), some (.inl i)]) (st' := [.inl ((xs ((i + 1).toNat)).toInt), .inr (.inr (some 0))]) (w' := (SH, dt)) rfl rfl (s_iald (n := L) (f := fun j => (xs j).toInt) (am_scr hLL) ⟨by omega, by omega⟩) ?_
  refine go_callq PM267 PM93 (Q' := _) rfl rfl rfl rfl (sp_X5_houses L xs sio (d + 34) dt hI  ((xs ((i + 1).toNat)).toInt) ⟨by omega, by omega⟩ ) ?_
  rintro _ _ ⟨rfl, h2⟩
  refine ⟨rfl, ?_⟩
  rcases h2 with ⟨v_h2, rfl, h2r, h2⟩
  refine go_toq PM267 (k := 6) (pc' := 1213) (L' := [some (.inr (.inr (some 3000))), some (.inr (.inr (some 0))), some (.inr (.inr (some 79))), some (.inl i)]) (st' := [.inl (i + 1), .inr (.inr (some 3000)), .inr (.inr (some 79))]) (w' := (SH, dt)) rfl ?_
  refine go_smpq PM267 (L' := [some (.inr (.inr (some 3000))), some (.inr (.inr (some 0))), some (.inr (.inr (some 79))), some (.inl i)]) (st' := [.inl ((xs ((i + 1).toNat)).toInt), .inr (.inr (some 79))]) (w' := (SH, dt)) rfl rfl (s_iald (n := L) (f := fun j => (xs j).toInt) (am_scr hLL) ⟨by omega, by omega⟩) ?_
  refine go_callq PM267 PM239 (Q' := _) rfl rfl rfl rfl (sp_X6_houses L xs sio (d + 37) dt hI hM  ((xs ((i + 1).toNat)).toInt) ⟨by omega, by omega⟩ ) ?_
  rintro _ _ ⟨rfl, h3⟩
  refine ⟨rfl, ?_⟩
  rcases h3 with ⟨v_h3, rfl, h3r, h3⟩
  refine go_toq PM267 (k := 2) (pc' := 1435) (L' := [some (.inr (.inr (some 3000))), some (.inr (.inr (some 0))), some (.inr (.inr (some 79))), some (.inl i)]) (st' := []) (w' := (SH, dt)) rfl ?_
  exact K dt hI hM hM2 hk0 hk1 hk2 hk3 hk4 hk5 hk6 hk7 hk8 hk9 hk10 hk11 hk12 hk13 hk14 hk15 (by first | exact hI | exact TPL_k hd0 (fun _ => rfl) (fun _ => rfl) (by omega) | (exfalso; omega)) (by first | exact hI | exact SCL_k hd1 hM (fun j _ => (fun _ => rfl) j) (fun j _ => (fun _ => rfl) j) (fun j _ _ => (fun _ => rfl) j) | (exfalso; omega)) (by first | exact hI | exact SCL_k hd2 hM2 (fun j _ => (fun _ => rfl) j) (fun j _ => (fun _ => rfl) j) (fun j _ _ => (fun _ => rfl) j) | (exfalso; omega)) (by first | exact hI | exact QRL_k hd3 hM (fun j _ => (fun _ => rfl) j) ((fun _ => rfl) 1) (fun j _ _ => (fun _ => rfl) j) | (exfalso; omega)) (by first | exact hI | exact QRL_k hd4 hM2 (fun j _ => (fun _ => rfl) j) ((fun _ => rfl) 1) (fun j _ _ => (fun _ => rfl) j) | (exfalso; omega)) (by first | exact hI | exact SDL_k hd5 hM (fun j _ => (fun _ => rfl) j) ((fun _ => rfl) 1) (fun j _ _ => (fun _ => rfl) j) (fun j _ _ => (fun _ => rfl) j) | (exfalso; omega)) (by first | exact hI | exact SDL_k hd6 hM2 (fun j _ => (fun _ => rfl) j) ((fun _ => rfl) 1) (fun j _ _ => (fun _ => rfl) j) (fun j _ _ => (fun _ => rfl) j) | (exfalso; omega))
set_option maxRecDepth 20000 in
set_option maxHeartbeats 8000000 in
theorem sp_case27 (L : Nat) (xs : Nat → Int32) (sio : Option Nat) (d : Nat) (Q : Option AV → am_W → Prop) (hLL : L ≤ 3072) (i : Int) (hi : 0 ≤ i ∧ i ≤ 3066) (hil : i ≤ (L : Int) - 6) (dt : Nat → Nat → Int) (hI : InvC dt) (hM : MW (dt 80)) (hM2 : MW (dt 81)) (hk0 : dt 1 0 = dt 80 0) (hk1 : dt 7 3 = dt 80 1) (hk2 : dt 10 3 = dt 80 2) (hk3 : dt 12 3 = dt 80 3) (hk4 : dt 14 3 = dt 80 4) (hk5 : dt 16 3 = dt 80 5) (hk6 : dt 18 0 = dt 81 0) (hk7 : dt 24 3 = dt 81 1) (hk8 : dt 27 3 = dt 81 2) (hk9 : dt 29 3 = dt 81 3) (hk10 : dt 31 3 = dt 81 4) (hk11 : dt 33 3 = dt 81 5) (hk12 : dt 0 2 = dt 79 2) (hk13 : dt 35 1 = dt 79 12) (hk14 : dt 35 2 = dt 79 19) (hk15 : dt 35 3 = dt 79 21) (hd0 : TPL (dt 36) (dt 85) (dt 35 1)) (hd1 : SCL (dt 2) (dt 3) (dt 80)) (hd2 : SCL (dt 19) (dt 20) (dt 81)) (hd3 : QRL (dt 8) (dt 80)) (hd4 : QRL (dt 25) (dt 81)) (hd5 : SDL (dt 9) (dt 80)) (hd6 : SDL (dt 26) (dt 81)) (K : ∀ (dt : Nat → Nat → Int) (hI : InvC dt) (hM : MW (dt 80)) (hM2 : MW (dt 81)) (hk0 : dt 1 0 = dt 80 0) (hk1 : dt 7 3 = dt 80 1) (hk2 : dt 10 3 = dt 80 2) (hk3 : dt 12 3 = dt 80 3) (hk4 : dt 14 3 = dt 80 4) (hk5 : dt 16 3 = dt 80 5) (hk6 : dt 18 0 = dt 81 0) (hk7 : dt 24 3 = dt 81 1) (hk8 : dt 27 3 = dt 81 2) (hk9 : dt 29 3 = dt 81 3) (hk10 : dt 31 3 = dt 81 4) (hk11 : dt 33 3 = dt 81 5) (hk12 : dt 0 2 = dt 79 2) (hk13 : dt 35 1 = dt 79 12) (hk14 : dt 35 2 = dt 79 19) (hk15 : dt 35 3 = dt 79 21) (hd0 : TPL (dt 36) (dt 85) (dt 35 1)) (hd1 : SCL (dt 2) (dt 3) (dt 80)) (hd2 : SCL (dt 19) (dt 20) (dt 81)) (hd3 : QRL (dt 8) (dt 80)) (hd4 : QRL (dt 25) (dt 81)) (hd5 : SDL (dt 9) (dt 80)) (hd6 : SDL (dt 26) (dt 81)), GO (am_XX L xs sio) (d + 39) 267 1435 [some (.inr (.inr (some 3000))), some (.inr (.inr (some 0))), some (.inr (.inr (some 79))), some (.inl i)] [] (SH, dt) Q) : GO (am_XX L xs sio) (d + 39) 267 1221 [some (.inr (.inr (some 3000))), some (.inr (.inr (some 0))), some (.inr (.inr (some 79))), some (.inl i)] [] (SH, dt) Q := by
  have hF : Fr [0, 1, 2, 3, 4, 5, 6, 7, 8, 9, 10, 11, 12, 13, 14, 15, 16, 17, 18, 19, 20, 21, 22, 23, 24, 25, 26, 27, 28, 29, 30, 31, 32, 33, 34, 35, 36, 37, 38, 39, 40, 41, 42, 43, 44, 45, 46, 47, 48, 49, 50, 51, 52, 53, 54, 55, 56, 57, 58, 59, 60, 61, 62, 63, 64, 65, 66, 67, 68, 69, 70, 71, 72, 73, 74, 75, 76, 77, 78, 79, 80, 81, 82, 83, 84, 85, 86, 87, 88, 89, 90, 91, 92, 93, 94, 95, 96, 97, 98, 99, 100, 101, 102, 103, 104] dt dt := Fr_refl
  have hqo := QOC_R hd3 hM hk1
  have hb1_ := hM.1.1
  refine go_toq PM267 (k := 5) (pc' := 1226) (L' := [some (.inr (.inr (some 3000))), some (.inr (.inr (some 0))), some (.inr (.inr (some 79))), some (.inl i)]) (st' := [.inl (i + 1), .inr (.inr (some 3000)), .inr (.inr (some 0))]) (w' := (SH, dt)) rfl ?_
  have r1 := i32_R (xs ((i + 1).toNat))
  refine go_smpq PM267 (L' := [some (.inr (.inr (some 3000))), some (.inr (.inr (some 0))), some (.inr (.inr (some 79))), some (.inl i)]) (st' := [.inl ((xs ((i + 1).toNat)).toInt), .inr (.inr (some 0))]) (w' := (SH, dt)) rfl rfl (s_iald (n := L) (f := fun j => (xs j).toInt) (am_scr hLL) ⟨by omega, by omega⟩) ?_
  refine go_toq PM267 (k := 4) (pc' := 1231) (L' := [some (.inr (.inr (some 3000))), some (.inr (.inr (some 0))), some (.inr (.inr (some 79))), some (.inl i)]) (st' := [.inl (i + 2), .inr (.inr (some 3000)), .inl ((xs ((i + 1).toNat)).toInt), .inr (.inr (some 0))]) (w' := (SH, dt)) rfl ?_
  have r2 := i32_R (xs ((i + 2).toNat))
  refine go_smpq PM267 (L' := [some (.inr (.inr (some 3000))), some (.inr (.inr (some 0))), some (.inr (.inr (some 79))), some (.inl i)]) (st' := [.inl ((xs ((i + 2).toNat)).toInt), .inl ((xs ((i + 1).toNat)).toInt), .inr (.inr (some 0))]) (w' := (SH, dt)) rfl rfl (s_iald (n := L) (f := fun j => (xs j).toInt) (am_scr hLL) ⟨by omega, by omega⟩) ?_
  refine go_callq PM267 PM94 (Q' := _) rfl rfl rfl rfl (sp_X5_sorts L xs sio (d + 33) dt hI  ((xs ((i + 1).toNat)).toInt) ⟨by omega, by omega⟩ ((xs ((i + 2).toNat)).toInt) ⟨by omega, by omega⟩ ) ?_
  rintro _ _ ⟨dt4, rfl, hI5, hF6, h3⟩
  refine ⟨rfl, ?_⟩
  have hF7 : Fr [0, 1, 2, 3, 4, 5, 6, 7, 8, 9, 10, 11, 12, 13, 14, 15, 16, 17, 18, 19, 20, 21, 22, 23, 24, 25, 26, 27, 28, 29, 30, 31, 32, 33, 34, 35, 36, 37, 38, 39, 40, 41, 42, 43, 44, 45, 46, 47, 48, 49, 50, 51, 52, 53, 54, 55, 56, 57, 58, 59, 60, 61, 62, 63, 64, 65, 66, 67, 68, 69, 70, 71, 72, 73, 74, 75, 76, 77, 78, 79, 80, 81, 82, 83, 84, 85, 86, 87, 88, 89, 90, 91, 92, 93, 94, 95, 96, 97, 98, 99, 100, 101, 102, 103, 104] dt dt4 := Fr_tr hF hF6 (by decide)
  have hM8 : MW (dt4 80) := MW_fr hM hF6 (by decide)
  have w9 : dt4 1 0 = dt 1 0 := hF6 1 (by decide) 0
  have w10 : dt4 7 3 = dt 7 3 := hF6 7 (by decide) 3
  have w11 : dt4 10 3 = dt 10 3 := hF6 10 (by decide) 3
  have w12 : dt4 12 3 = dt 12 3 := hF6 12 (by decide) 3
  have w13 : dt4 14 3 = dt 14 3 := hF6 14 (by decide) 3
  have w14 : dt4 16 3 = dt 16 3 := hF6 16 (by decide) 3
  have w15 : dt4 18 0 = dt 18 0 := hF6 18 (by decide) 0
  have w16 : dt4 24 3 = dt 24 3 := hF6 24 (by decide) 3
  have w17 : dt4 27 3 = dt 27 3 := hF6 27 (by decide) 3
  have w18 : dt4 29 3 = dt 29 3 := hF6 29 (by decide) 3
  have w19 : dt4 31 3 = dt 31 3 := hF6 31 (by decide) 3
  have w20 : dt4 33 3 = dt 33 3 := hF6 33 (by decide) 3
  have w21 : dt4 0 2 = dt 0 2 := hF6 0 (by decide) 2
  have w22 : dt4 35 1 = dt 35 1 := hF6 35 (by decide) 1
  have w23 : dt4 35 2 = dt 35 2 := hF6 35 (by decide) 2
  have w24 : dt4 35 3 = dt 35 3 := hF6 35 (by decide) 3
  have w25 : dt4 80 0 = dt 80 0 := hF6 80 (by decide) 0
  have w26 : dt4 80 1 = dt 80 1 := hF6 80 (by decide) 1
  have w27 : dt4 80 2 = dt 80 2 := hF6 80 (by decide) 2
  have w28 : dt4 80 3 = dt 80 3 := hF6 80 (by decide) 3
  have w29 : dt4 80 4 = dt 80 4 := hF6 80 (by decide) 4
  have w30 : dt4 80 5 = dt 80 5 := hF6 80 (by decide) 5
  have w31 : dt4 81 0 = dt 81 0 := hF6 81 (by decide) 0
  have w32 : dt4 81 1 = dt 81 1 := hF6 81 (by decide) 1
  have w33 : dt4 81 2 = dt 81 2 := hF6 81 (by decide) 2
  have w34 : dt4 81 3 = dt 81 3 := hF6 81 (by decide) 3
  have w35 : dt4 81 4 = dt 81 4 := hF6 81 (by decide) 4
  have w36 : dt4 81 5 = dt 81 5 := hF6 81 (by decide) 5
  have w37 : dt4 79 2 = dt 79 2 := hF6 79 (by decide) 2
  have w38 : dt4 79 12 = dt 79 12 := hF6 79 (by decide) 12
  have w39 : dt4 79 19 = dt 79 19 := hF6 79 (by decide) 19
  have w40 : dt4 79 21 = dt 79 21 := hF6 79 (by decide) 21
  rcases h3 with ⟨v_h3, rfl, h3r, h3⟩
  have M241 : MW (dt4 81) := MW_frk hM2 hF6 (by decide)
  have C42 : ∀ j : Nat, dt4 2 j = dt 2 j := fun j => (hF6 2 (by decide) j).trans ((fun _ => rfl) j)
  have C43 : ∀ j : Nat, dt4 3 j = dt 3 j := fun j => (hF6 3 (by decide) j).trans ((fun _ => rfl) j)
  have C44 : ∀ j : Nat, dt4 19 j = dt 19 j := fun j => (hF6 19 (by decide) j).trans ((fun _ => rfl) j)
  have C45 : ∀ j : Nat, dt4 20 j = dt 20 j := fun j => (hF6 20 (by decide) j).trans ((fun _ => rfl) j)
  have C46 : ∀ j : Nat, dt4 8 j = dt 8 j := fun j => (hF6 8 (by decide) j).trans ((fun _ => rfl) j)
  have C47 : ∀ j : Nat, dt4 25 j = dt 25 j := fun j => (hF6 25 (by decide) j).trans ((fun _ => rfl) j)
  have C48 : ∀ j : Nat, dt4 9 j = dt 9 j := fun j => (hF6 9 (by decide) j).trans ((fun _ => rfl) j)
  have C49 : ∀ j : Nat, dt4 26 j = dt 26 j := fun j => (hF6 26 (by decide) j).trans ((fun _ => rfl) j)
  have C50 : ∀ j : Nat, dt4 36 j = dt 36 j := fun j => (hF6 36 (by decide) j).trans ((fun _ => rfl) j)
  have C51 : ∀ j : Nat, dt4 80 j = dt 80 j := fun j => (hF6 80 (by decide) j).trans ((fun _ => rfl) j)
  have C52 : ∀ j : Nat, dt4 81 j = dt 81 j := fun j => (hF6 81 (by decide) j).trans ((fun _ => rfl) j)
  have C53 : ∀ j : Nat, dt4 85 j = dt 85 j := fun j => (hF6 85 (by decide) j).trans ((fun _ => rfl) j)
  refine go_toq PM267 (k := 6) (pc' := 1241) (L' := [some (.inr (.inr (some 3000))), some (.inr (.inr (some 0))), some (.inr (.inr (some 79))), some (.inl i)]) (st' := [.inl (i + 1), .inr (.inr (some 3000)), .inr (.inr (some 79))]) (w' := (SH, dt4)) rfl ?_
  have r54 := i32_R (xs ((i + 1).toNat))
  refine go_smpq PM267 (L' := [some (.inr (.inr (some 3000))), some (.inr (.inr (some 0))), some (.inr (.inr (some 79))), some (.inl i)]) (st' := [.inl ((xs ((i + 1).toNat)).toInt), .inr (.inr (some 79))]) (w' := (SH, dt4)) rfl rfl (s_iald (n := L) (f := fun j => (xs j).toInt) (am_scr hLL) ⟨by omega, by omega⟩) ?_
  refine go_toq PM267 (k := 4) (pc' := 1246) (L' := [some (.inr (.inr (some 3000))), some (.inr (.inr (some 0))), some (.inr (.inr (some 79))), some (.inl i)]) (st' := [.inl (i + 2), .inr (.inr (some 3000)), .inl ((xs ((i + 1).toNat)).toInt), .inr (.inr (some 79))]) (w' := (SH, dt4)) rfl ?_
  have r55 := i32_R (xs ((i + 2).toNat))
  refine go_smpq PM267 (L' := [some (.inr (.inr (some 3000))), some (.inr (.inr (some 0))), some (.inr (.inr (some 79))), some (.inl i)]) (st' := [.inl ((xs ((i + 2).toNat)).toInt), .inl ((xs ((i + 1).toNat)).toInt), .inr (.inr (some 79))]) (w' := (SH, dt4)) rfl rfl (s_iald (n := L) (f := fun j => (xs j).toInt) (am_scr hLL) ⟨by omega, by omega⟩) ?_
  refine go_callq PM267 PM240 (Q' := _) rfl rfl rfl rfl (sp_X6_sorts L xs sio (d + 31) dt4 hI5 hM8  ((xs ((i + 1).toNat)).toInt) ⟨by omega, by omega⟩ ((xs ((i + 2).toNat)).toInt) ⟨by omega, by omega⟩ ) ?_
  rintro _ _ ⟨dt57, rfl, hI58, hF59, h56⟩
  refine ⟨rfl, ?_⟩
  have hF60 : Fr [0, 1, 2, 3, 4, 5, 6, 7, 8, 9, 10, 11, 12, 13, 14, 15, 16, 17, 18, 19, 20, 21, 22, 23, 24, 25, 26, 27, 28, 29, 30, 31, 32, 33, 34, 35, 36, 37, 38, 39, 40, 41, 42, 43, 44, 45, 46, 47, 48, 49, 50, 51, 52, 53, 54, 55, 56, 57, 58, 59, 60, 61, 62, 63, 64, 65, 66, 67, 68, 69, 70, 71, 72, 73, 74, 75, 76, 77, 78, 79, 80, 81, 82, 83, 84, 85, 86, 87, 88, 89, 90, 91, 92, 93, 94, 95, 96, 97, 98, 99, 100, 101, 102, 103, 104] dt dt57 := Fr_tr hF7 hF59 (by decide)
  have hM61 : MW (dt57 80) := MW_fr hM8 hF59 (by decide)
  have w62 : dt57 1 0 = dt 1 0 := (hF59 1 (by decide) 0).trans w9
  have w63 : dt57 7 3 = dt 7 3 := (hF59 7 (by decide) 3).trans w10
  have w64 : dt57 10 3 = dt 10 3 := (hF59 10 (by decide) 3).trans w11
  have w65 : dt57 12 3 = dt 12 3 := (hF59 12 (by decide) 3).trans w12
  have w66 : dt57 14 3 = dt 14 3 := (hF59 14 (by decide) 3).trans w13
  have w67 : dt57 16 3 = dt 16 3 := (hF59 16 (by decide) 3).trans w14
  have w68 : dt57 18 0 = dt 18 0 := (hF59 18 (by decide) 0).trans w15
  have w69 : dt57 24 3 = dt 24 3 := (hF59 24 (by decide) 3).trans w16
  have w70 : dt57 27 3 = dt 27 3 := (hF59 27 (by decide) 3).trans w17
  have w71 : dt57 29 3 = dt 29 3 := (hF59 29 (by decide) 3).trans w18
  have w72 : dt57 31 3 = dt 31 3 := (hF59 31 (by decide) 3).trans w19
  have w73 : dt57 33 3 = dt 33 3 := (hF59 33 (by decide) 3).trans w20
  have w74 : dt57 0 2 = dt 0 2 := (hF59 0 (by decide) 2).trans w21
  have w75 : dt57 35 1 = dt 35 1 := (hF59 35 (by decide) 1).trans w22
  have w76 : dt57 35 2 = dt 35 2 := (hF59 35 (by decide) 2).trans w23
  have w77 : dt57 35 3 = dt 35 3 := (hF59 35 (by decide) 3).trans w24
  have w78 : dt57 80 0 = dt 80 0 := (hF59 80 (by decide) 0).trans w25
  have w79 : dt57 80 1 = dt 80 1 := (hF59 80 (by decide) 1).trans w26
  have w80 : dt57 80 2 = dt 80 2 := (hF59 80 (by decide) 2).trans w27
  have w81 : dt57 80 3 = dt 80 3 := (hF59 80 (by decide) 3).trans w28
  have w82 : dt57 80 4 = dt 80 4 := (hF59 80 (by decide) 4).trans w29
  have w83 : dt57 80 5 = dt 80 5 := (hF59 80 (by decide) 5).trans w30
  have w84 : dt57 81 0 = dt 81 0 := (hF59 81 (by decide) 0).trans w31
  have w85 : dt57 81 1 = dt 81 1 := (hF59 81 (by decide) 1).trans w32
  have w86 : dt57 81 2 = dt 81 2 := (hF59 81 (by decide) 2).trans w33
  have w87 : dt57 81 3 = dt 81 3 := (hF59 81 (by decide) 3).trans w34
  have w88 : dt57 81 4 = dt 81 4 := (hF59 81 (by decide) 4).trans w35
  have w89 : dt57 81 5 = dt 81 5 := (hF59 81 (by decide) 5).trans w36
  have w90 : dt57 79 2 = dt 79 2 := (hF59 79 (by decide) 2).trans w37
  have w91 : dt57 79 12 = dt 79 12 := (hF59 79 (by decide) 12).trans w38
  have w92 : dt57 79 19 = dt 79 19 := (hF59 79 (by decide) 19).trans w39
  have w93 : dt57 79 21 = dt 79 21 := (hF59 79 (by decide) 21).trans w40
  rcases h56 with ⟨v_h56, rfl, h56r, h56⟩
  have M294 : MW (dt57 81) := MW_frk M241 hF59 (by decide)
  have C95 : ∀ j : Nat, dt57 2 j = dt 2 j := fun j => (hF59 2 (by decide) j).trans (C42 j)
  have C96 : ∀ j : Nat, dt57 3 j = dt 3 j := fun j => (hF59 3 (by decide) j).trans (C43 j)
  have C97 : ∀ j : Nat, dt57 19 j = dt 19 j := fun j => (hF59 19 (by decide) j).trans (C44 j)
  have C98 : ∀ j : Nat, dt57 20 j = dt 20 j := fun j => (hF59 20 (by decide) j).trans (C45 j)
  have C99 : ∀ j : Nat, dt57 8 j = dt 8 j := fun j => (hF59 8 (by decide) j).trans (C46 j)
  have C100 : ∀ j : Nat, dt57 25 j = dt 25 j := fun j => (hF59 25 (by decide) j).trans (C47 j)
  have C101 : ∀ j : Nat, dt57 9 j = dt 9 j := fun j => (hF59 9 (by decide) j).trans (C48 j)
  have C102 : ∀ j : Nat, dt57 26 j = dt 26 j := fun j => (hF59 26 (by decide) j).trans (C49 j)
  have C103 : ∀ j : Nat, dt57 36 j = dt 36 j := fun j => (hF59 36 (by decide) j).trans (C50 j)
  have C104 : ∀ j : Nat, dt57 80 j = dt 80 j := fun j => (hF59 80 (by decide) j).trans (C51 j)
  have C105 : ∀ j : Nat, dt57 81 j = dt 81 j := fun j => (hF59 81 (by decide) j).trans (C52 j)
  have C106 : ∀ j : Nat, dt57 85 j = dt 85 j := fun j => (hF59 85 (by decide) j).trans (C53 j)
  refine go_toq PM267 (k := 2) (pc' := 1435) (L' := [some (.inr (.inr (some 3000))), some (.inr (.inr (some 0))), some (.inr (.inr (some 79))), some (.inl i)]) (st' := []) (w' := (SH, dt57)) rfl ?_
  exact K dt57 hI58 hM61 M294 (w62.trans (hk0.trans w78.symm)) (w63.trans (hk1.trans w79.symm)) (w64.trans (hk2.trans w80.symm)) (w65.trans (hk3.trans w81.symm)) (w66.trans (hk4.trans w82.symm)) (w67.trans (hk5.trans w83.symm)) (w68.trans (hk6.trans w84.symm)) (w69.trans (hk7.trans w85.symm)) (w70.trans (hk8.trans w86.symm)) (w71.trans (hk9.trans w87.symm)) (w72.trans (hk10.trans w88.symm)) (w73.trans (hk11.trans w89.symm)) (w74.trans (hk12.trans w90.symm)) (w75.trans (hk13.trans w91.symm)) (w76.trans (hk14.trans w92.symm)) (w77.trans (hk15.trans w93.symm)) (by first | exact hI | exact TPL_k hd0 C103 C106 (by omega) | (exfalso; omega)) (by first | exact hI | exact SCL_k hd1 hM (fun j _ => C95 j) (fun j _ => C96 j) (fun j _ _ => C104 j) | (exfalso; omega)) (by first | exact hI | exact SCL_k hd2 hM2 (fun j _ => C97 j) (fun j _ => C98 j) (fun j _ _ => C105 j) | (exfalso; omega)) (by first | exact hI | exact QRL_k hd3 hM (fun j _ => C99 j) (C104 1) (fun j _ _ => C104 j) | (exfalso; omega)) (by first | exact hI | exact QRL_k hd4 hM2 (fun j _ => C100 j) (C105 1) (fun j _ _ => C105 j) | (exfalso; omega)) (by first | exact hI | exact SDL_k hd5 hM (fun j _ => C101 j) (C104 1) (fun j _ _ => C104 j) (fun j _ _ => C104 j) | (exfalso; omega)) (by first | exact hI | exact SDL_k hd6 hM2 (fun j _ => C102 j) (C105 1) (fun j _ _ => C105 j) (fun j _ _ => C105 j) | (exfalso; omega))
set_option maxRecDepth 20000 in
set_option maxHeartbeats 8000000 in
theorem sp_case28 (L : Nat) (xs : Nat → Int32) (sio : Option Nat) (d : Nat) (Q : Option AV → am_W → Prop) (hLL : L ≤ 3072) (i : Int) (hi : 0 ≤ i ∧ i ≤ 3066) (hil : i ≤ (L : Int) - 6) (dt : Nat → Nat → Int) (hI : InvC dt) (hM : MW (dt 80)) (hM2 : MW (dt 81)) (hk0 : dt 1 0 = dt 80 0) (hk1 : dt 7 3 = dt 80 1) (hk2 : dt 10 3 = dt 80 2) (hk3 : dt 12 3 = dt 80 3) (hk4 : dt 14 3 = dt 80 4) (hk5 : dt 16 3 = dt 80 5) (hk6 : dt 18 0 = dt 81 0) (hk7 : dt 24 3 = dt 81 1) (hk8 : dt 27 3 = dt 81 2) (hk9 : dt 29 3 = dt 81 3) (hk10 : dt 31 3 = dt 81 4) (hk11 : dt 33 3 = dt 81 5) (hk12 : dt 0 2 = dt 79 2) (hk13 : dt 35 1 = dt 79 12) (hk14 : dt 35 2 = dt 79 19) (hk15 : dt 35 3 = dt 79 21) (hd0 : TPL (dt 36) (dt 85) (dt 35 1)) (hd1 : SCL (dt 2) (dt 3) (dt 80)) (hd2 : SCL (dt 19) (dt 20) (dt 81)) (hd3 : QRL (dt 8) (dt 80)) (hd4 : QRL (dt 25) (dt 81)) (hd5 : SDL (dt 9) (dt 80)) (hd6 : SDL (dt 26) (dt 81)) (K : ∀ (dt : Nat → Nat → Int) (hI : InvC dt) (hM : MW (dt 80)) (hM2 : MW (dt 81)) (hk0 : dt 1 0 = dt 80 0) (hk1 : dt 7 3 = dt 80 1) (hk2 : dt 10 3 = dt 80 2) (hk3 : dt 12 3 = dt 80 3) (hk4 : dt 14 3 = dt 80 4) (hk5 : dt 16 3 = dt 80 5) (hk6 : dt 18 0 = dt 81 0) (hk7 : dt 24 3 = dt 81 1) (hk8 : dt 27 3 = dt 81 2) (hk9 : dt 29 3 = dt 81 3) (hk10 : dt 31 3 = dt 81 4) (hk11 : dt 33 3 = dt 81 5) (hk12 : dt 0 2 = dt 79 2) (hk13 : dt 35 1 = dt 79 12) (hk14 : dt 35 2 = dt 79 19) (hk15 : dt 35 3 = dt 79 21) (hd0 : TPL (dt 36) (dt 85) (dt 35 1)) (hd1 : SCL (dt 2) (dt 3) (dt 80)) (hd2 : SCL (dt 19) (dt 20) (dt 81)) (hd3 : QRL (dt 8) (dt 80)) (hd4 : QRL (dt 25) (dt 81)) (hd5 : SDL (dt 9) (dt 80)) (hd6 : SDL (dt 26) (dt 81)), GO (am_XX L xs sio) (d + 39) 267 1435 [some (.inr (.inr (some 3000))), some (.inr (.inr (some 0))), some (.inr (.inr (some 79))), some (.inl i)] [] (SH, dt) Q) : GO (am_XX L xs sio) (d + 39) 267 1254 [some (.inr (.inr (some 3000))), some (.inr (.inr (some 0))), some (.inr (.inr (some 79))), some (.inl i)] [] (SH, dt) Q := by
  have hF : Fr [0, 1, 2, 3, 4, 5, 6, 7, 8, 9, 10, 11, 12, 13, 14, 15, 16, 17, 18, 19, 20, 21, 22, 23, 24, 25, 26, 27, 28, 29, 30, 31, 32, 33, 34, 35, 36, 37, 38, 39, 40, 41, 42, 43, 44, 45, 46, 47, 48, 49, 50, 51, 52, 53, 54, 55, 56, 57, 58, 59, 60, 61, 62, 63, 64, 65, 66, 67, 68, 69, 70, 71, 72, 73, 74, 75, 76, 77, 78, 79, 80, 81, 82, 83, 84, 85, 86, 87, 88, 89, 90, 91, 92, 93, 94, 95, 96, 97, 98, 99, 100, 101, 102, 103, 104] dt dt := Fr_refl
  have hqo := QOC_R hd3 hM hk1
  have hb1_ := hM.1.1
  refine go_toq PM267 (k := 5) (pc' := 1259) (L' := [some (.inr (.inr (some 3000))), some (.inr (.inr (some 0))), some (.inr (.inr (some 79))), some (.inl i)]) (st' := [.inl (i + 1), .inr (.inr (some 3000)), .inr (.inr (some 0))]) (w' := (SH, dt)) rfl ?_
  have r1 := i32_R (xs ((i + 1).toNat))
  refine go_smpq PM267 (L' := [some (.inr (.inr (some 3000))), some (.inr (.inr (some 0))), some (.inr (.inr (some 79))), some (.inl i)]) (st' := [.inl ((xs ((i + 1).toNat)).toInt), .inr (.inr (some 0))]) (w' := (SH, dt)) rfl rfl (s_iald (n := L) (f := fun j => (xs j).toInt) (am_scr hLL) ⟨by omega, by omega⟩) ?_
  refine go_toq PM267 (k := 4) (pc' := 1264) (L' := [some (.inr (.inr (some 3000))), some (.inr (.inr (some 0))), some (.inr (.inr (some 79))), some (.inl i)]) (st' := [.inl (i + 2), .inr (.inr (some 3000)), .inl ((xs ((i + 1).toNat)).toInt), .inr (.inr (some 0))]) (w' := (SH, dt)) rfl ?_
  have r2 := i32_R (xs ((i + 2).toNat))
  refine go_smpq PM267 (L' := [some (.inr (.inr (some 3000))), some (.inr (.inr (some 0))), some (.inr (.inr (some 79))), some (.inl i)]) (st' := [.inl ((xs ((i + 2).toNat)).toInt), .inl ((xs ((i + 1).toNat)).toInt), .inr (.inr (some 0))]) (w' := (SH, dt)) rfl rfl (s_iald (n := L) (f := fun j => (xs j).toInt) (am_scr hLL) ⟨by omega, by omega⟩) ?_
  refine go_callq PM267 PM95 (Q' := _) rfl rfl rfl rfl (sp_X5_curve L xs sio (d + 33) dt hI  ((xs ((i + 1).toNat)).toInt) ⟨by omega, by omega⟩ ((xs ((i + 2).toNat)).toInt) ⟨by omega, by omega⟩ ) ?_
  rintro _ _ ⟨dt4, rfl, hI5, hF6, h3⟩
  refine ⟨rfl, ?_⟩
  have hF7 : Fr [0, 1, 2, 3, 4, 5, 6, 7, 8, 9, 10, 11, 12, 13, 14, 15, 16, 17, 18, 19, 20, 21, 22, 23, 24, 25, 26, 27, 28, 29, 30, 31, 32, 33, 34, 35, 36, 37, 38, 39, 40, 41, 42, 43, 44, 45, 46, 47, 48, 49, 50, 51, 52, 53, 54, 55, 56, 57, 58, 59, 60, 61, 62, 63, 64, 65, 66, 67, 68, 69, 70, 71, 72, 73, 74, 75, 76, 77, 78, 79, 80, 81, 82, 83, 84, 85, 86, 87, 88, 89, 90, 91, 92, 93, 94, 95, 96, 97, 98, 99, 100, 101, 102, 103, 104] dt dt4 := Fr_tr hF hF6 (by decide)
  have hM8 : MW (dt4 80) := MW_fr hM hF6 (by decide)
  have w9 : dt4 1 0 = dt 1 0 := hF6 1 (by decide) 0
  have w10 : dt4 7 3 = dt 7 3 := hF6 7 (by decide) 3
  have w11 : dt4 10 3 = dt 10 3 := hF6 10 (by decide) 3
  have w12 : dt4 12 3 = dt 12 3 := hF6 12 (by decide) 3
  have w13 : dt4 14 3 = dt 14 3 := hF6 14 (by decide) 3
  have w14 : dt4 16 3 = dt 16 3 := hF6 16 (by decide) 3
  have w15 : dt4 18 0 = dt 18 0 := hF6 18 (by decide) 0
  have w16 : dt4 24 3 = dt 24 3 := hF6 24 (by decide) 3
  have w17 : dt4 27 3 = dt 27 3 := hF6 27 (by decide) 3
  have w18 : dt4 29 3 = dt 29 3 := hF6 29 (by decide) 3
  have w19 : dt4 31 3 = dt 31 3 := hF6 31 (by decide) 3
  have w20 : dt4 33 3 = dt 33 3 := hF6 33 (by decide) 3
  have w21 : dt4 0 2 = dt 0 2 := hF6 0 (by decide) 2
  have w22 : dt4 35 1 = dt 35 1 := hF6 35 (by decide) 1
  have w23 : dt4 35 2 = dt 35 2 := hF6 35 (by decide) 2
  have w24 : dt4 35 3 = dt 35 3 := hF6 35 (by decide) 3
  have w25 : dt4 80 0 = dt 80 0 := hF6 80 (by decide) 0
  have w26 : dt4 80 1 = dt 80 1 := hF6 80 (by decide) 1
  have w27 : dt4 80 2 = dt 80 2 := hF6 80 (by decide) 2
  have w28 : dt4 80 3 = dt 80 3 := hF6 80 (by decide) 3
  have w29 : dt4 80 4 = dt 80 4 := hF6 80 (by decide) 4
  have w30 : dt4 80 5 = dt 80 5 := hF6 80 (by decide) 5
  have w31 : dt4 81 0 = dt 81 0 := hF6 81 (by decide) 0
  have w32 : dt4 81 1 = dt 81 1 := hF6 81 (by decide) 1
  have w33 : dt4 81 2 = dt 81 2 := hF6 81 (by decide) 2
  have w34 : dt4 81 3 = dt 81 3 := hF6 81 (by decide) 3
  have w35 : dt4 81 4 = dt 81 4 := hF6 81 (by decide) 4
  have w36 : dt4 81 5 = dt 81 5 := hF6 81 (by decide) 5
  have w37 : dt4 79 2 = dt 79 2 := hF6 79 (by decide) 2
  have w38 : dt4 79 12 = dt 79 12 := hF6 79 (by decide) 12
  have w39 : dt4 79 19 = dt 79 19 := hF6 79 (by decide) 19
  have w40 : dt4 79 21 = dt 79 21 := hF6 79 (by decide) 21
  rcases h3 with ⟨v_h3, rfl, h3r, h3⟩
  have M241 : MW (dt4 81) := MW_frk hM2 hF6 (by decide)
  have C42 : ∀ j : Nat, dt4 2 j = dt 2 j := fun j => (hF6 2 (by decide) j).trans ((fun _ => rfl) j)
  have C43 : ∀ j : Nat, dt4 3 j = dt 3 j := fun j => (hF6 3 (by decide) j).trans ((fun _ => rfl) j)
  have C44 : ∀ j : Nat, dt4 19 j = dt 19 j := fun j => (hF6 19 (by decide) j).trans ((fun _ => rfl) j)
  have C45 : ∀ j : Nat, dt4 20 j = dt 20 j := fun j => (hF6 20 (by decide) j).trans ((fun _ => rfl) j)
  have C46 : ∀ j : Nat, dt4 8 j = dt 8 j := fun j => (hF6 8 (by decide) j).trans ((fun _ => rfl) j)
  have C47 : ∀ j : Nat, dt4 25 j = dt 25 j := fun j => (hF6 25 (by decide) j).trans ((fun _ => rfl) j)
  have C48 : ∀ j : Nat, dt4 9 j = dt 9 j := fun j => (hF6 9 (by decide) j).trans ((fun _ => rfl) j)
  have C49 : ∀ j : Nat, dt4 26 j = dt 26 j := fun j => (hF6 26 (by decide) j).trans ((fun _ => rfl) j)
  have C50 : ∀ j : Nat, dt4 36 j = dt 36 j := fun j => (hF6 36 (by decide) j).trans ((fun _ => rfl) j)
  have C51 : ∀ j : Nat, dt4 80 j = dt 80 j := fun j => (hF6 80 (by decide) j).trans ((fun _ => rfl) j)
  have C52 : ∀ j : Nat, dt4 81 j = dt 81 j := fun j => (hF6 81 (by decide) j).trans ((fun _ => rfl) j)
  have C53 : ∀ j : Nat, dt4 85 j = dt 85 j := fun j => (hF6 85 (by decide) j).trans ((fun _ => rfl) j)
  refine go_toq PM267 (k := 6) (pc' := 1274) (L' := [some (.inr (.inr (some 3000))), some (.inr (.inr (some 0))), some (.inr (.inr (some 79))), some (.inl i)]) (st' := [.inl (i + 1), .inr (.inr (some 3000)), .inr (.inr (some 79))]) (w' := (SH, dt4)) rfl ?_
  have r54 := i32_R (xs ((i + 1).toNat))
  refine go_smpq PM267 (L' := [some (.inr (.inr (some 3000))), some (.inr (.inr (some 0))), some (.inr (.inr (some 79))), some (.inl i)]) (st' := [.inl ((xs ((i + 1).toNat)).toInt), .inr (.inr (some 79))]) (w' := (SH, dt4)) rfl rfl (s_iald (n := L) (f := fun j => (xs j).toInt) (am_scr hLL) ⟨by omega, by omega⟩) ?_
  refine go_toq PM267 (k := 4) (pc' := 1279) (L' := [some (.inr (.inr (some 3000))), some (.inr (.inr (some 0))), some (.inr (.inr (some 79))), some (.inl i)]) (st' := [.inl (i + 2), .inr (.inr (some 3000)), .inl ((xs ((i + 1).toNat)).toInt), .inr (.inr (some 79))]) (w' := (SH, dt4)) rfl ?_
  have r55 := i32_R (xs ((i + 2).toNat))
  refine go_smpq PM267 (L' := [some (.inr (.inr (some 3000))), some (.inr (.inr (some 0))), some (.inr (.inr (some 79))), some (.inl i)]) (st' := [.inl ((xs ((i + 2).toNat)).toInt), .inl ((xs ((i + 1).toNat)).toInt), .inr (.inr (some 79))]) (w' := (SH, dt4)) rfl rfl (s_iald (n := L) (f := fun j => (xs j).toInt) (am_scr hLL) ⟨by omega, by omega⟩) ?_
  refine go_callq PM267 PM242 (Q' := _) rfl rfl rfl rfl (sp_X6_curve_k L xs sio (d + 30) dt4 hI5 hM8  ((xs ((i + 1).toNat)).toInt) ⟨by omega, by omega⟩ ((xs ((i + 2).toNat)).toInt) ⟨by omega, by omega⟩ ) ?_
  rintro _ _ ⟨dt57, rfl, hI58, hF59, h56⟩
  refine ⟨rfl, ?_⟩
  have hF60 : Fr [0, 1, 2, 3, 4, 5, 6, 7, 8, 9, 10, 11, 12, 13, 14, 15, 16, 17, 18, 19, 20, 21, 22, 23, 24, 25, 26, 27, 28, 29, 30, 31, 32, 33, 34, 35, 36, 37, 38, 39, 40, 41, 42, 43, 44, 45, 46, 47, 48, 49, 50, 51, 52, 53, 54, 55, 56, 57, 58, 59, 60, 61, 62, 63, 64, 65, 66, 67, 68, 69, 70, 71, 72, 73, 74, 75, 76, 77, 78, 79, 80, 81, 82, 83, 84, 85, 86, 87, 88, 89, 90, 91, 92, 93, 94, 95, 96, 97, 98, 99, 100, 101, 102, 103, 104] dt dt57 := Fr_tr hF7 hF59 (by decide)
  have hM61 : MW (dt57 80) := MW_fr hM8 hF59 (by decide)
  have w62 : dt57 1 0 = dt 1 0 := (hF59 1 (by decide) 0).trans w9
  have w63 : dt57 7 3 = dt 7 3 := (hF59 7 (by decide) 3).trans w10
  have w64 : dt57 10 3 = dt 10 3 := (hF59 10 (by decide) 3).trans w11
  have w65 : dt57 12 3 = dt 12 3 := (hF59 12 (by decide) 3).trans w12
  have w66 : dt57 14 3 = dt 14 3 := (hF59 14 (by decide) 3).trans w13
  have w67 : dt57 16 3 = dt 16 3 := (hF59 16 (by decide) 3).trans w14
  have w68 : dt57 18 0 = dt 18 0 := (hF59 18 (by decide) 0).trans w15
  have w69 : dt57 24 3 = dt 24 3 := (hF59 24 (by decide) 3).trans w16
  have w70 : dt57 27 3 = dt 27 3 := (hF59 27 (by decide) 3).trans w17
  have w71 : dt57 29 3 = dt 29 3 := (hF59 29 (by decide) 3).trans w18
  have w72 : dt57 31 3 = dt 31 3 := (hF59 31 (by decide) 3).trans w19
  have w73 : dt57 33 3 = dt 33 3 := (hF59 33 (by decide) 3).trans w20
  have w74 : dt57 0 2 = dt 0 2 := (hF59 0 (by decide) 2).trans w21
  have w75 : dt57 35 1 = dt 35 1 := (hF59 35 (by decide) 1).trans w22
  have w76 : dt57 35 2 = dt 35 2 := (hF59 35 (by decide) 2).trans w23
  have w77 : dt57 35 3 = dt 35 3 := (hF59 35 (by decide) 3).trans w24
  have w78 : dt57 80 0 = dt 80 0 := (hF59 80 (by decide) 0).trans w25
  have w79 : dt57 80 1 = dt 80 1 := (hF59 80 (by decide) 1).trans w26
  have w80 : dt57 80 2 = dt 80 2 := (hF59 80 (by decide) 2).trans w27
  have w81 : dt57 80 3 = dt 80 3 := (hF59 80 (by decide) 3).trans w28
  have w82 : dt57 80 4 = dt 80 4 := (hF59 80 (by decide) 4).trans w29
  have w83 : dt57 80 5 = dt 80 5 := (hF59 80 (by decide) 5).trans w30
  have w84 : dt57 81 0 = dt 81 0 := (hF59 81 (by decide) 0).trans w31
  have w85 : dt57 81 1 = dt 81 1 := (hF59 81 (by decide) 1).trans w32
  have w86 : dt57 81 2 = dt 81 2 := (hF59 81 (by decide) 2).trans w33
  have w87 : dt57 81 3 = dt 81 3 := (hF59 81 (by decide) 3).trans w34
  have w88 : dt57 81 4 = dt 81 4 := (hF59 81 (by decide) 4).trans w35
  have w89 : dt57 81 5 = dt 81 5 := (hF59 81 (by decide) 5).trans w36
  rcases h56 with ⟨v_h56, rfl, h56r, h56⟩
  obtain ⟨h56_0, h56_1, h56_2, h56_3⟩ := h56
  have w90 : dt57 79 2 = dt 79 2 := h56_0.trans w37
  have w91 : dt57 79 12 = dt 79 12 := h56_1.trans w38
  have w92 : dt57 79 19 = dt 79 19 := h56_2.trans w39
  have w93 : dt57 79 21 = dt 79 21 := h56_3.trans w40
  have M294 : MW (dt57 81) := MW_frk M241 hF59 (by decide)
  have C95 : ∀ j : Nat, dt57 2 j = dt 2 j := fun j => (hF59 2 (by decide) j).trans (C42 j)
  have C96 : ∀ j : Nat, dt57 3 j = dt 3 j := fun j => (hF59 3 (by decide) j).trans (C43 j)
  have C97 : ∀ j : Nat, dt57 19 j = dt 19 j := fun j => (hF59 19 (by decide) j).trans (C44 j)
  have C98 : ∀ j : Nat, dt57 20 j = dt 20 j := fun j => (hF59 20 (by decide) j).trans (C45 j)
  have C99 : ∀ j : Nat, dt57 8 j = dt 8 j := fun j => (hF59 8 (by decide) j).trans (C46 j)
  have C100 : ∀ j : Nat, dt57 25 j = dt 25 j := fun j => (hF59 25 (by decide) j).trans (C47 j)
  have C101 : ∀ j : Nat, dt57 9 j = dt 9 j := fun j => (hF59 9 (by decide) j).trans (C48 j)
  have C102 : ∀ j : Nat, dt57 26 j = dt 26 j := fun j => (hF59 26 (by decide) j).trans (C49 j)
  have C103 : ∀ j : Nat, dt57 36 j = dt 36 j := fun j => (hF59 36 (by decide) j).trans (C50 j)
  have C104 : ∀ j : Nat, dt57 80 j = dt 80 j := fun j => (hF59 80 (by decide) j).trans (C51 j)
  have C105 : ∀ j : Nat, dt57 81 j = dt 81 j := fun j => (hF59 81 (by decide) j).trans (C52 j)
  have C106 : ∀ j : Nat, dt57 85 j = dt 85 j := fun j => (hF59 85 (by decide) j).trans (C53 j)
  refine go_toq PM267 (k := 2) (pc' := 1435) (L' := [some (.inr (.inr (some 3000))), some (.inr (.inr (some 0))), some (.inr (.inr (some 79))), some (.inl i)]) (st' := []) (w' := (SH, dt57)) rfl ?_
  exact K dt57 hI58 hM61 M294 (w62.trans (hk0.trans w78.symm)) (w63.trans (hk1.trans w79.symm)) (w64.trans (hk2.trans w80.symm)) (w65.trans (hk3.trans w81.symm)) (w66.trans (hk4.trans w82.symm)) (w67.trans (hk5.trans w83.symm)) (w68.trans (hk6.trans w84.symm)) (w69.trans (hk7.trans w85.symm)) (w70.trans (hk8.trans w86.symm)) (w71.trans (hk9.trans w87.symm)) (w72.trans (hk10.trans w88.symm)) (w73.trans (hk11.trans w89.symm)) (w74.trans (hk12.trans w90.symm)) (w75.trans (hk13.trans w91.symm)) (w76.trans (hk14.trans w92.symm)) (w77.trans (hk15.trans w93.symm)) (by first | exact hI | exact TPL_k hd0 C103 C106 (by omega) | (exfalso; omega)) (by first | exact hI | exact SCL_k hd1 hM (fun j _ => C95 j) (fun j _ => C96 j) (fun j _ _ => C104 j) | (exfalso; omega)) (by first | exact hI | exact SCL_k hd2 hM2 (fun j _ => C97 j) (fun j _ => C98 j) (fun j _ _ => C105 j) | (exfalso; omega)) (by first | exact hI | exact QRL_k hd3 hM (fun j _ => C99 j) (C104 1) (fun j _ _ => C104 j) | (exfalso; omega)) (by first | exact hI | exact QRL_k hd4 hM2 (fun j _ => C100 j) (C105 1) (fun j _ _ => C105 j) | (exfalso; omega)) (by first | exact hI | exact SDL_k hd5 hM (fun j _ => C101 j) (C104 1) (fun j _ _ => C104 j) (fun j _ _ => C104 j) | (exfalso; omega)) (by first | exact hI | exact SDL_k hd6 hM2 (fun j _ => C102 j) (C105 1) (fun j _ _ => C105 j) (fun j _ _ => C105 j) | (exfalso; omega))
set_option maxRecDepth 20000 in
set_option maxHeartbeats 8000000 in
theorem sp_case29 (L : Nat) (xs : Nat → Int32) (sio : Option Nat) (d : Nat) (Q : Option AV → am_W → Prop) (hLL : L ≤ 3072) (i : Int) (hi : 0 ≤ i ∧ i ≤ 3066) (hil : i ≤ (L : Int) - 6) (dt : Nat → Nat → Int) (hI : InvC dt) (hM : MW (dt 80)) (hM2 : MW (dt 81)) (hk0 : dt 1 0 = dt 80 0) (hk1 : dt 7 3 = dt 80 1) (hk2 : dt 10 3 = dt 80 2) (hk3 : dt 12 3 = dt 80 3) (hk4 : dt 14 3 = dt 80 4) (hk5 : dt 16 3 = dt 80 5) (hk6 : dt 18 0 = dt 81 0) (hk7 : dt 24 3 = dt 81 1) (hk8 : dt 27 3 = dt 81 2) (hk9 : dt 29 3 = dt 81 3) (hk10 : dt 31 3 = dt 81 4) (hk11 : dt 33 3 = dt 81 5) (hk12 : dt 0 2 = dt 79 2) (hk13 : dt 35 1 = dt 79 12) (hk14 : dt 35 2 = dt 79 19) (hk15 : dt 35 3 = dt 79 21) (hd0 : TPL (dt 36) (dt 85) (dt 35 1)) (hd1 : SCL (dt 2) (dt 3) (dt 80)) (hd2 : SCL (dt 19) (dt 20) (dt 81)) (hd3 : QRL (dt 8) (dt 80)) (hd4 : QRL (dt 25) (dt 81)) (hd5 : SDL (dt 9) (dt 80)) (hd6 : SDL (dt 26) (dt 81)) (K : ∀ (dt : Nat → Nat → Int) (hI : InvC dt) (hM : MW (dt 80)) (hM2 : MW (dt 81)) (hk0 : dt 1 0 = dt 80 0) (hk1 : dt 7 3 = dt 80 1) (hk2 : dt 10 3 = dt 80 2) (hk3 : dt 12 3 = dt 80 3) (hk4 : dt 14 3 = dt 80 4) (hk5 : dt 16 3 = dt 80 5) (hk6 : dt 18 0 = dt 81 0) (hk7 : dt 24 3 = dt 81 1) (hk8 : dt 27 3 = dt 81 2) (hk9 : dt 29 3 = dt 81 3) (hk10 : dt 31 3 = dt 81 4) (hk11 : dt 33 3 = dt 81 5) (hk12 : dt 0 2 = dt 79 2) (hk13 : dt 35 1 = dt 79 12) (hk14 : dt 35 2 = dt 79 19) (hk15 : dt 35 3 = dt 79 21) (hd0 : TPL (dt 36) (dt 85) (dt 35 1)) (hd1 : SCL (dt 2) (dt 3) (dt 80)) (hd2 : SCL (dt 19) (dt 20) (dt 81)) (hd3 : QRL (dt 8) (dt 80)) (hd4 : QRL (dt 25) (dt 81)) (hd5 : SDL (dt 9) (dt 80)) (hd6 : SDL (dt 26) (dt 81)), GO (am_XX L xs sio) (d + 39) 267 1435 [some (.inr (.inr (some 3000))), some (.inr (.inr (some 0))), some (.inr (.inr (some 79))), some (.inl i)] [] (SH, dt) Q) : GO (am_XX L xs sio) (d + 39) 267 1287 [some (.inr (.inr (some 3000))), some (.inr (.inr (some 0))), some (.inr (.inr (some 79))), some (.inl i)] [] (SH, dt) Q := by
  have hF : Fr [0, 1, 2, 3, 4, 5, 6, 7, 8, 9, 10, 11, 12, 13, 14, 15, 16, 17, 18, 19, 20, 21, 22, 23, 24, 25, 26, 27, 28, 29, 30, 31, 32, 33, 34, 35, 36, 37, 38, 39, 40, 41, 42, 43, 44, 45, 46, 47, 48, 49, 50, 51, 52, 53, 54, 55, 56, 57, 58, 59, 60, 61, 62, 63, 64, 65, 66, 67, 68, 69, 70, 71, 72, 73, 74, 75, 76, 77, 78, 79, 80, 81, 82, 83, 84, 85, 86, 87, 88, 89, 90, 91, 92, 93, 94, 95, 96, 97, 98, 99, 100, 101, 102, 103, 104] dt dt := Fr_refl
  have hqo := QOC_R hd3 hM hk1
  have hb1_ := hM.1.1
  refine go_toq PM267 (k := 5) (pc' := 1292) (L' := [some (.inr (.inr (some 3000))), some (.inr (.inr (some 0))), some (.inr (.inr (some 79))), some (.inl i)]) (st' := [.inl (i + 1), .inr (.inr (some 3000)), .inr (.inr (some 0))]) (w' := (SH, dt)) rfl ?_
  have r1 := i32_R (xs ((i + 1).toNat))
  refine go_smpq PM267 (L' := [some (.inr (.inr (some 3000))), some (.inr (.inr (some 0))), some (.inr (.inr (some 79))), some (.inl i)]) (st' := [.inl ((xs ((i + 1).toNat)).toInt), .inr (.inr (some 0))]) (w' := (SH, dt)) rfl rfl (s_iald (n := L) (f := fun j => (xs j).toInt) (am_scr hLL) ⟨by omega, by omega⟩) ?_
  refine go_callq PM267 PM96 (Q' := _) rfl rfl rfl rfl (sp_X5_score L xs sio (d + 32) dt hI  ((xs ((i + 1).toNat)).toInt) ⟨by omega, by omega⟩ ) ?_
  rintro _ _ ⟨dt3, rfl, hI4, hF5, h2⟩
  refine ⟨rfl, ?_⟩
  have hF6 : Fr [0, 1, 2, 3, 4, 5, 6, 7, 8, 9, 10, 11, 12, 13, 14, 15, 16, 17, 18, 19, 20, 21, 22, 23, 24, 25, 26, 27, 28, 29, 30, 31, 32, 33, 34, 35, 36, 37, 38, 39, 40, 41, 42, 43, 44, 45, 46, 47, 48, 49, 50, 51, 52, 53, 54, 55, 56, 57, 58, 59, 60, 61, 62, 63, 64, 65, 66, 67, 68, 69, 70, 71, 72, 73, 74, 75, 76, 77, 78, 79, 80, 81, 82, 83, 84, 85, 86, 87, 88, 89, 90, 91, 92, 93, 94, 95, 96, 97, 98, 99, 100, 101, 102, 103, 104] dt dt3 := Fr_tr hF hF5 (by decide)
  have hM7 : MW (dt3 80) := MW_fr hM hF5 (by decide)
  have w8 : dt3 1 0 = dt 1 0 := hF5 1 (by decide) 0
  have w9 : dt3 7 3 = dt 7 3 := hF5 7 (by decide) 3
  have w10 : dt3 10 3 = dt 10 3 := hF5 10 (by decide) 3
  have w11 : dt3 12 3 = dt 12 3 := hF5 12 (by decide) 3
  have w12 : dt3 14 3 = dt 14 3 := hF5 14 (by decide) 3
  have w13 : dt3 16 3 = dt 16 3 := hF5 16 (by decide) 3
  have w14 : dt3 18 0 = dt 18 0 := hF5 18 (by decide) 0
  have w15 : dt3 24 3 = dt 24 3 := hF5 24 (by decide) 3
  have w16 : dt3 27 3 = dt 27 3 := hF5 27 (by decide) 3
  have w17 : dt3 29 3 = dt 29 3 := hF5 29 (by decide) 3
  have w18 : dt3 31 3 = dt 31 3 := hF5 31 (by decide) 3
  have w19 : dt3 33 3 = dt 33 3 := hF5 33 (by decide) 3
  have w20 : dt3 0 2 = dt 0 2 := hF5 0 (by decide) 2
  have w21 : dt3 35 1 = dt 35 1 := hF5 35 (by decide) 1
  have w22 : dt3 35 2 = dt 35 2 := hF5 35 (by decide) 2
  have w23 : dt3 35 3 = dt 35 3 := hF5 35 (by decide) 3
  have w24 : dt3 80 0 = dt 80 0 := hF5 80 (by decide) 0
  have w25 : dt3 80 1 = dt 80 1 := hF5 80 (by decide) 1
  have w26 : dt3 80 2 = dt 80 2 := hF5 80 (by decide) 2
  have w27 : dt3 80 3 = dt 80 3 := hF5 80 (by decide) 3
  have w28 : dt3 80 4 = dt 80 4 := hF5 80 (by decide) 4
  have w29 : dt3 80 5 = dt 80 5 := hF5 80 (by decide) 5
  have w30 : dt3 81 0 = dt 81 0 := hF5 81 (by decide) 0
  have w31 : dt3 81 1 = dt 81 1 := hF5 81 (by decide) 1
  have w32 : dt3 81 2 = dt 81 2 := hF5 81 (by decide) 2
  have w33 : dt3 81 3 = dt 81 3 := hF5 81 (by decide) 3
  have w34 : dt3 81 4 = dt 81 4 := hF5 81 (by decide) 4
  have w35 : dt3 81 5 = dt 81 5 := hF5 81 (by decide) 5
  have w36 : dt3 79 2 = dt 79 2 := hF5 79 (by decide) 2
  have w37 : dt3 79 12 = dt 79 12 := hF5 79 (by decide) 12
  have w38 : dt3 79 19 = dt 79 19 := hF5 79 (by decide) 19
  have w39 : dt3 79 21 = dt 79 21 := hF5 79 (by decide) 21
  rcases h2 with ⟨v_h2, rfl, h2r, h2⟩
  have M240 : MW (dt3 81) := MW_frk hM2 hF5 (by decide)
  have C41 : ∀ j : Nat, dt3 2 j = dt 2 j := fun j => (hF5 2 (by decide) j).trans ((fun _ => rfl) j)
  have C42 : ∀ j : Nat, dt3 3 j = dt 3 j := fun j => (hF5 3 (by decide) j).trans ((fun _ => rfl) j)
  have C43 : ∀ j : Nat, dt3 19 j = dt 19 j := fun j => (hF5 19 (by decide) j).trans ((fun _ => rfl) j)
  have C44 : ∀ j : Nat, dt3 20 j = dt 20 j := fun j => (hF5 20 (by decide) j).trans ((fun _ => rfl) j)
  have C45 : ∀ j : Nat, dt3 8 j = dt 8 j := fun j => (hF5 8 (by decide) j).trans ((fun _ => rfl) j)
  have C46 : ∀ j : Nat, dt3 25 j = dt 25 j := fun j => (hF5 25 (by decide) j).trans ((fun _ => rfl) j)
  have C47 : ∀ j : Nat, dt3 9 j = dt 9 j := fun j => (hF5 9 (by decide) j).trans ((fun _ => rfl) j)
  have C48 : ∀ j : Nat, dt3 26 j = dt 26 j := fun j => (hF5 26 (by decide) j).trans ((fun _ => rfl) j)
  have C49 : ∀ j : Nat, dt3 36 j = dt 36 j := fun j => (hF5 36 (by decide) j).trans ((fun _ => rfl) j)
  have C50 : ∀ j : Nat, dt3 80 j = dt 80 j := fun j => (hF5 80 (by decide) j).trans ((fun _ => rfl) j)
  have C51 : ∀ j : Nat, dt3 81 j = dt 81 j := fun j => (hF5 81 (by decide) j).trans ((fun _ => rfl) j)
  have C52 : ∀ j : Nat, dt3 85 j = dt 85 j := fun j => (hF5 85 (by decide) j).trans ((fun _ => rfl) j)
  refine go_toq PM267 (k := 6) (pc' := 1302) (L' := [some (.inr (.inr (some 3000))), some (.inr (.inr (some 0))), some (.inr (.inr (some 79))), some (.inl i)]) (st' := [.inl (i + 1), .inr (.inr (some 3000)), .inr (.inr (some 79))]) (w' := (SH, dt3)) rfl ?_
  have r53 := i32_R (xs ((i + 1).toNat))
  refine go_smpq PM267 (L' := [some (.inr (.inr (some 3000))), some (.inr (.inr (some 0))), some (.inr (.inr (some 79))), some (.inl i)]) (st' := [.inl ((xs ((i + 1).toNat)).toInt), .inr (.inr (some 79))]) (w' := (SH, dt3)) rfl rfl (s_iald (n := L) (f := fun j => (xs j).toInt) (am_scr hLL) ⟨by omega, by omega⟩) ?_
  refine go_callq PM267 PM245 (Q' := _) rfl rfl rfl rfl (sp_X6_score L xs sio (d + 30) dt3 hI4 hM7  ((xs ((i + 1).toNat)).toInt) ⟨by omega, by omega⟩ ) ?_
  rintro _ _ ⟨dt55, rfl, hI56, hF57, h54⟩
  refine ⟨rfl, ?_⟩
  have hF58 : Fr [0, 1, 2, 3, 4, 5, 6, 7, 8, 9, 10, 11, 12, 13, 14, 15, 16, 17, 18, 19, 20, 21, 22, 23, 24, 25, 26, 27, 28, 29, 30, 31, 32, 33, 34, 35, 36, 37, 38, 39, 40, 41, 42, 43, 44, 45, 46, 47, 48, 49, 50, 51, 52, 53, 54, 55, 56, 57, 58, 59, 60, 61, 62, 63, 64, 65, 66, 67, 68, 69, 70, 71, 72, 73, 74, 75, 76, 77, 78, 79, 80, 81, 82, 83, 84, 85, 86, 87, 88, 89, 90, 91, 92, 93, 94, 95, 96, 97, 98, 99, 100, 101, 102, 103, 104] dt dt55 := Fr_tr hF6 hF57 (by decide)
  have hM59 : MW (dt55 80) := MW_fr hM7 hF57 (by decide)
  have w60 : dt55 1 0 = dt 1 0 := (hF57 1 (by decide) 0).trans w8
  have w61 : dt55 7 3 = dt 7 3 := (hF57 7 (by decide) 3).trans w9
  have w62 : dt55 10 3 = dt 10 3 := (hF57 10 (by decide) 3).trans w10
  have w63 : dt55 12 3 = dt 12 3 := (hF57 12 (by decide) 3).trans w11
  have w64 : dt55 14 3 = dt 14 3 := (hF57 14 (by decide) 3).trans w12
  have w65 : dt55 16 3 = dt 16 3 := (hF57 16 (by decide) 3).trans w13
  have w66 : dt55 18 0 = dt 18 0 := (hF57 18 (by decide) 0).trans w14
  have w67 : dt55 24 3 = dt 24 3 := (hF57 24 (by decide) 3).trans w15
  have w68 : dt55 27 3 = dt 27 3 := (hF57 27 (by decide) 3).trans w16
  have w69 : dt55 29 3 = dt 29 3 := (hF57 29 (by decide) 3).trans w17
  have w70 : dt55 31 3 = dt 31 3 := (hF57 31 (by decide) 3).trans w18
  have w71 : dt55 33 3 = dt 33 3 := (hF57 33 (by decide) 3).trans w19
  have w72 : dt55 0 2 = dt 0 2 := (hF57 0 (by decide) 2).trans w20
  have w73 : dt55 35 1 = dt 35 1 := (hF57 35 (by decide) 1).trans w21
  have w74 : dt55 35 2 = dt 35 2 := (hF57 35 (by decide) 2).trans w22
  have w75 : dt55 35 3 = dt 35 3 := (hF57 35 (by decide) 3).trans w23
  have w76 : dt55 80 0 = dt 80 0 := (hF57 80 (by decide) 0).trans w24
  have w77 : dt55 80 1 = dt 80 1 := (hF57 80 (by decide) 1).trans w25
  have w78 : dt55 80 2 = dt 80 2 := (hF57 80 (by decide) 2).trans w26
  have w79 : dt55 80 3 = dt 80 3 := (hF57 80 (by decide) 3).trans w27
  have w80 : dt55 80 4 = dt 80 4 := (hF57 80 (by decide) 4).trans w28
  have w81 : dt55 80 5 = dt 80 5 := (hF57 80 (by decide) 5).trans w29
  have w82 : dt55 81 0 = dt 81 0 := (hF57 81 (by decide) 0).trans w30
  have w83 : dt55 81 1 = dt 81 1 := (hF57 81 (by decide) 1).trans w31
  have w84 : dt55 81 2 = dt 81 2 := (hF57 81 (by decide) 2).trans w32
  have w85 : dt55 81 3 = dt 81 3 := (hF57 81 (by decide) 3).trans w33
  have w86 : dt55 81 4 = dt 81 4 := (hF57 81 (by decide) 4).trans w34
  have w87 : dt55 81 5 = dt 81 5 := (hF57 81 (by decide) 5).trans w35
  have w88 : dt55 79 2 = dt 79 2 := (hF57 79 (by decide) 2).trans w36
  have w89 : dt55 79 12 = dt 79 12 := (hF57 79 (by decide) 12).trans w37
  have w90 : dt55 79 19 = dt 79 19 := (hF57 79 (by decide) 19).trans w38
  have w91 : dt55 79 21 = dt 79 21 := (hF57 79 (by decide) 21).trans w39
  rcases h54 with ⟨v_h54, rfl, h54r, h54⟩
  have M292 : MW (dt55 81) := MW_frk M240 hF57 (by decide)
  have C93 : ∀ j : Nat, dt55 2 j = dt 2 j := fun j => (hF57 2 (by decide) j).trans (C41 j)
  have C94 : ∀ j : Nat, dt55 3 j = dt 3 j := fun j => (hF57 3 (by decide) j).trans (C42 j)
  have C95 : ∀ j : Nat, dt55 19 j = dt 19 j := fun j => (hF57 19 (by decide) j).trans (C43 j)
  have C96 : ∀ j : Nat, dt55 20 j = dt 20 j := fun j => (hF57 20 (by decide) j).trans (C44 j)
  have C97 : ∀ j : Nat, dt55 8 j = dt 8 j := fun j => (hF57 8 (by decide) j).trans (C45 j)
  have C98 : ∀ j : Nat, dt55 25 j = dt 25 j := fun j => (hF57 25 (by decide) j).trans (C46 j)
  have C99 : ∀ j : Nat, dt55 9 j = dt 9 j := fun j => (hF57 9 (by decide) j).trans (C47 j)
  have C100 : ∀ j : Nat, dt55 26 j = dt 26 j := fun j => (hF57 26 (by decide) j).trans (C48 j)
  have C101 : ∀ j : Nat, dt55 36 j = dt 36 j := fun j => (hF57 36 (by decide) j).trans (C49 j)
  have C102 : ∀ j : Nat, dt55 80 j = dt 80 j := fun j => (hF57 80 (by decide) j).trans (C50 j)
  have C103 : ∀ j : Nat, dt55 81 j = dt 81 j := fun j => (hF57 81 (by decide) j).trans (C51 j)
  have C104 : ∀ j : Nat, dt55 85 j = dt 85 j := fun j => (hF57 85 (by decide) j).trans (C52 j)
  refine go_toq PM267 (k := 2) (pc' := 1435) (L' := [some (.inr (.inr (some 3000))), some (.inr (.inr (some 0))), some (.inr (.inr (some 79))), some (.inl i)]) (st' := []) (w' := (SH, dt55)) rfl ?_
  exact K dt55 hI56 hM59 M292 (w60.trans (hk0.trans w76.symm)) (w61.trans (hk1.trans w77.symm)) (w62.trans (hk2.trans w78.symm)) (w63.trans (hk3.trans w79.symm)) (w64.trans (hk4.trans w80.symm)) (w65.trans (hk5.trans w81.symm)) (w66.trans (hk6.trans w82.symm)) (w67.trans (hk7.trans w83.symm)) (w68.trans (hk8.trans w84.symm)) (w69.trans (hk9.trans w85.symm)) (w70.trans (hk10.trans w86.symm)) (w71.trans (hk11.trans w87.symm)) (w72.trans (hk12.trans w88.symm)) (w73.trans (hk13.trans w89.symm)) (w74.trans (hk14.trans w90.symm)) (w75.trans (hk15.trans w91.symm)) (by first | exact hI | exact TPL_k hd0 C101 C104 (by omega) | (exfalso; omega)) (by first | exact hI | exact SCL_k hd1 hM (fun j _ => C93 j) (fun j _ => C94 j) (fun j _ _ => C102 j) | (exfalso; omega)) (by first | exact hI | exact SCL_k hd2 hM2 (fun j _ => C95 j) (fun j _ => C96 j) (fun j _ _ => C103 j) | (exfalso; omega)) (by first | exact hI | exact QRL_k hd3 hM (fun j _ => C97 j) (C102 1) (fun j _ _ => C102 j) | (exfalso; omega)) (by first | exact hI | exact QRL_k hd4 hM2 (fun j _ => C98 j) (C103 1) (fun j _ _ => C103 j) | (exfalso; omega)) (by first | exact hI | exact SDL_k hd5 hM (fun j _ => C99 j) (C102 1) (fun j _ _ => C102 j) (fun j _ _ => C102 j) | (exfalso; omega)) (by first | exact hI | exact SDL_k hd6 hM2 (fun j _ => C100 j) (C103 1) (fun j _ _ => C103 j) (fun j _ _ => C103 j) | (exfalso; omega))
set_option maxRecDepth 20000 in
set_option maxHeartbeats 8000000 in
theorem sp_case30 (L : Nat) (xs : Nat → Int32) (sio : Option Nat) (d : Nat) (Q : Option AV → am_W → Prop) (hLL : L ≤ 3072) (i : Int) (hi : 0 ≤ i ∧ i ≤ 3066) (hil : i ≤ (L : Int) - 6) (dt : Nat → Nat → Int) (hI : InvC dt) (hM : MW (dt 80)) (hM2 : MW (dt 81)) (hk0 : dt 1 0 = dt 80 0) (hk1 : dt 7 3 = dt 80 1) (hk2 : dt 10 3 = dt 80 2) (hk3 : dt 12 3 = dt 80 3) (hk4 : dt 14 3 = dt 80 4) (hk5 : dt 16 3 = dt 80 5) (hk6 : dt 18 0 = dt 81 0) (hk7 : dt 24 3 = dt 81 1) (hk8 : dt 27 3 = dt 81 2) (hk9 : dt 29 3 = dt 81 3) (hk10 : dt 31 3 = dt 81 4) (hk11 : dt 33 3 = dt 81 5) (hk12 : dt 0 2 = dt 79 2) (hk13 : dt 35 1 = dt 79 12) (hk14 : dt 35 2 = dt 79 19) (hk15 : dt 35 3 = dt 79 21) (hd0 : TPL (dt 36) (dt 85) (dt 35 1)) (hd1 : SCL (dt 2) (dt 3) (dt 80)) (hd2 : SCL (dt 19) (dt 20) (dt 81)) (hd3 : QRL (dt 8) (dt 80)) (hd4 : QRL (dt 25) (dt 81)) (hd5 : SDL (dt 9) (dt 80)) (hd6 : SDL (dt 26) (dt 81)) (K : ∀ (dt : Nat → Nat → Int) (hI : InvC dt) (hM : MW (dt 80)) (hM2 : MW (dt 81)) (hk0 : dt 1 0 = dt 80 0) (hk1 : dt 7 3 = dt 80 1) (hk2 : dt 10 3 = dt 80 2) (hk3 : dt 12 3 = dt 80 3) (hk4 : dt 14 3 = dt 80 4) (hk5 : dt 16 3 = dt 80 5) (hk6 : dt 18 0 = dt 81 0) (hk7 : dt 24 3 = dt 81 1) (hk8 : dt 27 3 = dt 81 2) (hk9 : dt 29 3 = dt 81 3) (hk10 : dt 31 3 = dt 81 4) (hk11 : dt 33 3 = dt 81 5) (hk12 : dt 0 2 = dt 79 2) (hk13 : dt 35 1 = dt 79 12) (hk14 : dt 35 2 = dt 79 19) (hk15 : dt 35 3 = dt 79 21) (hd0 : TPL (dt 36) (dt 85) (dt 35 1)) (hd1 : SCL (dt 2) (dt 3) (dt 80)) (hd2 : SCL (dt 19) (dt 20) (dt 81)) (hd3 : QRL (dt 8) (dt 80)) (hd4 : QRL (dt 25) (dt 81)) (hd5 : SDL (dt 9) (dt 80)) (hd6 : SDL (dt 26) (dt 81)), GO (am_XX L xs sio) (d + 39) 267 1435 [some (.inr (.inr (some 3000))), some (.inr (.inr (some 0))), some (.inr (.inr (some 79))), some (.inl i)] [] (SH, dt) Q) : GO (am_XX L xs sio) (d + 39) 267 1310 [some (.inr (.inr (some 3000))), some (.inr (.inr (some 0))), some (.inr (.inr (some 79))), some (.inl i)] [] (SH, dt) Q := by
  have hF : Fr [0, 1, 2, 3, 4, 5, 6, 7, 8, 9, 10, 11, 12, 13, 14, 15, 16, 17, 18, 19, 20, 21, 22, 23, 24, 25, 26, 27, 28, 29, 30, 31, 32, 33, 34, 35, 36, 37, 38, 39, 40, 41, 42, 43, 44, 45, 46, 47, 48, 49, 50, 51, 52, 53, 54, 55, 56, 57, 58, 59, 60, 61, 62, 63, 64, 65, 66, 67, 68, 69, 70, 71, 72, 73, 74, 75, 76, 77, 78, 79, 80, 81, 82, 83, 84, 85, 86, 87, 88, 89, 90, 91, 92, 93, 94, 95, 96, 97, 98, 99, 100, 101, 102, 103, 104] dt dt := Fr_refl
  have hqo := QOC_R hd3 hM hk1
  have hb1_ := hM.1.1
  refine go_toq PM267 (k := 5) (pc' := 1315) (L' := [some (.inr (.inr (some 3000))), some (.inr (.inr (some 0))), some (.inr (.inr (some 79))), some (.inl i)]) (st' := [.inl (i + 1), .inr (.inr (some 3000)), .inr (.inr (some 0))]) (w' := (SH, dt)) rfl ?_
  have r1 := i32_R (xs ((i + 1).toNat))
  refine go_smpq PM267 (L' := [some (.inr (.inr (some 3000))), some (.inr (.inr (some 0))), some (.inr (.inr (some 79))), some (.inl i)]) (st' := [.inl ((xs ((i + 1).toNat)).toInt), .inr (.inr (some 0))]) (w' := (SH, dt)) rfl rfl (s_iald (n := L) (f := fun j => (xs j).toInt) (am_scr hLL) ⟨by omega, by omega⟩) ?_
  refine go_toq PM267 (k := 4) (pc' := 1320) (L' := [some (.inr (.inr (some 3000))), some (.inr (.inr (some 0))), some (.inr (.inr (some 79))), some (.inl i)]) (st' := [.inl (i + 2), .inr (.inr (some 3000)), .inl ((xs ((i + 1).toNat)).toInt), .inr (.inr (some 0))]) (w' := (SH, dt)) rfl ?_
  have r2 := i32_R (xs ((i + 2).toNat))
  refine go_smpq PM267 (L' := [some (.inr (.inr (some 3000))), some (.inr (.inr (some 0))), some (.inr (.inr (some 79))), some (.inl i)]) (st' := [.inl ((xs ((i + 2).toNat)).toInt), .inl ((xs ((i + 1).toNat)).toInt), .inr (.inr (some 0))]) (w' := (SH, dt)) rfl rfl (s_iald (n := L) (f := fun j => (xs j).toInt) (am_scr hLL) ⟨by omega, by omega⟩) ?_
  refine go_toq PM267 (k := 4) (pc' := 1325) (L' := [some (.inr (.inr (some 3000))), some (.inr (.inr (some 0))), some (.inr (.inr (some 79))), some (.inl i)]) (st' := [.inl (i + 3), .inr (.inr (some 3000)), .inl ((xs ((i + 2).toNat)).toInt), .inl ((xs ((i + 1).toNat)).toInt), .inr (.inr (some 0))]) (w' := (SH, dt)) rfl ?_
  have r3 := i32_R (xs ((i + 3).toNat))
  refine go_smpq PM267 (L' := [some (.inr (.inr (some 3000))), some (.inr (.inr (some 0))), some (.inr (.inr (some 79))), some (.inl i)]) (st' := [.inl ((xs ((i + 3).toNat)).toInt), .inl ((xs ((i + 2).toNat)).toInt), .inl ((xs ((i + 1).toNat)).toInt), .inr (.inr (some 0))]) (w' := (SH, dt)) rfl rfl (s_iald (n := L) (f := fun j => (xs j).toInt) (am_scr hLL) ⟨by omega, by omega⟩) ?_
  refine go_toq PM267 (k := 4) (pc' := 1330) (L' := [some (.inr (.inr (some 3000))), some (.inr (.inr (some 0))), some (.inr (.inr (some 79))), some (.inl i)]) (st' := [.inl (i + 4), .inr (.inr (some 3000)), .inl ((xs ((i + 3).toNat)).toInt), .inl ((xs ((i + 2).toNat)).toInt), .inl ((xs ((i + 1).toNat)).toInt), .inr (.inr (some 0))]) (w' := (SH, dt)) rfl ?_
  have r4 := i32_R (xs ((i + 4).toNat))
  refine go_smpq PM267 (L' := [some (.inr (.inr (some 3000))), some (.inr (.inr (some 0))), some (.inr (.inr (some 79))), some (.inl i)]) (st' := [.inl ((xs ((i + 4).toNat)).toInt), .inl ((xs ((i + 3).toNat)).toInt), .inl ((xs ((i + 2).toNat)).toInt), .inl ((xs ((i + 1).toNat)).toInt), .inr (.inr (some 0))]) (w' := (SH, dt)) rfl rfl (s_iald (n := L) (f := fun j => (xs j).toInt) (am_scr hLL) ⟨by omega, by omega⟩) ?_
  refine go_toq PM267 (k := 4) (pc' := 1335) (L' := [some (.inr (.inr (some 3000))), some (.inr (.inr (some 0))), some (.inr (.inr (some 79))), some (.inl i)]) (st' := [.inl (i + 5), .inr (.inr (some 3000)), .inl ((xs ((i + 4).toNat)).toInt), .inl ((xs ((i + 3).toNat)).toInt), .inl ((xs ((i + 2).toNat)).toInt), .inl ((xs ((i + 1).toNat)).toInt), .inr (.inr (some 0))]) (w' := (SH, dt)) rfl ?_
  have r5 := i32_R (xs ((i + 5).toNat))
  refine go_smpq PM267 (L' := [some (.inr (.inr (some 3000))), some (.inr (.inr (some 0))), some (.inr (.inr (some 79))), some (.inl i)]) (st' := [.inl ((xs ((i + 5).toNat)).toInt), .inl ((xs ((i + 4).toNat)).toInt), .inl ((xs ((i + 3).toNat)).toInt), .inl ((xs ((i + 2).toNat)).toInt), .inl ((xs ((i + 1).toNat)).toInt), .inr (.inr (some 0))]) (w' := (SH, dt)) rfl rfl (s_iald (n := L) (f := fun j => (xs j).toInt) (am_scr hLL) ⟨by omega, by omega⟩) ?_
  refine go_callq PM267 PM97 (Q' := _) rfl rfl rfl rfl (sp_X5_next L xs sio (d + 32) dt hI  ((xs ((i + 1).toNat)).toInt) ⟨by omega, by omega⟩ ((xs ((i + 2).toNat)).toInt) ⟨by omega, by omega⟩ ((xs ((i + 3).toNat)).toInt) ⟨by omega, by omega⟩ ((xs ((i + 4).toNat)).toInt) ⟨by omega, by omega⟩ ((xs ((i + 5).toNat)).toInt) ⟨by omega, by omega⟩ ) ?_
  rintro _ _ ⟨dt7, rfl, hI8, hF9, h6⟩
  refine ⟨rfl, ?_⟩
  have hF10 : Fr [0, 1, 2, 3, 4, 5, 6, 7, 8, 9, 10, 11, 12, 13, 14, 15, 16, 17, 18, 19, 20, 21, 22, 23, 24, 25, 26, 27, 28, 29, 30, 31, 32, 33, 34, 35, 36, 37, 38, 39, 40, 41, 42, 43, 44, 45, 46, 47, 48, 49, 50, 51, 52, 53, 54, 55, 56, 57, 58, 59, 60, 61, 62, 63, 64, 65, 66, 67, 68, 69, 70, 71, 72, 73, 74, 75, 76, 77, 78, 79, 80, 81, 82, 83, 84, 85, 86, 87, 88, 89, 90, 91, 92, 93, 94, 95, 96, 97, 98, 99, 100, 101, 102, 103, 104] dt dt7 := Fr_tr hF hF9 (by decide)
  have hM11 : MW (dt7 80) := MW_fr hM hF9 (by decide)
  have w12 : dt7 1 0 = dt 1 0 := hF9 1 (by decide) 0
  have w13 : dt7 7 3 = dt 7 3 := hF9 7 (by decide) 3
  have w14 : dt7 10 3 = dt 10 3 := hF9 10 (by decide) 3
  have w15 : dt7 12 3 = dt 12 3 := hF9 12 (by decide) 3
  have w16 : dt7 14 3 = dt 14 3 := hF9 14 (by decide) 3
  have w17 : dt7 16 3 = dt 16 3 := hF9 16 (by decide) 3
  have w18 : dt7 18 0 = dt 18 0 := hF9 18 (by decide) 0
  have w19 : dt7 24 3 = dt 24 3 := hF9 24 (by decide) 3
  have w20 : dt7 27 3 = dt 27 3 := hF9 27 (by decide) 3
  have w21 : dt7 29 3 = dt 29 3 := hF9 29 (by decide) 3
  have w22 : dt7 31 3 = dt 31 3 := hF9 31 (by decide) 3
  have w23 : dt7 33 3 = dt 33 3 := hF9 33 (by decide) 3
  have w24 : dt7 0 2 = dt 0 2 := hF9 0 (by decide) 2
  have w25 : dt7 35 1 = dt 35 1 := hF9 35 (by decide) 1
  have w26 : dt7 35 2 = dt 35 2 := hF9 35 (by decide) 2
  have w27 : dt7 35 3 = dt 35 3 := hF9 35 (by decide) 3
  have w28 : dt7 80 0 = dt 80 0 := hF9 80 (by decide) 0
  have w29 : dt7 80 1 = dt 80 1 := hF9 80 (by decide) 1
  have w30 : dt7 80 2 = dt 80 2 := hF9 80 (by decide) 2
  have w31 : dt7 80 3 = dt 80 3 := hF9 80 (by decide) 3
  have w32 : dt7 80 4 = dt 80 4 := hF9 80 (by decide) 4
  have w33 : dt7 80 5 = dt 80 5 := hF9 80 (by decide) 5
  have w34 : dt7 81 0 = dt 81 0 := hF9 81 (by decide) 0
  have w35 : dt7 81 1 = dt 81 1 := hF9 81 (by decide) 1
  have w36 : dt7 81 2 = dt 81 2 := hF9 81 (by decide) 2
  have w37 : dt7 81 3 = dt 81 3 := hF9 81 (by decide) 3
  have w38 : dt7 81 4 = dt 81 4 := hF9 81 (by decide) 4
  have w39 : dt7 81 5 = dt 81 5 := hF9 81 (by decide) 5
  have w40 : dt7 79 2 = dt 79 2 := hF9 79 (by decide) 2
  have w41 : dt7 79 12 = dt 79 12 := hF9 79 (by decide) 12
  have w42 : dt7 79 19 = dt 79 19 := hF9 79 (by decide) 19
  have w43 : dt7 79 21 = dt 79 21 := hF9 79 (by decide) 21
  rcases h6 with ⟨v_h6, rfl, h6r, h6⟩
  have M244 : MW (dt7 81) := MW_frk hM2 hF9 (by decide)
  have C45 : ∀ j : Nat, dt7 2 j = dt 2 j := fun j => (hF9 2 (by decide) j).trans ((fun _ => rfl) j)
  have C46 : ∀ j : Nat, dt7 3 j = dt 3 j := fun j => (hF9 3 (by decide) j).trans ((fun _ => rfl) j)
  have C47 : ∀ j : Nat, dt7 19 j = dt 19 j := fun j => (hF9 19 (by decide) j).trans ((fun _ => rfl) j)
  have C48 : ∀ j : Nat, dt7 20 j = dt 20 j := fun j => (hF9 20 (by decide) j).trans ((fun _ => rfl) j)
  have C49 : ∀ j : Nat, dt7 8 j = dt 8 j := fun j => (hF9 8 (by decide) j).trans ((fun _ => rfl) j)
  have C50 : ∀ j : Nat, dt7 25 j = dt 25 j := fun j => (hF9 25 (by decide) j).trans ((fun _ => rfl) j)
  have C51 : ∀ j : Nat, dt7 9 j = dt 9 j := fun j => (hF9 9 (by decide) j).trans ((fun _ => rfl) j)
  have C52 : ∀ j : Nat, dt7 26 j = dt 26 j := fun j => (hF9 26 (by decide) j).trans ((fun _ => rfl) j)
  have C53 : ∀ j : Nat, dt7 36 j = dt 36 j := fun j => (hF9 36 (by decide) j).trans ((fun _ => rfl) j)
  have C54 : ∀ j : Nat, dt7 80 j = dt 80 j := fun j => (hF9 80 (by decide) j).trans ((fun _ => rfl) j)
  have C55 : ∀ j : Nat, dt7 81 j = dt 81 j := fun j => (hF9 81 (by decide) j).trans ((fun _ => rfl) j)
  have C56 : ∀ j : Nat, dt7 85 j = dt 85 j := fun j => (hF9 85 (by decide) j).trans ((fun _ => rfl) j)
  refine go_toq PM267 (k := 6) (pc' := 1345) (L' := [some (.inr (.inr (some 3000))), some (.inr (.inr (some 0))), some (.inr (.inr (some 79))), some (.inl i)]) (st' := [.inl (i + 1), .inr (.inr (some 3000)), .inr (.inr (some 79))]) (w' := (SH, dt7)) rfl ?_
  have r57 := i32_R (xs ((i + 1).toNat))
  refine go_smpq PM267 (L' := [some (.inr (.inr (some 3000))), some (.inr (.inr (some 0))), some (.inr (.inr (some 79))), some (.inl i)]) (st' := [.inl ((xs ((i + 1).toNat)).toInt), .inr (.inr (some 79))]) (w' := (SH, dt7)) rfl rfl (s_iald (n := L) (f := fun j => (xs j).toInt) (am_scr hLL) ⟨by omega, by omega⟩) ?_
  refine go_toq PM267 (k := 4) (pc' := 1350) (L' := [some (.inr (.inr (some 3000))), some (.inr (.inr (some 0))), some (.inr (.inr (some 79))), some (.inl i)]) (st' := [.inl (i + 2), .inr (.inr (some 3000)), .inl ((xs ((i + 1).toNat)).toInt), .inr (.inr (some 79))]) (w' := (SH, dt7)) rfl ?_
  have r58 := i32_R (xs ((i + 2).toNat))
  refine go_smpq PM267 (L' := [some (.inr (.inr (some 3000))), some (.inr (.inr (some 0))), some (.inr (.inr (some 79))), some (.inl i)]) (st' := [.inl ((xs ((i + 2).toNat)).toInt), .inl ((xs ((i + 1).toNat)).toInt), .inr (.inr (some 79))]) (w' := (SH, dt7)) rfl rfl (s_iald (n := L) (f := fun j => (xs j).toInt) (am_scr hLL) ⟨by omega, by omega⟩) ?_
  refine go_toq PM267 (k := 4) (pc' := 1355) (L' := [some (.inr (.inr (some 3000))), some (.inr (.inr (some 0))), some (.inr (.inr (some 79))), some (.inl i)]) (st' := [.inl (i + 3), .inr (.inr (some 3000)), .inl ((xs ((i + 2).toNat)).toInt), .inl ((xs ((i + 1).toNat)).toInt), .inr (.inr (some 79))]) (w' := (SH, dt7)) rfl ?_
  have r59 := i32_R (xs ((i + 3).toNat))
  refine go_smpq PM267 (L' := [some (.inr (.inr (some 3000))), some (.inr (.inr (some 0))), some (.inr (.inr (some 79))), some (.inl i)]) (st' := [.inl ((xs ((i + 3).toNat)).toInt), .inl ((xs ((i + 2).toNat)).toInt), .inl ((xs ((i + 1).toNat)).toInt), .inr (.inr (some 79))]) (w' := (SH, dt7)) rfl rfl (s_iald (n := L) (f := fun j => (xs j).toInt) (am_scr hLL) ⟨by omega, by omega⟩) ?_
  refine go_toq PM267 (k := 4) (pc' := 1360) (L' := [some (.inr (.inr (some 3000))), some (.inr (.inr (some 0))), some (.inr (.inr (some 79))), some (.inl i)]) (st' := [.inl (i + 4), .inr (.inr (some 3000)), .inl ((xs ((i + 3).toNat)).toInt), .inl ((xs ((i + 2).toNat)).toInt), .inl ((xs ((i + 1).toNat)).toInt), .inr (.inr (some 79))]) (w' := (SH, dt7)) rfl ?_
  have r60 := i32_R (xs ((i + 4).toNat))
  refine go_smpq PM267 (L' := [some (.inr (.inr (some 3000))), some (.inr (.inr (some 0))), some (.inr (.inr (some 79))), some (.inl i)]) (st' := [.inl ((xs ((i + 4).toNat)).toInt), .inl ((xs ((i + 3).toNat)).toInt), .inl ((xs ((i + 2).toNat)).toInt), .inl ((xs ((i + 1).toNat)).toInt), .inr (.inr (some 79))]) (w' := (SH, dt7)) rfl rfl (s_iald (n := L) (f := fun j => (xs j).toInt) (am_scr hLL) ⟨by omega, by omega⟩) ?_
  refine go_toq PM267 (k := 4) (pc' := 1365) (L' := [some (.inr (.inr (some 3000))), some (.inr (.inr (some 0))), some (.inr (.inr (some 79))), some (.inl i)]) (st' := [.inl (i + 5), .inr (.inr (some 3000)), .inl ((xs ((i + 4).toNat)).toInt), .inl ((xs ((i + 3).toNat)).toInt), .inl ((xs ((i + 2).toNat)).toInt), .inl ((xs ((i + 1).toNat)).toInt), .inr (.inr (some 79))]) (w' := (SH, dt7)) rfl ?_
  have r61 := i32_R (xs ((i + 5).toNat))
  refine go_smpq PM267 (L' := [some (.inr (.inr (some 3000))), some (.inr (.inr (some 0))), some (.inr (.inr (some 79))), some (.inl i)]) (st' := [.inl ((xs ((i + 5).toNat)).toInt), .inl ((xs ((i + 4).toNat)).toInt), .inl ((xs ((i + 3).toNat)).toInt), .inl ((xs ((i + 2).toNat)).toInt), .inl ((xs ((i + 1).toNat)).toInt), .inr (.inr (some 79))]) (w' := (SH, dt7)) rfl rfl (s_iald (n := L) (f := fun j => (xs j).toInt) (am_scr hLL) ⟨by omega, by omega⟩) ?_
  refine go_callq PM267 PM246 (Q' := _) rfl rfl rfl rfl (sp_X6_next L xs sio (d + 31) dt7 hI8 hM11  ((xs ((i + 1).toNat)).toInt) ⟨by omega, by omega⟩ ((xs ((i + 2).toNat)).toInt) ⟨by omega, by omega⟩ ((xs ((i + 3).toNat)).toInt) ⟨by omega, by omega⟩ ((xs ((i + 4).toNat)).toInt) ⟨by omega, by omega⟩ ((xs ((i + 5).toNat)).toInt) ⟨by omega, by omega⟩ ) ?_
  rintro _ _ ⟨dt63, rfl, hI64, hF65, h62⟩
  refine ⟨rfl, ?_⟩
  have hF66 : Fr [0, 1, 2, 3, 4, 5, 6, 7, 8, 9, 10, 11, 12, 13, 14, 15, 16, 17, 18, 19, 20, 21, 22, 23, 24, 25, 26, 27, 28, 29, 30, 31, 32, 33, 34, 35, 36, 37, 38, 39, 40, 41, 42, 43, 44, 45, 46, 47, 48, 49, 50, 51, 52, 53, 54, 55, 56, 57, 58, 59, 60, 61, 62, 63, 64, 65, 66, 67, 68, 69, 70, 71, 72, 73, 74, 75, 76, 77, 78, 79, 80, 81, 82, 83, 84, 85, 86, 87, 88, 89, 90, 91, 92, 93, 94, 95, 96, 97, 98, 99, 100, 101, 102, 103, 104] dt dt63 := Fr_tr hF10 hF65 (by decide)
  have hM67 : MW (dt63 80) := MW_fr hM11 hF65 (by decide)
  have w68 : dt63 1 0 = dt 1 0 := (hF65 1 (by decide) 0).trans w12
  have w69 : dt63 7 3 = dt 7 3 := (hF65 7 (by decide) 3).trans w13
  have w70 : dt63 10 3 = dt 10 3 := (hF65 10 (by decide) 3).trans w14
  have w71 : dt63 12 3 = dt 12 3 := (hF65 12 (by decide) 3).trans w15
  have w72 : dt63 14 3 = dt 14 3 := (hF65 14 (by decide) 3).trans w16
  have w73 : dt63 16 3 = dt 16 3 := (hF65 16 (by decide) 3).trans w17
  have w74 : dt63 18 0 = dt 18 0 := (hF65 18 (by decide) 0).trans w18
  have w75 : dt63 24 3 = dt 24 3 := (hF65 24 (by decide) 3).trans w19
  have w76 : dt63 27 3 = dt 27 3 := (hF65 27 (by decide) 3).trans w20
  have w77 : dt63 29 3 = dt 29 3 := (hF65 29 (by decide) 3).trans w21
  have w78 : dt63 31 3 = dt 31 3 := (hF65 31 (by decide) 3).trans w22
  have w79 : dt63 33 3 = dt 33 3 := (hF65 33 (by decide) 3).trans w23
  have w80 : dt63 0 2 = dt 0 2 := (hF65 0 (by decide) 2).trans w24
  have w81 : dt63 35 1 = dt 35 1 := (hF65 35 (by decide) 1).trans w25
  have w82 : dt63 35 2 = dt 35 2 := (hF65 35 (by decide) 2).trans w26
  have w83 : dt63 35 3 = dt 35 3 := (hF65 35 (by decide) 3).trans w27
  have w84 : dt63 80 0 = dt 80 0 := (hF65 80 (by decide) 0).trans w28
  have w85 : dt63 80 1 = dt 80 1 := (hF65 80 (by decide) 1).trans w29
  have w86 : dt63 80 2 = dt 80 2 := (hF65 80 (by decide) 2).trans w30
  have w87 : dt63 80 3 = dt 80 3 := (hF65 80 (by decide) 3).trans w31
  have w88 : dt63 80 4 = dt 80 4 := (hF65 80 (by decide) 4).trans w32
  have w89 : dt63 80 5 = dt 80 5 := (hF65 80 (by decide) 5).trans w33
  have w90 : dt63 81 0 = dt 81 0 := (hF65 81 (by decide) 0).trans w34
  have w91 : dt63 81 1 = dt 81 1 := (hF65 81 (by decide) 1).trans w35
  have w92 : dt63 81 2 = dt 81 2 := (hF65 81 (by decide) 2).trans w36
  have w93 : dt63 81 3 = dt 81 3 := (hF65 81 (by decide) 3).trans w37
  have w94 : dt63 81 4 = dt 81 4 := (hF65 81 (by decide) 4).trans w38
  have w95 : dt63 81 5 = dt 81 5 := (hF65 81 (by decide) 5).trans w39
  have w96 : dt63 79 2 = dt 79 2 := (hF65 79 (by decide) 2).trans w40
  have w97 : dt63 79 12 = dt 79 12 := (hF65 79 (by decide) 12).trans w41
  have w98 : dt63 79 19 = dt 79 19 := (hF65 79 (by decide) 19).trans w42
  have w99 : dt63 79 21 = dt 79 21 := (hF65 79 (by decide) 21).trans w43
  rcases h62 with ⟨v_h62, rfl, h62r, h62⟩
  have M2100 : MW (dt63 81) := MW_frk M244 hF65 (by decide)
  have C101 : ∀ j : Nat, dt63 2 j = dt 2 j := fun j => (hF65 2 (by decide) j).trans (C45 j)
  have C102 : ∀ j : Nat, dt63 3 j = dt 3 j := fun j => (hF65 3 (by decide) j).trans (C46 j)
  have C103 : ∀ j : Nat, dt63 19 j = dt 19 j := fun j => (hF65 19 (by decide) j).trans (C47 j)
  have C104 : ∀ j : Nat, dt63 20 j = dt 20 j := fun j => (hF65 20 (by decide) j).trans (C48 j)
  have C105 : ∀ j : Nat, dt63 8 j = dt 8 j := fun j => (hF65 8 (by decide) j).trans (C49 j)
  have C106 : ∀ j : Nat, dt63 25 j = dt 25 j := fun j => (hF65 25 (by decide) j).trans (C50 j)
  have C107 : ∀ j : Nat, dt63 9 j = dt 9 j := fun j => (hF65 9 (by decide) j).trans (C51 j)
  have C108 : ∀ j : Nat, dt63 26 j = dt 26 j := fun j => (hF65 26 (by decide) j).trans (C52 j)
  have C109 : ∀ j : Nat, dt63 36 j = dt 36 j := fun j => (hF65 36 (by decide) j).trans (C53 j)
  have C110 : ∀ j : Nat, dt63 80 j = dt 80 j := fun j => (hF65 80 (by decide) j).trans (C54 j)
  have C111 : ∀ j : Nat, dt63 81 j = dt 81 j := fun j => (hF65 81 (by decide) j).trans (C55 j)
  have C112 : ∀ j : Nat, dt63 85 j = dt 85 j := fun j => (hF65 85 (by decide) j).trans (C56 j)
  refine go_toq PM267 (k := 2) (pc' := 1435) (L' := [some (.inr (.inr (some 3000))), some (.inr (.inr (some 0))), some (.inr (.inr (some 79))), some (.inl i)]) (st' := []) (w' := (SH, dt63)) rfl ?_
  exact K dt63 hI64 hM67 M2100 (w68.trans (hk0.trans w84.symm)) (w69.trans (hk1.trans w85.symm)) (w70.trans (hk2.trans w86.symm)) (w71.trans (hk3.trans w87.symm)) (w72.trans (hk4.trans w88.symm)) (w73.trans (hk5.trans w89.symm)) (w74.trans (hk6.trans w90.symm)) (w75.trans (hk7.trans w91.symm)) (w76.trans (hk8.trans w92.symm)) (w77.trans (hk9.trans w93.symm)) (w78.trans (hk10.trans w94.symm)) (w79.trans (hk11.trans w95.symm)) (w80.trans (hk12.trans w96.symm)) (w81.trans (hk13.trans w97.symm)) (w82.trans (hk14.trans w98.symm)) (w83.trans (hk15.trans w99.symm)) (by first | exact hI | exact TPL_k hd0 C109 C112 (by omega) | (exfalso; omega)) (by first | exact hI | exact SCL_k hd1 hM (fun j _ => C101 j) (fun j _ => C102 j) (fun j _ _ => C110 j) | (exfalso; omega)) (by first | exact hI | exact SCL_k hd2 hM2 (fun j _ => C103 j) (fun j _ => C104 j) (fun j _ _ => C111 j) | (exfalso; omega)) (by first | exact hI | exact QRL_k hd3 hM (fun j _ => C105 j) (C110 1) (fun j _ _ => C110 j) | (exfalso; omega)) (by first | exact hI | exact QRL_k hd4 hM2 (fun j _ => C106 j) (C111 1) (fun j _ _ => C111 j) | (exfalso; omega)) (by first | exact hI | exact SDL_k hd5 hM (fun j _ => C107 j) (C110 1) (fun j _ _ => C110 j) (fun j _ _ => C110 j) | (exfalso; omega)) (by first | exact hI | exact SDL_k hd6 hM2 (fun j _ => C108 j) (C111 1) (fun j _ _ => C111 j) (fun j _ _ => C111 j) | (exfalso; omega))
set_option maxRecDepth 20000 in
set_option maxHeartbeats 8000000 in
theorem sp_case31 (L : Nat) (xs : Nat → Int32) (sio : Option Nat) (d : Nat) (Q : Option AV → am_W → Prop) (hLL : L ≤ 3072) (i : Int) (hi : 0 ≤ i ∧ i ≤ 3066) (hil : i ≤ (L : Int) - 6) (dt : Nat → Nat → Int) (hI : InvC dt) (hM : MW (dt 80)) (hM2 : MW (dt 81)) (hk0 : dt 1 0 = dt 80 0) (hk1 : dt 7 3 = dt 80 1) (hk2 : dt 10 3 = dt 80 2) (hk3 : dt 12 3 = dt 80 3) (hk4 : dt 14 3 = dt 80 4) (hk5 : dt 16 3 = dt 80 5) (hk6 : dt 18 0 = dt 81 0) (hk7 : dt 24 3 = dt 81 1) (hk8 : dt 27 3 = dt 81 2) (hk9 : dt 29 3 = dt 81 3) (hk10 : dt 31 3 = dt 81 4) (hk11 : dt 33 3 = dt 81 5) (hk12 : dt 0 2 = dt 79 2) (hk13 : dt 35 1 = dt 79 12) (hk14 : dt 35 2 = dt 79 19) (hk15 : dt 35 3 = dt 79 21) (hd0 : TPL (dt 36) (dt 85) (dt 35 1)) (hd1 : SCL (dt 2) (dt 3) (dt 80)) (hd2 : SCL (dt 19) (dt 20) (dt 81)) (hd3 : QRL (dt 8) (dt 80)) (hd4 : QRL (dt 25) (dt 81)) (hd5 : SDL (dt 9) (dt 80)) (hd6 : SDL (dt 26) (dt 81)) (K : ∀ (dt : Nat → Nat → Int) (hI : InvC dt) (hM : MW (dt 80)) (hM2 : MW (dt 81)) (hk0 : dt 1 0 = dt 80 0) (hk1 : dt 7 3 = dt 80 1) (hk2 : dt 10 3 = dt 80 2) (hk3 : dt 12 3 = dt 80 3) (hk4 : dt 14 3 = dt 80 4) (hk5 : dt 16 3 = dt 80 5) (hk6 : dt 18 0 = dt 81 0) (hk7 : dt 24 3 = dt 81 1) (hk8 : dt 27 3 = dt 81 2) (hk9 : dt 29 3 = dt 81 3) (hk10 : dt 31 3 = dt 81 4) (hk11 : dt 33 3 = dt 81 5) (hk12 : dt 0 2 = dt 79 2) (hk13 : dt 35 1 = dt 79 12) (hk14 : dt 35 2 = dt 79 19) (hk15 : dt 35 3 = dt 79 21) (hd0 : TPL (dt 36) (dt 85) (dt 35 1)) (hd1 : SCL (dt 2) (dt 3) (dt 80)) (hd2 : SCL (dt 19) (dt 20) (dt 81)) (hd3 : QRL (dt 8) (dt 80)) (hd4 : QRL (dt 25) (dt 81)) (hd5 : SDL (dt 9) (dt 80)) (hd6 : SDL (dt 26) (dt 81)), GO (am_XX L xs sio) (d + 39) 267 1435 [some (.inr (.inr (some 3000))), some (.inr (.inr (some 0))), some (.inr (.inr (some 79))), some (.inl i)] [] (SH, dt) Q) : GO (am_XX L xs sio) (d + 39) 267 1373 [some (.inr (.inr (some 3000))), some (.inr (.inr (some 0))), some (.inr (.inr (some 79))), some (.inl i)] [] (SH, dt) Q := by
  have hF : Fr [0, 1, 2, 3, 4, 5, 6, 7, 8, 9, 10, 11, 12, 13, 14, 15, 16, 17, 18, 19, 20, 21, 22, 23, 24, 25, 26, 27, 28, 29, 30, 31, 32, 33, 34, 35, 36, 37, 38, 39, 40, 41, 42, 43, 44, 45, 46, 47, 48, 49, 50, 51, 52, 53, 54, 55, 56, 57, 58, 59, 60, 61, 62, 63, 64, 65, 66, 67, 68, 69, 70, 71, 72, 73, 74, 75, 76, 77, 78, 79, 80, 81, 82, 83, 84, 85, 86, 87, 88, 89, 90, 91, 92, 93, 94, 95, 96, 97, 98, 99, 100, 101, 102, 103, 104] dt dt := Fr_refl
  have hqo := QOC_R hd3 hM hk1
  have hb1_ := hM.1.1
  refine go_toq PM267 (k := 5) (pc' := 1378) (L' := [some (.inr (.inr (some 3000))), some (.inr (.inr (some 0))), some (.inr (.inr (some 79))), some (.inl i)]) (st' := [.inl (i + 1), .inr (.inr (some 3000)), .inr (.inr (some 0))]) (w' := (SH, dt)) rfl ?_
  have r1 := i32_R (xs ((i + 1).toNat))
  refine go_smpq PM267 (L' := [some (.inr (.inr (some 3000))), some (.inr (.inr (some 0))), some (.inr (.inr (some 79))), some (.inl i)]) (st' := [.inl ((xs ((i + 1).toNat)).toInt), .inr (.inr (some 0))]) (w' := (SH, dt)) rfl rfl (s_iald (n := L) (f := fun j => (xs j).toInt) (am_scr hLL) ⟨by omega, by omega⟩) ?_
  refine go_ifq PM267 (k := 0) (p1 := 1386) (p2 := 1382) (L' := [some (.inr (.inr (some 3000))), some (.inr (.inr (some 0))), some (.inr (.inr (some 79))), some (.inl i)]) (st' := [.inr (.inr (some 0))]) (w' := (SH, dt)) rfl (z_eq (a := (xs ((i + 1).toNat)).toInt) ⟨by omega, by omega⟩) (fun c2 => ?_) (fun c2 => ?_)
  · skip
    refine go_toq PM267 (k := 1) (pc' := 1387) (L' := [some (.inr (.inr (some 3000))), some (.inr (.inr (some 0))), some (.inr (.inr (some 79))), some (.inl i)]) (st' := [.inl 0, .inr (.inr (some 0))]) (w' := (SH, dt)) rfl ?_
    refine go_callq PM267 PM98 (Q' := _) rfl rfl rfl rfl (sp_X5_image_0q L xs sio (d + 35) dt hI   ) ?_
    rintro _ _ ⟨dt4, rfl, hI5, hF6, h3⟩
    refine ⟨rfl, ?_⟩
    have hF7 : Fr [0, 1, 2, 3, 4, 5, 6, 7, 8, 9, 10, 11, 12, 13, 14, 15, 16, 17, 18, 19, 20, 21, 22, 23, 24, 25, 26, 27, 28, 29, 30, 31, 32, 33, 34, 35, 36, 37, 38, 39, 40, 41, 42, 43, 44, 45, 46, 47, 48, 49, 50, 51, 52, 53, 54, 55, 56, 57, 58, 59, 60, 61, 62, 63, 64, 65, 66, 67, 68, 69, 70, 71, 72, 73, 74, 75, 76, 77, 78, 79, 80, 81, 82, 83, 84, 85, 86, 87, 88, 89, 90, 91, 92, 93, 94, 95, 96, 97, 98, 99, 100, 101, 102, 103, 104] dt dt4 := Fr_tr hF hF6 (by decide)
    have hM8 : MW (dt4 80) := MW_fr hM hF6 (by decide)
    have w9 : dt4 18 0 = dt 18 0 := hF6 18 (by decide) 0
    have w10 : dt4 24 3 = dt 24 3 := hF6 24 (by decide) 3
    have w11 : dt4 27 3 = dt 27 3 := hF6 27 (by decide) 3
    have w12 : dt4 29 3 = dt 29 3 := hF6 29 (by decide) 3
    have w13 : dt4 31 3 = dt 31 3 := hF6 31 (by decide) 3
    have w14 : dt4 33 3 = dt 33 3 := hF6 33 (by decide) 3
    have w15 : dt4 0 2 = dt 0 2 := hF6 0 (by decide) 2
    have w16 : dt4 35 1 = dt 35 1 := hF6 35 (by decide) 1
    have w17 : dt4 35 2 = dt 35 2 := hF6 35 (by decide) 2
    have w18 : dt4 35 3 = dt 35 3 := hF6 35 (by decide) 3
    have w19 : dt4 80 0 = dt 80 0 := hF6 80 (by decide) 0
    have w20 : dt4 80 1 = dt 80 1 := hF6 80 (by decide) 1
    have w21 : dt4 80 2 = dt 80 2 := hF6 80 (by decide) 2
    have w22 : dt4 80 3 = dt 80 3 := hF6 80 (by decide) 3
    have w23 : dt4 80 4 = dt 80 4 := hF6 80 (by decide) 4
    have w24 : dt4 80 5 = dt 80 5 := hF6 80 (by decide) 5
    have w25 : dt4 81 0 = dt 81 0 := hF6 81 (by decide) 0
    have w26 : dt4 81 1 = dt 81 1 := hF6 81 (by decide) 1
    have w27 : dt4 81 2 = dt 81 2 := hF6 81 (by decide) 2
    have w28 : dt4 81 3 = dt 81 3 := hF6 81 (by decide) 3
    have w29 : dt4 81 4 = dt 81 4 := hF6 81 (by decide) 4
    have w30 : dt4 81 5 = dt 81 5 := hF6 81 (by decide) 5
    have w31 : dt4 79 2 = dt 79 2 := hF6 79 (by decide) 2
    have w32 : dt4 79 12 = dt 79 12 := hF6 79 (by decide) 12
    have w33 : dt4 79 19 = dt 79 19 := hF6 79 (by decide) 19
    have w34 : dt4 79 21 = dt 79 21 := hF6 79 (by decide) 21
    rcases h3 with ⟨v_h3, rfl, h3r, h3⟩ | ⟨v_h3, rfl, h3r, h3⟩
    · skip
      obtain ⟨h3_0, h3_1, h3_2, h3_3, h3_4, h3_5, h3_6, h3_7, h3_8, h3_9, h3_10, h3_11, h3_12, h3_13, h3_14, h3_15, h3_16, h3_17, h3_18, h3_19, h3_20, h3_21, h3_22⟩ := h3
      have w35 : dt4 18 0 = dt 18 0 := h3_9
      have w36 : dt4 24 3 = dt 24 3 := h3_10
      have w37 : dt4 27 3 = dt 27 3 := h3_11
      have w38 : dt4 29 3 = dt 29 3 := h3_12
      have w39 : dt4 31 3 = dt 31 3 := h3_13
      have w40 : dt4 33 3 = dt 33 3 := h3_14
      have M241 : MW (dt4 81) := MW_frk hM2 hF6 (by decide)
      have C42 : ∀ j : Nat, dt4 19 j = dt 19 j := fun j => (hF6 19 (by decide) j).trans ((fun _ => rfl) j)
      have C43 : ∀ j : Nat, dt4 20 j = dt 20 j := fun j => (hF6 20 (by decide) j).trans ((fun _ => rfl) j)
      have C44 : ∀ j : Nat, dt4 25 j = dt 25 j := fun j => (hF6 25 (by decide) j).trans ((fun _ => rfl) j)
      have C45 : ∀ j : Nat, dt4 26 j = dt 26 j := fun j => (hF6 26 (by decide) j).trans ((fun _ => rfl) j)
      have C46 : ∀ j : Nat, dt4 36 j = dt 36 j := fun j => (hF6 36 (by decide) j).trans ((fun _ => rfl) j)
      have C47 : ∀ j : Nat, dt4 80 j = dt 80 j := fun j => (hF6 80 (by decide) j).trans ((fun _ => rfl) j)
      have C48 : ∀ j : Nat, dt4 81 j = dt 81 j := fun j => (hF6 81 (by decide) j).trans ((fun _ => rfl) j)
      have C49 : ∀ j : Nat, dt4 85 j = dt 85 j := fun j => (hF6 85 (by decide) j).trans ((fun _ => rfl) j)
      refine go_toq PM267 (k := 6) (pc' := 1396) (L' := [some (.inr (.inr (some 3000))), some (.inr (.inr (some 0))), some (.inr (.inr (some 79))), some (.inl i)]) (st' := [.inl (i + 1), .inr (.inr (some 3000)), .inr (.inr (some 79))]) (w' := (SH, dt4)) rfl ?_
      have r50 := i32_R (xs ((i + 1).toNat))
      refine go_smpq PM267 (L' := [some (.inr (.inr (some 3000))), some (.inr (.inr (some 0))), some (.inr (.inr (some 79))), some (.inl i)]) (st' := [.inl ((xs ((i + 1).toNat)).toInt), .inr (.inr (some 79))]) (w' := (SH, dt4)) rfl rfl (s_iald (n := L) (f := fun j => (xs j).toInt) (am_scr hLL) ⟨by omega, by omega⟩) ?_
      refine go_ifq PM267 (k := 0) (p1 := 1404) (p2 := 1400) (L' := [some (.inr (.inr (some 3000))), some (.inr (.inr (some 0))), some (.inr (.inr (some 79))), some (.inl i)]) (st' := [.inr (.inr (some 79))]) (w' := (SH, dt4)) rfl (z_eq (a := (xs ((i + 1).toNat)).toInt) ⟨by omega, by omega⟩) (fun c51 => ?_) (fun c51 => ?_)
      · skip
        refine go_toq PM267 (k := 1) (pc' := 1405) (L' := [some (.inr (.inr (some 3000))), some (.inr (.inr (some 0))), some (.inr (.inr (some 79))), some (.inl i)]) (st' := [.inl 0, .inr (.inr (some 79))]) (w' := (SH, dt4)) rfl ?_
        refine go_callq PM267 PM247 (Q' := _) rfl rfl rfl rfl (sp_X6_image_0v L xs sio (d + 38) dt4 hI5 hM8   (by first | exact True.intro | with_reducible assumption | rfl | omega | trivial | exact M241 | exact hd1 | exact hqo)) ?_
        rintro _ _ ⟨dt53, rfl, hI54, hF55, h52⟩
        refine ⟨rfl, ?_⟩
        have hF56 : Fr [0, 1, 2, 3, 4, 5, 6, 7, 8, 9, 10, 11, 12, 13, 14, 15, 16, 17, 18, 19, 20, 21, 22, 23, 24, 25, 26, 27, 28, 29, 30, 31, 32, 33, 34, 35, 36, 37, 38, 39, 40, 41, 42, 43, 44, 45, 46, 47, 48, 49, 50, 51, 52, 53, 54, 55, 56, 57, 58, 59, 60, 61, 62, 63, 64, 65, 66, 67, 68, 69, 70, 71, 72, 73, 74, 75, 76, 77, 78, 79, 80, 81, 82, 83, 84, 85, 86, 87, 88, 89, 90, 91, 92, 93, 94, 95, 96, 97, 98, 99, 100, 101, 102, 103, 104] dt dt53 := Fr_tr hF7 hF55 (by decide)
        have w57 : dt53 1 0 = dt4 1 0 := hF55 1 (by decide) 0
        have w58 : dt53 7 3 = dt4 7 3 := hF55 7 (by decide) 3
        have w59 : dt53 10 3 = dt4 10 3 := hF55 10 (by decide) 3
        have w60 : dt53 12 3 = dt4 12 3 := hF55 12 (by decide) 3
        have w61 : dt53 14 3 = dt4 14 3 := hF55 14 (by decide) 3
        have w62 : dt53 16 3 = dt4 16 3 := hF55 16 (by decide) 3
        have w63 : dt53 18 0 = dt 18 0 := (hF55 18 (by decide) 0).trans w35
        have w64 : dt53 24 3 = dt 24 3 := (hF55 24 (by decide) 3).trans w36
        have w65 : dt53 27 3 = dt 27 3 := (hF55 27 (by decide) 3).trans w37
        have w66 : dt53 29 3 = dt 29 3 := (hF55 29 (by decide) 3).trans w38
        have w67 : dt53 31 3 = dt 31 3 := (hF55 31 (by decide) 3).trans w39
        have w68 : dt53 33 3 = dt 33 3 := (hF55 33 (by decide) 3).trans w40
        have w69 : dt53 0 2 = dt 0 2 := (hF55 0 (by decide) 2).trans w15
        have w70 : dt53 35 1 = dt 35 1 := (hF55 35 (by decide) 1).trans w16
        have w71 : dt53 35 2 = dt 35 2 := (hF55 35 (by decide) 2).trans w17
        have w72 : dt53 35 3 = dt 35 3 := (hF55 35 (by decide) 3).trans w18
        have w73 : dt53 81 0 = dt 81 0 := (hF55 81 (by decide) 0).trans w25
        have w74 : dt53 81 1 = dt 81 1 := (hF55 81 (by decide) 1).trans w26
        have w75 : dt53 81 2 = dt 81 2 := (hF55 81 (by decide) 2).trans w27
        have w76 : dt53 81 3 = dt 81 3 := (hF55 81 (by decide) 3).trans w28
        have w77 : dt53 81 4 = dt 81 4 := (hF55 81 (by decide) 4).trans w29
        have w78 : dt53 81 5 = dt 81 5 := (hF55 81 (by decide) 5).trans w30
        rcases h52 with ⟨rfl, h52⟩ | ⟨rfl, h52⟩
        · skip
          have hM79 : MW (dt53 80) := h52.2.2.1
          obtain ⟨h52_0, h52_1, h52_2, h52_3, h52_4, h52_5, h52_6, h52_7, h52_8, h52_9, h52_10⟩ := h52
          have w80 : dt53 79 12 = dt 79 12 := h52_8.trans w32
          have w81 : dt53 79 19 = dt 79 19 := h52_9.trans w33
          have w82 : dt53 79 21 = dt 79 21 := h52_10.trans w34
          have M283 : MW (dt53 81) := MW_frk M241 hF55 (by decide)
          have y84 := h52_4 0 (by decide)
          have y85 := h52_4 1 (by decide)
          have y86 := h52_4 2 (by decide)
          have y87 := h52_4 3 (by decide)
          have y88 := h52_4 4 (by decide)
          have y89 := h52_4 5 (by decide)
          have y90 := h52_5 0 (by decide)
          have y91 := h52_5 1 (by decide)
          have y92 := h52_5 2 (by decide)
          have y93 := h52_5 3 (by decide)
          have y94 := h52_5 4 (by decide)
          have y95 := h52_5 5 (by decide)
          have C96 : ∀ j : Nat, dt53 19 j = dt 19 j := fun j => (hF55 19 (by decide) j).trans (C42 j)
          have C97 : ∀ j : Nat, dt53 20 j = dt 20 j := fun j => (hF55 20 (by decide) j).trans (C43 j)
          have C98 : ∀ j : Nat, dt53 25 j = dt 25 j := fun j => (hF55 25 (by decide) j).trans (C44 j)
          have C99 : ∀ j : Nat, dt53 26 j = dt 26 j := fun j => (hF55 26 (by decide) j).trans (C45 j)
          have C100 : ∀ j : Nat, dt53 36 j = dt 36 j := fun j => (hF55 36 (by decide) j).trans (C46 j)
          have C101 : ∀ j : Nat, dt53 81 j = dt 81 j := fun j => (hF55 81 (by decide) j).trans (C48 j)
          have C102 : ∀ j : Nat, dt53 85 j = dt 85 j := fun j => (hF55 85 (by decide) j).trans (C49 j)
          have C103 : ∀ j : Nat, j < 192 → dt53 2 j = dt 19 j := fun j hj => (hF55 2 (by decide) j).trans (h3_15 j hj)
          have C104 : ∀ j : Nat, j < 8 → dt53 3 j = dt 20 j := fun j hj => (hF55 3 (by decide) j).trans (h3_16 j hj)
          have C105 : ∀ j : Nat, j < 192 → dt53 19 j = dt 19 j := fun j hj => (hF55 19 (by decide) j).trans (h3_19 j hj)
          have C106 : ∀ j : Nat, j < 8 → dt53 20 j = dt 20 j := fun j hj => (hF55 20 (by decide) j).trans (h3_20 j hj)
          have C107 : ∀ j : Nat, j < 60 → dt53 8 j = dt 25 j := fun j hj => (hF55 8 (by decide) j).trans (h3_17 j hj)
          have C108 : ∀ j : Nat, j < 60 → dt53 25 j = dt 25 j := fun j hj => (hF55 25 (by decide) j).trans (h3_21 j hj)
          have C109 : ∀ j : Nat, j < 132 → dt53 9 j = dt 26 j := fun j hj => (hF55 9 (by decide) j).trans (h3_18 j hj)
          have C110 : ∀ j : Nat, j < 132 → dt53 26 j = dt 26 j := fun j hj => (hF55 26 (by decide) j).trans (h3_22 j hj)
          have F111 : ∀ j : Nat, j < 7460 → dt53 80 j = dt 80 j := fun j hj => (h52_6 j hj).trans (C47 j)
          have S112 : SCL (dt53 2) (dt53 3) (dt53 80) := by first | exact SCL_k hd2 hM2 C103 C104 (fun j _ h2_ => F111 j (by omega)) | (exfalso; omega)
          have S113 : QRL (dt53 8) (dt53 80) := by first | exact QRL_k hd4 hM2 C107 (F111 1 (by decide)) (fun j _ h2_ => F111 j (by omega)) | (exfalso; omega)
          have S114 : SDL (dt53 9) (dt53 80) := by first | exact SDL_k hd6 hM2 C109 (F111 1 (by decide)) (fun j _ h2_ => F111 j (by omega)) (fun j _ h2_ => F111 j (by omega)) | (exfalso; omega)
          have F115 : ∀ j : Nat, j < 7460 → dt53 81 j = dt 81 j := fun j hj => (h52_7 j hj).trans (C48 j)
          have S116 : SCL (dt53 19) (dt53 20) (dt53 81) := by first | exact SCL_k hd2 hM2 C105 C106 (fun j _ h2_ => F115 j (by omega)) | (exfalso; omega)
          have S117 : QRL (dt53 25) (dt53 81) := by first | exact QRL_k hd4 hM2 C108 (F115 1 (by decide)) (fun j _ h2_ => F115 j (by omega)) | (exfalso; omega)
          have S118 : SDL (dt53 26) (dt53 81) := by first | exact SDL_k hd6 hM2 C110 (F115 1 (by decide)) (fun j _ h2_ => F115 j (by omega)) (fun j _ h2_ => F115 j (by omega)) | (exfalso; omega)
          refine go_toq PM267 (k := 2) (pc' := 1435) (L' := [some (.inr (.inr (some 3000))), some (.inr (.inr (some 0))), some (.inr (.inr (some 79))), some (.inl i)]) (st' := []) (w' := (SH, dt53)) rfl ?_
          exact K dt53 hI54 hM79 M283 (by first | omega | (simp only [*]; done) | simp only [*]) (by omega) (by omega) (by omega) (by omega) (by omega) (w63.trans (hk6.trans w73.symm)) (w64.trans (hk7.trans w74.symm)) (w65.trans (hk8.trans w75.symm)) (w66.trans (hk9.trans w76.symm)) (w67.trans (hk10.trans w77.symm)) (w68.trans (hk11.trans w78.symm)) (by omega) (w70.trans (hk13.trans w80.symm)) (w71.trans (hk14.trans w81.symm)) (w72.trans (hk15.trans w82.symm)) (by first | exact hI | exact TPL_k hd0 C100 C102 (by omega) | (exfalso; omega)) (by first | exact S112 | exact SCL_k hd1 hM hI hI hI | (exfalso; omega)) (by first | exact S116 | exact SCL_k hd2 hM2 (fun j _ => C96 j) (fun j _ => C97 j) (fun j _ _ => C101 j) | (exfalso; omega)) (by first | exact S113 | exact QRL_k hd3 hM hI hI hI | (exfalso; omega)) (by first | exact S117 | exact QRL_k hd4 hM2 (fun j _ => C98 j) (C101 1) (fun j _ _ => C101 j) | (exfalso; omega)) (by first | exact S114 | exact SDL_k hd5 hM hI hI hI hI | (exfalso; omega)) (by first | exact S118 | exact SDL_k hd6 hM2 (fun j _ => C99 j) (C101 1) (fun j _ _ => C101 j) (fun j _ _ => C101 j) | (exfalso; omega))
        · skip
          have hM119 : MW (dt53 80) := h52.2.2.1
          obtain ⟨h52_0, h52_1, h52_2, h52_3, h52_4, h52_5, h52_6, h52_7, h52_8, h52_9, h52_10⟩ := h52
          have w120 : dt53 79 12 = dt 79 12 := h52_8.trans w32
          have w121 : dt53 79 19 = dt 79 19 := h52_9.trans w33
          have w122 : dt53 79 21 = dt 79 21 := h52_10.trans w34
          have M2123 : MW (dt53 81) := MW_frk M241 hF55 (by decide)
          have y124 := h52_4 0 (by decide)
          have y125 := h52_4 1 (by decide)
          have y126 := h52_4 2 (by decide)
          have y127 := h52_4 3 (by decide)
          have y128 := h52_4 4 (by decide)
          have y129 := h52_4 5 (by decide)
          have y130 := h52_5 0 (by decide)
          have y131 := h52_5 1 (by decide)
          have y132 := h52_5 2 (by decide)
          have y133 := h52_5 3 (by decide)
          have y134 := h52_5 4 (by decide)
          have y135 := h52_5 5 (by decide)
          have C136 : ∀ j : Nat, dt53 19 j = dt 19 j := fun j => (hF55 19 (by decide) j).trans (C42 j)
          have C137 : ∀ j : Nat, dt53 20 j = dt 20 j := fun j => (hF55 20 (by decide) j).trans (C43 j)
          have C138 : ∀ j : Nat, dt53 25 j = dt 25 j := fun j => (hF55 25 (by decide) j).trans (C44 j)
          have C139 : ∀ j : Nat, dt53 26 j = dt 26 j := fun j => (hF55 26 (by decide) j).trans (C45 j)
          have C140 : ∀ j : Nat, dt53 36 j = dt 36 j := fun j => (hF55 36 (by decide) j).trans (C46 j)
          have C141 : ∀ j : Nat, dt53 81 j = dt 81 j := fun j => (hF55 81 (by decide) j).trans (C48 j)
          have C142 : ∀ j : Nat, dt53 85 j = dt 85 j := fun j => (hF55 85 (by decide) j).trans (C49 j)
          have C143 : ∀ j : Nat, j < 192 → dt53 2 j = dt 19 j := fun j hj => (hF55 2 (by decide) j).trans (h3_15 j hj)
          have C144 : ∀ j : Nat, j < 8 → dt53 3 j = dt 20 j := fun j hj => (hF55 3 (by decide) j).trans (h3_16 j hj)
          have C145 : ∀ j : Nat, j < 192 → dt53 19 j = dt 19 j := fun j hj => (hF55 19 (by decide) j).trans (h3_19 j hj)
          have C146 : ∀ j : Nat, j < 8 → dt53 20 j = dt 20 j := fun j hj => (hF55 20 (by decide) j).trans (h3_20 j hj)
          have C147 : ∀ j : Nat, j < 60 → dt53 8 j = dt 25 j := fun j hj => (hF55 8 (by decide) j).trans (h3_17 j hj)
          have C148 : ∀ j : Nat, j < 60 → dt53 25 j = dt 25 j := fun j hj => (hF55 25 (by decide) j).trans (h3_21 j hj)
          have C149 : ∀ j : Nat, j < 132 → dt53 9 j = dt 26 j := fun j hj => (hF55 9 (by decide) j).trans (h3_18 j hj)
          have C150 : ∀ j : Nat, j < 132 → dt53 26 j = dt 26 j := fun j hj => (hF55 26 (by decide) j).trans (h3_22 j hj)
          have F151 : ∀ j : Nat, j < 7460 → dt53 80 j = dt 81 j := fun j hj => (h52_6 j hj).trans (C48 j)
          have S152 : SCL (dt53 2) (dt53 3) (dt53 80) := by first | exact SCL_k hd2 hM2 C143 C144 (fun j _ h2_ => F151 j (by omega)) | (exfalso; omega)
          have S153 : QRL (dt53 8) (dt53 80) := by first | exact QRL_k hd4 hM2 C147 (F151 1 (by decide)) (fun j _ h2_ => F151 j (by omega)) | (exfalso; omega)
          have S154 : SDL (dt53 9) (dt53 80) := by first | exact SDL_k hd6 hM2 C149 (F151 1 (by decide)) (fun j _ h2_ => F151 j (by omega)) (fun j _ h2_ => F151 j (by omega)) | (exfalso; omega)
          have F155 : ∀ j : Nat, j < 7460 → dt53 81 j = dt 81 j := fun j hj => (h52_7 j hj).trans (C48 j)
          have S156 : SCL (dt53 19) (dt53 20) (dt53 81) := by first | exact SCL_k hd2 hM2 C145 C146 (fun j _ h2_ => F155 j (by omega)) | (exfalso; omega)
          have S157 : QRL (dt53 25) (dt53 81) := by first | exact QRL_k hd4 hM2 C148 (F155 1 (by decide)) (fun j _ h2_ => F155 j (by omega)) | (exfalso; omega)
          have S158 : SDL (dt53 26) (dt53 81) := by first | exact SDL_k hd6 hM2 C150 (F155 1 (by decide)) (fun j _ h2_ => F155 j (by omega)) (fun j _ h2_ => F155 j (by omega)) | (exfalso; omega)
          refine go_toq PM267 (k := 2) (pc' := 1435) (L' := [some (.inr (.inr (some 3000))), some (.inr (.inr (some 0))), some (.inr (.inr (some 79))), some (.inl i)]) (st' := []) (w' := (SH, dt53)) rfl ?_
          exact K dt53 hI54 hM119 M2123 (by first | omega | (simp only [*]; done) | simp only [*]) (by omega) (by omega) (by omega) (by omega) (by omega) (w63.trans (hk6.trans w73.symm)) (w64.trans (hk7.trans w74.symm)) (w65.trans (hk8.trans w75.symm)) (w66.trans (hk9.trans w76.symm)) (w67.trans (hk10.trans w77.symm)) (w68.trans (hk11.trans w78.symm)) (by omega) (w70.trans (hk13.trans w120.symm)) (w71.trans (hk14.trans w121.symm)) (w72.trans (hk15.trans w122.symm)) (by first | exact hI | exact TPL_k hd0 C140 C142 (by omega) | (exfalso; omega)) (by first | exact S152 | exact SCL_k hd1 hM hI hI hI | (exfalso; omega)) (by first | exact S156 | exact SCL_k hd2 hM2 (fun j _ => C136 j) (fun j _ => C137 j) (fun j _ _ => C141 j) | (exfalso; omega)) (by first | exact S153 | exact QRL_k hd3 hM hI hI hI | (exfalso; omega)) (by first | exact S157 | exact QRL_k hd4 hM2 (fun j _ => C138 j) (C141 1) (fun j _ _ => C141 j) | (exfalso; omega)) (by first | exact S154 | exact SDL_k hd5 hM hI hI hI hI | (exfalso; omega)) (by first | exact S158 | exact SDL_k hd6 hM2 (fun j _ => C139 j) (C141 1) (fun j _ _ => C141 j) (fun j _ _ => C141 j) | (exfalso; omega))
      · skip
        refine go_toq PM267 (k := 2) (pc' := 1405) (L' := [some (.inr (.inr (some 3000))), some (.inr (.inr (some 0))), some (.inr (.inr (some 79))), some (.inl i)]) (st' := [.inl 1, .inr (.inr (some 79))]) (w' := (SH, dt4)) rfl ?_
        refine go_callq PM267 PM247 (Q' := _) rfl rfl rfl rfl (sp_X6_image_1v L xs sio (d + 38) dt4 hI5 hM8   ) ?_
        rintro _ _ ⟨dt160, rfl, hI161, hF162, h159⟩
        refine ⟨rfl, ?_⟩
        have hF163 : Fr [0, 1, 2, 3, 4, 5, 6, 7, 8, 9, 10, 11, 12, 13, 14, 15, 16, 17, 18, 19, 20, 21, 22, 23, 24, 25, 26, 27, 28, 29, 30, 31, 32, 33, 34, 35, 36, 37, 38, 39, 40, 41, 42, 43, 44, 45, 46, 47, 48, 49, 50, 51, 52, 53, 54, 55, 56, 57, 58, 59, 60, 61, 62, 63, 64, 65, 66, 67, 68, 69, 70, 71, 72, 73, 74, 75, 76, 77, 78, 79, 80, 81, 82, 83, 84, 85, 86, 87, 88, 89, 90, 91, 92, 93, 94, 95, 96, 97, 98, 99, 100, 101, 102, 103, 104] dt dt160 := Fr_tr hF7 hF162 (by decide)
        have hM164 : MW (dt160 80) := MW_fr hM8 hF162 (by decide)
        have w165 : dt160 1 0 = dt4 1 0 := hF162 1 (by decide) 0
        have w166 : dt160 7 3 = dt4 7 3 := hF162 7 (by decide) 3
        have w167 : dt160 10 3 = dt4 10 3 := hF162 10 (by decide) 3
        have w168 : dt160 12 3 = dt4 12 3 := hF162 12 (by decide) 3
        have w169 : dt160 14 3 = dt4 14 3 := hF162 14 (by decide) 3
        have w170 : dt160 16 3 = dt4 16 3 := hF162 16 (by decide) 3
        have w171 : dt160 18 0 = dt 18 0 := (hF162 18 (by decide) 0).trans w35
        have w172 : dt160 24 3 = dt 24 3 := (hF162 24 (by decide) 3).trans w36
        have w173 : dt160 27 3 = dt 27 3 := (hF162 27 (by decide) 3).trans w37
        have w174 : dt160 29 3 = dt 29 3 := (hF162 29 (by decide) 3).trans w38
        have w175 : dt160 31 3 = dt 31 3 := (hF162 31 (by decide) 3).trans w39
        have w176 : dt160 33 3 = dt 33 3 := (hF162 33 (by decide) 3).trans w40
        have w177 : dt160 0 2 = dt 0 2 := (hF162 0 (by decide) 2).trans w15
        have w178 : dt160 35 1 = dt 35 1 := (hF162 35 (by decide) 1).trans w16
        have w179 : dt160 35 2 = dt 35 2 := (hF162 35 (by decide) 2).trans w17
        have w180 : dt160 35 3 = dt 35 3 := (hF162 35 (by decide) 3).trans w18
        have w181 : dt160 80 0 = dt 80 0 := (hF162 80 (by decide) 0).trans w19
        have w182 : dt160 80 1 = dt 80 1 := (hF162 80 (by decide) 1).trans w20
        have w183 : dt160 80 2 = dt 80 2 := (hF162 80 (by decide) 2).trans w21
        have w184 : dt160 80 3 = dt 80 3 := (hF162 80 (by decide) 3).trans w22
        have w185 : dt160 80 4 = dt 80 4 := (hF162 80 (by decide) 4).trans w23
        have w186 : dt160 80 5 = dt 80 5 := (hF162 80 (by decide) 5).trans w24
        rcases h159 with ⟨rfl, h159⟩
        have hM187 : MW (dt160 80) := h159.2.1
        obtain ⟨h159_0, h159_1, h159_2, h159_3, h159_4, h159_5, h159_6, h159_7, h159_8, h159_9⟩ := h159
        have w188 : dt160 79 12 = dt 79 12 := h159_7.trans w32
        have w189 : dt160 79 19 = dt 79 19 := h159_8.trans w33
        have w190 : dt160 79 21 = dt 79 21 := h159_9.trans w34
        have y191 := h159_3 0 (by decide)
        have y192 := h159_3 1 (by decide)
        have y193 := h159_3 2 (by decide)
        have y194 := h159_3 3 (by decide)
        have y195 := h159_3 4 (by decide)
        have y196 := h159_3 5 (by decide)
        have y197 := h159_4 0 (by decide)
        have y198 := h159_4 1 (by decide)
        have y199 := h159_4 2 (by decide)
        have y200 := h159_4 3 (by decide)
        have y201 := h159_4 4 (by decide)
        have y202 := h159_4 5 (by decide)
        have C203 : ∀ j : Nat, dt160 19 j = dt 19 j := fun j => (hF162 19 (by decide) j).trans (C42 j)
        have C204 : ∀ j : Nat, dt160 20 j = dt 20 j := fun j => (hF162 20 (by decide) j).trans (C43 j)
        have C205 : ∀ j : Nat, dt160 25 j = dt 25 j := fun j => (hF162 25 (by decide) j).trans (C44 j)
        have C206 : ∀ j : Nat, dt160 26 j = dt 26 j := fun j => (hF162 26 (by decide) j).trans (C45 j)
        have C207 : ∀ j : Nat, dt160 36 j = dt 36 j := fun j => (hF162 36 (by decide) j).trans (C46 j)
        have C208 : ∀ j : Nat, dt160 80 j = dt 80 j := fun j => (hF162 80 (by decide) j).trans (C47 j)
        have C209 : ∀ j : Nat, dt160 85 j = dt 85 j := fun j => (hF162 85 (by decide) j).trans (C49 j)
        have C210 : ∀ j : Nat, j < 192 → dt160 2 j = dt 19 j := fun j hj => (hF162 2 (by decide) j).trans (h3_15 j hj)
        have C211 : ∀ j : Nat, j < 8 → dt160 3 j = dt 20 j := fun j hj => (hF162 3 (by decide) j).trans (h3_16 j hj)
        have C212 : ∀ j : Nat, j < 192 → dt160 19 j = dt 19 j := fun j hj => (hF162 19 (by decide) j).trans (h3_19 j hj)
        have C213 : ∀ j : Nat, j < 8 → dt160 20 j = dt 20 j := fun j hj => (hF162 20 (by decide) j).trans (h3_20 j hj)
        have C214 : ∀ j : Nat, j < 60 → dt160 8 j = dt 25 j := fun j hj => (hF162 8 (by decide) j).trans (h3_17 j hj)
        have C215 : ∀ j : Nat, j < 60 → dt160 25 j = dt 25 j := fun j hj => (hF162 25 (by decide) j).trans (h3_21 j hj)
        have C216 : ∀ j : Nat, j < 132 → dt160 9 j = dt 26 j := fun j hj => (hF162 9 (by decide) j).trans (h3_18 j hj)
        have C217 : ∀ j : Nat, j < 132 → dt160 26 j = dt 26 j := fun j hj => (hF162 26 (by decide) j).trans (h3_22 j hj)
        have F218 : ∀ j : Nat, j < 7460 → dt160 80 j = dt 80 j := fun j hj => (h159_5 j hj).trans (C47 j)
        have S219 : SCL (dt160 2) (dt160 3) (dt160 80) := by first | exact SCL_k hd2 hM2 C210 C211 (fun j _ h2_ => F218 j (by omega)) | (exfalso; omega)
        have S220 : QRL (dt160 8) (dt160 80) := by first | exact QRL_k hd4 hM2 C214 (F218 1 (by decide)) (fun j _ h2_ => F218 j (by omega)) | (exfalso; omega)
        have S221 : SDL (dt160 9) (dt160 80) := by first | exact SDL_k hd6 hM2 C216 (F218 1 (by decide)) (fun j _ h2_ => F218 j (by omega)) (fun j _ h2_ => F218 j (by omega)) | (exfalso; omega)
        have F222 : ∀ j : Nat, j < 7460 → dt160 81 j = dt 80 j := fun j hj => (h159_6 j hj).trans (C47 j)
        have S223 : SCL (dt160 19) (dt160 20) (dt160 81) := by first | exact SCL_k hd2 hM2 C212 C213 (fun j _ h2_ => F222 j (by omega)) | (exfalso; omega)
        have S224 : QRL (dt160 25) (dt160 81) := by first | exact QRL_k hd4 hM2 C215 (F222 1 (by decide)) (fun j _ h2_ => F222 j (by omega)) | (exfalso; omega)
        have S225 : SDL (dt160 26) (dt160 81) := by first | exact SDL_k hd6 hM2 C217 (F222 1 (by decide)) (fun j _ h2_ => F222 j (by omega)) (fun j _ h2_ => F222 j (by omega)) | (exfalso; omega)
        refine go_toq PM267 (k := 2) (pc' := 1435) (L' := [some (.inr (.inr (some 3000))), some (.inr (.inr (some 0))), some (.inr (.inr (some 79))), some (.inl i)]) (st' := []) (w' := (SH, dt160)) rfl ?_
        exact K dt160 hI161 hM187 h159_2 (by first | omega | (simp only [*]; done) | simp only [*]) (by omega) (by omega) (by omega) (by omega) (by omega) (by omega) (by omega) (by omega) (by omega) (by omega) (by omega) (by omega) (w178.trans (hk13.trans w188.symm)) (w179.trans (hk14.trans w189.symm)) (w180.trans (hk15.trans w190.symm)) (by first | exact hI | exact TPL_k hd0 C207 C209 (by omega) | (exfalso; omega)) (by first | exact S219 | exact SCL_k hd1 hM hI hI (fun j _ _ => C208 j) | (exfalso; omega)) (by first | exact S223 | exact SCL_k hd2 hM2 (fun j _ => C203 j) (fun j _ => C204 j) hI | (exfalso; omega)) (by first | exact S220 | exact QRL_k hd3 hM hI (C208 1) (fun j _ _ => C208 j) | (exfalso; omega)) (by first | exact S224 | exact QRL_k hd4 hM2 (fun j _ => C205 j) hI hI | (exfalso; omega)) (by first | exact S221 | exact SDL_k hd5 hM hI (C208 1) (fun j _ _ => C208 j) (fun j _ _ => C208 j) | (exfalso; omega)) (by first | exact S225 | exact SDL_k hd6 hM2 (fun j _ => C206 j) hI hI hI | (exfalso; omega))
    · skip
      obtain ⟨h3_0, h3_1, h3_2, h3_3, h3_4, h3_5, h3_6, h3_7, h3_8, h3_9, h3_10, h3_11, h3_12, h3_13, h3_14, h3_15, h3_16, h3_17, h3_18, h3_19, h3_20, h3_21, h3_22⟩ := h3
      have w226 : dt4 1 0 = dt 1 0 := h3_3
      have w227 : dt4 7 3 = dt 7 3 := h3_4
      have w228 : dt4 10 3 = dt 10 3 := h3_5
      have w229 : dt4 12 3 = dt 12 3 := h3_6
      have w230 : dt4 14 3 = dt 14 3 := h3_7
      have w231 : dt4 16 3 = dt 16 3 := h3_8
      have w232 : dt4 18 0 = dt 18 0 := h3_9
      have w233 : dt4 24 3 = dt 24 3 := h3_10
      have w234 : dt4 27 3 = dt 27 3 := h3_11
      have w235 : dt4 29 3 = dt 29 3 := h3_12
      have w236 : dt4 31 3 = dt 31 3 := h3_13
      have w237 : dt4 33 3 = dt 33 3 := h3_14
      have M2238 : MW (dt4 81) := MW_frk hM2 hF6 (by decide)
      have C239 : ∀ j : Nat, dt4 19 j = dt 19 j := fun j => (hF6 19 (by decide) j).trans ((fun _ => rfl) j)
      have C240 : ∀ j : Nat, dt4 20 j = dt 20 j := fun j => (hF6 20 (by decide) j).trans ((fun _ => rfl) j)
      have C241 : ∀ j : Nat, dt4 25 j = dt 25 j := fun j => (hF6 25 (by decide) j).trans ((fun _ => rfl) j)
      have C242 : ∀ j : Nat, dt4 26 j = dt 26 j := fun j => (hF6 26 (by decide) j).trans ((fun _ => rfl) j)
      have C243 : ∀ j : Nat, dt4 36 j = dt 36 j := fun j => (hF6 36 (by decide) j).trans ((fun _ => rfl) j)
      have C244 : ∀ j : Nat, dt4 80 j = dt 80 j := fun j => (hF6 80 (by decide) j).trans ((fun _ => rfl) j)
      have C245 : ∀ j : Nat, dt4 81 j = dt 81 j := fun j => (hF6 81 (by decide) j).trans ((fun _ => rfl) j)
      have C246 : ∀ j : Nat, dt4 85 j = dt 85 j := fun j => (hF6 85 (by decide) j).trans ((fun _ => rfl) j)
      refine go_toq PM267 (k := 6) (pc' := 1396) (L' := [some (.inr (.inr (some 3000))), some (.inr (.inr (some 0))), some (.inr (.inr (some 79))), some (.inl i)]) (st' := [.inl (i + 1), .inr (.inr (some 3000)), .inr (.inr (some 79))]) (w' := (SH, dt4)) rfl ?_
      have r247 := i32_R (xs ((i + 1).toNat))
      refine go_smpq PM267 (L' := [some (.inr (.inr (some 3000))), some (.inr (.inr (some 0))), some (.inr (.inr (some 79))), some (.inl i)]) (st' := [.inl ((xs ((i + 1).toNat)).toInt), .inr (.inr (some 79))]) (w' := (SH, dt4)) rfl rfl (s_iald (n := L) (f := fun j => (xs j).toInt) (am_scr hLL) ⟨by omega, by omega⟩) ?_
      refine go_ifq PM267 (k := 0) (p1 := 1404) (p2 := 1400) (L' := [some (.inr (.inr (some 3000))), some (.inr (.inr (some 0))), some (.inr (.inr (some 79))), some (.inl i)]) (st' := [.inr (.inr (some 79))]) (w' := (SH, dt4)) rfl (z_eq (a := (xs ((i + 1).toNat)).toInt) ⟨by omega, by omega⟩) (fun c248 => ?_) (fun c248 => ?_)
      · skip
        refine go_toq PM267 (k := 1) (pc' := 1405) (L' := [some (.inr (.inr (some 3000))), some (.inr (.inr (some 0))), some (.inr (.inr (some 79))), some (.inl i)]) (st' := [.inl 0, .inr (.inr (some 79))]) (w' := (SH, dt4)) rfl ?_
        refine go_callq PM267 PM247 (Q' := _) rfl rfl rfl rfl (sp_X6_image_0v L xs sio (d + 38) dt4 hI5 hM8   (by first | exact True.intro | with_reducible assumption | rfl | omega | trivial | exact M2238 | exact hd1 | exact hqo)) ?_
        rintro _ _ ⟨dt250, rfl, hI251, hF252, h249⟩
        refine ⟨rfl, ?_⟩
        have hF253 : Fr [0, 1, 2, 3, 4, 5, 6, 7, 8, 9, 10, 11, 12, 13, 14, 15, 16, 17, 18, 19, 20, 21, 22, 23, 24, 25, 26, 27, 28, 29, 30, 31, 32, 33, 34, 35, 36, 37, 38, 39, 40, 41, 42, 43, 44, 45, 46, 47, 48, 49, 50, 51, 52, 53, 54, 55, 56, 57, 58, 59, 60, 61, 62, 63, 64, 65, 66, 67, 68, 69, 70, 71, 72, 73, 74, 75, 76, 77, 78, 79, 80, 81, 82, 83, 84, 85, 86, 87, 88, 89, 90, 91, 92, 93, 94, 95, 96, 97, 98, 99, 100, 101, 102, 103, 104] dt dt250 := Fr_tr hF7 hF252 (by decide)
        have w254 : dt250 1 0 = dt 1 0 := (hF252 1 (by decide) 0).trans w226
        have w255 : dt250 7 3 = dt 7 3 := (hF252 7 (by decide) 3).trans w227
        have w256 : dt250 10 3 = dt 10 3 := (hF252 10 (by decide) 3).trans w228
        have w257 : dt250 12 3 = dt 12 3 := (hF252 12 (by decide) 3).trans w229
        have w258 : dt250 14 3 = dt 14 3 := (hF252 14 (by decide) 3).trans w230
        have w259 : dt250 16 3 = dt 16 3 := (hF252 16 (by decide) 3).trans w231
        have w260 : dt250 18 0 = dt 18 0 := (hF252 18 (by decide) 0).trans w232
        have w261 : dt250 24 3 = dt 24 3 := (hF252 24 (by decide) 3).trans w233
        have w262 : dt250 27 3 = dt 27 3 := (hF252 27 (by decide) 3).trans w234
        have w263 : dt250 29 3 = dt 29 3 := (hF252 29 (by decide) 3).trans w235
        have w264 : dt250 31 3 = dt 31 3 := (hF252 31 (by decide) 3).trans w236
        have w265 : dt250 33 3 = dt 33 3 := (hF252 33 (by decide) 3).trans w237
        have w266 : dt250 0 2 = dt 0 2 := (hF252 0 (by decide) 2).trans w15
        have w267 : dt250 35 1 = dt 35 1 := (hF252 35 (by decide) 1).trans w16
        have w268 : dt250 35 2 = dt 35 2 := (hF252 35 (by decide) 2).trans w17
        have w269 : dt250 35 3 = dt 35 3 := (hF252 35 (by decide) 3).trans w18
        have w270 : dt250 81 0 = dt 81 0 := (hF252 81 (by decide) 0).trans w25
        have w271 : dt250 81 1 = dt 81 1 := (hF252 81 (by decide) 1).trans w26
        have w272 : dt250 81 2 = dt 81 2 := (hF252 81 (by decide) 2).trans w27
        have w273 : dt250 81 3 = dt 81 3 := (hF252 81 (by decide) 3).trans w28
        have w274 : dt250 81 4 = dt 81 4 := (hF252 81 (by decide) 4).trans w29
        have w275 : dt250 81 5 = dt 81 5 := (hF252 81 (by decide) 5).trans w30
        rcases h249 with ⟨rfl, h249⟩ | ⟨rfl, h249⟩
        · skip
          have hM276 : MW (dt250 80) := h249.2.2.1
          obtain ⟨h249_0, h249_1, h249_2, h249_3, h249_4, h249_5, h249_6, h249_7, h249_8, h249_9, h249_10⟩ := h249
          have w277 : dt250 79 12 = dt 79 12 := h249_8.trans w32
          have w278 : dt250 79 19 = dt 79 19 := h249_9.trans w33
          have w279 : dt250 79 21 = dt 79 21 := h249_10.trans w34
          have M2280 : MW (dt250 81) := MW_frk M2238 hF252 (by decide)
          have y281 := h249_4 0 (by decide)
          have y282 := h249_4 1 (by decide)
          have y283 := h249_4 2 (by decide)
          have y284 := h249_4 3 (by decide)
          have y285 := h249_4 4 (by decide)
          have y286 := h249_4 5 (by decide)
          have y287 := h249_5 0 (by decide)
          have y288 := h249_5 1 (by decide)
          have y289 := h249_5 2 (by decide)
          have y290 := h249_5 3 (by decide)
          have y291 := h249_5 4 (by decide)
          have y292 := h249_5 5 (by decide)
          have C293 : ∀ j : Nat, dt250 19 j = dt 19 j := fun j => (hF252 19 (by decide) j).trans (C239 j)
          have C294 : ∀ j : Nat, dt250 20 j = dt 20 j := fun j => (hF252 20 (by decide) j).trans (C240 j)
          have C295 : ∀ j : Nat, dt250 25 j = dt 25 j := fun j => (hF252 25 (by decide) j).trans (C241 j)
          have C296 : ∀ j : Nat, dt250 26 j = dt 26 j := fun j => (hF252 26 (by decide) j).trans (C242 j)
          have C297 : ∀ j : Nat, dt250 36 j = dt 36 j := fun j => (hF252 36 (by decide) j).trans (C243 j)
          have C298 : ∀ j : Nat, dt250 81 j = dt 81 j := fun j => (hF252 81 (by decide) j).trans (C245 j)
          have C299 : ∀ j : Nat, dt250 85 j = dt 85 j := fun j => (hF252 85 (by decide) j).trans (C246 j)
          have C300 : ∀ j : Nat, j < 192 → dt250 2 j = dt 2 j := fun j hj => (hF252 2 (by decide) j).trans (h3_15 j hj)
          have C301 : ∀ j : Nat, j < 8 → dt250 3 j = dt 3 j := fun j hj => (hF252 3 (by decide) j).trans (h3_16 j hj)
          have C302 : ∀ j : Nat, j < 192 → dt250 19 j = dt 19 j := fun j hj => (hF252 19 (by decide) j).trans (h3_19 j hj)
          have C303 : ∀ j : Nat, j < 8 → dt250 20 j = dt 20 j := fun j hj => (hF252 20 (by decide) j).trans (h3_20 j hj)
          have C304 : ∀ j : Nat, j < 60 → dt250 8 j = dt 8 j := fun j hj => (hF252 8 (by decide) j).trans (h3_17 j hj)
          have C305 : ∀ j : Nat, j < 60 → dt250 25 j = dt 25 j := fun j hj => (hF252 25 (by decide) j).trans (h3_21 j hj)
          have C306 : ∀ j : Nat, j < 132 → dt250 9 j = dt 9 j := fun j hj => (hF252 9 (by decide) j).trans (h3_18 j hj)
          have C307 : ∀ j : Nat, j < 132 → dt250 26 j = dt 26 j := fun j hj => (hF252 26 (by decide) j).trans (h3_22 j hj)
          have F308 : ∀ j : Nat, j < 7460 → dt250 80 j = dt 80 j := fun j hj => (h249_6 j hj).trans (C244 j)
          have S309 : SCL (dt250 2) (dt250 3) (dt250 80) := by first | exact SCL_k hd1 hM C300 C301 (fun j _ h2_ => F308 j (by omega)) | (exfalso; omega)
          have S310 : QRL (dt250 8) (dt250 80) := by first | exact QRL_k hd3 hM C304 (F308 1 (by decide)) (fun j _ h2_ => F308 j (by omega)) | (exfalso; omega)
          have S311 : SDL (dt250 9) (dt250 80) := by first | exact SDL_k hd5 hM C306 (F308 1 (by decide)) (fun j _ h2_ => F308 j (by omega)) (fun j _ h2_ => F308 j (by omega)) | (exfalso; omega)
          have F312 : ∀ j : Nat, j < 7460 → dt250 81 j = dt 81 j := fun j hj => (h249_7 j hj).trans (C245 j)
          have S313 : SCL (dt250 19) (dt250 20) (dt250 81) := by first | exact SCL_k hd2 hM2 C302 C303 (fun j _ h2_ => F312 j (by omega)) | (exfalso; omega)
          have S314 : QRL (dt250 25) (dt250 81) := by first | exact QRL_k hd4 hM2 C305 (F312 1 (by decide)) (fun j _ h2_ => F312 j (by omega)) | (exfalso; omega)
          have S315 : SDL (dt250 26) (dt250 81) := by first | exact SDL_k hd6 hM2 C307 (F312 1 (by decide)) (fun j _ h2_ => F312 j (by omega)) (fun j _ h2_ => F312 j (by omega)) | (exfalso; omega)
          refine go_toq PM267 (k := 2) (pc' := 1435) (L' := [some (.inr (.inr (some 3000))), some (.inr (.inr (some 0))), some (.inr (.inr (some 79))), some (.inl i)]) (st' := []) (w' := (SH, dt250)) rfl ?_
          exact K dt250 hI251 hM276 M2280 (by first | omega | (simp only [*]; done) | simp only [*]) (by omega) (by omega) (by omega) (by omega) (by omega) (w260.trans (hk6.trans w270.symm)) (w261.trans (hk7.trans w271.symm)) (w262.trans (hk8.trans w272.symm)) (w263.trans (hk9.trans w273.symm)) (w264.trans (hk10.trans w274.symm)) (w265.trans (hk11.trans w275.symm)) (by omega) (w267.trans (hk13.trans w277.symm)) (w268.trans (hk14.trans w278.symm)) (w269.trans (hk15.trans w279.symm)) (by first | exact hI | exact TPL_k hd0 C297 C299 (by omega) | (exfalso; omega)) (by first | exact S309 | exact SCL_k hd1 hM hI hI hI | (exfalso; omega)) (by first | exact S313 | exact SCL_k hd2 hM2 (fun j _ => C293 j) (fun j _ => C294 j) (fun j _ _ => C298 j) | (exfalso; omega)) (by first | exact S310 | exact QRL_k hd3 hM hI hI hI | (exfalso; omega)) (by first | exact S314 | exact QRL_k hd4 hM2 (fun j _ => C295 j) (C298 1) (fun j _ _ => C298 j) | (exfalso; omega)) (by first | exact S311 | exact SDL_k hd5 hM hI hI hI hI | (exfalso; omega)) (by first | exact S315 | exact SDL_k hd6 hM2 (fun j _ => C296 j) (C298 1) (fun j _ _ => C298 j) (fun j _ _ => C298 j) | (exfalso; omega))
        · skip
          have hM316 : MW (dt250 80) := h249.2.2.1
          obtain ⟨h249_0, h249_1, h249_2, h249_3, h249_4, h249_5, h249_6, h249_7, h249_8, h249_9, h249_10⟩ := h249
          have w317 : dt250 79 12 = dt 79 12 := h249_8.trans w32
          have w318 : dt250 79 19 = dt 79 19 := h249_9.trans w33
          have w319 : dt250 79 21 = dt 79 21 := h249_10.trans w34
          have M2320 : MW (dt250 81) := MW_frk M2238 hF252 (by decide)
          have y321 := h249_4 0 (by decide)
          have y322 := h249_4 1 (by decide)
          have y323 := h249_4 2 (by decide)
          have y324 := h249_4 3 (by decide)
          have y325 := h249_4 4 (by decide)
          have y326 := h249_4 5 (by decide)
          have y327 := h249_5 0 (by decide)
          have y328 := h249_5 1 (by decide)
          have y329 := h249_5 2 (by decide)
          have y330 := h249_5 3 (by decide)
          have y331 := h249_5 4 (by decide)
          have y332 := h249_5 5 (by decide)
          have C333 : ∀ j : Nat, dt250 19 j = dt 19 j := fun j => (hF252 19 (by decide) j).trans (C239 j)
          have C334 : ∀ j : Nat, dt250 20 j = dt 20 j := fun j => (hF252 20 (by decide) j).trans (C240 j)
          have C335 : ∀ j : Nat, dt250 25 j = dt 25 j := fun j => (hF252 25 (by decide) j).trans (C241 j)
          have C336 : ∀ j : Nat, dt250 26 j = dt 26 j := fun j => (hF252 26 (by decide) j).trans (C242 j)
          have C337 : ∀ j : Nat, dt250 36 j = dt 36 j := fun j => (hF252 36 (by decide) j).trans (C243 j)
          have C338 : ∀ j : Nat, dt250 81 j = dt 81 j := fun j => (hF252 81 (by decide) j).trans (C245 j)
          have C339 : ∀ j : Nat, dt250 85 j = dt 85 j := fun j => (hF252 85 (by decide) j).trans (C246 j)
          have C340 : ∀ j : Nat, j < 192 → dt250 2 j = dt 2 j := fun j hj => (hF252 2 (by decide) j).trans (h3_15 j hj)
          have C341 : ∀ j : Nat, j < 8 → dt250 3 j = dt 3 j := fun j hj => (hF252 3 (by decide) j).trans (h3_16 j hj)
          have C342 : ∀ j : Nat, j < 192 → dt250 19 j = dt 19 j := fun j hj => (hF252 19 (by decide) j).trans (h3_19 j hj)
          have C343 : ∀ j : Nat, j < 8 → dt250 20 j = dt 20 j := fun j hj => (hF252 20 (by decide) j).trans (h3_20 j hj)
          have C344 : ∀ j : Nat, j < 60 → dt250 8 j = dt 8 j := fun j hj => (hF252 8 (by decide) j).trans (h3_17 j hj)
          have C345 : ∀ j : Nat, j < 60 → dt250 25 j = dt 25 j := fun j hj => (hF252 25 (by decide) j).trans (h3_21 j hj)
          have C346 : ∀ j : Nat, j < 132 → dt250 9 j = dt 9 j := fun j hj => (hF252 9 (by decide) j).trans (h3_18 j hj)
          have C347 : ∀ j : Nat, j < 132 → dt250 26 j = dt 26 j := fun j hj => (hF252 26 (by decide) j).trans (h3_22 j hj)
          have F348 : ∀ j : Nat, j < 7460 → dt250 80 j = dt 81 j := fun j hj => (h249_6 j hj).trans (C245 j)
          have S349 : SCL (dt250 2) (dt250 3) (dt250 80) := by first | exact SCL_k hd1 hM C340 C341 (fun j _ h2_ => F348 j (by omega)) | (exfalso; omega)
          have S350 : QRL (dt250 8) (dt250 80) := by first | exact QRL_k hd3 hM C344 (F348 1 (by decide)) (fun j _ h2_ => F348 j (by omega)) | (exfalso; omega)
          have S351 : SDL (dt250 9) (dt250 80) := by first | exact SDL_k hd5 hM C346 (F348 1 (by decide)) (fun j _ h2_ => F348 j (by omega)) (fun j _ h2_ => F348 j (by omega)) | (exfalso; omega)
          have F352 : ∀ j : Nat, j < 7460 → dt250 81 j = dt 81 j := fun j hj => (h249_7 j hj).trans (C245 j)
          have S353 : SCL (dt250 19) (dt250 20) (dt250 81) := by first | exact SCL_k hd2 hM2 C342 C343 (fun j _ h2_ => F352 j (by omega)) | (exfalso; omega)
          have S354 : QRL (dt250 25) (dt250 81) := by first | exact QRL_k hd4 hM2 C345 (F352 1 (by decide)) (fun j _ h2_ => F352 j (by omega)) | (exfalso; omega)
          have S355 : SDL (dt250 26) (dt250 81) := by first | exact SDL_k hd6 hM2 C347 (F352 1 (by decide)) (fun j _ h2_ => F352 j (by omega)) (fun j _ h2_ => F352 j (by omega)) | (exfalso; omega)
          refine go_toq PM267 (k := 2) (pc' := 1435) (L' := [some (.inr (.inr (some 3000))), some (.inr (.inr (some 0))), some (.inr (.inr (some 79))), some (.inl i)]) (st' := []) (w' := (SH, dt250)) rfl ?_
          exact K dt250 hI251 hM316 M2320 (by first | omega | (simp only [*]; done) | simp only [*]) (by omega) (by omega) (by omega) (by omega) (by omega) (w260.trans (hk6.trans w270.symm)) (w261.trans (hk7.trans w271.symm)) (w262.trans (hk8.trans w272.symm)) (w263.trans (hk9.trans w273.symm)) (w264.trans (hk10.trans w274.symm)) (w265.trans (hk11.trans w275.symm)) (by omega) (w267.trans (hk13.trans w317.symm)) (w268.trans (hk14.trans w318.symm)) (w269.trans (hk15.trans w319.symm)) (by first | exact hI | exact TPL_k hd0 C337 C339 (by omega) | (exfalso; omega)) (by first | exact S349 | exact SCL_k hd1 hM hI hI hI | (exfalso; omega)) (by first | exact S353 | exact SCL_k hd2 hM2 (fun j _ => C333 j) (fun j _ => C334 j) (fun j _ _ => C338 j) | (exfalso; omega)) (by first | exact S350 | exact QRL_k hd3 hM hI hI hI | (exfalso; omega)) (by first | exact S354 | exact QRL_k hd4 hM2 (fun j _ => C335 j) (C338 1) (fun j _ _ => C338 j) | (exfalso; omega)) (by first | exact S351 | exact SDL_k hd5 hM hI hI hI hI | (exfalso; omega)) (by first | exact S355 | exact SDL_k hd6 hM2 (fun j _ => C336 j) (C338 1) (fun j _ _ => C338 j) (fun j _ _ => C338 j) | (exfalso; omega))
      · skip
        refine go_toq PM267 (k := 2) (pc' := 1405) (L' := [some (.inr (.inr (some 3000))), some (.inr (.inr (some 0))), some (.inr (.inr (some 79))), some (.inl i)]) (st' := [.inl 1, .inr (.inr (some 79))]) (w' := (SH, dt4)) rfl ?_
        refine go_callq PM267 PM247 (Q' := _) rfl rfl rfl rfl (sp_X6_image_1v L xs sio (d + 38) dt4 hI5 hM8   ) ?_
        rintro _ _ ⟨dt357, rfl, hI358, hF359, h356⟩
        refine ⟨rfl, ?_⟩
        have hF360 : Fr [0, 1, 2, 3, 4, 5, 6, 7, 8, 9, 10, 11, 12, 13, 14, 15, 16, 17, 18, 19, 20, 21, 22, 23, 24, 25, 26, 27, 28, 29, 30, 31, 32, 33, 34, 35, 36, 37, 38, 39, 40, 41, 42, 43, 44, 45, 46, 47, 48, 49, 50, 51, 52, 53, 54, 55, 56, 57, 58, 59, 60, 61, 62, 63, 64, 65, 66, 67, 68, 69, 70, 71, 72, 73, 74, 75, 76, 77, 78, 79, 80, 81, 82, 83, 84, 85, 86, 87, 88, 89, 90, 91, 92, 93, 94, 95, 96, 97, 98, 99, 100, 101, 102, 103, 104] dt dt357 := Fr_tr hF7 hF359 (by decide)
        have hM361 : MW (dt357 80) := MW_fr hM8 hF359 (by decide)
        have w362 : dt357 1 0 = dt 1 0 := (hF359 1 (by decide) 0).trans w226
        have w363 : dt357 7 3 = dt 7 3 := (hF359 7 (by decide) 3).trans w227
        have w364 : dt357 10 3 = dt 10 3 := (hF359 10 (by decide) 3).trans w228
        have w365 : dt357 12 3 = dt 12 3 := (hF359 12 (by decide) 3).trans w229
        have w366 : dt357 14 3 = dt 14 3 := (hF359 14 (by decide) 3).trans w230
        have w367 : dt357 16 3 = dt 16 3 := (hF359 16 (by decide) 3).trans w231
        have w368 : dt357 18 0 = dt 18 0 := (hF359 18 (by decide) 0).trans w232
        have w369 : dt357 24 3 = dt 24 3 := (hF359 24 (by decide) 3).trans w233
        have w370 : dt357 27 3 = dt 27 3 := (hF359 27 (by decide) 3).trans w234
        have w371 : dt357 29 3 = dt 29 3 := (hF359 29 (by decide) 3).trans w235
        have w372 : dt357 31 3 = dt 31 3 := (hF359 31 (by decide) 3).trans w236
        have w373 : dt357 33 3 = dt 33 3 := (hF359 33 (by decide) 3).trans w237
        have w374 : dt357 0 2 = dt 0 2 := (hF359 0 (by decide) 2).trans w15
        have w375 : dt357 35 1 = dt 35 1 := (hF359 35 (by decide) 1).trans w16
        have w376 : dt357 35 2 = dt 35 2 := (hF359 35 (by decide) 2).trans w17
        have w377 : dt357 35 3 = dt 35 3 := (hF359 35 (by decide) 3).trans w18
        have w378 : dt357 80 0 = dt 80 0 := (hF359 80 (by decide) 0).trans w19
        have w379 : dt357 80 1 = dt 80 1 := (hF359 80 (by decide) 1).trans w20
        have w380 : dt357 80 2 = dt 80 2 := (hF359 80 (by decide) 2).trans w21
        have w381 : dt357 80 3 = dt 80 3 := (hF359 80 (by decide) 3).trans w22
        have w382 : dt357 80 4 = dt 80 4 := (hF359 80 (by decide) 4).trans w23
        have w383 : dt357 80 5 = dt 80 5 := (hF359 80 (by decide) 5).trans w24
        rcases h356 with ⟨rfl, h356⟩
        have hM384 : MW (dt357 80) := h356.2.1
        obtain ⟨h356_0, h356_1, h356_2, h356_3, h356_4, h356_5, h356_6, h356_7, h356_8, h356_9⟩ := h356
        have w385 : dt357 79 12 = dt 79 12 := h356_7.trans w32
        have w386 : dt357 79 19 = dt 79 19 := h356_8.trans w33
        have w387 : dt357 79 21 = dt 79 21 := h356_9.trans w34
        have y388 := h356_3 0 (by decide)
        have y389 := h356_3 1 (by decide)
        have y390 := h356_3 2 (by decide)
        have y391 := h356_3 3 (by decide)
        have y392 := h356_3 4 (by decide)
        have y393 := h356_3 5 (by decide)
        have y394 := h356_4 0 (by decide)
        have y395 := h356_4 1 (by decide)
        have y396 := h356_4 2 (by decide)
        have y397 := h356_4 3 (by decide)
        have y398 := h356_4 4 (by decide)
        have y399 := h356_4 5 (by decide)
        have C400 : ∀ j : Nat, dt357 19 j = dt 19 j := fun j => (hF359 19 (by decide) j).trans (C239 j)
        have C401 : ∀ j : Nat, dt357 20 j = dt 20 j := fun j => (hF359 20 (by decide) j).trans (C240 j)
        have C402 : ∀ j : Nat, dt357 25 j = dt 25 j := fun j => (hF359 25 (by decide) j).trans (C241 j)
        have C403 : ∀ j : Nat, dt357 26 j = dt 26 j := fun j => (hF359 26 (by decide) j).trans (C242 j)
        have C404 : ∀ j : Nat, dt357 36 j = dt 36 j := fun j => (hF359 36 (by decide) j).trans (C243 j)
        have C405 : ∀ j : Nat, dt357 80 j = dt 80 j := fun j => (hF359 80 (by decide) j).trans (C244 j)
        have C406 : ∀ j : Nat, dt357 85 j = dt 85 j := fun j => (hF359 85 (by decide) j).trans (C246 j)
        have C407 : ∀ j : Nat, j < 192 → dt357 2 j = dt 2 j := fun j hj => (hF359 2 (by decide) j).trans (h3_15 j hj)
        have C408 : ∀ j : Nat, j < 8 → dt357 3 j = dt 3 j := fun j hj => (hF359 3 (by decide) j).trans (h3_16 j hj)
        have C409 : ∀ j : Nat, j < 192 → dt357 19 j = dt 19 j := fun j hj => (hF359 19 (by decide) j).trans (h3_19 j hj)
        have C410 : ∀ j : Nat, j < 8 → dt357 20 j = dt 20 j := fun j hj => (hF359 20 (by decide) j).trans (h3_20 j hj)
        have C411 : ∀ j : Nat, j < 60 → dt357 8 j = dt 8 j := fun j hj => (hF359 8 (by decide) j).trans (h3_17 j hj)
        have C412 : ∀ j : Nat, j < 60 → dt357 25 j = dt 25 j := fun j hj => (hF359 25 (by decide) j).trans (h3_21 j hj)
        have C413 : ∀ j : Nat, j < 132 → dt357 9 j = dt 9 j := fun j hj => (hF359 9 (by decide) j).trans (h3_18 j hj)
        have C414 : ∀ j : Nat, j < 132 → dt357 26 j = dt 26 j := fun j hj => (hF359 26 (by decide) j).trans (h3_22 j hj)
        have F415 : ∀ j : Nat, j < 7460 → dt357 80 j = dt 80 j := fun j hj => (h356_5 j hj).trans (C244 j)
        have S416 : SCL (dt357 2) (dt357 3) (dt357 80) := by first | exact SCL_k hd1 hM C407 C408 (fun j _ h2_ => F415 j (by omega)) | (exfalso; omega)
        have S417 : QRL (dt357 8) (dt357 80) := by first | exact QRL_k hd3 hM C411 (F415 1 (by decide)) (fun j _ h2_ => F415 j (by omega)) | (exfalso; omega)
        have S418 : SDL (dt357 9) (dt357 80) := by first | exact SDL_k hd5 hM C413 (F415 1 (by decide)) (fun j _ h2_ => F415 j (by omega)) (fun j _ h2_ => F415 j (by omega)) | (exfalso; omega)
        have F419 : ∀ j : Nat, j < 7460 → dt357 81 j = dt 80 j := fun j hj => (h356_6 j hj).trans (C244 j)
        have S420 : SCL (dt357 19) (dt357 20) (dt357 81) := by first | exact SCL_k hd2 hM2 C409 C410 (fun j _ h2_ => F419 j (by omega)) | (exfalso; omega)
        have S421 : QRL (dt357 25) (dt357 81) := by first | exact QRL_k hd4 hM2 C412 (F419 1 (by decide)) (fun j _ h2_ => F419 j (by omega)) | (exfalso; omega)
        have S422 : SDL (dt357 26) (dt357 81) := by first | exact SDL_k hd6 hM2 C414 (F419 1 (by decide)) (fun j _ h2_ => F419 j (by omega)) (fun j _ h2_ => F419 j (by omega)) | (exfalso; omega)
        refine go_toq PM267 (k := 2) (pc' := 1435) (L' := [some (.inr (.inr (some 3000))), some (.inr (.inr (some 0))), some (.inr (.inr (some 79))), some (.inl i)]) (st' := []) (w' := (SH, dt357)) rfl ?_
        exact K dt357 hI358 hM384 h356_2 (w362.trans (hk0.trans w378.symm)) (w363.trans (hk1.trans w379.symm)) (w364.trans (hk2.trans w380.symm)) (w365.trans (hk3.trans w381.symm)) (w366.trans (hk4.trans w382.symm)) (w367.trans (hk5.trans w383.symm)) (by omega) (by omega) (by omega) (by omega) (by omega) (by omega) (by omega) (w375.trans (hk13.trans w385.symm)) (w376.trans (hk14.trans w386.symm)) (w377.trans (hk15.trans w387.symm)) (by first | exact hI | exact TPL_k hd0 C404 C406 (by omega) | (exfalso; omega)) (by first | exact S416 | exact SCL_k hd1 hM hI hI (fun j _ _ => C405 j) | (exfalso; omega)) (by first | exact S420 | exact SCL_k hd2 hM2 (fun j _ => C400 j) (fun j _ => C401 j) hI | (exfalso; omega)) (by first | exact S417 | exact QRL_k hd3 hM hI (C405 1) (fun j _ _ => C405 j) | (exfalso; omega)) (by first | exact S421 | exact QRL_k hd4 hM2 (fun j _ => C402 j) hI hI | (exfalso; omega)) (by first | exact S418 | exact SDL_k hd5 hM hI (C405 1) (fun j _ _ => C405 j) (fun j _ _ => C405 j) | (exfalso; omega)) (by first | exact S422 | exact SDL_k hd6 hM2 (fun j _ => C403 j) hI hI hI | (exfalso; omega))
  · skip
    refine go_toq PM267 (k := 2) (pc' := 1387) (L' := [some (.inr (.inr (some 3000))), some (.inr (.inr (some 0))), some (.inr (.inr (some 79))), some (.inl i)]) (st' := [.inl 1, .inr (.inr (some 0))]) (w' := (SH, dt)) rfl ?_
    refine go_callq PM267 PM98 (Q' := _) rfl rfl rfl rfl (sp_X5_image_1q L xs sio (d + 35) dt hI   ) ?_
    rintro _ _ ⟨dt424, rfl, hI425, hF426, h423⟩
    refine ⟨rfl, ?_⟩
    have hF427 : Fr [0, 1, 2, 3, 4, 5, 6, 7, 8, 9, 10, 11, 12, 13, 14, 15, 16, 17, 18, 19, 20, 21, 22, 23, 24, 25, 26, 27, 28, 29, 30, 31, 32, 33, 34, 35, 36, 37, 38, 39, 40, 41, 42, 43, 44, 45, 46, 47, 48, 49, 50, 51, 52, 53, 54, 55, 56, 57, 58, 59, 60, 61, 62, 63, 64, 65, 66, 67, 68, 69, 70, 71, 72, 73, 74, 75, 76, 77, 78, 79, 80, 81, 82, 83, 84, 85, 86, 87, 88, 89, 90, 91, 92, 93, 94, 95, 96, 97, 98, 99, 100, 101, 102, 103, 104] dt dt424 := Fr_tr hF hF426 (by decide)
    have hM428 : MW (dt424 80) := MW_fr hM hF426 (by decide)
    have w429 : dt424 1 0 = dt 1 0 := hF426 1 (by decide) 0
    have w430 : dt424 7 3 = dt 7 3 := hF426 7 (by decide) 3
    have w431 : dt424 10 3 = dt 10 3 := hF426 10 (by decide) 3
    have w432 : dt424 12 3 = dt 12 3 := hF426 12 (by decide) 3
    have w433 : dt424 14 3 = dt 14 3 := hF426 14 (by decide) 3
    have w434 : dt424 16 3 = dt 16 3 := hF426 16 (by decide) 3
    have w435 : dt424 35 1 = dt 35 1 := hF426 35 (by decide) 1
    have w436 : dt424 35 2 = dt 35 2 := hF426 35 (by decide) 2
    have w437 : dt424 35 3 = dt 35 3 := hF426 35 (by decide) 3
    have w438 : dt424 80 0 = dt 80 0 := hF426 80 (by decide) 0
    have w439 : dt424 80 1 = dt 80 1 := hF426 80 (by decide) 1
    have w440 : dt424 80 2 = dt 80 2 := hF426 80 (by decide) 2
    have w441 : dt424 80 3 = dt 80 3 := hF426 80 (by decide) 3
    have w442 : dt424 80 4 = dt 80 4 := hF426 80 (by decide) 4
    have w443 : dt424 80 5 = dt 80 5 := hF426 80 (by decide) 5
    have w444 : dt424 81 0 = dt 81 0 := hF426 81 (by decide) 0
    have w445 : dt424 81 1 = dt 81 1 := hF426 81 (by decide) 1
    have w446 : dt424 81 2 = dt 81 2 := hF426 81 (by decide) 2
    have w447 : dt424 81 3 = dt 81 3 := hF426 81 (by decide) 3
    have w448 : dt424 81 4 = dt 81 4 := hF426 81 (by decide) 4
    have w449 : dt424 81 5 = dt 81 5 := hF426 81 (by decide) 5
    have w450 : dt424 79 2 = dt 79 2 := hF426 79 (by decide) 2
    have w451 : dt424 79 12 = dt 79 12 := hF426 79 (by decide) 12
    have w452 : dt424 79 19 = dt 79 19 := hF426 79 (by decide) 19
    have w453 : dt424 79 21 = dt 79 21 := hF426 79 (by decide) 21
    rcases h423 with ⟨v_h423, rfl, h423r, h423⟩
    obtain ⟨h423_0, h423_1, h423_2, h423_3, h423_4, h423_5, h423_6, h423_7, h423_8, h423_9, h423_10, h423_11, h423_12, h423_13, h423_14, h423_15, h423_16, h423_17, h423_18, h423_19, h423_20, h423_21⟩ := h423
    have w454 : dt424 1 0 = dt 1 0 := h423_2
    have w455 : dt424 7 3 = dt 7 3 := h423_3
    have w456 : dt424 10 3 = dt 10 3 := h423_4
    have w457 : dt424 12 3 = dt 12 3 := h423_5
    have w458 : dt424 14 3 = dt 14 3 := h423_6
    have w459 : dt424 16 3 = dt 16 3 := h423_7
    have M2460 : MW (dt424 81) := MW_frk hM2 hF426 (by decide)
    have C461 : ∀ j : Nat, dt424 2 j = dt 2 j := fun j => (hF426 2 (by decide) j).trans ((fun _ => rfl) j)
    have C462 : ∀ j : Nat, dt424 3 j = dt 3 j := fun j => (hF426 3 (by decide) j).trans ((fun _ => rfl) j)
    have C463 : ∀ j : Nat, dt424 8 j = dt 8 j := fun j => (hF426 8 (by decide) j).trans ((fun _ => rfl) j)
    have C464 : ∀ j : Nat, dt424 9 j = dt 9 j := fun j => (hF426 9 (by decide) j).trans ((fun _ => rfl) j)
    have C465 : ∀ j : Nat, dt424 36 j = dt 36 j := fun j => (hF426 36 (by decide) j).trans ((fun _ => rfl) j)
    have C466 : ∀ j : Nat, dt424 80 j = dt 80 j := fun j => (hF426 80 (by decide) j).trans ((fun _ => rfl) j)
    have C467 : ∀ j : Nat, dt424 81 j = dt 81 j := fun j => (hF426 81 (by decide) j).trans ((fun _ => rfl) j)
    have C468 : ∀ j : Nat, dt424 85 j = dt 85 j := fun j => (hF426 85 (by decide) j).trans ((fun _ => rfl) j)
    refine go_toq PM267 (k := 6) (pc' := 1396) (L' := [some (.inr (.inr (some 3000))), some (.inr (.inr (some 0))), some (.inr (.inr (some 79))), some (.inl i)]) (st' := [.inl (i + 1), .inr (.inr (some 3000)), .inr (.inr (some 79))]) (w' := (SH, dt424)) rfl ?_
    have r469 := i32_R (xs ((i + 1).toNat))
    refine go_smpq PM267 (L' := [some (.inr (.inr (some 3000))), some (.inr (.inr (some 0))), some (.inr (.inr (some 79))), some (.inl i)]) (st' := [.inl ((xs ((i + 1).toNat)).toInt), .inr (.inr (some 79))]) (w' := (SH, dt424)) rfl rfl (s_iald (n := L) (f := fun j => (xs j).toInt) (am_scr hLL) ⟨by omega, by omega⟩) ?_
    refine go_ifq PM267 (k := 0) (p1 := 1404) (p2 := 1400) (L' := [some (.inr (.inr (some 3000))), some (.inr (.inr (some 0))), some (.inr (.inr (some 79))), some (.inl i)]) (st' := [.inr (.inr (some 79))]) (w' := (SH, dt424)) rfl (z_eq (a := (xs ((i + 1).toNat)).toInt) ⟨by omega, by omega⟩) (fun c470 => ?_) (fun c470 => ?_)
    · skip
      refine go_toq PM267 (k := 1) (pc' := 1405) (L' := [some (.inr (.inr (some 3000))), some (.inr (.inr (some 0))), some (.inr (.inr (some 79))), some (.inl i)]) (st' := [.inl 0, .inr (.inr (some 79))]) (w' := (SH, dt424)) rfl ?_
      refine go_callq PM267 PM247 (Q' := _) rfl rfl rfl rfl (sp_X6_image_0v L xs sio (d + 38) dt424 hI425 hM428   (by first | exact True.intro | with_reducible assumption | rfl | omega | trivial | exact M2460 | exact hd1 | exact hqo)) ?_
      rintro _ _ ⟨dt472, rfl, hI473, hF474, h471⟩
      refine ⟨rfl, ?_⟩
      have hF475 : Fr [0, 1, 2, 3, 4, 5, 6, 7, 8, 9, 10, 11, 12, 13, 14, 15, 16, 17, 18, 19, 20, 21, 22, 23, 24, 25, 26, 27, 28, 29, 30, 31, 32, 33, 34, 35, 36, 37, 38, 39, 40, 41, 42, 43, 44, 45, 46, 47, 48, 49, 50, 51, 52, 53, 54, 55, 56, 57, 58, 59, 60, 61, 62, 63, 64, 65, 66, 67, 68, 69, 70, 71, 72, 73, 74, 75, 76, 77, 78, 79, 80, 81, 82, 83, 84, 85, 86, 87, 88, 89, 90, 91, 92, 93, 94, 95, 96, 97, 98, 99, 100, 101, 102, 103, 104] dt dt472 := Fr_tr hF427 hF474 (by decide)
      have w476 : dt472 1 0 = dt 1 0 := (hF474 1 (by decide) 0).trans w454
      have w477 : dt472 7 3 = dt 7 3 := (hF474 7 (by decide) 3).trans w455
      have w478 : dt472 10 3 = dt 10 3 := (hF474 10 (by decide) 3).trans w456
      have w479 : dt472 12 3 = dt 12 3 := (hF474 12 (by decide) 3).trans w457
      have w480 : dt472 14 3 = dt 14 3 := (hF474 14 (by decide) 3).trans w458
      have w481 : dt472 16 3 = dt 16 3 := (hF474 16 (by decide) 3).trans w459
      have w482 : dt472 18 0 = dt424 18 0 := hF474 18 (by decide) 0
      have w483 : dt472 24 3 = dt424 24 3 := hF474 24 (by decide) 3
      have w484 : dt472 27 3 = dt424 27 3 := hF474 27 (by decide) 3
      have w485 : dt472 29 3 = dt424 29 3 := hF474 29 (by decide) 3
      have w486 : dt472 31 3 = dt424 31 3 := hF474 31 (by decide) 3
      have w487 : dt472 33 3 = dt424 33 3 := hF474 33 (by decide) 3
      have w488 : dt472 0 2 = dt424 0 2 := hF474 0 (by decide) 2
      have w489 : dt472 35 1 = dt 35 1 := (hF474 35 (by decide) 1).trans w435
      have w490 : dt472 35 2 = dt 35 2 := (hF474 35 (by decide) 2).trans w436
      have w491 : dt472 35 3 = dt 35 3 := (hF474 35 (by decide) 3).trans w437
      have w492 : dt472 81 0 = dt 81 0 := (hF474 81 (by decide) 0).trans w444
      have w493 : dt472 81 1 = dt 81 1 := (hF474 81 (by decide) 1).trans w445
      have w494 : dt472 81 2 = dt 81 2 := (hF474 81 (by decide) 2).trans w446
      have w495 : dt472 81 3 = dt 81 3 := (hF474 81 (by decide) 3).trans w447
      have w496 : dt472 81 4 = dt 81 4 := (hF474 81 (by decide) 4).trans w448
      have w497 : dt472 81 5 = dt 81 5 := (hF474 81 (by decide) 5).trans w449
      rcases h471 with ⟨rfl, h471⟩ | ⟨rfl, h471⟩
      · skip
        have hM498 : MW (dt472 80) := h471.2.2.1
        obtain ⟨h471_0, h471_1, h471_2, h471_3, h471_4, h471_5, h471_6, h471_7, h471_8, h471_9, h471_10⟩ := h471
        have w499 : dt472 79 12 = dt 79 12 := h471_8.trans w451
        have w500 : dt472 79 19 = dt 79 19 := h471_9.trans w452
        have w501 : dt472 79 21 = dt 79 21 := h471_10.trans w453
        have M2502 : MW (dt472 81) := MW_frk M2460 hF474 (by decide)
        have y503 := h471_4 0 (by decide)
        have y504 := h471_4 1 (by decide)
        have y505 := h471_4 2 (by decide)
        have y506 := h471_4 3 (by decide)
        have y507 := h471_4 4 (by decide)
        have y508 := h471_4 5 (by decide)
        have y509 := h471_5 0 (by decide)
        have y510 := h471_5 1 (by decide)
        have y511 := h471_5 2 (by decide)
        have y512 := h471_5 3 (by decide)
        have y513 := h471_5 4 (by decide)
        have y514 := h471_5 5 (by decide)
        have C515 : ∀ j : Nat, dt472 2 j = dt 2 j := fun j => (hF474 2 (by decide) j).trans (C461 j)
        have C516 : ∀ j : Nat, dt472 3 j = dt 3 j := fun j => (hF474 3 (by decide) j).trans (C462 j)
        have C517 : ∀ j : Nat, dt472 8 j = dt 8 j := fun j => (hF474 8 (by decide) j).trans (C463 j)
        have C518 : ∀ j : Nat, dt472 9 j = dt 9 j := fun j => (hF474 9 (by decide) j).trans (C464 j)
        have C519 : ∀ j : Nat, dt472 36 j = dt 36 j := fun j => (hF474 36 (by decide) j).trans (C465 j)
        have C520 : ∀ j : Nat, dt472 81 j = dt 81 j := fun j => (hF474 81 (by decide) j).trans (C467 j)
        have C521 : ∀ j : Nat, dt472 85 j = dt 85 j := fun j => (hF474 85 (by decide) j).trans (C468 j)
        have C522 : ∀ j : Nat, j < 192 → dt472 2 j = dt 2 j := fun j hj => (hF474 2 (by decide) j).trans (h423_14 j hj)
        have C523 : ∀ j : Nat, j < 8 → dt472 3 j = dt 3 j := fun j hj => (hF474 3 (by decide) j).trans (h423_15 j hj)
        have C524 : ∀ j : Nat, j < 192 → dt472 19 j = dt 2 j := fun j hj => (hF474 19 (by decide) j).trans (h423_18 j hj)
        have C525 : ∀ j : Nat, j < 8 → dt472 20 j = dt 3 j := fun j hj => (hF474 20 (by decide) j).trans (h423_19 j hj)
        have C526 : ∀ j : Nat, j < 60 → dt472 8 j = dt 8 j := fun j hj => (hF474 8 (by decide) j).trans (h423_16 j hj)
        have C527 : ∀ j : Nat, j < 60 → dt472 25 j = dt 8 j := fun j hj => (hF474 25 (by decide) j).trans (h423_20 j hj)
        have C528 : ∀ j : Nat, j < 132 → dt472 9 j = dt 9 j := fun j hj => (hF474 9 (by decide) j).trans (h423_17 j hj)
        have C529 : ∀ j : Nat, j < 132 → dt472 26 j = dt 9 j := fun j hj => (hF474 26 (by decide) j).trans (h423_21 j hj)
        have F530 : ∀ j : Nat, j < 7460 → dt472 80 j = dt 80 j := fun j hj => (h471_6 j hj).trans (C466 j)
        have S531 : SCL (dt472 2) (dt472 3) (dt472 80) := by first | exact SCL_k hd1 hM C522 C523 (fun j _ h2_ => F530 j (by omega)) | (exfalso; omega)
        have S532 : QRL (dt472 8) (dt472 80) := by first | exact QRL_k hd3 hM C526 (F530 1 (by decide)) (fun j _ h2_ => F530 j (by omega)) | (exfalso; omega)
        have S533 : SDL (dt472 9) (dt472 80) := by first | exact SDL_k hd5 hM C528 (F530 1 (by decide)) (fun j _ h2_ => F530 j (by omega)) (fun j _ h2_ => F530 j (by omega)) | (exfalso; omega)
        have F534 : ∀ j : Nat, j < 7460 → dt472 81 j = dt 81 j := fun j hj => (h471_7 j hj).trans (C467 j)
        have S535 : SCL (dt472 19) (dt472 20) (dt472 81) := by first | exact SCL_k hd1 hM C524 C525 (fun j _ h2_ => F534 j (by omega)) | (exfalso; omega)
        have S536 : QRL (dt472 25) (dt472 81) := by first | exact QRL_k hd3 hM C527 (F534 1 (by decide)) (fun j _ h2_ => F534 j (by omega)) | (exfalso; omega)
        have S537 : SDL (dt472 26) (dt472 81) := by first | exact SDL_k hd5 hM C529 (F534 1 (by decide)) (fun j _ h2_ => F534 j (by omega)) (fun j _ h2_ => F534 j (by omega)) | (exfalso; omega)
        refine go_toq PM267 (k := 2) (pc' := 1435) (L' := [some (.inr (.inr (some 3000))), some (.inr (.inr (some 0))), some (.inr (.inr (some 79))), some (.inl i)]) (st' := []) (w' := (SH, dt472)) rfl ?_
        exact K dt472 hI473 hM498 M2502 (by first | omega | (simp only [*]; done) | simp only [*]) (by omega) (by omega) (by omega) (by omega) (by omega) (by omega) (by omega) (by omega) (by omega) (by omega) (by omega) (by omega) (w489.trans (hk13.trans w499.symm)) (w490.trans (hk14.trans w500.symm)) (w491.trans (hk15.trans w501.symm)) (by first | exact hI | exact TPL_k hd0 C519 C521 (by omega) | (exfalso; omega)) (by first | exact S531 | exact SCL_k hd1 hM (fun j _ => C515 j) (fun j _ => C516 j) hI | (exfalso; omega)) (by first | exact S535 | exact SCL_k hd2 hM2 hI hI (fun j _ _ => C520 j) | (exfalso; omega)) (by first | exact S532 | exact QRL_k hd3 hM (fun j _ => C517 j) hI hI | (exfalso; omega)) (by first | exact S536 | exact QRL_k hd4 hM2 hI (C520 1) (fun j _ _ => C520 j) | (exfalso; omega)) (by first | exact S533 | exact SDL_k hd5 hM (fun j _ => C518 j) hI hI hI | (exfalso; omega)) (by first | exact S537 | exact SDL_k hd6 hM2 hI (C520 1) (fun j _ _ => C520 j) (fun j _ _ => C520 j) | (exfalso; omega))
      · skip
        have hM538 : MW (dt472 80) := h471.2.2.1
        obtain ⟨h471_0, h471_1, h471_2, h471_3, h471_4, h471_5, h471_6, h471_7, h471_8, h471_9, h471_10⟩ := h471
        have w539 : dt472 79 12 = dt 79 12 := h471_8.trans w451
        have w540 : dt472 79 19 = dt 79 19 := h471_9.trans w452
        have w541 : dt472 79 21 = dt 79 21 := h471_10.trans w453
        have M2542 : MW (dt472 81) := MW_frk M2460 hF474 (by decide)
        have y543 := h471_4 0 (by decide)
        have y544 := h471_4 1 (by decide)
        have y545 := h471_4 2 (by decide)
        have y546 := h471_4 3 (by decide)
        have y547 := h471_4 4 (by decide)
        have y548 := h471_4 5 (by decide)
        have y549 := h471_5 0 (by decide)
        have y550 := h471_5 1 (by decide)
        have y551 := h471_5 2 (by decide)
        have y552 := h471_5 3 (by decide)
        have y553 := h471_5 4 (by decide)
        have y554 := h471_5 5 (by decide)
        have C555 : ∀ j : Nat, dt472 2 j = dt 2 j := fun j => (hF474 2 (by decide) j).trans (C461 j)
        have C556 : ∀ j : Nat, dt472 3 j = dt 3 j := fun j => (hF474 3 (by decide) j).trans (C462 j)
        have C557 : ∀ j : Nat, dt472 8 j = dt 8 j := fun j => (hF474 8 (by decide) j).trans (C463 j)
        have C558 : ∀ j : Nat, dt472 9 j = dt 9 j := fun j => (hF474 9 (by decide) j).trans (C464 j)
        have C559 : ∀ j : Nat, dt472 36 j = dt 36 j := fun j => (hF474 36 (by decide) j).trans (C465 j)
        have C560 : ∀ j : Nat, dt472 81 j = dt 81 j := fun j => (hF474 81 (by decide) j).trans (C467 j)
        have C561 : ∀ j : Nat, dt472 85 j = dt 85 j := fun j => (hF474 85 (by decide) j).trans (C468 j)
        have C562 : ∀ j : Nat, j < 192 → dt472 2 j = dt 2 j := fun j hj => (hF474 2 (by decide) j).trans (h423_14 j hj)
        have C563 : ∀ j : Nat, j < 8 → dt472 3 j = dt 3 j := fun j hj => (hF474 3 (by decide) j).trans (h423_15 j hj)
        have C564 : ∀ j : Nat, j < 192 → dt472 19 j = dt 2 j := fun j hj => (hF474 19 (by decide) j).trans (h423_18 j hj)
        have C565 : ∀ j : Nat, j < 8 → dt472 20 j = dt 3 j := fun j hj => (hF474 20 (by decide) j).trans (h423_19 j hj)
        have C566 : ∀ j : Nat, j < 60 → dt472 8 j = dt 8 j := fun j hj => (hF474 8 (by decide) j).trans (h423_16 j hj)
        have C567 : ∀ j : Nat, j < 60 → dt472 25 j = dt 8 j := fun j hj => (hF474 25 (by decide) j).trans (h423_20 j hj)
        have C568 : ∀ j : Nat, j < 132 → dt472 9 j = dt 9 j := fun j hj => (hF474 9 (by decide) j).trans (h423_17 j hj)
        have C569 : ∀ j : Nat, j < 132 → dt472 26 j = dt 9 j := fun j hj => (hF474 26 (by decide) j).trans (h423_21 j hj)
        have F570 : ∀ j : Nat, j < 7460 → dt472 80 j = dt 81 j := fun j hj => (h471_6 j hj).trans (C467 j)
        have S571 : SCL (dt472 2) (dt472 3) (dt472 80) := by first | exact SCL_k hd1 hM C562 C563 (fun j _ h2_ => F570 j (by omega)) | (exfalso; omega)
        have S572 : QRL (dt472 8) (dt472 80) := by first | exact QRL_k hd3 hM C566 (F570 1 (by decide)) (fun j _ h2_ => F570 j (by omega)) | (exfalso; omega)
        have S573 : SDL (dt472 9) (dt472 80) := by first | exact SDL_k hd5 hM C568 (F570 1 (by decide)) (fun j _ h2_ => F570 j (by omega)) (fun j _ h2_ => F570 j (by omega)) | (exfalso; omega)
        have F574 : ∀ j : Nat, j < 7460 → dt472 81 j = dt 81 j := fun j hj => (h471_7 j hj).trans (C467 j)
        have S575 : SCL (dt472 19) (dt472 20) (dt472 81) := by first | exact SCL_k hd1 hM C564 C565 (fun j _ h2_ => F574 j (by omega)) | (exfalso; omega)
        have S576 : QRL (dt472 25) (dt472 81) := by first | exact QRL_k hd3 hM C567 (F574 1 (by decide)) (fun j _ h2_ => F574 j (by omega)) | (exfalso; omega)
        have S577 : SDL (dt472 26) (dt472 81) := by first | exact SDL_k hd5 hM C569 (F574 1 (by decide)) (fun j _ h2_ => F574 j (by omega)) (fun j _ h2_ => F574 j (by omega)) | (exfalso; omega)
        refine go_toq PM267 (k := 2) (pc' := 1435) (L' := [some (.inr (.inr (some 3000))), some (.inr (.inr (some 0))), some (.inr (.inr (some 79))), some (.inl i)]) (st' := []) (w' := (SH, dt472)) rfl ?_
        exact K dt472 hI473 hM538 M2542 (by first | omega | (simp only [*]; done) | simp only [*]) (by omega) (by omega) (by omega) (by omega) (by omega) (by omega) (by omega) (by omega) (by omega) (by omega) (by omega) (by omega) (w489.trans (hk13.trans w539.symm)) (w490.trans (hk14.trans w540.symm)) (w491.trans (hk15.trans w541.symm)) (by first | exact hI | exact TPL_k hd0 C559 C561 (by omega) | (exfalso; omega)) (by first | exact S571 | exact SCL_k hd1 hM (fun j _ => C555 j) (fun j _ => C556 j) hI | (exfalso; omega)) (by first | exact S575 | exact SCL_k hd2 hM2 hI hI (fun j _ _ => C560 j) | (exfalso; omega)) (by first | exact S572 | exact QRL_k hd3 hM (fun j _ => C557 j) hI hI | (exfalso; omega)) (by first | exact S576 | exact QRL_k hd4 hM2 hI (C560 1) (fun j _ _ => C560 j) | (exfalso; omega)) (by first | exact S573 | exact SDL_k hd5 hM (fun j _ => C558 j) hI hI hI | (exfalso; omega)) (by first | exact S577 | exact SDL_k hd6 hM2 hI (C560 1) (fun j _ _ => C560 j) (fun j _ _ => C560 j) | (exfalso; omega))
    · skip
      refine go_toq PM267 (k := 2) (pc' := 1405) (L' := [some (.inr (.inr (some 3000))), some (.inr (.inr (some 0))), some (.inr (.inr (some 79))), some (.inl i)]) (st' := [.inl 1, .inr (.inr (some 79))]) (w' := (SH, dt424)) rfl ?_
      refine go_callq PM267 PM247 (Q' := _) rfl rfl rfl rfl (sp_X6_image_1v L xs sio (d + 38) dt424 hI425 hM428   ) ?_
      rintro _ _ ⟨dt579, rfl, hI580, hF581, h578⟩
      refine ⟨rfl, ?_⟩
      have hF582 : Fr [0, 1, 2, 3, 4, 5, 6, 7, 8, 9, 10, 11, 12, 13, 14, 15, 16, 17, 18, 19, 20, 21, 22, 23, 24, 25, 26, 27, 28, 29, 30, 31, 32, 33, 34, 35, 36, 37, 38, 39, 40, 41, 42, 43, 44, 45, 46, 47, 48, 49, 50, 51, 52, 53, 54, 55, 56, 57, 58, 59, 60, 61, 62, 63, 64, 65, 66, 67, 68, 69, 70, 71, 72, 73, 74, 75, 76, 77, 78, 79, 80, 81, 82, 83, 84, 85, 86, 87, 88, 89, 90, 91, 92, 93, 94, 95, 96, 97, 98, 99, 100, 101, 102, 103, 104] dt dt579 := Fr_tr hF427 hF581 (by decide)
      have hM583 : MW (dt579 80) := MW_fr hM428 hF581 (by decide)
      have w584 : dt579 1 0 = dt 1 0 := (hF581 1 (by decide) 0).trans w454
      have w585 : dt579 7 3 = dt 7 3 := (hF581 7 (by decide) 3).trans w455
      have w586 : dt579 10 3 = dt 10 3 := (hF581 10 (by decide) 3).trans w456
      have w587 : dt579 12 3 = dt 12 3 := (hF581 12 (by decide) 3).trans w457
      have w588 : dt579 14 3 = dt 14 3 := (hF581 14 (by decide) 3).trans w458
      have w589 : dt579 16 3 = dt 16 3 := (hF581 16 (by decide) 3).trans w459
      have w590 : dt579 18 0 = dt424 18 0 := hF581 18 (by decide) 0
      have w591 : dt579 24 3 = dt424 24 3 := hF581 24 (by decide) 3
      have w592 : dt579 27 3 = dt424 27 3 := hF581 27 (by decide) 3
      have w593 : dt579 29 3 = dt424 29 3 := hF581 29 (by decide) 3
      have w594 : dt579 31 3 = dt424 31 3 := hF581 31 (by decide) 3
      have w595 : dt579 33 3 = dt424 33 3 := hF581 33 (by decide) 3
      have w596 : dt579 0 2 = dt424 0 2 := hF581 0 (by decide) 2
      have w597 : dt579 35 1 = dt 35 1 := (hF581 35 (by decide) 1).trans w435
      have w598 : dt579 35 2 = dt 35 2 := (hF581 35 (by decide) 2).trans w436
      have w599 : dt579 35 3 = dt 35 3 := (hF581 35 (by decide) 3).trans w437
      have w600 : dt579 80 0 = dt 80 0 := (hF581 80 (by decide) 0).trans w438
      have w601 : dt579 80 1 = dt 80 1 := (hF581 80 (by decide) 1).trans w439
      have w602 : dt579 80 2 = dt 80 2 := (hF581 80 (by decide) 2).trans w440
      have w603 : dt579 80 3 = dt 80 3 := (hF581 80 (by decide) 3).trans w441
      have w604 : dt579 80 4 = dt 80 4 := (hF581 80 (by decide) 4).trans w442
      have w605 : dt579 80 5 = dt 80 5 := (hF581 80 (by decide) 5).trans w443
      rcases h578 with ⟨rfl, h578⟩
      have hM606 : MW (dt579 80) := h578.2.1
      obtain ⟨h578_0, h578_1, h578_2, h578_3, h578_4, h578_5, h578_6, h578_7, h578_8, h578_9⟩ := h578
      have w607 : dt579 79 12 = dt 79 12 := h578_7.trans w451
      have w608 : dt579 79 19 = dt 79 19 := h578_8.trans w452
      have w609 : dt579 79 21 = dt 79 21 := h578_9.trans w453
      have y610 := h578_3 0 (by decide)
      have y611 := h578_3 1 (by decide)
      have y612 := h578_3 2 (by decide)
      have y613 := h578_3 3 (by decide)
      have y614 := h578_3 4 (by decide)
      have y615 := h578_3 5 (by decide)
      have y616 := h578_4 0 (by decide)
      have y617 := h578_4 1 (by decide)
      have y618 := h578_4 2 (by decide)
      have y619 := h578_4 3 (by decide)
      have y620 := h578_4 4 (by decide)
      have y621 := h578_4 5 (by decide)
      have C622 : ∀ j : Nat, dt579 2 j = dt 2 j := fun j => (hF581 2 (by decide) j).trans (C461 j)
      have C623 : ∀ j : Nat, dt579 3 j = dt 3 j := fun j => (hF581 3 (by decide) j).trans (C462 j)
      have C624 : ∀ j : Nat, dt579 8 j = dt 8 j := fun j => (hF581 8 (by decide) j).trans (C463 j)
      have C625 : ∀ j : Nat, dt579 9 j = dt 9 j := fun j => (hF581 9 (by decide) j).trans (C464 j)
      have C626 : ∀ j : Nat, dt579 36 j = dt 36 j := fun j => (hF581 36 (by decide) j).trans (C465 j)
      have C627 : ∀ j : Nat, dt579 80 j = dt 80 j := fun j => (hF581 80 (by decide) j).trans (C466 j)
      have C628 : ∀ j : Nat, dt579 85 j = dt 85 j := fun j => (hF581 85 (by decide) j).trans (C468 j)
      have C629 : ∀ j : Nat, j < 192 → dt579 2 j = dt 2 j := fun j hj => (hF581 2 (by decide) j).trans (h423_14 j hj)
      have C630 : ∀ j : Nat, j < 8 → dt579 3 j = dt 3 j := fun j hj => (hF581 3 (by decide) j).trans (h423_15 j hj)
      have C631 : ∀ j : Nat, j < 192 → dt579 19 j = dt 2 j := fun j hj => (hF581 19 (by decide) j).trans (h423_18 j hj)
      have C632 : ∀ j : Nat, j < 8 → dt579 20 j = dt 3 j := fun j hj => (hF581 20 (by decide) j).trans (h423_19 j hj)
      have C633 : ∀ j : Nat, j < 60 → dt579 8 j = dt 8 j := fun j hj => (hF581 8 (by decide) j).trans (h423_16 j hj)
      have C634 : ∀ j : Nat, j < 60 → dt579 25 j = dt 8 j := fun j hj => (hF581 25 (by decide) j).trans (h423_20 j hj)
      have C635 : ∀ j : Nat, j < 132 → dt579 9 j = dt 9 j := fun j hj => (hF581 9 (by decide) j).trans (h423_17 j hj)
      have C636 : ∀ j : Nat, j < 132 → dt579 26 j = dt 9 j := fun j hj => (hF581 26 (by decide) j).trans (h423_21 j hj)
      have F637 : ∀ j : Nat, j < 7460 → dt579 80 j = dt 80 j := fun j hj => (h578_5 j hj).trans (C466 j)
      have S638 : SCL (dt579 2) (dt579 3) (dt579 80) := by first | exact SCL_k hd1 hM C629 C630 (fun j _ h2_ => F637 j (by omega)) | (exfalso; omega)
      have S639 : QRL (dt579 8) (dt579 80) := by first | exact QRL_k hd3 hM C633 (F637 1 (by decide)) (fun j _ h2_ => F637 j (by omega)) | (exfalso; omega)
      have S640 : SDL (dt579 9) (dt579 80) := by first | exact SDL_k hd5 hM C635 (F637 1 (by decide)) (fun j _ h2_ => F637 j (by omega)) (fun j _ h2_ => F637 j (by omega)) | (exfalso; omega)
      have F641 : ∀ j : Nat, j < 7460 → dt579 81 j = dt 80 j := fun j hj => (h578_6 j hj).trans (C466 j)
      have S642 : SCL (dt579 19) (dt579 20) (dt579 81) := by first | exact SCL_k hd1 hM C631 C632 (fun j _ h2_ => F641 j (by omega)) | (exfalso; omega)
      have S643 : QRL (dt579 25) (dt579 81) := by first | exact QRL_k hd3 hM C634 (F641 1 (by decide)) (fun j _ h2_ => F641 j (by omega)) | (exfalso; omega)
      have S644 : SDL (dt579 26) (dt579 81) := by first | exact SDL_k hd5 hM C636 (F641 1 (by decide)) (fun j _ h2_ => F641 j (by omega)) (fun j _ h2_ => F641 j (by omega)) | (exfalso; omega)
      refine go_toq PM267 (k := 2) (pc' := 1435) (L' := [some (.inr (.inr (some 3000))), some (.inr (.inr (some 0))), some (.inr (.inr (some 79))), some (.inl i)]) (st' := []) (w' := (SH, dt579)) rfl ?_
      exact K dt579 hI580 hM606 h578_2 (w584.trans (hk0.trans w600.symm)) (w585.trans (hk1.trans w601.symm)) (w586.trans (hk2.trans w602.symm)) (w587.trans (hk3.trans w603.symm)) (w588.trans (hk4.trans w604.symm)) (w589.trans (hk5.trans w605.symm)) (by omega) (by omega) (by omega) (by omega) (by omega) (by omega) (by omega) (w597.trans (hk13.trans w607.symm)) (w598.trans (hk14.trans w608.symm)) (w599.trans (hk15.trans w609.symm)) (by first | exact hI | exact TPL_k hd0 C626 C628 (by omega) | (exfalso; omega)) (by first | exact S638 | exact SCL_k hd1 hM (fun j _ => C622 j) (fun j _ => C623 j) (fun j _ _ => C627 j) | (exfalso; omega)) (by first | exact S642 | exact SCL_k hd2 hM2 hI hI hI | (exfalso; omega)) (by first | exact S639 | exact QRL_k hd3 hM (fun j _ => C624 j) (C627 1) (fun j _ _ => C627 j) | (exfalso; omega)) (by first | exact S643 | exact QRL_k hd4 hM2 hI hI hI | (exfalso; omega)) (by first | exact S640 | exact SDL_k hd5 hM (fun j _ => C625 j) (C627 1) (fun j _ _ => C627 j) (fun j _ _ => C627 j) | (exfalso; omega)) (by first | exact S644 | exact SDL_k hd6 hM2 hI hI hI hI | (exfalso; omega))
set_option maxRecDepth 20000 in
set_option maxHeartbeats 8000000 in
theorem sp_case32 (L : Nat) (xs : Nat → Int32) (sio : Option Nat) (d : Nat) (Q : Option AV → am_W → Prop) (hLL : L ≤ 3072) (i : Int) (hi : 0 ≤ i ∧ i ≤ 3066) (hil : i ≤ (L : Int) - 6) (dt : Nat → Nat → Int) (hI : InvC dt) (hM : MW (dt 80)) (hM2 : MW (dt 81)) (hk0 : dt 1 0 = dt 80 0) (hk1 : dt 7 3 = dt 80 1) (hk2 : dt 10 3 = dt 80 2) (hk3 : dt 12 3 = dt 80 3) (hk4 : dt 14 3 = dt 80 4) (hk5 : dt 16 3 = dt 80 5) (hk6 : dt 18 0 = dt 81 0) (hk7 : dt 24 3 = dt 81 1) (hk8 : dt 27 3 = dt 81 2) (hk9 : dt 29 3 = dt 81 3) (hk10 : dt 31 3 = dt 81 4) (hk11 : dt 33 3 = dt 81 5) (hk12 : dt 0 2 = dt 79 2) (hk13 : dt 35 1 = dt 79 12) (hk14 : dt 35 2 = dt 79 19) (hk15 : dt 35 3 = dt 79 21) (hd0 : TPL (dt 36) (dt 85) (dt 35 1)) (hd1 : SCL (dt 2) (dt 3) (dt 80)) (hd2 : SCL (dt 19) (dt 20) (dt 81)) (hd3 : QRL (dt 8) (dt 80)) (hd4 : QRL (dt 25) (dt 81)) (hd5 : SDL (dt 9) (dt 80)) (hd6 : SDL (dt 26) (dt 81)) (K : ∀ (dt : Nat → Nat → Int) (hI : InvC dt) (hM : MW (dt 80)) (hM2 : MW (dt 81)) (hk0 : dt 1 0 = dt 80 0) (hk1 : dt 7 3 = dt 80 1) (hk2 : dt 10 3 = dt 80 2) (hk3 : dt 12 3 = dt 80 3) (hk4 : dt 14 3 = dt 80 4) (hk5 : dt 16 3 = dt 80 5) (hk6 : dt 18 0 = dt 81 0) (hk7 : dt 24 3 = dt 81 1) (hk8 : dt 27 3 = dt 81 2) (hk9 : dt 29 3 = dt 81 3) (hk10 : dt 31 3 = dt 81 4) (hk11 : dt 33 3 = dt 81 5) (hk12 : dt 0 2 = dt 79 2) (hk13 : dt 35 1 = dt 79 12) (hk14 : dt 35 2 = dt 79 19) (hk15 : dt 35 3 = dt 79 21) (hd0 : TPL (dt 36) (dt 85) (dt 35 1)) (hd1 : SCL (dt 2) (dt 3) (dt 80)) (hd2 : SCL (dt 19) (dt 20) (dt 81)) (hd3 : QRL (dt 8) (dt 80)) (hd4 : QRL (dt 25) (dt 81)) (hd5 : SDL (dt 9) (dt 80)) (hd6 : SDL (dt 26) (dt 81)), GO (am_XX L xs sio) (d + 39) 267 1435 [some (.inr (.inr (some 3000))), some (.inr (.inr (some 0))), some (.inr (.inr (some 79))), some (.inl i)] [] (SH, dt) Q) : GO (am_XX L xs sio) (d + 39) 267 1412 [some (.inr (.inr (some 3000))), some (.inr (.inr (some 0))), some (.inr (.inr (some 79))), some (.inl i)] [] (SH, dt) Q := by
  have hF : Fr [0, 1, 2, 3, 4, 5, 6, 7, 8, 9, 10, 11, 12, 13, 14, 15, 16, 17, 18, 19, 20, 21, 22, 23, 24, 25, 26, 27, 28, 29, 30, 31, 32, 33, 34, 35, 36, 37, 38, 39, 40, 41, 42, 43, 44, 45, 46, 47, 48, 49, 50, 51, 52, 53, 54, 55, 56, 57, 58, 59, 60, 61, 62, 63, 64, 65, 66, 67, 68, 69, 70, 71, 72, 73, 74, 75, 76, 77, 78, 79, 80, 81, 82, 83, 84, 85, 86, 87, 88, 89, 90, 91, 92, 93, 94, 95, 96, 97, 98, 99, 100, 101, 102, 103, 104] dt dt := Fr_refl
  have hqo := QOC_R hd3 hM hk1
  have hb1_ := hM.1.1
  refine go_toq PM267 (k := 5) (pc' := 1417) (L' := [some (.inr (.inr (some 3000))), some (.inr (.inr (some 0))), some (.inr (.inr (some 79))), some (.inl i)]) (st' := [.inl (i + 1), .inr (.inr (some 3000)), .inr (.inr (some 0))]) (w' := (SH, dt)) rfl ?_
  have r1 := i32_R (xs ((i + 1).toNat))
  refine go_smpq PM267 (L' := [some (.inr (.inr (some 3000))), some (.inr (.inr (some 0))), some (.inr (.inr (some 79))), some (.inl i)]) (st' := [.inl ((xs ((i + 1).toNat)).toInt), .inr (.inr (some 0))]) (w' := (SH, dt)) rfl rfl (s_iald (n := L) (f := fun j => (xs j).toInt) (am_scr hLL) ⟨by omega, by omega⟩) ?_
  refine go_callq PM267 PM99 (Q' := _) rfl rfl rfl rfl (sp_X5_look L xs sio (d + 38) dt hI  ((xs ((i + 1).toNat)).toInt) ⟨by omega, by omega⟩ ) ?_
  rintro _ _ ⟨rfl, h2⟩
  refine ⟨rfl, ?_⟩
  rcases h2 with ⟨rfl, h2⟩ | ⟨rfl, h2⟩ | ⟨rfl, h2⟩ | ⟨rfl, h2⟩ | ⟨rfl, h2⟩ | ⟨rfl, h2⟩ | ⟨rfl, h2⟩ | ⟨rfl, h2⟩ | ⟨rfl, h2⟩
  · skip
    refine go_toq PM267 (k := 6) (pc' := 1427) (L' := [some (.inr (.inr (some 3000))), some (.inr (.inr (some 0))), some (.inr (.inr (some 79))), some (.inl i)]) (st' := [.inl (i + 1), .inr (.inr (some 3000)), .inr (.inr (some 79))]) (w' := (SH, dt)) rfl ?_
    refine go_smpq PM267 (L' := [some (.inr (.inr (some 3000))), some (.inr (.inr (some 0))), some (.inr (.inr (some 79))), some (.inl i)]) (st' := [.inl ((xs ((i + 1).toNat)).toInt), .inr (.inr (some 79))]) (w' := (SH, dt)) rfl rfl (s_iald (n := L) (f := fun j => (xs j).toInt) (am_scr hLL) ⟨by omega, by omega⟩) ?_
    refine go_callq PM267 PM248 (Q' := _) rfl rfl rfl rfl (sp_X6_look L xs sio (d + 38) dt hI  ((xs ((i + 1).toNat)).toInt) ⟨by omega, by omega⟩ ) ?_
    rintro _ _ ⟨rfl, h3⟩
    refine ⟨rfl, ?_⟩
    rcases h3 with ⟨rfl, h3⟩ | ⟨rfl, h3⟩ | ⟨rfl, h3⟩ | ⟨rfl, h3⟩ | ⟨rfl, h3⟩ | ⟨rfl, h3⟩ | ⟨rfl, h3⟩ | ⟨rfl, h3⟩ | ⟨rfl, h3⟩
    · skip
      refine go_toq PM267 (k := 2) (pc' := 1435) (L' := [some (.inr (.inr (some 3000))), some (.inr (.inr (some 0))), some (.inr (.inr (some 79))), some (.inl i)]) (st' := []) (w' := (SH, dt)) rfl ?_
      exact K dt hI hM hM2 hk0 hk1 hk2 hk3 hk4 hk5 hk6 hk7 hk8 hk9 hk10 hk11 hk12 hk13 hk14 hk15 (by first | exact hI | exact TPL_k hd0 (fun _ => rfl) (fun _ => rfl) (by omega) | (exfalso; omega)) (by first | exact hI | exact SCL_k hd1 hM (fun j _ => (fun _ => rfl) j) (fun j _ => (fun _ => rfl) j) (fun j _ _ => (fun _ => rfl) j) | (exfalso; omega)) (by first | exact hI | exact SCL_k hd2 hM2 (fun j _ => (fun _ => rfl) j) (fun j _ => (fun _ => rfl) j) (fun j _ _ => (fun _ => rfl) j) | (exfalso; omega)) (by first | exact hI | exact QRL_k hd3 hM (fun j _ => (fun _ => rfl) j) ((fun _ => rfl) 1) (fun j _ _ => (fun _ => rfl) j) | (exfalso; omega)) (by first | exact hI | exact QRL_k hd4 hM2 (fun j _ => (fun _ => rfl) j) ((fun _ => rfl) 1) (fun j _ _ => (fun _ => rfl) j) | (exfalso; omega)) (by first | exact hI | exact SDL_k hd5 hM (fun j _ => (fun _ => rfl) j) ((fun _ => rfl) 1) (fun j _ _ => (fun _ => rfl) j) (fun j _ _ => (fun _ => rfl) j) | (exfalso; omega)) (by first | exact hI | exact SDL_k hd6 hM2 (fun j _ => (fun _ => rfl) j) ((fun _ => rfl) 1) (fun j _ _ => (fun _ => rfl) j) (fun j _ _ => (fun _ => rfl) j) | (exfalso; omega))
    · skip
      refine go_toq PM267 (k := 2) (pc' := 1435) (L' := [some (.inr (.inr (some 3000))), some (.inr (.inr (some 0))), some (.inr (.inr (some 79))), some (.inl i)]) (st' := []) (w' := (SH, dt)) rfl ?_
      exact K dt hI hM hM2 hk0 hk1 hk2 hk3 hk4 hk5 hk6 hk7 hk8 hk9 hk10 hk11 hk12 hk13 hk14 hk15 (by first | exact hI | exact TPL_k hd0 (fun _ => rfl) (fun _ => rfl) (by omega) | (exfalso; omega)) (by first | exact hI | exact SCL_k hd1 hM (fun j _ => (fun _ => rfl) j) (fun j _ => (fun _ => rfl) j) (fun j _ _ => (fun _ => rfl) j) | (exfalso; omega)) (by first | exact hI | exact SCL_k hd2 hM2 (fun j _ => (fun _ => rfl) j) (fun j _ => (fun _ => rfl) j) (fun j _ _ => (fun _ => rfl) j) | (exfalso; omega)) (by first | exact hI | exact QRL_k hd3 hM (fun j _ => (fun _ => rfl) j) ((fun _ => rfl) 1) (fun j _ _ => (fun _ => rfl) j) | (exfalso; omega)) (by first | exact hI | exact QRL_k hd4 hM2 (fun j _ => (fun _ => rfl) j) ((fun _ => rfl) 1) (fun j _ _ => (fun _ => rfl) j) | (exfalso; omega)) (by first | exact hI | exact SDL_k hd5 hM (fun j _ => (fun _ => rfl) j) ((fun _ => rfl) 1) (fun j _ _ => (fun _ => rfl) j) (fun j _ _ => (fun _ => rfl) j) | (exfalso; omega)) (by first | exact hI | exact SDL_k hd6 hM2 (fun j _ => (fun _ => rfl) j) ((fun _ => rfl) 1) (fun j _ _ => (fun _ => rfl) j) (fun j _ _ => (fun _ => rfl) j) | (exfalso; omega))
    · skip
      refine go_toq PM267 (k := 2) (pc' := 1435) (L' := [some (.inr (.inr (some 3000))), some (.inr (.inr (some 0))), some (.inr (.inr (some 79))), some (.inl i)]) (st' := []) (w' := (SH, dt)) rfl ?_
      exact K dt hI hM hM2 hk0 hk1 hk2 hk3 hk4 hk5 hk6 hk7 hk8 hk9 hk10 hk11 hk12 hk13 hk14 hk15 (by first | exact hI | exact TPL_k hd0 (fun _ => rfl) (fun _ => rfl) (by omega) | (exfalso; omega)) (by first | exact hI | exact SCL_k hd1 hM (fun j _ => (fun _ => rfl) j) (fun j _ => (fun _ => rfl) j) (fun j _ _ => (fun _ => rfl) j) | (exfalso; omega)) (by first | exact hI | exact SCL_k hd2 hM2 (fun j _ => (fun _ => rfl) j) (fun j _ => (fun _ => rfl) j) (fun j _ _ => (fun _ => rfl) j) | (exfalso; omega)) (by first | exact hI | exact QRL_k hd3 hM (fun j _ => (fun _ => rfl) j) ((fun _ => rfl) 1) (fun j _ _ => (fun _ => rfl) j) | (exfalso; omega)) (by first | exact hI | exact QRL_k hd4 hM2 (fun j _ => (fun _ => rfl) j) ((fun _ => rfl) 1) (fun j _ _ => (fun _ => rfl) j) | (exfalso; omega)) (by first | exact hI | exact SDL_k hd5 hM (fun j _ => (fun _ => rfl) j) ((fun _ => rfl) 1) (fun j _ _ => (fun _ => rfl) j) (fun j _ _ => (fun _ => rfl) j) | (exfalso; omega)) (by first | exact hI | exact SDL_k hd6 hM2 (fun j _ => (fun _ => rfl) j) ((fun _ => rfl) 1) (fun j _ _ => (fun _ => rfl) j) (fun j _ _ => (fun _ => rfl) j) | (exfalso; omega))
    · skip
      refine go_toq PM267 (k := 2) (pc' := 1435) (L' := [some (.inr (.inr (some 3000))), some (.inr (.inr (some 0))), some (.inr (.inr (some 79))), some (.inl i)]) (st' := []) (w' := (SH, dt)) rfl ?_
      exact K dt hI hM hM2 hk0 hk1 hk2 hk3 hk4 hk5 hk6 hk7 hk8 hk9 hk10 hk11 hk12 hk13 hk14 hk15 (by first | exact hI | exact TPL_k hd0 (fun _ => rfl) (fun _ => rfl) (by omega) | (exfalso; omega)) (by first | exact hI | exact SCL_k hd1 hM (fun j _ => (fun _ => rfl) j) (fun j _ => (fun _ => rfl) j) (fun j _ _ => (fun _ => rfl) j) | (exfalso; omega)) (by first | exact hI | exact SCL_k hd2 hM2 (fun j _ => (fun _ => rfl) j) (fun j _ => (fun _ => rfl) j) (fun j _ _ => (fun _ => rfl) j) | (exfalso; omega)) (by first | exact hI | exact QRL_k hd3 hM (fun j _ => (fun _ => rfl) j) ((fun _ => rfl) 1) (fun j _ _ => (fun _ => rfl) j) | (exfalso; omega)) (by first | exact hI | exact QRL_k hd4 hM2 (fun j _ => (fun _ => rfl) j) ((fun _ => rfl) 1) (fun j _ _ => (fun _ => rfl) j) | (exfalso; omega)) (by first | exact hI | exact SDL_k hd5 hM (fun j _ => (fun _ => rfl) j) ((fun _ => rfl) 1) (fun j _ _ => (fun _ => rfl) j) (fun j _ _ => (fun _ => rfl) j) | (exfalso; omega)) (by first | exact hI | exact SDL_k hd6 hM2 (fun j _ => (fun _ => rfl) j) ((fun _ => rfl) 1) (fun j _ _ => (fun _ => rfl) j) (fun j _ _ => (fun _ => rfl) j) | (exfalso; omega))
    · skip
      refine go_toq PM267 (k := 2) (pc' := 1435) (L' := [some (.inr (.inr (some 3000))), some (.inr (.inr (some 0))), some (.inr (.inr (some 79))), some (.inl i)]) (st' := []) (w' := (SH, dt)) rfl ?_
      exact K dt hI hM hM2 hk0 hk1 hk2 hk3 hk4 hk5 hk6 hk7 hk8 hk9 hk10 hk11 hk12 hk13 hk14 hk15 (by first | exact hI | exact TPL_k hd0 (fun _ => rfl) (fun _ => rfl) (by omega) | (exfalso; omega)) (by first | exact hI | exact SCL_k hd1 hM (fun j _ => (fun _ => rfl) j) (fun j _ => (fun _ => rfl) j) (fun j _ _ => (fun _ => rfl) j) | (exfalso; omega)) (by first | exact hI | exact SCL_k hd2 hM2 (fun j _ => (fun _ => rfl) j) (fun j _ => (fun _ => rfl) j) (fun j _ _ => (fun _ => rfl) j) | (exfalso; omega)) (by first | exact hI | exact QRL_k hd3 hM (fun j _ => (fun _ => rfl) j) ((fun _ => rfl) 1) (fun j _ _ => (fun _ => rfl) j) | (exfalso; omega)) (by first | exact hI | exact QRL_k hd4 hM2 (fun j _ => (fun _ => rfl) j) ((fun _ => rfl) 1) (fun j _ _ => (fun _ => rfl) j) | (exfalso; omega)) (by first | exact hI | exact SDL_k hd5 hM (fun j _ => (fun _ => rfl) j) ((fun _ => rfl) 1) (fun j _ _ => (fun _ => rfl) j) (fun j _ _ => (fun _ => rfl) j) | (exfalso; omega)) (by first | exact hI | exact SDL_k hd6 hM2 (fun j _ => (fun _ => rfl) j) ((fun _ => rfl) 1) (fun j _ _ => (fun _ => rfl) j) (fun j _ _ => (fun _ => rfl) j) | (exfalso; omega))
    · skip
      refine go_toq PM267 (k := 2) (pc' := 1435) (L' := [some (.inr (.inr (some 3000))), some (.inr (.inr (some 0))), some (.inr (.inr (some 79))), some (.inl i)]) (st' := []) (w' := (SH, dt)) rfl ?_
      exact K dt hI hM hM2 hk0 hk1 hk2 hk3 hk4 hk5 hk6 hk7 hk8 hk9 hk10 hk11 hk12 hk13 hk14 hk15 (by first | exact hI | exact TPL_k hd0 (fun _ => rfl) (fun _ => rfl) (by omega) | (exfalso; omega)) (by first | exact hI | exact SCL_k hd1 hM (fun j _ => (fun _ => rfl) j) (fun j _ => (fun _ => rfl) j) (fun j _ _ => (fun _ => rfl) j) | (exfalso; omega)) (by first | exact hI | exact SCL_k hd2 hM2 (fun j _ => (fun _ => rfl) j) (fun j _ => (fun _ => rfl) j) (fun j _ _ => (fun _ => rfl) j) | (exfalso; omega)) (by first | exact hI | exact QRL_k hd3 hM (fun j _ => (fun _ => rfl) j) ((fun _ => rfl) 1) (fun j _ _ => (fun _ => rfl) j) | (exfalso; omega)) (by first | exact hI | exact QRL_k hd4 hM2 (fun j _ => (fun _ => rfl) j) ((fun _ => rfl) 1) (fun j _ _ => (fun _ => rfl) j) | (exfalso; omega)) (by first | exact hI | exact SDL_k hd5 hM (fun j _ => (fun _ => rfl) j) ((fun _ => rfl) 1) (fun j _ _ => (fun _ => rfl) j) (fun j _ _ => (fun _ => rfl) j) | (exfalso; omega)) (by first | exact hI | exact SDL_k hd6 hM2 (fun j _ => (fun _ => rfl) j) ((fun _ => rfl) 1) (fun j _ _ => (fun _ => rfl) j) (fun j _ _ => (fun _ => rfl) j) | (exfalso; omega))
    · skip
      obtain ⟨h3_0, h3_1⟩ := h3
      refine go_toq PM267 (k := 2) (pc' := 1435) (L' := [some (.inr (.inr (some 3000))), some (.inr (.inr (some 0))), some (.inr (.inr (some 79))), some (.inl i)]) (st' := []) (w' := (SH, dt)) rfl ?_
      exact K dt hI hM hM2 hk0 hk1 hk2 hk3 hk4 hk5 hk6 hk7 hk8 hk9 hk10 hk11 hk12 hk13 hk14 hk15 (by first | exact hI | exact TPL_k hd0 (fun _ => rfl) (fun _ => rfl) (by omega) | (exfalso; omega)) (by first | exact hI | exact SCL_k hd1 hM (fun j _ => (fun _ => rfl) j) (fun j _ => (fun _ => rfl) j) (fun j _ _ => (fun _ => rfl) j) | (exfalso; omega)) (by first | exact hI | exact SCL_k hd2 hM2 (fun j _ => (fun _ => rfl) j) (fun j _ => (fun _ => rfl) j) (fun j _ _ => (fun _ => rfl) j) | (exfalso; omega)) (by first | exact hI | exact QRL_k hd3 hM (fun j _ => (fun _ => rfl) j) ((fun _ => rfl) 1) (fun j _ _ => (fun _ => rfl) j) | (exfalso; omega)) (by first | exact hI | exact QRL_k hd4 hM2 (fun j _ => (fun _ => rfl) j) ((fun _ => rfl) 1) (fun j _ _ => (fun _ => rfl) j) | (exfalso; omega)) (by first | exact hI | exact SDL_k hd5 hM (fun j _ => (fun _ => rfl) j) ((fun _ => rfl) 1) (fun j _ _ => (fun _ => rfl) j) (fun j _ _ => (fun _ => rfl) j) | (exfalso; omega)) (by first | exact hI | exact SDL_k hd6 hM2 (fun j _ => (fun _ => rfl) j) ((fun _ => rfl) 1) (fun j _ _ => (fun _ => rfl) j) (fun j _ _ => (fun _ => rfl) j) | (exfalso; omega))
    · skip
      obtain ⟨h3_0, h3_1⟩ := h3
      refine go_toq PM267 (k := 2) (pc' := 1435) (L' := [some (.inr (.inr (some 3000))), some (.inr (.inr (some 0))), some (.inr (.inr (some 79))), some (.inl i)]) (st' := []) (w' := (SH, dt)) rfl ?_
      exact K dt hI hM hM2 hk0 hk1 hk2 hk3 hk4 hk5 hk6 hk7 hk8 hk9 hk10 hk11 hk12 hk13 hk14 hk15 (by first | exact hI | exact TPL_k hd0 (fun _ => rfl) (fun _ => rfl) (by omega) | (exfalso; omega)) (by first | exact hI | exact SCL_k hd1 hM (fun j _ => (fun _ => rfl) j) (fun j _ => (fun _ => rfl) j) (fun j _ _ => (fun _ => rfl) j) | (exfalso; omega)) (by first | exact hI | exact SCL_k hd2 hM2 (fun j _ => (fun _ => rfl) j) (fun j _ => (fun _ => rfl) j) (fun j _ _ => (fun _ => rfl) j) | (exfalso; omega)) (by first | exact hI | exact QRL_k hd3 hM (fun j _ => (fun _ => rfl) j) ((fun _ => rfl) 1) (fun j _ _ => (fun _ => rfl) j) | (exfalso; omega)) (by first | exact hI | exact QRL_k hd4 hM2 (fun j _ => (fun _ => rfl) j) ((fun _ => rfl) 1) (fun j _ _ => (fun _ => rfl) j) | (exfalso; omega)) (by first | exact hI | exact SDL_k hd5 hM (fun j _ => (fun _ => rfl) j) ((fun _ => rfl) 1) (fun j _ _ => (fun _ => rfl) j) (fun j _ _ => (fun _ => rfl) j) | (exfalso; omega)) (by first | exact hI | exact SDL_k hd6 hM2 (fun j _ => (fun _ => rfl) j) ((fun _ => rfl) 1) (fun j _ _ => (fun _ => rfl) j) (fun j _ _ => (fun _ => rfl) j) | (exfalso; omega))
    · skip
      refine go_toq PM267 (k := 2) (pc' := 1435) (L' := [some (.inr (.inr (some 3000))), some (.inr (.inr (some 0))), some (.inr (.inr (some 79))), some (.inl i)]) (st' := []) (w' := (SH, dt)) rfl ?_
      exact K dt hI hM hM2 hk0 hk1 hk2 hk3 hk4 hk5 hk6 hk7 hk8 hk9 hk10 hk11 hk12 hk13 hk14 hk15 (by first | exact hI | exact TPL_k hd0 (fun _ => rfl) (fun _ => rfl) (by omega) | (exfalso; omega)) (by first | exact hI | exact SCL_k hd1 hM (fun j _ => (fun _ => rfl) j) (fun j _ => (fun _ => rfl) j) (fun j _ _ => (fun _ => rfl) j) | (exfalso; omega)) (by first | exact hI | exact SCL_k hd2 hM2 (fun j _ => (fun _ => rfl) j) (fun j _ => (fun _ => rfl) j) (fun j _ _ => (fun _ => rfl) j) | (exfalso; omega)) (by first | exact hI | exact QRL_k hd3 hM (fun j _ => (fun _ => rfl) j) ((fun _ => rfl) 1) (fun j _ _ => (fun _ => rfl) j) | (exfalso; omega)) (by first | exact hI | exact QRL_k hd4 hM2 (fun j _ => (fun _ => rfl) j) ((fun _ => rfl) 1) (fun j _ _ => (fun _ => rfl) j) | (exfalso; omega)) (by first | exact hI | exact SDL_k hd5 hM (fun j _ => (fun _ => rfl) j) ((fun _ => rfl) 1) (fun j _ _ => (fun _ => rfl) j) (fun j _ _ => (fun _ => rfl) j) | (exfalso; omega)) (by first | exact hI | exact SDL_k hd6 hM2 (fun j _ => (fun _ => rfl) j) ((fun _ => rfl) 1) (fun j _ _ => (fun _ => rfl) j) (fun j _ _ => (fun _ => rfl) j) | (exfalso; omega))
  · skip
    refine go_toq PM267 (k := 6) (pc' := 1427) (L' := [some (.inr (.inr (some 3000))), some (.inr (.inr (some 0))), some (.inr (.inr (some 79))), some (.inl i)]) (st' := [.inl (i + 1), .inr (.inr (some 3000)), .inr (.inr (some 79))]) (w' := (SH, dt)) rfl ?_
    refine go_smpq PM267 (L' := [some (.inr (.inr (some 3000))), some (.inr (.inr (some 0))), some (.inr (.inr (some 79))), some (.inl i)]) (st' := [.inl ((xs ((i + 1).toNat)).toInt), .inr (.inr (some 79))]) (w' := (SH, dt)) rfl rfl (s_iald (n := L) (f := fun j => (xs j).toInt) (am_scr hLL) ⟨by omega, by omega⟩) ?_
    refine go_callq PM267 PM248 (Q' := _) rfl rfl rfl rfl (sp_X6_look L xs sio (d + 38) dt hI  ((xs ((i + 1).toNat)).toInt) ⟨by omega, by omega⟩ ) ?_
    rintro _ _ ⟨rfl, h4⟩
    refine ⟨rfl, ?_⟩
    rcases h4 with ⟨rfl, h4⟩ | ⟨rfl, h4⟩ | ⟨rfl, h4⟩ | ⟨rfl, h4⟩ | ⟨rfl, h4⟩ | ⟨rfl, h4⟩ | ⟨rfl, h4⟩ | ⟨rfl, h4⟩ | ⟨rfl, h4⟩
    · skip
      refine go_toq PM267 (k := 2) (pc' := 1435) (L' := [some (.inr (.inr (some 3000))), some (.inr (.inr (some 0))), some (.inr (.inr (some 79))), some (.inl i)]) (st' := []) (w' := (SH, dt)) rfl ?_
      exact K dt hI hM hM2 hk0 hk1 hk2 hk3 hk4 hk5 hk6 hk7 hk8 hk9 hk10 hk11 hk12 hk13 hk14 hk15 (by first | exact hI | exact TPL_k hd0 (fun _ => rfl) (fun _ => rfl) (by omega) | (exfalso; omega)) (by first | exact hI | exact SCL_k hd1 hM (fun j _ => (fun _ => rfl) j) (fun j _ => (fun _ => rfl) j) (fun j _ _ => (fun _ => rfl) j) | (exfalso; omega)) (by first | exact hI | exact SCL_k hd2 hM2 (fun j _ => (fun _ => rfl) j) (fun j _ => (fun _ => rfl) j) (fun j _ _ => (fun _ => rfl) j) | (exfalso; omega)) (by first | exact hI | exact QRL_k hd3 hM (fun j _ => (fun _ => rfl) j) ((fun _ => rfl) 1) (fun j _ _ => (fun _ => rfl) j) | (exfalso; omega)) (by first | exact hI | exact QRL_k hd4 hM2 (fun j _ => (fun _ => rfl) j) ((fun _ => rfl) 1) (fun j _ _ => (fun _ => rfl) j) | (exfalso; omega)) (by first | exact hI | exact SDL_k hd5 hM (fun j _ => (fun _ => rfl) j) ((fun _ => rfl) 1) (fun j _ _ => (fun _ => rfl) j) (fun j _ _ => (fun _ => rfl) j) | (exfalso; omega)) (by first | exact hI | exact SDL_k hd6 hM2 (fun j _ => (fun _ => rfl) j) ((fun _ => rfl) 1) (fun j _ _ => (fun _ => rfl) j) (fun j _ _ => (fun _ => rfl) j) | (exfalso; omega))
    · skip
      refine go_toq PM267 (k := 2) (pc' := 1435) (L' := [some (.inr (.inr (some 3000))), some (.inr (.inr (some 0))), some (.inr (.inr (some 79))), some (.inl i)]) (st' := []) (w' := (SH, dt)) rfl ?_
      exact K dt hI hM hM2 hk0 hk1 hk2 hk3 hk4 hk5 hk6 hk7 hk8 hk9 hk10 hk11 hk12 hk13 hk14 hk15 (by first | exact hI | exact TPL_k hd0 (fun _ => rfl) (fun _ => rfl) (by omega) | (exfalso; omega)) (by first | exact hI | exact SCL_k hd1 hM (fun j _ => (fun _ => rfl) j) (fun j _ => (fun _ => rfl) j) (fun j _ _ => (fun _ => rfl) j) | (exfalso; omega)) (by first | exact hI | exact SCL_k hd2 hM2 (fun j _ => (fun _ => rfl) j) (fun j _ => (fun _ => rfl) j) (fun j _ _ => (fun _ => rfl) j) | (exfalso; omega)) (by first | exact hI | exact QRL_k hd3 hM (fun j _ => (fun _ => rfl) j) ((fun _ => rfl) 1) (fun j _ _ => (fun _ => rfl) j) | (exfalso; omega)) (by first | exact hI | exact QRL_k hd4 hM2 (fun j _ => (fun _ => rfl) j) ((fun _ => rfl) 1) (fun j _ _ => (fun _ => rfl) j) | (exfalso; omega)) (by first | exact hI | exact SDL_k hd5 hM (fun j _ => (fun _ => rfl) j) ((fun _ => rfl) 1) (fun j _ _ => (fun _ => rfl) j) (fun j _ _ => (fun _ => rfl) j) | (exfalso; omega)) (by first | exact hI | exact SDL_k hd6 hM2 (fun j _ => (fun _ => rfl) j) ((fun _ => rfl) 1) (fun j _ _ => (fun _ => rfl) j) (fun j _ _ => (fun _ => rfl) j) | (exfalso; omega))
    · skip
      refine go_toq PM267 (k := 2) (pc' := 1435) (L' := [some (.inr (.inr (some 3000))), some (.inr (.inr (some 0))), some (.inr (.inr (some 79))), some (.inl i)]) (st' := []) (w' := (SH, dt)) rfl ?_
      exact K dt hI hM hM2 hk0 hk1 hk2 hk3 hk4 hk5 hk6 hk7 hk8 hk9 hk10 hk11 hk12 hk13 hk14 hk15 (by first | exact hI | exact TPL_k hd0 (fun _ => rfl) (fun _ => rfl) (by omega) | (exfalso; omega)) (by first | exact hI | exact SCL_k hd1 hM (fun j _ => (fun _ => rfl) j) (fun j _ => (fun _ => rfl) j) (fun j _ _ => (fun _ => rfl) j) | (exfalso; omega)) (by first | exact hI | exact SCL_k hd2 hM2 (fun j _ => (fun _ => rfl) j) (fun j _ => (fun _ => rfl) j) (fun j _ _ => (fun _ => rfl) j) | (exfalso; omega)) (by first | exact hI | exact QRL_k hd3 hM (fun j _ => (fun _ => rfl) j) ((fun _ => rfl) 1) (fun j _ _ => (fun _ => rfl) j) | (exfalso; omega)) (by first | exact hI | exact QRL_k hd4 hM2 (fun j _ => (fun _ => rfl) j) ((fun _ => rfl) 1) (fun j _ _ => (fun _ => rfl) j) | (exfalso; omega)) (by first | exact hI | exact SDL_k hd5 hM (fun j _ => (fun _ => rfl) j) ((fun _ => rfl) 1) (fun j _ _ => (fun _ => rfl) j) (fun j _ _ => (fun _ => rfl) j) | (exfalso; omega)) (by first | exact hI | exact SDL_k hd6 hM2 (fun j _ => (fun _ => rfl) j) ((fun _ => rfl) 1) (fun j _ _ => (fun _ => rfl) j) (fun j _ _ => (fun _ => rfl) j) | (exfalso; omega))
    · skip
      refine go_toq PM267 (k := 2) (pc' := 1435) (L' := [some (.inr (.inr (some 3000))), some (.inr (.inr (some 0))), some (.inr (.inr (some 79))), some (.inl i)]) (st' := []) (w' := (SH, dt)) rfl ?_
      exact K dt hI hM hM2 hk0 hk1 hk2 hk3 hk4 hk5 hk6 hk7 hk8 hk9 hk10 hk11 hk12 hk13 hk14 hk15 (by first | exact hI | exact TPL_k hd0 (fun _ => rfl) (fun _ => rfl) (by omega) | (exfalso; omega)) (by first | exact hI | exact SCL_k hd1 hM (fun j _ => (fun _ => rfl) j) (fun j _ => (fun _ => rfl) j) (fun j _ _ => (fun _ => rfl) j) | (exfalso; omega)) (by first | exact hI | exact SCL_k hd2 hM2 (fun j _ => (fun _ => rfl) j) (fun j _ => (fun _ => rfl) j) (fun j _ _ => (fun _ => rfl) j) | (exfalso; omega)) (by first | exact hI | exact QRL_k hd3 hM (fun j _ => (fun _ => rfl) j) ((fun _ => rfl) 1) (fun j _ _ => (fun _ => rfl) j) | (exfalso; omega)) (by first | exact hI | exact QRL_k hd4 hM2 (fun j _ => (fun _ => rfl) j) ((fun _ => rfl) 1) (fun j _ _ => (fun _ => rfl) j) | (exfalso; omega)) (by first | exact hI | exact SDL_k hd5 hM (fun j _ => (fun _ => rfl) j) ((fun _ => rfl) 1) (fun j _ _ => (fun _ => rfl) j) (fun j _ _ => (fun _ => rfl) j) | (exfalso; omega)) (by first | exact hI | exact SDL_k hd6 hM2 (fun j _ => (fun _ => rfl) j) ((fun _ => rfl) 1) (fun j _ _ => (fun _ => rfl) j) (fun j _ _ => (fun _ => rfl) j) | (exfalso; omega))
    · skip
      refine go_toq PM267 (k := 2) (pc' := 1435) (L' := [some (.inr (.inr (some 3000))), some (.inr (.inr (some 0))), some (.inr (.inr (some 79))), some (.inl i)]) (st' := []) (w' := (SH, dt)) rfl ?_
      exact K dt hI hM hM2 hk0 hk1 hk2 hk3 hk4 hk5 hk6 hk7 hk8 hk9 hk10 hk11 hk12 hk13 hk14 hk15 (by first | exact hI | exact TPL_k hd0 (fun _ => rfl) (fun _ => rfl) (by omega) | (exfalso; omega)) (by first | exact hI | exact SCL_k hd1 hM (fun j _ => (fun _ => rfl) j) (fun j _ => (fun _ => rfl) j) (fun j _ _ => (fun _ => rfl) j) | (exfalso; omega)) (by first | exact hI | exact SCL_k hd2 hM2 (fun j _ => (fun _ => rfl) j) (fun j _ => (fun _ => rfl) j) (fun j _ _ => (fun _ => rfl) j) | (exfalso; omega)) (by first | exact hI | exact QRL_k hd3 hM (fun j _ => (fun _ => rfl) j) ((fun _ => rfl) 1) (fun j _ _ => (fun _ => rfl) j) | (exfalso; omega)) (by first | exact hI | exact QRL_k hd4 hM2 (fun j _ => (fun _ => rfl) j) ((fun _ => rfl) 1) (fun j _ _ => (fun _ => rfl) j) | (exfalso; omega)) (by first | exact hI | exact SDL_k hd5 hM (fun j _ => (fun _ => rfl) j) ((fun _ => rfl) 1) (fun j _ _ => (fun _ => rfl) j) (fun j _ _ => (fun _ => rfl) j) | (exfalso; omega)) (by first | exact hI | exact SDL_k hd6 hM2 (fun j _ => (fun _ => rfl) j) ((fun _ => rfl) 1) (fun j _ _ => (fun _ => rfl) j) (fun j _ _ => (fun _ => rfl) j) | (exfalso; omega))
    · skip
      refine go_toq PM267 (k := 2) (pc' := 1435) (L' := [some (.inr (.inr (some 3000))), some (.inr (.inr (some 0))), some (.inr (.inr (some 79))), some (.inl i)]) (st' := []) (w' := (SH, dt)) rfl ?_
      exact K dt hI hM hM2 hk0 hk1 hk2 hk3 hk4 hk5 hk6 hk7 hk8 hk9 hk10 hk11 hk12 hk13 hk14 hk15 (by first | exact hI | exact TPL_k hd0 (fun _ => rfl) (fun _ => rfl) (by omega) | (exfalso; omega)) (by first | exact hI | exact SCL_k hd1 hM (fun j _ => (fun _ => rfl) j) (fun j _ => (fun _ => rfl) j) (fun j _ _ => (fun _ => rfl) j) | (exfalso; omega)) (by first | exact hI | exact SCL_k hd2 hM2 (fun j _ => (fun _ => rfl) j) (fun j _ => (fun _ => rfl) j) (fun j _ _ => (fun _ => rfl) j) | (exfalso; omega)) (by first | exact hI | exact QRL_k hd3 hM (fun j _ => (fun _ => rfl) j) ((fun _ => rfl) 1) (fun j _ _ => (fun _ => rfl) j) | (exfalso; omega)) (by first | exact hI | exact QRL_k hd4 hM2 (fun j _ => (fun _ => rfl) j) ((fun _ => rfl) 1) (fun j _ _ => (fun _ => rfl) j) | (exfalso; omega)) (by first | exact hI | exact SDL_k hd5 hM (fun j _ => (fun _ => rfl) j) ((fun _ => rfl) 1) (fun j _ _ => (fun _ => rfl) j) (fun j _ _ => (fun _ => rfl) j) | (exfalso; omega)) (by first | exact hI | exact SDL_k hd6 hM2 (fun j _ => (fun _ => rfl) j) ((fun _ => rfl) 1) (fun j _ _ => (fun _ => rfl) j) (fun j _ _ => (fun _ => rfl) j) | (exfalso; omega))
    · skip
      obtain ⟨h4_0, h4_1⟩ := h4
      refine go_toq PM267 (k := 2) (pc' := 1435) (L' := [some (.inr (.inr (some 3000))), some (.inr (.inr (some 0))), some (.inr (.inr (some 79))), some (.inl i)]) (st' := []) (w' := (SH, dt)) rfl ?_
      exact K dt hI hM hM2 hk0 hk1 hk2 hk3 hk4 hk5 hk6 hk7 hk8 hk9 hk10 hk11 hk12 hk13 hk14 hk15 (by first | exact hI | exact TPL_k hd0 (fun _ => rfl) (fun _ => rfl) (by omega) | (exfalso; omega)) (by first | exact hI | exact SCL_k hd1 hM (fun j _ => (fun _ => rfl) j) (fun j _ => (fun _ => rfl) j) (fun j _ _ => (fun _ => rfl) j) | (exfalso; omega)) (by first | exact hI | exact SCL_k hd2 hM2 (fun j _ => (fun _ => rfl) j) (fun j _ => (fun _ => rfl) j) (fun j _ _ => (fun _ => rfl) j) | (exfalso; omega)) (by first | exact hI | exact QRL_k hd3 hM (fun j _ => (fun _ => rfl) j) ((fun _ => rfl) 1) (fun j _ _ => (fun _ => rfl) j) | (exfalso; omega)) (by first | exact hI | exact QRL_k hd4 hM2 (fun j _ => (fun _ => rfl) j) ((fun _ => rfl) 1) (fun j _ _ => (fun _ => rfl) j) | (exfalso; omega)) (by first | exact hI | exact SDL_k hd5 hM (fun j _ => (fun _ => rfl) j) ((fun _ => rfl) 1) (fun j _ _ => (fun _ => rfl) j) (fun j _ _ => (fun _ => rfl) j) | (exfalso; omega)) (by first | exact hI | exact SDL_k hd6 hM2 (fun j _ => (fun _ => rfl) j) ((fun _ => rfl) 1) (fun j _ _ => (fun _ => rfl) j) (fun j _ _ => (fun _ => rfl) j) | (exfalso; omega))
    · skip
      obtain ⟨h4_0, h4_1⟩ := h4
      refine go_toq PM267 (k := 2) (pc' := 1435) (L' := [some (.inr (.inr (some 3000))), some (.inr (.inr (some 0))), some (.inr (.inr (some 79))), some (.inl i)]) (st' := []) (w' := (SH, dt)) rfl ?_
      exact K dt hI hM hM2 hk0 hk1 hk2 hk3 hk4 hk5 hk6 hk7 hk8 hk9 hk10 hk11 hk12 hk13 hk14 hk15 (by first | exact hI | exact TPL_k hd0 (fun _ => rfl) (fun _ => rfl) (by omega) | (exfalso; omega)) (by first | exact hI | exact SCL_k hd1 hM (fun j _ => (fun _ => rfl) j) (fun j _ => (fun _ => rfl) j) (fun j _ _ => (fun _ => rfl) j) | (exfalso; omega)) (by first | exact hI | exact SCL_k hd2 hM2 (fun j _ => (fun _ => rfl) j) (fun j _ => (fun _ => rfl) j) (fun j _ _ => (fun _ => rfl) j) | (exfalso; omega)) (by first | exact hI | exact QRL_k hd3 hM (fun j _ => (fun _ => rfl) j) ((fun _ => rfl) 1) (fun j _ _ => (fun _ => rfl) j) | (exfalso; omega)) (by first | exact hI | exact QRL_k hd4 hM2 (fun j _ => (fun _ => rfl) j) ((fun _ => rfl) 1) (fun j _ _ => (fun _ => rfl) j) | (exfalso; omega)) (by first | exact hI | exact SDL_k hd5 hM (fun j _ => (fun _ => rfl) j) ((fun _ => rfl) 1) (fun j _ _ => (fun _ => rfl) j) (fun j _ _ => (fun _ => rfl) j) | (exfalso; omega)) (by first | exact hI | exact SDL_k hd6 hM2 (fun j _ => (fun _ => rfl) j) ((fun _ => rfl) 1) (fun j _ _ => (fun _ => rfl) j) (fun j _ _ => (fun _ => rfl) j) | (exfalso; omega))
    · skip
      refine go_toq PM267 (k := 2) (pc' := 1435) (L' := [some (.inr (.inr (some 3000))), some (.inr (.inr (some 0))), some (.inr (.inr (some 79))), some (.inl i)]) (st' := []) (w' := (SH, dt)) rfl ?_
      exact K dt hI hM hM2 hk0 hk1 hk2 hk3 hk4 hk5 hk6 hk7 hk8 hk9 hk10 hk11 hk12 hk13 hk14 hk15 (by first | exact hI | exact TPL_k hd0 (fun _ => rfl) (fun _ => rfl) (by omega) | (exfalso; omega)) (by first | exact hI | exact SCL_k hd1 hM (fun j _ => (fun _ => rfl) j) (fun j _ => (fun _ => rfl) j) (fun j _ _ => (fun _ => rfl) j) | (exfalso; omega)) (by first | exact hI | exact SCL_k hd2 hM2 (fun j _ => (fun _ => rfl) j) (fun j _ => (fun _ => rfl) j) (fun j _ _ => (fun _ => rfl) j) | (exfalso; omega)) (by first | exact hI | exact QRL_k hd3 hM (fun j _ => (fun _ => rfl) j) ((fun _ => rfl) 1) (fun j _ _ => (fun _ => rfl) j) | (exfalso; omega)) (by first | exact hI | exact QRL_k hd4 hM2 (fun j _ => (fun _ => rfl) j) ((fun _ => rfl) 1) (fun j _ _ => (fun _ => rfl) j) | (exfalso; omega)) (by first | exact hI | exact SDL_k hd5 hM (fun j _ => (fun _ => rfl) j) ((fun _ => rfl) 1) (fun j _ _ => (fun _ => rfl) j) (fun j _ _ => (fun _ => rfl) j) | (exfalso; omega)) (by first | exact hI | exact SDL_k hd6 hM2 (fun j _ => (fun _ => rfl) j) ((fun _ => rfl) 1) (fun j _ _ => (fun _ => rfl) j) (fun j _ _ => (fun _ => rfl) j) | (exfalso; omega))
  · skip
    refine go_toq PM267 (k := 6) (pc' := 1427) (L' := [some (.inr (.inr (some 3000))), some (.inr (.inr (some 0))), some (.inr (.inr (some 79))), some (.inl i)]) (st' := [.inl (i + 1), .inr (.inr (some 3000)), .inr (.inr (some 79))]) (w' := (SH, dt)) rfl ?_
    refine go_smpq PM267 (L' := [some (.inr (.inr (some 3000))), some (.inr (.inr (some 0))), some (.inr (.inr (some 79))), some (.inl i)]) (st' := [.inl ((xs ((i + 1).toNat)).toInt), .inr (.inr (some 79))]) (w' := (SH, dt)) rfl rfl (s_iald (n := L) (f := fun j => (xs j).toInt) (am_scr hLL) ⟨by omega, by omega⟩) ?_
    refine go_callq PM267 PM248 (Q' := _) rfl rfl rfl rfl (sp_X6_look L xs sio (d + 38) dt hI  ((xs ((i + 1).toNat)).toInt) ⟨by omega, by omega⟩ ) ?_
    rintro _ _ ⟨rfl, h5⟩
    refine ⟨rfl, ?_⟩
    rcases h5 with ⟨rfl, h5⟩ | ⟨rfl, h5⟩ | ⟨rfl, h5⟩ | ⟨rfl, h5⟩ | ⟨rfl, h5⟩ | ⟨rfl, h5⟩ | ⟨rfl, h5⟩ | ⟨rfl, h5⟩ | ⟨rfl, h5⟩
    · skip
      refine go_toq PM267 (k := 2) (pc' := 1435) (L' := [some (.inr (.inr (some 3000))), some (.inr (.inr (some 0))), some (.inr (.inr (some 79))), some (.inl i)]) (st' := []) (w' := (SH, dt)) rfl ?_
      exact K dt hI hM hM2 hk0 hk1 hk2 hk3 hk4 hk5 hk6 hk7 hk8 hk9 hk10 hk11 hk12 hk13 hk14 hk15 (by first | exact hI | exact TPL_k hd0 (fun _ => rfl) (fun _ => rfl) (by omega) | (exfalso; omega)) (by first | exact hI | exact SCL_k hd1 hM (fun j _ => (fun _ => rfl) j) (fun j _ => (fun _ => rfl) j) (fun j _ _ => (fun _ => rfl) j) | (exfalso; omega)) (by first | exact hI | exact SCL_k hd2 hM2 (fun j _ => (fun _ => rfl) j) (fun j _ => (fun _ => rfl) j) (fun j _ _ => (fun _ => rfl) j) | (exfalso; omega)) (by first | exact hI | exact QRL_k hd3 hM (fun j _ => (fun _ => rfl) j) ((fun _ => rfl) 1) (fun j _ _ => (fun _ => rfl) j) | (exfalso; omega)) (by first | exact hI | exact QRL_k hd4 hM2 (fun j _ => (fun _ => rfl) j) ((fun _ => rfl) 1) (fun j _ _ => (fun _ => rfl) j) | (exfalso; omega)) (by first | exact hI | exact SDL_k hd5 hM (fun j _ => (fun _ => rfl) j) ((fun _ => rfl) 1) (fun j _ _ => (fun _ => rfl) j) (fun j _ _ => (fun _ => rfl) j) | (exfalso; omega)) (by first | exact hI | exact SDL_k hd6 hM2 (fun j _ => (fun _ => rfl) j) ((fun _ => rfl) 1) (fun j _ _ => (fun _ => rfl) j) (fun j _ _ => (fun _ => rfl) j) | (exfalso; omega))
    · skip
      refine go_toq PM267 (k := 2) (pc' := 1435) (L' := [some (.inr (.inr (some 3000))), some (.inr (.inr (some 0))), some (.inr (.inr (some 79))), some (.inl i)]) (st' := []) (w' := (SH, dt)) rfl ?_
      exact K dt hI hM hM2 hk0 hk1 hk2 hk3 hk4 hk5 hk6 hk7 hk8 hk9 hk10 hk11 hk12 hk13 hk14 hk15 (by first | exact hI | exact TPL_k hd0 (fun _ => rfl) (fun _ => rfl) (by omega) | (exfalso; omega)) (by first | exact hI | exact SCL_k hd1 hM (fun j _ => (fun _ => rfl) j) (fun j _ => (fun _ => rfl) j) (fun j _ _ => (fun _ => rfl) j) | (exfalso; omega)) (by first | exact hI | exact SCL_k hd2 hM2 (fun j _ => (fun _ => rfl) j) (fun j _ => (fun _ => rfl) j) (fun j _ _ => (fun _ => rfl) j) | (exfalso; omega)) (by first | exact hI | exact QRL_k hd3 hM (fun j _ => (fun _ => rfl) j) ((fun _ => rfl) 1) (fun j _ _ => (fun _ => rfl) j) | (exfalso; omega)) (by first | exact hI | exact QRL_k hd4 hM2 (fun j _ => (fun _ => rfl) j) ((fun _ => rfl) 1) (fun j _ _ => (fun _ => rfl) j) | (exfalso; omega)) (by first | exact hI | exact SDL_k hd5 hM (fun j _ => (fun _ => rfl) j) ((fun _ => rfl) 1) (fun j _ _ => (fun _ => rfl) j) (fun j _ _ => (fun _ => rfl) j) | (exfalso; omega)) (by first | exact hI | exact SDL_k hd6 hM2 (fun j _ => (fun _ => rfl) j) ((fun _ => rfl) 1) (fun j _ _ => (fun _ => rfl) j) (fun j _ _ => (fun _ => rfl) j) | (exfalso; omega))
    · skip
      refine go_toq PM267 (k := 2) (pc' := 1435) (L' := [some (.inr (.inr (some 3000))), some (.inr (.inr (some 0))), some (.inr (.inr (some 79))), some (.inl i)]) (st' := []) (w' := (SH, dt)) rfl ?_
      exact K dt hI hM hM2 hk0 hk1 hk2 hk3 hk4 hk5 hk6 hk7 hk8 hk9 hk10 hk11 hk12 hk13 hk14 hk15 (by first | exact hI | exact TPL_k hd0 (fun _ => rfl) (fun _ => rfl) (by omega) | (exfalso; omega)) (by first | exact hI | exact SCL_k hd1 hM (fun j _ => (fun _ => rfl) j) (fun j _ => (fun _ => rfl) j) (fun j _ _ => (fun _ => rfl) j) | (exfalso; omega)) (by first | exact hI | exact SCL_k hd2 hM2 (fun j _ => (fun _ => rfl) j) (fun j _ => (fun _ => rfl) j) (fun j _ _ => (fun _ => rfl) j) | (exfalso; omega)) (by first | exact hI | exact QRL_k hd3 hM (fun j _ => (fun _ => rfl) j) ((fun _ => rfl) 1) (fun j _ _ => (fun _ => rfl) j) | (exfalso; omega)) (by first | exact hI | exact QRL_k hd4 hM2 (fun j _ => (fun _ => rfl) j) ((fun _ => rfl) 1) (fun j _ _ => (fun _ => rfl) j) | (exfalso; omega)) (by first | exact hI | exact SDL_k hd5 hM (fun j _ => (fun _ => rfl) j) ((fun _ => rfl) 1) (fun j _ _ => (fun _ => rfl) j) (fun j _ _ => (fun _ => rfl) j) | (exfalso; omega)) (by first | exact hI | exact SDL_k hd6 hM2 (fun j _ => (fun _ => rfl) j) ((fun _ => rfl) 1) (fun j _ _ => (fun _ => rfl) j) (fun j _ _ => (fun _ => rfl) j) | (exfalso; omega))
    · skip
      refine go_toq PM267 (k := 2) (pc' := 1435) (L' := [some (.inr (.inr (some 3000))), some (.inr (.inr (some 0))), some (.inr (.inr (some 79))), some (.inl i)]) (st' := []) (w' := (SH, dt)) rfl ?_
      exact K dt hI hM hM2 hk0 hk1 hk2 hk3 hk4 hk5 hk6 hk7 hk8 hk9 hk10 hk11 hk12 hk13 hk14 hk15 (by first | exact hI | exact TPL_k hd0 (fun _ => rfl) (fun _ => rfl) (by omega) | (exfalso; omega)) (by first | exact hI | exact SCL_k hd1 hM (fun j _ => (fun _ => rfl) j) (fun j _ => (fun _ => rfl) j) (fun j _ _ => (fun _ => rfl) j) | (exfalso; omega)) (by first | exact hI | exact SCL_k hd2 hM2 (fun j _ => (fun _ => rfl) j) (fun j _ => (fun _ => rfl) j) (fun j _ _ => (fun _ => rfl) j) | (exfalso; omega)) (by first | exact hI | exact QRL_k hd3 hM (fun j _ => (fun _ => rfl) j) ((fun _ => rfl) 1) (fun j _ _ => (fun _ => rfl) j) | (exfalso; omega)) (by first | exact hI | exact QRL_k hd4 hM2 (fun j _ => (fun _ => rfl) j) ((fun _ => rfl) 1) (fun j _ _ => (fun _ => rfl) j) | (exfalso; omega)) (by first | exact hI | exact SDL_k hd5 hM (fun j _ => (fun _ => rfl) j) ((fun _ => rfl) 1) (fun j _ _ => (fun _ => rfl) j) (fun j _ _ => (fun _ => rfl) j) | (exfalso; omega)) (by first | exact hI | exact SDL_k hd6 hM2 (fun j _ => (fun _ => rfl) j) ((fun _ => rfl) 1) (fun j _ _ => (fun _ => rfl) j) (fun j _ _ => (fun _ => rfl) j) | (exfalso; omega))
    · skip
      refine go_toq PM267 (k := 2) (pc' := 1435) (L' := [some (.inr (.inr (some 3000))), some (.inr (.inr (some 0))), some (.inr (.inr (some 79))), some (.inl i)]) (st' := []) (w' := (SH, dt)) rfl ?_
      exact K dt hI hM hM2 hk0 hk1 hk2 hk3 hk4 hk5 hk6 hk7 hk8 hk9 hk10 hk11 hk12 hk13 hk14 hk15 (by first | exact hI | exact TPL_k hd0 (fun _ => rfl) (fun _ => rfl) (by omega) | (exfalso; omega)) (by first | exact hI | exact SCL_k hd1 hM (fun j _ => (fun _ => rfl) j) (fun j _ => (fun _ => rfl) j) (fun j _ _ => (fun _ => rfl) j) | (exfalso; omega)) (by first | exact hI | exact SCL_k hd2 hM2 (fun j _ => (fun _ => rfl) j) (fun j _ => (fun _ => rfl) j) (fun j _ _ => (fun _ => rfl) j) | (exfalso; omega)) (by first | exact hI | exact QRL_k hd3 hM (fun j _ => (fun _ => rfl) j) ((fun _ => rfl) 1) (fun j _ _ => (fun _ => rfl) j) | (exfalso; omega)) (by first | exact hI | exact QRL_k hd4 hM2 (fun j _ => (fun _ => rfl) j) ((fun _ => rfl) 1) (fun j _ _ => (fun _ => rfl) j) | (exfalso; omega)) (by first | exact hI | exact SDL_k hd5 hM (fun j _ => (fun _ => rfl) j) ((fun _ => rfl) 1) (fun j _ _ => (fun _ => rfl) j) (fun j _ _ => (fun _ => rfl) j) | (exfalso; omega)) (by first | exact hI | exact SDL_k hd6 hM2 (fun j _ => (fun _ => rfl) j) ((fun _ => rfl) 1) (fun j _ _ => (fun _ => rfl) j) (fun j _ _ => (fun _ => rfl) j) | (exfalso; omega))
    · skip
      refine go_toq PM267 (k := 2) (pc' := 1435) (L' := [some (.inr (.inr (some 3000))), some (.inr (.inr (some 0))), some (.inr (.inr (some 79))), some (.inl i)]) (st' := []) (w' := (SH, dt)) rfl ?_
      exact K dt hI hM hM2 hk0 hk1 hk2 hk3 hk4 hk5 hk6 hk7 hk8 hk9 hk10 hk11 hk12 hk13 hk14 hk15 (by first | exact hI | exact TPL_k hd0 (fun _ => rfl) (fun _ => rfl) (by omega) | (exfalso; omega)) (by first | exact hI | exact SCL_k hd1 hM (fun j _ => (fun _ => rfl) j) (fun j _ => (fun _ => rfl) j) (fun j _ _ => (fun _ => rfl) j) | (exfalso; omega)) (by first | exact hI | exact SCL_k hd2 hM2 (fun j _ => (fun _ => rfl) j) (fun j _ => (fun _ => rfl) j) (fun j _ _ => (fun _ => rfl) j) | (exfalso; omega)) (by first | exact hI | exact QRL_k hd3 hM (fun j _ => (fun _ => rfl) j) ((fun _ => rfl) 1) (fun j _ _ => (fun _ => rfl) j) | (exfalso; omega)) (by first | exact hI | exact QRL_k hd4 hM2 (fun j _ => (fun _ => rfl) j) ((fun _ => rfl) 1) (fun j _ _ => (fun _ => rfl) j) | (exfalso; omega)) (by first | exact hI | exact SDL_k hd5 hM (fun j _ => (fun _ => rfl) j) ((fun _ => rfl) 1) (fun j _ _ => (fun _ => rfl) j) (fun j _ _ => (fun _ => rfl) j) | (exfalso; omega)) (by first | exact hI | exact SDL_k hd6 hM2 (fun j _ => (fun _ => rfl) j) ((fun _ => rfl) 1) (fun j _ _ => (fun _ => rfl) j) (fun j _ _ => (fun _ => rfl) j) | (exfalso; omega))
    · skip
      obtain ⟨h5_0, h5_1⟩ := h5
      refine go_toq PM267 (k := 2) (pc' := 1435) (L' := [some (.inr (.inr (some 3000))), some (.inr (.inr (some 0))), some (.inr (.inr (some 79))), some (.inl i)]) (st' := []) (w' := (SH, dt)) rfl ?_
      exact K dt hI hM hM2 hk0 hk1 hk2 hk3 hk4 hk5 hk6 hk7 hk8 hk9 hk10 hk11 hk12 hk13 hk14 hk15 (by first | exact hI | exact TPL_k hd0 (fun _ => rfl) (fun _ => rfl) (by omega) | (exfalso; omega)) (by first | exact hI | exact SCL_k hd1 hM (fun j _ => (fun _ => rfl) j) (fun j _ => (fun _ => rfl) j) (fun j _ _ => (fun _ => rfl) j) | (exfalso; omega)) (by first | exact hI | exact SCL_k hd2 hM2 (fun j _ => (fun _ => rfl) j) (fun j _ => (fun _ => rfl) j) (fun j _ _ => (fun _ => rfl) j) | (exfalso; omega)) (by first | exact hI | exact QRL_k hd3 hM (fun j _ => (fun _ => rfl) j) ((fun _ => rfl) 1) (fun j _ _ => (fun _ => rfl) j) | (exfalso; omega)) (by first | exact hI | exact QRL_k hd4 hM2 (fun j _ => (fun _ => rfl) j) ((fun _ => rfl) 1) (fun j _ _ => (fun _ => rfl) j) | (exfalso; omega)) (by first | exact hI | exact SDL_k hd5 hM (fun j _ => (fun _ => rfl) j) ((fun _ => rfl) 1) (fun j _ _ => (fun _ => rfl) j) (fun j _ _ => (fun _ => rfl) j) | (exfalso; omega)) (by first | exact hI | exact SDL_k hd6 hM2 (fun j _ => (fun _ => rfl) j) ((fun _ => rfl) 1) (fun j _ _ => (fun _ => rfl) j) (fun j _ _ => (fun _ => rfl) j) | (exfalso; omega))
    · skip
      obtain ⟨h5_0, h5_1⟩ := h5
      refine go_toq PM267 (k := 2) (pc' := 1435) (L' := [some (.inr (.inr (some 3000))), some (.inr (.inr (some 0))), some (.inr (.inr (some 79))), some (.inl i)]) (st' := []) (w' := (SH, dt)) rfl ?_
      exact K dt hI hM hM2 hk0 hk1 hk2 hk3 hk4 hk5 hk6 hk7 hk8 hk9 hk10 hk11 hk12 hk13 hk14 hk15 (by first | exact hI | exact TPL_k hd0 (fun _ => rfl) (fun _ => rfl) (by omega) | (exfalso; omega)) (by first | exact hI | exact SCL_k hd1 hM (fun j _ => (fun _ => rfl) j) (fun j _ => (fun _ => rfl) j) (fun j _ _ => (fun _ => rfl) j) | (exfalso; omega)) (by first | exact hI | exact SCL_k hd2 hM2 (fun j _ => (fun _ => rfl) j) (fun j _ => (fun _ => rfl) j) (fun j _ _ => (fun _ => rfl) j) | (exfalso; omega)) (by first | exact hI | exact QRL_k hd3 hM (fun j _ => (fun _ => rfl) j) ((fun _ => rfl) 1) (fun j _ _ => (fun _ => rfl) j) | (exfalso; omega)) (by first | exact hI | exact QRL_k hd4 hM2 (fun j _ => (fun _ => rfl) j) ((fun _ => rfl) 1) (fun j _ _ => (fun _ => rfl) j) | (exfalso; omega)) (by first | exact hI | exact SDL_k hd5 hM (fun j _ => (fun _ => rfl) j) ((fun _ => rfl) 1) (fun j _ _ => (fun _ => rfl) j) (fun j _ _ => (fun _ => rfl) j) | (exfalso; omega)) (by first | exact hI | exact SDL_k hd6 hM2 (fun j _ => (fun _ => rfl) j) ((fun _ => rfl) 1) (fun j _ _ => (fun _ => rfl) j) (fun j _ _ => (fun _ => rfl) j) | (exfalso; omega))
    · skip
      refine go_toq PM267 (k := 2) (pc' := 1435) (L' := [some (.inr (.inr (some 3000))), some (.inr (.inr (some 0))), some (.inr (.inr (some 79))), some (.inl i)]) (st' := []) (w' := (SH, dt)) rfl ?_
      exact K dt hI hM hM2 hk0 hk1 hk2 hk3 hk4 hk5 hk6 hk7 hk8 hk9 hk10 hk11 hk12 hk13 hk14 hk15 (by first | exact hI | exact TPL_k hd0 (fun _ => rfl) (fun _ => rfl) (by omega) | (exfalso; omega)) (by first | exact hI | exact SCL_k hd1 hM (fun j _ => (fun _ => rfl) j) (fun j _ => (fun _ => rfl) j) (fun j _ _ => (fun _ => rfl) j) | (exfalso; omega)) (by first | exact hI | exact SCL_k hd2 hM2 (fun j _ => (fun _ => rfl) j) (fun j _ => (fun _ => rfl) j) (fun j _ _ => (fun _ => rfl) j) | (exfalso; omega)) (by first | exact hI | exact QRL_k hd3 hM (fun j _ => (fun _ => rfl) j) ((fun _ => rfl) 1) (fun j _ _ => (fun _ => rfl) j) | (exfalso; omega)) (by first | exact hI | exact QRL_k hd4 hM2 (fun j _ => (fun _ => rfl) j) ((fun _ => rfl) 1) (fun j _ _ => (fun _ => rfl) j) | (exfalso; omega)) (by first | exact hI | exact SDL_k hd5 hM (fun j _ => (fun _ => rfl) j) ((fun _ => rfl) 1) (fun j _ _ => (fun _ => rfl) j) (fun j _ _ => (fun _ => rfl) j) | (exfalso; omega)) (by first | exact hI | exact SDL_k hd6 hM2 (fun j _ => (fun _ => rfl) j) ((fun _ => rfl) 1) (fun j _ _ => (fun _ => rfl) j) (fun j _ _ => (fun _ => rfl) j) | (exfalso; omega))
  · skip
    refine go_toq PM267 (k := 6) (pc' := 1427) (L' := [some (.inr (.inr (some 3000))), some (.inr (.inr (some 0))), some (.inr (.inr (some 79))), some (.inl i)]) (st' := [.inl (i + 1), .inr (.inr (some 3000)), .inr (.inr (some 79))]) (w' := (SH, dt)) rfl ?_
    refine go_smpq PM267 (L' := [some (.inr (.inr (some 3000))), some (.inr (.inr (some 0))), some (.inr (.inr (some 79))), some (.inl i)]) (st' := [.inl ((xs ((i + 1).toNat)).toInt), .inr (.inr (some 79))]) (w' := (SH, dt)) rfl rfl (s_iald (n := L) (f := fun j => (xs j).toInt) (am_scr hLL) ⟨by omega, by omega⟩) ?_
    refine go_callq PM267 PM248 (Q' := _) rfl rfl rfl rfl (sp_X6_look L xs sio (d + 38) dt hI  ((xs ((i + 1).toNat)).toInt) ⟨by omega, by omega⟩ ) ?_
    rintro _ _ ⟨rfl, h6⟩
    refine ⟨rfl, ?_⟩
    rcases h6 with ⟨rfl, h6⟩ | ⟨rfl, h6⟩ | ⟨rfl, h6⟩ | ⟨rfl, h6⟩ | ⟨rfl, h6⟩ | ⟨rfl, h6⟩ | ⟨rfl, h6⟩ | ⟨rfl, h6⟩ | ⟨rfl, h6⟩
    · skip
      refine go_toq PM267 (k := 2) (pc' := 1435) (L' := [some (.inr (.inr (some 3000))), some (.inr (.inr (some 0))), some (.inr (.inr (some 79))), some (.inl i)]) (st' := []) (w' := (SH, dt)) rfl ?_
      exact K dt hI hM hM2 hk0 hk1 hk2 hk3 hk4 hk5 hk6 hk7 hk8 hk9 hk10 hk11 hk12 hk13 hk14 hk15 (by first | exact hI | exact TPL_k hd0 (fun _ => rfl) (fun _ => rfl) (by omega) | (exfalso; omega)) (by first | exact hI | exact SCL_k hd1 hM (fun j _ => (fun _ => rfl) j) (fun j _ => (fun _ => rfl) j) (fun j _ _ => (fun _ => rfl) j) | (exfalso; omega)) (by first | exact hI | exact SCL_k hd2 hM2 (fun j _ => (fun _ => rfl) j) (fun j _ => (fun _ => rfl) j) (fun j _ _ => (fun _ => rfl) j) | (exfalso; omega)) (by first | exact hI | exact QRL_k hd3 hM (fun j _ => (fun _ => rfl) j) ((fun _ => rfl) 1) (fun j _ _ => (fun _ => rfl) j) | (exfalso; omega)) (by first | exact hI | exact QRL_k hd4 hM2 (fun j _ => (fun _ => rfl) j) ((fun _ => rfl) 1) (fun j _ _ => (fun _ => rfl) j) | (exfalso; omega)) (by first | exact hI | exact SDL_k hd5 hM (fun j _ => (fun _ => rfl) j) ((fun _ => rfl) 1) (fun j _ _ => (fun _ => rfl) j) (fun j _ _ => (fun _ => rfl) j) | (exfalso; omega)) (by first | exact hI | exact SDL_k hd6 hM2 (fun j _ => (fun _ => rfl) j) ((fun _ => rfl) 1) (fun j _ _ => (fun _ => rfl) j) (fun j _ _ => (fun _ => rfl) j) | (exfalso; omega))
    · skip
      refine go_toq PM267 (k := 2) (pc' := 1435) (L' := [some (.inr (.inr (some 3000))), some (.inr (.inr (some 0))), some (.inr (.inr (some 79))), some (.inl i)]) (st' := []) (w' := (SH, dt)) rfl ?_
      exact K dt hI hM hM2 hk0 hk1 hk2 hk3 hk4 hk5 hk6 hk7 hk8 hk9 hk10 hk11 hk12 hk13 hk14 hk15 (by first | exact hI | exact TPL_k hd0 (fun _ => rfl) (fun _ => rfl) (by omega) | (exfalso; omega)) (by first | exact hI | exact SCL_k hd1 hM (fun j _ => (fun _ => rfl) j) (fun j _ => (fun _ => rfl) j) (fun j _ _ => (fun _ => rfl) j) | (exfalso; omega)) (by first | exact hI | exact SCL_k hd2 hM2 (fun j _ => (fun _ => rfl) j) (fun j _ => (fun _ => rfl) j) (fun j _ _ => (fun _ => rfl) j) | (exfalso; omega)) (by first | exact hI | exact QRL_k hd3 hM (fun j _ => (fun _ => rfl) j) ((fun _ => rfl) 1) (fun j _ _ => (fun _ => rfl) j) | (exfalso; omega)) (by first | exact hI | exact QRL_k hd4 hM2 (fun j _ => (fun _ => rfl) j) ((fun _ => rfl) 1) (fun j _ _ => (fun _ => rfl) j) | (exfalso; omega)) (by first | exact hI | exact SDL_k hd5 hM (fun j _ => (fun _ => rfl) j) ((fun _ => rfl) 1) (fun j _ _ => (fun _ => rfl) j) (fun j _ _ => (fun _ => rfl) j) | (exfalso; omega)) (by first | exact hI | exact SDL_k hd6 hM2 (fun j _ => (fun _ => rfl) j) ((fun _ => rfl) 1) (fun j _ _ => (fun _ => rfl) j) (fun j _ _ => (fun _ => rfl) j) | (exfalso; omega))
    · skip
      refine go_toq PM267 (k := 2) (pc' := 1435) (L' := [some (.inr (.inr (some 3000))), some (.inr (.inr (some 0))), some (.inr (.inr (some 79))), some (.inl i)]) (st' := []) (w' := (SH, dt)) rfl ?_
      exact K dt hI hM hM2 hk0 hk1 hk2 hk3 hk4 hk5 hk6 hk7 hk8 hk9 hk10 hk11 hk12 hk13 hk14 hk15 (by first | exact hI | exact TPL_k hd0 (fun _ => rfl) (fun _ => rfl) (by omega) | (exfalso; omega)) (by first | exact hI | exact SCL_k hd1 hM (fun j _ => (fun _ => rfl) j) (fun j _ => (fun _ => rfl) j) (fun j _ _ => (fun _ => rfl) j) | (exfalso; omega)) (by first | exact hI | exact SCL_k hd2 hM2 (fun j _ => (fun _ => rfl) j) (fun j _ => (fun _ => rfl) j) (fun j _ _ => (fun _ => rfl) j) | (exfalso; omega)) (by first | exact hI | exact QRL_k hd3 hM (fun j _ => (fun _ => rfl) j) ((fun _ => rfl) 1) (fun j _ _ => (fun _ => rfl) j) | (exfalso; omega)) (by first | exact hI | exact QRL_k hd4 hM2 (fun j _ => (fun _ => rfl) j) ((fun _ => rfl) 1) (fun j _ _ => (fun _ => rfl) j) | (exfalso; omega)) (by first | exact hI | exact SDL_k hd5 hM (fun j _ => (fun _ => rfl) j) ((fun _ => rfl) 1) (fun j _ _ => (fun _ => rfl) j) (fun j _ _ => (fun _ => rfl) j) | (exfalso; omega)) (by first | exact hI | exact SDL_k hd6 hM2 (fun j _ => (fun _ => rfl) j) ((fun _ => rfl) 1) (fun j _ _ => (fun _ => rfl) j) (fun j _ _ => (fun _ => rfl) j) | (exfalso; omega))
    · skip
      refine go_toq PM267 (k := 2) (pc' := 1435) (L' := [some (.inr (.inr (some 3000))), some (.inr (.inr (some 0))), some (.inr (.inr (some 79))), some (.inl i)]) (st' := []) (w' := (SH, dt)) rfl ?_
      exact K dt hI hM hM2 hk0 hk1 hk2 hk3 hk4 hk5 hk6 hk7 hk8 hk9 hk10 hk11 hk12 hk13 hk14 hk15 (by first | exact hI | exact TPL_k hd0 (fun _ => rfl) (fun _ => rfl) (by omega) | (exfalso; omega)) (by first | exact hI | exact SCL_k hd1 hM (fun j _ => (fun _ => rfl) j) (fun j _ => (fun _ => rfl) j) (fun j _ _ => (fun _ => rfl) j) | (exfalso; omega)) (by first | exact hI | exact SCL_k hd2 hM2 (fun j _ => (fun _ => rfl) j) (fun j _ => (fun _ => rfl) j) (fun j _ _ => (fun _ => rfl) j) | (exfalso; omega)) (by first | exact hI | exact QRL_k hd3 hM (fun j _ => (fun _ => rfl) j) ((fun _ => rfl) 1) (fun j _ _ => (fun _ => rfl) j) | (exfalso; omega)) (by first | exact hI | exact QRL_k hd4 hM2 (fun j _ => (fun _ => rfl) j) ((fun _ => rfl) 1) (fun j _ _ => (fun _ => rfl) j) | (exfalso; omega)) (by first | exact hI | exact SDL_k hd5 hM (fun j _ => (fun _ => rfl) j) ((fun _ => rfl) 1) (fun j _ _ => (fun _ => rfl) j) (fun j _ _ => (fun _ => rfl) j) | (exfalso; omega)) (by first | exact hI | exact SDL_k hd6 hM2 (fun j _ => (fun _ => rfl) j) ((fun _ => rfl) 1) (fun j _ _ => (fun _ => rfl) j) (fun j _ _ => (fun _ => rfl) j) | (exfalso; omega))
    · skip
      refine go_toq PM267 (k := 2) (pc' := 1435) (L' := [some (.inr (.inr (some 3000))), some (.inr (.inr (some 0))), some (.inr (.inr (some 79))), some (.inl i)]) (st' := []) (w' := (SH, dt)) rfl ?_
      exact K dt hI hM hM2 hk0 hk1 hk2 hk3 hk4 hk5 hk6 hk7 hk8 hk9 hk10 hk11 hk12 hk13 hk14 hk15 (by first | exact hI | exact TPL_k hd0 (fun _ => rfl) (fun _ => rfl) (by omega) | (exfalso; omega)) (by first | exact hI | exact SCL_k hd1 hM (fun j _ => (fun _ => rfl) j) (fun j _ => (fun _ => rfl) j) (fun j _ _ => (fun _ => rfl) j) | (exfalso; omega)) (by first | exact hI | exact SCL_k hd2 hM2 (fun j _ => (fun _ => rfl) j) (fun j _ => (fun _ => rfl) j) (fun j _ _ => (fun _ => rfl) j) | (exfalso; omega)) (by first | exact hI | exact QRL_k hd3 hM (fun j _ => (fun _ => rfl) j) ((fun _ => rfl) 1) (fun j _ _ => (fun _ => rfl) j) | (exfalso; omega)) (by first | exact hI | exact QRL_k hd4 hM2 (fun j _ => (fun _ => rfl) j) ((fun _ => rfl) 1) (fun j _ _ => (fun _ => rfl) j) | (exfalso; omega)) (by first | exact hI | exact SDL_k hd5 hM (fun j _ => (fun _ => rfl) j) ((fun _ => rfl) 1) (fun j _ _ => (fun _ => rfl) j) (fun j _ _ => (fun _ => rfl) j) | (exfalso; omega)) (by first | exact hI | exact SDL_k hd6 hM2 (fun j _ => (fun _ => rfl) j) ((fun _ => rfl) 1) (fun j _ _ => (fun _ => rfl) j) (fun j _ _ => (fun _ => rfl) j) | (exfalso; omega))
    · skip
      refine go_toq PM267 (k := 2) (pc' := 1435) (L' := [some (.inr (.inr (some 3000))), some (.inr (.inr (some 0))), some (.inr (.inr (some 79))), some (.inl i)]) (st' := []) (w' := (SH, dt)) rfl ?_
      exact K dt hI hM hM2 hk0 hk1 hk2 hk3 hk4 hk5 hk6 hk7 hk8 hk9 hk10 hk11 hk12 hk13 hk14 hk15 (by first | exact hI | exact TPL_k hd0 (fun _ => rfl) (fun _ => rfl) (by omega) | (exfalso; omega)) (by first | exact hI | exact SCL_k hd1 hM (fun j _ => (fun _ => rfl) j) (fun j _ => (fun _ => rfl) j) (fun j _ _ => (fun _ => rfl) j) | (exfalso; omega)) (by first | exact hI | exact SCL_k hd2 hM2 (fun j _ => (fun _ => rfl) j) (fun j _ => (fun _ => rfl) j) (fun j _ _ => (fun _ => rfl) j) | (exfalso; omega)) (by first | exact hI | exact QRL_k hd3 hM (fun j _ => (fun _ => rfl) j) ((fun _ => rfl) 1) (fun j _ _ => (fun _ => rfl) j) | (exfalso; omega)) (by first | exact hI | exact QRL_k hd4 hM2 (fun j _ => (fun _ => rfl) j) ((fun _ => rfl) 1) (fun j _ _ => (fun _ => rfl) j) | (exfalso; omega)) (by first | exact hI | exact SDL_k hd5 hM (fun j _ => (fun _ => rfl) j) ((fun _ => rfl) 1) (fun j _ _ => (fun _ => rfl) j) (fun j _ _ => (fun _ => rfl) j) | (exfalso; omega)) (by first | exact hI | exact SDL_k hd6 hM2 (fun j _ => (fun _ => rfl) j) ((fun _ => rfl) 1) (fun j _ _ => (fun _ => rfl) j) (fun j _ _ => (fun _ => rfl) j) | (exfalso; omega))
    · skip
      obtain ⟨h6_0, h6_1⟩ := h6
      refine go_toq PM267 (k := 2) (pc' := 1435) (L' := [some (.inr (.inr (some 3000))), some (.inr (.inr (some 0))), some (.inr (.inr (some 79))), some (.inl i)]) (st' := []) (w' := (SH, dt)) rfl ?_
      exact K dt hI hM hM2 hk0 hk1 hk2 hk3 hk4 hk5 hk6 hk7 hk8 hk9 hk10 hk11 hk12 hk13 hk14 hk15 (by first | exact hI | exact TPL_k hd0 (fun _ => rfl) (fun _ => rfl) (by omega) | (exfalso; omega)) (by first | exact hI | exact SCL_k hd1 hM (fun j _ => (fun _ => rfl) j) (fun j _ => (fun _ => rfl) j) (fun j _ _ => (fun _ => rfl) j) | (exfalso; omega)) (by first | exact hI | exact SCL_k hd2 hM2 (fun j _ => (fun _ => rfl) j) (fun j _ => (fun _ => rfl) j) (fun j _ _ => (fun _ => rfl) j) | (exfalso; omega)) (by first | exact hI | exact QRL_k hd3 hM (fun j _ => (fun _ => rfl) j) ((fun _ => rfl) 1) (fun j _ _ => (fun _ => rfl) j) | (exfalso; omega)) (by first | exact hI | exact QRL_k hd4 hM2 (fun j _ => (fun _ => rfl) j) ((fun _ => rfl) 1) (fun j _ _ => (fun _ => rfl) j) | (exfalso; omega)) (by first | exact hI | exact SDL_k hd5 hM (fun j _ => (fun _ => rfl) j) ((fun _ => rfl) 1) (fun j _ _ => (fun _ => rfl) j) (fun j _ _ => (fun _ => rfl) j) | (exfalso; omega)) (by first | exact hI | exact SDL_k hd6 hM2 (fun j _ => (fun _ => rfl) j) ((fun _ => rfl) 1) (fun j _ _ => (fun _ => rfl) j) (fun j _ _ => (fun _ => rfl) j) | (exfalso; omega))
    · skip
      obtain ⟨h6_0, h6_1⟩ := h6
      refine go_toq PM267 (k := 2) (pc' := 1435) (L' := [some (.inr (.inr (some 3000))), some (.inr (.inr (some 0))), some (.inr (.inr (some 79))), some (.inl i)]) (st' := []) (w' := (SH, dt)) rfl ?_
      exact K dt hI hM hM2 hk0 hk1 hk2 hk3 hk4 hk5 hk6 hk7 hk8 hk9 hk10 hk11 hk12 hk13 hk14 hk15 (by first | exact hI | exact TPL_k hd0 (fun _ => rfl) (fun _ => rfl) (by omega) | (exfalso; omega)) (by first | exact hI | exact SCL_k hd1 hM (fun j _ => (fun _ => rfl) j) (fun j _ => (fun _ => rfl) j) (fun j _ _ => (fun _ => rfl) j) | (exfalso; omega)) (by first | exact hI | exact SCL_k hd2 hM2 (fun j _ => (fun _ => rfl) j) (fun j _ => (fun _ => rfl) j) (fun j _ _ => (fun _ => rfl) j) | (exfalso; omega)) (by first | exact hI | exact QRL_k hd3 hM (fun j _ => (fun _ => rfl) j) ((fun _ => rfl) 1) (fun j _ _ => (fun _ => rfl) j) | (exfalso; omega)) (by first | exact hI | exact QRL_k hd4 hM2 (fun j _ => (fun _ => rfl) j) ((fun _ => rfl) 1) (fun j _ _ => (fun _ => rfl) j) | (exfalso; omega)) (by first | exact hI | exact SDL_k hd5 hM (fun j _ => (fun _ => rfl) j) ((fun _ => rfl) 1) (fun j _ _ => (fun _ => rfl) j) (fun j _ _ => (fun _ => rfl) j) | (exfalso; omega)) (by first | exact hI | exact SDL_k hd6 hM2 (fun j _ => (fun _ => rfl) j) ((fun _ => rfl) 1) (fun j _ _ => (fun _ => rfl) j) (fun j _ _ => (fun _ => rfl) j) | (exfalso; omega))
    · skip
      refine go_toq PM267 (k := 2) (pc' := 1435) (L' := [some (.inr (.inr (some 3000))), some (.inr (.inr (some 0))), some (.inr (.inr (some 79))), some (.inl i)]) (st' := []) (w' := (SH, dt)) rfl ?_
      exact K dt hI hM hM2 hk0 hk1 hk2 hk3 hk4 hk5 hk6 hk7 hk8 hk9 hk10 hk11 hk12 hk13 hk14 hk15 (by first | exact hI | exact TPL_k hd0 (fun _ => rfl) (fun _ => rfl) (by omega) | (exfalso; omega)) (by first | exact hI | exact SCL_k hd1 hM (fun j _ => (fun _ => rfl) j) (fun j _ => (fun _ => rfl) j) (fun j _ _ => (fun _ => rfl) j) | (exfalso; omega)) (by first | exact hI | exact SCL_k hd2 hM2 (fun j _ => (fun _ => rfl) j) (fun j _ => (fun _ => rfl) j) (fun j _ _ => (fun _ => rfl) j) | (exfalso; omega)) (by first | exact hI | exact QRL_k hd3 hM (fun j _ => (fun _ => rfl) j) ((fun _ => rfl) 1) (fun j _ _ => (fun _ => rfl) j) | (exfalso; omega)) (by first | exact hI | exact QRL_k hd4 hM2 (fun j _ => (fun _ => rfl) j) ((fun _ => rfl) 1) (fun j _ _ => (fun _ => rfl) j) | (exfalso; omega)) (by first | exact hI | exact SDL_k hd5 hM (fun j _ => (fun _ => rfl) j) ((fun _ => rfl) 1) (fun j _ _ => (fun _ => rfl) j) (fun j _ _ => (fun _ => rfl) j) | (exfalso; omega)) (by first | exact hI | exact SDL_k hd6 hM2 (fun j _ => (fun _ => rfl) j) ((fun _ => rfl) 1) (fun j _ _ => (fun _ => rfl) j) (fun j _ _ => (fun _ => rfl) j) | (exfalso; omega))
  · skip
    refine go_toq PM267 (k := 6) (pc' := 1427) (L' := [some (.inr (.inr (some 3000))), some (.inr (.inr (some 0))), some (.inr (.inr (some 79))), some (.inl i)]) (st' := [.inl (i + 1), .inr (.inr (some 3000)), .inr (.inr (some 79))]) (w' := (SH, dt)) rfl ?_
    refine go_smpq PM267 (L' := [some (.inr (.inr (some 3000))), some (.inr (.inr (some 0))), some (.inr (.inr (some 79))), some (.inl i)]) (st' := [.inl ((xs ((i + 1).toNat)).toInt), .inr (.inr (some 79))]) (w' := (SH, dt)) rfl rfl (s_iald (n := L) (f := fun j => (xs j).toInt) (am_scr hLL) ⟨by omega, by omega⟩) ?_
    refine go_callq PM267 PM248 (Q' := _) rfl rfl rfl rfl (sp_X6_look L xs sio (d + 38) dt hI  ((xs ((i + 1).toNat)).toInt) ⟨by omega, by omega⟩ ) ?_
    rintro _ _ ⟨rfl, h7⟩
    refine ⟨rfl, ?_⟩
    rcases h7 with ⟨rfl, h7⟩ | ⟨rfl, h7⟩ | ⟨rfl, h7⟩ | ⟨rfl, h7⟩ | ⟨rfl, h7⟩ | ⟨rfl, h7⟩ | ⟨rfl, h7⟩ | ⟨rfl, h7⟩ | ⟨rfl, h7⟩
    · skip
      refine go_toq PM267 (k := 2) (pc' := 1435) (L' := [some (.inr (.inr (some 3000))), some (.inr (.inr (some 0))), some (.inr (.inr (some 79))), some (.inl i)]) (st' := []) (w' := (SH, dt)) rfl ?_
      exact K dt hI hM hM2 hk0 hk1 hk2 hk3 hk4 hk5 hk6 hk7 hk8 hk9 hk10 hk11 hk12 hk13 hk14 hk15 (by first | exact hI | exact TPL_k hd0 (fun _ => rfl) (fun _ => rfl) (by omega) | (exfalso; omega)) (by first | exact hI | exact SCL_k hd1 hM (fun j _ => (fun _ => rfl) j) (fun j _ => (fun _ => rfl) j) (fun j _ _ => (fun _ => rfl) j) | (exfalso; omega)) (by first | exact hI | exact SCL_k hd2 hM2 (fun j _ => (fun _ => rfl) j) (fun j _ => (fun _ => rfl) j) (fun j _ _ => (fun _ => rfl) j) | (exfalso; omega)) (by first | exact hI | exact QRL_k hd3 hM (fun j _ => (fun _ => rfl) j) ((fun _ => rfl) 1) (fun j _ _ => (fun _ => rfl) j) | (exfalso; omega)) (by first | exact hI | exact QRL_k hd4 hM2 (fun j _ => (fun _ => rfl) j) ((fun _ => rfl) 1) (fun j _ _ => (fun _ => rfl) j) | (exfalso; omega)) (by first | exact hI | exact SDL_k hd5 hM (fun j _ => (fun _ => rfl) j) ((fun _ => rfl) 1) (fun j _ _ => (fun _ => rfl) j) (fun j _ _ => (fun _ => rfl) j) | (exfalso; omega)) (by first | exact hI | exact SDL_k hd6 hM2 (fun j _ => (fun _ => rfl) j) ((fun _ => rfl) 1) (fun j _ _ => (fun _ => rfl) j) (fun j _ _ => (fun _ => rfl) j) | (exfalso; omega))
    · skip
      refine go_toq PM267 (k := 2) (pc' := 1435) (L' := [some (.inr (.inr (some 3000))), some (.inr (.inr (some 0))), some (.inr (.inr (some 79))), some (.inl i)]) (st' := []) (w' := (SH, dt)) rfl ?_
      exact K dt hI hM hM2 hk0 hk1 hk2 hk3 hk4 hk5 hk6 hk7 hk8 hk9 hk10 hk11 hk12 hk13 hk14 hk15 (by first | exact hI | exact TPL_k hd0 (fun _ => rfl) (fun _ => rfl) (by omega) | (exfalso; omega)) (by first | exact hI | exact SCL_k hd1 hM (fun j _ => (fun _ => rfl) j) (fun j _ => (fun _ => rfl) j) (fun j _ _ => (fun _ => rfl) j) | (exfalso; omega)) (by first | exact hI | exact SCL_k hd2 hM2 (fun j _ => (fun _ => rfl) j) (fun j _ => (fun _ => rfl) j) (fun j _ _ => (fun _ => rfl) j) | (exfalso; omega)) (by first | exact hI | exact QRL_k hd3 hM (fun j _ => (fun _ => rfl) j) ((fun _ => rfl) 1) (fun j _ _ => (fun _ => rfl) j) | (exfalso; omega)) (by first | exact hI | exact QRL_k hd4 hM2 (fun j _ => (fun _ => rfl) j) ((fun _ => rfl) 1) (fun j _ _ => (fun _ => rfl) j) | (exfalso; omega)) (by first | exact hI | exact SDL_k hd5 hM (fun j _ => (fun _ => rfl) j) ((fun _ => rfl) 1) (fun j _ _ => (fun _ => rfl) j) (fun j _ _ => (fun _ => rfl) j) | (exfalso; omega)) (by first | exact hI | exact SDL_k hd6 hM2 (fun j _ => (fun _ => rfl) j) ((fun _ => rfl) 1) (fun j _ _ => (fun _ => rfl) j) (fun j _ _ => (fun _ => rfl) j) | (exfalso; omega))
    · skip
      refine go_toq PM267 (k := 2) (pc' := 1435) (L' := [some (.inr (.inr (some 3000))), some (.inr (.inr (some 0))), some (.inr (.inr (some 79))), some (.inl i)]) (st' := []) (w' := (SH, dt)) rfl ?_
      exact K dt hI hM hM2 hk0 hk1 hk2 hk3 hk4 hk5 hk6 hk7 hk8 hk9 hk10 hk11 hk12 hk13 hk14 hk15 (by first | exact hI | exact TPL_k hd0 (fun _ => rfl) (fun _ => rfl) (by omega) | (exfalso; omega)) (by first | exact hI | exact SCL_k hd1 hM (fun j _ => (fun _ => rfl) j) (fun j _ => (fun _ => rfl) j) (fun j _ _ => (fun _ => rfl) j) | (exfalso; omega)) (by first | exact hI | exact SCL_k hd2 hM2 (fun j _ => (fun _ => rfl) j) (fun j _ => (fun _ => rfl) j) (fun j _ _ => (fun _ => rfl) j) | (exfalso; omega)) (by first | exact hI | exact QRL_k hd3 hM (fun j _ => (fun _ => rfl) j) ((fun _ => rfl) 1) (fun j _ _ => (fun _ => rfl) j) | (exfalso; omega)) (by first | exact hI | exact QRL_k hd4 hM2 (fun j _ => (fun _ => rfl) j) ((fun _ => rfl) 1) (fun j _ _ => (fun _ => rfl) j) | (exfalso; omega)) (by first | exact hI | exact SDL_k hd5 hM (fun j _ => (fun _ => rfl) j) ((fun _ => rfl) 1) (fun j _ _ => (fun _ => rfl) j) (fun j _ _ => (fun _ => rfl) j) | (exfalso; omega)) (by first | exact hI | exact SDL_k hd6 hM2 (fun j _ => (fun _ => rfl) j) ((fun _ => rfl) 1) (fun j _ _ => (fun _ => rfl) j) (fun j _ _ => (fun _ => rfl) j) | (exfalso; omega))
    · skip
      refine go_toq PM267 (k := 2) (pc' := 1435) (L' := [some (.inr (.inr (some 3000))), some (.inr (.inr (some 0))), some (.inr (.inr (some 79))), some (.inl i)]) (st' := []) (w' := (SH, dt)) rfl ?_
      exact K dt hI hM hM2 hk0 hk1 hk2 hk3 hk4 hk5 hk6 hk7 hk8 hk9 hk10 hk11 hk12 hk13 hk14 hk15 (by first | exact hI | exact TPL_k hd0 (fun _ => rfl) (fun _ => rfl) (by omega) | (exfalso; omega)) (by first | exact hI | exact SCL_k hd1 hM (fun j _ => (fun _ => rfl) j) (fun j _ => (fun _ => rfl) j) (fun j _ _ => (fun _ => rfl) j) | (exfalso; omega)) (by first | exact hI | exact SCL_k hd2 hM2 (fun j _ => (fun _ => rfl) j) (fun j _ => (fun _ => rfl) j) (fun j _ _ => (fun _ => rfl) j) | (exfalso; omega)) (by first | exact hI | exact QRL_k hd3 hM (fun j _ => (fun _ => rfl) j) ((fun _ => rfl) 1) (fun j _ _ => (fun _ => rfl) j) | (exfalso; omega)) (by first | exact hI | exact QRL_k hd4 hM2 (fun j _ => (fun _ => rfl) j) ((fun _ => rfl) 1) (fun j _ _ => (fun _ => rfl) j) | (exfalso; omega)) (by first | exact hI | exact SDL_k hd5 hM (fun j _ => (fun _ => rfl) j) ((fun _ => rfl) 1) (fun j _ _ => (fun _ => rfl) j) (fun j _ _ => (fun _ => rfl) j) | (exfalso; omega)) (by first | exact hI | exact SDL_k hd6 hM2 (fun j _ => (fun _ => rfl) j) ((fun _ => rfl) 1) (fun j _ _ => (fun _ => rfl) j) (fun j _ _ => (fun _ => rfl) j) | (exfalso; omega))
    · skip
      refine go_toq PM267 (k := 2) (pc' := 1435) (L' := [some (.inr (.inr (some 3000))), some (.inr (.inr (some 0))), some (.inr (.inr (some 79))), some (.inl i)]) (st' := []) (w' := (SH, dt)) rfl ?_
      exact K dt hI hM hM2 hk0 hk1 hk2 hk3 hk4 hk5 hk6 hk7 hk8 hk9 hk10 hk11 hk12 hk13 hk14 hk15 (by first | exact hI | exact TPL_k hd0 (fun _ => rfl) (fun _ => rfl) (by omega) | (exfalso; omega)) (by first | exact hI | exact SCL_k hd1 hM (fun j _ => (fun _ => rfl) j) (fun j _ => (fun _ => rfl) j) (fun j _ _ => (fun _ => rfl) j) | (exfalso; omega)) (by first | exact hI | exact SCL_k hd2 hM2 (fun j _ => (fun _ => rfl) j) (fun j _ => (fun _ => rfl) j) (fun j _ _ => (fun _ => rfl) j) | (exfalso; omega)) (by first | exact hI | exact QRL_k hd3 hM (fun j _ => (fun _ => rfl) j) ((fun _ => rfl) 1) (fun j _ _ => (fun _ => rfl) j) | (exfalso; omega)) (by first | exact hI | exact QRL_k hd4 hM2 (fun j _ => (fun _ => rfl) j) ((fun _ => rfl) 1) (fun j _ _ => (fun _ => rfl) j) | (exfalso; omega)) (by first | exact hI | exact SDL_k hd5 hM (fun j _ => (fun _ => rfl) j) ((fun _ => rfl) 1) (fun j _ _ => (fun _ => rfl) j) (fun j _ _ => (fun _ => rfl) j) | (exfalso; omega)) (by first | exact hI | exact SDL_k hd6 hM2 (fun j _ => (fun _ => rfl) j) ((fun _ => rfl) 1) (fun j _ _ => (fun _ => rfl) j) (fun j _ _ => (fun _ => rfl) j) | (exfalso; omega))
    · skip
      refine go_toq PM267 (k := 2) (pc' := 1435) (L' := [some (.inr (.inr (some 3000))), some (.inr (.inr (some 0))), some (.inr (.inr (some 79))), some (.inl i)]) (st' := []) (w' := (SH, dt)) rfl ?_
      exact K dt hI hM hM2 hk0 hk1 hk2 hk3 hk4 hk5 hk6 hk7 hk8 hk9 hk10 hk11 hk12 hk13 hk14 hk15 (by first | exact hI | exact TPL_k hd0 (fun _ => rfl) (fun _ => rfl) (by omega) | (exfalso; omega)) (by first | exact hI | exact SCL_k hd1 hM (fun j _ => (fun _ => rfl) j) (fun j _ => (fun _ => rfl) j) (fun j _ _ => (fun _ => rfl) j) | (exfalso; omega)) (by first | exact hI | exact SCL_k hd2 hM2 (fun j _ => (fun _ => rfl) j) (fun j _ => (fun _ => rfl) j) (fun j _ _ => (fun _ => rfl) j) | (exfalso; omega)) (by first | exact hI | exact QRL_k hd3 hM (fun j _ => (fun _ => rfl) j) ((fun _ => rfl) 1) (fun j _ _ => (fun _ => rfl) j) | (exfalso; omega)) (by first | exact hI | exact QRL_k hd4 hM2 (fun j _ => (fun _ => rfl) j) ((fun _ => rfl) 1) (fun j _ _ => (fun _ => rfl) j) | (exfalso; omega)) (by first | exact hI | exact SDL_k hd5 hM (fun j _ => (fun _ => rfl) j) ((fun _ => rfl) 1) (fun j _ _ => (fun _ => rfl) j) (fun j _ _ => (fun _ => rfl) j) | (exfalso; omega)) (by first | exact hI | exact SDL_k hd6 hM2 (fun j _ => (fun _ => rfl) j) ((fun _ => rfl) 1) (fun j _ _ => (fun _ => rfl) j) (fun j _ _ => (fun _ => rfl) j) | (exfalso; omega))
    · skip
      obtain ⟨h7_0, h7_1⟩ := h7
      refine go_toq PM267 (k := 2) (pc' := 1435) (L' := [some (.inr (.inr (some 3000))), some (.inr (.inr (some 0))), some (.inr (.inr (some 79))), some (.inl i)]) (st' := []) (w' := (SH, dt)) rfl ?_
      exact K dt hI hM hM2 hk0 hk1 hk2 hk3 hk4 hk5 hk6 hk7 hk8 hk9 hk10 hk11 hk12 hk13 hk14 hk15 (by first | exact hI | exact TPL_k hd0 (fun _ => rfl) (fun _ => rfl) (by omega) | (exfalso; omega)) (by first | exact hI | exact SCL_k hd1 hM (fun j _ => (fun _ => rfl) j) (fun j _ => (fun _ => rfl) j) (fun j _ _ => (fun _ => rfl) j) | (exfalso; omega)) (by first | exact hI | exact SCL_k hd2 hM2 (fun j _ => (fun _ => rfl) j) (fun j _ => (fun _ => rfl) j) (fun j _ _ => (fun _ => rfl) j) | (exfalso; omega)) (by first | exact hI | exact QRL_k hd3 hM (fun j _ => (fun _ => rfl) j) ((fun _ => rfl) 1) (fun j _ _ => (fun _ => rfl) j) | (exfalso; omega)) (by first | exact hI | exact QRL_k hd4 hM2 (fun j _ => (fun _ => rfl) j) ((fun _ => rfl) 1) (fun j _ _ => (fun _ => rfl) j) | (exfalso; omega)) (by first | exact hI | exact SDL_k hd5 hM (fun j _ => (fun _ => rfl) j) ((fun _ => rfl) 1) (fun j _ _ => (fun _ => rfl) j) (fun j _ _ => (fun _ => rfl) j) | (exfalso; omega)) (by first | exact hI | exact SDL_k hd6 hM2 (fun j _ => (fun _ => rfl) j) ((fun _ => rfl) 1) (fun j _ _ => (fun _ => rfl) j) (fun j _ _ => (fun _ => rfl) j) | (exfalso; omega))
    · skip
      obtain ⟨h7_0, h7_1⟩ := h7
      refine go_toq PM267 (k := 2) (pc' := 1435) (L' := [some (.inr (.inr (some 3000))), some (.inr (.inr (some 0))), some (.inr (.inr (some 79))), some (.inl i)]) (st' := []) (w' := (SH, dt)) rfl ?_
      exact K dt hI hM hM2 hk0 hk1 hk2 hk3 hk4 hk5 hk6 hk7 hk8 hk9 hk10 hk11 hk12 hk13 hk14 hk15 (by first | exact hI | exact TPL_k hd0 (fun _ => rfl) (fun _ => rfl) (by omega) | (exfalso; omega)) (by first | exact hI | exact SCL_k hd1 hM (fun j _ => (fun _ => rfl) j) (fun j _ => (fun _ => rfl) j) (fun j _ _ => (fun _ => rfl) j) | (exfalso; omega)) (by first | exact hI | exact SCL_k hd2 hM2 (fun j _ => (fun _ => rfl) j) (fun j _ => (fun _ => rfl) j) (fun j _ _ => (fun _ => rfl) j) | (exfalso; omega)) (by first | exact hI | exact QRL_k hd3 hM (fun j _ => (fun _ => rfl) j) ((fun _ => rfl) 1) (fun j _ _ => (fun _ => rfl) j) | (exfalso; omega)) (by first | exact hI | exact QRL_k hd4 hM2 (fun j _ => (fun _ => rfl) j) ((fun _ => rfl) 1) (fun j _ _ => (fun _ => rfl) j) | (exfalso; omega)) (by first | exact hI | exact SDL_k hd5 hM (fun j _ => (fun _ => rfl) j) ((fun _ => rfl) 1) (fun j _ _ => (fun _ => rfl) j) (fun j _ _ => (fun _ => rfl) j) | (exfalso; omega)) (by first | exact hI | exact SDL_k hd6 hM2 (fun j _ => (fun _ => rfl) j) ((fun _ => rfl) 1) (fun j _ _ => (fun _ => rfl) j) (fun j _ _ => (fun _ => rfl) j) | (exfalso; omega))
    · skip
      refine go_toq PM267 (k := 2) (pc' := 1435) (L' := [some (.inr (.inr (some 3000))), some (.inr (.inr (some 0))), some (.inr (.inr (some 79))), some (.inl i)]) (st' := []) (w' := (SH, dt)) rfl ?_
      exact K dt hI hM hM2 hk0 hk1 hk2 hk3 hk4 hk5 hk6 hk7 hk8 hk9 hk10 hk11 hk12 hk13 hk14 hk15 (by first | exact hI | exact TPL_k hd0 (fun _ => rfl) (fun _ => rfl) (by omega) | (exfalso; omega)) (by first | exact hI | exact SCL_k hd1 hM (fun j _ => (fun _ => rfl) j) (fun j _ => (fun _ => rfl) j) (fun j _ _ => (fun _ => rfl) j) | (exfalso; omega)) (by first | exact hI | exact SCL_k hd2 hM2 (fun j _ => (fun _ => rfl) j) (fun j _ => (fun _ => rfl) j) (fun j _ _ => (fun _ => rfl) j) | (exfalso; omega)) (by first | exact hI | exact QRL_k hd3 hM (fun j _ => (fun _ => rfl) j) ((fun _ => rfl) 1) (fun j _ _ => (fun _ => rfl) j) | (exfalso; omega)) (by first | exact hI | exact QRL_k hd4 hM2 (fun j _ => (fun _ => rfl) j) ((fun _ => rfl) 1) (fun j _ _ => (fun _ => rfl) j) | (exfalso; omega)) (by first | exact hI | exact SDL_k hd5 hM (fun j _ => (fun _ => rfl) j) ((fun _ => rfl) 1) (fun j _ _ => (fun _ => rfl) j) (fun j _ _ => (fun _ => rfl) j) | (exfalso; omega)) (by first | exact hI | exact SDL_k hd6 hM2 (fun j _ => (fun _ => rfl) j) ((fun _ => rfl) 1) (fun j _ _ => (fun _ => rfl) j) (fun j _ _ => (fun _ => rfl) j) | (exfalso; omega))
  · skip
    refine go_toq PM267 (k := 6) (pc' := 1427) (L' := [some (.inr (.inr (some 3000))), some (.inr (.inr (some 0))), some (.inr (.inr (some 79))), some (.inl i)]) (st' := [.inl (i + 1), .inr (.inr (some 3000)), .inr (.inr (some 79))]) (w' := (SH, dt)) rfl ?_
    refine go_smpq PM267 (L' := [some (.inr (.inr (some 3000))), some (.inr (.inr (some 0))), some (.inr (.inr (some 79))), some (.inl i)]) (st' := [.inl ((xs ((i + 1).toNat)).toInt), .inr (.inr (some 79))]) (w' := (SH, dt)) rfl rfl (s_iald (n := L) (f := fun j => (xs j).toInt) (am_scr hLL) ⟨by omega, by omega⟩) ?_
    refine go_callq PM267 PM248 (Q' := _) rfl rfl rfl rfl (sp_X6_look L xs sio (d + 38) dt hI  ((xs ((i + 1).toNat)).toInt) ⟨by omega, by omega⟩ ) ?_
    rintro _ _ ⟨rfl, h8⟩
    refine ⟨rfl, ?_⟩
    rcases h8 with ⟨rfl, h8⟩ | ⟨rfl, h8⟩ | ⟨rfl, h8⟩ | ⟨rfl, h8⟩ | ⟨rfl, h8⟩ | ⟨rfl, h8⟩ | ⟨rfl, h8⟩ | ⟨rfl, h8⟩ | ⟨rfl, h8⟩
    · skip
      refine go_toq PM267 (k := 2) (pc' := 1435) (L' := [some (.inr (.inr (some 3000))), some (.inr (.inr (some 0))), some (.inr (.inr (some 79))), some (.inl i)]) (st' := []) (w' := (SH, dt)) rfl ?_
      exact K dt hI hM hM2 hk0 hk1 hk2 hk3 hk4 hk5 hk6 hk7 hk8 hk9 hk10 hk11 hk12 hk13 hk14 hk15 (by first | exact hI | exact TPL_k hd0 (fun _ => rfl) (fun _ => rfl) (by omega) | (exfalso; omega)) (by first | exact hI | exact SCL_k hd1 hM (fun j _ => (fun _ => rfl) j) (fun j _ => (fun _ => rfl) j) (fun j _ _ => (fun _ => rfl) j) | (exfalso; omega)) (by first | exact hI | exact SCL_k hd2 hM2 (fun j _ => (fun _ => rfl) j) (fun j _ => (fun _ => rfl) j) (fun j _ _ => (fun _ => rfl) j) | (exfalso; omega)) (by first | exact hI | exact QRL_k hd3 hM (fun j _ => (fun _ => rfl) j) ((fun _ => rfl) 1) (fun j _ _ => (fun _ => rfl) j) | (exfalso; omega)) (by first | exact hI | exact QRL_k hd4 hM2 (fun j _ => (fun _ => rfl) j) ((fun _ => rfl) 1) (fun j _ _ => (fun _ => rfl) j) | (exfalso; omega)) (by first | exact hI | exact SDL_k hd5 hM (fun j _ => (fun _ => rfl) j) ((fun _ => rfl) 1) (fun j _ _ => (fun _ => rfl) j) (fun j _ _ => (fun _ => rfl) j) | (exfalso; omega)) (by first | exact hI | exact SDL_k hd6 hM2 (fun j _ => (fun _ => rfl) j) ((fun _ => rfl) 1) (fun j _ _ => (fun _ => rfl) j) (fun j _ _ => (fun _ => rfl) j) | (exfalso; omega))
    · skip
      refine go_toq PM267 (k := 2) (pc' := 1435) (L' := [some (.inr (.inr (some 3000))), some (.inr (.inr (some 0))), some (.inr (.inr (some 79))), some (.inl i)]) (st' := []) (w' := (SH, dt)) rfl ?_
      exact K dt hI hM hM2 hk0 hk1 hk2 hk3 hk4 hk5 hk6 hk7 hk8 hk9 hk10 hk11 hk12 hk13 hk14 hk15 (by first | exact hI | exact TPL_k hd0 (fun _ => rfl) (fun _ => rfl) (by omega) | (exfalso; omega)) (by first | exact hI | exact SCL_k hd1 hM (fun j _ => (fun _ => rfl) j) (fun j _ => (fun _ => rfl) j) (fun j _ _ => (fun _ => rfl) j) | (exfalso; omega)) (by first | exact hI | exact SCL_k hd2 hM2 (fun j _ => (fun _ => rfl) j) (fun j _ => (fun _ => rfl) j) (fun j _ _ => (fun _ => rfl) j) | (exfalso; omega)) (by first | exact hI | exact QRL_k hd3 hM (fun j _ => (fun _ => rfl) j) ((fun _ => rfl) 1) (fun j _ _ => (fun _ => rfl) j) | (exfalso; omega)) (by first | exact hI | exact QRL_k hd4 hM2 (fun j _ => (fun _ => rfl) j) ((fun _ => rfl) 1) (fun j _ _ => (fun _ => rfl) j) | (exfalso; omega)) (by first | exact hI | exact SDL_k hd5 hM (fun j _ => (fun _ => rfl) j) ((fun _ => rfl) 1) (fun j _ _ => (fun _ => rfl) j) (fun j _ _ => (fun _ => rfl) j) | (exfalso; omega)) (by first | exact hI | exact SDL_k hd6 hM2 (fun j _ => (fun _ => rfl) j) ((fun _ => rfl) 1) (fun j _ _ => (fun _ => rfl) j) (fun j _ _ => (fun _ => rfl) j) | (exfalso; omega))
    · skip
      refine go_toq PM267 (k := 2) (pc' := 1435) (L' := [some (.inr (.inr (some 3000))), some (.inr (.inr (some 0))), some (.inr (.inr (some 79))), some (.inl i)]) (st' := []) (w' := (SH, dt)) rfl ?_
      exact K dt hI hM hM2 hk0 hk1 hk2 hk3 hk4 hk5 hk6 hk7 hk8 hk9 hk10 hk11 hk12 hk13 hk14 hk15 (by first | exact hI | exact TPL_k hd0 (fun _ => rfl) (fun _ => rfl) (by omega) | (exfalso; omega)) (by first | exact hI | exact SCL_k hd1 hM (fun j _ => (fun _ => rfl) j) (fun j _ => (fun _ => rfl) j) (fun j _ _ => (fun _ => rfl) j) | (exfalso; omega)) (by first | exact hI | exact SCL_k hd2 hM2 (fun j _ => (fun _ => rfl) j) (fun j _ => (fun _ => rfl) j) (fun j _ _ => (fun _ => rfl) j) | (exfalso; omega)) (by first | exact hI | exact QRL_k hd3 hM (fun j _ => (fun _ => rfl) j) ((fun _ => rfl) 1) (fun j _ _ => (fun _ => rfl) j) | (exfalso; omega)) (by first | exact hI | exact QRL_k hd4 hM2 (fun j _ => (fun _ => rfl) j) ((fun _ => rfl) 1) (fun j _ _ => (fun _ => rfl) j) | (exfalso; omega)) (by first | exact hI | exact SDL_k hd5 hM (fun j _ => (fun _ => rfl) j) ((fun _ => rfl) 1) (fun j _ _ => (fun _ => rfl) j) (fun j _ _ => (fun _ => rfl) j) | (exfalso; omega)) (by first | exact hI | exact SDL_k hd6 hM2 (fun j _ => (fun _ => rfl) j) ((fun _ => rfl) 1) (fun j _ _ => (fun _ => rfl) j) (fun j _ _ => (fun _ => rfl) j) | (exfalso; omega))
    · skip
      refine go_toq PM267 (k := 2) (pc' := 1435) (L' := [some (.inr (.inr (some 3000))), some (.inr (.inr (some 0))), some (.inr (.inr (some 79))), some (.inl i)]) (st' := []) (w' := (SH, dt)) rfl ?_
      exact K dt hI hM hM2 hk0 hk1 hk2 hk3 hk4 hk5 hk6 hk7 hk8 hk9 hk10 hk11 hk12 hk13 hk14 hk15 (by first | exact hI | exact TPL_k hd0 (fun _ => rfl) (fun _ => rfl) (by omega) | (exfalso; omega)) (by first | exact hI | exact SCL_k hd1 hM (fun j _ => (fun _ => rfl) j) (fun j _ => (fun _ => rfl) j) (fun j _ _ => (fun _ => rfl) j) | (exfalso; omega)) (by first | exact hI | exact SCL_k hd2 hM2 (fun j _ => (fun _ => rfl) j) (fun j _ => (fun _ => rfl) j) (fun j _ _ => (fun _ => rfl) j) | (exfalso; omega)) (by first | exact hI | exact QRL_k hd3 hM (fun j _ => (fun _ => rfl) j) ((fun _ => rfl) 1) (fun j _ _ => (fun _ => rfl) j) | (exfalso; omega)) (by first | exact hI | exact QRL_k hd4 hM2 (fun j _ => (fun _ => rfl) j) ((fun _ => rfl) 1) (fun j _ _ => (fun _ => rfl) j) | (exfalso; omega)) (by first | exact hI | exact SDL_k hd5 hM (fun j _ => (fun _ => rfl) j) ((fun _ => rfl) 1) (fun j _ _ => (fun _ => rfl) j) (fun j _ _ => (fun _ => rfl) j) | (exfalso; omega)) (by first | exact hI | exact SDL_k hd6 hM2 (fun j _ => (fun _ => rfl) j) ((fun _ => rfl) 1) (fun j _ _ => (fun _ => rfl) j) (fun j _ _ => (fun _ => rfl) j) | (exfalso; omega))
    · skip
      refine go_toq PM267 (k := 2) (pc' := 1435) (L' := [some (.inr (.inr (some 3000))), some (.inr (.inr (some 0))), some (.inr (.inr (some 79))), some (.inl i)]) (st' := []) (w' := (SH, dt)) rfl ?_
      exact K dt hI hM hM2 hk0 hk1 hk2 hk3 hk4 hk5 hk6 hk7 hk8 hk9 hk10 hk11 hk12 hk13 hk14 hk15 (by first | exact hI | exact TPL_k hd0 (fun _ => rfl) (fun _ => rfl) (by omega) | (exfalso; omega)) (by first | exact hI | exact SCL_k hd1 hM (fun j _ => (fun _ => rfl) j) (fun j _ => (fun _ => rfl) j) (fun j _ _ => (fun _ => rfl) j) | (exfalso; omega)) (by first | exact hI | exact SCL_k hd2 hM2 (fun j _ => (fun _ => rfl) j) (fun j _ => (fun _ => rfl) j) (fun j _ _ => (fun _ => rfl) j) | (exfalso; omega)) (by first | exact hI | exact QRL_k hd3 hM (fun j _ => (fun _ => rfl) j) ((fun _ => rfl) 1) (fun j _ _ => (fun _ => rfl) j) | (exfalso; omega)) (by first | exact hI | exact QRL_k hd4 hM2 (fun j _ => (fun _ => rfl) j) ((fun _ => rfl) 1) (fun j _ _ => (fun _ => rfl) j) | (exfalso; omega)) (by first | exact hI | exact SDL_k hd5 hM (fun j _ => (fun _ => rfl) j) ((fun _ => rfl) 1) (fun j _ _ => (fun _ => rfl) j) (fun j _ _ => (fun _ => rfl) j) | (exfalso; omega)) (by first | exact hI | exact SDL_k hd6 hM2 (fun j _ => (fun _ => rfl) j) ((fun _ => rfl) 1) (fun j _ _ => (fun _ => rfl) j) (fun j _ _ => (fun _ => rfl) j) | (exfalso; omega))
    · skip
      refine go_toq PM267 (k := 2) (pc' := 1435) (L' := [some (.inr (.inr (some 3000))), some (.inr (.inr (some 0))), some (.inr (.inr (some 79))), some (.inl i)]) (st' := []) (w' := (SH, dt)) rfl ?_
      exact K dt hI hM hM2 hk0 hk1 hk2 hk3 hk4 hk5 hk6 hk7 hk8 hk9 hk10 hk11 hk12 hk13 hk14 hk15 (by first | exact hI | exact TPL_k hd0 (fun _ => rfl) (fun _ => rfl) (by omega) | (exfalso; omega)) (by first | exact hI | exact SCL_k hd1 hM (fun j _ => (fun _ => rfl) j) (fun j _ => (fun _ => rfl) j) (fun j _ _ => (fun _ => rfl) j) | (exfalso; omega)) (by first | exact hI | exact SCL_k hd2 hM2 (fun j _ => (fun _ => rfl) j) (fun j _ => (fun _ => rfl) j) (fun j _ _ => (fun _ => rfl) j) | (exfalso; omega)) (by first | exact hI | exact QRL_k hd3 hM (fun j _ => (fun _ => rfl) j) ((fun _ => rfl) 1) (fun j _ _ => (fun _ => rfl) j) | (exfalso; omega)) (by first | exact hI | exact QRL_k hd4 hM2 (fun j _ => (fun _ => rfl) j) ((fun _ => rfl) 1) (fun j _ _ => (fun _ => rfl) j) | (exfalso; omega)) (by first | exact hI | exact SDL_k hd5 hM (fun j _ => (fun _ => rfl) j) ((fun _ => rfl) 1) (fun j _ _ => (fun _ => rfl) j) (fun j _ _ => (fun _ => rfl) j) | (exfalso; omega)) (by first | exact hI | exact SDL_k hd6 hM2 (fun j _ => (fun _ => rfl) j) ((fun _ => rfl) 1) (fun j _ _ => (fun _ => rfl) j) (fun j _ _ => (fun _ => rfl) j) | (exfalso; omega))
    · skip
      obtain ⟨h8_0, h8_1⟩ := h8
      refine go_toq PM267 (k := 2) (pc' := 1435) (L' := [some (.inr (.inr (some 3000))), some (.inr (.inr (some 0))), some (.inr (.inr (some 79))), some (.inl i)]) (st' := []) (w' := (SH, dt)) rfl ?_
      exact K dt hI hM hM2 hk0 hk1 hk2 hk3 hk4 hk5 hk6 hk7 hk8 hk9 hk10 hk11 hk12 hk13 hk14 hk15 (by first | exact hI | exact TPL_k hd0 (fun _ => rfl) (fun _ => rfl) (by omega) | (exfalso; omega)) (by first | exact hI | exact SCL_k hd1 hM (fun j _ => (fun _ => rfl) j) (fun j _ => (fun _ => rfl) j) (fun j _ _ => (fun _ => rfl) j) | (exfalso; omega)) (by first | exact hI | exact SCL_k hd2 hM2 (fun j _ => (fun _ => rfl) j) (fun j _ => (fun _ => rfl) j) (fun j _ _ => (fun _ => rfl) j) | (exfalso; omega)) (by first | exact hI | exact QRL_k hd3 hM (fun j _ => (fun _ => rfl) j) ((fun _ => rfl) 1) (fun j _ _ => (fun _ => rfl) j) | (exfalso; omega)) (by first | exact hI | exact QRL_k hd4 hM2 (fun j _ => (fun _ => rfl) j) ((fun _ => rfl) 1) (fun j _ _ => (fun _ => rfl) j) | (exfalso; omega)) (by first | exact hI | exact SDL_k hd5 hM (fun j _ => (fun _ => rfl) j) ((fun _ => rfl) 1) (fun j _ _ => (fun _ => rfl) j) (fun j _ _ => (fun _ => rfl) j) | (exfalso; omega)) (by first | exact hI | exact SDL_k hd6 hM2 (fun j _ => (fun _ => rfl) j) ((fun _ => rfl) 1) (fun j _ _ => (fun _ => rfl) j) (fun j _ _ => (fun _ => rfl) j) | (exfalso; omega))
    · skip
      obtain ⟨h8_0, h8_1⟩ := h8
      refine go_toq PM267 (k := 2) (pc' := 1435) (L' := [some (.inr (.inr (some 3000))), some (.inr (.inr (some 0))), some (.inr (.inr (some 79))), some (.inl i)]) (st' := []) (w' := (SH, dt)) rfl ?_
      exact K dt hI hM hM2 hk0 hk1 hk2 hk3 hk4 hk5 hk6 hk7 hk8 hk9 hk10 hk11 hk12 hk13 hk14 hk15 (by first | exact hI | exact TPL_k hd0 (fun _ => rfl) (fun _ => rfl) (by omega) | (exfalso; omega)) (by first | exact hI | exact SCL_k hd1 hM (fun j _ => (fun _ => rfl) j) (fun j _ => (fun _ => rfl) j) (fun j _ _ => (fun _ => rfl) j) | (exfalso; omega)) (by first | exact hI | exact SCL_k hd2 hM2 (fun j _ => (fun _ => rfl) j) (fun j _ => (fun _ => rfl) j) (fun j _ _ => (fun _ => rfl) j) | (exfalso; omega)) (by first | exact hI | exact QRL_k hd3 hM (fun j _ => (fun _ => rfl) j) ((fun _ => rfl) 1) (fun j _ _ => (fun _ => rfl) j) | (exfalso; omega)) (by first | exact hI | exact QRL_k hd4 hM2 (fun j _ => (fun _ => rfl) j) ((fun _ => rfl) 1) (fun j _ _ => (fun _ => rfl) j) | (exfalso; omega)) (by first | exact hI | exact SDL_k hd5 hM (fun j _ => (fun _ => rfl) j) ((fun _ => rfl) 1) (fun j _ _ => (fun _ => rfl) j) (fun j _ _ => (fun _ => rfl) j) | (exfalso; omega)) (by first | exact hI | exact SDL_k hd6 hM2 (fun j _ => (fun _ => rfl) j) ((fun _ => rfl) 1) (fun j _ _ => (fun _ => rfl) j) (fun j _ _ => (fun _ => rfl) j) | (exfalso; omega))
    · skip
      refine go_toq PM267 (k := 2) (pc' := 1435) (L' := [some (.inr (.inr (some 3000))), some (.inr (.inr (some 0))), some (.inr (.inr (some 79))), some (.inl i)]) (st' := []) (w' := (SH, dt)) rfl ?_
      exact K dt hI hM hM2 hk0 hk1 hk2 hk3 hk4 hk5 hk6 hk7 hk8 hk9 hk10 hk11 hk12 hk13 hk14 hk15 (by first | exact hI | exact TPL_k hd0 (fun _ => rfl) (fun _ => rfl) (by omega) | (exfalso; omega)) (by first | exact hI | exact SCL_k hd1 hM (fun j _ => (fun _ => rfl) j) (fun j _ => (fun _ => rfl) j) (fun j _ _ => (fun _ => rfl) j) | (exfalso; omega)) (by first | exact hI | exact SCL_k hd2 hM2 (fun j _ => (fun _ => rfl) j) (fun j _ => (fun _ => rfl) j) (fun j _ _ => (fun _ => rfl) j) | (exfalso; omega)) (by first | exact hI | exact QRL_k hd3 hM (fun j _ => (fun _ => rfl) j) ((fun _ => rfl) 1) (fun j _ _ => (fun _ => rfl) j) | (exfalso; omega)) (by first | exact hI | exact QRL_k hd4 hM2 (fun j _ => (fun _ => rfl) j) ((fun _ => rfl) 1) (fun j _ _ => (fun _ => rfl) j) | (exfalso; omega)) (by first | exact hI | exact SDL_k hd5 hM (fun j _ => (fun _ => rfl) j) ((fun _ => rfl) 1) (fun j _ _ => (fun _ => rfl) j) (fun j _ _ => (fun _ => rfl) j) | (exfalso; omega)) (by first | exact hI | exact SDL_k hd6 hM2 (fun j _ => (fun _ => rfl) j) ((fun _ => rfl) 1) (fun j _ _ => (fun _ => rfl) j) (fun j _ _ => (fun _ => rfl) j) | (exfalso; omega))
  · skip
    obtain ⟨h2_0, h2_1⟩ := h2
    refine go_toq PM267 (k := 6) (pc' := 1427) (L' := [some (.inr (.inr (some 3000))), some (.inr (.inr (some 0))), some (.inr (.inr (some 79))), some (.inl i)]) (st' := [.inl (i + 1), .inr (.inr (some 3000)), .inr (.inr (some 79))]) (w' := (SH, dt)) rfl ?_
    refine go_smpq PM267 (L' := [some (.inr (.inr (some 3000))), some (.inr (.inr (some 0))), some (.inr (.inr (some 79))), some (.inl i)]) (st' := [.inl ((xs ((i + 1).toNat)).toInt), .inr (.inr (some 79))]) (w' := (SH, dt)) rfl rfl (s_iald (n := L) (f := fun j => (xs j).toInt) (am_scr hLL) ⟨by omega, by omega⟩) ?_
    refine go_callq PM267 PM248 (Q' := _) rfl rfl rfl rfl (sp_X6_look L xs sio (d + 38) dt hI  ((xs ((i + 1).toNat)).toInt) ⟨by omega, by omega⟩ ) ?_
    rintro _ _ ⟨rfl, h9⟩
    refine ⟨rfl, ?_⟩
    rcases h9 with ⟨rfl, h9⟩ | ⟨rfl, h9⟩ | ⟨rfl, h9⟩ | ⟨rfl, h9⟩ | ⟨rfl, h9⟩ | ⟨rfl, h9⟩ | ⟨rfl, h9⟩ | ⟨rfl, h9⟩ | ⟨rfl, h9⟩
    · skip
      refine go_toq PM267 (k := 2) (pc' := 1435) (L' := [some (.inr (.inr (some 3000))), some (.inr (.inr (some 0))), some (.inr (.inr (some 79))), some (.inl i)]) (st' := []) (w' := (SH, dt)) rfl ?_
      exact K dt hI hM hM2 hk0 hk1 hk2 hk3 hk4 hk5 hk6 hk7 hk8 hk9 hk10 hk11 hk12 hk13 hk14 hk15 (by first | exact hI | exact TPL_k hd0 (fun _ => rfl) (fun _ => rfl) (by omega) | (exfalso; omega)) (by first | exact hI | exact SCL_k hd1 hM (fun j _ => (fun _ => rfl) j) (fun j _ => (fun _ => rfl) j) (fun j _ _ => (fun _ => rfl) j) | (exfalso; omega)) (by first | exact hI | exact SCL_k hd2 hM2 (fun j _ => (fun _ => rfl) j) (fun j _ => (fun _ => rfl) j) (fun j _ _ => (fun _ => rfl) j) | (exfalso; omega)) (by first | exact hI | exact QRL_k hd3 hM (fun j _ => (fun _ => rfl) j) ((fun _ => rfl) 1) (fun j _ _ => (fun _ => rfl) j) | (exfalso; omega)) (by first | exact hI | exact QRL_k hd4 hM2 (fun j _ => (fun _ => rfl) j) ((fun _ => rfl) 1) (fun j _ _ => (fun _ => rfl) j) | (exfalso; omega)) (by first | exact hI | exact SDL_k hd5 hM (fun j _ => (fun _ => rfl) j) ((fun _ => rfl) 1) (fun j _ _ => (fun _ => rfl) j) (fun j _ _ => (fun _ => rfl) j) | (exfalso; omega)) (by first | exact hI | exact SDL_k hd6 hM2 (fun j _ => (fun _ => rfl) j) ((fun _ => rfl) 1) (fun j _ _ => (fun _ => rfl) j) (fun j _ _ => (fun _ => rfl) j) | (exfalso; omega))
    · skip
      refine go_toq PM267 (k := 2) (pc' := 1435) (L' := [some (.inr (.inr (some 3000))), some (.inr (.inr (some 0))), some (.inr (.inr (some 79))), some (.inl i)]) (st' := []) (w' := (SH, dt)) rfl ?_
      exact K dt hI hM hM2 hk0 hk1 hk2 hk3 hk4 hk5 hk6 hk7 hk8 hk9 hk10 hk11 hk12 hk13 hk14 hk15 (by first | exact hI | exact TPL_k hd0 (fun _ => rfl) (fun _ => rfl) (by omega) | (exfalso; omega)) (by first | exact hI | exact SCL_k hd1 hM (fun j _ => (fun _ => rfl) j) (fun j _ => (fun _ => rfl) j) (fun j _ _ => (fun _ => rfl) j) | (exfalso; omega)) (by first | exact hI | exact SCL_k hd2 hM2 (fun j _ => (fun _ => rfl) j) (fun j _ => (fun _ => rfl) j) (fun j _ _ => (fun _ => rfl) j) | (exfalso; omega)) (by first | exact hI | exact QRL_k hd3 hM (fun j _ => (fun _ => rfl) j) ((fun _ => rfl) 1) (fun j _ _ => (fun _ => rfl) j) | (exfalso; omega)) (by first | exact hI | exact QRL_k hd4 hM2 (fun j _ => (fun _ => rfl) j) ((fun _ => rfl) 1) (fun j _ _ => (fun _ => rfl) j) | (exfalso; omega)) (by first | exact hI | exact SDL_k hd5 hM (fun j _ => (fun _ => rfl) j) ((fun _ => rfl) 1) (fun j _ _ => (fun _ => rfl) j) (fun j _ _ => (fun _ => rfl) j) | (exfalso; omega)) (by first | exact hI | exact SDL_k hd6 hM2 (fun j _ => (fun _ => rfl) j) ((fun _ => rfl) 1) (fun j _ _ => (fun _ => rfl) j) (fun j _ _ => (fun _ => rfl) j) | (exfalso; omega))
    · skip
      refine go_toq PM267 (k := 2) (pc' := 1435) (L' := [some (.inr (.inr (some 3000))), some (.inr (.inr (some 0))), some (.inr (.inr (some 79))), some (.inl i)]) (st' := []) (w' := (SH, dt)) rfl ?_
      exact K dt hI hM hM2 hk0 hk1 hk2 hk3 hk4 hk5 hk6 hk7 hk8 hk9 hk10 hk11 hk12 hk13 hk14 hk15 (by first | exact hI | exact TPL_k hd0 (fun _ => rfl) (fun _ => rfl) (by omega) | (exfalso; omega)) (by first | exact hI | exact SCL_k hd1 hM (fun j _ => (fun _ => rfl) j) (fun j _ => (fun _ => rfl) j) (fun j _ _ => (fun _ => rfl) j) | (exfalso; omega)) (by first | exact hI | exact SCL_k hd2 hM2 (fun j _ => (fun _ => rfl) j) (fun j _ => (fun _ => rfl) j) (fun j _ _ => (fun _ => rfl) j) | (exfalso; omega)) (by first | exact hI | exact QRL_k hd3 hM (fun j _ => (fun _ => rfl) j) ((fun _ => rfl) 1) (fun j _ _ => (fun _ => rfl) j) | (exfalso; omega)) (by first | exact hI | exact QRL_k hd4 hM2 (fun j _ => (fun _ => rfl) j) ((fun _ => rfl) 1) (fun j _ _ => (fun _ => rfl) j) | (exfalso; omega)) (by first | exact hI | exact SDL_k hd5 hM (fun j _ => (fun _ => rfl) j) ((fun _ => rfl) 1) (fun j _ _ => (fun _ => rfl) j) (fun j _ _ => (fun _ => rfl) j) | (exfalso; omega)) (by first | exact hI | exact SDL_k hd6 hM2 (fun j _ => (fun _ => rfl) j) ((fun _ => rfl) 1) (fun j _ _ => (fun _ => rfl) j) (fun j _ _ => (fun _ => rfl) j) | (exfalso; omega))
    · skip
      refine go_toq PM267 (k := 2) (pc' := 1435) (L' := [some (.inr (.inr (some 3000))), some (.inr (.inr (some 0))), some (.inr (.inr (some 79))), some (.inl i)]) (st' := []) (w' := (SH, dt)) rfl ?_
      exact K dt hI hM hM2 hk0 hk1 hk2 hk3 hk4 hk5 hk6 hk7 hk8 hk9 hk10 hk11 hk12 hk13 hk14 hk15 (by first | exact hI | exact TPL_k hd0 (fun _ => rfl) (fun _ => rfl) (by omega) | (exfalso; omega)) (by first | exact hI | exact SCL_k hd1 hM (fun j _ => (fun _ => rfl) j) (fun j _ => (fun _ => rfl) j) (fun j _ _ => (fun _ => rfl) j) | (exfalso; omega)) (by first | exact hI | exact SCL_k hd2 hM2 (fun j _ => (fun _ => rfl) j) (fun j _ => (fun _ => rfl) j) (fun j _ _ => (fun _ => rfl) j) | (exfalso; omega)) (by first | exact hI | exact QRL_k hd3 hM (fun j _ => (fun _ => rfl) j) ((fun _ => rfl) 1) (fun j _ _ => (fun _ => rfl) j) | (exfalso; omega)) (by first | exact hI | exact QRL_k hd4 hM2 (fun j _ => (fun _ => rfl) j) ((fun _ => rfl) 1) (fun j _ _ => (fun _ => rfl) j) | (exfalso; omega)) (by first | exact hI | exact SDL_k hd5 hM (fun j _ => (fun _ => rfl) j) ((fun _ => rfl) 1) (fun j _ _ => (fun _ => rfl) j) (fun j _ _ => (fun _ => rfl) j) | (exfalso; omega)) (by first | exact hI | exact SDL_k hd6 hM2 (fun j _ => (fun _ => rfl) j) ((fun _ => rfl) 1) (fun j _ _ => (fun _ => rfl) j) (fun j _ _ => (fun _ => rfl) j) | (exfalso; omega))
    · skip
      refine go_toq PM267 (k := 2) (pc' := 1435) (L' := [some (.inr (.inr (some 3000))), some (.inr (.inr (some 0))), some (.inr (.inr (some 79))), some (.inl i)]) (st' := []) (w' := (SH, dt)) rfl ?_
      exact K dt hI hM hM2 hk0 hk1 hk2 hk3 hk4 hk5 hk6 hk7 hk8 hk9 hk10 hk11 hk12 hk13 hk14 hk15 (by first | exact hI | exact TPL_k hd0 (fun _ => rfl) (fun _ => rfl) (by omega) | (exfalso; omega)) (by first | exact hI | exact SCL_k hd1 hM (fun j _ => (fun _ => rfl) j) (fun j _ => (fun _ => rfl) j) (fun j _ _ => (fun _ => rfl) j) | (exfalso; omega)) (by first | exact hI | exact SCL_k hd2 hM2 (fun j _ => (fun _ => rfl) j) (fun j _ => (fun _ => rfl) j) (fun j _ _ => (fun _ => rfl) j) | (exfalso; omega)) (by first | exact hI | exact QRL_k hd3 hM (fun j _ => (fun _ => rfl) j) ((fun _ => rfl) 1) (fun j _ _ => (fun _ => rfl) j) | (exfalso; omega)) (by first | exact hI | exact QRL_k hd4 hM2 (fun j _ => (fun _ => rfl) j) ((fun _ => rfl) 1) (fun j _ _ => (fun _ => rfl) j) | (exfalso; omega)) (by first | exact hI | exact SDL_k hd5 hM (fun j _ => (fun _ => rfl) j) ((fun _ => rfl) 1) (fun j _ _ => (fun _ => rfl) j) (fun j _ _ => (fun _ => rfl) j) | (exfalso; omega)) (by first | exact hI | exact SDL_k hd6 hM2 (fun j _ => (fun _ => rfl) j) ((fun _ => rfl) 1) (fun j _ _ => (fun _ => rfl) j) (fun j _ _ => (fun _ => rfl) j) | (exfalso; omega))
    · skip
      refine go_toq PM267 (k := 2) (pc' := 1435) (L' := [some (.inr (.inr (some 3000))), some (.inr (.inr (some 0))), some (.inr (.inr (some 79))), some (.inl i)]) (st' := []) (w' := (SH, dt)) rfl ?_
      exact K dt hI hM hM2 hk0 hk1 hk2 hk3 hk4 hk5 hk6 hk7 hk8 hk9 hk10 hk11 hk12 hk13 hk14 hk15 (by first | exact hI | exact TPL_k hd0 (fun _ => rfl) (fun _ => rfl) (by omega) | (exfalso; omega)) (by first | exact hI | exact SCL_k hd1 hM (fun j _ => (fun _ => rfl) j) (fun j _ => (fun _ => rfl) j) (fun j _ _ => (fun _ => rfl) j) | (exfalso; omega)) (by first | exact hI | exact SCL_k hd2 hM2 (fun j _ => (fun _ => rfl) j) (fun j _ => (fun _ => rfl) j) (fun j _ _ => (fun _ => rfl) j) | (exfalso; omega)) (by first | exact hI | exact QRL_k hd3 hM (fun j _ => (fun _ => rfl) j) ((fun _ => rfl) 1) (fun j _ _ => (fun _ => rfl) j) | (exfalso; omega)) (by first | exact hI | exact QRL_k hd4 hM2 (fun j _ => (fun _ => rfl) j) ((fun _ => rfl) 1) (fun j _ _ => (fun _ => rfl) j) | (exfalso; omega)) (by first | exact hI | exact SDL_k hd5 hM (fun j _ => (fun _ => rfl) j) ((fun _ => rfl) 1) (fun j _ _ => (fun _ => rfl) j) (fun j _ _ => (fun _ => rfl) j) | (exfalso; omega)) (by first | exact hI | exact SDL_k hd6 hM2 (fun j _ => (fun _ => rfl) j) ((fun _ => rfl) 1) (fun j _ _ => (fun _ => rfl) j) (fun j _ _ => (fun _ => rfl) j) | (exfalso; omega))
    · skip
      obtain ⟨h9_0, h9_1⟩ := h9
      refine go_toq PM267 (k := 2) (pc' := 1435) (L' := [some (.inr (.inr (some 3000))), some (.inr (.inr (some 0))), some (.inr (.inr (some 79))), some (.inl i)]) (st' := []) (w' := (SH, dt)) rfl ?_
      exact K dt hI hM hM2 hk0 hk1 hk2 hk3 hk4 hk5 hk6 hk7 hk8 hk9 hk10 hk11 hk12 hk13 hk14 hk15 (by first | exact hI | exact TPL_k hd0 (fun _ => rfl) (fun _ => rfl) (by omega) | (exfalso; omega)) (by first | exact hI | exact SCL_k hd1 hM (fun j _ => (fun _ => rfl) j) (fun j _ => (fun _ => rfl) j) (fun j _ _ => (fun _ => rfl) j) | (exfalso; omega)) (by first | exact hI | exact SCL_k hd2 hM2 (fun j _ => (fun _ => rfl) j) (fun j _ => (fun _ => rfl) j) (fun j _ _ => (fun _ => rfl) j) | (exfalso; omega)) (by first | exact hI | exact QRL_k hd3 hM (fun j _ => (fun _ => rfl) j) ((fun _ => rfl) 1) (fun j _ _ => (fun _ => rfl) j) | (exfalso; omega)) (by first | exact hI | exact QRL_k hd4 hM2 (fun j _ => (fun _ => rfl) j) ((fun _ => rfl) 1) (fun j _ _ => (fun _ => rfl) j) | (exfalso; omega)) (by first | exact hI | exact SDL_k hd5 hM (fun j _ => (fun _ => rfl) j) ((fun _ => rfl) 1) (fun j _ _ => (fun _ => rfl) j) (fun j _ _ => (fun _ => rfl) j) | (exfalso; omega)) (by first | exact hI | exact SDL_k hd6 hM2 (fun j _ => (fun _ => rfl) j) ((fun _ => rfl) 1) (fun j _ _ => (fun _ => rfl) j) (fun j _ _ => (fun _ => rfl) j) | (exfalso; omega))
    · skip
      obtain ⟨h9_0, h9_1⟩ := h9
      refine go_toq PM267 (k := 2) (pc' := 1435) (L' := [some (.inr (.inr (some 3000))), some (.inr (.inr (some 0))), some (.inr (.inr (some 79))), some (.inl i)]) (st' := []) (w' := (SH, dt)) rfl ?_
      exact K dt hI hM hM2 hk0 hk1 hk2 hk3 hk4 hk5 hk6 hk7 hk8 hk9 hk10 hk11 hk12 hk13 hk14 hk15 (by first | exact hI | exact TPL_k hd0 (fun _ => rfl) (fun _ => rfl) (by omega) | (exfalso; omega)) (by first | exact hI | exact SCL_k hd1 hM (fun j _ => (fun _ => rfl) j) (fun j _ => (fun _ => rfl) j) (fun j _ _ => (fun _ => rfl) j) | (exfalso; omega)) (by first | exact hI | exact SCL_k hd2 hM2 (fun j _ => (fun _ => rfl) j) (fun j _ => (fun _ => rfl) j) (fun j _ _ => (fun _ => rfl) j) | (exfalso; omega)) (by first | exact hI | exact QRL_k hd3 hM (fun j _ => (fun _ => rfl) j) ((fun _ => rfl) 1) (fun j _ _ => (fun _ => rfl) j) | (exfalso; omega)) (by first | exact hI | exact QRL_k hd4 hM2 (fun j _ => (fun _ => rfl) j) ((fun _ => rfl) 1) (fun j _ _ => (fun _ => rfl) j) | (exfalso; omega)) (by first | exact hI | exact SDL_k hd5 hM (fun j _ => (fun _ => rfl) j) ((fun _ => rfl) 1) (fun j _ _ => (fun _ => rfl) j) (fun j _ _ => (fun _ => rfl) j) | (exfalso; omega)) (by first | exact hI | exact SDL_k hd6 hM2 (fun j _ => (fun _ => rfl) j) ((fun _ => rfl) 1) (fun j _ _ => (fun _ => rfl) j) (fun j _ _ => (fun _ => rfl) j) | (exfalso; omega))
    · skip
      refine go_toq PM267 (k := 2) (pc' := 1435) (L' := [some (.inr (.inr (some 3000))), some (.inr (.inr (some 0))), some (.inr (.inr (some 79))), some (.inl i)]) (st' := []) (w' := (SH, dt)) rfl ?_
      exact K dt hI hM hM2 hk0 hk1 hk2 hk3 hk4 hk5 hk6 hk7 hk8 hk9 hk10 hk11 hk12 hk13 hk14 hk15 (by first | exact hI | exact TPL_k hd0 (fun _ => rfl) (fun _ => rfl) (by omega) | (exfalso; omega)) (by first | exact hI | exact SCL_k hd1 hM (fun j _ => (fun _ => rfl) j) (fun j _ => (fun _ => rfl) j) (fun j _ _ => (fun _ => rfl) j) | (exfalso; omega)) (by first | exact hI | exact SCL_k hd2 hM2 (fun j _ => (fun _ => rfl) j) (fun j _ => (fun _ => rfl) j) (fun j _ _ => (fun _ => rfl) j) | (exfalso; omega)) (by first | exact hI | exact QRL_k hd3 hM (fun j _ => (fun _ => rfl) j) ((fun _ => rfl) 1) (fun j _ _ => (fun _ => rfl) j) | (exfalso; omega)) (by first | exact hI | exact QRL_k hd4 hM2 (fun j _ => (fun _ => rfl) j) ((fun _ => rfl) 1) (fun j _ _ => (fun _ => rfl) j) | (exfalso; omega)) (by first | exact hI | exact SDL_k hd5 hM (fun j _ => (fun _ => rfl) j) ((fun _ => rfl) 1) (fun j _ _ => (fun _ => rfl) j) (fun j _ _ => (fun _ => rfl) j) | (exfalso; omega)) (by first | exact hI | exact SDL_k hd6 hM2 (fun j _ => (fun _ => rfl) j) ((fun _ => rfl) 1) (fun j _ _ => (fun _ => rfl) j) (fun j _ _ => (fun _ => rfl) j) | (exfalso; omega))
  · skip
    obtain ⟨h2_0, h2_1⟩ := h2
    refine go_toq PM267 (k := 6) (pc' := 1427) (L' := [some (.inr (.inr (some 3000))), some (.inr (.inr (some 0))), some (.inr (.inr (some 79))), some (.inl i)]) (st' := [.inl (i + 1), .inr (.inr (some 3000)), .inr (.inr (some 79))]) (w' := (SH, dt)) rfl ?_
    refine go_smpq PM267 (L' := [some (.inr (.inr (some 3000))), some (.inr (.inr (some 0))), some (.inr (.inr (some 79))), some (.inl i)]) (st' := [.inl ((xs ((i + 1).toNat)).toInt), .inr (.inr (some 79))]) (w' := (SH, dt)) rfl rfl (s_iald (n := L) (f := fun j => (xs j).toInt) (am_scr hLL) ⟨by omega, by omega⟩) ?_
    refine go_callq PM267 PM248 (Q' := _) rfl rfl rfl rfl (sp_X6_look L xs sio (d + 38) dt hI  ((xs ((i + 1).toNat)).toInt) ⟨by omega, by omega⟩ ) ?_
    rintro _ _ ⟨rfl, h10⟩
    refine ⟨rfl, ?_⟩
    rcases h10 with ⟨rfl, h10⟩ | ⟨rfl, h10⟩ | ⟨rfl, h10⟩ | ⟨rfl, h10⟩ | ⟨rfl, h10⟩ | ⟨rfl, h10⟩ | ⟨rfl, h10⟩ | ⟨rfl, h10⟩ | ⟨rfl, h10⟩
    · skip
      refine go_toq PM267 (k := 2) (pc' := 1435) (L' := [some (.inr (.inr (some 3000))), some (.inr (.inr (some 0))), some (.inr (.inr (some 79))), some (.inl i)]) (st' := []) (w' := (SH, dt)) rfl ?_
      exact K dt hI hM hM2 hk0 hk1 hk2 hk3 hk4 hk5 hk6 hk7 hk8 hk9 hk10 hk11 hk12 hk13 hk14 hk15 (by first | exact hI | exact TPL_k hd0 (fun _ => rfl) (fun _ => rfl) (by omega) | (exfalso; omega)) (by first | exact hI | exact SCL_k hd1 hM (fun j _ => (fun _ => rfl) j) (fun j _ => (fun _ => rfl) j) (fun j _ _ => (fun _ => rfl) j) | (exfalso; omega)) (by first | exact hI | exact SCL_k hd2 hM2 (fun j _ => (fun _ => rfl) j) (fun j _ => (fun _ => rfl) j) (fun j _ _ => (fun _ => rfl) j) | (exfalso; omega)) (by first | exact hI | exact QRL_k hd3 hM (fun j _ => (fun _ => rfl) j) ((fun _ => rfl) 1) (fun j _ _ => (fun _ => rfl) j) | (exfalso; omega)) (by first | exact hI | exact QRL_k hd4 hM2 (fun j _ => (fun _ => rfl) j) ((fun _ => rfl) 1) (fun j _ _ => (fun _ => rfl) j) | (exfalso; omega)) (by first | exact hI | exact SDL_k hd5 hM (fun j _ => (fun _ => rfl) j) ((fun _ => rfl) 1) (fun j _ _ => (fun _ => rfl) j) (fun j _ _ => (fun _ => rfl) j) | (exfalso; omega)) (by first | exact hI | exact SDL_k hd6 hM2 (fun j _ => (fun _ => rfl) j) ((fun _ => rfl) 1) (fun j _ _ => (fun _ => rfl) j) (fun j _ _ => (fun _ => rfl) j) | (exfalso; omega))
    · skip
      refine go_toq PM267 (k := 2) (pc' := 1435) (L' := [some (.inr (.inr (some 3000))), some (.inr (.inr (some 0))), some (.inr (.inr (some 79))), some (.inl i)]) (st' := []) (w' := (SH, dt)) rfl ?_
      exact K dt hI hM hM2 hk0 hk1 hk2 hk3 hk4 hk5 hk6 hk7 hk8 hk9 hk10 hk11 hk12 hk13 hk14 hk15 (by first | exact hI | exact TPL_k hd0 (fun _ => rfl) (fun _ => rfl) (by omega) | (exfalso; omega)) (by first | exact hI | exact SCL_k hd1 hM (fun j _ => (fun _ => rfl) j) (fun j _ => (fun _ => rfl) j) (fun j _ _ => (fun _ => rfl) j) | (exfalso; omega)) (by first | exact hI | exact SCL_k hd2 hM2 (fun j _ => (fun _ => rfl) j) (fun j _ => (fun _ => rfl) j) (fun j _ _ => (fun _ => rfl) j) | (exfalso; omega)) (by first | exact hI | exact QRL_k hd3 hM (fun j _ => (fun _ => rfl) j) ((fun _ => rfl) 1) (fun j _ _ => (fun _ => rfl) j) | (exfalso; omega)) (by first | exact hI | exact QRL_k hd4 hM2 (fun j _ => (fun _ => rfl) j) ((fun _ => rfl) 1) (fun j _ _ => (fun _ => rfl) j) | (exfalso; omega)) (by first | exact hI | exact SDL_k hd5 hM (fun j _ => (fun _ => rfl) j) ((fun _ => rfl) 1) (fun j _ _ => (fun _ => rfl) j) (fun j _ _ => (fun _ => rfl) j) | (exfalso; omega)) (by first | exact hI | exact SDL_k hd6 hM2 (fun j _ => (fun _ => rfl) j) ((fun _ => rfl) 1) (fun j _ _ => (fun _ => rfl) j) (fun j _ _ => (fun _ => rfl) j) | (exfalso; omega))
    · skip
      refine go_toq PM267 (k := 2) (pc' := 1435) (L' := [some (.inr (.inr (some 3000))), some (.inr (.inr (some 0))), some (.inr (.inr (some 79))), some (.inl i)]) (st' := []) (w' := (SH, dt)) rfl ?_
      exact K dt hI hM hM2 hk0 hk1 hk2 hk3 hk4 hk5 hk6 hk7 hk8 hk9 hk10 hk11 hk12 hk13 hk14 hk15 (by first | exact hI | exact TPL_k hd0 (fun _ => rfl) (fun _ => rfl) (by omega) | (exfalso; omega)) (by first | exact hI | exact SCL_k hd1 hM (fun j _ => (fun _ => rfl) j) (fun j _ => (fun _ => rfl) j) (fun j _ _ => (fun _ => rfl) j) | (exfalso; omega)) (by first | exact hI | exact SCL_k hd2 hM2 (fun j _ => (fun _ => rfl) j) (fun j _ => (fun _ => rfl) j) (fun j _ _ => (fun _ => rfl) j) | (exfalso; omega)) (by first | exact hI | exact QRL_k hd3 hM (fun j _ => (fun _ => rfl) j) ((fun _ => rfl) 1) (fun j _ _ => (fun _ => rfl) j) | (exfalso; omega)) (by first | exact hI | exact QRL_k hd4 hM2 (fun j _ => (fun _ => rfl) j) ((fun _ => rfl) 1) (fun j _ _ => (fun _ => rfl) j) | (exfalso; omega)) (by first | exact hI | exact SDL_k hd5 hM (fun j _ => (fun _ => rfl) j) ((fun _ => rfl) 1) (fun j _ _ => (fun _ => rfl) j) (fun j _ _ => (fun _ => rfl) j) | (exfalso; omega)) (by first | exact hI | exact SDL_k hd6 hM2 (fun j _ => (fun _ => rfl) j) ((fun _ => rfl) 1) (fun j _ _ => (fun _ => rfl) j) (fun j _ _ => (fun _ => rfl) j) | (exfalso; omega))
    · skip
      refine go_toq PM267 (k := 2) (pc' := 1435) (L' := [some (.inr (.inr (some 3000))), some (.inr (.inr (some 0))), some (.inr (.inr (some 79))), some (.inl i)]) (st' := []) (w' := (SH, dt)) rfl ?_
      exact K dt hI hM hM2 hk0 hk1 hk2 hk3 hk4 hk5 hk6 hk7 hk8 hk9 hk10 hk11 hk12 hk13 hk14 hk15 (by first | exact hI | exact TPL_k hd0 (fun _ => rfl) (fun _ => rfl) (by omega) | (exfalso; omega)) (by first | exact hI | exact SCL_k hd1 hM (fun j _ => (fun _ => rfl) j) (fun j _ => (fun _ => rfl) j) (fun j _ _ => (fun _ => rfl) j) | (exfalso; omega)) (by first | exact hI | exact SCL_k hd2 hM2 (fun j _ => (fun _ => rfl) j) (fun j _ => (fun _ => rfl) j) (fun j _ _ => (fun _ => rfl) j) | (exfalso; omega)) (by first | exact hI | exact QRL_k hd3 hM (fun j _ => (fun _ => rfl) j) ((fun _ => rfl) 1) (fun j _ _ => (fun _ => rfl) j) | (exfalso; omega)) (by first | exact hI | exact QRL_k hd4 hM2 (fun j _ => (fun _ => rfl) j) ((fun _ => rfl) 1) (fun j _ _ => (fun _ => rfl) j) | (exfalso; omega)) (by first | exact hI | exact SDL_k hd5 hM (fun j _ => (fun _ => rfl) j) ((fun _ => rfl) 1) (fun j _ _ => (fun _ => rfl) j) (fun j _ _ => (fun _ => rfl) j) | (exfalso; omega)) (by first | exact hI | exact SDL_k hd6 hM2 (fun j _ => (fun _ => rfl) j) ((fun _ => rfl) 1) (fun j _ _ => (fun _ => rfl) j) (fun j _ _ => (fun _ => rfl) j) | (exfalso; omega))
    · skip
      refine go_toq PM267 (k := 2) (pc' := 1435) (L' := [some (.inr (.inr (some 3000))), some (.inr (.inr (some 0))), some (.inr (.inr (some 79))), some (.inl i)]) (st' := []) (w' := (SH, dt)) rfl ?_
      exact K dt hI hM hM2 hk0 hk1 hk2 hk3 hk4 hk5 hk6 hk7 hk8 hk9 hk10 hk11 hk12 hk13 hk14 hk15 (by first | exact hI | exact TPL_k hd0 (fun _ => rfl) (fun _ => rfl) (by omega) | (exfalso; omega)) (by first | exact hI | exact SCL_k hd1 hM (fun j _ => (fun _ => rfl) j) (fun j _ => (fun _ => rfl) j) (fun j _ _ => (fun _ => rfl) j) | (exfalso; omega)) (by first | exact hI | exact SCL_k hd2 hM2 (fun j _ => (fun _ => rfl) j) (fun j _ => (fun _ => rfl) j) (fun j _ _ => (fun _ => rfl) j) | (exfalso; omega)) (by first | exact hI | exact QRL_k hd3 hM (fun j _ => (fun _ => rfl) j) ((fun _ => rfl) 1) (fun j _ _ => (fun _ => rfl) j) | (exfalso; omega)) (by first | exact hI | exact QRL_k hd4 hM2 (fun j _ => (fun _ => rfl) j) ((fun _ => rfl) 1) (fun j _ _ => (fun _ => rfl) j) | (exfalso; omega)) (by first | exact hI | exact SDL_k hd5 hM (fun j _ => (fun _ => rfl) j) ((fun _ => rfl) 1) (fun j _ _ => (fun _ => rfl) j) (fun j _ _ => (fun _ => rfl) j) | (exfalso; omega)) (by first | exact hI | exact SDL_k hd6 hM2 (fun j _ => (fun _ => rfl) j) ((fun _ => rfl) 1) (fun j _ _ => (fun _ => rfl) j) (fun j _ _ => (fun _ => rfl) j) | (exfalso; omega))
    · skip
      refine go_toq PM267 (k := 2) (pc' := 1435) (L' := [some (.inr (.inr (some 3000))), some (.inr (.inr (some 0))), some (.inr (.inr (some 79))), some (.inl i)]) (st' := []) (w' := (SH, dt)) rfl ?_
      exact K dt hI hM hM2 hk0 hk1 hk2 hk3 hk4 hk5 hk6 hk7 hk8 hk9 hk10 hk11 hk12 hk13 hk14 hk15 (by first | exact hI | exact TPL_k hd0 (fun _ => rfl) (fun _ => rfl) (by omega) | (exfalso; omega)) (by first | exact hI | exact SCL_k hd1 hM (fun j _ => (fun _ => rfl) j) (fun j _ => (fun _ => rfl) j) (fun j _ _ => (fun _ => rfl) j) | (exfalso; omega)) (by first | exact hI | exact SCL_k hd2 hM2 (fun j _ => (fun _ => rfl) j) (fun j _ => (fun _ => rfl) j) (fun j _ _ => (fun _ => rfl) j) | (exfalso; omega)) (by first | exact hI | exact QRL_k hd3 hM (fun j _ => (fun _ => rfl) j) ((fun _ => rfl) 1) (fun j _ _ => (fun _ => rfl) j) | (exfalso; omega)) (by first | exact hI | exact QRL_k hd4 hM2 (fun j _ => (fun _ => rfl) j) ((fun _ => rfl) 1) (fun j _ _ => (fun _ => rfl) j) | (exfalso; omega)) (by first | exact hI | exact SDL_k hd5 hM (fun j _ => (fun _ => rfl) j) ((fun _ => rfl) 1) (fun j _ _ => (fun _ => rfl) j) (fun j _ _ => (fun _ => rfl) j) | (exfalso; omega)) (by first | exact hI | exact SDL_k hd6 hM2 (fun j _ => (fun _ => rfl) j) ((fun _ => rfl) 1) (fun j _ _ => (fun _ => rfl) j) (fun j _ _ => (fun _ => rfl) j) | (exfalso; omega))
    · skip
      obtain ⟨h10_0, h10_1⟩ := h10
      refine go_toq PM267 (k := 2) (pc' := 1435) (L' := [some (.inr (.inr (some 3000))), some (.inr (.inr (some 0))), some (.inr (.inr (some 79))), some (.inl i)]) (st' := []) (w' := (SH, dt)) rfl ?_
      exact K dt hI hM hM2 hk0 hk1 hk2 hk3 hk4 hk5 hk6 hk7 hk8 hk9 hk10 hk11 hk12 hk13 hk14 hk15 (by first | exact hI | exact TPL_k hd0 (fun _ => rfl) (fun _ => rfl) (by omega) | (exfalso; omega)) (by first | exact hI | exact SCL_k hd1 hM (fun j _ => (fun _ => rfl) j) (fun j _ => (fun _ => rfl) j) (fun j _ _ => (fun _ => rfl) j) | (exfalso; omega)) (by first | exact hI | exact SCL_k hd2 hM2 (fun j _ => (fun _ => rfl) j) (fun j _ => (fun _ => rfl) j) (fun j _ _ => (fun _ => rfl) j) | (exfalso; omega)) (by first | exact hI | exact QRL_k hd3 hM (fun j _ => (fun _ => rfl) j) ((fun _ => rfl) 1) (fun j _ _ => (fun _ => rfl) j) | (exfalso; omega)) (by first | exact hI | exact QRL_k hd4 hM2 (fun j _ => (fun _ => rfl) j) ((fun _ => rfl) 1) (fun j _ _ => (fun _ => rfl) j) | (exfalso; omega)) (by first | exact hI | exact SDL_k hd5 hM (fun j _ => (fun _ => rfl) j) ((fun _ => rfl) 1) (fun j _ _ => (fun _ => rfl) j) (fun j _ _ => (fun _ => rfl) j) | (exfalso; omega)) (by first | exact hI | exact SDL_k hd6 hM2 (fun j _ => (fun _ => rfl) j) ((fun _ => rfl) 1) (fun j _ _ => (fun _ => rfl) j) (fun j _ _ => (fun _ => rfl) j) | (exfalso; omega))
    · skip
      obtain ⟨h10_0, h10_1⟩ := h10
      refine go_toq PM267 (k := 2) (pc' := 1435) (L' := [some (.inr (.inr (some 3000))), some (.inr (.inr (some 0))), some (.inr (.inr (some 79))), some (.inl i)]) (st' := []) (w' := (SH, dt)) rfl ?_
      exact K dt hI hM hM2 hk0 hk1 hk2 hk3 hk4 hk5 hk6 hk7 hk8 hk9 hk10 hk11 hk12 hk13 hk14 hk15 (by first | exact hI | exact TPL_k hd0 (fun _ => rfl) (fun _ => rfl) (by omega) | (exfalso; omega)) (by first | exact hI | exact SCL_k hd1 hM (fun j _ => (fun _ => rfl) j) (fun j _ => (fun _ => rfl) j) (fun j _ _ => (fun _ => rfl) j) | (exfalso; omega)) (by first | exact hI | exact SCL_k hd2 hM2 (fun j _ => (fun _ => rfl) j) (fun j _ => (fun _ => rfl) j) (fun j _ _ => (fun _ => rfl) j) | (exfalso; omega)) (by first | exact hI | exact QRL_k hd3 hM (fun j _ => (fun _ => rfl) j) ((fun _ => rfl) 1) (fun j _ _ => (fun _ => rfl) j) | (exfalso; omega)) (by first | exact hI | exact QRL_k hd4 hM2 (fun j _ => (fun _ => rfl) j) ((fun _ => rfl) 1) (fun j _ _ => (fun _ => rfl) j) | (exfalso; omega)) (by first | exact hI | exact SDL_k hd5 hM (fun j _ => (fun _ => rfl) j) ((fun _ => rfl) 1) (fun j _ _ => (fun _ => rfl) j) (fun j _ _ => (fun _ => rfl) j) | (exfalso; omega)) (by first | exact hI | exact SDL_k hd6 hM2 (fun j _ => (fun _ => rfl) j) ((fun _ => rfl) 1) (fun j _ _ => (fun _ => rfl) j) (fun j _ _ => (fun _ => rfl) j) | (exfalso; omega))
    · skip
      refine go_toq PM267 (k := 2) (pc' := 1435) (L' := [some (.inr (.inr (some 3000))), some (.inr (.inr (some 0))), some (.inr (.inr (some 79))), some (.inl i)]) (st' := []) (w' := (SH, dt)) rfl ?_
      exact K dt hI hM hM2 hk0 hk1 hk2 hk3 hk4 hk5 hk6 hk7 hk8 hk9 hk10 hk11 hk12 hk13 hk14 hk15 (by first | exact hI | exact TPL_k hd0 (fun _ => rfl) (fun _ => rfl) (by omega) | (exfalso; omega)) (by first | exact hI | exact SCL_k hd1 hM (fun j _ => (fun _ => rfl) j) (fun j _ => (fun _ => rfl) j) (fun j _ _ => (fun _ => rfl) j) | (exfalso; omega)) (by first | exact hI | exact SCL_k hd2 hM2 (fun j _ => (fun _ => rfl) j) (fun j _ => (fun _ => rfl) j) (fun j _ _ => (fun _ => rfl) j) | (exfalso; omega)) (by first | exact hI | exact QRL_k hd3 hM (fun j _ => (fun _ => rfl) j) ((fun _ => rfl) 1) (fun j _ _ => (fun _ => rfl) j) | (exfalso; omega)) (by first | exact hI | exact QRL_k hd4 hM2 (fun j _ => (fun _ => rfl) j) ((fun _ => rfl) 1) (fun j _ _ => (fun _ => rfl) j) | (exfalso; omega)) (by first | exact hI | exact SDL_k hd5 hM (fun j _ => (fun _ => rfl) j) ((fun _ => rfl) 1) (fun j _ _ => (fun _ => rfl) j) (fun j _ _ => (fun _ => rfl) j) | (exfalso; omega)) (by first | exact hI | exact SDL_k hd6 hM2 (fun j _ => (fun _ => rfl) j) ((fun _ => rfl) 1) (fun j _ _ => (fun _ => rfl) j) (fun j _ _ => (fun _ => rfl) j) | (exfalso; omega))
  · skip
    refine go_toq PM267 (k := 6) (pc' := 1427) (L' := [some (.inr (.inr (some 3000))), some (.inr (.inr (some 0))), some (.inr (.inr (some 79))), some (.inl i)]) (st' := [.inl (i + 1), .inr (.inr (some 3000)), .inr (.inr (some 79))]) (w' := (SH, dt)) rfl ?_
    refine go_smpq PM267 (L' := [some (.inr (.inr (some 3000))), some (.inr (.inr (some 0))), some (.inr (.inr (some 79))), some (.inl i)]) (st' := [.inl ((xs ((i + 1).toNat)).toInt), .inr (.inr (some 79))]) (w' := (SH, dt)) rfl rfl (s_iald (n := L) (f := fun j => (xs j).toInt) (am_scr hLL) ⟨by omega, by omega⟩) ?_
    refine go_callq PM267 PM248 (Q' := _) rfl rfl rfl rfl (sp_X6_look L xs sio (d + 38) dt hI  ((xs ((i + 1).toNat)).toInt) ⟨by omega, by omega⟩ ) ?_
    rintro _ _ ⟨rfl, h11⟩
    refine ⟨rfl, ?_⟩
    rcases h11 with ⟨rfl, h11⟩ | ⟨rfl, h11⟩ | ⟨rfl, h11⟩ | ⟨rfl, h11⟩ | ⟨rfl, h11⟩ | ⟨rfl, h11⟩ | ⟨rfl, h11⟩ | ⟨rfl, h11⟩ | ⟨rfl, h11⟩
    · skip
      refine go_toq PM267 (k := 2) (pc' := 1435) (L' := [some (.inr (.inr (some 3000))), some (.inr (.inr (some 0))), some (.inr (.inr (some 79))), some (.inl i)]) (st' := []) (w' := (SH, dt)) rfl ?_
      exact K dt hI hM hM2 hk0 hk1 hk2 hk3 hk4 hk5 hk6 hk7 hk8 hk9 hk10 hk11 hk12 hk13 hk14 hk15 (by first | exact hI | exact TPL_k hd0 (fun _ => rfl) (fun _ => rfl) (by omega) | (exfalso; omega)) (by first | exact hI | exact SCL_k hd1 hM (fun j _ => (fun _ => rfl) j) (fun j _ => (fun _ => rfl) j) (fun j _ _ => (fun _ => rfl) j) | (exfalso; omega)) (by first | exact hI | exact SCL_k hd2 hM2 (fun j _ => (fun _ => rfl) j) (fun j _ => (fun _ => rfl) j) (fun j _ _ => (fun _ => rfl) j) | (exfalso; omega)) (by first | exact hI | exact QRL_k hd3 hM (fun j _ => (fun _ => rfl) j) ((fun _ => rfl) 1) (fun j _ _ => (fun _ => rfl) j) | (exfalso; omega)) (by first | exact hI | exact QRL_k hd4 hM2 (fun j _ => (fun _ => rfl) j) ((fun _ => rfl) 1) (fun j _ _ => (fun _ => rfl) j) | (exfalso; omega)) (by first | exact hI | exact SDL_k hd5 hM (fun j _ => (fun _ => rfl) j) ((fun _ => rfl) 1) (fun j _ _ => (fun _ => rfl) j) (fun j _ _ => (fun _ => rfl) j) | (exfalso; omega)) (by first | exact hI | exact SDL_k hd6 hM2 (fun j _ => (fun _ => rfl) j) ((fun _ => rfl) 1) (fun j _ _ => (fun _ => rfl) j) (fun j _ _ => (fun _ => rfl) j) | (exfalso; omega))
    · skip
      refine go_toq PM267 (k := 2) (pc' := 1435) (L' := [some (.inr (.inr (some 3000))), some (.inr (.inr (some 0))), some (.inr (.inr (some 79))), some (.inl i)]) (st' := []) (w' := (SH, dt)) rfl ?_
      exact K dt hI hM hM2 hk0 hk1 hk2 hk3 hk4 hk5 hk6 hk7 hk8 hk9 hk10 hk11 hk12 hk13 hk14 hk15 (by first | exact hI | exact TPL_k hd0 (fun _ => rfl) (fun _ => rfl) (by omega) | (exfalso; omega)) (by first | exact hI | exact SCL_k hd1 hM (fun j _ => (fun _ => rfl) j) (fun j _ => (fun _ => rfl) j) (fun j _ _ => (fun _ => rfl) j) | (exfalso; omega)) (by first | exact hI | exact SCL_k hd2 hM2 (fun j _ => (fun _ => rfl) j) (fun j _ => (fun _ => rfl) j) (fun j _ _ => (fun _ => rfl) j) | (exfalso; omega)) (by first | exact hI | exact QRL_k hd3 hM (fun j _ => (fun _ => rfl) j) ((fun _ => rfl) 1) (fun j _ _ => (fun _ => rfl) j) | (exfalso; omega)) (by first | exact hI | exact QRL_k hd4 hM2 (fun j _ => (fun _ => rfl) j) ((fun _ => rfl) 1) (fun j _ _ => (fun _ => rfl) j) | (exfalso; omega)) (by first | exact hI | exact SDL_k hd5 hM (fun j _ => (fun _ => rfl) j) ((fun _ => rfl) 1) (fun j _ _ => (fun _ => rfl) j) (fun j _ _ => (fun _ => rfl) j) | (exfalso; omega)) (by first | exact hI | exact SDL_k hd6 hM2 (fun j _ => (fun _ => rfl) j) ((fun _ => rfl) 1) (fun j _ _ => (fun _ => rfl) j) (fun j _ _ => (fun _ => rfl) j) | (exfalso; omega))
    · skip
      refine go_toq PM267 (k := 2) (pc' := 1435) (L' := [some (.inr (.inr (some 3000))), some (.inr (.inr (some 0))), some (.inr (.inr (some 79))), some (.inl i)]) (st' := []) (w' := (SH, dt)) rfl ?_
      exact K dt hI hM hM2 hk0 hk1 hk2 hk3 hk4 hk5 hk6 hk7 hk8 hk9 hk10 hk11 hk12 hk13 hk14 hk15 (by first | exact hI | exact TPL_k hd0 (fun _ => rfl) (fun _ => rfl) (by omega) | (exfalso; omega)) (by first | exact hI | exact SCL_k hd1 hM (fun j _ => (fun _ => rfl) j) (fun j _ => (fun _ => rfl) j) (fun j _ _ => (fun _ => rfl) j) | (exfalso; omega)) (by first | exact hI | exact SCL_k hd2 hM2 (fun j _ => (fun _ => rfl) j) (fun j _ => (fun _ => rfl) j) (fun j _ _ => (fun _ => rfl) j) | (exfalso; omega)) (by first | exact hI | exact QRL_k hd3 hM (fun j _ => (fun _ => rfl) j) ((fun _ => rfl) 1) (fun j _ _ => (fun _ => rfl) j) | (exfalso; omega)) (by first | exact hI | exact QRL_k hd4 hM2 (fun j _ => (fun _ => rfl) j) ((fun _ => rfl) 1) (fun j _ _ => (fun _ => rfl) j) | (exfalso; omega)) (by first | exact hI | exact SDL_k hd5 hM (fun j _ => (fun _ => rfl) j) ((fun _ => rfl) 1) (fun j _ _ => (fun _ => rfl) j) (fun j _ _ => (fun _ => rfl) j) | (exfalso; omega)) (by first | exact hI | exact SDL_k hd6 hM2 (fun j _ => (fun _ => rfl) j) ((fun _ => rfl) 1) (fun j _ _ => (fun _ => rfl) j) (fun j _ _ => (fun _ => rfl) j) | (exfalso; omega))
    · skip
      refine go_toq PM267 (k := 2) (pc' := 1435) (L' := [some (.inr (.inr (some 3000))), some (.inr (.inr (some 0))), some (.inr (.inr (some 79))), some (.inl i)]) (st' := []) (w' := (SH, dt)) rfl ?_
      exact K dt hI hM hM2 hk0 hk1 hk2 hk3 hk4 hk5 hk6 hk7 hk8 hk9 hk10 hk11 hk12 hk13 hk14 hk15 (by first | exact hI | exact TPL_k hd0 (fun _ => rfl) (fun _ => rfl) (by omega) | (exfalso; omega)) (by first | exact hI | exact SCL_k hd1 hM (fun j _ => (fun _ => rfl) j) (fun j _ => (fun _ => rfl) j) (fun j _ _ => (fun _ => rfl) j) | (exfalso; omega)) (by first | exact hI | exact SCL_k hd2 hM2 (fun j _ => (fun _ => rfl) j) (fun j _ => (fun _ => rfl) j) (fun j _ _ => (fun _ => rfl) j) | (exfalso; omega)) (by first | exact hI | exact QRL_k hd3 hM (fun j _ => (fun _ => rfl) j) ((fun _ => rfl) 1) (fun j _ _ => (fun _ => rfl) j) | (exfalso; omega)) (by first | exact hI | exact QRL_k hd4 hM2 (fun j _ => (fun _ => rfl) j) ((fun _ => rfl) 1) (fun j _ _ => (fun _ => rfl) j) | (exfalso; omega)) (by first | exact hI | exact SDL_k hd5 hM (fun j _ => (fun _ => rfl) j) ((fun _ => rfl) 1) (fun j _ _ => (fun _ => rfl) j) (fun j _ _ => (fun _ => rfl) j) | (exfalso; omega)) (by first | exact hI | exact SDL_k hd6 hM2 (fun j _ => (fun _ => rfl) j) ((fun _ => rfl) 1) (fun j _ _ => (fun _ => rfl) j) (fun j _ _ => (fun _ => rfl) j) | (exfalso; omega))
    · skip
      refine go_toq PM267 (k := 2) (pc' := 1435) (L' := [some (.inr (.inr (some 3000))), some (.inr (.inr (some 0))), some (.inr (.inr (some 79))), some (.inl i)]) (st' := []) (w' := (SH, dt)) rfl ?_
      exact K dt hI hM hM2 hk0 hk1 hk2 hk3 hk4 hk5 hk6 hk7 hk8 hk9 hk10 hk11 hk12 hk13 hk14 hk15 (by first | exact hI | exact TPL_k hd0 (fun _ => rfl) (fun _ => rfl) (by omega) | (exfalso; omega)) (by first | exact hI | exact SCL_k hd1 hM (fun j _ => (fun _ => rfl) j) (fun j _ => (fun _ => rfl) j) (fun j _ _ => (fun _ => rfl) j) | (exfalso; omega)) (by first | exact hI | exact SCL_k hd2 hM2 (fun j _ => (fun _ => rfl) j) (fun j _ => (fun _ => rfl) j) (fun j _ _ => (fun _ => rfl) j) | (exfalso; omega)) (by first | exact hI | exact QRL_k hd3 hM (fun j _ => (fun _ => rfl) j) ((fun _ => rfl) 1) (fun j _ _ => (fun _ => rfl) j) | (exfalso; omega)) (by first | exact hI | exact QRL_k hd4 hM2 (fun j _ => (fun _ => rfl) j) ((fun _ => rfl) 1) (fun j _ _ => (fun _ => rfl) j) | (exfalso; omega)) (by first | exact hI | exact SDL_k hd5 hM (fun j _ => (fun _ => rfl) j) ((fun _ => rfl) 1) (fun j _ _ => (fun _ => rfl) j) (fun j _ _ => (fun _ => rfl) j) | (exfalso; omega)) (by first | exact hI | exact SDL_k hd6 hM2 (fun j _ => (fun _ => rfl) j) ((fun _ => rfl) 1) (fun j _ _ => (fun _ => rfl) j) (fun j _ _ => (fun _ => rfl) j) | (exfalso; omega))
    · skip
      refine go_toq PM267 (k := 2) (pc' := 1435) (L' := [some (.inr (.inr (some 3000))), some (.inr (.inr (some 0))), some (.inr (.inr (some 79))), some (.inl i)]) (st' := []) (w' := (SH, dt)) rfl ?_
      exact K dt hI hM hM2 hk0 hk1 hk2 hk3 hk4 hk5 hk6 hk7 hk8 hk9 hk10 hk11 hk12 hk13 hk14 hk15 (by first | exact hI | exact TPL_k hd0 (fun _ => rfl) (fun _ => rfl) (by omega) | (exfalso; omega)) (by first | exact hI | exact SCL_k hd1 hM (fun j _ => (fun _ => rfl) j) (fun j _ => (fun _ => rfl) j) (fun j _ _ => (fun _ => rfl) j) | (exfalso; omega)) (by first | exact hI | exact SCL_k hd2 hM2 (fun j _ => (fun _ => rfl) j) (fun j _ => (fun _ => rfl) j) (fun j _ _ => (fun _ => rfl) j) | (exfalso; omega)) (by first | exact hI | exact QRL_k hd3 hM (fun j _ => (fun _ => rfl) j) ((fun _ => rfl) 1) (fun j _ _ => (fun _ => rfl) j) | (exfalso; omega)) (by first | exact hI | exact QRL_k hd4 hM2 (fun j _ => (fun _ => rfl) j) ((fun _ => rfl) 1) (fun j _ _ => (fun _ => rfl) j) | (exfalso; omega)) (by first | exact hI | exact SDL_k hd5 hM (fun j _ => (fun _ => rfl) j) ((fun _ => rfl) 1) (fun j _ _ => (fun _ => rfl) j) (fun j _ _ => (fun _ => rfl) j) | (exfalso; omega)) (by first | exact hI | exact SDL_k hd6 hM2 (fun j _ => (fun _ => rfl) j) ((fun _ => rfl) 1) (fun j _ _ => (fun _ => rfl) j) (fun j _ _ => (fun _ => rfl) j) | (exfalso; omega))
    · skip
      obtain ⟨h11_0, h11_1⟩ := h11
      refine go_toq PM267 (k := 2) (pc' := 1435) (L' := [some (.inr (.inr (some 3000))), some (.inr (.inr (some 0))), some (.inr (.inr (some 79))), some (.inl i)]) (st' := []) (w' := (SH, dt)) rfl ?_
      exact K dt hI hM hM2 hk0 hk1 hk2 hk3 hk4 hk5 hk6 hk7 hk8 hk9 hk10 hk11 hk12 hk13 hk14 hk15 (by first | exact hI | exact TPL_k hd0 (fun _ => rfl) (fun _ => rfl) (by omega) | (exfalso; omega)) (by first | exact hI | exact SCL_k hd1 hM (fun j _ => (fun _ => rfl) j) (fun j _ => (fun _ => rfl) j) (fun j _ _ => (fun _ => rfl) j) | (exfalso; omega)) (by first | exact hI | exact SCL_k hd2 hM2 (fun j _ => (fun _ => rfl) j) (fun j _ => (fun _ => rfl) j) (fun j _ _ => (fun _ => rfl) j) | (exfalso; omega)) (by first | exact hI | exact QRL_k hd3 hM (fun j _ => (fun _ => rfl) j) ((fun _ => rfl) 1) (fun j _ _ => (fun _ => rfl) j) | (exfalso; omega)) (by first | exact hI | exact QRL_k hd4 hM2 (fun j _ => (fun _ => rfl) j) ((fun _ => rfl) 1) (fun j _ _ => (fun _ => rfl) j) | (exfalso; omega)) (by first | exact hI | exact SDL_k hd5 hM (fun j _ => (fun _ => rfl) j) ((fun _ => rfl) 1) (fun j _ _ => (fun _ => rfl) j) (fun j _ _ => (fun _ => rfl) j) | (exfalso; omega)) (by first | exact hI | exact SDL_k hd6 hM2 (fun j _ => (fun _ => rfl) j) ((fun _ => rfl) 1) (fun j _ _ => (fun _ => rfl) j) (fun j _ _ => (fun _ => rfl) j) | (exfalso; omega))
    · skip
      obtain ⟨h11_0, h11_1⟩ := h11
      refine go_toq PM267 (k := 2) (pc' := 1435) (L' := [some (.inr (.inr (some 3000))), some (.inr (.inr (some 0))), some (.inr (.inr (some 79))), some (.inl i)]) (st' := []) (w' := (SH, dt)) rfl ?_
      exact K dt hI hM hM2 hk0 hk1 hk2 hk3 hk4 hk5 hk6 hk7 hk8 hk9 hk10 hk11 hk12 hk13 hk14 hk15 (by first | exact hI | exact TPL_k hd0 (fun _ => rfl) (fun _ => rfl) (by omega) | (exfalso; omega)) (by first | exact hI | exact SCL_k hd1 hM (fun j _ => (fun _ => rfl) j) (fun j _ => (fun _ => rfl) j) (fun j _ _ => (fun _ => rfl) j) | (exfalso; omega)) (by first | exact hI | exact SCL_k hd2 hM2 (fun j _ => (fun _ => rfl) j) (fun j _ => (fun _ => rfl) j) (fun j _ _ => (fun _ => rfl) j) | (exfalso; omega)) (by first | exact hI | exact QRL_k hd3 hM (fun j _ => (fun _ => rfl) j) ((fun _ => rfl) 1) (fun j _ _ => (fun _ => rfl) j) | (exfalso; omega)) (by first | exact hI | exact QRL_k hd4 hM2 (fun j _ => (fun _ => rfl) j) ((fun _ => rfl) 1) (fun j _ _ => (fun _ => rfl) j) | (exfalso; omega)) (by first | exact hI | exact SDL_k hd5 hM (fun j _ => (fun _ => rfl) j) ((fun _ => rfl) 1) (fun j _ _ => (fun _ => rfl) j) (fun j _ _ => (fun _ => rfl) j) | (exfalso; omega)) (by first | exact hI | exact SDL_k hd6 hM2 (fun j _ => (fun _ => rfl) j) ((fun _ => rfl) 1) (fun j _ _ => (fun _ => rfl) j) (fun j _ _ => (fun _ => rfl) j) | (exfalso; omega))
    · skip
      refine go_toq PM267 (k := 2) (pc' := 1435) (L' := [some (.inr (.inr (some 3000))), some (.inr (.inr (some 0))), some (.inr (.inr (some 79))), some (.inl i)]) (st' := []) (w' := (SH, dt)) rfl ?_
      exact K dt hI hM hM2 hk0 hk1 hk2 hk3 hk4 hk5 hk6 hk7 hk8 hk9 hk10 hk11 hk12 hk13 hk14 hk15 (by first | exact hI | exact TPL_k hd0 (fun _ => rfl) (fun _ => rfl) (by omega) | (exfalso; omega)) (by first | exact hI | exact SCL_k hd1 hM (fun j _ => (fun _ => rfl) j) (fun j _ => (fun _ => rfl) j) (fun j _ _ => (fun _ => rfl) j) | (exfalso; omega)) (by first | exact hI | exact SCL_k hd2 hM2 (fun j _ => (fun _ => rfl) j) (fun j _ => (fun _ => rfl) j) (fun j _ _ => (fun _ => rfl) j) | (exfalso; omega)) (by first | exact hI | exact QRL_k hd3 hM (fun j _ => (fun _ => rfl) j) ((fun _ => rfl) 1) (fun j _ _ => (fun _ => rfl) j) | (exfalso; omega)) (by first | exact hI | exact QRL_k hd4 hM2 (fun j _ => (fun _ => rfl) j) ((fun _ => rfl) 1) (fun j _ _ => (fun _ => rfl) j) | (exfalso; omega)) (by first | exact hI | exact SDL_k hd5 hM (fun j _ => (fun _ => rfl) j) ((fun _ => rfl) 1) (fun j _ _ => (fun _ => rfl) j) (fun j _ _ => (fun _ => rfl) j) | (exfalso; omega)) (by first | exact hI | exact SDL_k hd6 hM2 (fun j _ => (fun _ => rfl) j) ((fun _ => rfl) 1) (fun j _ _ => (fun _ => rfl) j) (fun j _ _ => (fun _ => rfl) j) | (exfalso; omega))
