set_option maxRecDepth 20000 in
set_option maxHeartbeats 8000000 in
theorem sp_case11 (L : Nat) (xs : Nat → Int32) (sio : Option Nat) (d : Nat) (Q : Option AV → am_W → Prop) (hLL : L ≤ 3072) (i : Int) (hi : 0 ≤ i ∧ i ≤ 3066) (hil : i ≤ (L : Int) - 6) (dt : Nat → Nat → Int) (hI : InvC dt) (hM : MW (dt 80)) (hM2 : MW (dt 81)) (hk0 : dt 1 0 = dt 80 0) (hk1 : dt 7 3 = dt 80 1) (hk2 : dt 10 3 = dt 80 2) (hk3 : dt 12 3 = dt 80 3) (hk4 : dt 14 3 = dt 80 4) (hk5 : dt 16 3 = dt 80 5) (hk6 : dt 18 0 = dt 81 0) (hk7 : dt 24 3 = dt 81 1) (hk8 : dt 27 3 = dt 81 2) (hk9 : dt 29 3 = dt 81 3) (hk10 : dt 31 3 = dt 81 4) (hk11 : dt 33 3 = dt 81 5) (hk12 : dt 0 2 = dt 79 2) (hk13 : dt 35 1 = dt 79 12) (hk14 : dt 35 2 = dt 79 19) (hk15 : dt 35 3 = dt 79 21) (hd0 : TPL (dt 36) (dt 85) (dt 35 1)) (hd1 : SCL (dt 2) (dt 3) (dt 80)) (hd2 : SCL (dt 19) (dt 20) (dt 81)) (hd3 : QRL (dt 8) (dt 80)) (hd4 : QRL (dt 25) (dt 81)) (hd5 : SDL (dt 9) (dt 80)) (hd6 : SDL (dt 26) (dt 81)) (K : ∀ (dt : Nat → Nat → Int) (hI : InvC dt) (hM : MW (dt 80)) (hM2 : MW (dt 81)) (hk0 : dt 1 0 = dt 80 0) (hk1 : dt 7 3 = dt 80 1) (hk2 : dt 10 3 = dt 80 2) (hk3 : dt 12 3 = dt 80 3) (hk4 : dt 14 3 = dt 80 4) (hk5 : dt 16 3 = dt 80 5) (hk6 : dt 18 0 = dt 81 0) (hk7 : dt 24 3 = dt 81 1) (hk8 : dt 27 3 = dt 81 2) (hk9 : dt 29 3 = dt 81 3) (hk10 : dt 31 3 = dt 81 4) (hk11 : dt 33 3 = dt 81 5) (hk12 : dt 0 2 = dt 79 2) (hk13 : dt 35 1 = dt 79 12) (hk14 : dt 35 2 = dt 79 19) (hk15 : dt 35 3 = dt 79 21) (hd0 : TPL (dt 36) (dt 85) (dt 35 1)) (hd1 : SCL (dt 2) (dt 3) (dt 80)) (hd2 : SCL (dt 19) (dt 20) (dt 81)) (hd3 : QRL (dt 8) (dt 80)) (hd4 : QRL (dt 25) (dt 81)) (hd5 : SDL (dt 9) (dt 80)) (hd6 : SDL (dt 26) (dt 81)), GO (am_XX L xs sio) (d + 39) 267 1435 [some (.inr (.inr (some 3000))), some (.inr (.inr (some 0))), some (.inr (.inr (some 79))), some (.inl i)] [] (SH, dt) Q) : GO (am_XX L xs sio) (d + 39) 267 643 [some (.inr (.inr (some 3000))), some (.inr (.inr (some 0))), some (.inr (.inr (some 79))), some (.inl i)] [] (SH, dt) Q := by
  have hF : Fr [0, 1, 2, 3, 4, 5, 6, 7, 8, 9, 10, 11, 12, 13, 14, 15, 16, 17, 18, 19, 20, 21, 22, 23, 24, 25, 26, 27, 28, 29, 30, 31, 32, 33, 34, 35, 36, 37, 38, 39, 40, 41, 42, 43, 44, 45, 46, 47, 48, 49, 50, 51, 52, 53, 54, 55, 56, 57, 58, 59, 60, 61, 62, 63, 64, 65, 66, 67, 68, 69, 70, 71, 72, 73, 74, 75, 76, 77, 78, 79, 80, 81, 82, 83, 84, 85, 86, 87, 88, 89, 90, 91, 92, 93, 94, 95, 96, 97, 98, 99, 100, 101, 102, 103, 104] dt dt := Fr_refl
  have hqo := QOC_R hd3 hM hk1
  have hb1_ := hM.1.1
  refine go_toq PM267 (k := 5) (pc' := 648) (L' := [some (.inr (.inr (some 3000))), some (.inr (.inr (some 0))), some (.inr (.inr (some 79))), some (.inl i)]) (st' := [.inl (i + 1), .inr (.inr (some 3000)), .inr (.inr (some 0))]) (w' := (SH, dt)) rfl ?_
  have r1 := i32_R (xs ((i + 1).toNat))
  refine go_smpq PM267 (L' := [some (.inr (.inr (some 3000))), some (.inr (.inr (some 0))), some (.inr (.inr (some 79))), some (.inl i)]) (st' := [.inl ((xs ((i + 1).toNat)).toInt), .inr (.inr (some 0))]) (w' := (SH, dt)) rfl rfl (s_iald (n := L) (f := fun j => (xs j).toInt) (am_scr hLL) ⟨by omega, by omega⟩) ?_
  refine go_toq PM267 (k := 4) (pc' := 653) (L' := [some (.inr (.inr (some 3000))), some (.inr (.inr (some 0))), some (.inr (.inr (some 79))), some (.inl i)]) (st' := [.inl (i + 2), .inr (.inr (some 3000)), .inl ((xs ((i + 1).toNat)).toInt), .inr (.inr (some 0))]) (w' := (SH, dt)) rfl ?_
  have r2 := i32_R (xs ((i + 2).toNat))
  refine go_smpq PM267 (L' := [some (.inr (.inr (some 3000))), some (.inr (.inr (some 0))), some (.inr (.inr (some 79))), some (.inl i)]) (st' := [.inl ((xs ((i + 2).toNat)).toInt), .inl ((xs ((i + 1).toNat)).toInt), .inr (.inr (some 0))]) (w' := (SH, dt)) rfl rfl (s_iald (n := L) (f := fun j => (xs j).toInt) (am_scr hLL) ⟨by omega, by omega⟩) ?_
  refine go_toq PM267 (k := 4) (pc' := 658) (L' := [some (.inr (.inr (some 3000))), some (.inr (.inr (some 0))), some (.inr (.inr (some 79))), some (.inl i)]) (st' := [.inl (i + 3), .inr (.inr (some 3000)), .inl ((xs ((i + 2).toNat)).toInt), .inl ((xs ((i + 1).toNat)).toInt), .inr (.inr (some 0))]) (w' := (SH, dt)) rfl ?_
  have r3 := i32_R (xs ((i + 3).toNat))
  refine go_smpq PM267 (L' := [some (.inr (.inr (some 3000))), some (.inr (.inr (some 0))), some (.inr (.inr (some 79))), some (.inl i)]) (st' := [.inl ((xs ((i + 3).toNat)).toInt), .inl ((xs ((i + 2).toNat)).toInt), .inl ((xs ((i + 1).toNat)).toInt), .inr (.inr (some 0))]) (w' := (SH, dt)) rfl rfl (s_iald (n := L) (f := fun j => (xs j).toInt) (am_scr hLL) ⟨by omega, by omega⟩) ?_
  refine go_toq PM267 (k := 4) (pc' := 663) (L' := [some (.inr (.inr (some 3000))), some (.inr (.inr (some 0))), some (.inr (.inr (some 79))), some (.inl i)]) (st' := [.inl (i + 4), .inr (.inr (some 3000)), .inl ((xs ((i + 3).toNat)).toInt), .inl ((xs ((i + 2).toNat)).toInt), .inl ((xs ((i + 1).toNat)).toInt), .inr (.inr (some 0))]) (w' := (SH, dt)) rfl ?_
  have r4 := i32_R (xs ((i + 4).toNat))
  refine go_smpq PM267 (L' := [some (.inr (.inr (some 3000))), some (.inr (.inr (some 0))), some (.inr (.inr (some 79))), some (.inl i)]) (st' := [.inl ((xs ((i + 4).toNat)).toInt), .inl ((xs ((i + 3).toNat)).toInt), .inl ((xs ((i + 2).toNat)).toInt), .inl ((xs ((i + 1).toNat)).toInt), .inr (.inr (some 0))]) (w' := (SH, dt)) rfl rfl (s_iald (n := L) (f := fun j => (xs j).toInt) (am_scr hLL) ⟨by omega, by omega⟩) ?_
  refine go_callq PM267 PM78 (Q' := _) rfl rfl rfl rfl (sp_X5_weight L xs sio (d + 33) dt hI  ((xs ((i + 1).toNat)).toInt) ⟨by omega, by omega⟩ ((xs ((i + 2).toNat)).toInt) ⟨by omega, by omega⟩ ((xs ((i + 3).toNat)).toInt) ⟨by omega, by omega⟩ ((xs ((i + 4).toNat)).toInt) ⟨by omega, by omega⟩ ) ?_
  rintro _ _ ⟨dt6, rfl, hI7, hF8, h5⟩
  refine ⟨rfl, ?_⟩
  have hF9 : Fr [0, 1, 2, 3, 4, 5, 6, 7, 8, 9, 10, 11, 12, 13, 14, 15, 16, 17, 18, 19, 20, 21, 22, 23, 24, 25, 26, 27, 28, 29, 30, 31, 32, 33, 34, 35, 36, 37, 38, 39, 40, 41, 42, 43, 44, 45, 46, 47, 48, 49, 50, 51, 52, 53, 54, 55, 56, 57, 58, 59, 60, 61, 62, 63, 64, 65, 66, 67, 68, 69, 70, 71, 72, 73, 74, 75, 76, 77, 78, 79, 80, 81, 82, 83, 84, 85, 86, 87, 88, 89, 90, 91, 92, 93, 94, 95, 96, 97, 98, 99, 100, 101, 102, 103, 104] dt dt6 := Fr_tr hF hF8 (by decide)
  have hM10 : MW (dt6 80) := MW_fr hM hF8 (by decide)
  have w11 : dt6 1 0 = dt 1 0 := hF8 1 (by decide) 0
  have w12 : dt6 7 3 = dt 7 3 := hF8 7 (by decide) 3
  have w13 : dt6 10 3 = dt 10 3 := hF8 10 (by decide) 3
  have w14 : dt6 12 3 = dt 12 3 := hF8 12 (by decide) 3
  have w15 : dt6 14 3 = dt 14 3 := hF8 14 (by decide) 3
  have w16 : dt6 16 3 = dt 16 3 := hF8 16 (by decide) 3
  have w17 : dt6 18 0 = dt 18 0 := hF8 18 (by decide) 0
  have w18 : dt6 24 3 = dt 24 3 := hF8 24 (by decide) 3
  have w19 : dt6 27 3 = dt 27 3 := hF8 27 (by decide) 3
  have w20 : dt6 29 3 = dt 29 3 := hF8 29 (by decide) 3
  have w21 : dt6 31 3 = dt 31 3 := hF8 31 (by decide) 3
  have w22 : dt6 33 3 = dt 33 3 := hF8 33 (by decide) 3
  have w23 : dt6 0 2 = dt 0 2 := hF8 0 (by decide) 2
  have w24 : dt6 35 1 = dt 35 1 := hF8 35 (by decide) 1
  have w25 : dt6 35 2 = dt 35 2 := hF8 35 (by decide) 2
  have w26 : dt6 35 3 = dt 35 3 := hF8 35 (by decide) 3
  have w27 : dt6 80 0 = dt 80 0 := hF8 80 (by decide) 0
  have w28 : dt6 80 1 = dt 80 1 := hF8 80 (by decide) 1
  have w29 : dt6 80 2 = dt 80 2 := hF8 80 (by decide) 2
  have w30 : dt6 80 3 = dt 80 3 := hF8 80 (by decide) 3
  have w31 : dt6 80 4 = dt 80 4 := hF8 80 (by decide) 4
  have w32 : dt6 80 5 = dt 80 5 := hF8 80 (by decide) 5
  have w33 : dt6 81 0 = dt 81 0 := hF8 81 (by decide) 0
  have w34 : dt6 81 1 = dt 81 1 := hF8 81 (by decide) 1
  have w35 : dt6 81 2 = dt 81 2 := hF8 81 (by decide) 2
  have w36 : dt6 81 3 = dt 81 3 := hF8 81 (by decide) 3
  have w37 : dt6 81 4 = dt 81 4 := hF8 81 (by decide) 4
  have w38 : dt6 81 5 = dt 81 5 := hF8 81 (by decide) 5
  have w39 : dt6 79 2 = dt 79 2 := hF8 79 (by decide) 2
  have w40 : dt6 79 12 = dt 79 12 := hF8 79 (by decide) 12
  have w41 : dt6 79 19 = dt 79 19 := hF8 79 (by decide) 19
  have w42 : dt6 79 21 = dt 79 21 := hF8 79 (by decide) 21
  rcases h5 with ⟨v_h5, rfl, h5r, h5⟩
  have M243 : MW (dt6 81) := MW_frk hM2 hF8 (by decide)
  have C44 : ∀ j : Nat, dt6 2 j = dt 2 j := fun j => (hF8 2 (by decide) j).trans ((fun _ => rfl) j)
  have C45 : ∀ j : Nat, dt6 3 j = dt 3 j := fun j => (hF8 3 (by decide) j).trans ((fun _ => rfl) j)
  have C46 : ∀ j : Nat, dt6 19 j = dt 19 j := fun j => (hF8 19 (by decide) j).trans ((fun _ => rfl) j)
  have C47 : ∀ j : Nat, dt6 20 j = dt 20 j := fun j => (hF8 20 (by decide) j).trans ((fun _ => rfl) j)
  have C48 : ∀ j : Nat, dt6 8 j = dt 8 j := fun j => (hF8 8 (by decide) j).trans ((fun _ => rfl) j)
  have C49 : ∀ j : Nat, dt6 25 j = dt 25 j := fun j => (hF8 25 (by decide) j).trans ((fun _ => rfl) j)
  have C50 : ∀ j : Nat, dt6 9 j = dt 9 j := fun j => (hF8 9 (by decide) j).trans ((fun _ => rfl) j)
  have C51 : ∀ j : Nat, dt6 26 j = dt 26 j := fun j => (hF8 26 (by decide) j).trans ((fun _ => rfl) j)
  have C52 : ∀ j : Nat, dt6 36 j = dt 36 j := fun j => (hF8 36 (by decide) j).trans ((fun _ => rfl) j)
  have C53 : ∀ j : Nat, dt6 80 j = dt 80 j := fun j => (hF8 80 (by decide) j).trans ((fun _ => rfl) j)
  have C54 : ∀ j : Nat, dt6 81 j = dt 81 j := fun j => (hF8 81 (by decide) j).trans ((fun _ => rfl) j)
  have C55 : ∀ j : Nat, dt6 85 j = dt 85 j := fun j => (hF8 85 (by decide) j).trans ((fun _ => rfl) j)
  refine go_toq PM267 (k := 6) (pc' := 673) (L' := [some (.inr (.inr (some 3000))), some (.inr (.inr (some 0))), some (.inr (.inr (some 79))), some (.inl i)]) (st' := [.inl (i + 1), .inr (.inr (some 3000)), .inr (.inr (some 79))]) (w' := (SH, dt6)) rfl ?_
  have r56 := i32_R (xs ((i + 1).toNat))
  refine go_smpq PM267 (L' := [some (.inr (.inr (some 3000))), some (.inr (.inr (some 0))), some (.inr (.inr (some 79))), some (.inl i)]) (st' := [.inl ((xs ((i + 1).toNat)).toInt), .inr (.inr (some 79))]) (w' := (SH, dt6)) rfl rfl (s_iald (n := L) (f := fun j => (xs j).toInt) (am_scr hLL) ⟨by omega, by omega⟩) ?_
  refine go_toq PM267 (k := 4) (pc' := 678) (L' := [some (.inr (.inr (some 3000))), some (.inr (.inr (some 0))), some (.inr (.inr (some 79))), some (.inl i)]) (st' := [.inl (i + 2), .inr (.inr (some 3000)), .inl ((xs ((i + 1).toNat)).toInt), .inr (.inr (some 79))]) (w' := (SH, dt6)) rfl ?_
  have r57 := i32_R (xs ((i + 2).toNat))
  refine go_smpq PM267 (L' := [some (.inr (.inr (some 3000))), some (.inr (.inr (some 0))), some (.inr (.inr (some 79))), some (.inl i)]) (st' := [.inl ((xs ((i + 2).toNat)).toInt), .inl ((xs ((i + 1).toNat)).toInt), .inr (.inr (some 79))]) (w' := (SH, dt6)) rfl rfl (s_iald (n := L) (f := fun j => (xs j).toInt) (am_scr hLL) ⟨by omega, by omega⟩) ?_
  refine go_toq PM267 (k := 4) (pc' := 683) (L' := [some (.inr (.inr (some 3000))), some (.inr (.inr (some 0))), some (.inr (.inr (some 79))), some (.inl i)]) (st' := [.inl (i + 3), .inr (.inr (some 3000)), .inl ((xs ((i + 2).toNat)).toInt), .inl ((xs ((i + 1).toNat)).toInt), .inr (.inr (some 79))]) (w' := (SH, dt6)) rfl ?_
  have r58 := i32_R (xs ((i + 3).toNat))
  refine go_smpq PM267 (L' := [some (.inr (.inr (some 3000))), some (.inr (.inr (some 0))), some (.inr (.inr (some 79))), some (.inl i)]) (st' := [.inl ((xs ((i + 3).toNat)).toInt), .inl ((xs ((i + 2).toNat)).toInt), .inl ((xs ((i + 1).toNat)).toInt), .inr (.inr (some 79))]) (w' := (SH, dt6)) rfl rfl (s_iald (n := L) (f := fun j => (xs j).toInt) (am_scr hLL) ⟨by omega, by omega⟩) ?_
  refine go_toq PM267 (k := 4) (pc' := 688) (L' := [some (.inr (.inr (some 3000))), some (.inr (.inr (some 0))), some (.inr (.inr (some 79))), some (.inl i)]) (st' := [.inl (i + 4), .inr (.inr (some 3000)), .inl ((xs ((i + 3).toNat)).toInt), .inl ((xs ((i + 2).toNat)).toInt), .inl ((xs ((i + 1).toNat)).toInt), .inr (.inr (some 79))]) (w' := (SH, dt6)) rfl ?_
  have r59 := i32_R (xs ((i + 4).toNat))
  refine go_smpq PM267 (L' := [some (.inr (.inr (some 3000))), some (.inr (.inr (some 0))), some (.inr (.inr (some 79))), some (.inl i)]) (st' := [.inl ((xs ((i + 4).toNat)).toInt), .inl ((xs ((i + 3).toNat)).toInt), .inl ((xs ((i + 2).toNat)).toInt), .inl ((xs ((i + 1).toNat)).toInt), .inr (.inr (some 79))]) (w' := (SH, dt6)) rfl rfl (s_iald (n := L) (f := fun j => (xs j).toInt) (am_scr hLL) ⟨by omega, by omega⟩) ?_
  refine go_callq PM267 PM207 (Q' := _) rfl rfl rfl rfl (sp_X6_weight L xs sio (d + 32) dt6 hI7 hM10  ((xs ((i + 1).toNat)).toInt) ⟨by omega, by omega⟩ ((xs ((i + 2).toNat)).toInt) ⟨by omega, by omega⟩ ((xs ((i + 3).toNat)).toInt) ⟨by omega, by omega⟩ ((xs ((i + 4).toNat)).toInt) ⟨by omega, by omega⟩ ) ?_
  rintro _ _ ⟨dt61, rfl, hI62, hF63, h60⟩
  refine ⟨rfl, ?_⟩
  have hF64 : Fr [0, 1, 2, 3, 4, 5, 6, 7, 8, 9, 10, 11, 12, 13, 14, 15, 16, 17, 18, 19, 20, 21, 22, 23, 24, 25, 26, 27, 28, 29, 30, 31, 32, 33, 34, 35, 36, 37, 38, 39, 40, 41, 42, 43, 44, 45, 46, 47, 48, 49, 50, 51, 52, 53, 54, 55, 56, 57, 58, 59, 60, 61, 62, 63, 64, 65, 66, 67, 68, 69, 70, 71, 72, 73, 74, 75, 76, 77, 78, 79, 80, 81, 82, 83, 84, 85, 86, 87, 88, 89, 90, 91, 92, 93, 94, 95, 96, 97, 98, 99, 100, 101, 102, 103, 104] dt dt61 := Fr_tr hF9 hF63 (by decide)
  have hM65 : MW (dt61 80) := MW_fr hM10 hF63 (by decide)
  have w66 : dt61 1 0 = dt 1 0 := (hF63 1 (by decide) 0).trans w11
  have w67 : dt61 7 3 = dt 7 3 := (hF63 7 (by decide) 3).trans w12
  have w68 : dt61 10 3 = dt 10 3 := (hF63 10 (by decide) 3).trans w13
  have w69 : dt61 12 3 = dt 12 3 := (hF63 12 (by decide) 3).trans w14
  have w70 : dt61 14 3 = dt 14 3 := (hF63 14 (by decide) 3).trans w15
  have w71 : dt61 16 3 = dt 16 3 := (hF63 16 (by decide) 3).trans w16
  have w72 : dt61 18 0 = dt 18 0 := (hF63 18 (by decide) 0).trans w17
  have w73 : dt61 24 3 = dt 24 3 := (hF63 24 (by decide) 3).trans w18
  have w74 : dt61 27 3 = dt 27 3 := (hF63 27 (by decide) 3).trans w19
  have w75 : dt61 29 3 = dt 29 3 := (hF63 29 (by decide) 3).trans w20
  have w76 : dt61 31 3 = dt 31 3 := (hF63 31 (by decide) 3).trans w21
  have w77 : dt61 33 3 = dt 33 3 := (hF63 33 (by decide) 3).trans w22
  have w78 : dt61 0 2 = dt 0 2 := (hF63 0 (by decide) 2).trans w23
  have w79 : dt61 35 1 = dt 35 1 := (hF63 35 (by decide) 1).trans w24
  have w80 : dt61 35 2 = dt 35 2 := (hF63 35 (by decide) 2).trans w25
  have w81 : dt61 35 3 = dt 35 3 := (hF63 35 (by decide) 3).trans w26
  have w82 : dt61 80 0 = dt 80 0 := (hF63 80 (by decide) 0).trans w27
  have w83 : dt61 80 1 = dt 80 1 := (hF63 80 (by decide) 1).trans w28
  have w84 : dt61 80 2 = dt 80 2 := (hF63 80 (by decide) 2).trans w29
  have w85 : dt61 80 3 = dt 80 3 := (hF63 80 (by decide) 3).trans w30
  have w86 : dt61 80 4 = dt 80 4 := (hF63 80 (by decide) 4).trans w31
  have w87 : dt61 80 5 = dt 80 5 := (hF63 80 (by decide) 5).trans w32
  have w88 : dt61 81 0 = dt 81 0 := (hF63 81 (by decide) 0).trans w33
  have w89 : dt61 81 1 = dt 81 1 := (hF63 81 (by decide) 1).trans w34
  have w90 : dt61 81 2 = dt 81 2 := (hF63 81 (by decide) 2).trans w35
  have w91 : dt61 81 3 = dt 81 3 := (hF63 81 (by decide) 3).trans w36
  have w92 : dt61 81 4 = dt 81 4 := (hF63 81 (by decide) 4).trans w37
  have w93 : dt61 81 5 = dt 81 5 := (hF63 81 (by decide) 5).trans w38
  have w94 : dt61 79 2 = dt 79 2 := (hF63 79 (by decide) 2).trans w39
  have w95 : dt61 79 12 = dt 79 12 := (hF63 79 (by decide) 12).trans w40
  have w96 : dt61 79 19 = dt 79 19 := (hF63 79 (by decide) 19).trans w41
  have w97 : dt61 79 21 = dt 79 21 := (hF63 79 (by decide) 21).trans w42
  rcases h60 with ⟨v_h60, rfl, h60r, h60⟩
  have M298 : MW (dt61 81) := MW_frk M243 hF63 (by decide)
  have C99 : ∀ j : Nat, dt61 2 j = dt 2 j := fun j => (hF63 2 (by decide) j).trans (C44 j)
  have C100 : ∀ j : Nat, dt61 3 j = dt 3 j := fun j => (hF63 3 (by decide) j).trans (C45 j)
  have C101 : ∀ j : Nat, dt61 19 j = dt 19 j := fun j => (hF63 19 (by decide) j).trans (C46 j)
  have C102 : ∀ j : Nat, dt61 20 j = dt 20 j := fun j => (hF63 20 (by decide) j).trans (C47 j)
  have C103 : ∀ j : Nat, dt61 8 j = dt 8 j := fun j => (hF63 8 (by decide) j).trans (C48 j)
  have C104 : ∀ j : Nat, dt61 25 j = dt 25 j := fun j => (hF63 25 (by decide) j).trans (C49 j)
  have C105 : ∀ j : Nat, dt61 9 j = dt 9 j := fun j => (hF63 9 (by decide) j).trans (C50 j)
  have C106 : ∀ j : Nat, dt61 26 j = dt 26 j := fun j => (hF63 26 (by decide) j).trans (C51 j)
  have C107 : ∀ j : Nat, dt61 36 j = dt 36 j := fun j => (hF63 36 (by decide) j).trans (C52 j)
  have C108 : ∀ j : Nat, dt61 80 j = dt 80 j := fun j => (hF63 80 (by decide) j).trans (C53 j)
  have C109 : ∀ j : Nat, dt61 81 j = dt 81 j := fun j => (hF63 81 (by decide) j).trans (C54 j)
  have C110 : ∀ j : Nat, dt61 85 j = dt 85 j := fun j => (hF63 85 (by decide) j).trans (C55 j)
  refine go_toq PM267 (k := 2) (pc' := 1435) (L' := [some (.inr (.inr (some 3000))), some (.inr (.inr (some 0))), some (.inr (.inr (some 79))), some (.inl i)]) (st' := []) (w' := (SH, dt61)) rfl ?_
  exact K dt61 hI62 hM65 M298 (w66.trans (hk0.trans w82.symm)) (w67.trans (hk1.trans w83.symm)) (w68.trans (hk2.trans w84.symm)) (w69.trans (hk3.trans w85.symm)) (w70.trans (hk4.trans w86.symm)) (w71.trans (hk5.trans w87.symm)) (w72.trans (hk6.trans w88.symm)) (w73.trans (hk7.trans w89.symm)) (w74.trans (hk8.trans w90.symm)) (w75.trans (hk9.trans w91.symm)) (w76.trans (hk10.trans w92.symm)) (w77.trans (hk11.trans w93.symm)) (w78.trans (hk12.trans w94.symm)) (w79.trans (hk13.trans w95.symm)) (w80.trans (hk14.trans w96.symm)) (w81.trans (hk15.trans w97.symm)) (by first | exact hI | exact TPL_k hd0 C107 C110 (by omega) | (exfalso; omega)) (by first | exact hI | exact SCL_k hd1 hM (fun j _ => C99 j) (fun j _ => C100 j) (fun j _ _ => C108 j) | (exfalso; omega)) (by first | exact hI | exact SCL_k hd2 hM2 (fun j _ => C101 j) (fun j _ => C102 j) (fun j _ _ => C109 j) | (exfalso; omega)) (by first | exact hI | exact QRL_k hd3 hM (fun j _ => C103 j) (C108 1) (fun j _ _ => C108 j) | (exfalso; omega)) (by first | exact hI | exact QRL_k hd4 hM2 (fun j _ => C104 j) (C109 1) (fun j _ _ => C109 j) | (exfalso; omega)) (by first | exact hI | exact SDL_k hd5 hM (fun j _ => C105 j) (C108 1) (fun j _ _ => C108 j) (fun j _ _ => C108 j) | (exfalso; omega)) (by first | exact hI | exact SDL_k hd6 hM2 (fun j _ => C106 j) (C109 1) (fun j _ _ => C109 j) (fun j _ _ => C109 j) | (exfalso; omega))
set_option maxRecDepth 20000 in
set_option maxHeartbeats 8000000 in
theorem sp_case12 (L : Nat) (xs : Nat → Int32) (sio : Option Nat) (d : Nat) (Q : Option AV → am_W → Prop) (hLL : L ≤ 3072) (i : Int) (hi : 0 ≤ i ∧ i ≤ 3066) (hil : i ≤ (L : Int) - 6) (dt : Nat → Nat → Int) (hI : InvC dt) (hM : MW (dt 80)) (hM2 : MW (dt 81)) (hk0 : dt 1 0 = dt 80 0) (hk1 : dt 7 3 = dt 80 1) (hk2 : dt 10 3 = dt 80 2) (hk3 : dt 12 3 = dt 80 3) (hk4 : dt 14 3 = dt 80 4) (hk5 : dt 16 3 = dt 80 5) (hk6 : dt 18 0 = dt 81 0) (hk7 : dt 24 3 = dt 81 1) (hk8 : dt 27 3 = dt 81 2) (hk9 : dt 29 3 = dt 81 3) (hk10 : dt 31 3 = dt 81 4) (hk11 : dt 33 3 = dt 81 5) (hk12 : dt 0 2 = dt 79 2) (hk13 : dt 35 1 = dt 79 12) (hk14 : dt 35 2 = dt 79 19) (hk15 : dt 35 3 = dt 79 21) (hd0 : TPL (dt 36) (dt 85) (dt 35 1)) (hd1 : SCL (dt 2) (dt 3) (dt 80)) (hd2 : SCL (dt 19) (dt 20) (dt 81)) (hd3 : QRL (dt 8) (dt 80)) (hd4 : QRL (dt 25) (dt 81)) (hd5 : SDL (dt 9) (dt 80)) (hd6 : SDL (dt 26) (dt 81)) (K : ∀ (dt : Nat → Nat → Int) (hI : InvC dt) (hM : MW (dt 80)) (hM2 : MW (dt 81)) (hk0 : dt 1 0 = dt 80 0) (hk1 : dt 7 3 = dt 80 1) (hk2 : dt 10 3 = dt 80 2) (hk3 : dt 12 3 = dt 80 3) (hk4 : dt 14 3 = dt 80 4) (hk5 : dt 16 3 = dt 80 5) (hk6 : dt 18 0 = dt 81 0) (hk7 : dt 24 3 = dt 81 1) (hk8 : dt 27 3 = dt 81 2) (hk9 : dt 29 3 = dt 81 3) (hk10 : dt 31 3 = dt 81 4) (hk11 : dt 33 3 = dt 81 5) (hk12 : dt 0 2 = dt 79 2) (hk13 : dt 35 1 = dt 79 12) (hk14 : dt 35 2 = dt 79 19) (hk15 : dt 35 3 = dt 79 21) (hd0 : TPL (dt 36) (dt 85) (dt 35 1)) (hd1 : SCL (dt 2) (dt 3) (dt 80)) (hd2 : SCL (dt 19) (dt 20) (dt 81)) (hd3 : QRL (dt 8) (dt 80)) (hd4 : QRL (dt 25) (dt 81)) (hd5 : SDL (dt 9) (dt 80)) (hd6 : SDL (dt 26) (dt 81)), GO (am_XX L xs sio) (d + 39) 267 1435 [some (.inr (.inr (some 3000))), some (.inr (.inr (some 0))), some (.inr (.inr (some 79))), some (.inl i)] [] (SH, dt) Q) : GO (am_XX L xs sio) (d + 39) 267 696 [some (.inr (.inr (some 3000))), some (.inr (.inr (some 0))), some (.inr (.inr (some 79))), some (.inl i)] [] (SH, dt) Q := by
  have hF : Fr [0, 1, 2, 3, 4, 5, 6, 7, 8, 9, 10, 11, 12, 13, 14, 15, 16, 17, 18, 19, 20, 21, 22, 23, 24, 25, 26, 27, 28, 29, 30, 31, 32, 33, 34, 35, 36, 37, 38, 39, 40, 41, 42, 43, 44, 45, 46, 47, 48, 49, 50, 51, 52, 53, 54, 55, 56, 57, 58, 59, 60, 61, 62, 63, 64, 65, 66, 67, 68, 69, 70, 71, 72, 73, 74, 75, 76, 77, 78, 79, 80, 81, 82, 83, 84, 85, 86, 87, 88, 89, 90, 91, 92, 93, 94, 95, 96, 97, 98, 99, 100, 101, 102, 103, 104] dt dt := Fr_refl
  have hqo := QOC_R hd3 hM hk1
  have hb1_ := hM.1.1
  refine go_toq PM267 (k := 5) (pc' := 701) (L' := [some (.inr (.inr (some 3000))), some (.inr (.inr (some 0))), some (.inr (.inr (some 79))), some (.inl i)]) (st' := [.inl (i + 1), .inr (.inr (some 3000)), .inr (.inr (some 0))]) (w' := (SH, dt)) rfl ?_
  have r1 := i32_R (xs ((i + 1).toNat))
  refine go_smpq PM267 (L' := [some (.inr (.inr (some 3000))), some (.inr (.inr (some 0))), some (.inr (.inr (some 79))), some (.inl i)]) (st' := [.inl ((xs ((i + 1).toNat)).toInt), .inr (.inr (some 0))]) (w' := (SH, dt)) rfl rfl (s_iald (n := L) (f := fun j => (xs j).toInt) (am_scr hLL) ⟨by omega, by omega⟩) ?_
  refine go_toq PM267 (k := 4) (pc' := 706) (L' := [some (.inr (.inr (some 3000))), some (.inr (.inr (some 0))), some (.inr (.inr (some 79))), some (.inl i)]) (st' := [.inl (i + 2), .inr (.inr (some 3000)), .inl ((xs ((i + 1).toNat)).toInt), .inr (.inr (some 0))]) (w' := (SH, dt)) rfl ?_
  have r2 := i32_R (xs ((i + 2).toNat))
  refine go_smpq PM267 (L' := [some (.inr (.inr (some 3000))), some (.inr (.inr (some 0))), some (.inr (.inr (some 79))), some (.inl i)]) (st' := [.inl ((xs ((i + 2).toNat)).toInt), .inl ((xs ((i + 1).toNat)).toInt), .inr (.inr (some 0))]) (w' := (SH, dt)) rfl rfl (s_iald (n := L) (f := fun j => (xs j).toInt) (am_scr hLL) ⟨by omega, by omega⟩) ?_
  refine go_toq PM267 (k := 4) (pc' := 711) (L' := [some (.inr (.inr (some 3000))), some (.inr (.inr (some 0))), some (.inr (.inr (some 79))), some (.inl i)]) (st' := [.inl (i + 3), .inr (.inr (some 3000)), .inl ((xs ((i + 2).toNat)).toInt), .inl ((xs ((i + 1).toNat)).toInt), .inr (.inr (some 0))]) (w' := (SH, dt)) rfl ?_
  have r3 := i32_R (xs ((i + 3).toNat))
  refine go_smpq PM267 (L' := [some (.inr (.inr (some 3000))), some (.inr (.inr (some 0))), some (.inr (.inr (some 79))), some (.inl i)]) (st' := [.inl ((xs ((i + 3).toNat)).toInt), .inl ((xs ((i + 2).toNat)).toInt), .inl ((xs ((i + 1).toNat)).toInt), .inr (.inr (some 0))]) (w' := (SH, dt)) rfl rfl (s_iald (n := L) (f := fun j => (xs j).toInt) (am_scr hLL) ⟨by omega, by omega⟩) ?_
  refine go_callq PM267 PM79 (Q' := _) rfl rfl rfl rfl (sp_X5_ask L xs sio (d + 33) dt hI  ((xs ((i + 1).toNat)).toInt) ⟨by omega, by omega⟩ ((xs ((i + 2).toNat)).toInt) ⟨by omega, by omega⟩ ((xs ((i + 3).toNat)).toInt) ⟨by omega, by omega⟩ ) ?_
  rintro _ _ ⟨dt5, rfl, hI6, hF7, h4⟩
  refine ⟨rfl, ?_⟩
  have hF8 : Fr [0, 1, 2, 3, 4, 5, 6, 7, 8, 9, 10, 11, 12, 13, 14, 15, 16, 17, 18, 19, 20, 21, 22, 23, 24, 25, 26, 27, 28, 29, 30, 31, 32, 33, 34, 35, 36, 37, 38, 39, 40, 41, 42, 43, 44, 45, 46, 47, 48, 49, 50, 51, 52, 53, 54, 55, 56, 57, 58, 59, 60, 61, 62, 63, 64, 65, 66, 67, 68, 69, 70, 71, 72, 73, 74, 75, 76, 77, 78, 79, 80, 81, 82, 83, 84, 85, 86, 87, 88, 89, 90, 91, 92, 93, 94, 95, 96, 97, 98, 99, 100, 101, 102, 103, 104] dt dt5 := Fr_tr hF hF7 (by decide)
  have hM9 : MW (dt5 80) := MW_fr hM hF7 (by decide)
  have w10 : dt5 7 3 = dt 7 3 := hF7 7 (by decide) 3
  have w11 : dt5 10 3 = dt 10 3 := hF7 10 (by decide) 3
  have w12 : dt5 14 3 = dt 14 3 := hF7 14 (by decide) 3
  have w13 : dt5 16 3 = dt 16 3 := hF7 16 (by decide) 3
  have w14 : dt5 18 0 = dt 18 0 := hF7 18 (by decide) 0
  have w15 : dt5 24 3 = dt 24 3 := hF7 24 (by decide) 3
  have w16 : dt5 27 3 = dt 27 3 := hF7 27 (by decide) 3
  have w17 : dt5 29 3 = dt 29 3 := hF7 29 (by decide) 3
  have w18 : dt5 31 3 = dt 31 3 := hF7 31 (by decide) 3
  have w19 : dt5 33 3 = dt 33 3 := hF7 33 (by decide) 3
  have w20 : dt5 0 2 = dt 0 2 := hF7 0 (by decide) 2
  have w21 : dt5 35 1 = dt 35 1 := hF7 35 (by decide) 1
  have w22 : dt5 35 2 = dt 35 2 := hF7 35 (by decide) 2
  have w23 : dt5 35 3 = dt 35 3 := hF7 35 (by decide) 3
  have w24 : dt5 80 0 = dt 80 0 := hF7 80 (by decide) 0
  have w25 : dt5 80 1 = dt 80 1 := hF7 80 (by decide) 1
  have w26 : dt5 80 2 = dt 80 2 := hF7 80 (by decide) 2
  have w27 : dt5 80 3 = dt 80 3 := hF7 80 (by decide) 3
  have w28 : dt5 80 4 = dt 80 4 := hF7 80 (by decide) 4
  have w29 : dt5 80 5 = dt 80 5 := hF7 80 (by decide) 5
  have w30 : dt5 81 0 = dt 81 0 := hF7 81 (by decide) 0
  have w31 : dt5 81 1 = dt 81 1 := hF7 81 (by decide) 1
  have w32 : dt5 81 2 = dt 81 2 := hF7 81 (by decide) 2
  have w33 : dt5 81 3 = dt 81 3 := hF7 81 (by decide) 3
  have w34 : dt5 81 4 = dt 81 4 := hF7 81 (by decide) 4
  have w35 : dt5 81 5 = dt 81 5 := hF7 81 (by decide) 5
  have w36 : dt5 79 2 = dt 79 2 := hF7 79 (by decide) 2
  have w37 : dt5 79 12 = dt 79 12 := hF7 79 (by decide) 12
  have w38 : dt5 79 19 = dt 79 19 := hF7 79 (by decide) 19
  have w39 : dt5 79 21 = dt 79 21 := hF7 79 (by decide) 21
  rcases h4 with ⟨rfl, h4⟩ | ⟨v_h4, rfl, h4r, h4⟩
  · skip
    obtain ⟨h4_0, h4_1, h4_2⟩ := h4
    have w40 : dt5 1 0 = dt 1 0 := h4_1
    have w41 : dt5 12 3 = dt 12 3 := h4_2
    have M242 : MW (dt5 81) := MW_frk hM2 hF7 (by decide)
    have C43 : ∀ j : Nat, dt5 2 j = dt 2 j := fun j => (hF7 2 (by decide) j).trans ((fun _ => rfl) j)
    have C44 : ∀ j : Nat, dt5 3 j = dt 3 j := fun j => (hF7 3 (by decide) j).trans ((fun _ => rfl) j)
    have C45 : ∀ j : Nat, dt5 19 j = dt 19 j := fun j => (hF7 19 (by decide) j).trans ((fun _ => rfl) j)
    have C46 : ∀ j : Nat, dt5 20 j = dt 20 j := fun j => (hF7 20 (by decide) j).trans ((fun _ => rfl) j)
    have C47 : ∀ j : Nat, dt5 8 j = dt 8 j := fun j => (hF7 8 (by decide) j).trans ((fun _ => rfl) j)
    have C48 : ∀ j : Nat, dt5 25 j = dt 25 j := fun j => (hF7 25 (by decide) j).trans ((fun _ => rfl) j)
    have C49 : ∀ j : Nat, dt5 9 j = dt 9 j := fun j => (hF7 9 (by decide) j).trans ((fun _ => rfl) j)
    have C50 : ∀ j : Nat, dt5 26 j = dt 26 j := fun j => (hF7 26 (by decide) j).trans ((fun _ => rfl) j)
    have C51 : ∀ j : Nat, dt5 36 j = dt 36 j := fun j => (hF7 36 (by decide) j).trans ((fun _ => rfl) j)
    have C52 : ∀ j : Nat, dt5 80 j = dt 80 j := fun j => (hF7 80 (by decide) j).trans ((fun _ => rfl) j)
    have C53 : ∀ j : Nat, dt5 81 j = dt 81 j := fun j => (hF7 81 (by decide) j).trans ((fun _ => rfl) j)
    have C54 : ∀ j : Nat, dt5 85 j = dt 85 j := fun j => (hF7 85 (by decide) j).trans ((fun _ => rfl) j)
    refine go_toq PM267 (k := 6) (pc' := 721) (L' := [some (.inr (.inr (some 3000))), some (.inr (.inr (some 0))), some (.inr (.inr (some 79))), some (.inl i)]) (st' := [.inl (i + 1), .inr (.inr (some 3000)), .inr (.inr (some 79))]) (w' := (SH, dt5)) rfl ?_
    have r55 := i32_R (xs ((i + 1).toNat))
    refine go_smpq PM267 (L' := [some (.inr (.inr (some 3000))), some (.inr (.inr (some 0))), some (.inr (.inr (some 79))), some (.inl i)]) (st' := [.inl ((xs ((i + 1).toNat)).toInt), .inr (.inr (some 79))]) (w' := (SH, dt5)) rfl rfl (s_iald (n := L) (f := fun j => (xs j).toInt) (am_scr hLL) ⟨by omega, by omega⟩) ?_
    refine go_toq PM267 (k := 4) (pc' := 726) (L' := [some (.inr (.inr (some 3000))), some (.inr (.inr (some 0))), some (.inr (.inr (some 79))), some (.inl i)]) (st' := [.inl (i + 2), .inr (.inr (some 3000)), .inl ((xs ((i + 1).toNat)).toInt), .inr (.inr (some 79))]) (w' := (SH, dt5)) rfl ?_
    have r56 := i32_R (xs ((i + 2).toNat))
    refine go_smpq PM267 (L' := [some (.inr (.inr (some 3000))), some (.inr (.inr (some 0))), some (.inr (.inr (some 79))), some (.inl i)]) (st' := [.inl ((xs ((i + 2).toNat)).toInt), .inl ((xs ((i + 1).toNat)).toInt), .inr (.inr (some 79))]) (w' := (SH, dt5)) rfl rfl (s_iald (n := L) (f := fun j => (xs j).toInt) (am_scr hLL) ⟨by omega, by omega⟩) ?_
    refine go_toq PM267 (k := 4) (pc' := 731) (L' := [some (.inr (.inr (some 3000))), some (.inr (.inr (some 0))), some (.inr (.inr (some 79))), some (.inl i)]) (st' := [.inl (i + 3), .inr (.inr (some 3000)), .inl ((xs ((i + 2).toNat)).toInt), .inl ((xs ((i + 1).toNat)).toInt), .inr (.inr (some 79))]) (w' := (SH, dt5)) rfl ?_
    have r57 := i32_R (xs ((i + 3).toNat))
    refine go_smpq PM267 (L' := [some (.inr (.inr (some 3000))), some (.inr (.inr (some 0))), some (.inr (.inr (some 79))), some (.inl i)]) (st' := [.inl ((xs ((i + 3).toNat)).toInt), .inl ((xs ((i + 2).toNat)).toInt), .inl ((xs ((i + 1).toNat)).toInt), .inr (.inr (some 79))]) (w' := (SH, dt5)) rfl rfl (s_iald (n := L) (f := fun j => (xs j).toInt) (am_scr hLL) ⟨by omega, by omega⟩) ?_
    refine go_callq PM267 PM211 (Q' := _) rfl rfl rfl rfl (sp_X6_ask_v L xs sio (d + 32) dt5 hI6 hM9  ((xs ((i + 1).toNat)).toInt) ⟨by omega, by omega⟩ ((xs ((i + 2).toNat)).toInt) ⟨by omega, by omega⟩ ((xs ((i + 3).toNat)).toInt) ⟨by omega, by omega⟩ ) ?_
    rintro _ _ ⟨dt59, rfl, hI60, hF61, h58⟩
    refine ⟨rfl, ?_⟩
    have hF62 : Fr [0, 1, 2, 3, 4, 5, 6, 7, 8, 9, 10, 11, 12, 13, 14, 15, 16, 17, 18, 19, 20, 21, 22, 23, 24, 25, 26, 27, 28, 29, 30, 31, 32, 33, 34, 35, 36, 37, 38, 39, 40, 41, 42, 43, 44, 45, 46, 47, 48, 49, 50, 51, 52, 53, 54, 55, 56, 57, 58, 59, 60, 61, 62, 63, 64, 65, 66, 67, 68, 69, 70, 71, 72, 73, 74, 75, 76, 77, 78, 79, 80, 81, 82, 83, 84, 85, 86, 87, 88, 89, 90, 91, 92, 93, 94, 95, 96, 97, 98, 99, 100, 101, 102, 103, 104] dt dt59 := Fr_tr hF8 hF61 (by decide)
    have w63 : dt59 1 0 = dt 1 0 := (hF61 1 (by decide) 0).trans w40
    have w64 : dt59 7 3 = dt 7 3 := (hF61 7 (by decide) 3).trans w10
    have w65 : dt59 10 3 = dt 10 3 := (hF61 10 (by decide) 3).trans w11
    have w66 : dt59 12 3 = dt 12 3 := (hF61 12 (by decide) 3).trans w41
    have w67 : dt59 14 3 = dt 14 3 := (hF61 14 (by decide) 3).trans w12
    have w68 : dt59 16 3 = dt 16 3 := (hF61 16 (by decide) 3).trans w13
    have w69 : dt59 18 0 = dt 18 0 := (hF61 18 (by decide) 0).trans w14
    have w70 : dt59 24 3 = dt 24 3 := (hF61 24 (by decide) 3).trans w15
    have w71 : dt59 27 3 = dt 27 3 := (hF61 27 (by decide) 3).trans w16
    have w72 : dt59 29 3 = dt 29 3 := (hF61 29 (by decide) 3).trans w17
    have w73 : dt59 31 3 = dt 31 3 := (hF61 31 (by decide) 3).trans w18
    have w74 : dt59 33 3 = dt 33 3 := (hF61 33 (by decide) 3).trans w19
    have w75 : dt59 0 2 = dt 0 2 := (hF61 0 (by decide) 2).trans w20
    have w76 : dt59 35 1 = dt 35 1 := (hF61 35 (by decide) 1).trans w21
    have w77 : dt59 35 2 = dt 35 2 := (hF61 35 (by decide) 2).trans w22
    have w78 : dt59 35 3 = dt 35 3 := (hF61 35 (by decide) 3).trans w23
    have w79 : dt59 81 0 = dt 81 0 := (hF61 81 (by decide) 0).trans w30
    have w80 : dt59 81 1 = dt 81 1 := (hF61 81 (by decide) 1).trans w31
    have w81 : dt59 81 2 = dt 81 2 := (hF61 81 (by decide) 2).trans w32
    have w82 : dt59 81 3 = dt 81 3 := (hF61 81 (by decide) 3).trans w33
    have w83 : dt59 81 4 = dt 81 4 := (hF61 81 (by decide) 4).trans w34
    have w84 : dt59 81 5 = dt 81 5 := (hF61 81 (by decide) 5).trans w35
    have w85 : dt59 79 2 = dt 79 2 := (hF61 79 (by decide) 2).trans w36
    have w86 : dt59 79 12 = dt 79 12 := (hF61 79 (by decide) 12).trans w37
    have w87 : dt59 79 19 = dt 79 19 := (hF61 79 (by decide) 19).trans w38
    have w88 : dt59 79 21 = dt 79 21 := (hF61 79 (by decide) 21).trans w39
    rcases h58 with ⟨rfl, h58⟩ | ⟨v_h58, rfl, h58r, h58⟩
    · skip
      have hM89 : MW (dt59 80) := h58.2.1
      obtain ⟨h58_0, h58_1, h58_2, h58_3, h58_4, h58_5, h58_6, h58_7, h58_8⟩ := h58
      have w90 : dt59 80 0 = dt 80 0 := h58_2.trans w24
      have w91 : dt59 80 1 = dt 80 1 := h58_3.trans w25
      have w92 : dt59 80 2 = dt 80 2 := h58_4.trans w26
      have w93 : dt59 80 3 = dt 80 3 := h58_5.trans w27
      have w94 : dt59 80 4 = dt 80 4 := h58_6.trans w28
      have w95 : dt59 80 5 = dt 80 5 := h58_7.trans w29
      have M296 : MW (dt59 81) := MW_frk M242 hF61 (by decide)
      have C97 : ∀ j : Nat, dt59 2 j = dt 2 j := fun j => (hF61 2 (by decide) j).trans (C43 j)
      have C98 : ∀ j : Nat, dt59 3 j = dt 3 j := fun j => (hF61 3 (by decide) j).trans (C44 j)
      have C99 : ∀ j : Nat, dt59 19 j = dt 19 j := fun j => (hF61 19 (by decide) j).trans (C45 j)
      have C100 : ∀ j : Nat, dt59 20 j = dt 20 j := fun j => (hF61 20 (by decide) j).trans (C46 j)
      have C101 : ∀ j : Nat, dt59 8 j = dt 8 j := fun j => (hF61 8 (by decide) j).trans (C47 j)
      have C102 : ∀ j : Nat, dt59 25 j = dt 25 j := fun j => (hF61 25 (by decide) j).trans (C48 j)
      have C103 : ∀ j : Nat, dt59 9 j = dt 9 j := fun j => (hF61 9 (by decide) j).trans (C49 j)
      have C104 : ∀ j : Nat, dt59 26 j = dt 26 j := fun j => (hF61 26 (by decide) j).trans (C50 j)
      have C105 : ∀ j : Nat, dt59 36 j = dt 36 j := fun j => (hF61 36 (by decide) j).trans (C51 j)
      have C106 : ∀ j : Nat, dt59 80 j = dt 80 j := fun j => (h58_8 j).trans (C52 j)
      have C107 : ∀ j : Nat, dt59 81 j = dt 81 j := fun j => (hF61 81 (by decide) j).trans (C53 j)
      have C108 : ∀ j : Nat, dt59 85 j = dt 85 j := fun j => (hF61 85 (by decide) j).trans (C54 j)
      refine go_toq PM267 (k := 2) (pc' := 1435) (L' := [some (.inr (.inr (some 3000))), some (.inr (.inr (some 0))), some (.inr (.inr (some 79))), some (.inl i)]) (st' := []) (w' := (SH, dt59)) rfl ?_
      exact K dt59 hI60 hM89 M296 (w63.trans (hk0.trans w90.symm)) (w64.trans (hk1.trans w91.symm)) (w65.trans (hk2.trans w92.symm)) (w66.trans (hk3.trans w93.symm)) (w67.trans (hk4.trans w94.symm)) (w68.trans (hk5.trans w95.symm)) (w69.trans (hk6.trans w79.symm)) (w70.trans (hk7.trans w80.symm)) (w71.trans (hk8.trans w81.symm)) (w72.trans (hk9.trans w82.symm)) (w73.trans (hk10.trans w83.symm)) (w74.trans (hk11.trans w84.symm)) (w75.trans (hk12.trans w85.symm)) (w76.trans (hk13.trans w86.symm)) (w77.trans (hk14.trans w87.symm)) (w78.trans (hk15.trans w88.symm)) (by first | exact hI | exact TPL_k hd0 C105 C108 (by omega) | (exfalso; omega)) (by first | exact hI | exact SCL_k hd1 hM (fun j _ => C97 j) (fun j _ => C98 j) (fun j _ _ => C106 j) | (exfalso; omega)) (by first | exact hI | exact SCL_k hd2 hM2 (fun j _ => C99 j) (fun j _ => C100 j) (fun j _ _ => C107 j) | (exfalso; omega)) (by first | exact hI | exact QRL_k hd3 hM (fun j _ => C101 j) (C106 1) (fun j _ _ => C106 j) | (exfalso; omega)) (by first | exact hI | exact QRL_k hd4 hM2 (fun j _ => C102 j) (C107 1) (fun j _ _ => C107 j) | (exfalso; omega)) (by first | exact hI | exact SDL_k hd5 hM (fun j _ => C103 j) (C106 1) (fun j _ _ => C106 j) (fun j _ _ => C106 j) | (exfalso; omega)) (by first | exact hI | exact SDL_k hd6 hM2 (fun j _ => C104 j) (C107 1) (fun j _ _ => C107 j) (fun j _ _ => C107 j) | (exfalso; omega))
    · skip
      have hM109 : MW (dt59 80) := h58.2.1
      obtain ⟨h58_0, h58_1, h58_2, h58_3, h58_4, h58_5, h58_6, h58_7, h58_8⟩ := h58
      have w110 : dt59 80 1 = dt 80 1 := h58_4.trans w25
      have w111 : dt59 80 2 = dt 80 2 := h58_5.trans w26
      have w112 : dt59 80 4 = dt 80 4 := h58_6.trans w28
      have w113 : dt59 80 5 = dt 80 5 := h58_7.trans w29
      have M2114 : MW (dt59 81) := MW_frk M242 hF61 (by decide)
      have C115 : ∀ j : Nat, dt59 2 j = dt 2 j := fun j => (hF61 2 (by decide) j).trans (C43 j)
      have C116 : ∀ j : Nat, dt59 3 j = dt 3 j := fun j => (hF61 3 (by decide) j).trans (C44 j)
      have C117 : ∀ j : Nat, dt59 19 j = dt 19 j := fun j => (hF61 19 (by decide) j).trans (C45 j)
      have C118 : ∀ j : Nat, dt59 20 j = dt 20 j := fun j => (hF61 20 (by decide) j).trans (C46 j)
      have C119 : ∀ j : Nat, dt59 8 j = dt 8 j := fun j => (hF61 8 (by decide) j).trans (C47 j)
      have C120 : ∀ j : Nat, dt59 25 j = dt 25 j := fun j => (hF61 25 (by decide) j).trans (C48 j)
      have C121 : ∀ j : Nat, dt59 9 j = dt 9 j := fun j => (hF61 9 (by decide) j).trans (C49 j)
      have C122 : ∀ j : Nat, dt59 26 j = dt 26 j := fun j => (hF61 26 (by decide) j).trans (C50 j)
      have C123 : ∀ j : Nat, dt59 36 j = dt 36 j := fun j => (hF61 36 (by decide) j).trans (C51 j)
      have C124 : ∀ j : Nat, dt59 81 j = dt 81 j := fun j => (hF61 81 (by decide) j).trans (C53 j)
      have C125 : ∀ j : Nat, dt59 85 j = dt 85 j := fun j => (hF61 85 (by decide) j).trans (C54 j)
      have F126 : ∀ j : Nat, 6 ≤ j → j < 974 → dt59 80 j = dt 80 j := fun j h1_ h2_ => (h58_8 j (by omega) (by omega) (by omega)).trans (C52 j)
      have F127 : ∀ j : Nat, 5320 ≤ j → j < 5380 → dt59 80 j = dt 80 j := fun j h1_ h2_ => (h58_8 j (by omega) (by omega) (by omega)).trans (C52 j)
      have F128 : dt59 80 1 = dt 80 1 := (h58_8 1 (by omega) (by omega) (by omega)).trans (C52 1)
      refine go_toq PM267 (k := 2) (pc' := 1435) (L' := [some (.inr (.inr (some 3000))), some (.inr (.inr (some 0))), some (.inr (.inr (some 79))), some (.inl i)]) (st' := []) (w' := (SH, dt59)) rfl ?_
      exact K dt59 hI60 hM109 M2114 (by first | omega | (simp only [*]; done) | simp only [*]) (w64.trans (hk1.trans w110.symm)) (w65.trans (hk2.trans w111.symm)) (by omega) (w67.trans (hk4.trans w112.symm)) (w68.trans (hk5.trans w113.symm)) (w69.trans (hk6.trans w79.symm)) (w70.trans (hk7.trans w80.symm)) (w71.trans (hk8.trans w81.symm)) (w72.trans (hk9.trans w82.symm)) (w73.trans (hk10.trans w83.symm)) (w74.trans (hk11.trans w84.symm)) (w75.trans (hk12.trans w85.symm)) (w76.trans (hk13.trans w86.symm)) (w77.trans (hk14.trans w87.symm)) (w78.trans (hk15.trans w88.symm)) (by first | exact hI | exact TPL_k hd0 C123 C125 (by omega) | (exfalso; omega)) (by first | exact hI | exact SCL_k hd1 hM (fun j _ => C115 j) (fun j _ => C116 j) F126 | (exfalso; omega)) (by first | exact hI | exact SCL_k hd2 hM2 (fun j _ => C117 j) (fun j _ => C118 j) (fun j _ _ => C124 j) | (exfalso; omega)) (by first | exact hI | exact QRL_k hd3 hM (fun j _ => C119 j) F128 F127 | (exfalso; omega)) (by first | exact hI | exact QRL_k hd4 hM2 (fun j _ => C120 j) (C124 1) (fun j _ _ => C124 j) | (exfalso; omega)) (by first | exact hI | exact SDL_k hd5 hM (fun j _ => C121 j) F128 F126 F127 | (exfalso; omega)) (by first | exact hI | exact SDL_k hd6 hM2 (fun j _ => C122 j) (C124 1) (fun j _ _ => C124 j) (fun j _ _ => C124 j) | (exfalso; omega))
  · skip
    obtain ⟨h4_0, h4_1, h4_2⟩ := h4
    have M2129 : MW (dt5 81) := MW_frk hM2 hF7 (by decide)
    have C130 : ∀ j : Nat, dt5 2 j = dt 2 j := fun j => (hF7 2 (by decide) j).trans ((fun _ => rfl) j)
    have C131 : ∀ j : Nat, dt5 3 j = dt 3 j := fun j => (hF7 3 (by decide) j).trans ((fun _ => rfl) j)
    have C132 : ∀ j : Nat, dt5 19 j = dt 19 j := fun j => (hF7 19 (by decide) j).trans ((fun _ => rfl) j)
    have C133 : ∀ j : Nat, dt5 20 j = dt 20 j := fun j => (hF7 20 (by decide) j).trans ((fun _ => rfl) j)
    have C134 : ∀ j : Nat, dt5 8 j = dt 8 j := fun j => (hF7 8 (by decide) j).trans ((fun _ => rfl) j)
    have C135 : ∀ j : Nat, dt5 25 j = dt 25 j := fun j => (hF7 25 (by decide) j).trans ((fun _ => rfl) j)
    have C136 : ∀ j : Nat, dt5 9 j = dt 9 j := fun j => (hF7 9 (by decide) j).trans ((fun _ => rfl) j)
    have C137 : ∀ j : Nat, dt5 26 j = dt 26 j := fun j => (hF7 26 (by decide) j).trans ((fun _ => rfl) j)
    have C138 : ∀ j : Nat, dt5 36 j = dt 36 j := fun j => (hF7 36 (by decide) j).trans ((fun _ => rfl) j)
    have C139 : ∀ j : Nat, dt5 80 j = dt 80 j := fun j => (hF7 80 (by decide) j).trans ((fun _ => rfl) j)
    have C140 : ∀ j : Nat, dt5 81 j = dt 81 j := fun j => (hF7 81 (by decide) j).trans ((fun _ => rfl) j)
    have C141 : ∀ j : Nat, dt5 85 j = dt 85 j := fun j => (hF7 85 (by decide) j).trans ((fun _ => rfl) j)
    refine go_toq PM267 (k := 6) (pc' := 721) (L' := [some (.inr (.inr (some 3000))), some (.inr (.inr (some 0))), some (.inr (.inr (some 79))), some (.inl i)]) (st' := [.inl (i + 1), .inr (.inr (some 3000)), .inr (.inr (some 79))]) (w' := (SH, dt5)) rfl ?_
    have r142 := i32_R (xs ((i + 1).toNat))
    refine go_smpq PM267 (L' := [some (.inr (.inr (some 3000))), some (.inr (.inr (some 0))), some (.inr (.inr (some 79))), some (.inl i)]) (st' := [.inl ((xs ((i + 1).toNat)).toInt), .inr (.inr (some 79))]) (w' := (SH, dt5)) rfl rfl (s_iald (n := L) (f := fun j => (xs j).toInt) (am_scr hLL) ⟨by omega, by omega⟩) ?_
    refine go_toq PM267 (k := 4) (pc' := 726) (L' := [some (.inr (.inr (some 3000))), some (.inr (.inr (some 0))), some (.inr (.inr (some 79))), some (.inl i)]) (st' := [.inl (i + 2), .inr (.inr (some 3000)), .inl ((xs ((i + 1).toNat)).toInt), .inr (.inr (some 79))]) (w' := (SH, dt5)) rfl ?_
    have r143 := i32_R (xs ((i + 2).toNat))
    refine go_smpq PM267 (L' := [some (.inr (.inr (some 3000))), some (.inr (.inr (some 0))), some (.inr (.inr (some 79))), some (.inl i)]) (st' := [.inl ((xs ((i + 2).toNat)).toInt), .inl ((xs ((i + 1).toNat)).toInt), .inr (.inr (some 79))]) (w' := (SH, dt5)) rfl rfl (s_iald (n := L) (f := fun j => (xs j).toInt) (am_scr hLL) ⟨by omega, by omega⟩) ?_
    refine go_toq PM267 (k := 4) (pc' := 731) (L' := [some (.inr (.inr (some 3000))), some (.inr (.inr (some 0))), some (.inr (.inr (some 79))), some (.inl i)]) (st' := [.inl (i + 3), .inr (.inr (some 3000)), .inl ((xs ((i + 2).toNat)).toInt), .inl ((xs ((i + 1).toNat)).toInt), .inr (.inr (some 79))]) (w' := (SH, dt5)) rfl ?_
    have r144 := i32_R (xs ((i + 3).toNat))
    refine go_smpq PM267 (L' := [some (.inr (.inr (some 3000))), some (.inr (.inr (some 0))), some (.inr (.inr (some 79))), some (.inl i)]) (st' := [.inl ((xs ((i + 3).toNat)).toInt), .inl ((xs ((i + 2).toNat)).toInt), .inl ((xs ((i + 1).toNat)).toInt), .inr (.inr (some 79))]) (w' := (SH, dt5)) rfl rfl (s_iald (n := L) (f := fun j => (xs j).toInt) (am_scr hLL) ⟨by omega, by omega⟩) ?_
    refine go_callq PM267 PM211 (Q' := _) rfl rfl rfl rfl (sp_X6_ask_v L xs sio (d + 32) dt5 hI6 hM9  ((xs ((i + 1).toNat)).toInt) ⟨by omega, by omega⟩ ((xs ((i + 2).toNat)).toInt) ⟨by omega, by omega⟩ ((xs ((i + 3).toNat)).toInt) ⟨by omega, by omega⟩ ) ?_
    rintro _ _ ⟨dt146, rfl, hI147, hF148, h145⟩
    refine ⟨rfl, ?_⟩
    have hF149 : Fr [0, 1, 2, 3, 4, 5, 6, 7, 8, 9, 10, 11, 12, 13, 14, 15, 16, 17, 18, 19, 20, 21, 22, 23, 24, 25, 26, 27, 28, 29, 30, 31, 32, 33, 34, 35, 36, 37, 38, 39, 40, 41, 42, 43, 44, 45, 46, 47, 48, 49, 50, 51, 52, 53, 54, 55, 56, 57, 58, 59, 60, 61, 62, 63, 64, 65, 66, 67, 68, 69, 70, 71, 72, 73, 74, 75, 76, 77, 78, 79, 80, 81, 82, 83, 84, 85, 86, 87, 88, 89, 90, 91, 92, 93, 94, 95, 96, 97, 98, 99, 100, 101, 102, 103, 104] dt dt146 := Fr_tr hF8 hF148 (by decide)
    have w150 : dt146 1 0 = dt5 1 0 := hF148 1 (by decide) 0
    have w151 : dt146 7 3 = dt 7 3 := (hF148 7 (by decide) 3).trans w10
    have w152 : dt146 10 3 = dt 10 3 := (hF148 10 (by decide) 3).trans w11
    have w153 : dt146 12 3 = dt5 12 3 := hF148 12 (by decide) 3
    have w154 : dt146 14 3 = dt 14 3 := (hF148 14 (by decide) 3).trans w12
    have w155 : dt146 16 3 = dt 16 3 := (hF148 16 (by decide) 3).trans w13
    have w156 : dt146 18 0 = dt 18 0 := (hF148 18 (by decide) 0).trans w14
    have w157 : dt146 24 3 = dt 24 3 := (hF148 24 (by decide) 3).trans w15
    have w158 : dt146 27 3 = dt 27 3 := (hF148 27 (by decide) 3).trans w16
    have w159 : dt146 29 3 = dt 29 3 := (hF148 29 (by decide) 3).trans w17
    have w160 : dt146 31 3 = dt 31 3 := (hF148 31 (by decide) 3).trans w18
    have w161 : dt146 33 3 = dt 33 3 := (hF148 33 (by decide) 3).trans w19
    have w162 : dt146 0 2 = dt 0 2 := (hF148 0 (by decide) 2).trans w20
    have w163 : dt146 35 1 = dt 35 1 := (hF148 35 (by decide) 1).trans w21
    have w164 : dt146 35 2 = dt 35 2 := (hF148 35 (by decide) 2).trans w22
    have w165 : dt146 35 3 = dt 35 3 := (hF148 35 (by decide) 3).trans w23
    have w166 : dt146 81 0 = dt 81 0 := (hF148 81 (by decide) 0).trans w30
    have w167 : dt146 81 1 = dt 81 1 := (hF148 81 (by decide) 1).trans w31
    have w168 : dt146 81 2 = dt 81 2 := (hF148 81 (by decide) 2).trans w32
    have w169 : dt146 81 3 = dt 81 3 := (hF148 81 (by decide) 3).trans w33
    have w170 : dt146 81 4 = dt 81 4 := (hF148 81 (by decide) 4).trans w34
    have w171 : dt146 81 5 = dt 81 5 := (hF148 81 (by decide) 5).trans w35
    have w172 : dt146 79 2 = dt 79 2 := (hF148 79 (by decide) 2).trans w36
    have w173 : dt146 79 12 = dt 79 12 := (hF148 79 (by decide) 12).trans w37
    have w174 : dt146 79 19 = dt 79 19 := (hF148 79 (by decide) 19).trans w38
    have w175 : dt146 79 21 = dt 79 21 := (hF148 79 (by decide) 21).trans w39
    rcases h145 with ⟨rfl, h145⟩ | ⟨v_h145, rfl, h145r, h145⟩
    · skip
      have hM176 : MW (dt146 80) := h145.2.1
      obtain ⟨h145_0, h145_1, h145_2, h145_3, h145_4, h145_5, h145_6, h145_7, h145_8⟩ := h145
      have w177 : dt146 80 0 = dt 80 0 := h145_2.trans w24
      have w178 : dt146 80 1 = dt 80 1 := h145_3.trans w25
      have w179 : dt146 80 2 = dt 80 2 := h145_4.trans w26
      have w180 : dt146 80 3 = dt 80 3 := h145_5.trans w27
      have w181 : dt146 80 4 = dt 80 4 := h145_6.trans w28
      have w182 : dt146 80 5 = dt 80 5 := h145_7.trans w29
      have M2183 : MW (dt146 81) := MW_frk M2129 hF148 (by decide)
      have C184 : ∀ j : Nat, dt146 2 j = dt 2 j := fun j => (hF148 2 (by decide) j).trans (C130 j)
      have C185 : ∀ j : Nat, dt146 3 j = dt 3 j := fun j => (hF148 3 (by decide) j).trans (C131 j)
      have C186 : ∀ j : Nat, dt146 19 j = dt 19 j := fun j => (hF148 19 (by decide) j).trans (C132 j)
      have C187 : ∀ j : Nat, dt146 20 j = dt 20 j := fun j => (hF148 20 (by decide) j).trans (C133 j)
      have C188 : ∀ j : Nat, dt146 8 j = dt 8 j := fun j => (hF148 8 (by decide) j).trans (C134 j)
      have C189 : ∀ j : Nat, dt146 25 j = dt 25 j := fun j => (hF148 25 (by decide) j).trans (C135 j)
      have C190 : ∀ j : Nat, dt146 9 j = dt 9 j := fun j => (hF148 9 (by decide) j).trans (C136 j)
      have C191 : ∀ j : Nat, dt146 26 j = dt 26 j := fun j => (hF148 26 (by decide) j).trans (C137 j)
      have C192 : ∀ j : Nat, dt146 36 j = dt 36 j := fun j => (hF148 36 (by decide) j).trans (C138 j)
      have C193 : ∀ j : Nat, dt146 80 j = dt 80 j := fun j => (h145_8 j).trans (C139 j)
      have C194 : ∀ j : Nat, dt146 81 j = dt 81 j := fun j => (hF148 81 (by decide) j).trans (C140 j)
      have C195 : ∀ j : Nat, dt146 85 j = dt 85 j := fun j => (hF148 85 (by decide) j).trans (C141 j)
      refine go_toq PM267 (k := 2) (pc' := 1435) (L' := [some (.inr (.inr (some 3000))), some (.inr (.inr (some 0))), some (.inr (.inr (some 79))), some (.inl i)]) (st' := []) (w' := (SH, dt146)) rfl ?_
      exact K dt146 hI147 hM176 M2183 (by first | omega | (simp only [*]; done) | simp only [*]) (w151.trans (hk1.trans w178.symm)) (w152.trans (hk2.trans w179.symm)) (by omega) (w154.trans (hk4.trans w181.symm)) (w155.trans (hk5.trans w182.symm)) (w156.trans (hk6.trans w166.symm)) (w157.trans (hk7.trans w167.symm)) (w158.trans (hk8.trans w168.symm)) (w159.trans (hk9.trans w169.symm)) (w160.trans (hk10.trans w170.symm)) (w161.trans (hk11.trans w171.symm)) (w162.trans (hk12.trans w172.symm)) (w163.trans (hk13.trans w173.symm)) (w164.trans (hk14.trans w174.symm)) (w165.trans (hk15.trans w175.symm)) (by first | exact hI | exact TPL_k hd0 C192 C195 (by omega) | (exfalso; omega)) (by first | exact hI | exact SCL_k hd1 hM (fun j _ => C184 j) (fun j _ => C185 j) (fun j _ _ => C193 j) | (exfalso; omega)) (by first | exact hI | exact SCL_k hd2 hM2 (fun j _ => C186 j) (fun j _ => C187 j) (fun j _ _ => C194 j) | (exfalso; omega)) (by first | exact hI | exact QRL_k hd3 hM (fun j _ => C188 j) (C193 1) (fun j _ _ => C193 j) | (exfalso; omega)) (by first | exact hI | exact QRL_k hd4 hM2 (fun j _ => C189 j) (C194 1) (fun j _ _ => C194 j) | (exfalso; omega)) (by first | exact hI | exact SDL_k hd5 hM (fun j _ => C190 j) (C193 1) (fun j _ _ => C193 j) (fun j _ _ => C193 j) | (exfalso; omega)) (by first | exact hI | exact SDL_k hd6 hM2 (fun j _ => C191 j) (C194 1) (fun j _ _ => C194 j) (fun j _ _ => C194 j) | (exfalso; omega))
    · skip
      have hM196 : MW (dt146 80) := h145.2.1
      obtain ⟨h145_0, h145_1, h145_2, h145_3, h145_4, h145_5, h145_6, h145_7, h145_8⟩ := h145
      have w197 : dt146 80 1 = dt 80 1 := h145_4.trans w25
      have w198 : dt146 80 2 = dt 80 2 := h145_5.trans w26
      have w199 : dt146 80 4 = dt 80 4 := h145_6.trans w28
      have w200 : dt146 80 5 = dt 80 5 := h145_7.trans w29
      have M2201 : MW (dt146 81) := MW_frk M2129 hF148 (by decide)
      have C202 : ∀ j : Nat, dt146 2 j = dt 2 j := fun j => (hF148 2 (by decide) j).trans (C130 j)
      have C203 : ∀ j : Nat, dt146 3 j = dt 3 j := fun j => (hF148 3 (by decide) j).trans (C131 j)
      have C204 : ∀ j : Nat, dt146 19 j = dt 19 j := fun j => (hF148 19 (by decide) j).trans (C132 j)
      have C205 : ∀ j : Nat, dt146 20 j = dt 20 j := fun j => (hF148 20 (by decide) j).trans (C133 j)
      have C206 : ∀ j : Nat, dt146 8 j = dt 8 j := fun j => (hF148 8 (by decide) j).trans (C134 j)
      have C207 : ∀ j : Nat, dt146 25 j = dt 25 j := fun j => (hF148 25 (by decide) j).trans (C135 j)
      have C208 : ∀ j : Nat, dt146 9 j = dt 9 j := fun j => (hF148 9 (by decide) j).trans (C136 j)
      have C209 : ∀ j : Nat, dt146 26 j = dt 26 j := fun j => (hF148 26 (by decide) j).trans (C137 j)
      have C210 : ∀ j : Nat, dt146 36 j = dt 36 j := fun j => (hF148 36 (by decide) j).trans (C138 j)
      have C211 : ∀ j : Nat, dt146 81 j = dt 81 j := fun j => (hF148 81 (by decide) j).trans (C140 j)
      have C212 : ∀ j : Nat, dt146 85 j = dt 85 j := fun j => (hF148 85 (by decide) j).trans (C141 j)
      have F213 : ∀ j : Nat, 6 ≤ j → j < 974 → dt146 80 j = dt 80 j := fun j h1_ h2_ => (h145_8 j (by omega) (by omega) (by omega)).trans (C139 j)
      have F214 : ∀ j : Nat, 5320 ≤ j → j < 5380 → dt146 80 j = dt 80 j := fun j h1_ h2_ => (h145_8 j (by omega) (by omega) (by omega)).trans (C139 j)
      have F215 : dt146 80 1 = dt 80 1 := (h145_8 1 (by omega) (by omega) (by omega)).trans (C139 1)
      refine go_toq PM267 (k := 2) (pc' := 1435) (L' := [some (.inr (.inr (some 3000))), some (.inr (.inr (some 0))), some (.inr (.inr (some 79))), some (.inl i)]) (st' := []) (w' := (SH, dt146)) rfl ?_
      exact K dt146 hI147 hM196 M2201 (by first | omega | (simp only [*]; done) | simp only [*]) (w151.trans (hk1.trans w197.symm)) (w152.trans (hk2.trans w198.symm)) (by omega) (w154.trans (hk4.trans w199.symm)) (w155.trans (hk5.trans w200.symm)) (w156.trans (hk6.trans w166.symm)) (w157.trans (hk7.trans w167.symm)) (w158.trans (hk8.trans w168.symm)) (w159.trans (hk9.trans w169.symm)) (w160.trans (hk10.trans w170.symm)) (w161.trans (hk11.trans w171.symm)) (w162.trans (hk12.trans w172.symm)) (w163.trans (hk13.trans w173.symm)) (w164.trans (hk14.trans w174.symm)) (w165.trans (hk15.trans w175.symm)) (by first | exact hI | exact TPL_k hd0 C210 C212 (by omega) | (exfalso; omega)) (by first | exact hI | exact SCL_k hd1 hM (fun j _ => C202 j) (fun j _ => C203 j) F213 | (exfalso; omega)) (by first | exact hI | exact SCL_k hd2 hM2 (fun j _ => C204 j) (fun j _ => C205 j) (fun j _ _ => C211 j) | (exfalso; omega)) (by first | exact hI | exact QRL_k hd3 hM (fun j _ => C206 j) F215 F214 | (exfalso; omega)) (by first | exact hI | exact QRL_k hd4 hM2 (fun j _ => C207 j) (C211 1) (fun j _ _ => C211 j) | (exfalso; omega)) (by first | exact hI | exact SDL_k hd5 hM (fun j _ => C208 j) F215 F213 F214 | (exfalso; omega)) (by first | exact hI | exact SDL_k hd6 hM2 (fun j _ => C209 j) (C211 1) (fun j _ _ => C211 j) (fun j _ _ => C211 j) | (exfalso; omega))
set_option maxRecDepth 20000 in
set_option maxHeartbeats 8000000 in
theorem sp_case13 (L : Nat) (xs : Nat → Int32) (sio : Option Nat) (d : Nat) (Q : Option AV → am_W → Prop) (hLL : L ≤ 3072) (i : Int) (hi : 0 ≤ i ∧ i ≤ 3066) (hil : i ≤ (L : Int) - 6) (dt : Nat → Nat → Int) (hI : InvC dt) (hM : MW (dt 80)) (hM2 : MW (dt 81)) (hk0 : dt 1 0 = dt 80 0) (hk1 : dt 7 3 = dt 80 1) (hk2 : dt 10 3 = dt 80 2) (hk3 : dt 12 3 = dt 80 3) (hk4 : dt 14 3 = dt 80 4) (hk5 : dt 16 3 = dt 80 5) (hk6 : dt 18 0 = dt 81 0) (hk7 : dt 24 3 = dt 81 1) (hk8 : dt 27 3 = dt 81 2) (hk9 : dt 29 3 = dt 81 3) (hk10 : dt 31 3 = dt 81 4) (hk11 : dt 33 3 = dt 81 5) (hk12 : dt 0 2 = dt 79 2) (hk13 : dt 35 1 = dt 79 12) (hk14 : dt 35 2 = dt 79 19) (hk15 : dt 35 3 = dt 79 21) (hd0 : TPL (dt 36) (dt 85) (dt 35 1)) (hd1 : SCL (dt 2) (dt 3) (dt 80)) (hd2 : SCL (dt 19) (dt 20) (dt 81)) (hd3 : QRL (dt 8) (dt 80)) (hd4 : QRL (dt 25) (dt 81)) (hd5 : SDL (dt 9) (dt 80)) (hd6 : SDL (dt 26) (dt 81)) (K : ∀ (dt : Nat → Nat → Int) (hI : InvC dt) (hM : MW (dt 80)) (hM2 : MW (dt 81)) (hk0 : dt 1 0 = dt 80 0) (hk1 : dt 7 3 = dt 80 1) (hk2 : dt 10 3 = dt 80 2) (hk3 : dt 12 3 = dt 80 3) (hk4 : dt 14 3 = dt 80 4) (hk5 : dt 16 3 = dt 80 5) (hk6 : dt 18 0 = dt 81 0) (hk7 : dt 24 3 = dt 81 1) (hk8 : dt 27 3 = dt 81 2) (hk9 : dt 29 3 = dt 81 3) (hk10 : dt 31 3 = dt 81 4) (hk11 : dt 33 3 = dt 81 5) (hk12 : dt 0 2 = dt 79 2) (hk13 : dt 35 1 = dt 79 12) (hk14 : dt 35 2 = dt 79 19) (hk15 : dt 35 3 = dt 79 21) (hd0 : TPL (dt 36) (dt 85) (dt 35 1)) (hd1 : SCL (dt 2) (dt 3) (dt 80)) (hd2 : SCL (dt 19) (dt 20) (dt 81)) (hd3 : QRL (dt 8) (dt 80)) (hd4 : QRL (dt 25) (dt 81)) (hd5 : SDL (dt 9) (dt 80)) (hd6 : SDL (dt 26) (dt 81)), GO (am_XX L xs sio) (d + 39) 267 1435 [some (.inr (.inr (some 3000))), some (.inr (.inr (some 0))), some (.inr (.inr (some 79))), some (.inl i)] [] (SH, dt) Q) : GO (am_XX L xs sio) (d + 39) 267 739 [some (.inr (.inr (some 3000))), some (.inr (.inr (some 0))), some (.inr (.inr (some 79))), some (.inl i)] [] (SH, dt) Q := by
  have hF : Fr [0, 1, 2, 3, 4, 5, 6, 7, 8, 9, 10, 11, 12, 13, 14, 15, 16, 17, 18, 19, 20, 21, 22, 23, 24, 25, 26, 27, 28, 29, 30, 31, 32, 33, 34, 35, 36, 37, 38, 39, 40, 41, 42, 43, 44, 45, 46, 47, 48, 49, 50, 51, 52, 53, 54, 55, 56, 57, 58, 59, 60, 61, 62, 63, 64, 65, 66, 67, 68, 69, 70, 71, 72, 73, 74, 75, 76, 77, 78, 79, 80, 81, 82, 83, 84, 85, 86, 87, 88, 89, 90, 91, 92, 93, 94, 95, 96, 97, 98, 99, 100, 101, 102, 103, 104] dt dt := Fr_refl
  have hqo := QOC_R hd3 hM hk1
  have hb1_ := hM.1.1
  refine go_toq PM267 (k := 5) (pc' := 744) (L' := [some (.inr (.inr (some 3000))), some (.inr (.inr (some 0))), some (.inr (.inr (some 79))), some (.inl i)]) (st' := [.inl (i + 1), .inr (.inr (some 3000)), .inr (.inr (some 0))]) (w' := (SH, dt)) rfl ?_
  have r1 := i32_R (xs ((i + 1).toNat))
  refine go_smpq PM267 (L' := [some (.inr (.inr (some 3000))), some (.inr (.inr (some 0))), some (.inr (.inr (some 79))), some (.inl i)]) (st' := [.inl ((xs ((i + 1).toNat)).toInt), .inr (.inr (some 0))]) (w' := (SH, dt)) rfl rfl (s_iald (n := L) (f := fun j => (xs j).toInt) (am_scr hLL) ⟨by omega, by omega⟩) ?_
  refine go_toq PM267 (k := 4) (pc' := 749) (L' := [some (.inr (.inr (some 3000))), some (.inr (.inr (some 0))), some (.inr (.inr (some 79))), some (.inl i)]) (st' := [.inl (i + 2), .inr (.inr (some 3000)), .inl ((xs ((i + 1).toNat)).toInt), .inr (.inr (some 0))]) (w' := (SH, dt)) rfl ?_
  have r2 := i32_R (xs ((i + 2).toNat))
  refine go_smpq PM267 (L' := [some (.inr (.inr (some 3000))), some (.inr (.inr (some 0))), some (.inr (.inr (some 79))), some (.inl i)]) (st' := [.inl ((xs ((i + 2).toNat)).toInt), .inl ((xs ((i + 1).toNat)).toInt), .inr (.inr (some 0))]) (w' := (SH, dt)) rfl rfl (s_iald (n := L) (f := fun j => (xs j).toInt) (am_scr hLL) ⟨by omega, by omega⟩) ?_
  refine go_toq PM267 (k := 4) (pc' := 754) (L' := [some (.inr (.inr (some 3000))), some (.inr (.inr (some 0))), some (.inr (.inr (some 79))), some (.inl i)]) (st' := [.inl (i + 3), .inr (.inr (some 3000)), .inl ((xs ((i + 2).toNat)).toInt), .inl ((xs ((i + 1).toNat)).toInt), .inr (.inr (some 0))]) (w' := (SH, dt)) rfl ?_
  have r3 := i32_R (xs ((i + 3).toNat))
  refine go_smpq PM267 (L' := [some (.inr (.inr (some 3000))), some (.inr (.inr (some 0))), some (.inr (.inr (some 79))), some (.inl i)]) (st' := [.inl ((xs ((i + 3).toNat)).toInt), .inl ((xs ((i + 2).toNat)).toInt), .inl ((xs ((i + 1).toNat)).toInt), .inr (.inr (some 0))]) (w' := (SH, dt)) rfl rfl (s_iald (n := L) (f := fun j => (xs j).toInt) (am_scr hLL) ⟨by omega, by omega⟩) ?_
  refine go_toq PM267 (k := 4) (pc' := 759) (L' := [some (.inr (.inr (some 3000))), some (.inr (.inr (some 0))), some (.inr (.inr (some 79))), some (.inl i)]) (st' := [.inl (i + 4), .inr (.inr (some 3000)), .inl ((xs ((i + 3).toNat)).toInt), .inl ((xs ((i + 2).toNat)).toInt), .inl ((xs ((i + 1).toNat)).toInt), .inr (.inr (some 0))]) (w' := (SH, dt)) rfl ?_
  have r4 := i32_R (xs ((i + 4).toNat))
  refine go_smpq PM267 (L' := [some (.inr (.inr (some 3000))), some (.inr (.inr (some 0))), some (.inr (.inr (some 79))), some (.inl i)]) (st' := [.inl ((xs ((i + 4).toNat)).toInt), .inl ((xs ((i + 3).toNat)).toInt), .inl ((xs ((i + 2).toNat)).toInt), .inl ((xs ((i + 1).toNat)).toInt), .inr (.inr (some 0))]) (w' := (SH, dt)) rfl rfl (s_iald (n := L) (f := fun j => (xs j).toInt) (am_scr hLL) ⟨by omega, by omega⟩) ?_
  refine go_callq PM267 PM80 (Q' := _) rfl rfl rfl rfl (sp_X5_told L xs sio (d + 36) dt hI  ((xs ((i + 1).toNat)).toInt) ⟨by omega, by omega⟩ ((xs ((i + 2).toNat)).toInt) ⟨by omega, by omega⟩ ((xs ((i + 3).toNat)).toInt) ⟨by omega, by omega⟩ ((xs ((i + 4).toNat)).toInt) ⟨by omega, by omega⟩ ) ?_
  rintro _ _ ⟨dt6, rfl, hI7, hF8, h5⟩
  refine ⟨rfl, ?_⟩
  have hF9 : Fr [0, 1, 2, 3, 4, 5, 6, 7, 8, 9, 10, 11, 12, 13, 14, 15, 16, 17, 18, 19, 20, 21, 22, 23, 24, 25, 26, 27, 28, 29, 30, 31, 32, 33, 34, 35, 36, 37, 38, 39, 40, 41, 42, 43, 44, 45, 46, 47, 48, 49, 50, 51, 52, 53, 54, 55, 56, 57, 58, 59, 60, 61, 62, 63, 64, 65, 66, 67, 68, 69, 70, 71, 72, 73, 74, 75, 76, 77, 78, 79, 80, 81, 82, 83, 84, 85, 86, 87, 88, 89, 90, 91, 92, 93, 94, 95, 96, 97, 98, 99, 100, 101, 102, 103, 104] dt dt6 := Fr_tr hF hF8 (by decide)
  have hM10 : MW (dt6 80) := MW_fr hM hF8 (by decide)
  have w11 : dt6 1 0 = dt 1 0 := hF8 1 (by decide) 0
  have w12 : dt6 7 3 = dt 7 3 := hF8 7 (by decide) 3
  have w13 : dt6 10 3 = dt 10 3 := hF8 10 (by decide) 3
  have w14 : dt6 14 3 = dt 14 3 := hF8 14 (by decide) 3
  have w15 : dt6 16 3 = dt 16 3 := hF8 16 (by decide) 3
  have w16 : dt6 18 0 = dt 18 0 := hF8 18 (by decide) 0
  have w17 : dt6 24 3 = dt 24 3 := hF8 24 (by decide) 3
  have w18 : dt6 27 3 = dt 27 3 := hF8 27 (by decide) 3
  have w19 : dt6 29 3 = dt 29 3 := hF8 29 (by decide) 3
  have w20 : dt6 31 3 = dt 31 3 := hF8 31 (by decide) 3
  have w21 : dt6 33 3 = dt 33 3 := hF8 33 (by decide) 3
  have w22 : dt6 0 2 = dt 0 2 := hF8 0 (by decide) 2
  have w23 : dt6 35 1 = dt 35 1 := hF8 35 (by decide) 1
  have w24 : dt6 35 2 = dt 35 2 := hF8 35 (by decide) 2
  have w25 : dt6 35 3 = dt 35 3 := hF8 35 (by decide) 3
  have w26 : dt6 80 0 = dt 80 0 := hF8 80 (by decide) 0
  have w27 : dt6 80 1 = dt 80 1 := hF8 80 (by decide) 1
  have w28 : dt6 80 2 = dt 80 2 := hF8 80 (by decide) 2
  have w29 : dt6 80 3 = dt 80 3 := hF8 80 (by decide) 3
  have w30 : dt6 80 4 = dt 80 4 := hF8 80 (by decide) 4
  have w31 : dt6 80 5 = dt 80 5 := hF8 80 (by decide) 5
  have w32 : dt6 81 0 = dt 81 0 := hF8 81 (by decide) 0
  have w33 : dt6 81 1 = dt 81 1 := hF8 81 (by decide) 1
  have w34 : dt6 81 2 = dt 81 2 := hF8 81 (by decide) 2
  have w35 : dt6 81 3 = dt 81 3 := hF8 81 (by decide) 3
  have w36 : dt6 81 4 = dt 81 4 := hF8 81 (by decide) 4
  have w37 : dt6 81 5 = dt 81 5 := hF8 81 (by decide) 5
  have w38 : dt6 79 2 = dt 79 2 := hF8 79 (by decide) 2
  have w39 : dt6 79 12 = dt 79 12 := hF8 79 (by decide) 12
  have w40 : dt6 79 19 = dt 79 19 := hF8 79 (by decide) 19
  have w41 : dt6 79 21 = dt 79 21 := hF8 79 (by decide) 21
  rcases h5 with ⟨rfl, h5⟩ | ⟨v_h5, rfl, h5r, h5⟩
  · skip
    obtain ⟨h5_0, h5_1⟩ := h5
    have w42 : dt6 12 3 = dt 12 3 := h5_1
    have M243 : MW (dt6 81) := MW_frk hM2 hF8 (by decide)
    have C44 : ∀ j : Nat, dt6 2 j = dt 2 j := fun j => (hF8 2 (by decide) j).trans ((fun _ => rfl) j)
    have C45 : ∀ j : Nat, dt6 3 j = dt 3 j := fun j => (hF8 3 (by decide) j).trans ((fun _ => rfl) j)
    have C46 : ∀ j : Nat, dt6 19 j = dt 19 j := fun j => (hF8 19 (by decide) j).trans ((fun _ => rfl) j)
    have C47 : ∀ j : Nat, dt6 20 j = dt 20 j := fun j => (hF8 20 (by decide) j).trans ((fun _ => rfl) j)
    have C48 : ∀ j : Nat, dt6 8 j = dt 8 j := fun j => (hF8 8 (by decide) j).trans ((fun _ => rfl) j)
    have C49 : ∀ j : Nat, dt6 25 j = dt 25 j := fun j => (hF8 25 (by decide) j).trans ((fun _ => rfl) j)
    have C50 : ∀ j : Nat, dt6 9 j = dt 9 j := fun j => (hF8 9 (by decide) j).trans ((fun _ => rfl) j)
    have C51 : ∀ j : Nat, dt6 26 j = dt 26 j := fun j => (hF8 26 (by decide) j).trans ((fun _ => rfl) j)
    have C52 : ∀ j : Nat, dt6 36 j = dt 36 j := fun j => (hF8 36 (by decide) j).trans ((fun _ => rfl) j)
    have C53 : ∀ j : Nat, dt6 80 j = dt 80 j := fun j => (hF8 80 (by decide) j).trans ((fun _ => rfl) j)
    have C54 : ∀ j : Nat, dt6 81 j = dt 81 j := fun j => (hF8 81 (by decide) j).trans ((fun _ => rfl) j)
    have C55 : ∀ j : Nat, dt6 85 j = dt 85 j := fun j => (hF8 85 (by decide) j).trans ((fun _ => rfl) j)
    refine go_toq PM267 (k := 6) (pc' := 769) (L' := [some (.inr (.inr (some 3000))), some (.inr (.inr (some 0))), some (.inr (.inr (some 79))), some (.inl i)]) (st' := [.inl (i + 1), .inr (.inr (some 3000)), .inr (.inr (some 79))]) (w' := (SH, dt6)) rfl ?_
    have r56 := i32_R (xs ((i + 1).toNat))
    refine go_smpq PM267 (L' := [some (.inr (.inr (some 3000))), some (.inr (.inr (some 0))), some (.inr (.inr (some 79))), some (.inl i)]) (st' := [.inl ((xs ((i + 1).toNat)).toInt), .inr (.inr (some 79))]) (w' := (SH, dt6)) rfl rfl (s_iald (n := L) (f := fun j => (xs j).toInt) (am_scr hLL) ⟨by omega, by omega⟩) ?_
    refine go_toq PM267 (k := 4) (pc' := 774) (L' := [some (.inr (.inr (some 3000))), some (.inr (.inr (some 0))), some (.inr (.inr (some 79))), some (.inl i)]) (st' := [.inl (i + 2), .inr (.inr (some 3000)), .inl ((xs ((i + 1).toNat)).toInt), .inr (.inr (some 79))]) (w' := (SH, dt6)) rfl ?_
    have r57 := i32_R (xs ((i + 2).toNat))
    refine go_smpq PM267 (L' := [some (.inr (.inr (some 3000))), some (.inr (.inr (some 0))), some (.inr (.inr (some 79))), some (.inl i)]) (st' := [.inl ((xs ((i + 2).toNat)).toInt), .inl ((xs ((i + 1).toNat)).toInt), .inr (.inr (some 79))]) (w' := (SH, dt6)) rfl rfl (s_iald (n := L) (f := fun j => (xs j).toInt) (am_scr hLL) ⟨by omega, by omega⟩) ?_
    refine go_toq PM267 (k := 4) (pc' := 779) (L' := [some (.inr (.inr (some 3000))), some (.inr (.inr (some 0))), some (.inr (.inr (some 79))), some (.inl i)]) (st' := [.inl (i + 3), .inr (.inr (some 3000)), .inl ((xs ((i + 2).toNat)).toInt), .inl ((xs ((i + 1).toNat)).toInt), .inr (.inr (some 79))]) (w' := (SH, dt6)) rfl ?_
    have r58 := i32_R (xs ((i + 3).toNat))
    refine go_smpq PM267 (L' := [some (.inr (.inr (some 3000))), some (.inr (.inr (some 0))), some (.inr (.inr (some 79))), some (.inl i)]) (st' := [.inl ((xs ((i + 3).toNat)).toInt), .inl ((xs ((i + 2).toNat)).toInt), .inl ((xs ((i + 1).toNat)).toInt), .inr (.inr (some 79))]) (w' := (SH, dt6)) rfl rfl (s_iald (n := L) (f := fun j => (xs j).toInt) (am_scr hLL) ⟨by omega, by omega⟩) ?_
    refine go_toq PM267 (k := 4) (pc' := 784) (L' := [some (.inr (.inr (some 3000))), some (.inr (.inr (some 0))), some (.inr (.inr (some 79))), some (.inl i)]) (st' := [.inl (i + 4), .inr (.inr (some 3000)), .inl ((xs ((i + 3).toNat)).toInt), .inl ((xs ((i + 2).toNat)).toInt), .inl ((xs ((i + 1).toNat)).toInt), .inr (.inr (some 79))]) (w' := (SH, dt6)) rfl ?_
    have r59 := i32_R (xs ((i + 4).toNat))
    refine go_smpq PM267 (L' := [some (.inr (.inr (some 3000))), some (.inr (.inr (some 0))), some (.inr (.inr (some 79))), some (.inl i)]) (st' := [.inl ((xs ((i + 4).toNat)).toInt), .inl ((xs ((i + 3).toNat)).toInt), .inl ((xs ((i + 2).toNat)).toInt), .inl ((xs ((i + 1).toNat)).toInt), .inr (.inr (some 79))]) (w' := (SH, dt6)) rfl rfl (s_iald (n := L) (f := fun j => (xs j).toInt) (am_scr hLL) ⟨by omega, by omega⟩) ?_
    refine go_callq PM267 PM213 (Q' := _) rfl rfl rfl rfl (sp_X6_told_v L xs sio (d + 36) dt6 hI7 hM10  ((xs ((i + 1).toNat)).toInt) ⟨by omega, by omega⟩ ((xs ((i + 2).toNat)).toInt) ⟨by omega, by omega⟩ ((xs ((i + 3).toNat)).toInt) ⟨by omega, by omega⟩ ((xs ((i + 4).toNat)).toInt) ⟨by omega, by omega⟩ ) ?_
    rintro _ _ ⟨dt61, rfl, hI62, hF63, h60⟩
    refine ⟨rfl, ?_⟩
    have hF64 : Fr [0, 1, 2, 3, 4, 5, 6, 7, 8, 9, 10, 11, 12, 13, 14, 15, 16, 17, 18, 19, 20, 21, 22, 23, 24, 25, 26, 27, 28, 29, 30, 31, 32, 33, 34, 35, 36, 37, 38, 39, 40, 41, 42, 43, 44, 45, 46, 47, 48, 49, 50, 51, 52, 53, 54, 55, 56, 57, 58, 59, 60, 61, 62, 63, 64, 65, 66, 67, 68, 69, 70, 71, 72, 73, 74, 75, 76, 77, 78, 79, 80, 81, 82, 83, 84, 85, 86, 87, 88, 89, 90, 91, 92, 93, 94, 95, 96, 97, 98, 99, 100, 101, 102, 103, 104] dt dt61 := Fr_tr hF9 hF63 (by decide)
    have w65 : dt61 1 0 = dt 1 0 := (hF63 1 (by decide) 0).trans w11
    have w66 : dt61 7 3 = dt 7 3 := (hF63 7 (by decide) 3).trans w12
    have w67 : dt61 10 3 = dt 10 3 := (hF63 10 (by decide) 3).trans w13
    have w68 : dt61 12 3 = dt 12 3 := (hF63 12 (by decide) 3).trans w42
    have w69 : dt61 14 3 = dt 14 3 := (hF63 14 (by decide) 3).trans w14
    have w70 : dt61 16 3 = dt 16 3 := (hF63 16 (by decide) 3).trans w15
    have w71 : dt61 18 0 = dt 18 0 := (hF63 18 (by decide) 0).trans w16
    have w72 : dt61 24 3 = dt 24 3 := (hF63 24 (by decide) 3).trans w17
    have w73 : dt61 27 3 = dt 27 3 := (hF63 27 (by decide) 3).trans w18
    have w74 : dt61 29 3 = dt 29 3 := (hF63 29 (by decide) 3).trans w19
    have w75 : dt61 31 3 = dt 31 3 := (hF63 31 (by decide) 3).trans w20
    have w76 : dt61 33 3 = dt 33 3 := (hF63 33 (by decide) 3).trans w21
    have w77 : dt61 0 2 = dt 0 2 := (hF63 0 (by decide) 2).trans w22
    have w78 : dt61 35 1 = dt 35 1 := (hF63 35 (by decide) 1).trans w23
    have w79 : dt61 35 2 = dt 35 2 := (hF63 35 (by decide) 2).trans w24
    have w80 : dt61 35 3 = dt 35 3 := (hF63 35 (by decide) 3).trans w25
    have w81 : dt61 81 0 = dt 81 0 := (hF63 81 (by decide) 0).trans w32
    have w82 : dt61 81 1 = dt 81 1 := (hF63 81 (by decide) 1).trans w33
    have w83 : dt61 81 2 = dt 81 2 := (hF63 81 (by decide) 2).trans w34
    have w84 : dt61 81 3 = dt 81 3 := (hF63 81 (by decide) 3).trans w35
    have w85 : dt61 81 4 = dt 81 4 := (hF63 81 (by decide) 4).trans w36
    have w86 : dt61 81 5 = dt 81 5 := (hF63 81 (by decide) 5).trans w37
    have w87 : dt61 79 2 = dt 79 2 := (hF63 79 (by decide) 2).trans w38
    have w88 : dt61 79 12 = dt 79 12 := (hF63 79 (by decide) 12).trans w39
    have w89 : dt61 79 19 = dt 79 19 := (hF63 79 (by decide) 19).trans w40
    have w90 : dt61 79 21 = dt 79 21 := (hF63 79 (by decide) 21).trans w41
    rcases h60 with ⟨rfl, h60⟩ | ⟨v_h60, rfl, h60r, h60⟩
    · skip
      have hM91 : MW (dt61 80) := h60.2.1
      obtain ⟨h60_0, h60_1, h60_2, h60_3, h60_4, h60_5, h60_6, h60_7, h60_8⟩ := h60
      have w92 : dt61 80 0 = dt 80 0 := h60_2.trans w26
      have w93 : dt61 80 1 = dt 80 1 := h60_3.trans w27
      have w94 : dt61 80 2 = dt 80 2 := h60_4.trans w28
      have w95 : dt61 80 3 = dt 80 3 := h60_5.trans w29
      have w96 : dt61 80 4 = dt 80 4 := h60_6.trans w30
      have w97 : dt61 80 5 = dt 80 5 := h60_7.trans w31
      have M298 : MW (dt61 81) := MW_frk M243 hF63 (by decide)
      have C99 : ∀ j : Nat, dt61 2 j = dt 2 j := fun j => (hF63 2 (by decide) j).trans (C44 j)
      have C100 : ∀ j : Nat, dt61 3 j = dt 3 j := fun j => (hF63 3 (by decide) j).trans (C45 j)
      have C101 : ∀ j : Nat, dt61 19 j = dt 19 j := fun j => (hF63 19 (by decide) j).trans (C46 j)
      have C102 : ∀ j : Nat, dt61 20 j = dt 20 j := fun j => (hF63 20 (by decide) j).trans (C47 j)
      have C103 : ∀ j : Nat, dt61 8 j = dt 8 j := fun j => (hF63 8 (by decide) j).trans (C48 j)
      have C104 : ∀ j : Nat, dt61 25 j = dt 25 j := fun j => (hF63 25 (by decide) j).trans (C49 j)
      have C105 : ∀ j : Nat, dt61 9 j = dt 9 j := fun j => (hF63 9 (by decide) j).trans (C50 j)
      have C106 : ∀ j : Nat, dt61 26 j = dt 26 j := fun j => (hF63 26 (by decide) j).trans (C51 j)
      have C107 : ∀ j : Nat, dt61 36 j = dt 36 j := fun j => (hF63 36 (by decide) j).trans (C52 j)
      have C108 : ∀ j : Nat, dt61 80 j = dt 80 j := fun j => (h60_8 j).trans (C53 j)
      have C109 : ∀ j : Nat, dt61 81 j = dt 81 j := fun j => (hF63 81 (by decide) j).trans (C54 j)
      have C110 : ∀ j : Nat, dt61 85 j = dt 85 j := fun j => (hF63 85 (by decide) j).trans (C55 j)
      refine go_toq PM267 (k := 2) (pc' := 1435) (L' := [some (.inr (.inr (some 3000))), some (.inr (.inr (some 0))), some (.inr (.inr (some 79))), some (.inl i)]) (st' := []) (w' := (SH, dt61)) rfl ?_
      exact K dt61 hI62 hM91 M298 (w65.trans (hk0.trans w92.symm)) (w66.trans (hk1.trans w93.symm)) (w67.trans (hk2.trans w94.symm)) (w68.trans (hk3.trans w95.symm)) (w69.trans (hk4.trans w96.symm)) (w70.trans (hk5.trans w97.symm)) (w71.trans (hk6.trans w81.symm)) (w72.trans (hk7.trans w82.symm)) (w73.trans (hk8.trans w83.symm)) (w74.trans (hk9.trans w84.symm)) (w75.trans (hk10.trans w85.symm)) (w76.trans (hk11.trans w86.symm)) (w77.trans (hk12.trans w87.symm)) (w78.trans (hk13.trans w88.symm)) (w79.trans (hk14.trans w89.symm)) (w80.trans (hk15.trans w90.symm)) (by first | exact hI | exact TPL_k hd0 C107 C110 (by omega) | (exfalso; omega)) (by first | exact hI | exact SCL_k hd1 hM (fun j _ => C99 j) (fun j _ => C100 j) (fun j _ _ => C108 j) | (exfalso; omega)) (by first | exact hI | exact SCL_k hd2 hM2 (fun j _ => C101 j) (fun j _ => C102 j) (fun j _ _ => C109 j) | (exfalso; omega)) (by first | exact hI | exact QRL_k hd3 hM (fun j _ => C103 j) (C108 1) (fun j _ _ => C108 j) | (exfalso; omega)) (by first | exact hI | exact QRL_k hd4 hM2 (fun j _ => C104 j) (C109 1) (fun j _ _ => C109 j) | (exfalso; omega)) (by first | exact hI | exact SDL_k hd5 hM (fun j _ => C105 j) (C108 1) (fun j _ _ => C108 j) (fun j _ _ => C108 j) | (exfalso; omega)) (by first | exact hI | exact SDL_k hd6 hM2 (fun j _ => C106 j) (C109 1) (fun j _ _ => C109 j) (fun j _ _ => C109 j) | (exfalso; omega))
    · skip
      have hM111 : MW (dt61 80) := h60.2.2.1
      obtain ⟨h60_0, h60_1, h60_2, h60_3, h60_4, h60_5, h60_6, h60_7, h60_8, h60_9, h60_10, h60_11, h60_12, h60_13, h60_14, h60_15⟩ := h60
      have w112 : dt61 80 0 = dt 80 0 := h60_4.trans w26
      have w113 : dt61 80 1 = dt 80 1 := h60_5.trans w27
      have w114 : dt61 80 2 = dt 80 2 := h60_6.trans w28
      have w115 : dt61 80 4 = dt 80 4 := h60_7.trans w30
      have w116 : dt61 80 5 = dt 80 5 := h60_8.trans w31
      have M2117 : MW (dt61 81) := MW_frk M243 hF63 (by decide)
      have C118 : ∀ j : Nat, dt61 2 j = dt 2 j := fun j => (hF63 2 (by decide) j).trans (C44 j)
      have C119 : ∀ j : Nat, dt61 3 j = dt 3 j := fun j => (hF63 3 (by decide) j).trans (C45 j)
      have C120 : ∀ j : Nat, dt61 19 j = dt 19 j := fun j => (hF63 19 (by decide) j).trans (C46 j)
      have C121 : ∀ j : Nat, dt61 20 j = dt 20 j := fun j => (hF63 20 (by decide) j).trans (C47 j)
      have C122 : ∀ j : Nat, dt61 8 j = dt 8 j := fun j => (hF63 8 (by decide) j).trans (C48 j)
      have C123 : ∀ j : Nat, dt61 25 j = dt 25 j := fun j => (hF63 25 (by decide) j).trans (C49 j)
      have C124 : ∀ j : Nat, dt61 9 j = dt 9 j := fun j => (hF63 9 (by decide) j).trans (C50 j)
      have C125 : ∀ j : Nat, dt61 26 j = dt 26 j := fun j => (hF63 26 (by decide) j).trans (C51 j)
      have C126 : ∀ j : Nat, dt61 36 j = dt 36 j := fun j => (hF63 36 (by decide) j).trans (C52 j)
      have C127 : ∀ j : Nat, dt61 81 j = dt 81 j := fun j => (hF63 81 (by decide) j).trans (C54 j)
      have C128 : ∀ j : Nat, dt61 85 j = dt 85 j := fun j => (hF63 85 (by decide) j).trans (C55 j)
      have F129 : ∀ j : Nat, 6 ≤ j → j < 974 → dt61 80 j = dt 80 j := fun j h1_ h2_ => (h60_9 j (by omega) (by omega)).trans (C53 j)
      have F130 : ∀ j : Nat, 5320 ≤ j → j < 5380 → dt61 80 j = dt 80 j := fun j h1_ h2_ => (h60_9 j (by omega) (by omega)).trans (C53 j)
      have F131 : dt61 80 1 = dt 80 1 := (h60_9 1 (by omega) (by omega)).trans (C53 1)
      refine go_toq PM267 (k := 2) (pc' := 1435) (L' := [some (.inr (.inr (some 3000))), some (.inr (.inr (some 0))), some (.inr (.inr (some 79))), some (.inl i)]) (st' := []) (w' := (SH, dt61)) rfl ?_
      exact K dt61 hI62 hM111 M2117 (w65.trans (hk0.trans w112.symm)) (w66.trans (hk1.trans w113.symm)) (w67.trans (hk2.trans w114.symm)) (by omega) (w69.trans (hk4.trans w115.symm)) (w70.trans (hk5.trans w116.symm)) (w71.trans (hk6.trans w81.symm)) (w72.trans (hk7.trans w82.symm)) (w73.trans (hk8.trans w83.symm)) (w74.trans (hk9.trans w84.symm)) (w75.trans (hk10.trans w85.symm)) (w76.trans (hk11.trans w86.symm)) (w77.trans (hk12.trans w87.symm)) (w78.trans (hk13.trans w88.symm)) (w79.trans (hk14.trans w89.symm)) (w80.trans (hk15.trans w90.symm)) (by first | exact hI | exact TPL_k hd0 C126 C128 (by omega) | (exfalso; omega)) (by first | exact hI | exact SCL_k hd1 hM (fun j _ => C118 j) (fun j _ => C119 j) F129 | (exfalso; omega)) (by first | exact hI | exact SCL_k hd2 hM2 (fun j _ => C120 j) (fun j _ => C121 j) (fun j _ _ => C127 j) | (exfalso; omega)) (by first | exact hI | exact QRL_k hd3 hM (fun j _ => C122 j) F131 F130 | (exfalso; omega)) (by first | exact hI | exact QRL_k hd4 hM2 (fun j _ => C123 j) (C127 1) (fun j _ _ => C127 j) | (exfalso; omega)) (by first | exact hI | exact SDL_k hd5 hM (fun j _ => C124 j) F131 F129 F130 | (exfalso; omega)) (by first | exact hI | exact SDL_k hd6 hM2 (fun j _ => C125 j) (C127 1) (fun j _ _ => C127 j) (fun j _ _ => C127 j) | (exfalso; omega))
  · skip
    obtain ⟨h5_0, h5_1, h5_2⟩ := h5
    have M2132 : MW (dt6 81) := MW_frk hM2 hF8 (by decide)
    have C133 : ∀ j : Nat, dt6 2 j = dt 2 j := fun j => (hF8 2 (by decide) j).trans ((fun _ => rfl) j)
    have C134 : ∀ j : Nat, dt6 3 j = dt 3 j := fun j => (hF8 3 (by decide) j).trans ((fun _ => rfl) j)
    have C135 : ∀ j : Nat, dt6 19 j = dt 19 j := fun j => (hF8 19 (by decide) j).trans ((fun _ => rfl) j)
    have C136 : ∀ j : Nat, dt6 20 j = dt 20 j := fun j => (hF8 20 (by decide) j).trans ((fun _ => rfl) j)
    have C137 : ∀ j : Nat, dt6 8 j = dt 8 j := fun j => (hF8 8 (by decide) j).trans ((fun _ => rfl) j)
    have C138 : ∀ j : Nat, dt6 25 j = dt 25 j := fun j => (hF8 25 (by decide) j).trans ((fun _ => rfl) j)
    have C139 : ∀ j : Nat, dt6 9 j = dt 9 j := fun j => (hF8 9 (by decide) j).trans ((fun _ => rfl) j)
    have C140 : ∀ j : Nat, dt6 26 j = dt 26 j := fun j => (hF8 26 (by decide) j).trans ((fun _ => rfl) j)
    have C141 : ∀ j : Nat, dt6 36 j = dt 36 j := fun j => (hF8 36 (by decide) j).trans ((fun _ => rfl) j)
    have C142 : ∀ j : Nat, dt6 80 j = dt 80 j := fun j => (hF8 80 (by decide) j).trans ((fun _ => rfl) j)
    have C143 : ∀ j : Nat, dt6 81 j = dt 81 j := fun j => (hF8 81 (by decide) j).trans ((fun _ => rfl) j)
    have C144 : ∀ j : Nat, dt6 85 j = dt 85 j := fun j => (hF8 85 (by decide) j).trans ((fun _ => rfl) j)
    refine go_toq PM267 (k := 6) (pc' := 769) (L' := [some (.inr (.inr (some 3000))), some (.inr (.inr (some 0))), some (.inr (.inr (some 79))), some (.inl i)]) (st' := [.inl (i + 1), .inr (.inr (some 3000)), .inr (.inr (some 79))]) (w' := (SH, dt6)) rfl ?_
    have r145 := i32_R (xs ((i + 1).toNat))
    refine go_smpq PM267 (L' := [some (.inr (.inr (some 3000))), some (.inr (.inr (some 0))), some (.inr (.inr (some 79))), some (.inl i)]) (st' := [.inl ((xs ((i + 1).toNat)).toInt), .inr (.inr (some 79))]) (w' := (SH, dt6)) rfl rfl (s_iald (n := L) (f := fun j => (xs j).toInt) (am_scr hLL) ⟨by omega, by omega⟩) ?_
    refine go_toq PM267 (k := 4) (pc' := 774) (L' := [some (.inr (.inr (some 3000))), some (.inr (.inr (some 0))), some (.inr (.inr (some 79))), some (.inl i)]) (st' := [.inl (i + 2), .inr (.inr (some 3000)), .inl ((xs ((i + 1).toNat)).toInt), .inr (.inr (some 79))]) (w' := (SH, dt6)) rfl ?_
    have r146 := i32_R (xs ((i + 2).toNat))
    refine go_smpq PM267 (L' := [some (.inr (.inr (some 3000))), some (.inr (.inr (some 0))), some (.inr (.inr (some 79))), some (.inl i)]) (st' := [.inl ((xs ((i + 2).toNat)).toInt), .inl ((xs ((i + 1).toNat)).toInt), .inr (.inr (some 79))]) (w' := (SH, dt6)) rfl rfl (s_iald (n := L) (f := fun j => (xs j).toInt) (am_scr hLL) ⟨by omega, by omega⟩) ?_
    refine go_toq PM267 (k := 4) (pc' := 779) (L' := [some (.inr (.inr (some 3000))), some (.inr (.inr (some 0))), some (.inr (.inr (some 79))), some (.inl i)]) (st' := [.inl (i + 3), .inr (.inr (some 3000)), .inl ((xs ((i + 2).toNat)).toInt), .inl ((xs ((i + 1).toNat)).toInt), .inr (.inr (some 79))]) (w' := (SH, dt6)) rfl ?_
    have r147 := i32_R (xs ((i + 3).toNat))
    refine go_smpq PM267 (L' := [some (.inr (.inr (some 3000))), some (.inr (.inr (some 0))), some (.inr (.inr (some 79))), some (.inl i)]) (st' := [.inl ((xs ((i + 3).toNat)).toInt), .inl ((xs ((i + 2).toNat)).toInt), .inl ((xs ((i + 1).toNat)).toInt), .inr (.inr (some 79))]) (w' := (SH, dt6)) rfl rfl (s_iald (n := L) (f := fun j => (xs j).toInt) (am_scr hLL) ⟨by omega, by omega⟩) ?_
    refine go_toq PM267 (k := 4) (pc' := 784) (L' := [some (.inr (.inr (some 3000))), some (.inr (.inr (some 0))), some (.inr (.inr (some 79))), some (.inl i)]) (st' := [.inl (i + 4), .inr (.inr (some 3000)), .inl ((xs ((i + 3).toNat)).toInt), .inl ((xs ((i + 2).toNat)).toInt), .inl ((xs ((i + 1).toNat)).toInt), .inr (.inr (some 79))]) (w' := (SH, dt6)) rfl ?_
    have r148 := i32_R (xs ((i + 4).toNat))
    refine go_smpq PM267 (L' := [some (.inr (.inr (some 3000))), some (.inr (.inr (some 0))), some (.inr (.inr (some 79))), some (.inl i)]) (st' := [.inl ((xs ((i + 4).toNat)).toInt), .inl ((xs ((i + 3).toNat)).toInt), .inl ((xs ((i + 2).toNat)).toInt), .inl ((xs ((i + 1).toNat)).toInt), .inr (.inr (some 79))]) (w' := (SH, dt6)) rfl rfl (s_iald (n := L) (f := fun j => (xs j).toInt) (am_scr hLL) ⟨by omega, by omega⟩) ?_
    refine go_callq PM267 PM213 (Q' := _) rfl rfl rfl rfl (sp_X6_told_v L xs sio (d + 36) dt6 hI7 hM10  ((xs ((i + 1).toNat)).toInt) ⟨by omega, by omega⟩ ((xs ((i + 2).toNat)).toInt) ⟨by omega, by omega⟩ ((xs ((i + 3).toNat)).toInt) ⟨by omega, by omega⟩ ((xs ((i + 4).toNat)).toInt) ⟨by omega, by omega⟩ ) ?_
    rintro _ _ ⟨dt150, rfl, hI151, hF152, h149⟩
    refine ⟨rfl, ?_⟩
    have hF153 : Fr [0, 1, 2, 3, 4, 5, 6, 7, 8, 9, 10, 11, 12, 13, 14, 15, 16, 17, 18, 19, 20, 21, 22, 23, 24, 25, 26, 27, 28, 29, 30, 31, 32, 33, 34, 35, 36, 37, 38, 39, 40, 41, 42, 43, 44, 45, 46, 47, 48, 49, 50, 51, 52, 53, 54, 55, 56, 57, 58, 59, 60, 61, 62, 63, 64, 65, 66, 67, 68, 69, 70, 71, 72, 73, 74, 75, 76, 77, 78, 79, 80, 81, 82, 83, 84, 85, 86, 87, 88, 89, 90, 91, 92, 93, 94, 95, 96, 97, 98, 99, 100, 101, 102, 103, 104] dt dt150 := Fr_tr hF9 hF152 (by decide)
    have w154 : dt150 1 0 = dt 1 0 := (hF152 1 (by decide) 0).trans w11
    have w155 : dt150 7 3 = dt 7 3 := (hF152 7 (by decide) 3).trans w12
    have w156 : dt150 10 3 = dt 10 3 := (hF152 10 (by decide) 3).trans w13
    have w157 : dt150 12 3 = dt6 12 3 := hF152 12 (by decide) 3
    have w158 : dt150 14 3 = dt 14 3 := (hF152 14 (by decide) 3).trans w14
    have w159 : dt150 16 3 = dt 16 3 := (hF152 16 (by decide) 3).trans w15
    have w160 : dt150 18 0 = dt 18 0 := (hF152 18 (by decide) 0).trans w16
    have w161 : dt150 24 3 = dt 24 3 := (hF152 24 (by decide) 3).trans w17
    have w162 : dt150 27 3 = dt 27 3 := (hF152 27 (by decide) 3).trans w18
    have w163 : dt150 29 3 = dt 29 3 := (hF152 29 (by decide) 3).trans w19
    have w164 : dt150 31 3 = dt 31 3 := (hF152 31 (by decide) 3).trans w20
    have w165 : dt150 33 3 = dt 33 3 := (hF152 33 (by decide) 3).trans w21
    have w166 : dt150 0 2 = dt 0 2 := (hF152 0 (by decide) 2).trans w22
    have w167 : dt150 35 1 = dt 35 1 := (hF152 35 (by decide) 1).trans w23
    have w168 : dt150 35 2 = dt 35 2 := (hF152 35 (by decide) 2).trans w24
    have w169 : dt150 35 3 = dt 35 3 := (hF152 35 (by decide) 3).trans w25
    have w170 : dt150 81 0 = dt 81 0 := (hF152 81 (by decide) 0).trans w32
    have w171 : dt150 81 1 = dt 81 1 := (hF152 81 (by decide) 1).trans w33
    have w172 : dt150 81 2 = dt 81 2 := (hF152 81 (by decide) 2).trans w34
    have w173 : dt150 81 3 = dt 81 3 := (hF152 81 (by decide) 3).trans w35
    have w174 : dt150 81 4 = dt 81 4 := (hF152 81 (by decide) 4).trans w36
    have w175 : dt150 81 5 = dt 81 5 := (hF152 81 (by decide) 5).trans w37
    have w176 : dt150 79 2 = dt 79 2 := (hF152 79 (by decide) 2).trans w38
    have w177 : dt150 79 12 = dt 79 12 := (hF152 79 (by decide) 12).trans w39
    have w178 : dt150 79 19 = dt 79 19 := (hF152 79 (by decide) 19).trans w40
    have w179 : dt150 79 21 = dt 79 21 := (hF152 79 (by decide) 21).trans w41
    rcases h149 with ⟨rfl, h149⟩ | ⟨v_h149, rfl, h149r, h149⟩
    · skip
      have hM180 : MW (dt150 80) := h149.2.1
      obtain ⟨h149_0, h149_1, h149_2, h149_3, h149_4, h149_5, h149_6, h149_7, h149_8⟩ := h149
      have w181 : dt150 80 0 = dt 80 0 := h149_2.trans w26
      have w182 : dt150 80 1 = dt 80 1 := h149_3.trans w27
      have w183 : dt150 80 2 = dt 80 2 := h149_4.trans w28
      have w184 : dt150 80 3 = dt 80 3 := h149_5.trans w29
      have w185 : dt150 80 4 = dt 80 4 := h149_6.trans w30
      have w186 : dt150 80 5 = dt 80 5 := h149_7.trans w31
      have M2187 : MW (dt150 81) := MW_frk M2132 hF152 (by decide)
      have C188 : ∀ j : Nat, dt150 2 j = dt 2 j := fun j => (hF152 2 (by decide) j).trans (C133 j)
      have C189 : ∀ j : Nat, dt150 3 j = dt 3 j := fun j => (hF152 3 (by decide) j).trans (C134 j)
      have C190 : ∀ j : Nat, dt150 19 j = dt 19 j := fun j => (hF152 19 (by decide) j).trans (C135 j)
      have C191 : ∀ j : Nat, dt150 20 j = dt 20 j := fun j => (hF152 20 (by decide) j).trans (C136 j)
      have C192 : ∀ j : Nat, dt150 8 j = dt 8 j := fun j => (hF152 8 (by decide) j).trans (C137 j)
      have C193 : ∀ j : Nat, dt150 25 j = dt 25 j := fun j => (hF152 25 (by decide) j).trans (C138 j)
      have C194 : ∀ j : Nat, dt150 9 j = dt 9 j := fun j => (hF152 9 (by decide) j).trans (C139 j)
      have C195 : ∀ j : Nat, dt150 26 j = dt 26 j := fun j => (hF152 26 (by decide) j).trans (C140 j)
      have C196 : ∀ j : Nat, dt150 36 j = dt 36 j := fun j => (hF152 36 (by decide) j).trans (C141 j)
      have C197 : ∀ j : Nat, dt150 80 j = dt 80 j := fun j => (h149_8 j).trans (C142 j)
      have C198 : ∀ j : Nat, dt150 81 j = dt 81 j := fun j => (hF152 81 (by decide) j).trans (C143 j)
      have C199 : ∀ j : Nat, dt150 85 j = dt 85 j := fun j => (hF152 85 (by decide) j).trans (C144 j)
      refine go_toq PM267 (k := 2) (pc' := 1435) (L' := [some (.inr (.inr (some 3000))), some (.inr (.inr (some 0))), some (.inr (.inr (some 79))), some (.inl i)]) (st' := []) (w' := (SH, dt150)) rfl ?_
      exact K dt150 hI151 hM180 M2187 (w154.trans (hk0.trans w181.symm)) (w155.trans (hk1.trans w182.symm)) (w156.trans (hk2.trans w183.symm)) (by omega) (w158.trans (hk4.trans w185.symm)) (w159.trans (hk5.trans w186.symm)) (w160.trans (hk6.trans w170.symm)) (w161.trans (hk7.trans w171.symm)) (w162.trans (hk8.trans w172.symm)) (w163.trans (hk9.trans w173.symm)) (w164.trans (hk10.trans w174.symm)) (w165.trans (hk11.trans w175.symm)) (w166.trans (hk12.trans w176.symm)) (w167.trans (hk13.trans w177.symm)) (w168.trans (hk14.trans w178.symm)) (w169.trans (hk15.trans w179.symm)) (by first | exact hI | exact TPL_k hd0 C196 C199 (by omega) | (exfalso; omega)) (by first | exact hI | exact SCL_k hd1 hM (fun j _ => C188 j) (fun j _ => C189 j) (fun j _ _ => C197 j) | (exfalso; omega)) (by first | exact hI | exact SCL_k hd2 hM2 (fun j _ => C190 j) (fun j _ => C191 j) (fun j _ _ => C198 j) | (exfalso; omega)) (by first | exact hI | exact QRL_k hd3 hM (fun j _ => C192 j) (C197 1) (fun j _ _ => C197 j) | (exfalso; omega)) (by first | exact hI | exact QRL_k hd4 hM2 (fun j _ => C193 j) (C198 1) (fun j _ _ => C198 j) | (exfalso; omega)) (by first | exact hI | exact SDL_k hd5 hM (fun j _ => C194 j) (C197 1) (fun j _ _ => C197 j) (fun j _ _ => C197 j) | (exfalso; omega)) (by first | exact hI | exact SDL_k hd6 hM2 (fun j _ => C195 j) (C198 1) (fun j _ _ => C198 j) (fun j _ _ => C198 j) | (exfalso; omega))
    · skip
      have hM200 : MW (dt150 80) := h149.2.2.1
      obtain ⟨h149_0, h149_1, h149_2, h149_3, h149_4, h149_5, h149_6, h149_7, h149_8, h149_9, h149_10, h149_11, h149_12, h149_13, h149_14, h149_15⟩ := h149
      have w201 : dt150 80 0 = dt 80 0 := h149_4.trans w26
      have w202 : dt150 80 1 = dt 80 1 := h149_5.trans w27
      have w203 : dt150 80 2 = dt 80 2 := h149_6.trans w28
      have w204 : dt150 80 4 = dt 80 4 := h149_7.trans w30
      have w205 : dt150 80 5 = dt 80 5 := h149_8.trans w31
      have M2206 : MW (dt150 81) := MW_frk M2132 hF152 (by decide)
      have C207 : ∀ j : Nat, dt150 2 j = dt 2 j := fun j => (hF152 2 (by decide) j).trans (C133 j)
      have C208 : ∀ j : Nat, dt150 3 j = dt 3 j := fun j => (hF152 3 (by decide) j).trans (C134 j)
      have C209 : ∀ j : Nat, dt150 19 j = dt 19 j := fun j => (hF152 19 (by decide) j).trans (C135 j)
      have C210 : ∀ j : Nat, dt150 20 j = dt 20 j := fun j => (hF152 20 (by decide) j).trans (C136 j)
      have C211 : ∀ j : Nat, dt150 8 j = dt 8 j := fun j => (hF152 8 (by decide) j).trans (C137 j)
      have C212 : ∀ j : Nat, dt150 25 j = dt 25 j := fun j => (hF152 25 (by decide) j).trans (C138 j)
      have C213 : ∀ j : Nat, dt150 9 j = dt 9 j := fun j => (hF152 9 (by decide) j).trans (C139 j)
      have C214 : ∀ j : Nat, dt150 26 j = dt 26 j := fun j => (hF152 26 (by decide) j).trans (C140 j)
      have C215 : ∀ j : Nat, dt150 36 j = dt 36 j := fun j => (hF152 36 (by decide) j).trans (C141 j)
      have C216 : ∀ j : Nat, dt150 81 j = dt 81 j := fun j => (hF152 81 (by decide) j).trans (C143 j)
      have C217 : ∀ j : Nat, dt150 85 j = dt 85 j := fun j => (hF152 85 (by decide) j).trans (C144 j)
      have F218 : ∀ j : Nat, 6 ≤ j → j < 974 → dt150 80 j = dt 80 j := fun j h1_ h2_ => (h149_9 j (by omega) (by omega)).trans (C142 j)
      have F219 : ∀ j : Nat, 5320 ≤ j → j < 5380 → dt150 80 j = dt 80 j := fun j h1_ h2_ => (h149_9 j (by omega) (by omega)).trans (C142 j)
      have F220 : dt150 80 1 = dt 80 1 := (h149_9 1 (by omega) (by omega)).trans (C142 1)
      refine go_toq PM267 (k := 2) (pc' := 1435) (L' := [some (.inr (.inr (some 3000))), some (.inr (.inr (some 0))), some (.inr (.inr (some 79))), some (.inl i)]) (st' := []) (w' := (SH, dt150)) rfl ?_
      exact K dt150 hI151 hM200 M2206 (w154.trans (hk0.trans w201.symm)) (w155.trans (hk1.trans w202.symm)) (w156.trans (hk2.trans w203.symm)) (by omega) (w158.trans (hk4.trans w204.symm)) (w159.trans (hk5.trans w205.symm)) (w160.trans (hk6.trans w170.symm)) (w161.trans (hk7.trans w171.symm)) (w162.trans (hk8.trans w172.symm)) (w163.trans (hk9.trans w173.symm)) (w164.trans (hk10.trans w174.symm)) (w165.trans (hk11.trans w175.symm)) (w166.trans (hk12.trans w176.symm)) (w167.trans (hk13.trans w177.symm)) (w168.trans (hk14.trans w178.symm)) (w169.trans (hk15.trans w179.symm)) (by first | exact hI | exact TPL_k hd0 C215 C217 (by omega) | (exfalso; omega)) (by first | exact hI | exact SCL_k hd1 hM (fun j _ => C207 j) (fun j _ => C208 j) F218 | (exfalso; omega)) (by first | exact hI | exact SCL_k hd2 hM2 (fun j _ => C209 j) (fun j _ => C210 j) (fun j _ _ => C216 j) | (exfalso; omega)) (by first | exact hI | exact QRL_k hd3 hM (fun j _ => C211 j) F220 F219 | (exfalso; omega)) (by first | exact hI | exact QRL_k hd4 hM2 (fun j _ => C212 j) (C216 1) (fun j _ _ => C216 j) | (exfalso; omega)) (by first | exact hI | exact SDL_k hd5 hM (fun j _ => C213 j) F220 F218 F219 | (exfalso; omega)) (by first | exact hI | exact SDL_k hd6 hM2 (fun j _ => C214 j) (C216 1) (fun j _ _ => C216 j) (fun j _ _ => C216 j) | (exfalso; omega))
set_option maxRecDepth 20000 in
set_option maxHeartbeats 8000000 in
theorem sp_case14 (L : Nat) (xs : Nat → Int32) (sio : Option Nat) (d : Nat) (Q : Option AV → am_W → Prop) (hLL : L ≤ 3072) (i : Int) (hi : 0 ≤ i ∧ i ≤ 3066) (hil : i ≤ (L : Int) - 6) (dt : Nat → Nat → Int) (hI : InvC dt) (hM : MW (dt 80)) (hM2 : MW (dt 81)) (hk0 : dt 1 0 = dt 80 0) (hk1 : dt 7 3 = dt 80 1) (hk2 : dt 10 3 = dt 80 2) (hk3 : dt 12 3 = dt 80 3) (hk4 : dt 14 3 = dt 80 4) (hk5 : dt 16 3 = dt 80 5) (hk6 : dt 18 0 = dt 81 0) (hk7 : dt 24 3 = dt 81 1) (hk8 : dt 27 3 = dt 81 2) (hk9 : dt 29 3 = dt 81 3) (hk10 : dt 31 3 = dt 81 4) (hk11 : dt 33 3 = dt 81 5) (hk12 : dt 0 2 = dt 79 2) (hk13 : dt 35 1 = dt 79 12) (hk14 : dt 35 2 = dt 79 19) (hk15 : dt 35 3 = dt 79 21) (hd0 : TPL (dt 36) (dt 85) (dt 35 1)) (hd1 : SCL (dt 2) (dt 3) (dt 80)) (hd2 : SCL (dt 19) (dt 20) (dt 81)) (hd3 : QRL (dt 8) (dt 80)) (hd4 : QRL (dt 25) (dt 81)) (hd5 : SDL (dt 9) (dt 80)) (hd6 : SDL (dt 26) (dt 81)) (K : ∀ (dt : Nat → Nat → Int) (hI : InvC dt) (hM : MW (dt 80)) (hM2 : MW (dt 81)) (hk0 : dt 1 0 = dt 80 0) (hk1 : dt 7 3 = dt 80 1) (hk2 : dt 10 3 = dt 80 2) (hk3 : dt 12 3 = dt 80 3) (hk4 : dt 14 3 = dt 80 4) (hk5 : dt 16 3 = dt 80 5) (hk6 : dt 18 0 = dt 81 0) (hk7 : dt 24 3 = dt 81 1) (hk8 : dt 27 3 = dt 81 2) (hk9 : dt 29 3 = dt 81 3) (hk10 : dt 31 3 = dt 81 4) (hk11 : dt 33 3 = dt 81 5) (hk12 : dt 0 2 = dt 79 2) (hk13 : dt 35 1 = dt 79 12) (hk14 : dt 35 2 = dt 79 19) (hk15 : dt 35 3 = dt 79 21) (hd0 : TPL (dt 36) (dt 85) (dt 35 1)) (hd1 : SCL (dt 2) (dt 3) (dt 80)) (hd2 : SCL (dt 19) (dt 20) (dt 81)) (hd3 : QRL (dt 8) (dt 80)) (hd4 : QRL (dt 25) (dt 81)) (hd5 : SDL (dt 9) (dt 80)) (hd6 : SDL (dt 26) (dt 81)), GO (am_XX L xs sio) (d + 39) 267 1435 [some (.inr (.inr (some 3000))), some (.inr (.inr (some 0))), some (.inr (.inr (some 79))), some (.inl i)] [] (SH, dt) Q) : GO (am_XX L xs sio) (d + 39) 267 792 [some (.inr (.inr (some 3000))), some (.inr (.inr (some 0))), some (.inr (.inr (some 79))), some (.inl i)] [] (SH, dt) Q := by
  have hF : Fr [0, 1, 2, 3, 4, 5, 6, 7, 8, 9, 10, 11, 12, 13, 14, 15, 16, 17, 18, 19, 20, 21, 22, 23, 24, 25, 26, 27, 28, 29, 30, 31, 32, 33, 34, 35, 36, 37, 38, 39, 40, 41, 42, 43, 44, 45, 46, 47, 48, 49, 50, 51, 52, 53, 54, 55, 56, 57, 58, 59, 60, 61, 62, 63, 64, 65, 66, 67, 68, 69, 70, 71, 72, 73, 74, 75, 76, 77, 78, 79, 80, 81, 82, 83, 84, 85, 86, 87, 88, 89, 90, 91, 92, 93, 94, 95, 96, 97, 98, 99, 100, 101, 102, 103, 104] dt dt := Fr_refl
  have hqo := QOC_R hd3 hM hk1
  have hb1_ := hM.1.1
  refine go_toq PM267 (k := 5) (pc' := 797) (L' := [some (.inr (.inr (some 3000))), some (.inr (.inr (some 0))), some (.inr (.inr (some 79))), some (.inl i)]) (st' := [.inl (i + 1), .inr (.inr (some 3000)), .inr (.inr (some 0))]) (w' := (SH, dt)) rfl ?_
  have r1 := i32_R (xs ((i + 1).toNat))
  refine go_smpq PM267 (L' := [some (.inr (.inr (some 3000))), some (.inr (.inr (some 0))), some (.inr (.inr (some 79))), some (.inl i)]) (st' := [.inl ((xs ((i + 1).toNat)).toInt), .inr (.inr (some 0))]) (w' := (SH, dt)) rfl rfl (s_iald (n := L) (f := fun j => (xs j).toInt) (am_scr hLL) ⟨by omega, by omega⟩) ?_
  refine go_toq PM267 (k := 4) (pc' := 802) (L' := [some (.inr (.inr (some 3000))), some (.inr (.inr (some 0))), some (.inr (.inr (some 79))), some (.inl i)]) (st' := [.inl (i + 2), .inr (.inr (some 3000)), .inl ((xs ((i + 1).toNat)).toInt), .inr (.inr (some 0))]) (w' := (SH, dt)) rfl ?_
  have r2 := i32_R (xs ((i + 2).toNat))
  refine go_smpq PM267 (L' := [some (.inr (.inr (some 3000))), some (.inr (.inr (some 0))), some (.inr (.inr (some 79))), some (.inl i)]) (st' := [.inl ((xs ((i + 2).toNat)).toInt), .inl ((xs ((i + 1).toNat)).toInt), .inr (.inr (some 0))]) (w' := (SH, dt)) rfl rfl (s_iald (n := L) (f := fun j => (xs j).toInt) (am_scr hLL) ⟨by omega, by omega⟩) ?_
  refine go_callq PM267 PM81 (Q' := _) rfl rfl rfl rfl (sp_X5_answer L xs sio (d + 36) dt hI  ((xs ((i + 1).toNat)).toInt) ⟨by omega, by omega⟩ ((xs ((i + 2).toNat)).toInt) ⟨by omega, by omega⟩ ) ?_
  rintro _ _ ⟨rfl, h3⟩
  refine ⟨rfl, ?_⟩
  rcases h3 with ⟨v_h3, rfl, h3r, h3⟩
  refine go_toq PM267 (k := 6) (pc' := 812) (L' := [some (.inr (.inr (some 3000))), some (.inr (.inr (some 0))), some (.inr (.inr (some 79))), some (.inl i)]) (st' := [.inl (i + 1), .inr (.inr (some 3000)), .inr (.inr (some 79))]) (w' := (SH, dt)) rfl ?_
  refine go_smpq PM267 (L' := [some (.inr (.inr (some 3000))), some (.inr (.inr (some 0))), some (.inr (.inr (some 79))), some (.inl i)]) (st' := [.inl ((xs ((i + 1).toNat)).toInt), .inr (.inr (some 79))]) (w' := (SH, dt)) rfl rfl (s_iald (n := L) (f := fun j => (xs j).toInt) (am_scr hLL) ⟨by omega, by omega⟩) ?_
  refine go_toq PM267 (k := 4) (pc' := 817) (L' := [some (.inr (.inr (some 3000))), some (.inr (.inr (some 0))), some (.inr (.inr (some 79))), some (.inl i)]) (st' := [.inl (i + 2), .inr (.inr (some 3000)), .inl ((xs ((i + 1).toNat)).toInt), .inr (.inr (some 79))]) (w' := (SH, dt)) rfl ?_
  refine go_smpq PM267 (L' := [some (.inr (.inr (some 3000))), some (.inr (.inr (some 0))), some (.inr (.inr (some 79))), some (.inl i)]) (st' := [.inl ((xs ((i + 2).toNat)).toInt), .inl ((xs ((i + 1).toNat)).toInt), .inr (.inr (some 79))]) (w' := (SH, dt)) rfl rfl (s_iald (n := L) (f := fun j => (xs j).toInt) (am_scr hLL) ⟨by omega, by omega⟩) ?_
  refine go_callq PM267 PM214 (Q' := _) rfl rfl rfl rfl (sp_X6_answer L xs sio (d + 37) dt hI hM  ((xs ((i + 1).toNat)).toInt) ⟨by omega, by omega⟩ ((xs ((i + 2).toNat)).toInt) ⟨by omega, by omega⟩ ) ?_
  rintro _ _ ⟨rfl, h4⟩
  refine ⟨rfl, ?_⟩
  rcases h4 with ⟨v_h4, rfl, h4r, h4⟩
  refine go_toq PM267 (k := 2) (pc' := 1435) (L' := [some (.inr (.inr (some 3000))), some (.inr (.inr (some 0))), some (.inr (.inr (some 79))), some (.inl i)]) (st' := []) (w' := (SH, dt)) rfl ?_
  exact K dt hI hM hM2 hk0 hk1 hk2 hk3 hk4 hk5 hk6 hk7 hk8 hk9 hk10 hk11 hk12 hk13 hk14 hk15 (by first | exact hI | exact TPL_k hd0 (fun _ => rfl) (fun _ => rfl) (by omega) | (exfalso; omega)) (by first | exact hI | exact SCL_k hd1 hM (fun j _ => (fun _ => rfl) j) (fun j _ => (fun _ => rfl) j) (fun j _ _ => (fun _ => rfl) j) | (exfalso; omega)) (by first | exact hI | exact SCL_k hd2 hM2 (fun j _ => (fun _ => rfl) j) (fun j _ => (fun _ => rfl) j) (fun j _ _ => (fun _ => rfl) j) | (exfalso; omega)) (by first | exact hI | exact QRL_k hd3 hM (fun j _ => (fun _ => rfl) j) ((fun _ => rfl) 1) (fun j _ _ => (fun _ => rfl) j) | (exfalso; omega)) (by first | exact hI | exact QRL_k hd4 hM2 (fun j _ => (fun _ => rfl) j) ((fun _ => rfl) 1) (fun j _ _ => (fun _ => rfl) j) | (exfalso; omega)) (by first | exact hI | exact SDL_k hd5 hM (fun j _ => (fun _ => rfl) j) ((fun _ => rfl) 1) (fun j _ _ => (fun _ => rfl) j) (fun j _ _ => (fun _ => rfl) j) | (exfalso; omega)) (by first | exact hI | exact SDL_k hd6 hM2 (fun j _ => (fun _ => rfl) j) ((fun _ => rfl) 1) (fun j _ _ => (fun _ => rfl) j) (fun j _ _ => (fun _ => rfl) j) | (exfalso; omega))
set_option maxRecDepth 20000 in
set_option maxHeartbeats 8000000 in
theorem sp_case15 (L : Nat) (xs : Nat → Int32) (sio : Option Nat) (d : Nat) (Q : Option AV → am_W → Prop) (hLL : L ≤ 3072) (i : Int) (hi : 0 ≤ i ∧ i ≤ 3066) (hil : i ≤ (L : Int) - 6) (dt : Nat → Nat → Int) (hI : InvC dt) (hM : MW (dt 80)) (hM2 : MW (dt 81)) (hk0 : dt 1 0 = dt 80 0) (hk1 : dt 7 3 = dt 80 1) (hk2 : dt 10 3 = dt 80 2) (hk3 : dt 12 3 = dt 80 3) (hk4 : dt 14 3 = dt 80 4) (hk5 : dt 16 3 = dt 80 5) (hk6 : dt 18 0 = dt 81 0) (hk7 : dt 24 3 = dt 81 1) (hk8 : dt 27 3 = dt 81 2) (hk9 : dt 29 3 = dt 81 3) (hk10 : dt 31 3 = dt 81 4) (hk11 : dt 33 3 = dt 81 5) (hk12 : dt 0 2 = dt 79 2) (hk13 : dt 35 1 = dt 79 12) (hk14 : dt 35 2 = dt 79 19) (hk15 : dt 35 3 = dt 79 21) (hd0 : TPL (dt 36) (dt 85) (dt 35 1)) (hd1 : SCL (dt 2) (dt 3) (dt 80)) (hd2 : SCL (dt 19) (dt 20) (dt 81)) (hd3 : QRL (dt 8) (dt 80)) (hd4 : QRL (dt 25) (dt 81)) (hd5 : SDL (dt 9) (dt 80)) (hd6 : SDL (dt 26) (dt 81)) (K : ∀ (dt : Nat → Nat → Int) (hI : InvC dt) (hM : MW (dt 80)) (hM2 : MW (dt 81)) (hk0 : dt 1 0 = dt 80 0) (hk1 : dt 7 3 = dt 80 1) (hk2 : dt 10 3 = dt 80 2) (hk3 : dt 12 3 = dt 80 3) (hk4 : dt 14 3 = dt 80 4) (hk5 : dt 16 3 = dt 80 5) (hk6 : dt 18 0 = dt 81 0) (hk7 : dt 24 3 = dt 81 1) (hk8 : dt 27 3 = dt 81 2) (hk9 : dt 29 3 = dt 81 3) (hk10 : dt 31 3 = dt 81 4) (hk11 : dt 33 3 = dt 81 5) (hk12 : dt 0 2 = dt 79 2) (hk13 : dt 35 1 = dt 79 12) (hk14 : dt 35 2 = dt 79 19) (hk15 : dt 35 3 = dt 79 21) (hd0 : TPL (dt 36) (dt 85) (dt 35 1)) (hd1 : SCL (dt 2) (dt 3) (dt 80)) (hd2 : SCL (dt 19) (dt 20) (dt 81)) (hd3 : QRL (dt 8) (dt 80)) (hd4 : QRL (dt 25) (dt 81)) (hd5 : SDL (dt 9) (dt 80)) (hd6 : SDL (dt 26) (dt 81)), GO (am_XX L xs sio) (d + 39) 267 1435 [some (.inr (.inr (some 3000))), some (.inr (.inr (some 0))), some (.inr (.inr (some 79))), some (.inl i)] [] (SH, dt) Q) : GO (am_XX L xs sio) (d + 39) 267 825 [some (.inr (.inr (some 3000))), some (.inr (.inr (some 0))), some (.inr (.inr (some 79))), some (.inl i)] [] (SH, dt) Q := by
  have hF : Fr [0, 1, 2, 3, 4, 5, 6, 7, 8, 9, 10, 11, 12, 13, 14, 15, 16, 17, 18, 19, 20, 21, 22, 23, 24, 25, 26, 27, 28, 29, 30, 31, 32, 33, 34, 35, 36, 37, 38, 39, 40, 41, 42, 43, 44, 45, 46, 47, 48, 49, 50, 51, 52, 53, 54, 55, 56, 57, 58, 59, 60, 61, 62, 63, 64, 65, 66, 67, 68, 69, 70, 71, 72, 73, 74, 75, 76, 77, 78, 79, 80, 81, 82, 83, 84, 85, 86, 87, 88, 89, 90, 91, 92, 93, 94, 95, 96, 97, 98, 99, 100, 101, 102, 103, 104] dt dt := Fr_refl
  have hqo := QOC_R hd3 hM hk1
  have hb1_ := hM.1.1
  refine go_toq PM267 (k := 5) (pc' := 830) (L' := [some (.inr (.inr (some 3000))), some (.inr (.inr (some 0))), some (.inr (.inr (some 79))), some (.inl i)]) (st' := [.inl (i + 1), .inr (.inr (some 3000)), .inr (.inr (some 0))]) (w' := (SH, dt)) rfl ?_
  have r1 := i32_R (xs ((i + 1).toNat))
  refine go_smpq PM267 (L' := [some (.inr (.inr (some 3000))), some (.inr (.inr (some 0))), some (.inr (.inr (some 79))), some (.inl i)]) (st' := [.inl ((xs ((i + 1).toNat)).toInt), .inr (.inr (some 0))]) (w' := (SH, dt)) rfl rfl (s_iald (n := L) (f := fun j => (xs j).toInt) (am_scr hLL) ⟨by omega, by omega⟩) ?_
  refine go_toq PM267 (k := 4) (pc' := 835) (L' := [some (.inr (.inr (some 3000))), some (.inr (.inr (some 0))), some (.inr (.inr (some 79))), some (.inl i)]) (st' := [.inl (i + 2), .inr (.inr (some 3000)), .inl ((xs ((i + 1).toNat)).toInt), .inr (.inr (some 0))]) (w' := (SH, dt)) rfl ?_
  have r2 := i32_R (xs ((i + 2).toNat))
  refine go_smpq PM267 (L' := [some (.inr (.inr (some 3000))), some (.inr (.inr (some 0))), some (.inr (.inr (some 79))), some (.inl i)]) (st' := [.inl ((xs ((i + 2).toNat)).toInt), .inl ((xs ((i + 1).toNat)).toInt), .inr (.inr (some 0))]) (w' := (SH, dt)) rfl rfl (s_iald (n := L) (f := fun j => (xs j).toInt) (am_scr hLL) ⟨by omega, by omega⟩) ?_
  refine go_toq PM267 (k := 4) (pc' := 840) (L' := [some (.inr (.inr (some 3000))), some (.inr (.inr (some 0))), some (.inr (.inr (some 79))), some (.inl i)]) (st' := [.inl (i + 3), .inr (.inr (some 3000)), .inl ((xs ((i + 2).toNat)).toInt), .inl ((xs ((i + 1).toNat)).toInt), .inr (.inr (some 0))]) (w' := (SH, dt)) rfl ?_
  have r3 := i32_R (xs ((i + 3).toNat))
  refine go_smpq PM267 (L' := [some (.inr (.inr (some 3000))), some (.inr (.inr (some 0))), some (.inr (.inr (some 79))), some (.inl i)]) (st' := [.inl ((xs ((i + 3).toNat)).toInt), .inl ((xs ((i + 2).toNat)).toInt), .inl ((xs ((i + 1).toNat)).toInt), .inr (.inr (some 0))]) (w' := (SH, dt)) rfl rfl (s_iald (n := L) (f := fun j => (xs j).toInt) (am_scr hLL) ⟨by omega, by omega⟩) ?_
  refine go_toq PM267 (k := 4) (pc' := 845) (L' := [some (.inr (.inr (some 3000))), some (.inr (.inr (some 0))), some (.inr (.inr (some 79))), some (.inl i)]) (st' := [.inl (i + 4), .inr (.inr (some 3000)), .inl ((xs ((i + 3).toNat)).toInt), .inl ((xs ((i + 2).toNat)).toInt), .inl ((xs ((i + 1).toNat)).toInt), .inr (.inr (some 0))]) (w' := (SH, dt)) rfl ?_
  have r4 := i32_R (xs ((i + 4).toNat))
  refine go_smpq PM267 (L' := [some (.inr (.inr (some 3000))), some (.inr (.inr (some 0))), some (.inr (.inr (some 79))), some (.inl i)]) (st' := [.inl ((xs ((i + 4).toNat)).toInt), .inl ((xs ((i + 3).toNat)).toInt), .inl ((xs ((i + 2).toNat)).toInt), .inl ((xs ((i + 1).toNat)).toInt), .inr (.inr (some 0))]) (w' := (SH, dt)) rfl rfl (s_iald (n := L) (f := fun j => (xs j).toInt) (am_scr hLL) ⟨by omega, by omega⟩) ?_
  refine go_toq PM267 (k := 4) (pc' := 850) (L' := [some (.inr (.inr (some 3000))), some (.inr (.inr (some 0))), some (.inr (.inr (some 79))), some (.inl i)]) (st' := [.inl (i + 5), .inr (.inr (some 3000)), .inl ((xs ((i + 4).toNat)).toInt), .inl ((xs ((i + 3).toNat)).toInt), .inl ((xs ((i + 2).toNat)).toInt), .inl ((xs ((i + 1).toNat)).toInt), .inr (.inr (some 0))]) (w' := (SH, dt)) rfl ?_
  have r5 := i32_R (xs ((i + 5).toNat))
  refine go_smpq PM267 (L' := [some (.inr (.inr (some 3000))), some (.inr (.inr (some 0))), some (.inr (.inr (some 79))), some (.inl i)]) (st' := [.inl ((xs ((i + 5).toNat)).toInt), .inl ((xs ((i + 4).toNat)).toInt), .inl ((xs ((i + 3).toNat)).toInt), .inl ((xs ((i + 2).toNat)).toInt), .inl ((xs ((i + 1).toNat)).toInt), .inr (.inr (some 0))]) (w' := (SH, dt)) rfl rfl (s_iald (n := L) (f := fun j => (xs j).toInt) (am_scr hLL) ⟨by omega, by omega⟩) ?_
  refine go_callq PM267 PM82 (Q' := _) rfl rfl rfl rfl (sp_X5_chance L xs sio (d + 33) dt hI  ((xs ((i + 1).toNat)).toInt) ⟨by omega, by omega⟩ ((xs ((i + 2).toNat)).toInt) ⟨by omega, by omega⟩ ((xs ((i + 3).toNat)).toInt) ⟨by omega, by omega⟩ ((xs ((i + 4).toNat)).toInt) ⟨by omega, by omega⟩ ((xs ((i + 5).toNat)).toInt) ⟨by omega, by omega⟩ ) ?_
  rintro _ _ ⟨dt7, rfl, hI8, hF9, h6⟩
  refine ⟨rfl, ?_⟩
  have hF10 : Fr [0, 1, 2, 3, 4, 5, 6, 7, 8, 9, 10, 11, 12, 13, 14, 15, 16, 17, 18, 19, 20, 21, 22, 23, 24, 25, 26, 27, 28, 29, 30, 31, 32, 33, 34, 35, 36, 37, 38, 39, 40, 41, 42, 43, 44, 45, 46, 47, 48, 49, 50, 51, 52, 53, 54, 55, 56, 57, 58, 59, 60, 61, 62, 63, 64, 65, 66, 67, 68, 69, 70, 71, 72, 73, 74, 75, 76, 77, 78, 79, 80, 81, 82, 83, 84, 85, 86, 87, 88, 89, 90, 91, 92, 93, 94, 95, 96, 97, 98, 99, 100, 101, 102, 103, 104] dt dt7 := Fr_tr hF hF9 (by decide)
  have hM11 : MW (dt7 80) := MW_fr hM hF9 (by decide)
  have w12 : dt7 1 0 = dt 1 0 := hF9 1 (by decide) 0
  have w13 : dt7 7 3 = dt 7 3 := hF9 7 (by decide) 3
  have w14 : dt7 10 3 = dt 10 3 := hF9 10 (by decide) 3
  have w15 : dt7 12 3 = dt 12 3 := hF9 12 (by decide) 3
  have w16 : dt7 14 3 = dt 14 3 := hF9 14 (by decide) 3
  have w17 : dt7 16 3 = dt 16 3 := hF9 16 (by decide) 3
  have w18 : dt7 18 0 = dt 18 0 := hF9 18 (by decide) 0
  have w19 : dt7 24 3 = dt 24 3 := hF9 24 (by decide) 3
  have w20 : dt7 27 3 = dt 27 3 := hF9 27 (by decide) 3
  have w21 : dt7 29 3 = dt 29 3 := hF9 29 (by decide) 3
  have w22 : dt7 31 3 = dt 31 3 := hF9 31 (by decide) 3
  have w23 : dt7 33 3 = dt 33 3 := hF9 33 (by decide) 3
  have w24 : dt7 0 2 = dt 0 2 := hF9 0 (by decide) 2
  have w25 : dt7 35 1 = dt 35 1 := hF9 35 (by decide) 1
  have w26 : dt7 35 2 = dt 35 2 := hF9 35 (by decide) 2
  have w27 : dt7 35 3 = dt 35 3 := hF9 35 (by decide) 3
  have w28 : dt7 80 0 = dt 80 0 := hF9 80 (by decide) 0
  have w29 : dt7 80 1 = dt 80 1 := hF9 80 (by decide) 1
  have w30 : dt7 80 2 = dt 80 2 := hF9 80 (by decide) 2
  have w31 : dt7 80 3 = dt 80 3 := hF9 80 (by decide) 3
  have w32 : dt7 80 4 = dt 80 4 := hF9 80 (by decide) 4
  have w33 : dt7 80 5 = dt 80 5 := hF9 80 (by decide) 5
  have w34 : dt7 81 0 = dt 81 0 := hF9 81 (by decide) 0
  have w35 : dt7 81 1 = dt 81 1 := hF9 81 (by decide) 1
  have w36 : dt7 81 2 = dt 81 2 := hF9 81 (by decide) 2
  have w37 : dt7 81 3 = dt 81 3 := hF9 81 (by decide) 3
  have w38 : dt7 81 4 = dt 81 4 := hF9 81 (by decide) 4
  have w39 : dt7 81 5 = dt 81 5 := hF9 81 (by decide) 5
  have w40 : dt7 79 2 = dt 79 2 := hF9 79 (by decide) 2
  have w41 : dt7 79 12 = dt 79 12 := hF9 79 (by decide) 12
  have w42 : dt7 79 19 = dt 79 19 := hF9 79 (by decide) 19
  have w43 : dt7 79 21 = dt 79 21 := hF9 79 (by decide) 21
  rcases h6 with ⟨v_h6, rfl, h6r, h6⟩
  have M244 : MW (dt7 81) := MW_frk hM2 hF9 (by decide)
  have C45 : ∀ j : Nat, dt7 2 j = dt 2 j := fun j => (hF9 2 (by decide) j).trans ((fun _ => rfl) j)
  have C46 : ∀ j : Nat, dt7 3 j = dt 3 j := fun j => (hF9 3 (by decide) j).trans ((fun _ => rfl) j)
  have C47 : ∀ j : Nat, dt7 19 j = dt 19 j := fun j => (hF9 19 (by decide) j).trans ((fun _ => rfl) j)
  have C48 : ∀ j : Nat, dt7 20 j = dt 20 j := fun j => (hF9 20 (by decide) j).trans ((fun _ => rfl) j)
  have C49 : ∀ j : Nat, dt7 8 j = dt 8 j := fun j => (hF9 8 (by decide) j).trans ((fun _ => rfl) j)
  have C50 : ∀ j : Nat, dt7 25 j = dt 25 j := fun j => (hF9 25 (by decide) j).trans ((fun _ => rfl) j)
  have C51 : ∀ j : Nat, dt7 9 j = dt 9 j := fun j => (hF9 9 (by decide) j).trans ((fun _ => rfl) j)
  have C52 : ∀ j : Nat, dt7 26 j = dt 26 j := fun j => (hF9 26 (by decide) j).trans ((fun _ => rfl) j)
  have C53 : ∀ j : Nat, dt7 36 j = dt 36 j := fun j => (hF9 36 (by decide) j).trans ((fun _ => rfl) j)
  have C54 : ∀ j : Nat, dt7 80 j = dt 80 j := fun j => (hF9 80 (by decide) j).trans ((fun _ => rfl) j)
  have C55 : ∀ j : Nat, dt7 81 j = dt 81 j := fun j => (hF9 81 (by decide) j).trans ((fun _ => rfl) j)
  have C56 : ∀ j : Nat, dt7 85 j = dt 85 j := fun j => (hF9 85 (by decide) j).trans ((fun _ => rfl) j)
  refine go_toq PM267 (k := 6) (pc' := 860) (L' := [some (.inr (.inr (some 3000))), some (.inr (.inr (some 0))), some (.inr (.inr (some 79))), some (.inl i)]) (st' := [.inl (i + 1), .inr (.inr (some 3000)), .inr (.inr (some 79))]) (w' := (SH, dt7)) rfl ?_
  have r57 := i32_R (xs ((i + 1).toNat))
  refine go_smpq PM267 (L' := [some (.inr (.inr (some 3000))), some (.inr (.inr (some 0))), some (.inr (.inr (some 79))), some (.inl i)]) (st' := [.inl ((xs ((i + 1).toNat)).toInt), .inr (.inr (some 79))]) (w' := (SH, dt7)) rfl rfl (s_iald (n := L) (f := fun j => (xs j).toInt) (am_scr hLL) ⟨by omega, by omega⟩) ?_
  refine go_toq PM267 (k := 4) (pc' := 865) (L' := [some (.inr (.inr (some 3000))), some (.inr (.inr (some 0))), some (.inr (.inr (some 79))), some (.inl i)]) (st' := [.inl (i + 2), .inr (.inr (some 3000)), .inl ((xs ((i + 1).toNat)).toInt), .inr (.inr (some 79))]) (w' := (SH, dt7)) rfl ?_
  have r58 := i32_R (xs ((i + 2).toNat))
  refine go_smpq PM267 (L' := [some (.inr (.inr (some 3000))), some (.inr (.inr (some 0))), some (.inr (.inr (some 79))), some (.inl i)]) (st' := [.inl ((xs ((i + 2).toNat)).toInt), .inl ((xs ((i + 1).toNat)).toInt), .inr (.inr (some 79))]) (w' := (SH, dt7)) rfl rfl (s_iald (n := L) (f := fun j => (xs j).toInt) (am_scr hLL) ⟨by omega, by omega⟩) ?_
  refine go_toq PM267 (k := 4) (pc' := 870) (L' := [some (.inr (.inr (some 3000))), some (.inr (.inr (some 0))), some (.inr (.inr (some 79))), some (.inl i)]) (st' := [.inl (i + 3), .inr (.inr (some 3000)), .inl ((xs ((i + 2).toNat)).toInt), .inl ((xs ((i + 1).toNat)).toInt), .inr (.inr (some 79))]) (w' := (SH, dt7)) rfl ?_
  have r59 := i32_R (xs ((i + 3).toNat))
  refine go_smpq PM267 (L' := [some (.inr (.inr (some 3000))), some (.inr (.inr (some 0))), some (.inr (.inr (some 79))), some (.inl i)]) (st' := [.inl ((xs ((i + 3).toNat)).toInt), .inl ((xs ((i + 2).toNat)).toInt), .inl ((xs ((i + 1).toNat)).toInt), .inr (.inr (some 79))]) (w' := (SH, dt7)) rfl rfl (s_iald (n := L) (f := fun j => (xs j).toInt) (am_scr hLL) ⟨by omega, by omega⟩) ?_
  refine go_toq PM267 (k := 4) (pc' := 875) (L' := [some (.inr (.inr (some 3000))), some (.inr (.inr (some 0))), some (.inr (.inr (some 79))), some (.inl i)]) (st' := [.inl (i + 4), .inr (.inr (some 3000)), .inl ((xs ((i + 3).toNat)).toInt), .inl ((xs ((i + 2).toNat)).toInt), .inl ((xs ((i + 1).toNat)).toInt), .inr (.inr (some 79))]) (w' := (SH, dt7)) rfl ?_
  have r60 := i32_R (xs ((i + 4).toNat))
  refine go_smpq PM267 (L' := [some (.inr (.inr (some 3000))), some (.inr (.inr (some 0))), some (.inr (.inr (some 79))), some (.inl i)]) (st' := [.inl ((xs ((i + 4).toNat)).toInt), .inl ((xs ((i + 3).toNat)).toInt), .inl ((xs ((i + 2).toNat)).toInt), .inl ((xs ((i + 1).toNat)).toInt), .inr (.inr (some 79))]) (w' := (SH, dt7)) rfl rfl (s_iald (n := L) (f := fun j => (xs j).toInt) (am_scr hLL) ⟨by omega, by omega⟩) ?_
  refine go_toq PM267 (k := 4) (pc' := 880) (L' := [some (.inr (.inr (some 3000))), some (.inr (.inr (some 0))), some (.inr (.inr (some 79))), some (.inl i)]) (st' := [.inl (i + 5), .inr (.inr (some 3000)), .inl ((xs ((i + 4).toNat)).toInt), .inl ((xs ((i + 3).toNat)).toInt), .inl ((xs ((i + 2).toNat)).toInt), .inl ((xs ((i + 1).toNat)).toInt), .inr (.inr (some 79))]) (w' := (SH, dt7)) rfl ?_
  have r61 := i32_R (xs ((i + 5).toNat))
  refine go_smpq PM267 (L' := [some (.inr (.inr (some 3000))), some (.inr (.inr (some 0))), some (.inr (.inr (some 79))), some (.inl i)]) (st' := [.inl ((xs ((i + 5).toNat)).toInt), .inl ((xs ((i + 4).toNat)).toInt), .inl ((xs ((i + 3).toNat)).toInt), .inl ((xs ((i + 2).toNat)).toInt), .inl ((xs ((i + 1).toNat)).toInt), .inr (.inr (some 79))]) (w' := (SH, dt7)) rfl rfl (s_iald (n := L) (f := fun j => (xs j).toInt) (am_scr hLL) ⟨by omega, by omega⟩) ?_
  refine go_callq PM267 PM216 (Q' := _) rfl rfl rfl rfl (sp_X6_chance L xs sio (d + 31) dt7 hI8 hM11  ((xs ((i + 1).toNat)).toInt) ⟨by omega, by omega⟩ ((xs ((i + 2).toNat)).toInt) ⟨by omega, by omega⟩ ((xs ((i + 3).toNat)).toInt) ⟨by omega, by omega⟩ ((xs ((i + 4).toNat)).toInt) ⟨by omega, by omega⟩ ((xs ((i + 5).toNat)).toInt) ⟨by omega, by omega⟩ ) ?_
  rintro _ _ ⟨dt63, rfl, hI64, hF65, h62⟩
  refine ⟨rfl, ?_⟩
  have hF66 : Fr [0, 1, 2, 3, 4, 5, 6, 7, 8, 9, 10, 11, 12, 13, 14, 15, 16, 17, 18, 19, 20, 21, 22, 23, 24, 25, 26, 27, 28, 29, 30, 31, 32, 33, 34, 35, 36, 37, 38, 39, 40, 41, 42, 43, 44, 45, 46, 47, 48, 49, 50, 51, 52, 53, 54, 55, 56, 57, 58, 59, 60, 61, 62, 63, 64, 65, 66, 67, 68, 69, 70, 71, 72, 73, 74, 75, 76, 77, 78, 79, 80, 81, 82, 83, 84, 85, 86, 87, 88, 89, 90, 91, 92, 93, 94, 95, 96, 97, 98, 99, 100, 101, 102, 103, 104] dt dt63 := Fr_tr hF10 hF65 (by decide)
  have hM67 : MW (dt63 80) := MW_fr hM11 hF65 (by decide)
  have w68 : dt63 1 0 = dt 1 0 := (hF65 1 (by decide) 0).trans w12
  have w69 : dt63 7 3 = dt 7 3 := (hF65 7 (by decide) 3).trans w13
  have w70 : dt63 10 3 = dt 10 3 := (hF65 10 (by decide) 3).trans w14
  have w71 : dt63 12 3 = dt 12 3 := (hF65 12 (by decide) 3).trans w15
  have w72 : dt63 14 3 = dt 14 3 := (hF65 14 (by decide) 3).trans w16
  have w73 : dt63 16 3 = dt 16 3 := (hF65 16 (by decide) 3).trans w17
  have w74 : dt63 18 0 = dt 18 0 := (hF65 18 (by decide) 0).trans w18
  have w75 : dt63 24 3 = dt 24 3 := (hF65 24 (by decide) 3).trans w19
  have w76 : dt63 27 3 = dt 27 3 := (hF65 27 (by decide) 3).trans w20
  have w77 : dt63 29 3 = dt 29 3 := (hF65 29 (by decide) 3).trans w21
  have w78 : dt63 31 3 = dt 31 3 := (hF65 31 (by decide) 3).trans w22
  have w79 : dt63 33 3 = dt 33 3 := (hF65 33 (by decide) 3).trans w23
  have w80 : dt63 0 2 = dt 0 2 := (hF65 0 (by decide) 2).trans w24
  have w81 : dt63 35 1 = dt 35 1 := (hF65 35 (by decide) 1).trans w25
  have w82 : dt63 35 2 = dt 35 2 := (hF65 35 (by decide) 2).trans w26
  have w83 : dt63 35 3 = dt 35 3 := (hF65 35 (by decide) 3).trans w27
  have w84 : dt63 80 0 = dt 80 0 := (hF65 80 (by decide) 0).trans w28
  have w85 : dt63 80 1 = dt 80 1 := (hF65 80 (by decide) 1).trans w29
  have w86 : dt63 80 2 = dt 80 2 := (hF65 80 (by decide) 2).trans w30
  have w87 : dt63 80 3 = dt 80 3 := (hF65 80 (by decide) 3).trans w31
  have w88 : dt63 80 4 = dt 80 4 := (hF65 80 (by decide) 4).trans w32
  have w89 : dt63 80 5 = dt 80 5 := (hF65 80 (by decide) 5).trans w33
  have w90 : dt63 81 0 = dt 81 0 := (hF65 81 (by decide) 0).trans w34
  have w91 : dt63 81 1 = dt 81 1 := (hF65 81 (by decide) 1).trans w35
  have w92 : dt63 81 2 = dt 81 2 := (hF65 81 (by decide) 2).trans w36
  have w93 : dt63 81 3 = dt 81 3 := (hF65 81 (by decide) 3).trans w37
  have w94 : dt63 81 4 = dt 81 4 := (hF65 81 (by decide) 4).trans w38
  have w95 : dt63 81 5 = dt 81 5 := (hF65 81 (by decide) 5).trans w39
  have w96 : dt63 79 2 = dt 79 2 := (hF65 79 (by decide) 2).trans w40
  have w97 : dt63 79 12 = dt 79 12 := (hF65 79 (by decide) 12).trans w41
  have w98 : dt63 79 19 = dt 79 19 := (hF65 79 (by decide) 19).trans w42
  have w99 : dt63 79 21 = dt 79 21 := (hF65 79 (by decide) 21).trans w43
  rcases h62 with ⟨v_h62, rfl, h62r, h62⟩
  have M2100 : MW (dt63 81) := MW_frk M244 hF65 (by decide)
  have C101 : ∀ j : Nat, dt63 2 j = dt 2 j := fun j => (hF65 2 (by decide) j).trans (C45 j)
  have C102 : ∀ j : Nat, dt63 3 j = dt 3 j := fun j => (hF65 3 (by decide) j).trans (C46 j)
  have C103 : ∀ j : Nat, dt63 19 j = dt 19 j := fun j => (hF65 19 (by decide) j).trans (C47 j)
  have C104 : ∀ j : Nat, dt63 20 j = dt 20 j := fun j => (hF65 20 (by decide) j).trans (C48 j)
  have C105 : ∀ j : Nat, dt63 8 j = dt 8 j := fun j => (hF65 8 (by decide) j).trans (C49 j)
  have C106 : ∀ j : Nat, dt63 25 j = dt 25 j := fun j => (hF65 25 (by decide) j).trans (C50 j)
  have C107 : ∀ j : Nat, dt63 9 j = dt 9 j := fun j => (hF65 9 (by decide) j).trans (C51 j)
  have C108 : ∀ j : Nat, dt63 26 j = dt 26 j := fun j => (hF65 26 (by decide) j).trans (C52 j)
  have C109 : ∀ j : Nat, dt63 36 j = dt 36 j := fun j => (hF65 36 (by decide) j).trans (C53 j)
  have C110 : ∀ j : Nat, dt63 80 j = dt 80 j := fun j => (hF65 80 (by decide) j).trans (C54 j)
  have C111 : ∀ j : Nat, dt63 81 j = dt 81 j := fun j => (hF65 81 (by decide) j).trans (C55 j)
  have C112 : ∀ j : Nat, dt63 85 j = dt 85 j := fun j => (hF65 85 (by decide) j).trans (C56 j)
  refine go_toq PM267 (k := 2) (pc' := 1435) (L' := [some (.inr (.inr (some 3000))), some (.inr (.inr (some 0))), some (.inr (.inr (some 79))), some (.inl i)]) (st' := []) (w' := (SH, dt63)) rfl ?_
  exact K dt63 hI64 hM67 M2100 (w68.trans (hk0.trans w84.symm)) (w69.trans (hk1.trans w85.symm)) (w70.trans (hk2.trans w86.symm)) (w71.trans (hk3.trans w87.symm)) (w72.trans (hk4.trans w88.symm)) (w73.trans (hk5.trans w89.symm)) (w74.trans (hk6.trans w90.symm)) (w75.trans (hk7.trans w91.symm)) (w76.trans (hk8.trans w92.symm)) (w77.trans (hk9.trans w93.symm)) (w78.trans (hk10.trans w94.symm)) (w79.trans (hk11.trans w95.symm)) (w80.trans (hk12.trans w96.symm)) (w81.trans (hk13.trans w97.symm)) (w82.trans (hk14.trans w98.symm)) (w83.trans (hk15.trans w99.symm)) (by first | exact hI | exact TPL_k hd0 C109 C112 (by omega) | (exfalso; omega)) (by first | exact hI | exact SCL_k hd1 hM (fun j _ => C101 j) (fun j _ => C102 j) (fun j _ _ => C110 j) | (exfalso; omega)) (by first | exact hI | exact SCL_k hd2 hM2 (fun j _ => C103 j) (fun j _ => C104 j) (fun j _ _ => C111 j) | (exfalso; omega)) (by first | exact hI | exact QRL_k hd3 hM (fun j _ => C105 j) (C110 1) (fun j _ _ => C110 j) | (exfalso; omega)) (by first | exact hI | exact QRL_k hd4 hM2 (fun j _ => C106 j) (C111 1) (fun j _ _ => C111 j) | (exfalso; omega)) (by first | exact hI | exact SDL_k hd5 hM (fun j _ => C107 j) (C110 1) (fun j _ _ => C110 j) (fun j _ _ => C110 j) | (exfalso; omega)) (by first | exact hI | exact SDL_k hd6 hM2 (fun j _ => C108 j) (C111 1) (fun j _ _ => C111 j) (fun j _ _ => C111 j) | (exfalso; omega))
set_option maxRecDepth 20000 in
set_option maxHeartbeats 8000000 in
theorem sp_case16 (L : Nat) (xs : Nat → Int32) (sio : Option Nat) (d : Nat) (Q : Option AV → am_W → Prop) (hLL : L ≤ 3072) (i : Int) (hi : 0 ≤ i ∧ i ≤ 3066) (hil : i ≤ (L : Int) - 6) (dt : Nat → Nat → Int) (hI : InvC dt) (hM : MW (dt 80)) (hM2 : MW (dt 81)) (hk0 : dt 1 0 = dt 80 0) (hk1 : dt 7 3 = dt 80 1) (hk2 : dt 10 3 = dt 80 2) (hk3 : dt 12 3 = dt 80 3) (hk4 : dt 14 3 = dt 80 4) (hk5 : dt 16 3 = dt 80 5) (hk6 : dt 18 0 = dt 81 0) (hk7 : dt 24 3 = dt 81 1) (hk8 : dt 27 3 = dt 81 2) (hk9 : dt 29 3 = dt 81 3) (hk10 : dt 31 3 = dt 81 4) (hk11 : dt 33 3 = dt 81 5) (hk12 : dt 0 2 = dt 79 2) (hk13 : dt 35 1 = dt 79 12) (hk14 : dt 35 2 = dt 79 19) (hk15 : dt 35 3 = dt 79 21) (hd0 : TPL (dt 36) (dt 85) (dt 35 1)) (hd1 : SCL (dt 2) (dt 3) (dt 80)) (hd2 : SCL (dt 19) (dt 20) (dt 81)) (hd3 : QRL (dt 8) (dt 80)) (hd4 : QRL (dt 25) (dt 81)) (hd5 : SDL (dt 9) (dt 80)) (hd6 : SDL (dt 26) (dt 81)) (K : ∀ (dt : Nat → Nat → Int) (hI : InvC dt) (hM : MW (dt 80)) (hM2 : MW (dt 81)) (hk0 : dt 1 0 = dt 80 0) (hk1 : dt 7 3 = dt 80 1) (hk2 : dt 10 3 = dt 80 2) (hk3 : dt 12 3 = dt 80 3) (hk4 : dt 14 3 = dt 80 4) (hk5 : dt 16 3 = dt 80 5) (hk6 : dt 18 0 = dt 81 0) (hk7 : dt 24 3 = dt 81 1) (hk8 : dt 27 3 = dt 81 2) (hk9 : dt 29 3 = dt 81 3) (hk10 : dt 31 3 = dt 81 4) (hk11 : dt 33 3 = dt 81 5) (hk12 : dt 0 2 = dt 79 2) (hk13 : dt 35 1 = dt 79 12) (hk14 : dt 35 2 = dt 79 19) (hk15 : dt 35 3 = dt 79 21) (hd0 : TPL (dt 36) (dt 85) (dt 35 1)) (hd1 : SCL (dt 2) (dt 3) (dt 80)) (hd2 : SCL (dt 19) (dt 20) (dt 81)) (hd3 : QRL (dt 8) (dt 80)) (hd4 : QRL (dt 25) (dt 81)) (hd5 : SDL (dt 9) (dt 80)) (hd6 : SDL (dt 26) (dt 81)), GO (am_XX L xs sio) (d + 39) 267 1435 [some (.inr (.inr (some 3000))), some (.inr (.inr (some 0))), some (.inr (.inr (some 79))), some (.inl i)] [] (SH, dt) Q) : GO (am_XX L xs sio) (d + 39) 267 888 [some (.inr (.inr (some 3000))), some (.inr (.inr (some 0))), some (.inr (.inr (some 79))), some (.inl i)] [] (SH, dt) Q := by
  have hF : Fr [0, 1, 2, 3, 4, 5, 6, 7, 8, 9, 10, 11, 12, 13, 14, 15, 16, 17, 18, 19, 20, 21, 22, 23, 24, 25, 26, 27, 28, 29, 30, 31, 32, 33, 34, 35, 36, 37, 38, 39, 40, 41, 42, 43, 44, 45, 46, 47, 48, 49, 50, 51, 52, 53, 54, 55, 56, 57, 58, 59, 60, 61, 62, 63, 64, 65, 66, 67, 68, 69, 70, 71, 72, 73, 74, 75, 76, 77, 78, 79, 80, 81, 82, 83, 84, 85, 86, 87, 88, 89, 90, 91, 92, 93, 94, 95, 96, 97, 98, 99, 100, 101, 102, 103, 104] dt dt := Fr_refl
  have hqo := QOC_R hd3 hM hk1
  have hb1_ := hM.1.1
  have r1 : (-2147483648) ≤ dt 1 0 ∧ dt 1 0 ≤ 2147483647 := InvC_get hI 1 0 rfl rfl
  have r2 : 0 ≤ dt 7 3 ∧ dt 7 3 ≤ 12 := InvC_get hI 7 3 rfl rfl
  have r3 : 0 ≤ dt 10 3 ∧ dt 10 3 ≤ 40 := InvC_get hI 10 3 rfl rfl
  have r4 : 0 ≤ dt 12 3 ∧ dt 12 3 ≤ 300 := InvC_get hI 12 3 rfl rfl
  have r5 : 0 ≤ dt 14 3 ∧ dt 14 3 ≤ 40 := InvC_get hI 14 3 rfl rfl
  have r6 : 0 ≤ dt 16 3 ∧ dt 16 3 ≤ 20 := InvC_get hI 16 3 rfl rfl
  have r7 : (-2147483648) ≤ dt 18 0 ∧ dt 18 0 ≤ 2147483647 := InvC_get hI 18 0 rfl rfl
  have r8 : 0 ≤ dt 24 3 ∧ dt 24 3 ≤ 12 := InvC_get hI 24 3 rfl rfl
  have r9 : 0 ≤ dt 27 3 ∧ dt 27 3 ≤ 40 := InvC_get hI 27 3 rfl rfl
  have r10 : 0 ≤ dt 29 3 ∧ dt 29 3 ≤ 300 := InvC_get hI 29 3 rfl rfl
  have r11 : 0 ≤ dt 31 3 ∧ dt 31 3 ≤ 40 := InvC_get hI 31 3 rfl rfl
  have r12 : 0 ≤ dt 33 3 ∧ dt 33 3 ≤ 20 := InvC_get hI 33 3 rfl rfl
  have r13 : 0 ≤ dt 0 2 ∧ dt 0 2 ≤ 1 := InvC_get hI 0 2 rfl rfl
  have r14 : 0 ≤ dt 35 1 ∧ dt 35 1 ≤ 500 := InvC_get hI 35 1 rfl rfl
  have r15 : (-2147483648) ≤ dt 35 2 ∧ dt 35 2 ≤ 2147483647 := InvC_get hI 35 2 rfl rfl
  have r16 : (-2147483648) ≤ dt 35 3 ∧ dt 35 3 ≤ 2147483647 := InvC_get hI 35 3 rfl rfl
  have r17 : (-2147483648) ≤ dt 80 0 ∧ dt 80 0 ≤ 2147483647 := InvC_get hI 80 0 rfl rfl
  have r18 : (-2147483648) ≤ dt 80 1 ∧ dt 80 1 ≤ 2147483647 := InvC_get hI 80 1 rfl rfl
  have r19 := MW_n hM
  have r20 : (-2147483648) ≤ dt 80 2 ∧ dt 80 2 ≤ 2147483647 := InvC_get hI 80 2 rfl rfl
  have r21 : (-2147483648) ≤ dt 80 3 ∧ dt 80 3 ≤ 2147483647 := InvC_get hI 80 3 rfl rfl
  have r22 : (-2147483648) ≤ dt 80 4 ∧ dt 80 4 ≤ 2147483647 := InvC_get hI 80 4 rfl rfl
  have r23 : (-2147483648) ≤ dt 80 5 ∧ dt 80 5 ≤ 2147483647 := InvC_get hI 80 5 rfl rfl
  have r24 : (-2147483648) ≤ dt 81 0 ∧ dt 81 0 ≤ 2147483647 := InvC_get hI 81 0 rfl rfl
  have r25 : (-2147483648) ≤ dt 81 1 ∧ dt 81 1 ≤ 2147483647 := InvC_get hI 81 1 rfl rfl
  have r26 : (-2147483648) ≤ dt 81 2 ∧ dt 81 2 ≤ 2147483647 := InvC_get hI 81 2 rfl rfl
  have r27 : (-2147483648) ≤ dt 81 3 ∧ dt 81 3 ≤ 2147483647 := InvC_get hI 81 3 rfl rfl
  have r28 : (-2147483648) ≤ dt 81 4 ∧ dt 81 4 ≤ 2147483647 := InvC_get hI 81 4 rfl rfl
  have r29 : (-2147483648) ≤ dt 81 5 ∧ dt 81 5 ≤ 2147483647 := InvC_get hI 81 5 rfl rfl
  have r30 : 0 ≤ dt 79 2 ∧ dt 79 2 ≤ 1 := InvC_get hI 79 2 rfl rfl
  have r31 : 0 ≤ dt 79 12 ∧ dt 79 12 ≤ 500 := InvC_get hI 79 12 rfl rfl
  have r32 : (-2147483648) ≤ dt 79 19 ∧ dt 79 19 ≤ 2147483647 := InvC_get hI 79 19 rfl rfl
  have r33 : (-2147483648) ≤ dt 79 21 ∧ dt 79 21 ≤ 2147483647 := InvC_get hI 79 21 rfl rfl
  refine go_toq PM267 (k := 5) (pc' := 893) (L' := [some (.inr (.inr (some 3000))), some (.inr (.inr (some 0))), some (.inr (.inr (some 79))), some (.inl i)]) (st' := [.inl (i + 1), .inr (.inr (some 3000)), .inr (.inr (some 0))]) (w' := (SH, dt)) rfl ?_
  have r34 := i32_R (xs ((i + 1).toNat))
  refine go_smpq PM267 (L' := [some (.inr (.inr (some 3000))), some (.inr (.inr (some 0))), some (.inr (.inr (some 79))), some (.inl i)]) (st' := [.inl ((xs ((i + 1).toNat)).toInt), .inr (.inr (some 0))]) (w' := (SH, dt)) rfl rfl (s_iald (n := L) (f := fun j => (xs j).toInt) (am_scr hLL) ⟨by omega, by omega⟩) ?_
  refine go_toq PM267 (k := 4) (pc' := 898) (L' := [some (.inr (.inr (some 3000))), some (.inr (.inr (some 0))), some (.inr (.inr (some 79))), some (.inl i)]) (st' := [.inl (i + 2), .inr (.inr (some 3000)), .inl ((xs ((i + 1).toNat)).toInt), .inr (.inr (some 0))]) (w' := (SH, dt)) rfl ?_
  have r35 := i32_R (xs ((i + 2).toNat))
  refine go_smpq PM267 (L' := [some (.inr (.inr (some 3000))), some (.inr (.inr (some 0))), some (.inr (.inr (some 79))), some (.inl i)]) (st' := [.inl ((xs ((i + 2).toNat)).toInt), .inl ((xs ((i + 1).toNat)).toInt), .inr (.inr (some 0))]) (w' := (SH, dt)) rfl rfl (s_iald (n := L) (f := fun j => (xs j).toInt) (am_scr hLL) ⟨by omega, by omega⟩) ?_
  refine go_callq PM267 PM83 (Q' := _) rfl rfl rfl rfl (sp_X5_parted_f L xs sio (d + 35) dt hI  ((xs ((i + 1).toNat)).toInt) ⟨by omega, by omega⟩ ((xs ((i + 2).toNat)).toInt) ⟨by omega, by omega⟩ ) ?_
  rintro _ _ ⟨rfl, h36⟩
  refine ⟨rfl, ?_⟩
  rcases h36 with ⟨rfl, h36⟩ | ⟨v_h36, rfl, h36r, h36⟩
  · skip
    refine go_toq PM267 (k := 5) (pc' := 907) (L' := [some (.inr (.inr (some 3000))), some (.inr (.inr (some 0))), some (.inr (.inr (some 79))), some (.inl i)]) (st' := [.inl (i + 1), .inr (.inr (some 3000)), .inr (.inr (some 79)), .inl (-1)]) (w' := (SH, dt)) rfl ?_
    refine go_smpq PM267 (L' := [some (.inr (.inr (some 3000))), some (.inr (.inr (some 0))), some (.inr (.inr (some 79))), some (.inl i)]) (st' := [.inl ((xs ((i + 1).toNat)).toInt), .inr (.inr (some 79)), .inl (-1)]) (w' := (SH, dt)) rfl rfl (s_iald (n := L) (f := fun j => (xs j).toInt) (am_scr hLL) ⟨by omega, by omega⟩) ?_
    refine go_toq PM267 (k := 4) (pc' := 912) (L' := [some (.inr (.inr (some 3000))), some (.inr (.inr (some 0))), some (.inr (.inr (some 79))), some (.inl i)]) (st' := [.inl (i + 2), .inr (.inr (some 3000)), .inl ((xs ((i + 1).toNat)).toInt), .inr (.inr (some 79)), .inl (-1)]) (w' := (SH, dt)) rfl ?_
    refine go_smpq PM267 (L' := [some (.inr (.inr (some 3000))), some (.inr (.inr (some 0))), some (.inr (.inr (some 79))), some (.inl i)]) (st' := [.inl ((xs ((i + 2).toNat)).toInt), .inl ((xs ((i + 1).toNat)).toInt), .inr (.inr (some 79)), .inl (-1)]) (w' := (SH, dt)) rfl rfl (s_iald (n := L) (f := fun j => (xs j).toInt) (am_scr hLL) ⟨by omega, by omega⟩) ?_
    refine go_callq PM267 PM219 (Q' := _) rfl rfl rfl rfl (sp_X6_parted_f L xs sio (d + 32) dt hI hM  ((xs ((i + 1).toNat)).toInt) ⟨by omega, by omega⟩ ((xs ((i + 2).toNat)).toInt) ⟨by omega, by omega⟩ ) ?_
    rintro _ _ ⟨dt38, rfl, hI39, hF40, h37⟩
    refine ⟨rfl, ?_⟩
    have hF41 : Fr [0, 1, 2, 3, 4, 5, 6, 7, 8, 9, 10, 11, 12, 13, 14, 15, 16, 17, 18, 19, 20, 21, 22, 23, 24, 25, 26, 27, 28, 29, 30, 31, 32, 33, 34, 35, 36, 37, 38, 39, 40, 41, 42, 43, 44, 45, 46, 47, 48, 49, 50, 51, 52, 53, 54, 55, 56, 57, 58, 59, 60, 61, 62, 63, 64, 65, 66, 67, 68, 69, 70, 71, 72, 73, 74, 75, 76, 77, 78, 79, 80, 81, 82, 83, 84, 85, 86, 87, 88, 89, 90, 91, 92, 93, 94, 95, 96, 97, 98, 99, 100, 101, 102, 103, 104] dt dt38 := Fr_tr hF hF40 (by decide)
    have hM42 : MW (dt38 80) := MW_fr hM hF40 (by decide)
    have w43 : dt38 1 0 = dt 1 0 := hF40 1 (by decide) 0
    have w44 : dt38 7 3 = dt 7 3 := hF40 7 (by decide) 3
    have w45 : dt38 10 3 = dt 10 3 := hF40 10 (by decide) 3
    have w46 : dt38 12 3 = dt 12 3 := hF40 12 (by decide) 3
    have w47 : dt38 14 3 = dt 14 3 := hF40 14 (by decide) 3
    have w48 : dt38 16 3 = dt 16 3 := hF40 16 (by decide) 3
    have w49 : dt38 18 0 = dt 18 0 := hF40 18 (by decide) 0
    have w50 : dt38 24 3 = dt 24 3 := hF40 24 (by decide) 3
    have w51 : dt38 27 3 = dt 27 3 := hF40 27 (by decide) 3
    have w52 : dt38 29 3 = dt 29 3 := hF40 29 (by decide) 3
    have w53 : dt38 31 3 = dt 31 3 := hF40 31 (by decide) 3
    have w54 : dt38 33 3 = dt 33 3 := hF40 33 (by decide) 3
    have w55 : dt38 0 2 = dt 0 2 := hF40 0 (by decide) 2
    have w56 : dt38 35 1 = dt 35 1 := hF40 35 (by decide) 1
    have w57 : dt38 35 2 = dt 35 2 := hF40 35 (by decide) 2
    have w58 : dt38 35 3 = dt 35 3 := hF40 35 (by decide) 3
    have w59 : dt38 80 0 = dt 80 0 := hF40 80 (by decide) 0
    have w60 : dt38 80 1 = dt 80 1 := hF40 80 (by decide) 1
    have w61 : dt38 80 2 = dt 80 2 := hF40 80 (by decide) 2
    have w62 : dt38 80 3 = dt 80 3 := hF40 80 (by decide) 3
    have w63 : dt38 80 4 = dt 80 4 := hF40 80 (by decide) 4
    have w64 : dt38 80 5 = dt 80 5 := hF40 80 (by decide) 5
    have w65 : dt38 81 0 = dt 81 0 := hF40 81 (by decide) 0
    have w66 : dt38 81 1 = dt 81 1 := hF40 81 (by decide) 1
    have w67 : dt38 81 2 = dt 81 2 := hF40 81 (by decide) 2
    have w68 : dt38 81 3 = dt 81 3 := hF40 81 (by decide) 3
    have w69 : dt38 81 4 = dt 81 4 := hF40 81 (by decide) 4
    have w70 : dt38 81 5 = dt 81 5 := hF40 81 (by decide) 5
    have w71 : dt38 79 2 = dt 79 2 := hF40 79 (by decide) 2
    have w72 : dt38 79 12 = dt 79 12 := hF40 79 (by decide) 12
    have w73 : dt38 79 19 = dt 79 19 := hF40 79 (by decide) 19
    have w74 : dt38 79 21 = dt 79 21 := hF40 79 (by decide) 21
    rcases h37 with ⟨rfl, h37⟩ | ⟨v_h37, rfl, h37r, h37⟩
    · skip
      have M275 : MW (dt38 81) := MW_frk hM2 hF40 (by decide)
      have y76 : (0 ≤ ((xs ((i + 1).toNat)).toInt) ∧ ((xs ((i + 1).toNat)).toInt) ≤ 7) → (0 ≤ ((xs ((i + 2).toNat)).toInt) ∧ ((xs ((i + 2).toNat)).toInt) ≤ 7) → PTB (SDC (dt 9)) ((xs ((i + 1).toNat)).toInt) ((xs ((i + 2).toNat)).toInt) (dt 7 3).toNat = PTB (SAID (dt 80)) ((xs ((i + 1).toNat)).toInt) ((xs ((i + 2).toNat)).toInt) (dt 80 1).toNat := fun h1_ h2_ => by rw [PTB_L hd5 h1_ h2_ hk1, hk1]
      have C77 : ∀ j : Nat, dt38 2 j = dt 2 j := fun j => (hF40 2 (by decide) j).trans ((fun _ => rfl) j)
      have C78 : ∀ j : Nat, dt38 3 j = dt 3 j := fun j => (hF40 3 (by decide) j).trans ((fun _ => rfl) j)
      have C79 : ∀ j : Nat, dt38 19 j = dt 19 j := fun j => (hF40 19 (by decide) j).trans ((fun _ => rfl) j)
      have C80 : ∀ j : Nat, dt38 20 j = dt 20 j := fun j => (hF40 20 (by decide) j).trans ((fun _ => rfl) j)
      have C81 : ∀ j : Nat, dt38 8 j = dt 8 j := fun j => (hF40 8 (by decide) j).trans ((fun _ => rfl) j)
      have C82 : ∀ j : Nat, dt38 25 j = dt 25 j := fun j => (hF40 25 (by decide) j).trans ((fun _ => rfl) j)
      have C83 : ∀ j : Nat, dt38 9 j = dt 9 j := fun j => (hF40 9 (by decide) j).trans ((fun _ => rfl) j)
      have C84 : ∀ j : Nat, dt38 26 j = dt 26 j := fun j => (hF40 26 (by decide) j).trans ((fun _ => rfl) j)
      have C85 : ∀ j : Nat, dt38 36 j = dt 36 j := fun j => (hF40 36 (by decide) j).trans ((fun _ => rfl) j)
      have C86 : ∀ j : Nat, dt38 80 j = dt 80 j := fun j => (hF40 80 (by decide) j).trans ((fun _ => rfl) j)
      have C87 : ∀ j : Nat, dt38 81 j = dt 81 j := fun j => (hF40 81 (by decide) j).trans ((fun _ => rfl) j)
      have C88 : ∀ j : Nat, dt38 85 j = dt 85 j := fun j => (hF40 85 (by decide) j).trans ((fun _ => rfl) j)
      refine go_toq PM267 (k := 1) (pc' := 1435) (L' := [some (.inr (.inr (some 3000))), some (.inr (.inr (some 0))), some (.inr (.inr (some 79))), some (.inl i)]) (st' := []) (w' := (SH, dt38)) rfl ?_
      exact K dt38 hI39 hM42 M275 (w43.trans (hk0.trans w59.symm)) (w44.trans (hk1.trans w60.symm)) (w45.trans (hk2.trans w61.symm)) (w46.trans (hk3.trans w62.symm)) (w47.trans (hk4.trans w63.symm)) (w48.trans (hk5.trans w64.symm)) (w49.trans (hk6.trans w65.symm)) (w50.trans (hk7.trans w66.symm)) (w51.trans (hk8.trans w67.symm)) (w52.trans (hk9.trans w68.symm)) (w53.trans (hk10.trans w69.symm)) (w54.trans (hk11.trans w70.symm)) (w55.trans (hk12.trans w71.symm)) (w56.trans (hk13.trans w72.symm)) (w57.trans (hk14.trans w73.symm)) (w58.trans (hk15.trans w74.symm)) (by first | exact hI | exact TPL_k hd0 C85 C88 (by omega) | (exfalso; omega)) (by first | exact hI | exact SCL_k hd1 hM (fun j _ => C77 j) (fun j _ => C78 j) (fun j _ _ => C86 j) | (exfalso; omega)) (by first | exact hI | exact SCL_k hd2 hM2 (fun j _ => C79 j) (fun j _ => C80 j) (fun j _ _ => C87 j) | (exfalso; omega)) (by first | exact hI | exact QRL_k hd3 hM (fun j _ => C81 j) (C86 1) (fun j _ _ => C86 j) | (exfalso; omega)) (by first | exact hI | exact QRL_k hd4 hM2 (fun j _ => C82 j) (C87 1) (fun j _ _ => C87 j) | (exfalso; omega)) (by first | exact hI | exact SDL_k hd5 hM (fun j _ => C83 j) (C86 1) (fun j _ _ => C86 j) (fun j _ _ => C86 j) | (exfalso; omega)) (by first | exact hI | exact SDL_k hd6 hM2 (fun j _ => C84 j) (C87 1) (fun j _ _ => C87 j) (fun j _ _ => C87 j) | (exfalso; omega))
    · skip
      obtain ⟨h37_0, h37_1⟩ := h37
      have M289 : MW (dt38 81) := MW_frk hM2 hF40 (by decide)
      have y90 : (0 ≤ ((xs ((i + 1).toNat)).toInt) ∧ ((xs ((i + 1).toNat)).toInt) ≤ 7) → (0 ≤ ((xs ((i + 2).toNat)).toInt) ∧ ((xs ((i + 2).toNat)).toInt) ≤ 7) → PTB (SDC (dt 9)) ((xs ((i + 1).toNat)).toInt) ((xs ((i + 2).toNat)).toInt) (dt 7 3).toNat = PTB (SAID (dt 80)) ((xs ((i + 1).toNat)).toInt) ((xs ((i + 2).toNat)).toInt) (dt 80 1).toNat := fun h1_ h2_ => by rw [PTB_L hd5 h1_ h2_ hk1, hk1]
      have C91 : ∀ j : Nat, dt38 2 j = dt 2 j := fun j => (hF40 2 (by decide) j).trans ((fun _ => rfl) j)
      have C92 : ∀ j : Nat, dt38 3 j = dt 3 j := fun j => (hF40 3 (by decide) j).trans ((fun _ => rfl) j)
      have C93 : ∀ j : Nat, dt38 19 j = dt 19 j := fun j => (hF40 19 (by decide) j).trans ((fun _ => rfl) j)
      have C94 : ∀ j : Nat, dt38 20 j = dt 20 j := fun j => (hF40 20 (by decide) j).trans ((fun _ => rfl) j)
      have C95 : ∀ j : Nat, dt38 8 j = dt 8 j := fun j => (hF40 8 (by decide) j).trans ((fun _ => rfl) j)
      have C96 : ∀ j : Nat, dt38 25 j = dt 25 j := fun j => (hF40 25 (by decide) j).trans ((fun _ => rfl) j)
      have C97 : ∀ j : Nat, dt38 9 j = dt 9 j := fun j => (hF40 9 (by decide) j).trans ((fun _ => rfl) j)
      have C98 : ∀ j : Nat, dt38 26 j = dt 26 j := fun j => (hF40 26 (by decide) j).trans ((fun _ => rfl) j)
      have C99 : ∀ j : Nat, dt38 36 j = dt 36 j := fun j => (hF40 36 (by decide) j).trans ((fun _ => rfl) j)
      have C100 : ∀ j : Nat, dt38 80 j = dt 80 j := fun j => (hF40 80 (by decide) j).trans ((fun _ => rfl) j)
      have C101 : ∀ j : Nat, dt38 81 j = dt 81 j := fun j => (hF40 81 (by decide) j).trans ((fun _ => rfl) j)
      have C102 : ∀ j : Nat, dt38 85 j = dt 85 j := fun j => (hF40 85 (by decide) j).trans ((fun _ => rfl) j)
      refine go_ifq PM267 (k := 0) (p1 := 1435) (p2 := 919) (L' := [some (.inr (.inr (some 3000))), some (.inr (.inr (some 0))), some (.inr (.inr (some 79))), some (.inl i)]) (st' := []) (w' := (SH, dt38)) rfl (c_eq (a := (-1)) (b := v_h37) ⟨by decide, by decide⟩ (by first | exact bnd h37r (by decide) (by decide) | exact ⟨by omega, by omega⟩)) (fun c103 => ?_) (fun c103 => ?_)
      · exfalso; omega
      · skip
        exfalso; omega
  · skip
    obtain ⟨h36_0, h36_1⟩ := h36
    refine go_toq PM267 (k := 5) (pc' := 907) (L' := [some (.inr (.inr (some 3000))), some (.inr (.inr (some 0))), some (.inr (.inr (some 79))), some (.inl i)]) (st' := [.inl (i + 1), .inr (.inr (some 3000)), .inr (.inr (some 79)), .inl v_h36]) (w' := (SH, dt)) rfl ?_
    refine go_smpq PM267 (L' := [some (.inr (.inr (some 3000))), some (.inr (.inr (some 0))), some (.inr (.inr (some 79))), some (.inl i)]) (st' := [.inl ((xs ((i + 1).toNat)).toInt), .inr (.inr (some 79)), .inl v_h36]) (w' := (SH, dt)) rfl rfl (s_iald (n := L) (f := fun j => (xs j).toInt) (am_scr hLL) ⟨by omega, by omega⟩) ?_
    refine go_toq PM267 (k := 4) (pc' := 912) (L' := [some (.inr (.inr (some 3000))), some (.inr (.inr (some 0))), some (.inr (.inr (some 79))), some (.inl i)]) (st' := [.inl (i + 2), .inr (.inr (some 3000)), .inl ((xs ((i + 1).toNat)).toInt), .inr (.inr (some 79)), .inl v_h36]) (w' := (SH, dt)) rfl ?_
    refine go_smpq PM267 (L' := [some (.inr (.inr (some 3000))), some (.inr (.inr (some 0))), some (.inr (.inr (some 79))), some (.inl i)]) (st' := [.inl ((xs ((i + 2).toNat)).toInt), .inl ((xs ((i + 1).toNat)).toInt), .inr (.inr (some 79)), .inl v_h36]) (w' := (SH, dt)) rfl rfl (s_iald (n := L) (f := fun j => (xs j).toInt) (am_scr hLL) ⟨by omega, by omega⟩) ?_
    refine go_callq PM267 PM219 (Q' := _) rfl rfl rfl rfl (sp_X6_parted_f L xs sio (d + 32) dt hI hM  ((xs ((i + 1).toNat)).toInt) ⟨by omega, by omega⟩ ((xs ((i + 2).toNat)).toInt) ⟨by omega, by omega⟩ ) ?_
    rintro _ _ ⟨dt105, rfl, hI106, hF107, h104⟩
    refine ⟨rfl, ?_⟩
    have hF108 : Fr [0, 1, 2, 3, 4, 5, 6, 7, 8, 9, 10, 11, 12, 13, 14, 15, 16, 17, 18, 19, 20, 21, 22, 23, 24, 25, 26, 27, 28, 29, 30, 31, 32, 33, 34, 35, 36, 37, 38, 39, 40, 41, 42, 43, 44, 45, 46, 47, 48, 49, 50, 51, 52, 53, 54, 55, 56, 57, 58, 59, 60, 61, 62, 63, 64, 65, 66, 67, 68, 69, 70, 71, 72, 73, 74, 75, 76, 77, 78, 79, 80, 81, 82, 83, 84, 85, 86, 87, 88, 89, 90, 91, 92, 93, 94, 95, 96, 97, 98, 99, 100, 101, 102, 103, 104] dt dt105 := Fr_tr hF hF107 (by decide)
    have hM109 : MW (dt105 80) := MW_fr hM hF107 (by decide)
    have w110 : dt105 1 0 = dt 1 0 := hF107 1 (by decide) 0
    have w111 : dt105 7 3 = dt 7 3 := hF107 7 (by decide) 3
    have w112 : dt105 10 3 = dt 10 3 := hF107 10 (by decide) 3
    have w113 : dt105 12 3 = dt 12 3 := hF107 12 (by decide) 3
    have w114 : dt105 14 3 = dt 14 3 := hF107 14 (by decide) 3
    have w115 : dt105 16 3 = dt 16 3 := hF107 16 (by decide) 3
    have w116 : dt105 18 0 = dt 18 0 := hF107 18 (by decide) 0
    have w117 : dt105 24 3 = dt 24 3 := hF107 24 (by decide) 3
    have w118 : dt105 27 3 = dt 27 3 := hF107 27 (by decide) 3
    have w119 : dt105 29 3 = dt 29 3 := hF107 29 (by decide) 3
    have w120 : dt105 31 3 = dt 31 3 := hF107 31 (by decide) 3
    have w121 : dt105 33 3 = dt 33 3 := hF107 33 (by decide) 3
    have w122 : dt105 0 2 = dt 0 2 := hF107 0 (by decide) 2
    have w123 : dt105 35 1 = dt 35 1 := hF107 35 (by decide) 1
    have w124 : dt105 35 2 = dt 35 2 := hF107 35 (by decide) 2
    have w125 : dt105 35 3 = dt 35 3 := hF107 35 (by decide) 3
    have w126 : dt105 80 0 = dt 80 0 := hF107 80 (by decide) 0
    have w127 : dt105 80 1 = dt 80 1 := hF107 80 (by decide) 1
    have w128 : dt105 80 2 = dt 80 2 := hF107 80 (by decide) 2
    have w129 : dt105 80 3 = dt 80 3 := hF107 80 (by decide) 3
    have w130 : dt105 80 4 = dt 80 4 := hF107 80 (by decide) 4
    have w131 : dt105 80 5 = dt 80 5 := hF107 80 (by decide) 5
    have w132 : dt105 81 0 = dt 81 0 := hF107 81 (by decide) 0
    have w133 : dt105 81 1 = dt 81 1 := hF107 81 (by decide) 1
    have w134 : dt105 81 2 = dt 81 2 := hF107 81 (by decide) 2
    have w135 : dt105 81 3 = dt 81 3 := hF107 81 (by decide) 3
    have w136 : dt105 81 4 = dt 81 4 := hF107 81 (by decide) 4
    have w137 : dt105 81 5 = dt 81 5 := hF107 81 (by decide) 5
    have w138 : dt105 79 2 = dt 79 2 := hF107 79 (by decide) 2
    have w139 : dt105 79 12 = dt 79 12 := hF107 79 (by decide) 12
    have w140 : dt105 79 19 = dt 79 19 := hF107 79 (by decide) 19
    have w141 : dt105 79 21 = dt 79 21 := hF107 79 (by decide) 21
    rcases h104 with ⟨rfl, h104⟩ | ⟨v_h104, rfl, h104r, h104⟩
    · skip
      have M2142 : MW (dt105 81) := MW_frk hM2 hF107 (by decide)
      have y143 : (0 ≤ ((xs ((i + 1).toNat)).toInt) ∧ ((xs ((i + 1).toNat)).toInt) ≤ 7) → (0 ≤ ((xs ((i + 2).toNat)).toInt) ∧ ((xs ((i + 2).toNat)).toInt) ≤ 7) → PTB (SDC (dt 9)) ((xs ((i + 1).toNat)).toInt) ((xs ((i + 2).toNat)).toInt) (dt 7 3).toNat = PTB (SAID (dt 80)) ((xs ((i + 1).toNat)).toInt) ((xs ((i + 2).toNat)).toInt) (dt 80 1).toNat := fun h1_ h2_ => by rw [PTB_L hd5 h1_ h2_ hk1, hk1]
      have C144 : ∀ j : Nat, dt105 2 j = dt 2 j := fun j => (hF107 2 (by decide) j).trans ((fun _ => rfl) j)
      have C145 : ∀ j : Nat, dt105 3 j = dt 3 j := fun j => (hF107 3 (by decide) j).trans ((fun _ => rfl) j)
      have C146 : ∀ j : Nat, dt105 19 j = dt 19 j := fun j => (hF107 19 (by decide) j).trans ((fun _ => rfl) j)
      have C147 : ∀ j : Nat, dt105 20 j = dt 20 j := fun j => (hF107 20 (by decide) j).trans ((fun _ => rfl) j)
      have C148 : ∀ j : Nat, dt105 8 j = dt 8 j := fun j => (hF107 8 (by decide) j).trans ((fun _ => rfl) j)
      have C149 : ∀ j : Nat, dt105 25 j = dt 25 j := fun j => (hF107 25 (by decide) j).trans ((fun _ => rfl) j)
      have C150 : ∀ j : Nat, dt105 9 j = dt 9 j := fun j => (hF107 9 (by decide) j).trans ((fun _ => rfl) j)
      have C151 : ∀ j : Nat, dt105 26 j = dt 26 j := fun j => (hF107 26 (by decide) j).trans ((fun _ => rfl) j)
      have C152 : ∀ j : Nat, dt105 36 j = dt 36 j := fun j => (hF107 36 (by decide) j).trans ((fun _ => rfl) j)
      have C153 : ∀ j : Nat, dt105 80 j = dt 80 j := fun j => (hF107 80 (by decide) j).trans ((fun _ => rfl) j)
      have C154 : ∀ j : Nat, dt105 81 j = dt 81 j := fun j => (hF107 81 (by decide) j).trans ((fun _ => rfl) j)
      have C155 : ∀ j : Nat, dt105 85 j = dt 85 j := fun j => (hF107 85 (by decide) j).trans ((fun _ => rfl) j)
      refine go_ifq PM267 (k := 0) (p1 := 1435) (p2 := 919) (L' := [some (.inr (.inr (some 3000))), some (.inr (.inr (some 0))), some (.inr (.inr (some 79))), some (.inl i)]) (st' := []) (w' := (SH, dt105)) rfl (c_eq (a := v_h36) (b := (-1)) (by first | exact bnd h36r (by decide) (by decide) | exact ⟨by omega, by omega⟩) ⟨by decide, by decide⟩) (fun c156 => ?_) (fun c156 => ?_)
      · exfalso; omega
      · skip
        exfalso; omega
    · skip
      obtain ⟨h104_0, h104_1⟩ := h104
      have M2157 : MW (dt105 81) := MW_frk hM2 hF107 (by decide)
      have y158 : (0 ≤ ((xs ((i + 1).toNat)).toInt) ∧ ((xs ((i + 1).toNat)).toInt) ≤ 7) → (0 ≤ ((xs ((i + 2).toNat)).toInt) ∧ ((xs ((i + 2).toNat)).toInt) ≤ 7) → PTB (SDC (dt 9)) ((xs ((i + 1).toNat)).toInt) ((xs ((i + 2).toNat)).toInt) (dt 7 3).toNat = PTB (SAID (dt 80)) ((xs ((i + 1).toNat)).toInt) ((xs ((i + 2).toNat)).toInt) (dt 80 1).toNat := fun h1_ h2_ => by rw [PTB_L hd5 h1_ h2_ hk1, hk1]
      have C159 : ∀ j : Nat, dt105 2 j = dt 2 j := fun j => (hF107 2 (by decide) j).trans ((fun _ => rfl) j)
      have C160 : ∀ j : Nat, dt105 3 j = dt 3 j := fun j => (hF107 3 (by decide) j).trans ((fun _ => rfl) j)
      have C161 : ∀ j : Nat, dt105 19 j = dt 19 j := fun j => (hF107 19 (by decide) j).trans ((fun _ => rfl) j)
      have C162 : ∀ j : Nat, dt105 20 j = dt 20 j := fun j => (hF107 20 (by decide) j).trans ((fun _ => rfl) j)
      have C163 : ∀ j : Nat, dt105 8 j = dt 8 j := fun j => (hF107 8 (by decide) j).trans ((fun _ => rfl) j)
      have C164 : ∀ j : Nat, dt105 25 j = dt 25 j := fun j => (hF107 25 (by decide) j).trans ((fun _ => rfl) j)
      have C165 : ∀ j : Nat, dt105 9 j = dt 9 j := fun j => (hF107 9 (by decide) j).trans ((fun _ => rfl) j)
      have C166 : ∀ j : Nat, dt105 26 j = dt 26 j := fun j => (hF107 26 (by decide) j).trans ((fun _ => rfl) j)
      have C167 : ∀ j : Nat, dt105 36 j = dt 36 j := fun j => (hF107 36 (by decide) j).trans ((fun _ => rfl) j)
      have C168 : ∀ j : Nat, dt105 80 j = dt 80 j := fun j => (hF107 80 (by decide) j).trans ((fun _ => rfl) j)
      have C169 : ∀ j : Nat, dt105 81 j = dt 81 j := fun j => (hF107 81 (by decide) j).trans ((fun _ => rfl) j)
      have C170 : ∀ j : Nat, dt105 85 j = dt 85 j := fun j => (hF107 85 (by decide) j).trans ((fun _ => rfl) j)
      refine go_ifq PM267 (k := 0) (p1 := 1435) (p2 := 919) (L' := [some (.inr (.inr (some 3000))), some (.inr (.inr (some 0))), some (.inr (.inr (some 79))), some (.inl i)]) (st' := []) (w' := (SH, dt105)) rfl (c_eq (a := v_h36) (b := v_h104) (by first | exact bnd h36r (by decide) (by decide) | exact ⟨by omega, by omega⟩) (by first | exact bnd h104r (by decide) (by decide) | exact ⟨by omega, by omega⟩)) (fun c171 => ?_) (fun c171 => ?_)
      · skip
        exact K dt105 hI106 hM109 M2157 (w110.trans (hk0.trans w126.symm)) (w111.trans (hk1.trans w127.symm)) (w112.trans (hk2.trans w128.symm)) (w113.trans (hk3.trans w129.symm)) (w114.trans (hk4.trans w130.symm)) (w115.trans (hk5.trans w131.symm)) (w116.trans (hk6.trans w132.symm)) (w117.trans (hk7.trans w133.symm)) (w118.trans (hk8.trans w134.symm)) (w119.trans (hk9.trans w135.symm)) (w120.trans (hk10.trans w136.symm)) (w121.trans (hk11.trans w137.symm)) (w122.trans (hk12.trans w138.symm)) (w123.trans (hk13.trans w139.symm)) (w124.trans (hk14.trans w140.symm)) (w125.trans (hk15.trans w141.symm)) (by first | exact hI | exact TPL_k hd0 C167 C170 (by omega) | (exfalso; omega)) (by first | exact hI | exact SCL_k hd1 hM (fun j _ => C159 j) (fun j _ => C160 j) (fun j _ _ => C168 j) | (exfalso; omega)) (by first | exact hI | exact SCL_k hd2 hM2 (fun j _ => C161 j) (fun j _ => C162 j) (fun j _ _ => C169 j) | (exfalso; omega)) (by first | exact hI | exact QRL_k hd3 hM (fun j _ => C163 j) (C168 1) (fun j _ _ => C168 j) | (exfalso; omega)) (by first | exact hI | exact QRL_k hd4 hM2 (fun j _ => C164 j) (C169 1) (fun j _ _ => C169 j) | (exfalso; omega)) (by first | exact hI | exact SDL_k hd5 hM (fun j _ => C165 j) (C168 1) (fun j _ _ => C168 j) (fun j _ _ => C168 j) | (exfalso; omega)) (by first | exact hI | exact SDL_k hd6 hM2 (fun j _ => C166 j) (C169 1) (fun j _ _ => C169 j) (fun j _ _ => C169 j) | (exfalso; omega))
      · skip
        exfalso; omega
set_option maxRecDepth 20000 in
set_option maxHeartbeats 8000000 in
theorem sp_case17 (L : Nat) (xs : Nat → Int32) (sio : Option Nat) (d : Nat) (Q : Option AV → am_W → Prop) (hLL : L ≤ 3072) (i : Int) (hi : 0 ≤ i ∧ i ≤ 3066) (hil : i ≤ (L : Int) - 6) (dt : Nat → Nat → Int) (hI : InvC dt) (hM : MW (dt 80)) (hM2 : MW (dt 81)) (hk0 : dt 1 0 = dt 80 0) (hk1 : dt 7 3 = dt 80 1) (hk2 : dt 10 3 = dt 80 2) (hk3 : dt 12 3 = dt 80 3) (hk4 : dt 14 3 = dt 80 4) (hk5 : dt 16 3 = dt 80 5) (hk6 : dt 18 0 = dt 81 0) (hk7 : dt 24 3 = dt 81 1) (hk8 : dt 27 3 = dt 81 2) (hk9 : dt 29 3 = dt 81 3) (hk10 : dt 31 3 = dt 81 4) (hk11 : dt 33 3 = dt 81 5) (hk12 : dt 0 2 = dt 79 2) (hk13 : dt 35 1 = dt 79 12) (hk14 : dt 35 2 = dt 79 19) (hk15 : dt 35 3 = dt 79 21) (hd0 : TPL (dt 36) (dt 85) (dt 35 1)) (hd1 : SCL (dt 2) (dt 3) (dt 80)) (hd2 : SCL (dt 19) (dt 20) (dt 81)) (hd3 : QRL (dt 8) (dt 80)) (hd4 : QRL (dt 25) (dt 81)) (hd5 : SDL (dt 9) (dt 80)) (hd6 : SDL (dt 26) (dt 81)) (K : ∀ (dt : Nat → Nat → Int) (hI : InvC dt) (hM : MW (dt 80)) (hM2 : MW (dt 81)) (hk0 : dt 1 0 = dt 80 0) (hk1 : dt 7 3 = dt 80 1) (hk2 : dt 10 3 = dt 80 2) (hk3 : dt 12 3 = dt 80 3) (hk4 : dt 14 3 = dt 80 4) (hk5 : dt 16 3 = dt 80 5) (hk6 : dt 18 0 = dt 81 0) (hk7 : dt 24 3 = dt 81 1) (hk8 : dt 27 3 = dt 81 2) (hk9 : dt 29 3 = dt 81 3) (hk10 : dt 31 3 = dt 81 4) (hk11 : dt 33 3 = dt 81 5) (hk12 : dt 0 2 = dt 79 2) (hk13 : dt 35 1 = dt 79 12) (hk14 : dt 35 2 = dt 79 19) (hk15 : dt 35 3 = dt 79 21) (hd0 : TPL (dt 36) (dt 85) (dt 35 1)) (hd1 : SCL (dt 2) (dt 3) (dt 80)) (hd2 : SCL (dt 19) (dt 20) (dt 81)) (hd3 : QRL (dt 8) (dt 80)) (hd4 : QRL (dt 25) (dt 81)) (hd5 : SDL (dt 9) (dt 80)) (hd6 : SDL (dt 26) (dt 81)), GO (am_XX L xs sio) (d + 39) 267 1435 [some (.inr (.inr (some 3000))), some (.inr (.inr (some 0))), some (.inr (.inr (some 79))), some (.inl i)] [] (SH, dt) Q) : GO (am_XX L xs sio) (d + 39) 267 921 [some (.inr (.inr (some 3000))), some (.inr (.inr (some 0))), some (.inr (.inr (some 79))), some (.inl i)] [] (SH, dt) Q := by
  have hF : Fr [0, 1, 2, 3, 4, 5, 6, 7, 8, 9, 10, 11, 12, 13, 14, 15, 16, 17, 18, 19, 20, 21, 22, 23, 24, 25, 26, 27, 28, 29, 30, 31, 32, 33, 34, 35, 36, 37, 38, 39, 40, 41, 42, 43, 44, 45, 46, 47, 48, 49, 50, 51, 52, 53, 54, 55, 56, 57, 58, 59, 60, 61, 62, 63, 64, 65, 66, 67, 68, 69, 70, 71, 72, 73, 74, 75, 76, 77, 78, 79, 80, 81, 82, 83, 84, 85, 86, 87, 88, 89, 90, 91, 92, 93, 94, 95, 96, 97, 98, 99, 100, 101, 102, 103, 104] dt dt := Fr_refl
  have hqo := QOC_R hd3 hM hk1
  have hb1_ := hM.1.1
  refine go_toq PM267 (k := 5) (pc' := 926) (L' := [some (.inr (.inr (some 3000))), some (.inr (.inr (some 0))), some (.inr (.inr (some 79))), some (.inl i)]) (st' := [.inl (i + 1), .inr (.inr (some 3000)), .inr (.inr (some 0))]) (w' := (SH, dt)) rfl ?_
  have r1 := i32_R (xs ((i + 1).toNat))
  refine go_smpq PM267 (L' := [some (.inr (.inr (some 3000))), some (.inr (.inr (some 0))), some (.inr (.inr (some 79))), some (.inl i)]) (st' := [.inl ((xs ((i + 1).toNat)).toInt), .inr (.inr (some 0))]) (w' := (SH, dt)) rfl rfl (s_iald (n := L) (f := fun j => (xs j).toInt) (am_scr hLL) ⟨by omega, by omega⟩) ?_
  refine go_callq PM267 PM84 (Q' := _) rfl rfl rfl rfl (sp_X5_fewest L xs sio (d + 34) dt hI  ((xs ((i + 1).toNat)).toInt) ⟨by omega, by omega⟩ ) ?_
  rintro _ _ ⟨dt3, rfl, hI4, hF5, h2⟩
  refine ⟨rfl, ?_⟩
  have hF6 : Fr [0, 1, 2, 3, 4, 5, 6, 7, 8, 9, 10, 11, 12, 13, 14, 15, 16, 17, 18, 19, 20, 21, 22, 23, 24, 25, 26, 27, 28, 29, 30, 31, 32, 33, 34, 35, 36, 37, 38, 39, 40, 41, 42, 43, 44, 45, 46, 47, 48, 49, 50, 51, 52, 53, 54, 55, 56, 57, 58, 59, 60, 61, 62, 63, 64, 65, 66, 67, 68, 69, 70, 71, 72, 73, 74, 75, 76, 77, 78, 79, 80, 81, 82, 83, 84, 85, 86, 87, 88, 89, 90, 91, 92, 93, 94, 95, 96, 97, 98, 99, 100, 101, 102, 103, 104] dt dt3 := Fr_tr hF hF5 (by decide)
  have hM7 : MW (dt3 80) := MW_fr hM hF5 (by decide)
  have w8 : dt3 1 0 = dt 1 0 := hF5 1 (by decide) 0
  have w9 : dt3 7 3 = dt 7 3 := hF5 7 (by decide) 3
  have w10 : dt3 10 3 = dt 10 3 := hF5 10 (by decide) 3
  have w11 : dt3 12 3 = dt 12 3 := hF5 12 (by decide) 3
  have w12 : dt3 14 3 = dt 14 3 := hF5 14 (by decide) 3
  have w13 : dt3 16 3 = dt 16 3 := hF5 16 (by decide) 3
  have w14 : dt3 18 0 = dt 18 0 := hF5 18 (by decide) 0
  have w15 : dt3 24 3 = dt 24 3 := hF5 24 (by decide) 3
  have w16 : dt3 27 3 = dt 27 3 := hF5 27 (by decide) 3
  have w17 : dt3 29 3 = dt 29 3 := hF5 29 (by decide) 3
  have w18 : dt3 31 3 = dt 31 3 := hF5 31 (by decide) 3
  have w19 : dt3 33 3 = dt 33 3 := hF5 33 (by decide) 3
  have w20 : dt3 0 2 = dt 0 2 := hF5 0 (by decide) 2
  have w21 : dt3 35 1 = dt 35 1 := hF5 35 (by decide) 1
  have w22 : dt3 35 2 = dt 35 2 := hF5 35 (by decide) 2
  have w23 : dt3 35 3 = dt 35 3 := hF5 35 (by decide) 3
  have w24 : dt3 80 0 = dt 80 0 := hF5 80 (by decide) 0
  have w25 : dt3 80 1 = dt 80 1 := hF5 80 (by decide) 1
  have w26 : dt3 80 2 = dt 80 2 := hF5 80 (by decide) 2
  have w27 : dt3 80 3 = dt 80 3 := hF5 80 (by decide) 3
  have w28 : dt3 80 4 = dt 80 4 := hF5 80 (by decide) 4
  have w29 : dt3 80 5 = dt 80 5 := hF5 80 (by decide) 5
  have w30 : dt3 81 0 = dt 81 0 := hF5 81 (by decide) 0
  have w31 : dt3 81 1 = dt 81 1 := hF5 81 (by decide) 1
  have w32 : dt3 81 2 = dt 81 2 := hF5 81 (by decide) 2
  have w33 : dt3 81 3 = dt 81 3 := hF5 81 (by decide) 3
  have w34 : dt3 81 4 = dt 81 4 := hF5 81 (by decide) 4
  have w35 : dt3 81 5 = dt 81 5 := hF5 81 (by decide) 5
  have w36 : dt3 79 2 = dt 79 2 := hF5 79 (by decide) 2
  have w37 : dt3 79 12 = dt 79 12 := hF5 79 (by decide) 12
  have w38 : dt3 79 19 = dt 79 19 := hF5 79 (by decide) 19
  have w39 : dt3 79 21 = dt 79 21 := hF5 79 (by decide) 21
  rcases h2 with ⟨v_h2, rfl, h2r, h2⟩
  have M240 : MW (dt3 81) := MW_frk hM2 hF5 (by decide)
  have C41 : ∀ j : Nat, dt3 2 j = dt 2 j := fun j => (hF5 2 (by decide) j).trans ((fun _ => rfl) j)
  have C42 : ∀ j : Nat, dt3 3 j = dt 3 j := fun j => (hF5 3 (by decide) j).trans ((fun _ => rfl) j)
  have C43 : ∀ j : Nat, dt3 19 j = dt 19 j := fun j => (hF5 19 (by decide) j).trans ((fun _ => rfl) j)
  have C44 : ∀ j : Nat, dt3 20 j = dt 20 j := fun j => (hF5 20 (by decide) j).trans ((fun _ => rfl) j)
  have C45 : ∀ j : Nat, dt3 8 j = dt 8 j := fun j => (hF5 8 (by decide) j).trans ((fun _ => rfl) j)
  have C46 : ∀ j : Nat, dt3 25 j = dt 25 j := fun j => (hF5 25 (by decide) j).trans ((fun _ => rfl) j)
  have C47 : ∀ j : Nat, dt3 9 j = dt 9 j := fun j => (hF5 9 (by decide) j).trans ((fun _ => rfl) j)
  have C48 : ∀ j : Nat, dt3 26 j = dt 26 j := fun j => (hF5 26 (by decide) j).trans ((fun _ => rfl) j)
  have C49 : ∀ j : Nat, dt3 36 j = dt 36 j := fun j => (hF5 36 (by decide) j).trans ((fun _ => rfl) j)
  have C50 : ∀ j : Nat, dt3 80 j = dt 80 j := fun j => (hF5 80 (by decide) j).trans ((fun _ => rfl) j)
  have C51 : ∀ j : Nat, dt3 81 j = dt 81 j := fun j => (hF5 81 (by decide) j).trans ((fun _ => rfl) j)
  have C52 : ∀ j : Nat, dt3 85 j = dt 85 j := fun j => (hF5 85 (by decide) j).trans ((fun _ => rfl) j)
  refine go_toq PM267 (k := 6) (pc' := 936) (L' := [some (.inr (.inr (some 3000))), some (.inr (.inr (some 0))), some (.inr (.inr (some 79))), some (.inl i)]) (st' := [.inl (i + 1), .inr (.inr (some 3000)), .inr (.inr (some 79))]) (w' := (SH, dt3)) rfl ?_
  have r53 := i32_R (xs ((i + 1).toNat))
  refine go_smpq PM267 (L' := [some (.inr (.inr (some 3000))), some (.inr (.inr (some 0))), some (.inr (.inr (some 79))), some (.inl i)]) (st' := [.inl ((xs ((i + 1).toNat)).toInt), .inr (.inr (some 79))]) (w' := (SH, dt3)) rfl rfl (s_iald (n := L) (f := fun j => (xs j).toInt) (am_scr hLL) ⟨by omega, by omega⟩) ?_
  refine go_callq PM267 PM221 (Q' := _) rfl rfl rfl rfl (sp_X6_fewest L xs sio (d + 32) dt3 hI4 hM7  ((xs ((i + 1).toNat)).toInt) ⟨by omega, by omega⟩ ) ?_
  rintro _ _ ⟨dt55, rfl, hI56, hF57, h54⟩
  refine ⟨rfl, ?_⟩
  have hF58 : Fr [0, 1, 2, 3, 4, 5, 6, 7, 8, 9, 10, 11, 12, 13, 14, 15, 16, 17, 18, 19, 20, 21, 22, 23, 24, 25, 26, 27, 28, 29, 30, 31, 32, 33, 34, 35, 36, 37, 38, 39, 40, 41, 42, 43, 44, 45, 46, 47, 48, 49, 50, 51, 52, 53, 54, 55, 56, 57, 58, 59, 60, 61, 62, 63, 64, 65, 66, 67, 68, 69, 70, 71, 72, 73, 74, 75, 76, 77, 78, 79, 80, 81, 82, 83, 84, 85, 86, 87, 88, 89, 90, 91, 92, 93, 94, 95, 96, 97, 98, 99, 100, 101, 102, 103, 104] dt dt55 := Fr_tr hF6 hF57 (by decide)
  have hM59 : MW (dt55 80) := MW_fr hM7 hF57 (by decide)
  have w60 : dt55 1 0 = dt 1 0 := (hF57 1 (by decide) 0).trans w8
  have w61 : dt55 7 3 = dt 7 3 := (hF57 7 (by decide) 3).trans w9
  have w62 : dt55 10 3 = dt 10 3 := (hF57 10 (by decide) 3).trans w10
  have w63 : dt55 12 3 = dt 12 3 := (hF57 12 (by decide) 3).trans w11
  have w64 : dt55 14 3 = dt 14 3 := (hF57 14 (by decide) 3).trans w12
  have w65 : dt55 16 3 = dt 16 3 := (hF57 16 (by decide) 3).trans w13
  have w66 : dt55 18 0 = dt 18 0 := (hF57 18 (by decide) 0).trans w14
  have w67 : dt55 24 3 = dt 24 3 := (hF57 24 (by decide) 3).trans w15
  have w68 : dt55 27 3 = dt 27 3 := (hF57 27 (by decide) 3).trans w16
  have w69 : dt55 29 3 = dt 29 3 := (hF57 29 (by decide) 3).trans w17
  have w70 : dt55 31 3 = dt 31 3 := (hF57 31 (by decide) 3).trans w18
  have w71 : dt55 33 3 = dt 33 3 := (hF57 33 (by decide) 3).trans w19
  have w72 : dt55 0 2 = dt 0 2 := (hF57 0 (by decide) 2).trans w20
  have w73 : dt55 35 1 = dt 35 1 := (hF57 35 (by decide) 1).trans w21
  have w74 : dt55 35 2 = dt 35 2 := (hF57 35 (by decide) 2).trans w22
  have w75 : dt55 35 3 = dt 35 3 := (hF57 35 (by decide) 3).trans w23
  have w76 : dt55 80 0 = dt 80 0 := (hF57 80 (by decide) 0).trans w24
  have w77 : dt55 80 1 = dt 80 1 := (hF57 80 (by decide) 1).trans w25
  have w78 : dt55 80 2 = dt 80 2 := (hF57 80 (by decide) 2).trans w26
  have w79 : dt55 80 3 = dt 80 3 := (hF57 80 (by decide) 3).trans w27
  have w80 : dt55 80 4 = dt 80 4 := (hF57 80 (by decide) 4).trans w28
  have w81 : dt55 80 5 = dt 80 5 := (hF57 80 (by decide) 5).trans w29
  have w82 : dt55 81 0 = dt 81 0 := (hF57 81 (by decide) 0).trans w30
  have w83 : dt55 81 1 = dt 81 1 := (hF57 81 (by decide) 1).trans w31
  have w84 : dt55 81 2 = dt 81 2 := (hF57 81 (by decide) 2).trans w32
  have w85 : dt55 81 3 = dt 81 3 := (hF57 81 (by decide) 3).trans w33
  have w86 : dt55 81 4 = dt 81 4 := (hF57 81 (by decide) 4).trans w34
  have w87 : dt55 81 5 = dt 81 5 := (hF57 81 (by decide) 5).trans w35
  have w88 : dt55 79 2 = dt 79 2 := (hF57 79 (by decide) 2).trans w36
  have w89 : dt55 79 12 = dt 79 12 := (hF57 79 (by decide) 12).trans w37
  have w90 : dt55 79 19 = dt 79 19 := (hF57 79 (by decide) 19).trans w38
  have w91 : dt55 79 21 = dt 79 21 := (hF57 79 (by decide) 21).trans w39
  rcases h54 with ⟨v_h54, rfl, h54r, h54⟩
  have M292 : MW (dt55 81) := MW_frk M240 hF57 (by decide)
  have C93 : ∀ j : Nat, dt55 2 j = dt 2 j := fun j => (hF57 2 (by decide) j).trans (C41 j)
  have C94 : ∀ j : Nat, dt55 3 j = dt 3 j := fun j => (hF57 3 (by decide) j).trans (C42 j)
  have C95 : ∀ j : Nat, dt55 19 j = dt 19 j := fun j => (hF57 19 (by decide) j).trans (C43 j)
  have C96 : ∀ j : Nat, dt55 20 j = dt 20 j := fun j => (hF57 20 (by decide) j).trans (C44 j)
  have C97 : ∀ j : Nat, dt55 8 j = dt 8 j := fun j => (hF57 8 (by decide) j).trans (C45 j)
  have C98 : ∀ j : Nat, dt55 25 j = dt 25 j := fun j => (hF57 25 (by decide) j).trans (C46 j)
  have C99 : ∀ j : Nat, dt55 9 j = dt 9 j := fun j => (hF57 9 (by decide) j).trans (C47 j)
  have C100 : ∀ j : Nat, dt55 26 j = dt 26 j := fun j => (hF57 26 (by decide) j).trans (C48 j)
  have C101 : ∀ j : Nat, dt55 36 j = dt 36 j := fun j => (hF57 36 (by decide) j).trans (C49 j)
  have C102 : ∀ j : Nat, dt55 80 j = dt 80 j := fun j => (hF57 80 (by decide) j).trans (C50 j)
  have C103 : ∀ j : Nat, dt55 81 j = dt 81 j := fun j => (hF57 81 (by decide) j).trans (C51 j)
  have C104 : ∀ j : Nat, dt55 85 j = dt 85 j := fun j => (hF57 85 (by decide) j).trans (C52 j)
  refine go_toq PM267 (k := 2) (pc' := 1435) (L' := [some (.inr (.inr (some 3000))), some (.inr (.inr (some 0))), some (.inr (.inr (some 79))), some (.inl i)]) (st' := []) (w' := (SH, dt55)) rfl ?_
  exact K dt55 hI56 hM59 M292 (w60.trans (hk0.trans w76.symm)) (w61.trans (hk1.trans w77.symm)) (w62.trans (hk2.trans w78.symm)) (w63.trans (hk3.trans w79.symm)) (w64.trans (hk4.trans w80.symm)) (w65.trans (hk5.trans w81.symm)) (w66.trans (hk6.trans w82.symm)) (w67.trans (hk7.trans w83.symm)) (w68.trans (hk8.trans w84.symm)) (w69.trans (hk9.trans w85.symm)) (w70.trans (hk10.trans w86.symm)) (w71.trans (hk11.trans w87.symm)) (w72.trans (hk12.trans w88.symm)) (w73.trans (hk13.trans w89.symm)) (w74.trans (hk14.trans w90.symm)) (w75.trans (hk15.trans w91.symm)) (by first | exact hI | exact TPL_k hd0 C101 C104 (by omega) | (exfalso; omega)) (by first | exact hI | exact SCL_k hd1 hM (fun j _ => C93 j) (fun j _ => C94 j) (fun j _ _ => C102 j) | (exfalso; omega)) (by first | exact hI | exact SCL_k hd2 hM2 (fun j _ => C95 j) (fun j _ => C96 j) (fun j _ _ => C103 j) | (exfalso; omega)) (by first | exact hI | exact QRL_k hd3 hM (fun j _ => C97 j) (C102 1) (fun j _ _ => C102 j) | (exfalso; omega)) (by first | exact hI | exact QRL_k hd4 hM2 (fun j _ => C98 j) (C103 1) (fun j _ _ => C103 j) | (exfalso; omega)) (by first | exact hI | exact SDL_k hd5 hM (fun j _ => C99 j) (C102 1) (fun j _ _ => C102 j) (fun j _ _ => C102 j) | (exfalso; omega)) (by first | exact hI | exact SDL_k hd6 hM2 (fun j _ => C100 j) (C103 1) (fun j _ _ => C103 j) (fun j _ _ => C103 j) | (exfalso; omega))
set_option maxRecDepth 20000 in
set_option maxHeartbeats 8000000 in
theorem sp_case18 (L : Nat) (xs : Nat → Int32) (sio : Option Nat) (d : Nat) (Q : Option AV → am_W → Prop) (hLL : L ≤ 3072) (i : Int) (hi : 0 ≤ i ∧ i ≤ 3066) (hil : i ≤ (L : Int) - 6) (dt : Nat → Nat → Int) (hI : InvC dt) (hM : MW (dt 80)) (hM2 : MW (dt 81)) (hk0 : dt 1 0 = dt 80 0) (hk1 : dt 7 3 = dt 80 1) (hk2 : dt 10 3 = dt 80 2) (hk3 : dt 12 3 = dt 80 3) (hk4 : dt 14 3 = dt 80 4) (hk5 : dt 16 3 = dt 80 5) (hk6 : dt 18 0 = dt 81 0) (hk7 : dt 24 3 = dt 81 1) (hk8 : dt 27 3 = dt 81 2) (hk9 : dt 29 3 = dt 81 3) (hk10 : dt 31 3 = dt 81 4) (hk11 : dt 33 3 = dt 81 5) (hk12 : dt 0 2 = dt 79 2) (hk13 : dt 35 1 = dt 79 12) (hk14 : dt 35 2 = dt 79 19) (hk15 : dt 35 3 = dt 79 21) (hd0 : TPL (dt 36) (dt 85) (dt 35 1)) (hd1 : SCL (dt 2) (dt 3) (dt 80)) (hd2 : SCL (dt 19) (dt 20) (dt 81)) (hd3 : QRL (dt 8) (dt 80)) (hd4 : QRL (dt 25) (dt 81)) (hd5 : SDL (dt 9) (dt 80)) (hd6 : SDL (dt 26) (dt 81)) (K : ∀ (dt : Nat → Nat → Int) (hI : InvC dt) (hM : MW (dt 80)) (hM2 : MW (dt 81)) (hk0 : dt 1 0 = dt 80 0) (hk1 : dt 7 3 = dt 80 1) (hk2 : dt 10 3 = dt 80 2) (hk3 : dt 12 3 = dt 80 3) (hk4 : dt 14 3 = dt 80 4) (hk5 : dt 16 3 = dt 80 5) (hk6 : dt 18 0 = dt 81 0) (hk7 : dt 24 3 = dt 81 1) (hk8 : dt 27 3 = dt 81 2) (hk9 : dt 29 3 = dt 81 3) (hk10 : dt 31 3 = dt 81 4) (hk11 : dt 33 3 = dt 81 5) (hk12 : dt 0 2 = dt 79 2) (hk13 : dt 35 1 = dt 79 12) (hk14 : dt 35 2 = dt 79 19) (hk15 : dt 35 3 = dt 79 21) (hd0 : TPL (dt 36) (dt 85) (dt 35 1)) (hd1 : SCL (dt 2) (dt 3) (dt 80)) (hd2 : SCL (dt 19) (dt 20) (dt 81)) (hd3 : QRL (dt 8) (dt 80)) (hd4 : QRL (dt 25) (dt 81)) (hd5 : SDL (dt 9) (dt 80)) (hd6 : SDL (dt 26) (dt 81)), GO (am_XX L xs sio) (d + 39) 267 1435 [some (.inr (.inr (some 3000))), some (.inr (.inr (some 0))), some (.inr (.inr (some 79))), some (.inl i)] [] (SH, dt) Q) : GO (am_XX L xs sio) (d + 39) 267 944 [some (.inr (.inr (some 3000))), some (.inr (.inr (some 0))), some (.inr (.inr (some 79))), some (.inl i)] [] (SH, dt) Q := by
  have hF : Fr [0, 1, 2, 3, 4, 5, 6, 7, 8, 9, 10, 11, 12, 13, 14, 15, 16, 17, 18, 19, 20, 21, 22, 23, 24, 25, 26, 27, 28, 29, 30, 31, 32, 33, 34, 35, 36, 37, 38, 39, 40, 41, 42, 43, 44, 45, 46, 47, 48, 49, 50, 51, 52, 53, 54, 55, 56, 57, 58, 59, 60, 61, 62, 63, 64, 65, 66, 67, 68, 69, 70, 71, 72, 73, 74, 75, 76, 77, 78, 79, 80, 81, 82, 83, 84, 85, 86, 87, 88, 89, 90, 91, 92, 93, 94, 95, 96, 97, 98, 99, 100, 101, 102, 103, 104] dt dt := Fr_refl
  have hqo := QOC_R hd3 hM hk1
  have hb1_ := hM.1.1
  refine go_toq PM267 (k := 5) (pc' := 949) (L' := [some (.inr (.inr (some 3000))), some (.inr (.inr (some 0))), some (.inr (.inr (some 79))), some (.inl i)]) (st' := [.inl (i + 1), .inr (.inr (some 3000)), .inr (.inr (some 0))]) (w' := (SH, dt)) rfl ?_
  have r1 := i32_R (xs ((i + 1).toNat))
  refine go_smpq PM267 (L' := [some (.inr (.inr (some 3000))), some (.inr (.inr (some 0))), some (.inr (.inr (some 79))), some (.inl i)]) (st' := [.inl ((xs ((i + 1).toNat)).toInt), .inr (.inr (some 0))]) (w' := (SH, dt)) rfl rfl (s_iald (n := L) (f := fun j => (xs j).toInt) (am_scr hLL) ⟨by omega, by omega⟩) ?_
  refine go_toq PM267 (k := 4) (pc' := 954) (L' := [some (.inr (.inr (some 3000))), some (.inr (.inr (some 0))), some (.inr (.inr (some 79))), some (.inl i)]) (st' := [.inl (i + 2), .inr (.inr (some 3000)), .inl ((xs ((i + 1).toNat)).toInt), .inr (.inr (some 0))]) (w' := (SH, dt)) rfl ?_
  have r2 := i32_R (xs ((i + 2).toNat))
  refine go_smpq PM267 (L' := [some (.inr (.inr (some 3000))), some (.inr (.inr (some 0))), some (.inr (.inr (some 79))), some (.inl i)]) (st' := [.inl ((xs ((i + 2).toNat)).toInt), .inl ((xs ((i + 1).toNat)).toInt), .inr (.inr (some 0))]) (w' := (SH, dt)) rfl rfl (s_iald (n := L) (f := fun j => (xs j).toInt) (am_scr hLL) ⟨by omega, by omega⟩) ?_
  refine go_toq PM267 (k := 4) (pc' := 959) (L' := [some (.inr (.inr (some 3000))), some (.inr (.inr (some 0))), some (.inr (.inr (some 79))), some (.inl i)]) (st' := [.inl (i + 3), .inr (.inr (some 3000)), .inl ((xs ((i + 2).toNat)).toInt), .inl ((xs ((i + 1).toNat)).toInt), .inr (.inr (some 0))]) (w' := (SH, dt)) rfl ?_
  have r3 := i32_R (xs ((i + 3).toNat))
  refine go_smpq PM267 (L' := [some (.inr (.inr (some 3000))), some (.inr (.inr (some 0))), some (.inr (.inr (some 79))), some (.inl i)]) (st' := [.inl ((xs ((i + 3).toNat)).toInt), .inl ((xs ((i + 2).toNat)).toInt), .inl ((xs ((i + 1).toNat)).toInt), .inr (.inr (some 0))]) (w' := (SH, dt)) rfl rfl (s_iald (n := L) (f := fun j => (xs j).toInt) (am_scr hLL) ⟨by omega, by omega⟩) ?_
  refine go_callq PM267 PM85 (Q' := _) rfl rfl rfl rfl (sp_X5_make L xs sio (d + 32) dt hI  ((xs ((i + 1).toNat)).toInt) ⟨by omega, by omega⟩ ((xs ((i + 2).toNat)).toInt) ⟨by omega, by omega⟩ ((xs ((i + 3).toNat)).toInt) ⟨by omega, by omega⟩ ) ?_
  rintro _ _ ⟨dt5, rfl, hI6, hF7, h4⟩
  refine ⟨rfl, ?_⟩
  have hF8 : Fr [0, 1, 2, 3, 4, 5, 6, 7, 8, 9, 10, 11, 12, 13, 14, 15, 16, 17, 18, 19, 20, 21, 22, 23, 24, 25, 26, 27, 28, 29, 30, 31, 32, 33, 34, 35, 36, 37, 38, 39, 40, 41, 42, 43, 44, 45, 46, 47, 48, 49, 50, 51, 52, 53, 54, 55, 56, 57, 58, 59, 60, 61, 62, 63, 64, 65, 66, 67, 68, 69, 70, 71, 72, 73, 74, 75, 76, 77, 78, 79, 80, 81, 82, 83, 84, 85, 86, 87, 88, 89, 90, 91, 92, 93, 94, 95, 96, 97, 98, 99, 100, 101, 102, 103, 104] dt dt5 := Fr_tr hF hF7 (by decide)
  have hM9 : MW (dt5 80) := MW_fr hM hF7 (by decide)
  have w10 : dt5 1 0 = dt 1 0 := hF7 1 (by decide) 0
  have w11 : dt5 7 3 = dt 7 3 := hF7 7 (by decide) 3
  have w12 : dt5 10 3 = dt 10 3 := hF7 10 (by decide) 3
  have w13 : dt5 12 3 = dt 12 3 := hF7 12 (by decide) 3
  have w14 : dt5 14 3 = dt 14 3 := hF7 14 (by decide) 3
  have w15 : dt5 16 3 = dt 16 3 := hF7 16 (by decide) 3
  have w16 : dt5 18 0 = dt 18 0 := hF7 18 (by decide) 0
  have w17 : dt5 24 3 = dt 24 3 := hF7 24 (by decide) 3
  have w18 : dt5 27 3 = dt 27 3 := hF7 27 (by decide) 3
  have w19 : dt5 29 3 = dt 29 3 := hF7 29 (by decide) 3
  have w20 : dt5 31 3 = dt 31 3 := hF7 31 (by decide) 3
  have w21 : dt5 33 3 = dt 33 3 := hF7 33 (by decide) 3
  have w22 : dt5 0 2 = dt 0 2 := hF7 0 (by decide) 2
  have w23 : dt5 35 1 = dt 35 1 := hF7 35 (by decide) 1
  have w24 : dt5 35 2 = dt 35 2 := hF7 35 (by decide) 2
  have w25 : dt5 35 3 = dt 35 3 := hF7 35 (by decide) 3
  have w26 : dt5 80 0 = dt 80 0 := hF7 80 (by decide) 0
  have w27 : dt5 80 1 = dt 80 1 := hF7 80 (by decide) 1
  have w28 : dt5 80 2 = dt 80 2 := hF7 80 (by decide) 2
  have w29 : dt5 80 3 = dt 80 3 := hF7 80 (by decide) 3
  have w30 : dt5 80 4 = dt 80 4 := hF7 80 (by decide) 4
  have w31 : dt5 80 5 = dt 80 5 := hF7 80 (by decide) 5
  have w32 : dt5 81 0 = dt 81 0 := hF7 81 (by decide) 0
  have w33 : dt5 81 1 = dt 81 1 := hF7 81 (by decide) 1
  have w34 : dt5 81 2 = dt 81 2 := hF7 81 (by decide) 2
  have w35 : dt5 81 3 = dt 81 3 := hF7 81 (by decide) 3
  have w36 : dt5 81 4 = dt 81 4 := hF7 81 (by decide) 4
  have w37 : dt5 81 5 = dt 81 5 := hF7 81 (by decide) 5
  have w38 : dt5 79 2 = dt 79 2 := hF7 79 (by decide) 2
  have w39 : dt5 79 12 = dt 79 12 := hF7 79 (by decide) 12
  have w40 : dt5 79 19 = dt 79 19 := hF7 79 (by decide) 19
  have w41 : dt5 79 21 = dt 79 21 := hF7 79 (by decide) 21
  rcases h4 with ⟨v_h4, rfl, h4r, h4⟩
  have M242 : MW (dt5 81) := MW_frk hM2 hF7 (by decide)
  have C43 : ∀ j : Nat, dt5 2 j = dt 2 j := fun j => (hF7 2 (by decide) j).trans ((fun _ => rfl) j)
  have C44 : ∀ j : Nat, dt5 3 j = dt 3 j := fun j => (hF7 3 (by decide) j).trans ((fun _ => rfl) j)
  have C45 : ∀ j : Nat, dt5 19 j = dt 19 j := fun j => (hF7 19 (by decide) j).trans ((fun _ => rfl) j)
  have C46 : ∀ j : Nat, dt5 20 j = dt 20 j := fun j => (hF7 20 (by decide) j).trans ((fun _ => rfl) j)
  have C47 : ∀ j : Nat, dt5 8 j = dt 8 j := fun j => (hF7 8 (by decide) j).trans ((fun _ => rfl) j)
  have C48 : ∀ j : Nat, dt5 25 j = dt 25 j := fun j => (hF7 25 (by decide) j).trans ((fun _ => rfl) j)
  have C49 : ∀ j : Nat, dt5 9 j = dt 9 j := fun j => (hF7 9 (by decide) j).trans ((fun _ => rfl) j)
  have C50 : ∀ j : Nat, dt5 26 j = dt 26 j := fun j => (hF7 26 (by decide) j).trans ((fun _ => rfl) j)
  have C51 : ∀ j : Nat, dt5 36 j = dt 36 j := fun j => (hF7 36 (by decide) j).trans ((fun _ => rfl) j)
  have C52 : ∀ j : Nat, dt5 80 j = dt 80 j := fun j => (hF7 80 (by decide) j).trans ((fun _ => rfl) j)
  have C53 : ∀ j : Nat, dt5 81 j = dt 81 j := fun j => (hF7 81 (by decide) j).trans ((fun _ => rfl) j)
  have C54 : ∀ j : Nat, dt5 85 j = dt 85 j := fun j => (hF7 85 (by decide) j).trans ((fun _ => rfl) j)
  refine go_toq PM267 (k := 6) (pc' := 969) (L' := [some (.inr (.inr (some 3000))), some (.inr (.inr (some 0))), some (.inr (.inr (some 79))), some (.inl i)]) (st' := [.inl (i + 1), .inr (.inr (some 3000)), .inr (.inr (some 79))]) (w' := (SH, dt5)) rfl ?_
  have r55 := i32_R (xs ((i + 1).toNat))
  refine go_smpq PM267 (L' := [some (.inr (.inr (some 3000))), some (.inr (.inr (some 0))), some (.inr (.inr (some 79))), some (.inl i)]) (st' := [.inl ((xs ((i + 1).toNat)).toInt), .inr (.inr (some 79))]) (w' := (SH, dt5)) rfl rfl (s_iald (n := L) (f := fun j => (xs j).toInt) (am_scr hLL) ⟨by omega, by omega⟩) ?_
  refine go_toq PM267 (k := 4) (pc' := 974) (L' := [some (.inr (.inr (some 3000))), some (.inr (.inr (some 0))), some (.inr (.inr (some 79))), some (.inl i)]) (st' := [.inl (i + 2), .inr (.inr (some 3000)), .inl ((xs ((i + 1).toNat)).toInt), .inr (.inr (some 79))]) (w' := (SH, dt5)) rfl ?_
  have r56 := i32_R (xs ((i + 2).toNat))
  refine go_smpq PM267 (L' := [some (.inr (.inr (some 3000))), some (.inr (.inr (some 0))), some (.inr (.inr (some 79))), some (.inl i)]) (st' := [.inl ((xs ((i + 2).toNat)).toInt), .inl ((xs ((i + 1).toNat)).toInt), .inr (.inr (some 79))]) (w' := (SH, dt5)) rfl rfl (s_iald (n := L) (f := fun j => (xs j).toInt) (am_scr hLL) ⟨by omega, by omega⟩) ?_
  refine go_toq PM267 (k := 4) (pc' := 979) (L' := [some (.inr (.inr (some 3000))), some (.inr (.inr (some 0))), some (.inr (.inr (some 79))), some (.inl i)]) (st' := [.inl (i + 3), .inr (.inr (some 3000)), .inl ((xs ((i + 2).toNat)).toInt), .inl ((xs ((i + 1).toNat)).toInt), .inr (.inr (some 79))]) (w' := (SH, dt5)) rfl ?_
  have r57 := i32_R (xs ((i + 3).toNat))
  refine go_smpq PM267 (L' := [some (.inr (.inr (some 3000))), some (.inr (.inr (some 0))), some (.inr (.inr (some 79))), some (.inl i)]) (st' := [.inl ((xs ((i + 3).toNat)).toInt), .inl ((xs ((i + 2).toNat)).toInt), .inl ((xs ((i + 1).toNat)).toInt), .inr (.inr (some 79))]) (w' := (SH, dt5)) rfl rfl (s_iald (n := L) (f := fun j => (xs j).toInt) (am_scr hLL) ⟨by omega, by omega⟩) ?_
  refine go_callq PM267 PM223 (Q' := _) rfl rfl rfl rfl (sp_X6_make L xs sio (d + 32) dt5 hI6 hM9  ((xs ((i + 1).toNat)).toInt) ⟨by omega, by omega⟩ ((xs ((i + 2).toNat)).toInt) ⟨by omega, by omega⟩ ((xs ((i + 3).toNat)).toInt) ⟨by omega, by omega⟩ ) ?_
  rintro _ _ ⟨dt59, rfl, hI60, hF61, h58⟩
  refine ⟨rfl, ?_⟩
  have hF62 : Fr [0, 1, 2, 3, 4, 5, 6, 7, 8, 9, 10, 11, 12, 13, 14, 15, 16, 17, 18, 19, 20, 21, 22, 23, 24, 25, 26, 27, 28, 29, 30, 31, 32, 33, 34, 35, 36, 37, 38, 39, 40, 41, 42, 43, 44, 45, 46, 47, 48, 49, 50, 51, 52, 53, 54, 55, 56, 57, 58, 59, 60, 61, 62, 63, 64, 65, 66, 67, 68, 69, 70, 71, 72, 73, 74, 75, 76, 77, 78, 79, 80, 81, 82, 83, 84, 85, 86, 87, 88, 89, 90, 91, 92, 93, 94, 95, 96, 97, 98, 99, 100, 101, 102, 103, 104] dt dt59 := Fr_tr hF8 hF61 (by decide)
  have hM63 : MW (dt59 80) := MW_fr hM9 hF61 (by decide)
  have w64 : dt59 1 0 = dt 1 0 := (hF61 1 (by decide) 0).trans w10
  have w65 : dt59 7 3 = dt 7 3 := (hF61 7 (by decide) 3).trans w11
  have w66 : dt59 10 3 = dt 10 3 := (hF61 10 (by decide) 3).trans w12
  have w67 : dt59 12 3 = dt 12 3 := (hF61 12 (by decide) 3).trans w13
  have w68 : dt59 14 3 = dt 14 3 := (hF61 14 (by decide) 3).trans w14
  have w69 : dt59 16 3 = dt 16 3 := (hF61 16 (by decide) 3).trans w15
  have w70 : dt59 18 0 = dt 18 0 := (hF61 18 (by decide) 0).trans w16
  have w71 : dt59 24 3 = dt 24 3 := (hF61 24 (by decide) 3).trans w17
  have w72 : dt59 27 3 = dt 27 3 := (hF61 27 (by decide) 3).trans w18
  have w73 : dt59 29 3 = dt 29 3 := (hF61 29 (by decide) 3).trans w19
  have w74 : dt59 31 3 = dt 31 3 := (hF61 31 (by decide) 3).trans w20
  have w75 : dt59 33 3 = dt 33 3 := (hF61 33 (by decide) 3).trans w21
  have w76 : dt59 0 2 = dt 0 2 := (hF61 0 (by decide) 2).trans w22
  have w77 : dt59 35 1 = dt 35 1 := (hF61 35 (by decide) 1).trans w23
  have w78 : dt59 35 2 = dt 35 2 := (hF61 35 (by decide) 2).trans w24
  have w79 : dt59 35 3 = dt 35 3 := (hF61 35 (by decide) 3).trans w25
  have w80 : dt59 80 0 = dt 80 0 := (hF61 80 (by decide) 0).trans w26
  have w81 : dt59 80 1 = dt 80 1 := (hF61 80 (by decide) 1).trans w27
  have w82 : dt59 80 2 = dt 80 2 := (hF61 80 (by decide) 2).trans w28
  have w83 : dt59 80 3 = dt 80 3 := (hF61 80 (by decide) 3).trans w29
  have w84 : dt59 80 4 = dt 80 4 := (hF61 80 (by decide) 4).trans w30
  have w85 : dt59 80 5 = dt 80 5 := (hF61 80 (by decide) 5).trans w31
  have w86 : dt59 81 0 = dt 81 0 := (hF61 81 (by decide) 0).trans w32
  have w87 : dt59 81 1 = dt 81 1 := (hF61 81 (by decide) 1).trans w33
  have w88 : dt59 81 2 = dt 81 2 := (hF61 81 (by decide) 2).trans w34
  have w89 : dt59 81 3 = dt 81 3 := (hF61 81 (by decide) 3).trans w35
  have w90 : dt59 81 4 = dt 81 4 := (hF61 81 (by decide) 4).trans w36
  have w91 : dt59 81 5 = dt 81 5 := (hF61 81 (by decide) 5).trans w37
  have w92 : dt59 79 2 = dt 79 2 := (hF61 79 (by decide) 2).trans w38
  have w93 : dt59 79 12 = dt 79 12 := (hF61 79 (by decide) 12).trans w39
  have w94 : dt59 79 19 = dt 79 19 := (hF61 79 (by decide) 19).trans w40
  have w95 : dt59 79 21 = dt 79 21 := (hF61 79 (by decide) 21).trans w41
  rcases h58 with ⟨v_h58, rfl, h58r, h58⟩
  have M296 : MW (dt59 81) := MW_frk M242 hF61 (by decide)
  have C97 : ∀ j : Nat, dt59 2 j = dt 2 j := fun j => (hF61 2 (by decide) j).trans (C43 j)
  have C98 : ∀ j : Nat, dt59 3 j = dt 3 j := fun j => (hF61 3 (by decide) j).trans (C44 j)
  have C99 : ∀ j : Nat, dt59 19 j = dt 19 j := fun j => (hF61 19 (by decide) j).trans (C45 j)
  have C100 : ∀ j : Nat, dt59 20 j = dt 20 j := fun j => (hF61 20 (by decide) j).trans (C46 j)
  have C101 : ∀ j : Nat, dt59 8 j = dt 8 j := fun j => (hF61 8 (by decide) j).trans (C47 j)
  have C102 : ∀ j : Nat, dt59 25 j = dt 25 j := fun j => (hF61 25 (by decide) j).trans (C48 j)
  have C103 : ∀ j : Nat, dt59 9 j = dt 9 j := fun j => (hF61 9 (by decide) j).trans (C49 j)
  have C104 : ∀ j : Nat, dt59 26 j = dt 26 j := fun j => (hF61 26 (by decide) j).trans (C50 j)
  have C105 : ∀ j : Nat, dt59 36 j = dt 36 j := fun j => (hF61 36 (by decide) j).trans (C51 j)
  have C106 : ∀ j : Nat, dt59 80 j = dt 80 j := fun j => (hF61 80 (by decide) j).trans (C52 j)
  have C107 : ∀ j : Nat, dt59 81 j = dt 81 j := fun j => (hF61 81 (by decide) j).trans (C53 j)
  have C108 : ∀ j : Nat, dt59 85 j = dt 85 j := fun j => (hF61 85 (by decide) j).trans (C54 j)
  refine go_toq PM267 (k := 2) (pc' := 1435) (L' := [some (.inr (.inr (some 3000))), some (.inr (.inr (some 0))), some (.inr (.inr (some 79))), some (.inl i)]) (st' := []) (w' := (SH, dt59)) rfl ?_
  exact K dt59 hI60 hM63 M296 (w64.trans (hk0.trans w80.symm)) (w65.trans (hk1.trans w81.symm)) (w66.trans (hk2.trans w82.symm)) (w67.trans (hk3.trans w83.symm)) (w68.trans (hk4.trans w84.symm)) (w69.trans (hk5.trans w85.symm)) (w70.trans (hk6.trans w86.symm)) (w71.trans (hk7.trans w87.symm)) (w72.trans (hk8.trans w88.symm)) (w73.trans (hk9.trans w89.symm)) (w74.trans (hk10.trans w90.symm)) (w75.trans (hk11.trans w91.symm)) (w76.trans (hk12.trans w92.symm)) (w77.trans (hk13.trans w93.symm)) (w78.trans (hk14.trans w94.symm)) (w79.trans (hk15.trans w95.symm)) (by first | exact hI | exact TPL_k hd0 C105 C108 (by omega) | (exfalso; omega)) (by first | exact hI | exact SCL_k hd1 hM (fun j _ => C97 j) (fun j _ => C98 j) (fun j _ _ => C106 j) | (exfalso; omega)) (by first | exact hI | exact SCL_k hd2 hM2 (fun j _ => C99 j) (fun j _ => C100 j) (fun j _ _ => C107 j) | (exfalso; omega)) (by first | exact hI | exact QRL_k hd3 hM (fun j _ => C101 j) (C106 1) (fun j _ _ => C106 j) | (exfalso; omega)) (by first | exact hI | exact QRL_k hd4 hM2 (fun j _ => C102 j) (C107 1) (fun j _ _ => C107 j) | (exfalso; omega)) (by first | exact hI | exact SDL_k hd5 hM (fun j _ => C103 j) (C106 1) (fun j _ _ => C106 j) (fun j _ _ => C106 j) | (exfalso; omega)) (by first | exact hI | exact SDL_k hd6 hM2 (fun j _ => C104 j) (C107 1) (fun j _ _ => C107 j) (fun j _ _ => C107 j) | (exfalso; omega))
set_option maxRecDepth 20000 in
set_option maxHeartbeats 8000000 in
theorem sp_case19 (L : Nat) (xs : Nat → Int32) (sio : Option Nat) (d : Nat) (Q : Option AV → am_W → Prop) (hLL : L ≤ 3072) (i : Int) (hi : 0 ≤ i ∧ i ≤ 3066) (hil : i ≤ (L : Int) - 6) (dt : Nat → Nat → Int) (hI : InvC dt) (hM : MW (dt 80)) (hM2 : MW (dt 81)) (hk0 : dt 1 0 = dt 80 0) (hk1 : dt 7 3 = dt 80 1) (hk2 : dt 10 3 = dt 80 2) (hk3 : dt 12 3 = dt 80 3) (hk4 : dt 14 3 = dt 80 4) (hk5 : dt 16 3 = dt 80 5) (hk6 : dt 18 0 = dt 81 0) (hk7 : dt 24 3 = dt 81 1) (hk8 : dt 27 3 = dt 81 2) (hk9 : dt 29 3 = dt 81 3) (hk10 : dt 31 3 = dt 81 4) (hk11 : dt 33 3 = dt 81 5) (hk12 : dt 0 2 = dt 79 2) (hk13 : dt 35 1 = dt 79 12) (hk14 : dt 35 2 = dt 79 19) (hk15 : dt 35 3 = dt 79 21) (hd0 : TPL (dt 36) (dt 85) (dt 35 1)) (hd1 : SCL (dt 2) (dt 3) (dt 80)) (hd2 : SCL (dt 19) (dt 20) (dt 81)) (hd3 : QRL (dt 8) (dt 80)) (hd4 : QRL (dt 25) (dt 81)) (hd5 : SDL (dt 9) (dt 80)) (hd6 : SDL (dt 26) (dt 81)) (K : ∀ (dt : Nat → Nat → Int) (hI : InvC dt) (hM : MW (dt 80)) (hM2 : MW (dt 81)) (hk0 : dt 1 0 = dt 80 0) (hk1 : dt 7 3 = dt 80 1) (hk2 : dt 10 3 = dt 80 2) (hk3 : dt 12 3 = dt 80 3) (hk4 : dt 14 3 = dt 80 4) (hk5 : dt 16 3 = dt 80 5) (hk6 : dt 18 0 = dt 81 0) (hk7 : dt 24 3 = dt 81 1) (hk8 : dt 27 3 = dt 81 2) (hk9 : dt 29 3 = dt 81 3) (hk10 : dt 31 3 = dt 81 4) (hk11 : dt 33 3 = dt 81 5) (hk12 : dt 0 2 = dt 79 2) (hk13 : dt 35 1 = dt 79 12) (hk14 : dt 35 2 = dt 79 19) (hk15 : dt 35 3 = dt 79 21) (hd0 : TPL (dt 36) (dt 85) (dt 35 1)) (hd1 : SCL (dt 2) (dt 3) (dt 80)) (hd2 : SCL (dt 19) (dt 20) (dt 81)) (hd3 : QRL (dt 8) (dt 80)) (hd4 : QRL (dt 25) (dt 81)) (hd5 : SDL (dt 9) (dt 80)) (hd6 : SDL (dt 26) (dt 81)), GO (am_XX L xs sio) (d + 39) 267 1435 [some (.inr (.inr (some 3000))), some (.inr (.inr (some 0))), some (.inr (.inr (some 79))), some (.inl i)] [] (SH, dt) Q) : GO (am_XX L xs sio) (d + 39) 267 987 [some (.inr (.inr (some 3000))), some (.inr (.inr (some 0))), some (.inr (.inr (some 79))), some (.inl i)] [] (SH, dt) Q := by
  have hF : Fr [0, 1, 2, 3, 4, 5, 6, 7, 8, 9, 10, 11, 12, 13, 14, 15, 16, 17, 18, 19, 20, 21, 22, 23, 24, 25, 26, 27, 28, 29, 30, 31, 32, 33, 34, 35, 36, 37, 38, 39, 40, 41, 42, 43, 44, 45, 46, 47, 48, 49, 50, 51, 52, 53, 54, 55, 56, 57, 58, 59, 60, 61, 62, 63, 64, 65, 66, 67, 68, 69, 70, 71, 72, 73, 74, 75, 76, 77, 78, 79, 80, 81, 82, 83, 84, 85, 86, 87, 88, 89, 90, 91, 92, 93, 94, 95, 96, 97, 98, 99, 100, 101, 102, 103, 104] dt dt := Fr_refl
  have hqo := QOC_R hd3 hM hk1
  have hb1_ := hM.1.1
  refine go_toq PM267 (k := 5) (pc' := 992) (L' := [some (.inr (.inr (some 3000))), some (.inr (.inr (some 0))), some (.inr (.inr (some 79))), some (.inl i)]) (st' := [.inl (i + 1), .inr (.inr (some 3000)), .inr (.inr (some 0))]) (w' := (SH, dt)) rfl ?_
  have r1 := i32_R (xs ((i + 1).toNat))
  refine go_smpq PM267 (L' := [some (.inr (.inr (some 3000))), some (.inr (.inr (some 0))), some (.inr (.inr (some 79))), some (.inl i)]) (st' := [.inl ((xs ((i + 1).toNat)).toInt), .inr (.inr (some 0))]) (w' := (SH, dt)) rfl rfl (s_iald (n := L) (f := fun j => (xs j).toInt) (am_scr hLL) ⟨by omega, by omega⟩) ?_
  refine go_toq PM267 (k := 4) (pc' := 997) (L' := [some (.inr (.inr (some 3000))), some (.inr (.inr (some 0))), some (.inr (.inr (some 79))), some (.inl i)]) (st' := [.inl (i + 2), .inr (.inr (some 3000)), .inl ((xs ((i + 1).toNat)).toInt), .inr (.inr (some 0))]) (w' := (SH, dt)) rfl ?_
  have r2 := i32_R (xs ((i + 2).toNat))
  refine go_smpq PM267 (L' := [some (.inr (.inr (some 3000))), some (.inr (.inr (some 0))), some (.inr (.inr (some 79))), some (.inl i)]) (st' := [.inl ((xs ((i + 2).toNat)).toInt), .inl ((xs ((i + 1).toNat)).toInt), .inr (.inr (some 0))]) (w' := (SH, dt)) rfl rfl (s_iald (n := L) (f := fun j => (xs j).toInt) (am_scr hLL) ⟨by omega, by omega⟩) ?_
  refine go_callq PM267 PM86 (Q' := _) rfl rfl rfl rfl (sp_X5_odds L xs sio (d + 34) dt hI  ((xs ((i + 1).toNat)).toInt) ⟨by omega, by omega⟩ ((xs ((i + 2).toNat)).toInt) ⟨by omega, by omega⟩ ) ?_
  rintro _ _ ⟨dt4, rfl, hI5, hF6, h3⟩
  refine ⟨rfl, ?_⟩
  have hF7 : Fr [0, 1, 2, 3, 4, 5, 6, 7, 8, 9, 10, 11, 12, 13, 14, 15, 16, 17, 18, 19, 20, 21, 22, 23, 24, 25, 26, 27, 28, 29, 30, 31, 32, 33, 34, 35, 36, 37, 38, 39, 40, 41, 42, 43, 44, 45, 46, 47, 48, 49, 50, 51, 52, 53, 54, 55, 56, 57, 58, 59, 60, 61, 62, 63, 64, 65, 66, 67, 68, 69, 70, 71, 72, 73, 74, 75, 76, 77, 78, 79, 80, 81, 82, 83, 84, 85, 86, 87, 88, 89, 90, 91, 92, 93, 94, 95, 96, 97, 98, 99, 100, 101, 102, 103, 104] dt dt4 := Fr_tr hF hF6 (by decide)
  have hM8 : MW (dt4 80) := MW_fr hM hF6 (by decide)
  have w9 : dt4 1 0 = dt 1 0 := hF6 1 (by decide) 0
  have w10 : dt4 7 3 = dt 7 3 := hF6 7 (by decide) 3
  have w11 : dt4 10 3 = dt 10 3 := hF6 10 (by decide) 3
  have w12 : dt4 12 3 = dt 12 3 := hF6 12 (by decide) 3
  have w13 : dt4 14 3 = dt 14 3 := hF6 14 (by decide) 3
  have w14 : dt4 16 3 = dt 16 3 := hF6 16 (by decide) 3
  have w15 : dt4 18 0 = dt 18 0 := hF6 18 (by decide) 0
  have w16 : dt4 24 3 = dt 24 3 := hF6 24 (by decide) 3
  have w17 : dt4 27 3 = dt 27 3 := hF6 27 (by decide) 3
  have w18 : dt4 29 3 = dt 29 3 := hF6 29 (by decide) 3
  have w19 : dt4 31 3 = dt 31 3 := hF6 31 (by decide) 3
  have w20 : dt4 33 3 = dt 33 3 := hF6 33 (by decide) 3
  have w21 : dt4 0 2 = dt 0 2 := hF6 0 (by decide) 2
  have w22 : dt4 35 1 = dt 35 1 := hF6 35 (by decide) 1
  have w23 : dt4 35 2 = dt 35 2 := hF6 35 (by decide) 2
  have w24 : dt4 35 3 = dt 35 3 := hF6 35 (by decide) 3
  have w25 : dt4 80 0 = dt 80 0 := hF6 80 (by decide) 0
  have w26 : dt4 80 1 = dt 80 1 := hF6 80 (by decide) 1
  have w27 : dt4 80 2 = dt 80 2 := hF6 80 (by decide) 2
  have w28 : dt4 80 3 = dt 80 3 := hF6 80 (by decide) 3
  have w29 : dt4 80 4 = dt 80 4 := hF6 80 (by decide) 4
  have w30 : dt4 80 5 = dt 80 5 := hF6 80 (by decide) 5
  have w31 : dt4 81 0 = dt 81 0 := hF6 81 (by decide) 0
  have w32 : dt4 81 1 = dt 81 1 := hF6 81 (by decide) 1
  have w33 : dt4 81 2 = dt 81 2 := hF6 81 (by decide) 2
  have w34 : dt4 81 3 = dt 81 3 := hF6 81 (by decide) 3
  have w35 : dt4 81 4 = dt 81 4 := hF6 81 (by decide) 4
  have w36 : dt4 81 5 = dt 81 5 := hF6 81 (by decide) 5
  have w37 : dt4 79 2 = dt 79 2 := hF6 79 (by decide) 2
  have w38 : dt4 79 12 = dt 79 12 := hF6 79 (by decide) 12
  have w39 : dt4 79 19 = dt 79 19 := hF6 79 (by decide) 19
  have w40 : dt4 79 21 = dt 79 21 := hF6 79 (by decide) 21
  rcases h3 with ⟨v_h3, rfl, h3r, h3⟩
  have M241 : MW (dt4 81) := MW_frk hM2 hF6 (by decide)
  have C42 : ∀ j : Nat, dt4 2 j = dt 2 j := fun j => (hF6 2 (by decide) j).trans ((fun _ => rfl) j)
  have C43 : ∀ j : Nat, dt4 3 j = dt 3 j := fun j => (hF6 3 (by decide) j).trans ((fun _ => rfl) j)
  have C44 : ∀ j : Nat, dt4 19 j = dt 19 j := fun j => (hF6 19 (by decide) j).trans ((fun _ => rfl) j)
  have C45 : ∀ j : Nat, dt4 20 j = dt 20 j := fun j => (hF6 20 (by decide) j).trans ((fun _ => rfl) j)
  have C46 : ∀ j : Nat, dt4 8 j = dt 8 j := fun j => (hF6 8 (by decide) j).trans ((fun _ => rfl) j)
  have C47 : ∀ j : Nat, dt4 25 j = dt 25 j := fun j => (hF6 25 (by decide) j).trans ((fun _ => rfl) j)
  have C48 : ∀ j : Nat, dt4 9 j = dt 9 j := fun j => (hF6 9 (by decide) j).trans ((fun _ => rfl) j)
  have C49 : ∀ j : Nat, dt4 26 j = dt 26 j := fun j => (hF6 26 (by decide) j).trans ((fun _ => rfl) j)
  have C50 : ∀ j : Nat, dt4 36 j = dt 36 j := fun j => (hF6 36 (by decide) j).trans ((fun _ => rfl) j)
  have C51 : ∀ j : Nat, dt4 80 j = dt 80 j := fun j => (hF6 80 (by decide) j).trans ((fun _ => rfl) j)
  have C52 : ∀ j : Nat, dt4 81 j = dt 81 j := fun j => (hF6 81 (by decide) j).trans ((fun _ => rfl) j)
  have C53 : ∀ j : Nat, dt4 85 j = dt 85 j := fun j => (hF6 85 (by decide) j).trans ((fun _ => rfl) j)
  refine go_toq PM267 (k := 6) (pc' := 1007) (L' := [some (.inr (.inr (some 3000))), some (.inr (.inr (some 0))), some (.inr (.inr (some 79))), some (.inl i)]) (st' := [.inl (i + 1), .inr (.inr (some 3000)), .inr (.inr (some 79))]) (w' := (SH, dt4)) rfl ?_
  have r54 := i32_R (xs ((i + 1).toNat))
  refine go_smpq PM267 (L' := [some (.inr (.inr (some 3000))), some (.inr (.inr (some 0))), some (.inr (.inr (some 79))), some (.inl i)]) (st' := [.inl ((xs ((i + 1).toNat)).toInt), .inr (.inr (some 79))]) (w' := (SH, dt4)) rfl rfl (s_iald (n := L) (f := fun j => (xs j).toInt) (am_scr hLL) ⟨by omega, by omega⟩) ?_
  refine go_toq PM267 (k := 4) (pc' := 1012) (L' := [some (.inr (.inr (some 3000))), some (.inr (.inr (some 0))), some (.inr (.inr (some 79))), some (.inl i)]) (st' := [.inl (i + 2), .inr (.inr (some 3000)), .inl ((xs ((i + 1).toNat)).toInt), .inr (.inr (some 79))]) (w' := (SH, dt4)) rfl ?_
  have r55 := i32_R (xs ((i + 2).toNat))
  refine go_smpq PM267 (L' := [some (.inr (.inr (some 3000))), some (.inr (.inr (some 0))), some (.inr (.inr (some 79))), some (.inl i)]) (st' := [.inl ((xs ((i + 2).toNat)).toInt), .inl ((xs ((i + 1).toNat)).toInt), .inr (.inr (some 79))]) (w' := (SH, dt4)) rfl rfl (s_iald (n := L) (f := fun j => (xs j).toInt) (am_scr hLL) ⟨by omega, by omega⟩) ?_
  refine go_callq PM267 PM227 (Q' := _) rfl rfl rfl rfl (sp_X6_odds L xs sio (d + 31) dt4 hI5 hM8  ((xs ((i + 1).toNat)).toInt) ⟨by omega, by omega⟩ ((xs ((i + 2).toNat)).toInt) ⟨by omega, by omega⟩ ) ?_
  rintro _ _ ⟨dt57, rfl, hI58, hF59, h56⟩
  refine ⟨rfl, ?_⟩
  have hF60 : Fr [0, 1, 2, 3, 4, 5, 6, 7, 8, 9, 10, 11, 12, 13, 14, 15, 16, 17, 18, 19, 20, 21, 22, 23, 24, 25, 26, 27, 28, 29, 30, 31, 32, 33, 34, 35, 36, 37, 38, 39, 40, 41, 42, 43, 44, 45, 46, 47, 48, 49, 50, 51, 52, 53, 54, 55, 56, 57, 58, 59, 60, 61, 62, 63, 64, 65, 66, 67, 68, 69, 70, 71, 72, 73, 74, 75, 76, 77, 78, 79, 80, 81, 82, 83, 84, 85, 86, 87, 88, 89, 90, 91, 92, 93, 94, 95, 96, 97, 98, 99, 100, 101, 102, 103, 104] dt dt57 := Fr_tr hF7 hF59 (by decide)
  have hM61 : MW (dt57 80) := MW_fr hM8 hF59 (by decide)
  have w62 : dt57 1 0 = dt 1 0 := (hF59 1 (by decide) 0).trans w9
  have w63 : dt57 7 3 = dt 7 3 := (hF59 7 (by decide) 3).trans w10
  have w64 : dt57 10 3 = dt 10 3 := (hF59 10 (by decide) 3).trans w11
  have w65 : dt57 12 3 = dt 12 3 := (hF59 12 (by decide) 3).trans w12
  have w66 : dt57 14 3 = dt 14 3 := (hF59 14 (by decide) 3).trans w13
  have w67 : dt57 16 3 = dt 16 3 := (hF59 16 (by decide) 3).trans w14
  have w68 : dt57 18 0 = dt 18 0 := (hF59 18 (by decide) 0).trans w15
  have w69 : dt57 24 3 = dt 24 3 := (hF59 24 (by decide) 3).trans w16
  have w70 : dt57 27 3 = dt 27 3 := (hF59 27 (by decide) 3).trans w17
  have w71 : dt57 29 3 = dt 29 3 := (hF59 29 (by decide) 3).trans w18
  have w72 : dt57 31 3 = dt 31 3 := (hF59 31 (by decide) 3).trans w19
  have w73 : dt57 33 3 = dt 33 3 := (hF59 33 (by decide) 3).trans w20
  have w74 : dt57 0 2 = dt 0 2 := (hF59 0 (by decide) 2).trans w21
  have w75 : dt57 35 1 = dt 35 1 := (hF59 35 (by decide) 1).trans w22
  have w76 : dt57 35 2 = dt 35 2 := (hF59 35 (by decide) 2).trans w23
  have w77 : dt57 35 3 = dt 35 3 := (hF59 35 (by decide) 3).trans w24
  have w78 : dt57 80 0 = dt 80 0 := (hF59 80 (by decide) 0).trans w25
  have w79 : dt57 80 1 = dt 80 1 := (hF59 80 (by decide) 1).trans w26
  have w80 : dt57 80 2 = dt 80 2 := (hF59 80 (by decide) 2).trans w27
  have w81 : dt57 80 3 = dt 80 3 := (hF59 80 (by decide) 3).trans w28
  have w82 : dt57 80 4 = dt 80 4 := (hF59 80 (by decide) 4).trans w29
  have w83 : dt57 80 5 = dt 80 5 := (hF59 80 (by decide) 5).trans w30
  have w84 : dt57 81 0 = dt 81 0 := (hF59 81 (by decide) 0).trans w31
  have w85 : dt57 81 1 = dt 81 1 := (hF59 81 (by decide) 1).trans w32
  have w86 : dt57 81 2 = dt 81 2 := (hF59 81 (by decide) 2).trans w33
  have w87 : dt57 81 3 = dt 81 3 := (hF59 81 (by decide) 3).trans w34
  have w88 : dt57 81 4 = dt 81 4 := (hF59 81 (by decide) 4).trans w35
  have w89 : dt57 81 5 = dt 81 5 := (hF59 81 (by decide) 5).trans w36
  have w90 : dt57 79 2 = dt 79 2 := (hF59 79 (by decide) 2).trans w37
  have w91 : dt57 79 12 = dt 79 12 := (hF59 79 (by decide) 12).trans w38
  have w92 : dt57 79 19 = dt 79 19 := (hF59 79 (by decide) 19).trans w39
  have w93 : dt57 79 21 = dt 79 21 := (hF59 79 (by decide) 21).trans w40
  rcases h56 with ⟨v_h56, rfl, h56r, h56⟩
  have M294 : MW (dt57 81) := MW_frk M241 hF59 (by decide)
  have C95 : ∀ j : Nat, dt57 2 j = dt 2 j := fun j => (hF59 2 (by decide) j).trans (C42 j)
  have C96 : ∀ j : Nat, dt57 3 j = dt 3 j := fun j => (hF59 3 (by decide) j).trans (C43 j)
  have C97 : ∀ j : Nat, dt57 19 j = dt 19 j := fun j => (hF59 19 (by decide) j).trans (C44 j)
  have C98 : ∀ j : Nat, dt57 20 j = dt 20 j := fun j => (hF59 20 (by decide) j).trans (C45 j)
  have C99 : ∀ j : Nat, dt57 8 j = dt 8 j := fun j => (hF59 8 (by decide) j).trans (C46 j)
  have C100 : ∀ j : Nat, dt57 25 j = dt 25 j := fun j => (hF59 25 (by decide) j).trans (C47 j)
  have C101 : ∀ j : Nat, dt57 9 j = dt 9 j := fun j => (hF59 9 (by decide) j).trans (C48 j)
  have C102 : ∀ j : Nat, dt57 26 j = dt 26 j := fun j => (hF59 26 (by decide) j).trans (C49 j)
  have C103 : ∀ j : Nat, dt57 36 j = dt 36 j := fun j => (hF59 36 (by decide) j).trans (C50 j)
  have C104 : ∀ j : Nat, dt57 80 j = dt 80 j := fun j => (hF59 80 (by decide) j).trans (C51 j)
  have C105 : ∀ j : Nat, dt57 81 j = dt 81 j := fun j => (hF59 81 (by decide) j).trans (C52 j)
  have C106 : ∀ j : Nat, dt57 85 j = dt 85 j := fun j => (hF59 85 (by decide) j).trans (C53 j)
  refine go_toq PM267 (k := 2) (pc' := 1435) (L' := [some (.inr (.inr (some 3000))), some (.inr (.inr (some 0))), some (.inr (.inr (some 79))), some (.inl i)]) (st' := []) (w' := (SH, dt57)) rfl ?_
  exact K dt57 hI58 hM61 M294 (w62.trans (hk0.trans w78.symm)) (w63.trans (hk1.trans w79.symm)) (w64.trans (hk2.trans w80.symm)) (w65.trans (hk3.trans w81.symm)) (w66.trans (hk4.trans w82.symm)) (w67.trans (hk5.trans w83.symm)) (w68.trans (hk6.trans w84.symm)) (w69.trans (hk7.trans w85.symm)) (w70.trans (hk8.trans w86.symm)) (w71.trans (hk9.trans w87.symm)) (w72.trans (hk10.trans w88.symm)) (w73.trans (hk11.trans w89.symm)) (w74.trans (hk12.trans w90.symm)) (w75.trans (hk13.trans w91.symm)) (w76.trans (hk14.trans w92.symm)) (w77.trans (hk15.trans w93.symm)) (by first | exact hI | exact TPL_k hd0 C103 C106 (by omega) | (exfalso; omega)) (by first | exact hI | exact SCL_k hd1 hM (fun j _ => C95 j) (fun j _ => C96 j) (fun j _ _ => C104 j) | (exfalso; omega)) (by first | exact hI | exact SCL_k hd2 hM2 (fun j _ => C97 j) (fun j _ => C98 j) (fun j _ _ => C105 j) | (exfalso; omega)) (by first | exact hI | exact QRL_k hd3 hM (fun j _ => C99 j) (C104 1) (fun j _ _ => C104 j) | (exfalso; omega)) (by first | exact hI | exact QRL_k hd4 hM2 (fun j _ => C100 j) (C105 1) (fun j _ _ => C105 j) | (exfalso; omega)) (by first | exact hI | exact SDL_k hd5 hM (fun j _ => C101 j) (C104 1) (fun j _ _ => C104 j) (fun j _ _ => C104 j) | (exfalso; omega)) (by first | exact hI | exact SDL_k hd6 hM2 (fun j _ => C102 j) (C105 1) (fun j _ _ => C105 j) (fun j _ _ => C105 j) | (exfalso; omega))
set_option maxRecDepth 20000 in
set_option maxHeartbeats 8000000 in
theorem sp_case20 (L : Nat) (xs : Nat → Int32) (sio : Option Nat) (d : Nat) (Q : Option AV → am_W → Prop) (hLL : L ≤ 3072) (i : Int) (hi : 0 ≤ i ∧ i ≤ 3066) (hil : i ≤ (L : Int) - 6) (dt : Nat → Nat → Int) (hI : InvC dt) (hM : MW (dt 80)) (hM2 : MW (dt 81)) (hk0 : dt 1 0 = dt 80 0) (hk1 : dt 7 3 = dt 80 1) (hk2 : dt 10 3 = dt 80 2) (hk3 : dt 12 3 = dt 80 3) (hk4 : dt 14 3 = dt 80 4) (hk5 : dt 16 3 = dt 80 5) (hk6 : dt 18 0 = dt 81 0) (hk7 : dt 24 3 = dt 81 1) (hk8 : dt 27 3 = dt 81 2) (hk9 : dt 29 3 = dt 81 3) (hk10 : dt 31 3 = dt 81 4) (hk11 : dt 33 3 = dt 81 5) (hk12 : dt 0 2 = dt 79 2) (hk13 : dt 35 1 = dt 79 12) (hk14 : dt 35 2 = dt 79 19) (hk15 : dt 35 3 = dt 79 21) (hd0 : TPL (dt 36) (dt 85) (dt 35 1)) (hd1 : SCL (dt 2) (dt 3) (dt 80)) (hd2 : SCL (dt 19) (dt 20) (dt 81)) (hd3 : QRL (dt 8) (dt 80)) (hd4 : QRL (dt 25) (dt 81)) (hd5 : SDL (dt 9) (dt 80)) (hd6 : SDL (dt 26) (dt 81)) (K : ∀ (dt : Nat → Nat → Int) (hI : InvC dt) (hM : MW (dt 80)) (hM2 : MW (dt 81)) (hk0 : dt 1 0 = dt 80 0) (hk1 : dt 7 3 = dt 80 1) (hk2 : dt 10 3 = dt 80 2) (hk3 : dt 12 3 = dt 80 3) (hk4 : dt 14 3 = dt 80 4) (hk5 : dt 16 3 = dt 80 5) (hk6 : dt 18 0 = dt 81 0) (hk7 : dt 24 3 = dt 81 1) (hk8 : dt 27 3 = dt 81 2) (hk9 : dt 29 3 = dt 81 3) (hk10 : dt 31 3 = dt 81 4) (hk11 : dt 33 3 = dt 81 5) (hk12 : dt 0 2 = dt 79 2) (hk13 : dt 35 1 = dt 79 12) (hk14 : dt 35 2 = dt 79 19) (hk15 : dt 35 3 = dt 79 21) (hd0 : TPL (dt 36) (dt 85) (dt 35 1)) (hd1 : SCL (dt 2) (dt 3) (dt 80)) (hd2 : SCL (dt 19) (dt 20) (dt 81)) (hd3 : QRL (dt 8) (dt 80)) (hd4 : QRL (dt 25) (dt 81)) (hd5 : SDL (dt 9) (dt 80)) (hd6 : SDL (dt 26) (dt 81)), GO (am_XX L xs sio) (d + 39) 267 1435 [some (.inr (.inr (some 3000))), some (.inr (.inr (some 0))), some (.inr (.inr (some 79))), some (.inl i)] [] (SH, dt) Q) : GO (am_XX L xs sio) (d + 39) 267 1020 [some (.inr (.inr (some 3000))), some (.inr (.inr (some 0))), some (.inr (.inr (some 79))), some (.inl i)] [] (SH, dt) Q := by
  have hF : Fr [0, 1, 2, 3, 4, 5, 6, 7, 8, 9, 10, 11, 12, 13, 14, 15, 16, 17, 18, 19, 20, 21, 22, 23, 24, 25, 26, 27, 28, 29, 30, 31, 32, 33, 34, 35, 36, 37, 38, 39, 40, 41, 42, 43, 44, 45, 46, 47, 48, 49, 50, 51, 52, 53, 54, 55, 56, 57, 58, 59, 60, 61, 62, 63, 64, 65, 66, 67, 68, 69, 70, 71, 72, 73, 74, 75, 76, 77, 78, 79, 80, 81, 82, 83, 84, 85, 86, 87, 88, 89, 90, 91, 92, 93, 94, 95, 96, 97, 98, 99, 100, 101, 102, 103, 104] dt dt := Fr_refl
  have hqo := QOC_R hd3 hM hk1
  have hb1_ := hM.1.1
  refine go_toq PM267 (k := 5) (pc' := 1025) (L' := [some (.inr (.inr (some 3000))), some (.inr (.inr (some 0))), some (.inr (.inr (some 79))), some (.inl i)]) (st' := [.inl (i + 1), .inr (.inr (some 3000)), .inr (.inr (some 0))]) (w' := (SH, dt)) rfl ?_
  have r1 := i32_R (xs ((i + 1).toNat))
  refine go_smpq PM267 (L' := [some (.inr (.inr (some 3000))), some (.inr (.inr (some 0))), some (.inr (.inr (some 79))), some (.inl i)]) (st' := [.inl ((xs ((i + 1).toNat)).toInt), .inr (.inr (some 0))]) (w' := (SH, dt)) rfl rfl (s_iald (n := L) (f := fun j => (xs j).toInt) (am_scr hLL) ⟨by omega, by omega⟩) ?_
  refine go_toq PM267 (k := 4) (pc' := 1030) (L' := [some (.inr (.inr (some 3000))), some (.inr (.inr (some 0))), some (.inr (.inr (some 79))), some (.inl i)]) (st' := [.inl (i + 2), .inr (.inr (some 3000)), .inl ((xs ((i + 1).toNat)).toInt), .inr (.inr (some 0))]) (w' := (SH, dt)) rfl ?_
  have r2 := i32_R (xs ((i + 2).toNat))
  refine go_smpq PM267 (L' := [some (.inr (.inr (some 3000))), some (.inr (.inr (some 0))), some (.inr (.inr (some 79))), some (.inl i)]) (st' := [.inl ((xs ((i + 2).toNat)).toInt), .inl ((xs ((i + 1).toNat)).toInt), .inr (.inr (some 0))]) (w' := (SH, dt)) rfl rfl (s_iald (n := L) (f := fun j => (xs j).toInt) (am_scr hLL) ⟨by omega, by omega⟩) ?_
  refine go_callq PM267 PM87 (Q' := _) rfl rfl rfl rfl (sp_X5_need L xs sio (d + 35) dt hI  ((xs ((i + 1).toNat)).toInt) ⟨by omega, by omega⟩ ((xs ((i + 2).toNat)).toInt) ⟨by omega, by omega⟩ ) ?_
  rintro _ _ ⟨dt4, rfl, hI5, hF6, h3⟩
  refine ⟨rfl, ?_⟩
  have hF7 : Fr [0, 1, 2, 3, 4, 5, 6, 7, 8, 9, 10, 11, 12, 13, 14, 15, 16, 17, 18, 19, 20, 21, 22, 23, 24, 25, 26, 27, 28, 29, 30, 31, 32, 33, 34, 35, 36, 37, 38, 39, 40, 41, 42, 43, 44, 45, 46, 47, 48, 49, 50, 51, 52, 53, 54, 55, 56, 57, 58, 59, 60, 61, 62, 63, 64, 65, 66, 67, 68, 69, 70, 71, 72, 73, 74, 75, 76, 77, 78, 79, 80, 81, 82, 83, 84, 85, 86, 87, 88, 89, 90, 91, 92, 93, 94, 95, 96, 97, 98, 99, 100, 101, 102, 103, 104] dt dt4 := Fr_tr hF hF6 (by decide)
  have hM8 : MW (dt4 80) := MW_fr hM hF6 (by decide)
  have w9 : dt4 1 0 = dt 1 0 := hF6 1 (by decide) 0
  have w10 : dt4 7 3 = dt 7 3 := hF6 7 (by decide) 3
  have w11 : dt4 10 3 = dt 10 3 := hF6 10 (by decide) 3
  have w12 : dt4 12 3 = dt 12 3 := hF6 12 (by decide) 3
  have w13 : dt4 14 3 = dt 14 3 := hF6 14 (by decide) 3
  have w14 : dt4 16 3 = dt 16 3 := hF6 16 (by decide) 3
  have w15 : dt4 18 0 = dt 18 0 := hF6 18 (by decide) 0
  have w16 : dt4 24 3 = dt 24 3 := hF6 24 (by decide) 3
  have w17 : dt4 27 3 = dt 27 3 := hF6 27 (by decide) 3
  have w18 : dt4 29 3 = dt 29 3 := hF6 29 (by decide) 3
  have w19 : dt4 31 3 = dt 31 3 := hF6 31 (by decide) 3
  have w20 : dt4 33 3 = dt 33 3 := hF6 33 (by decide) 3
  have w21 : dt4 0 2 = dt 0 2 := hF6 0 (by decide) 2
  have w22 : dt4 35 1 = dt 35 1 := hF6 35 (by decide) 1
  have w23 : dt4 35 2 = dt 35 2 := hF6 35 (by decide) 2
  have w24 : dt4 35 3 = dt 35 3 := hF6 35 (by decide) 3
  have w25 : dt4 80 0 = dt 80 0 := hF6 80 (by decide) 0
  have w26 : dt4 80 1 = dt 80 1 := hF6 80 (by decide) 1
  have w27 : dt4 80 2 = dt 80 2 := hF6 80 (by decide) 2
  have w28 : dt4 80 3 = dt 80 3 := hF6 80 (by decide) 3
  have w29 : dt4 80 4 = dt 80 4 := hF6 80 (by decide) 4
  have w30 : dt4 80 5 = dt 80 5 := hF6 80 (by decide) 5
  have w31 : dt4 81 0 = dt 81 0 := hF6 81 (by decide) 0
  have w32 : dt4 81 1 = dt 81 1 := hF6 81 (by decide) 1
  have w33 : dt4 81 2 = dt 81 2 := hF6 81 (by decide) 2
  have w34 : dt4 81 3 = dt 81 3 := hF6 81 (by decide) 3
  have w35 : dt4 81 4 = dt 81 4 := hF6 81 (by decide) 4
  have w36 : dt4 81 5 = dt 81 5 := hF6 81 (by decide) 5
  have w37 : dt4 79 2 = dt 79 2 := hF6 79 (by decide) 2
  have w38 : dt4 79 12 = dt 79 12 := hF6 79 (by decide) 12
  have w39 : dt4 79 19 = dt 79 19 := hF6 79 (by decide) 19
  have w40 : dt4 79 21 = dt 79 21 := hF6 79 (by decide) 21
  rcases h3 with ⟨v_h3, rfl, h3r, h3⟩
  have M241 : MW (dt4 81) := MW_frk hM2 hF6 (by decide)
  have C42 : ∀ j : Nat, dt4 2 j = dt 2 j := fun j => (hF6 2 (by decide) j).trans ((fun _ => rfl) j)
  have C43 : ∀ j : Nat, dt4 3 j = dt 3 j := fun j => (hF6 3 (by decide) j).trans ((fun _ => rfl) j)
  have C44 : ∀ j : Nat, dt4 19 j = dt 19 j := fun j => (hF6 19 (by decide) j).trans ((fun _ => rfl) j)
  have C45 : ∀ j : Nat, dt4 20 j = dt 20 j := fun j => (hF6 20 (by decide) j).trans ((fun _ => rfl) j)
  have C46 : ∀ j : Nat, dt4 8 j = dt 8 j := fun j => (hF6 8 (by decide) j).trans ((fun _ => rfl) j)
  have C47 : ∀ j : Nat, dt4 25 j = dt 25 j := fun j => (hF6 25 (by decide) j).trans ((fun _ => rfl) j)
  have C48 : ∀ j : Nat, dt4 9 j = dt 9 j := fun j => (hF6 9 (by decide) j).trans ((fun _ => rfl) j)
  have C49 : ∀ j : Nat, dt4 26 j = dt 26 j := fun j => (hF6 26 (by decide) j).trans ((fun _ => rfl) j)
  have C50 : ∀ j : Nat, dt4 36 j = dt 36 j := fun j => (hF6 36 (by decide) j).trans ((fun _ => rfl) j)
  have C51 : ∀ j : Nat, dt4 80 j = dt 80 j := fun j => (hF6 80 (by decide) j).trans ((fun _ => rfl) j)
  have C52 : ∀ j : Nat, dt4 81 j = dt 81 j := fun j => (hF6 81 (by decide) j).trans ((fun _ => rfl) j)
  have C53 : ∀ j : Nat, dt4 85 j = dt 85 j := fun j => (hF6 85 (by decide) j).trans ((fun _ => rfl) j)
  refine go_toq PM267 (k := 6) (pc' := 1040) (L' := [some (.inr (.inr (some 3000))), some (.inr (.inr (some 0))), some (.inr (.inr (some 79))), some (.inl i)]) (st' := [.inl (i + 1), .inr (.inr (some 3000)), .inr (.inr (some 79))]) (w' := (SH, dt4)) rfl ?_
  have r54 := i32_R (xs ((i + 1).toNat))
  refine go_smpq PM267 (L' := [some (.inr (.inr (some 3000))), some (.inr (.inr (some 0))), some (.inr (.inr (some 79))), some (.inl i)]) (st' := [.inl ((xs ((i + 1).toNat)).toInt), .inr (.inr (some 79))]) (w' := (SH, dt4)) rfl rfl (s_iald (n := L) (f := fun j => (xs j).toInt) (am_scr hLL) ⟨by omega, by omega⟩) ?_
  refine go_toq PM267 (k := 4) (pc' := 1045) (L' := [some (.inr (.inr (some 3000))), some (.inr (.inr (some 0))), some (.inr (.inr (some 79))), some (.inl i)]) (st' := [.inl (i + 2), .inr (.inr (some 3000)), .inl ((xs ((i + 1).toNat)).toInt), .inr (.inr (some 79))]) (w' := (SH, dt4)) rfl ?_
  have r55 := i32_R (xs ((i + 2).toNat))
  refine go_smpq PM267 (L' := [some (.inr (.inr (some 3000))), some (.inr (.inr (some 0))), some (.inr (.inr (some 79))), some (.inl i)]) (st' := [.inl ((xs ((i + 2).toNat)).toInt), .inl ((xs ((i + 1).toNat)).toInt), .inr (.inr (some 79))]) (w' := (SH, dt4)) rfl rfl (s_iald (n := L) (f := fun j => (xs j).toInt) (am_scr hLL) ⟨by omega, by omega⟩) ?_
  refine go_callq PM267 PM228 (Q' := _) rfl rfl rfl rfl (sp_X6_need L xs sio (d + 33) dt4 hI5 hM8  ((xs ((i + 1).toNat)).toInt) ⟨by omega, by omega⟩ ((xs ((i + 2).toNat)).toInt) ⟨by omega, by omega⟩ ) ?_
  rintro _ _ ⟨dt57, rfl, hI58, hF59, h56⟩
  refine ⟨rfl, ?_⟩
  have hF60 : Fr [0, 1, 2, 3, 4, 5, 6, 7, 8, 9, 10, 11, 12, 13, 14, 15, 16, 17, 18, 19, 20, 21, 22, 23, 24, 25, 26, 27, 28, 29, 30, 31, 32, 33, 34, 35, 36, 37, 38, 39, 40, 41, 42, 43, 44, 45, 46, 47, 48, 49, 50, 51, 52, 53, 54, 55, 56, 57, 58, 59, 60, 61, 62, 63, 64, 65, 66, 67, 68, 69, 70, 71, 72, 73, 74, 75, 76, 77, 78, 79, 80, 81, 82, 83, 84, 85, 86, 87, 88, 89, 90, 91, 92, 93, 94, 95, 96, 97, 98, 99, 100, 101, 102, 103, 104] dt dt57 := Fr_tr hF7 hF59 (by decide)
  have hM61 : MW (dt57 80) := MW_fr hM8 hF59 (by decide)
  have w62 : dt57 1 0 = dt 1 0 := (hF59 1 (by decide) 0).trans w9
  have w63 : dt57 7 3 = dt 7 3 := (hF59 7 (by decide) 3).trans w10
  have w64 : dt57 10 3 = dt 10 3 := (hF59 10 (by decide) 3).trans w11
  have w65 : dt57 12 3 = dt 12 3 := (hF59 12 (by decide) 3).trans w12
  have w66 : dt57 14 3 = dt 14 3 := (hF59 14 (by decide) 3).trans w13
  have w67 : dt57 16 3 = dt 16 3 := (hF59 16 (by decide) 3).trans w14
  have w68 : dt57 18 0 = dt 18 0 := (hF59 18 (by decide) 0).trans w15
  have w69 : dt57 24 3 = dt 24 3 := (hF59 24 (by decide) 3).trans w16
  have w70 : dt57 27 3 = dt 27 3 := (hF59 27 (by decide) 3).trans w17
  have w71 : dt57 29 3 = dt 29 3 := (hF59 29 (by decide) 3).trans w18
  have w72 : dt57 31 3 = dt 31 3 := (hF59 31 (by decide) 3).trans w19
  have w73 : dt57 33 3 = dt 33 3 := (hF59 33 (by decide) 3).trans w20
  have w74 : dt57 0 2 = dt 0 2 := (hF59 0 (by decide) 2).trans w21
  have w75 : dt57 35 1 = dt 35 1 := (hF59 35 (by decide) 1).trans w22
  have w76 : dt57 35 2 = dt 35 2 := (hF59 35 (by decide) 2).trans w23
  have w77 : dt57 35 3 = dt 35 3 := (hF59 35 (by decide) 3).trans w24
  have w78 : dt57 80 0 = dt 80 0 := (hF59 80 (by decide) 0).trans w25
  have w79 : dt57 80 1 = dt 80 1 := (hF59 80 (by decide) 1).trans w26
  have w80 : dt57 80 2 = dt 80 2 := (hF59 80 (by decide) 2).trans w27
  have w81 : dt57 80 3 = dt 80 3 := (hF59 80 (by decide) 3).trans w28
  have w82 : dt57 80 4 = dt 80 4 := (hF59 80 (by decide) 4).trans w29
  have w83 : dt57 80 5 = dt 80 5 := (hF59 80 (by decide) 5).trans w30
  have w84 : dt57 81 0 = dt 81 0 := (hF59 81 (by decide) 0).trans w31
  have w85 : dt57 81 1 = dt 81 1 := (hF59 81 (by decide) 1).trans w32
  have w86 : dt57 81 2 = dt 81 2 := (hF59 81 (by decide) 2).trans w33
  have w87 : dt57 81 3 = dt 81 3 := (hF59 81 (by decide) 3).trans w34
  have w88 : dt57 81 4 = dt 81 4 := (hF59 81 (by decide) 4).trans w35
  have w89 : dt57 81 5 = dt 81 5 := (hF59 81 (by decide) 5).trans w36
  have w90 : dt57 79 2 = dt 79 2 := (hF59 79 (by decide) 2).trans w37
  have w91 : dt57 79 12 = dt 79 12 := (hF59 79 (by decide) 12).trans w38
  have w92 : dt57 79 19 = dt 79 19 := (hF59 79 (by decide) 19).trans w39
  have w93 : dt57 79 21 = dt 79 21 := (hF59 79 (by decide) 21).trans w40
  rcases h56 with ⟨v_h56, rfl, h56r, h56⟩
  have M294 : MW (dt57 81) := MW_frk M241 hF59 (by decide)
  have C95 : ∀ j : Nat, dt57 2 j = dt 2 j := fun j => (hF59 2 (by decide) j).trans (C42 j)
  have C96 : ∀ j : Nat, dt57 3 j = dt 3 j := fun j => (hF59 3 (by decide) j).trans (C43 j)
  have C97 : ∀ j : Nat, dt57 19 j = dt 19 j := fun j => (hF59 19 (by decide) j).trans (C44 j)
  have C98 : ∀ j : Nat, dt57 20 j = dt 20 j := fun j => (hF59 20 (by decide) j).trans (C45 j)
  have C99 : ∀ j : Nat, dt57 8 j = dt 8 j := fun j => (hF59 8 (by decide) j).trans (C46 j)
  have C100 : ∀ j : Nat, dt57 25 j = dt 25 j := fun j => (hF59 25 (by decide) j).trans (C47 j)
  have C101 : ∀ j : Nat, dt57 9 j = dt 9 j := fun j => (hF59 9 (by decide) j).trans (C48 j)
  have C102 : ∀ j : Nat, dt57 26 j = dt 26 j := fun j => (hF59 26 (by decide) j).trans (C49 j)
  have C103 : ∀ j : Nat, dt57 36 j = dt 36 j := fun j => (hF59 36 (by decide) j).trans (C50 j)
  have C104 : ∀ j : Nat, dt57 80 j = dt 80 j := fun j => (hF59 80 (by decide) j).trans (C51 j)
  have C105 : ∀ j : Nat, dt57 81 j = dt 81 j := fun j => (hF59 81 (by decide) j).trans (C52 j)
  have C106 : ∀ j : Nat, dt57 85 j = dt 85 j := fun j => (hF59 85 (by decide) j).trans (C53 j)
  refine go_toq PM267 (k := 2) (pc' := 1435) (L' := [some (.inr (.inr (some 3000))), some (.inr (.inr (some 0))), some (.inr (.inr (some 79))), some (.inl i)]) (st' := []) (w' := (SH, dt57)) rfl ?_
  exact K dt57 hI58 hM61 M294 (w62.trans (hk0.trans w78.symm)) (w63.trans (hk1.trans w79.symm)) (w64.trans (hk2.trans w80.symm)) (w65.trans (hk3.trans w81.symm)) (w66.trans (hk4.trans w82.symm)) (w67.trans (hk5.trans w83.symm)) (w68.trans (hk6.trans w84.symm)) (w69.trans (hk7.trans w85.symm)) (w70.trans (hk8.trans w86.symm)) (w71.trans (hk9.trans w87.symm)) (w72.trans (hk10.trans w88.symm)) (w73.trans (hk11.trans w89.symm)) (w74.trans (hk12.trans w90.symm)) (w75.trans (hk13.trans w91.symm)) (w76.trans (hk14.trans w92.symm)) (w77.trans (hk15.trans w93.symm)) (by first | exact hI | exact TPL_k hd0 C103 C106 (by omega) | (exfalso; omega)) (by first | exact hI | exact SCL_k hd1 hM (fun j _ => C95 j) (fun j _ => C96 j) (fun j _ _ => C104 j) | (exfalso; omega)) (by first | exact hI | exact SCL_k hd2 hM2 (fun j _ => C97 j) (fun j _ => C98 j) (fun j _ _ => C105 j) | (exfalso; omega)) (by first | exact hI | exact QRL_k hd3 hM (fun j _ => C99 j) (C104 1) (fun j _ _ => C104 j) | (exfalso; omega)) (by first | exact hI | exact QRL_k hd4 hM2 (fun j _ => C100 j) (C105 1) (fun j _ _ => C105 j) | (exfalso; omega)) (by first | exact hI | exact SDL_k hd5 hM (fun j _ => C101 j) (C104 1) (fun j _ _ => C104 j) (fun j _ _ => C104 j) | (exfalso; omega)) (by first | exact hI | exact SDL_k hd6 hM2 (fun j _ => C102 j) (C105 1) (fun j _ _ => C105 j) (fun j _ _ => C105 j) | (exfalso; omega))
set_option maxRecDepth 20000 in
set_option maxHeartbeats 8000000 in
theorem sp_case21 (L : Nat) (xs : Nat → Int32) (sio : Option Nat) (d : Nat) (Q : Option AV → am_W → Prop) (hLL : L ≤ 3072) (i : Int) (hi : 0 ≤ i ∧ i ≤ 3066) (hil : i ≤ (L : Int) - 6) (dt : Nat → Nat → Int) (hI : InvC dt) (hM : MW (dt 80)) (hM2 : MW (dt 81)) (hk0 : dt 1 0 = dt 80 0) (hk1 : dt 7 3 = dt 80 1) (hk2 : dt 10 3 = dt 80 2) (hk3 : dt 12 3 = dt 80 3) (hk4 : dt 14 3 = dt 80 4) (hk5 : dt 16 3 = dt 80 5) (hk6 : dt 18 0 = dt 81 0) (hk7 : dt 24 3 = dt 81 1) (hk8 : dt 27 3 = dt 81 2) (hk9 : dt 29 3 = dt 81 3) (hk10 : dt 31 3 = dt 81 4) (hk11 : dt 33 3 = dt 81 5) (hk12 : dt 0 2 = dt 79 2) (hk13 : dt 35 1 = dt 79 12) (hk14 : dt 35 2 = dt 79 19) (hk15 : dt 35 3 = dt 79 21) (hd0 : TPL (dt 36) (dt 85) (dt 35 1)) (hd1 : SCL (dt 2) (dt 3) (dt 80)) (hd2 : SCL (dt 19) (dt 20) (dt 81)) (hd3 : QRL (dt 8) (dt 80)) (hd4 : QRL (dt 25) (dt 81)) (hd5 : SDL (dt 9) (dt 80)) (hd6 : SDL (dt 26) (dt 81)) (K : ∀ (dt : Nat → Nat → Int) (hI : InvC dt) (hM : MW (dt 80)) (hM2 : MW (dt 81)) (hk0 : dt 1 0 = dt 80 0) (hk1 : dt 7 3 = dt 80 1) (hk2 : dt 10 3 = dt 80 2) (hk3 : dt 12 3 = dt 80 3) (hk4 : dt 14 3 = dt 80 4) (hk5 : dt 16 3 = dt 80 5) (hk6 : dt 18 0 = dt 81 0) (hk7 : dt 24 3 = dt 81 1) (hk8 : dt 27 3 = dt 81 2) (hk9 : dt 29 3 = dt 81 3) (hk10 : dt 31 3 = dt 81 4) (hk11 : dt 33 3 = dt 81 5) (hk12 : dt 0 2 = dt 79 2) (hk13 : dt 35 1 = dt 79 12) (hk14 : dt 35 2 = dt 79 19) (hk15 : dt 35 3 = dt 79 21) (hd0 : TPL (dt 36) (dt 85) (dt 35 1)) (hd1 : SCL (dt 2) (dt 3) (dt 80)) (hd2 : SCL (dt 19) (dt 20) (dt 81)) (hd3 : QRL (dt 8) (dt 80)) (hd4 : QRL (dt 25) (dt 81)) (hd5 : SDL (dt 9) (dt 80)) (hd6 : SDL (dt 26) (dt 81)), GO (am_XX L xs sio) (d + 39) 267 1435 [some (.inr (.inr (some 3000))), some (.inr (.inr (some 0))), some (.inr (.inr (some 79))), some (.inl i)] [] (SH, dt) Q) : GO (am_XX L xs sio) (d + 39) 267 1053 [some (.inr (.inr (some 3000))), some (.inr (.inr (some 0))), some (.inr (.inr (some 79))), some (.inl i)] [] (SH, dt) Q := by
  have hF : Fr [0, 1, 2, 3, 4, 5, 6, 7, 8, 9, 10, 11, 12, 13, 14, 15, 16, 17, 18, 19, 20, 21, 22, 23, 24, 25, 26, 27, 28, 29, 30, 31, 32, 33, 34, 35, 36, 37, 38, 39, 40, 41, 42, 43, 44, 45, 46, 47, 48, 49, 50, 51, 52, 53, 54, 55, 56, 57, 58, 59, 60, 61, 62, 63, 64, 65, 66, 67, 68, 69, 70, 71, 72, 73, 74, 75, 76, 77, 78, 79, 80, 81, 82, 83, 84, 85, 86, 87, 88, 89, 90, 91, 92, 93, 94, 95, 96, 97, 98, 99, 100, 101, 102, 103, 104] dt dt := Fr_refl
  have hqo := QOC_R hd3 hM hk1
  have hb1_ := hM.1.1
  refine go_toq PM267 (k := 5) (pc' := 1058) (L' := [some (.inr (.inr (some 3000))), some (.inr (.inr (some 0))), some (.inr (.inr (some 79))), some (.inl i)]) (st' := [.inl (i + 1), .inr (.inr (some 3000)), .inr (.inr (some 0))]) (w' := (SH, dt)) rfl ?_
  have r1 := i32_R (xs ((i + 1).toNat))
  refine go_smpq PM267 (L' := [some (.inr (.inr (some 3000))), some (.inr (.inr (some 0))), some (.inr (.inr (some 79))), some (.inl i)]) (st' := [.inl ((xs ((i + 1).toNat)).toInt), .inr (.inr (some 0))]) (w' := (SH, dt)) rfl rfl (s_iald (n := L) (f := fun j => (xs j).toInt) (am_scr hLL) ⟨by omega, by omega⟩) ?_
  refine go_toq PM267 (k := 4) (pc' := 1063) (L' := [some (.inr (.inr (some 3000))), some (.inr (.inr (some 0))), some (.inr (.inr (some 79))), some (.inl i)]) (st' := [.inl (i + 2), .inr (.inr (some 3000)), .inl ((xs ((i + 1).toNat)).toInt), .inr (.inr (some 0))]) (w' := (SH, dt)) rfl ?_
  have r2 := i32_R (xs ((i + 2).toNat))
  refine go_smpq PM267 (L' := [some (.inr (.inr (some 3000))), some (.inr (.inr (some 0))), some (.inr (.inr (some 79))), some (.inl i)]) (st' := [.inl ((xs ((i + 2).toNat)).toInt), .inl ((xs ((i + 1).toNat)).toInt), .inr (.inr (some 0))]) (w' := (SH, dt)) rfl rfl (s_iald (n := L) (f := fun j => (xs j).toInt) (am_scr hLL) ⟨by omega, by omega⟩) ?_
  refine go_callq PM267 PM88 (Q' := _) rfl rfl rfl rfl (sp_X5_pulls L xs sio (d + 35) dt hI  ((xs ((i + 1).toNat)).toInt) ⟨by omega, by omega⟩ ((xs ((i + 2).toNat)).toInt) ⟨by omega, by omega⟩ ) ?_
  rintro _ _ ⟨rfl, h3⟩
  refine ⟨rfl, ?_⟩
  rcases h3 with ⟨v_h3, rfl, h3r, h3⟩
  refine go_toq PM267 (k := 6) (pc' := 1073) (L' := [some (.inr (.inr (some 3000))), some (.inr (.inr (some 0))), some (.inr (.inr (some 79))), some (.inl i)]) (st' := [.inl (i + 1), .inr (.inr (some 3000)), .inr (.inr (some 79))]) (w' := (SH, dt)) rfl ?_
  refine go_smpq PM267 (L' := [some (.inr (.inr (some 3000))), some (.inr (.inr (some 0))), some (.inr (.inr (some 79))), some (.inl i)]) (st' := [.inl ((xs ((i + 1).toNat)).toInt), .inr (.inr (some 79))]) (w' := (SH, dt)) rfl rfl (s_iald (n := L) (f := fun j => (xs j).toInt) (am_scr hLL) ⟨by omega, by omega⟩) ?_
  refine go_toq PM267 (k := 4) (pc' := 1078) (L' := [some (.inr (.inr (some 3000))), some (.inr (.inr (some 0))), some (.inr (.inr (some 79))), some (.inl i)]) (st' := [.inl (i + 2), .inr (.inr (some 3000)), .inl ((xs ((i + 1).toNat)).toInt), .inr (.inr (some 79))]) (w' := (SH, dt)) rfl ?_
  refine go_smpq PM267 (L' := [some (.inr (.inr (some 3000))), some (.inr (.inr (some 0))), some (.inr (.inr (some 79))), some (.inl i)]) (st' := [.inl ((xs ((i + 2).toNat)).toInt), .inl ((xs ((i + 1).toNat)).toInt), .inr (.inr (some 79))]) (w' := (SH, dt)) rfl rfl (s_iald (n := L) (f := fun j => (xs j).toInt) (am_scr hLL) ⟨by omega, by omega⟩) ?_
  refine go_callq PM267 PM230 (Q' := _) rfl rfl rfl rfl (sp_X6_pulls L xs sio (d + 31) dt hI hM  ((xs ((i + 1).toNat)).toInt) ⟨by omega, by omega⟩ ((xs ((i + 2).toNat)).toInt) ⟨by omega, by omega⟩ ) ?_
  rintro _ _ ⟨dt5, rfl, hI6, hF7, h4⟩
  refine ⟨rfl, ?_⟩
  have hF8 : Fr [0, 1, 2, 3, 4, 5, 6, 7, 8, 9, 10, 11, 12, 13, 14, 15, 16, 17, 18, 19, 20, 21, 22, 23, 24, 25, 26, 27, 28, 29, 30, 31, 32, 33, 34, 35, 36, 37, 38, 39, 40, 41, 42, 43, 44, 45, 46, 47, 48, 49, 50, 51, 52, 53, 54, 55, 56, 57, 58, 59, 60, 61, 62, 63, 64, 65, 66, 67, 68, 69, 70, 71, 72, 73, 74, 75, 76, 77, 78, 79, 80, 81, 82, 83, 84, 85, 86, 87, 88, 89, 90, 91, 92, 93, 94, 95, 96, 97, 98, 99, 100, 101, 102, 103, 104] dt dt5 := Fr_tr hF hF7 (by decide)
  have hM9 : MW (dt5 80) := MW_fr hM hF7 (by decide)
  have w10 : dt5 1 0 = dt 1 0 := hF7 1 (by decide) 0
  have w11 : dt5 7 3 = dt 7 3 := hF7 7 (by decide) 3
  have w12 : dt5 10 3 = dt 10 3 := hF7 10 (by decide) 3
  have w13 : dt5 12 3 = dt 12 3 := hF7 12 (by decide) 3
  have w14 : dt5 14 3 = dt 14 3 := hF7 14 (by decide) 3
  have w15 : dt5 16 3 = dt 16 3 := hF7 16 (by decide) 3
  have w16 : dt5 18 0 = dt 18 0 := hF7 18 (by decide) 0
  have w17 : dt5 24 3 = dt 24 3 := hF7 24 (by decide) 3
  have w18 : dt5 27 3 = dt 27 3 := hF7 27 (by decide) 3
  have w19 : dt5 29 3 = dt 29 3 := hF7 29 (by decide) 3
  have w20 : dt5 31 3 = dt 31 3 := hF7 31 (by decide) 3
  have w21 : dt5 33 3 = dt 33 3 := hF7 33 (by decide) 3
  have w22 : dt5 0 2 = dt 0 2 := hF7 0 (by decide) 2
  have w23 : dt5 35 1 = dt 35 1 := hF7 35 (by decide) 1
  have w24 : dt5 35 2 = dt 35 2 := hF7 35 (by decide) 2
  have w25 : dt5 35 3 = dt 35 3 := hF7 35 (by decide) 3
  have w26 : dt5 80 0 = dt 80 0 := hF7 80 (by decide) 0
  have w27 : dt5 80 1 = dt 80 1 := hF7 80 (by decide) 1
  have w28 : dt5 80 2 = dt 80 2 := hF7 80 (by decide) 2
  have w29 : dt5 80 3 = dt 80 3 := hF7 80 (by decide) 3
  have w30 : dt5 80 4 = dt 80 4 := hF7 80 (by decide) 4
  have w31 : dt5 80 5 = dt 80 5 := hF7 80 (by decide) 5
  have w32 : dt5 81 0 = dt 81 0 := hF7 81 (by decide) 0
  have w33 : dt5 81 1 = dt 81 1 := hF7 81 (by decide) 1
  have w34 : dt5 81 2 = dt 81 2 := hF7 81 (by decide) 2
  have w35 : dt5 81 3 = dt 81 3 := hF7 81 (by decide) 3
  have w36 : dt5 81 4 = dt 81 4 := hF7 81 (by decide) 4
  have w37 : dt5 81 5 = dt 81 5 := hF7 81 (by decide) 5
  have w38 : dt5 79 2 = dt 79 2 := hF7 79 (by decide) 2
  have w39 : dt5 79 12 = dt 79 12 := hF7 79 (by decide) 12
  have w40 : dt5 79 19 = dt 79 19 := hF7 79 (by decide) 19
  have w41 : dt5 79 21 = dt 79 21 := hF7 79 (by decide) 21
  rcases h4 with ⟨v_h4, rfl, h4r, h4⟩
  have M242 : MW (dt5 81) := MW_frk hM2 hF7 (by decide)
  have C43 : ∀ j : Nat, dt5 2 j = dt 2 j := fun j => (hF7 2 (by decide) j).trans ((fun _ => rfl) j)
  have C44 : ∀ j : Nat, dt5 3 j = dt 3 j := fun j => (hF7 3 (by decide) j).trans ((fun _ => rfl) j)
  have C45 : ∀ j : Nat, dt5 19 j = dt 19 j := fun j => (hF7 19 (by decide) j).trans ((fun _ => rfl) j)
  have C46 : ∀ j : Nat, dt5 20 j = dt 20 j := fun j => (hF7 20 (by decide) j).trans ((fun _ => rfl) j)
  have C47 : ∀ j : Nat, dt5 8 j = dt 8 j := fun j => (hF7 8 (by decide) j).trans ((fun _ => rfl) j)
  have C48 : ∀ j : Nat, dt5 25 j = dt 25 j := fun j => (hF7 25 (by decide) j).trans ((fun _ => rfl) j)
  have C49 : ∀ j : Nat, dt5 9 j = dt 9 j := fun j => (hF7 9 (by decide) j).trans ((fun _ => rfl) j)
  have C50 : ∀ j : Nat, dt5 26 j = dt 26 j := fun j => (hF7 26 (by decide) j).trans ((fun _ => rfl) j)
  have C51 : ∀ j : Nat, dt5 36 j = dt 36 j := fun j => (hF7 36 (by decide) j).trans ((fun _ => rfl) j)
  have C52 : ∀ j : Nat, dt5 80 j = dt 80 j := fun j => (hF7 80 (by decide) j).trans ((fun _ => rfl) j)
  have C53 : ∀ j : Nat, dt5 81 j = dt 81 j := fun j => (hF7 81 (by decide) j).trans ((fun _ => rfl) j)
  have C54 : ∀ j : Nat, dt5 85 j = dt 85 j := fun j => (hF7 85 (by decide) j).trans ((fun _ => rfl) j)
  refine go_toq PM267 (k := 2) (pc' := 1435) (L' := [some (.inr (.inr (some 3000))), some (.inr (.inr (some 0))), some (.inr (.inr (some 79))), some (.inl i)]) (st' := []) (w' := (SH, dt5)) rfl ?_
  exact K dt5 hI6 hM9 M242 (w10.trans (hk0.trans w26.symm)) (w11.trans (hk1.trans w27.symm)) (w12.trans (hk2.trans w28.symm)) (w13.trans (hk3.trans w29.symm)) (w14.trans (hk4.trans w30.symm)) (w15.trans (hk5.trans w31.symm)) (w16.trans (hk6.trans w32.symm)) (w17.trans (hk7.trans w33.symm)) (w18.trans (hk8.trans w34.symm)) (w19.trans (hk9.trans w35.symm)) (w20.trans (hk10.trans w36.symm)) (w21.trans (hk11.trans w37.symm)) (w22.trans (hk12.trans w38.symm)) (w23.trans (hk13.trans w39.symm)) (w24.trans (hk14.trans w40.symm)) (w25.trans (hk15.trans w41.symm)) (by first | exact hI | exact TPL_k hd0 C51 C54 (by omega) | (exfalso; omega)) (by first | exact hI | exact SCL_k hd1 hM (fun j _ => C43 j) (fun j _ => C44 j) (fun j _ _ => C52 j) | (exfalso; omega)) (by first | exact hI | exact SCL_k hd2 hM2 (fun j _ => C45 j) (fun j _ => C46 j) (fun j _ _ => C53 j) | (exfalso; omega)) (by first | exact hI | exact QRL_k hd3 hM (fun j _ => C47 j) (C52 1) (fun j _ _ => C52 j) | (exfalso; omega)) (by first | exact hI | exact QRL_k hd4 hM2 (fun j _ => C48 j) (C53 1) (fun j _ _ => C53 j) | (exfalso; omega)) (by first | exact hI | exact SDL_k hd5 hM (fun j _ => C49 j) (C52 1) (fun j _ _ => C52 j) (fun j _ _ => C52 j) | (exfalso; omega)) (by first | exact hI | exact SDL_k hd6 hM2 (fun j _ => C50 j) (C53 1) (fun j _ _ => C53 j) (fun j _ _ => C53 j) | (exfalso; omega))
