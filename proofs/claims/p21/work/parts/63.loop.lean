set_option maxRecDepth 20000 in
set_option maxHeartbeats 8000000 in
theorem sp_case11 (L : Nat) (xs : Nat → Int32) (sio : Option Nat) (d : Nat) (Q : Option AV → am_W → Prop) (hLL : L ≤ 3072) (i : Int) (hi : 0 ≤ i ∧ i ≤ 3066) (hil : i ≤ (L : Int) - 6) (dt : Nat → Nat → Int) (hI : InvC dt) (hM : MW (dt 80)) (hM2 : MW (dt 81)) (hk0 : dt 1 0 = dt 80 0) (hk1 : dt 7 3 = dt 80 1) (hk2 : dt 10 3 = dt 80 2) (hk3 : dt 12 3 = dt 80 3) (hk4 : dt 14 3 = dt 80 4) (hk5 : dt 16 3 = dt 80 5) (hk6 : dt 18 0 = dt 81 0) (hk7 : dt 24 3 = dt 81 1) (hk8 : dt 27 3 = dt 81 2) (hk9 : dt 29 3 = dt 81 3) (hk10 : dt 31 3 = dt 81 4) (hk11 : dt 33 3 = dt 81 5) (hk12 : dt 0 2 = dt 79 2) (hk13 : dt 35 1 = dt 79 12) (hk14 : dt 35 2 = dt 79 19) (hk15 : dt 35 3 = dt 79 21) (hd0 : TPL (dt 36) (dt 85) (dt 35 1)) (hd1 : SCL (dt 2) (dt 3) (dt 80)) (hd2 : SCL (dt 19) (dt 20) (dt 81)) (hd3 : QRL (dt 8) (dt 80)) (hd4 : QRL (dt 25) (dt 81)) (hd5 : SDL (dt 9) (dt 80)) (hd6 : SDL (dt 26) (dt 81)) (hd7 : LWL (dt 4) (dt 5) (dt 6) (dt 80)) (hd8 : LWL (dt 21) (dt 22) (dt 23) (dt 81)) (hd9 : CHL (dt 11) (dt 80)) (hd10 : CHL (dt 28) (dt 81)) (hd11 : ANL (dt 13) (dt 80)) (hd12 : ANL (dt 30) (dt 81)) (K : ∀ (dt : Nat → Nat → Int) (hI : InvC dt) (hM : MW (dt 80)) (hM2 : MW (dt 81)) (hk0 : dt 1 0 = dt 80 0) (hk1 : dt 7 3 = dt 80 1) (hk2 : dt 10 3 = dt 80 2) (hk3 : dt 12 3 = dt 80 3) (hk4 : dt 14 3 = dt 80 4) (hk5 : dt 16 3 = dt 80 5) (hk6 : dt 18 0 = dt 81 0) (hk7 : dt 24 3 = dt 81 1) (hk8 : dt 27 3 = dt 81 2) (hk9 : dt 29 3 = dt 81 3) (hk10 : dt 31 3 = dt 81 4) (hk11 : dt 33 3 = dt 81 5) (hk12 : dt 0 2 = dt 79 2) (hk13 : dt 35 1 = dt 79 12) (hk14 : dt 35 2 = dt 79 19) (hk15 : dt 35 3 = dt 79 21) (hd0 : TPL (dt 36) (dt 85) (dt 35 1)) (hd1 : SCL (dt 2) (dt 3) (dt 80)) (hd2 : SCL (dt 19) (dt 20) (dt 81)) (hd3 : QRL (dt 8) (dt 80)) (hd4 : QRL (dt 25) (dt 81)) (hd5 : SDL (dt 9) (dt 80)) (hd6 : SDL (dt 26) (dt 81)) (hd7 : LWL (dt 4) (dt 5) (dt 6) (dt 80)) (hd8 : LWL (dt 21) (dt 22) (dt 23) (dt 81)) (hd9 : CHL (dt 11) (dt 80)) (hd10 : CHL (dt 28) (dt 81)) (hd11 : ANL (dt 13) (dt 80)) (hd12 : ANL (dt 30) (dt 81)), GO (am_XX L xs sio) (d + 39) 267 1435 [some (.inr (.inr (some 3000))), some (.inr (.inr (some 0))), some (.inr (.inr (some 79))), some (.inl i)] [] (SH, dt) Q) : GO (am_XX L xs sio) (d + 39) 267 643 [some (.inr (.inr (some 3000))), some (.inr (.inr (some 0))), some (.inr (.inr (some 79))), some (.inl i)] [] (SH, dt) Q := by
  have hF : Fr [0, 1, 2, 3, 4, 5, 6, 7, 8, 9, 10, 11, 12, 13, 14, 15, 16, 17, 18, 19, 20, 21, 22, 23, 24, 25, 26, 27, 28, 29, 30, 31, 32, 33, 34, 35, 36, 37, 38, 39, 40, 41, 42, 43, 44, 45, 46, 47, 48, 49, 50, 51, 52, 53, 54, 55, 56, 57, 58, 59, 60, 61, 62, 63, 64, 65, 66, 67, 68, 69, 70, 71, 72, 73, 74, 75, 76, 77, 78, 79, 80, 81, 82, 83, 84, 85, 86, 87, 88, 89, 90, 91, 92, 93, 94, 95, 96, 97, 98, 99, 100, 101, 102, 103, 104] dt dt := Fr_refl
  have hqo := QOC_R hd3 hM hk1
  have hb1_ := hM.1.1
  have hb2_ := hM.1.2.1
  have hb3_ := hM.1.2.2.1
  have halk : ALK dt (dt 80) := ⟨hd7, hd3, hd5, hd9, hk1, hk2⟩
  have hav_ : ∀ i : Nat, (i : Int) < dt 12 3 → 0 ≤ dt 13 (6 * i + 1) ∧ dt 13 (6 * i + 1) < dt 7 3 := fun i hi => by have z := hd11 i (by omega); have y := z.2.2 1 (by decide); have w := z.2.1; omega
  refine go_toq PM267 (k := 5) (pc' := 648) (L' := [some (.inr (.inr (some 3000))), some (.inr (.inr (some 0))), some (.inr (.inr (some 79))), some (.inl i)]) (st' := [.inl (i + 1), .inr (.inr (some 3000)), .inr (.inr (some 0))]) (w' := (SH, dt)) rfl ?_
  have r1 := i32_R (xs ((i + 1).toNat))
  refine go_smpq PM267 (L' := [some (.inr (.inr (some 3000))), some (.inr (.inr (some 0))), some (.inr (.inr (some 79))), some (.inl i)]) (st' := [.inl ((xs ((i + 1).toNat)).toInt), .inr (.inr (some 0))]) (w' := (SH, dt)) rfl rfl (s_iald (n := L) (f := fun j => (xs j).toInt) (am_scr hLL) ⟨by omega, by omega⟩) ?_
  refine go_toq PM267 (k := 4) (pc' := 653) (L' := [some (.inr (.inr (some 3000))), some (.inr (.inr (some 0))), some (.inr (.inr (some 79))), some (.inl i)]) (st' := [.inl (i + 2), .inr (.inr (some 3000)), .inl ((xs ((i + 1).toNat)).toInt), .inr (.inr (some 0))]) (w' := (SH, dt)) rfl ?_
  have r2 := i32_R (xs ((i + 2).toNat))
  refine go_smpq PM267 (L' := [some (.inr (.inr (some 3000))), some (.inr (.inr (some 0))), some (.inr (.inr (some 79))), some (.inl i)]) (st' := [.inl ((xs ((i + 2).toNat)).toInt), .inl ((xs ((i + 1).toNat)).toInt), .inr (.inr (some 0))]) (w' := (SH, dt)) rfl rfl (s_iald (n := L) (f := fun j => (xs j).toInt) (am_scr hLL) ⟨by omega, by omega⟩) ?_
  refine go_toq PM267 (k := 4) (pc' := 658) (L' := [some (.inr (.inr (some 3000))), some (.inr (.inr (some 0))), some (.inr (.inr (some 79))), some (.inl i)]) (st' := [.inl (i + 3), .inr (.inr (some 3000)), .inl ((xs ((i + 2).toNat)).toInt), .inl ((xs ((i + 1).toNat)).toInt), .inr (.inr (some 0))]) (w' := (SH, dt)) rfl ?_
  have r3 := i32_R (xs ((i + 3).toNat))
  refine go_smpq PM267 (L' := [some (.inr (.inr (some 3000))), some (.inr (.inr (some 0))), some (.inr (.inr (some 79))), some (.inl i)]) (st' := [.inl ((xs ((i + 3).toNat)).toInt), .inl ((xs ((i + 2).toNat)).toInt), .inl ((xs ((i + 1).toNat)).toInt), .inr (.inr (some 0))]) (w' := (SH, dt)) rfl rfl (s_iald (n := L) (f := fun j => (xs j).toInt) (am_scr hLL) ⟨by omega, by omega⟩) ?_
  refine go_toq PM267 (k := 4) (pc' := 663) (L' := [some (.inr (.inr (some 3000))), some (.inr (.inr (some 0))), some (.inr (.inr (some 79))), some (.inl i)]) (st' := [.inl (i + 4), .inr (.inr (some 3000)), .inl ((xs ((i + 3).toNat)).toInt), .inl ((xs ((i + 2).toNat)).toInt), .inl ((xs ((i + 1).toNat)).toInt), .inr (.inr (some 0))]) (w' := (SH, dt)) rfl ?_
  have r4 := i32_R (xs ((i + 4).toNat))
  refine go_smpq PM267 (L' := [some (.inr (.inr (some 3000))), some (.inr (.inr (some 0))), some (.inr (.inr (some 79))), some (.inl i)]) (st' := [.inl ((xs ((i + 4).toNat)).toInt), .inl ((xs ((i + 3).toNat)).toInt), .inl ((xs ((i + 2).toNat)).toInt), .inl ((xs ((i + 1).toNat)).toInt), .inr (.inr (some 0))]) (w' := (SH, dt)) rfl rfl (s_iald (n := L) (f := fun j => (xs j).toInt) (am_scr hLL) ⟨by omega, by omega⟩) ?_
  refine go_callq PM267 PM78 (Q' := _) rfl rfl rfl rfl (sp_X5_weight_f L xs sio (d + 33) dt hI (dt 80) hM ((xs ((i + 1).toNat)).toInt) ⟨by omega, by omega⟩ ((xs ((i + 2).toNat)).toInt) ⟨by omega, by omega⟩ ((xs ((i + 3).toNat)).toInt) ⟨by omega, by omega⟩ ((xs ((i + 4).toNat)).toInt) ⟨by omega, by omega⟩ (by first | exact True.intro | with_reducible assumption | rfl | omega | trivial | exact hM2 | exact hd1 | exact hqo | exact halk | exact hav_)) ?_
  rintro _ _ ⟨dt6, rfl, hI7, hF8, h5⟩
  refine ⟨rfl, ?_⟩
  have hF9 : Fr [0, 1, 2, 3, 4, 5, 6, 7, 8, 9, 10, 11, 12, 13, 14, 15, 16, 17, 18, 19, 20, 21, 22, 23, 24, 25, 26, 27, 28, 29, 30, 31, 32, 33, 34, 35, 36, 37, 38, 39, 40, 41, 42, 43, 44, 45, 46, 47, 48, 49, 50, 51, 52, 53, 54, 55, 56, 57, 58, 59, 60, 61, 62, 63, 64, 65, 66, 67, 68, 69, 70, 71, 72, 73, 74, 75, 76, 77, 78, 79, 80, 81, 82, 83, 84, 85, 86, 87, 88, 89, 90, 91, 92, 93, 94, 95, 96, 97, 98, 99, 100, 101, 102, 103, 104] dt dt6 := Fr_tr hF hF8 (by decide)
  have hM10 : MW (dt6 80) := MW_fr hM hF8 (by decide)
  have w11 : dt6 1 0 = dt 1 0 := hF8 1 (by decide) 0
  have w12 : dt6 7 3 = dt 7 3 := hF8 7 (by decide) 3
  have w13 : dt6 10 3 = dt 10 3 := hF8 10 (by decide) 3
  have w14 : dt6 12 3 = dt 12 3 := hF8 12 (by decide) 3
  have w15 : dt6 14 3 = dt 14 3 := hF8 14 (by decide) 3
  have w16 : dt6 16 3 = dt 16 3 := hF8 16 (by decide) 3
  have w17 : dt6 18 0 = dt 18 0 := hF8 18 (by decide) 0
  have w18 : dt6 24 3 = dt 24 3 := hF8 24 (by decide) 3
  have w19 : dt6 27 3 = dt 27 3 := hF8 27 (by decide) 3
  have w20 : dt6 29 3 = dt 29 3 := hF8 29 (by decide) 3
  have w21 : dt6 31 3 = dt 31 3 := hF8 31 (by decide) 3
  have w22 : dt6 33 3 = dt 33 3 := hF8 33 (by decide) 3
  have w23 : dt6 0 2 = dt 0 2 := hF8 0 (by decide) 2
  have w24 : dt6 35 1 = dt 35 1 := hF8 35 (by decide) 1
  have w25 : dt6 35 2 = dt 35 2 := hF8 35 (by decide) 2
  have w26 : dt6 35 3 = dt 35 3 := hF8 35 (by decide) 3
  have w27 : dt6 80 0 = dt 80 0 := hF8 80 (by decide) 0
  have w28 : dt6 80 1 = dt 80 1 := hF8 80 (by decide) 1
  have w29 : dt6 80 2 = dt 80 2 := hF8 80 (by decide) 2
  have w30 : dt6 80 3 = dt 80 3 := hF8 80 (by decide) 3
  have w31 : dt6 80 4 = dt 80 4 := hF8 80 (by decide) 4
  have w32 : dt6 80 5 = dt 80 5 := hF8 80 (by decide) 5
  have w33 : dt6 81 0 = dt 81 0 := hF8 81 (by decide) 0
  have w34 : dt6 81 1 = dt 81 1 := hF8 81 (by decide) 1
  have w35 : dt6 81 2 = dt 81 2 := hF8 81 (by decide) 2
  have w36 : dt6 81 3 = dt 81 3 := hF8 81 (by decide) 3
  have w37 : dt6 81 4 = dt 81 4 := hF8 81 (by decide) 4
  have w38 : dt6 81 5 = dt 81 5 := hF8 81 (by decide) 5
  have w39 : dt6 79 2 = dt 79 2 := hF8 79 (by decide) 2
  have w40 : dt6 79 12 = dt 79 12 := hF8 79 (by decide) 12
  have w41 : dt6 79 19 = dt 79 19 := hF8 79 (by decide) 19
  have w42 : dt6 79 21 = dt 79 21 := hF8 79 (by decide) 21
  rcases h5 with ⟨rfl, h5⟩ | ⟨v_h5, rfl, h5r, h5⟩
  · skip
    have M243 : MW (dt6 81) := MW_frk hM2 hF8 (by decide)
    have C44 : ∀ j : Nat, dt6 2 j = dt 2 j := fun j => (hF8 2 (by decide) j).trans ((fun _ => rfl) j)
    have C45 : ∀ j : Nat, dt6 3 j = dt 3 j := fun j => (hF8 3 (by decide) j).trans ((fun _ => rfl) j)
    have C46 : ∀ j : Nat, dt6 4 j = dt 4 j := fun j => (hF8 4 (by decide) j).trans ((fun _ => rfl) j)
    have C47 : ∀ j : Nat, dt6 5 j = dt 5 j := fun j => (hF8 5 (by decide) j).trans ((fun _ => rfl) j)
    have C48 : ∀ j : Nat, dt6 6 j = dt 6 j := fun j => (hF8 6 (by decide) j).trans ((fun _ => rfl) j)
    have C49 : ∀ j : Nat, dt6 8 j = dt 8 j := fun j => (hF8 8 (by decide) j).trans ((fun _ => rfl) j)
    have C50 : ∀ j : Nat, dt6 9 j = dt 9 j := fun j => (hF8 9 (by decide) j).trans ((fun _ => rfl) j)
    have C51 : ∀ j : Nat, dt6 11 j = dt 11 j := fun j => (hF8 11 (by decide) j).trans ((fun _ => rfl) j)
    have C52 : ∀ j : Nat, dt6 19 j = dt 19 j := fun j => (hF8 19 (by decide) j).trans ((fun _ => rfl) j)
    have C53 : ∀ j : Nat, dt6 20 j = dt 20 j := fun j => (hF8 20 (by decide) j).trans ((fun _ => rfl) j)
    have C54 : ∀ j : Nat, dt6 21 j = dt 21 j := fun j => (hF8 21 (by decide) j).trans ((fun _ => rfl) j)
    have C55 : ∀ j : Nat, dt6 22 j = dt 22 j := fun j => (hF8 22 (by decide) j).trans ((fun _ => rfl) j)
    have C56 : ∀ j : Nat, dt6 23 j = dt 23 j := fun j => (hF8 23 (by decide) j).trans ((fun _ => rfl) j)
    have C57 : ∀ j : Nat, dt6 25 j = dt 25 j := fun j => (hF8 25 (by decide) j).trans ((fun _ => rfl) j)
    have C58 : ∀ j : Nat, dt6 26 j = dt 26 j := fun j => (hF8 26 (by decide) j).trans ((fun _ => rfl) j)
    have C59 : ∀ j : Nat, dt6 28 j = dt 28 j := fun j => (hF8 28 (by decide) j).trans ((fun _ => rfl) j)
    have C60 : ∀ j : Nat, dt6 13 j = dt 13 j := fun j => (hF8 13 (by decide) j).trans ((fun _ => rfl) j)
    have C61 : ∀ j : Nat, dt6 30 j = dt 30 j := fun j => (hF8 30 (by decide) j).trans ((fun _ => rfl) j)
    have C62 : ∀ j : Nat, dt6 36 j = dt 36 j := fun j => (hF8 36 (by decide) j).trans ((fun _ => rfl) j)
    have C63 : ∀ j : Nat, dt6 80 j = dt 80 j := fun j => (hF8 80 (by decide) j).trans ((fun _ => rfl) j)
    have C64 : ∀ j : Nat, dt6 81 j = dt 81 j := fun j => (hF8 81 (by decide) j).trans ((fun _ => rfl) j)
    have C65 : ∀ j : Nat, dt6 85 j = dt 85 j := fun j => (hF8 85 (by decide) j).trans ((fun _ => rfl) j)
    refine go_toq PM267 (k := 6) (pc' := 673) (L' := [some (.inr (.inr (some 3000))), some (.inr (.inr (some 0))), some (.inr (.inr (some 79))), some (.inl i)]) (st' := [.inl (i + 1), .inr (.inr (some 3000)), .inr (.inr (some 79))]) (w' := (SH, dt6)) rfl ?_
    have r66 := i32_R (xs ((i + 1).toNat))
    refine go_smpq PM267 (L' := [some (.inr (.inr (some 3000))), some (.inr (.inr (some 0))), some (.inr (.inr (some 79))), some (.inl i)]) (st' := [.inl ((xs ((i + 1).toNat)).toInt), .inr (.inr (some 79))]) (w' := (SH, dt6)) rfl rfl (s_iald (n := L) (f := fun j => (xs j).toInt) (am_scr hLL) ⟨by omega, by omega⟩) ?_
    refine go_toq PM267 (k := 4) (pc' := 678) (L' := [some (.inr (.inr (some 3000))), some (.inr (.inr (some 0))), some (.inr (.inr (some 79))), some (.inl i)]) (st' := [.inl (i + 2), .inr (.inr (some 3000)), .inl ((xs ((i + 1).toNat)).toInt), .inr (.inr (some 79))]) (w' := (SH, dt6)) rfl ?_
    have r67 := i32_R (xs ((i + 2).toNat))
    refine go_smpq PM267 (L' := [some (.inr (.inr (some 3000))), some (.inr (.inr (some 0))), some (.inr (.inr (some 79))), some (.inl i)]) (st' := [.inl ((xs ((i + 2).toNat)).toInt), .inl ((xs ((i + 1).toNat)).toInt), .inr (.inr (some 79))]) (w' := (SH, dt6)) rfl rfl (s_iald (n := L) (f := fun j => (xs j).toInt) (am_scr hLL) ⟨by omega, by omega⟩) ?_
    refine go_toq PM267 (k := 4) (pc' := 683) (L' := [some (.inr (.inr (some 3000))), some (.inr (.inr (some 0))), some (.inr (.inr (some 79))), some (.inl i)]) (st' := [.inl (i + 3), .inr (.inr (some 3000)), .inl ((xs ((i + 2).toNat)).toInt), .inl ((xs ((i + 1).toNat)).toInt), .inr (.inr (some 79))]) (w' := (SH, dt6)) rfl ?_
    have r68 := i32_R (xs ((i + 3).toNat))
    refine go_smpq PM267 (L' := [some (.inr (.inr (some 3000))), some (.inr (.inr (some 0))), some (.inr (.inr (some 79))), some (.inl i)]) (st' := [.inl ((xs ((i + 3).toNat)).toInt), .inl ((xs ((i + 2).toNat)).toInt), .inl ((xs ((i + 1).toNat)).toInt), .inr (.inr (some 79))]) (w' := (SH, dt6)) rfl rfl (s_iald (n := L) (f := fun j => (xs j).toInt) (am_scr hLL) ⟨by omega, by omega⟩) ?_
    refine go_toq PM267 (k := 4) (pc' := 688) (L' := [some (.inr (.inr (some 3000))), some (.inr (.inr (some 0))), some (.inr (.inr (some 79))), some (.inl i)]) (st' := [.inl (i + 4), .inr (.inr (some 3000)), .inl ((xs ((i + 3).toNat)).toInt), .inl ((xs ((i + 2).toNat)).toInt), .inl ((xs ((i + 1).toNat)).toInt), .inr (.inr (some 79))]) (w' := (SH, dt6)) rfl ?_
    have r69 := i32_R (xs ((i + 4).toNat))
    refine go_smpq PM267 (L' := [some (.inr (.inr (some 3000))), some (.inr (.inr (some 0))), some (.inr (.inr (some 79))), some (.inl i)]) (st' := [.inl ((xs ((i + 4).toNat)).toInt), .inl ((xs ((i + 3).toNat)).toInt), .inl ((xs ((i + 2).toNat)).toInt), .inl ((xs ((i + 1).toNat)).toInt), .inr (.inr (some 79))]) (w' := (SH, dt6)) rfl rfl (s_iald (n := L) (f := fun j => (xs j).toInt) (am_scr hLL) ⟨by omega, by omega⟩) ?_
    refine go_callq PM267 PM207 (Q' := _) rfl rfl rfl rfl (sp_X6_weight_f L xs sio (d + 32) dt6 hI7 hM10  ((xs ((i + 1).toNat)).toInt) ⟨by omega, by omega⟩ ((xs ((i + 2).toNat)).toInt) ⟨by omega, by omega⟩ ((xs ((i + 3).toNat)).toInt) ⟨by omega, by omega⟩ ((xs ((i + 4).toNat)).toInt) ⟨by omega, by omega⟩ ) ?_
    rintro _ _ ⟨dt71, rfl, hI72, hF73, h70⟩
    refine ⟨rfl, ?_⟩
    have hF74 : Fr [0, 1, 2, 3, 4, 5, 6, 7, 8, 9, 10, 11, 12, 13, 14, 15, 16, 17, 18, 19, 20, 21, 22, 23, 24, 25, 26, 27, 28, 29, 30, 31, 32, 33, 34, 35, 36, 37, 38, 39, 40, 41, 42, 43, 44, 45, 46, 47, 48, 49, 50, 51, 52, 53, 54, 55, 56, 57, 58, 59, 60, 61, 62, 63, 64, 65, 66, 67, 68, 69, 70, 71, 72, 73, 74, 75, 76, 77, 78, 79, 80, 81, 82, 83, 84, 85, 86, 87, 88, 89, 90, 91, 92, 93, 94, 95, 96, 97, 98, 99, 100, 101, 102, 103, 104] dt dt71 := Fr_tr hF9 hF73 (by decide)
    have hM75 : MW (dt71 80) := MW_fr hM10 hF73 (by decide)
    have w76 : dt71 1 0 = dt 1 0 := (hF73 1 (by decide) 0).trans w11
    have w77 : dt71 7 3 = dt 7 3 := (hF73 7 (by decide) 3).trans w12
    have w78 : dt71 10 3 = dt 10 3 := (hF73 10 (by decide) 3).trans w13
    have w79 : dt71 12 3 = dt 12 3 := (hF73 12 (by decide) 3).trans w14
    have w80 : dt71 14 3 = dt 14 3 := (hF73 14 (by decide) 3).trans w15
    have w81 : dt71 16 3 = dt 16 3 := (hF73 16 (by decide) 3).trans w16
    have w82 : dt71 18 0 = dt 18 0 := (hF73 18 (by decide) 0).trans w17
    have w83 : dt71 24 3 = dt 24 3 := (hF73 24 (by decide) 3).trans w18
    have w84 : dt71 27 3 = dt 27 3 := (hF73 27 (by decide) 3).trans w19
    have w85 : dt71 29 3 = dt 29 3 := (hF73 29 (by decide) 3).trans w20
    have w86 : dt71 31 3 = dt 31 3 := (hF73 31 (by decide) 3).trans w21
    have w87 : dt71 33 3 = dt 33 3 := (hF73 33 (by decide) 3).trans w22
    have w88 : dt71 0 2 = dt 0 2 := (hF73 0 (by decide) 2).trans w23
    have w89 : dt71 35 1 = dt 35 1 := (hF73 35 (by decide) 1).trans w24
    have w90 : dt71 35 2 = dt 35 2 := (hF73 35 (by decide) 2).trans w25
    have w91 : dt71 35 3 = dt 35 3 := (hF73 35 (by decide) 3).trans w26
    have w92 : dt71 80 0 = dt 80 0 := (hF73 80 (by decide) 0).trans w27
    have w93 : dt71 80 1 = dt 80 1 := (hF73 80 (by decide) 1).trans w28
    have w94 : dt71 80 2 = dt 80 2 := (hF73 80 (by decide) 2).trans w29
    have w95 : dt71 80 3 = dt 80 3 := (hF73 80 (by decide) 3).trans w30
    have w96 : dt71 80 4 = dt 80 4 := (hF73 80 (by decide) 4).trans w31
    have w97 : dt71 80 5 = dt 80 5 := (hF73 80 (by decide) 5).trans w32
    have w98 : dt71 81 0 = dt 81 0 := (hF73 81 (by decide) 0).trans w33
    have w99 : dt71 81 1 = dt 81 1 := (hF73 81 (by decide) 1).trans w34
    have w100 : dt71 81 2 = dt 81 2 := (hF73 81 (by decide) 2).trans w35
    have w101 : dt71 81 3 = dt 81 3 := (hF73 81 (by decide) 3).trans w36
    have w102 : dt71 81 4 = dt 81 4 := (hF73 81 (by decide) 4).trans w37
    have w103 : dt71 81 5 = dt 81 5 := (hF73 81 (by decide) 5).trans w38
    have w104 : dt71 79 2 = dt 79 2 := (hF73 79 (by decide) 2).trans w39
    have w105 : dt71 79 12 = dt 79 12 := (hF73 79 (by decide) 12).trans w40
    have w106 : dt71 79 19 = dt 79 19 := (hF73 79 (by decide) 19).trans w41
    have w107 : dt71 79 21 = dt 79 21 := (hF73 79 (by decide) 21).trans w42
    rcases h70 with ⟨rfl, h70⟩ | ⟨v_h70, rfl, h70r, h70⟩
    · skip
      have M2108 : MW (dt71 81) := MW_frk M243 hF73 (by decide)
      have C109 : ∀ j : Nat, dt71 2 j = dt 2 j := fun j => (hF73 2 (by decide) j).trans (C44 j)
      have C110 : ∀ j : Nat, dt71 3 j = dt 3 j := fun j => (hF73 3 (by decide) j).trans (C45 j)
      have C111 : ∀ j : Nat, dt71 4 j = dt 4 j := fun j => (hF73 4 (by decide) j).trans (C46 j)
      have C112 : ∀ j : Nat, dt71 5 j = dt 5 j := fun j => (hF73 5 (by decide) j).trans (C47 j)
      have C113 : ∀ j : Nat, dt71 6 j = dt 6 j := fun j => (hF73 6 (by decide) j).trans (C48 j)
      have C114 : ∀ j : Nat, dt71 8 j = dt 8 j := fun j => (hF73 8 (by decide) j).trans (C49 j)
      have C115 : ∀ j : Nat, dt71 9 j = dt 9 j := fun j => (hF73 9 (by decide) j).trans (C50 j)
      have C116 : ∀ j : Nat, dt71 11 j = dt 11 j := fun j => (hF73 11 (by decide) j).trans (C51 j)
      have C117 : ∀ j : Nat, dt71 19 j = dt 19 j := fun j => (hF73 19 (by decide) j).trans (C52 j)
      have C118 : ∀ j : Nat, dt71 20 j = dt 20 j := fun j => (hF73 20 (by decide) j).trans (C53 j)
      have C119 : ∀ j : Nat, dt71 21 j = dt 21 j := fun j => (hF73 21 (by decide) j).trans (C54 j)
      have C120 : ∀ j : Nat, dt71 22 j = dt 22 j := fun j => (hF73 22 (by decide) j).trans (C55 j)
      have C121 : ∀ j : Nat, dt71 23 j = dt 23 j := fun j => (hF73 23 (by decide) j).trans (C56 j)
      have C122 : ∀ j : Nat, dt71 25 j = dt 25 j := fun j => (hF73 25 (by decide) j).trans (C57 j)
      have C123 : ∀ j : Nat, dt71 26 j = dt 26 j := fun j => (hF73 26 (by decide) j).trans (C58 j)
      have C124 : ∀ j : Nat, dt71 28 j = dt 28 j := fun j => (hF73 28 (by decide) j).trans (C59 j)
      have C125 : ∀ j : Nat, dt71 13 j = dt 13 j := fun j => (hF73 13 (by decide) j).trans (C60 j)
      have C126 : ∀ j : Nat, dt71 30 j = dt 30 j := fun j => (hF73 30 (by decide) j).trans (C61 j)
      have C127 : ∀ j : Nat, dt71 36 j = dt 36 j := fun j => (hF73 36 (by decide) j).trans (C62 j)
      have C128 : ∀ j : Nat, dt71 80 j = dt 80 j := fun j => (hF73 80 (by decide) j).trans (C63 j)
      have C129 : ∀ j : Nat, dt71 81 j = dt 81 j := fun j => (hF73 81 (by decide) j).trans (C64 j)
      have C130 : ∀ j : Nat, dt71 85 j = dt 85 j := fun j => (hF73 85 (by decide) j).trans (C65 j)
      refine go_toq PM267 (k := 2) (pc' := 1435) (L' := [some (.inr (.inr (some 3000))), some (.inr (.inr (some 0))), some (.inr (.inr (some 79))), some (.inl i)]) (st' := []) (w' := (SH, dt71)) rfl ?_
      exact K dt71 hI72 hM75 M2108 (w76.trans (hk0.trans w92.symm)) (w77.trans (hk1.trans w93.symm)) (w78.trans (hk2.trans w94.symm)) (w79.trans (hk3.trans w95.symm)) (w80.trans (hk4.trans w96.symm)) (w81.trans (hk5.trans w97.symm)) (w82.trans (hk6.trans w98.symm)) (w83.trans (hk7.trans w99.symm)) (w84.trans (hk8.trans w100.symm)) (w85.trans (hk9.trans w101.symm)) (w86.trans (hk10.trans w102.symm)) (w87.trans (hk11.trans w103.symm)) (w88.trans (hk12.trans w104.symm)) (w89.trans (hk13.trans w105.symm)) (w90.trans (hk14.trans w106.symm)) (w91.trans (hk15.trans w107.symm)) (by first | exact hI | exact TPL_k hd0 C127 C130 (by omega) | (exfalso; omega)) (by first | exact hI | exact SCL_k hd1 hM (fun j _ => C109 j) (fun j _ => C110 j) (fun j _ _ => C128 j) | (exfalso; omega)) (by first | exact hI | exact SCL_k hd2 hM2 (fun j _ => C117 j) (fun j _ => C118 j) (fun j _ _ => C129 j) | (exfalso; omega)) (by first | exact hI | exact QRL_k hd3 hM (fun j _ => C114 j) (C128 1) (fun j _ _ => C128 j) | (exfalso; omega)) (by first | exact hI | exact QRL_k hd4 hM2 (fun j _ => C122 j) (C129 1) (fun j _ _ => C129 j) | (exfalso; omega)) (by first | exact hI | exact SDL_k hd5 hM (fun j _ => C115 j) (C128 1) (fun j _ _ => C128 j) (fun j _ _ => C128 j) | (exfalso; omega)) (by first | exact hI | exact SDL_k hd6 hM2 (fun j _ => C123 j) (C129 1) (fun j _ _ => C129 j) (fun j _ _ => C129 j) | (exfalso; omega)) (by first | exact hI | exact LWL_k hd7 hM (fun j _ => C111 j) (fun j _ => C112 j) (fun j _ => C113 j) (fun j _ _ => C128 j) | (exfalso; omega)) (by first | exact hI | exact LWL_k hd8 hM2 (fun j _ => C119 j) (fun j _ => C120 j) (fun j _ => C121 j) (fun j _ _ => C129 j) | (exfalso; omega)) (by first | exact hI | exact CHL_k hd9 hM (fun j _ => C116 j) (by omega) (fun j _ _ => C128 j) | (exfalso; omega)) (by first | exact hI | exact CHL_k hd10 hM2 (fun j _ => C124 j) (by omega) (fun j _ _ => C129 j) | (exfalso; omega)) (by first | exact hI | exact ANL_k hd11 hM (fun j _ => C125 j) (by omega) (by omega) (by omega) (fun j _ _ => C128 j) | (exfalso; omega)) (by first | exact hI | exact ANL_k hd12 hM2 (fun j _ => C126 j) (by omega) (by omega) (by omega) (fun j _ _ => C129 j) | (exfalso; omega))
    · skip
      obtain ⟨h70_0, h70_1⟩ := h70
      have M2131 : MW (dt71 81) := MW_frk M243 hF73 (by decide)
      rw [show dt6 80 = dt 80 from funext C63] at h70_1
      have C132 : ∀ j : Nat, dt71 2 j = dt 2 j := fun j => (hF73 2 (by decide) j).trans (C44 j)
      have C133 : ∀ j : Nat, dt71 3 j = dt 3 j := fun j => (hF73 3 (by decide) j).trans (C45 j)
      have C134 : ∀ j : Nat, dt71 4 j = dt 4 j := fun j => (hF73 4 (by decide) j).trans (C46 j)
      have C135 : ∀ j : Nat, dt71 5 j = dt 5 j := fun j => (hF73 5 (by decide) j).trans (C47 j)
      have C136 : ∀ j : Nat, dt71 6 j = dt 6 j := fun j => (hF73 6 (by decide) j).trans (C48 j)
      have C137 : ∀ j : Nat, dt71 8 j = dt 8 j := fun j => (hF73 8 (by decide) j).trans (C49 j)
      have C138 : ∀ j : Nat, dt71 9 j = dt 9 j := fun j => (hF73 9 (by decide) j).trans (C50 j)
      have C139 : ∀ j : Nat, dt71 11 j = dt 11 j := fun j => (hF73 11 (by decide) j).trans (C51 j)
      have C140 : ∀ j : Nat, dt71 19 j = dt 19 j := fun j => (hF73 19 (by decide) j).trans (C52 j)
      have C141 : ∀ j : Nat, dt71 20 j = dt 20 j := fun j => (hF73 20 (by decide) j).trans (C53 j)
      have C142 : ∀ j : Nat, dt71 21 j = dt 21 j := fun j => (hF73 21 (by decide) j).trans (C54 j)
      have C143 : ∀ j : Nat, dt71 22 j = dt 22 j := fun j => (hF73 22 (by decide) j).trans (C55 j)
      have C144 : ∀ j : Nat, dt71 23 j = dt 23 j := fun j => (hF73 23 (by decide) j).trans (C56 j)
      have C145 : ∀ j : Nat, dt71 25 j = dt 25 j := fun j => (hF73 25 (by decide) j).trans (C57 j)
      have C146 : ∀ j : Nat, dt71 26 j = dt 26 j := fun j => (hF73 26 (by decide) j).trans (C58 j)
      have C147 : ∀ j : Nat, dt71 28 j = dt 28 j := fun j => (hF73 28 (by decide) j).trans (C59 j)
      have C148 : ∀ j : Nat, dt71 13 j = dt 13 j := fun j => (hF73 13 (by decide) j).trans (C60 j)
      have C149 : ∀ j : Nat, dt71 30 j = dt 30 j := fun j => (hF73 30 (by decide) j).trans (C61 j)
      have C150 : ∀ j : Nat, dt71 36 j = dt 36 j := fun j => (hF73 36 (by decide) j).trans (C62 j)
      have C151 : ∀ j : Nat, dt71 80 j = dt 80 j := fun j => (hF73 80 (by decide) j).trans (C63 j)
      have C152 : ∀ j : Nat, dt71 81 j = dt 81 j := fun j => (hF73 81 (by decide) j).trans (C64 j)
      have C153 : ∀ j : Nat, dt71 85 j = dt 85 j := fun j => (hF73 85 (by decide) j).trans (C65 j)
      refine go_toq PM267 (k := 2) (pc' := 1435) (L' := [some (.inr (.inr (some 3000))), some (.inr (.inr (some 0))), some (.inr (.inr (some 79))), some (.inl i)]) (st' := []) (w' := (SH, dt71)) rfl ?_
      exact K dt71 hI72 hM75 M2131 (w76.trans (hk0.trans w92.symm)) (w77.trans (hk1.trans w93.symm)) (w78.trans (hk2.trans w94.symm)) (w79.trans (hk3.trans w95.symm)) (w80.trans (hk4.trans w96.symm)) (w81.trans (hk5.trans w97.symm)) (w82.trans (hk6.trans w98.symm)) (w83.trans (hk7.trans w99.symm)) (w84.trans (hk8.trans w100.symm)) (w85.trans (hk9.trans w101.symm)) (w86.trans (hk10.trans w102.symm)) (w87.trans (hk11.trans w103.symm)) (w88.trans (hk12.trans w104.symm)) (w89.trans (hk13.trans w105.symm)) (w90.trans (hk14.trans w106.symm)) (w91.trans (hk15.trans w107.symm)) (by first | exact hI | exact TPL_k hd0 C150 C153 (by omega) | (exfalso; omega)) (by first | exact hI | exact SCL_k hd1 hM (fun j _ => C132 j) (fun j _ => C133 j) (fun j _ _ => C151 j) | (exfalso; omega)) (by first | exact hI | exact SCL_k hd2 hM2 (fun j _ => C140 j) (fun j _ => C141 j) (fun j _ _ => C152 j) | (exfalso; omega)) (by first | exact hI | exact QRL_k hd3 hM (fun j _ => C137 j) (C151 1) (fun j _ _ => C151 j) | (exfalso; omega)) (by first | exact hI | exact QRL_k hd4 hM2 (fun j _ => C145 j) (C152 1) (fun j _ _ => C152 j) | (exfalso; omega)) (by first | exact hI | exact SDL_k hd5 hM (fun j _ => C138 j) (C151 1) (fun j _ _ => C151 j) (fun j _ _ => C151 j) | (exfalso; omega)) (by first | exact hI | exact SDL_k hd6 hM2 (fun j _ => C146 j) (C152 1) (fun j _ _ => C152 j) (fun j _ _ => C152 j) | (exfalso; omega)) (by first | exact hI | exact LWL_k hd7 hM (fun j _ => C134 j) (fun j _ => C135 j) (fun j _ => C136 j) (fun j _ _ => C151 j) | (exfalso; omega)) (by first | exact hI | exact LWL_k hd8 hM2 (fun j _ => C142 j) (fun j _ => C143 j) (fun j _ => C144 j) (fun j _ _ => C152 j) | (exfalso; omega)) (by first | exact hI | exact CHL_k hd9 hM (fun j _ => C139 j) (by omega) (fun j _ _ => C151 j) | (exfalso; omega)) (by first | exact hI | exact CHL_k hd10 hM2 (fun j _ => C147 j) (by omega) (fun j _ _ => C152 j) | (exfalso; omega)) (by first | exact hI | exact ANL_k hd11 hM (fun j _ => C148 j) (by omega) (by omega) (by omega) (fun j _ _ => C151 j) | (exfalso; omega)) (by first | exact hI | exact ANL_k hd12 hM2 (fun j _ => C149 j) (by omega) (by omega) (by omega) (fun j _ _ => C152 j) | (exfalso; omega))
  · skip
    obtain ⟨h5_0, h5_1⟩ := h5
    have M2154 : MW (dt6 81) := MW_frk hM2 hF8 (by decide)
    have C155 : ∀ j : Nat, dt6 2 j = dt 2 j := fun j => (hF8 2 (by decide) j).trans ((fun _ => rfl) j)
    have C156 : ∀ j : Nat, dt6 3 j = dt 3 j := fun j => (hF8 3 (by decide) j).trans ((fun _ => rfl) j)
    have C157 : ∀ j : Nat, dt6 4 j = dt 4 j := fun j => (hF8 4 (by decide) j).trans ((fun _ => rfl) j)
    have C158 : ∀ j : Nat, dt6 5 j = dt 5 j := fun j => (hF8 5 (by decide) j).trans ((fun _ => rfl) j)
    have C159 : ∀ j : Nat, dt6 6 j = dt 6 j := fun j => (hF8 6 (by decide) j).trans ((fun _ => rfl) j)
    have C160 : ∀ j : Nat, dt6 8 j = dt 8 j := fun j => (hF8 8 (by decide) j).trans ((fun _ => rfl) j)
    have C161 : ∀ j : Nat, dt6 9 j = dt 9 j := fun j => (hF8 9 (by decide) j).trans ((fun _ => rfl) j)
    have C162 : ∀ j : Nat, dt6 11 j = dt 11 j := fun j => (hF8 11 (by decide) j).trans ((fun _ => rfl) j)
    have C163 : ∀ j : Nat, dt6 19 j = dt 19 j := fun j => (hF8 19 (by decide) j).trans ((fun _ => rfl) j)
    have C164 : ∀ j : Nat, dt6 20 j = dt 20 j := fun j => (hF8 20 (by decide) j).trans ((fun _ => rfl) j)
    have C165 : ∀ j : Nat, dt6 21 j = dt 21 j := fun j => (hF8 21 (by decide) j).trans ((fun _ => rfl) j)
    have C166 : ∀ j : Nat, dt6 22 j = dt 22 j := fun j => (hF8 22 (by decide) j).trans ((fun _ => rfl) j)
    have C167 : ∀ j : Nat, dt6 23 j = dt 23 j := fun j => (hF8 23 (by decide) j).trans ((fun _ => rfl) j)
    have C168 : ∀ j : Nat, dt6 25 j = dt 25 j := fun j => (hF8 25 (by decide) j).trans ((fun _ => rfl) j)
    have C169 : ∀ j : Nat, dt6 26 j = dt 26 j := fun j => (hF8 26 (by decide) j).trans ((fun _ => rfl) j)
    have C170 : ∀ j : Nat, dt6 28 j = dt 28 j := fun j => (hF8 28 (by decide) j).trans ((fun _ => rfl) j)
    have C171 : ∀ j : Nat, dt6 13 j = dt 13 j := fun j => (hF8 13 (by decide) j).trans ((fun _ => rfl) j)
    have C172 : ∀ j : Nat, dt6 30 j = dt 30 j := fun j => (hF8 30 (by decide) j).trans ((fun _ => rfl) j)
    have C173 : ∀ j : Nat, dt6 36 j = dt 36 j := fun j => (hF8 36 (by decide) j).trans ((fun _ => rfl) j)
    have C174 : ∀ j : Nat, dt6 80 j = dt 80 j := fun j => (hF8 80 (by decide) j).trans ((fun _ => rfl) j)
    have C175 : ∀ j : Nat, dt6 81 j = dt 81 j := fun j => (hF8 81 (by decide) j).trans ((fun _ => rfl) j)
    have C176 : ∀ j : Nat, dt6 85 j = dt 85 j := fun j => (hF8 85 (by decide) j).trans ((fun _ => rfl) j)
    refine go_toq PM267 (k := 6) (pc' := 673) (L' := [some (.inr (.inr (some 3000))), some (.inr (.inr (some 0))), some (.inr (.inr (some 79))), some (.inl i)]) (st' := [.inl (i + 1), .inr (.inr (some 3000)), .inr (.inr (some 79))]) (w' := (SH, dt6)) rfl ?_
    have r177 := i32_R (xs ((i + 1).toNat))
    refine go_smpq PM267 (L' := [some (.inr (.inr (some 3000))), some (.inr (.inr (some 0))), some (.inr (.inr (some 79))), some (.inl i)]) (st' := [.inl ((xs ((i + 1).toNat)).toInt), .inr (.inr (some 79))]) (w' := (SH, dt6)) rfl rfl (s_iald (n := L) (f := fun j => (xs j).toInt) (am_scr hLL) ⟨by omega, by omega⟩) ?_
    refine go_toq PM267 (k := 4) (pc' := 678) (L' := [some (.inr (.inr (some 3000))), some (.inr (.inr (some 0))), some (.inr (.inr (some 79))), some (.inl i)]) (st' := [.inl (i + 2), .inr (.inr (some 3000)), .inl ((xs ((i + 1).toNat)).toInt), .inr (.inr (some 79))]) (w' := (SH, dt6)) rfl ?_
    have r178 := i32_R (xs ((i + 2).toNat))
    refine go_smpq PM267 (L' := [some (.inr (.inr (some 3000))), some (.inr (.inr (some 0))), some (.inr (.inr (some 79))), some (.inl i)]) (st' := [.inl ((xs ((i + 2).toNat)).toInt), .inl ((xs ((i + 1).toNat)).toInt), .inr (.inr (some 79))]) (w' := (SH, dt6)) rfl rfl (s_iald (n := L) (f := fun j => (xs j).toInt) (am_scr hLL) ⟨by omega, by omega⟩) ?_
    refine go_toq PM267 (k := 4) (pc' := 683) (L' := [some (.inr (.inr (some 3000))), some (.inr (.inr (some 0))), some (.inr (.inr (some 79))), some (.inl i)]) (st' := [.inl (i + 3), .inr (.inr (some 3000)), .inl ((xs ((i + 2).toNat)).toInt), .inl ((xs ((i + 1).toNat)).toInt), .inr (.inr (some 79))]) (w' := (SH, dt6)) rfl ?_
    have r179 := i32_R (xs ((i + 3).toNat))
    refine go_smpq PM267 (L' := [some (.inr (.inr (some 3000))), some (.inr (.inr (some 0))), some (.inr (.inr (some 79))), some (.inl i)]) (st' := [.inl ((xs ((i + 3).toNat)).toInt), .inl ((xs ((i + 2).toNat)).toInt), .inl ((xs ((i + 1).toNat)).toInt), .inr (.inr (some 79))]) (w' := (SH, dt6)) rfl rfl (s_iald (n := L) (f := fun j => (xs j).toInt) (am_scr hLL) ⟨by omega, by omega⟩) ?_
    refine go_toq PM267 (k := 4) (pc' := 688) (L' := [some (.inr (.inr (some 3000))), some (.inr (.inr (some 0))), some (.inr (.inr (some 79))), some (.inl i)]) (st' := [.inl (i + 4), .inr (.inr (some 3000)), .inl ((xs ((i + 3).toNat)).toInt), .inl ((xs ((i + 2).toNat)).toInt), .inl ((xs ((i + 1).toNat)).toInt), .inr (.inr (some 79))]) (w' := (SH, dt6)) rfl ?_
    have r180 := i32_R (xs ((i + 4).toNat))
    refine go_smpq PM267 (L' := [some (.inr (.inr (some 3000))), some (.inr (.inr (some 0))), some (.inr (.inr (some 79))), some (.inl i)]) (st' := [.inl ((xs ((i + 4).toNat)).toInt), .inl ((xs ((i + 3).toNat)).toInt), .inl ((xs ((i + 2).toNat)).toInt), .inl ((xs ((i + 1).toNat)).toInt), .inr (.inr (some 79))]) (w' := (SH, dt6)) rfl rfl (s_iald (n := L) (f := fun j => (xs j).toInt) (am_scr hLL) ⟨by omega, by omega⟩) ?_
    refine go_callq PM267 PM207 (Q' := _) rfl rfl rfl rfl (sp_X6_weight_f L xs sio (d + 32) dt6 hI7 hM10  ((xs ((i + 1).toNat)).toInt) ⟨by omega, by omega⟩ ((xs ((i + 2).toNat)).toInt) ⟨by omega, by omega⟩ ((xs ((i + 3).toNat)).toInt) ⟨by omega, by omega⟩ ((xs ((i + 4).toNat)).toInt) ⟨by omega, by omega⟩ ) ?_
    rintro _ _ ⟨dt182, rfl, hI183, hF184, h181⟩
    refine ⟨rfl, ?_⟩
    have hF185 : Fr [0, 1, 2, 3, 4, 5, 6, 7, 8, 9, 10, 11, 12, 13, 14, 15, 16, 17, 18, 19, 20, 21, 22, 23, 24, 25, 26, 27, 28, 29, 30, 31, 32, 33, 34, 35, 36, 37, 38, 39, 40, 41, 42, 43, 44, 45, 46, 47, 48, 49, 50, 51, 52, 53, 54, 55, 56, 57, 58, 59, 60, 61, 62, 63, 64, 65, 66, 67, 68, 69, 70, 71, 72, 73, 74, 75, 76, 77, 78, 79, 80, 81, 82, 83, 84, 85, 86, 87, 88, 89, 90, 91, 92, 93, 94, 95, 96, 97, 98, 99, 100, 101, 102, 103, 104] dt dt182 := Fr_tr hF9 hF184 (by decide)
    have hM186 : MW (dt182 80) := MW_fr hM10 hF184 (by decide)
    have w187 : dt182 1 0 = dt 1 0 := (hF184 1 (by decide) 0).trans w11
    have w188 : dt182 7 3 = dt 7 3 := (hF184 7 (by decide) 3).trans w12
    have w189 : dt182 10 3 = dt 10 3 := (hF184 10 (by decide) 3).trans w13
    have w190 : dt182 12 3 = dt 12 3 := (hF184 12 (by decide) 3).trans w14
    have w191 : dt182 14 3 = dt 14 3 := (hF184 14 (by decide) 3).trans w15
    have w192 : dt182 16 3 = dt 16 3 := (hF184 16 (by decide) 3).trans w16
    have w193 : dt182 18 0 = dt 18 0 := (hF184 18 (by decide) 0).trans w17
    have w194 : dt182 24 3 = dt 24 3 := (hF184 24 (by decide) 3).trans w18
    have w195 : dt182 27 3 = dt 27 3 := (hF184 27 (by decide) 3).trans w19
    have w196 : dt182 29 3 = dt 29 3 := (hF184 29 (by decide) 3).trans w20
    have w197 : dt182 31 3 = dt 31 3 := (hF184 31 (by decide) 3).trans w21
    have w198 : dt182 33 3 = dt 33 3 := (hF184 33 (by decide) 3).trans w22
    have w199 : dt182 0 2 = dt 0 2 := (hF184 0 (by decide) 2).trans w23
    have w200 : dt182 35 1 = dt 35 1 := (hF184 35 (by decide) 1).trans w24
    have w201 : dt182 35 2 = dt 35 2 := (hF184 35 (by decide) 2).trans w25
    have w202 : dt182 35 3 = dt 35 3 := (hF184 35 (by decide) 3).trans w26
    have w203 : dt182 80 0 = dt 80 0 := (hF184 80 (by decide) 0).trans w27
    have w204 : dt182 80 1 = dt 80 1 := (hF184 80 (by decide) 1).trans w28
    have w205 : dt182 80 2 = dt 80 2 := (hF184 80 (by decide) 2).trans w29
    have w206 : dt182 80 3 = dt 80 3 := (hF184 80 (by decide) 3).trans w30
    have w207 : dt182 80 4 = dt 80 4 := (hF184 80 (by decide) 4).trans w31
    have w208 : dt182 80 5 = dt 80 5 := (hF184 80 (by decide) 5).trans w32
    have w209 : dt182 81 0 = dt 81 0 := (hF184 81 (by decide) 0).trans w33
    have w210 : dt182 81 1 = dt 81 1 := (hF184 81 (by decide) 1).trans w34
    have w211 : dt182 81 2 = dt 81 2 := (hF184 81 (by decide) 2).trans w35
    have w212 : dt182 81 3 = dt 81 3 := (hF184 81 (by decide) 3).trans w36
    have w213 : dt182 81 4 = dt 81 4 := (hF184 81 (by decide) 4).trans w37
    have w214 : dt182 81 5 = dt 81 5 := (hF184 81 (by decide) 5).trans w38
    have w215 : dt182 79 2 = dt 79 2 := (hF184 79 (by decide) 2).trans w39
    have w216 : dt182 79 12 = dt 79 12 := (hF184 79 (by decide) 12).trans w40
    have w217 : dt182 79 19 = dt 79 19 := (hF184 79 (by decide) 19).trans w41
    have w218 : dt182 79 21 = dt 79 21 := (hF184 79 (by decide) 21).trans w42
    rcases h181 with ⟨rfl, h181⟩ | ⟨v_h181, rfl, h181r, h181⟩
    · skip
      have M2219 : MW (dt182 81) := MW_frk M2154 hF184 (by decide)
      have C220 : ∀ j : Nat, dt182 2 j = dt 2 j := fun j => (hF184 2 (by decide) j).trans (C155 j)
      have C221 : ∀ j : Nat, dt182 3 j = dt 3 j := fun j => (hF184 3 (by decide) j).trans (C156 j)
      have C222 : ∀ j : Nat, dt182 4 j = dt 4 j := fun j => (hF184 4 (by decide) j).trans (C157 j)
      have C223 : ∀ j : Nat, dt182 5 j = dt 5 j := fun j => (hF184 5 (by decide) j).trans (C158 j)
      have C224 : ∀ j : Nat, dt182 6 j = dt 6 j := fun j => (hF184 6 (by decide) j).trans (C159 j)
      have C225 : ∀ j : Nat, dt182 8 j = dt 8 j := fun j => (hF184 8 (by decide) j).trans (C160 j)
      have C226 : ∀ j : Nat, dt182 9 j = dt 9 j := fun j => (hF184 9 (by decide) j).trans (C161 j)
      have C227 : ∀ j : Nat, dt182 11 j = dt 11 j := fun j => (hF184 11 (by decide) j).trans (C162 j)
      have C228 : ∀ j : Nat, dt182 19 j = dt 19 j := fun j => (hF184 19 (by decide) j).trans (C163 j)
      have C229 : ∀ j : Nat, dt182 20 j = dt 20 j := fun j => (hF184 20 (by decide) j).trans (C164 j)
      have C230 : ∀ j : Nat, dt182 21 j = dt 21 j := fun j => (hF184 21 (by decide) j).trans (C165 j)
      have C231 : ∀ j : Nat, dt182 22 j = dt 22 j := fun j => (hF184 22 (by decide) j).trans (C166 j)
      have C232 : ∀ j : Nat, dt182 23 j = dt 23 j := fun j => (hF184 23 (by decide) j).trans (C167 j)
      have C233 : ∀ j : Nat, dt182 25 j = dt 25 j := fun j => (hF184 25 (by decide) j).trans (C168 j)
      have C234 : ∀ j : Nat, dt182 26 j = dt 26 j := fun j => (hF184 26 (by decide) j).trans (C169 j)
      have C235 : ∀ j : Nat, dt182 28 j = dt 28 j := fun j => (hF184 28 (by decide) j).trans (C170 j)
      have C236 : ∀ j : Nat, dt182 13 j = dt 13 j := fun j => (hF184 13 (by decide) j).trans (C171 j)
      have C237 : ∀ j : Nat, dt182 30 j = dt 30 j := fun j => (hF184 30 (by decide) j).trans (C172 j)
      have C238 : ∀ j : Nat, dt182 36 j = dt 36 j := fun j => (hF184 36 (by decide) j).trans (C173 j)
      have C239 : ∀ j : Nat, dt182 80 j = dt 80 j := fun j => (hF184 80 (by decide) j).trans (C174 j)
      have C240 : ∀ j : Nat, dt182 81 j = dt 81 j := fun j => (hF184 81 (by decide) j).trans (C175 j)
      have C241 : ∀ j : Nat, dt182 85 j = dt 85 j := fun j => (hF184 85 (by decide) j).trans (C176 j)
      refine go_toq PM267 (k := 2) (pc' := 1435) (L' := [some (.inr (.inr (some 3000))), some (.inr (.inr (some 0))), some (.inr (.inr (some 79))), some (.inl i)]) (st' := []) (w' := (SH, dt182)) rfl ?_
      exact K dt182 hI183 hM186 M2219 (w187.trans (hk0.trans w203.symm)) (w188.trans (hk1.trans w204.symm)) (w189.trans (hk2.trans w205.symm)) (w190.trans (hk3.trans w206.symm)) (w191.trans (hk4.trans w207.symm)) (w192.trans (hk5.trans w208.symm)) (w193.trans (hk6.trans w209.symm)) (w194.trans (hk7.trans w210.symm)) (w195.trans (hk8.trans w211.symm)) (w196.trans (hk9.trans w212.symm)) (w197.trans (hk10.trans w213.symm)) (w198.trans (hk11.trans w214.symm)) (w199.trans (hk12.trans w215.symm)) (w200.trans (hk13.trans w216.symm)) (w201.trans (hk14.trans w217.symm)) (w202.trans (hk15.trans w218.symm)) (by first | exact hI | exact TPL_k hd0 C238 C241 (by omega) | (exfalso; omega)) (by first | exact hI | exact SCL_k hd1 hM (fun j _ => C220 j) (fun j _ => C221 j) (fun j _ _ => C239 j) | (exfalso; omega)) (by first | exact hI | exact SCL_k hd2 hM2 (fun j _ => C228 j) (fun j _ => C229 j) (fun j _ _ => C240 j) | (exfalso; omega)) (by first | exact hI | exact QRL_k hd3 hM (fun j _ => C225 j) (C239 1) (fun j _ _ => C239 j) | (exfalso; omega)) (by first | exact hI | exact QRL_k hd4 hM2 (fun j _ => C233 j) (C240 1) (fun j _ _ => C240 j) | (exfalso; omega)) (by first | exact hI | exact SDL_k hd5 hM (fun j _ => C226 j) (C239 1) (fun j _ _ => C239 j) (fun j _ _ => C239 j) | (exfalso; omega)) (by first | exact hI | exact SDL_k hd6 hM2 (fun j _ => C234 j) (C240 1) (fun j _ _ => C240 j) (fun j _ _ => C240 j) | (exfalso; omega)) (by first | exact hI | exact LWL_k hd7 hM (fun j _ => C222 j) (fun j _ => C223 j) (fun j _ => C224 j) (fun j _ _ => C239 j) | (exfalso; omega)) (by first | exact hI | exact LWL_k hd8 hM2 (fun j _ => C230 j) (fun j _ => C231 j) (fun j _ => C232 j) (fun j _ _ => C240 j) | (exfalso; omega)) (by first | exact hI | exact CHL_k hd9 hM (fun j _ => C227 j) (by omega) (fun j _ _ => C239 j) | (exfalso; omega)) (by first | exact hI | exact CHL_k hd10 hM2 (fun j _ => C235 j) (by omega) (fun j _ _ => C240 j) | (exfalso; omega)) (by first | exact hI | exact ANL_k hd11 hM (fun j _ => C236 j) (by omega) (by omega) (by omega) (fun j _ _ => C239 j) | (exfalso; omega)) (by first | exact hI | exact ANL_k hd12 hM2 (fun j _ => C237 j) (by omega) (by omega) (by omega) (fun j _ _ => C240 j) | (exfalso; omega))
    · skip
      obtain ⟨h181_0, h181_1⟩ := h181
      have M2242 : MW (dt182 81) := MW_frk M2154 hF184 (by decide)
      rw [show dt6 80 = dt 80 from funext C174] at h181_1
      have C243 : ∀ j : Nat, dt182 2 j = dt 2 j := fun j => (hF184 2 (by decide) j).trans (C155 j)
      have C244 : ∀ j : Nat, dt182 3 j = dt 3 j := fun j => (hF184 3 (by decide) j).trans (C156 j)
      have C245 : ∀ j : Nat, dt182 4 j = dt 4 j := fun j => (hF184 4 (by decide) j).trans (C157 j)
      have C246 : ∀ j : Nat, dt182 5 j = dt 5 j := fun j => (hF184 5 (by decide) j).trans (C158 j)
      have C247 : ∀ j : Nat, dt182 6 j = dt 6 j := fun j => (hF184 6 (by decide) j).trans (C159 j)
      have C248 : ∀ j : Nat, dt182 8 j = dt 8 j := fun j => (hF184 8 (by decide) j).trans (C160 j)
      have C249 : ∀ j : Nat, dt182 9 j = dt 9 j := fun j => (hF184 9 (by decide) j).trans (C161 j)
      have C250 : ∀ j : Nat, dt182 11 j = dt 11 j := fun j => (hF184 11 (by decide) j).trans (C162 j)
      have C251 : ∀ j : Nat, dt182 19 j = dt 19 j := fun j => (hF184 19 (by decide) j).trans (C163 j)
      have C252 : ∀ j : Nat, dt182 20 j = dt 20 j := fun j => (hF184 20 (by decide) j).trans (C164 j)
      have C253 : ∀ j : Nat, dt182 21 j = dt 21 j := fun j => (hF184 21 (by decide) j).trans (C165 j)
      have C254 : ∀ j : Nat, dt182 22 j = dt 22 j := fun j => (hF184 22 (by decide) j).trans (C166 j)
      have C255 : ∀ j : Nat, dt182 23 j = dt 23 j := fun j => (hF184 23 (by decide) j).trans (C167 j)
      have C256 : ∀ j : Nat, dt182 25 j = dt 25 j := fun j => (hF184 25 (by decide) j).trans (C168 j)
      have C257 : ∀ j : Nat, dt182 26 j = dt 26 j := fun j => (hF184 26 (by decide) j).trans (C169 j)
      have C258 : ∀ j : Nat, dt182 28 j = dt 28 j := fun j => (hF184 28 (by decide) j).trans (C170 j)
      have C259 : ∀ j : Nat, dt182 13 j = dt 13 j := fun j => (hF184 13 (by decide) j).trans (C171 j)
      have C260 : ∀ j : Nat, dt182 30 j = dt 30 j := fun j => (hF184 30 (by decide) j).trans (C172 j)
      have C261 : ∀ j : Nat, dt182 36 j = dt 36 j := fun j => (hF184 36 (by decide) j).trans (C173 j)
      have C262 : ∀ j : Nat, dt182 80 j = dt 80 j := fun j => (hF184 80 (by decide) j).trans (C174 j)
      have C263 : ∀ j : Nat, dt182 81 j = dt 81 j := fun j => (hF184 81 (by decide) j).trans (C175 j)
      have C264 : ∀ j : Nat, dt182 85 j = dt 85 j := fun j => (hF184 85 (by decide) j).trans (C176 j)
      refine go_toq PM267 (k := 2) (pc' := 1435) (L' := [some (.inr (.inr (some 3000))), some (.inr (.inr (some 0))), some (.inr (.inr (some 79))), some (.inl i)]) (st' := []) (w' := (SH, dt182)) rfl ?_
      exact K dt182 hI183 hM186 M2242 (w187.trans (hk0.trans w203.symm)) (w188.trans (hk1.trans w204.symm)) (w189.trans (hk2.trans w205.symm)) (w190.trans (hk3.trans w206.symm)) (w191.trans (hk4.trans w207.symm)) (w192.trans (hk5.trans w208.symm)) (w193.trans (hk6.trans w209.symm)) (w194.trans (hk7.trans w210.symm)) (w195.trans (hk8.trans w211.symm)) (w196.trans (hk9.trans w212.symm)) (w197.trans (hk10.trans w213.symm)) (w198.trans (hk11.trans w214.symm)) (w199.trans (hk12.trans w215.symm)) (w200.trans (hk13.trans w216.symm)) (w201.trans (hk14.trans w217.symm)) (w202.trans (hk15.trans w218.symm)) (by first | exact hI | exact TPL_k hd0 C261 C264 (by omega) | (exfalso; omega)) (by first | exact hI | exact SCL_k hd1 hM (fun j _ => C243 j) (fun j _ => C244 j) (fun j _ _ => C262 j) | (exfalso; omega)) (by first | exact hI | exact SCL_k hd2 hM2 (fun j _ => C251 j) (fun j _ => C252 j) (fun j _ _ => C263 j) | (exfalso; omega)) (by first | exact hI | exact QRL_k hd3 hM (fun j _ => C248 j) (C262 1) (fun j _ _ => C262 j) | (exfalso; omega)) (by first | exact hI | exact QRL_k hd4 hM2 (fun j _ => C256 j) (C263 1) (fun j _ _ => C263 j) | (exfalso; omega)) (by first | exact hI | exact SDL_k hd5 hM (fun j _ => C249 j) (C262 1) (fun j _ _ => C262 j) (fun j _ _ => C262 j) | (exfalso; omega)) (by first | exact hI | exact SDL_k hd6 hM2 (fun j _ => C257 j) (C263 1) (fun j _ _ => C263 j) (fun j _ _ => C263 j) | (exfalso; omega)) (by first | exact hI | exact LWL_k hd7 hM (fun j _ => C245 j) (fun j _ => C246 j) (fun j _ => C247 j) (fun j _ _ => C262 j) | (exfalso; omega)) (by first | exact hI | exact LWL_k hd8 hM2 (fun j _ => C253 j) (fun j _ => C254 j) (fun j _ => C255 j) (fun j _ _ => C263 j) | (exfalso; omega)) (by first | exact hI | exact CHL_k hd9 hM (fun j _ => C250 j) (by omega) (fun j _ _ => C262 j) | (exfalso; omega)) (by first | exact hI | exact CHL_k hd10 hM2 (fun j _ => C258 j) (by omega) (fun j _ _ => C263 j) | (exfalso; omega)) (by first | exact hI | exact ANL_k hd11 hM (fun j _ => C259 j) (by omega) (by omega) (by omega) (fun j _ _ => C262 j) | (exfalso; omega)) (by first | exact hI | exact ANL_k hd12 hM2 (fun j _ => C260 j) (by omega) (by omega) (by omega) (fun j _ _ => C263 j) | (exfalso; omega))
set_option maxRecDepth 20000 in
set_option maxHeartbeats 8000000 in
theorem sp_case12 (L : Nat) (xs : Nat → Int32) (sio : Option Nat) (d : Nat) (Q : Option AV → am_W → Prop) (hLL : L ≤ 3072) (i : Int) (hi : 0 ≤ i ∧ i ≤ 3066) (hil : i ≤ (L : Int) - 6) (dt : Nat → Nat → Int) (hI : InvC dt) (hM : MW (dt 80)) (hM2 : MW (dt 81)) (hk0 : dt 1 0 = dt 80 0) (hk1 : dt 7 3 = dt 80 1) (hk2 : dt 10 3 = dt 80 2) (hk3 : dt 12 3 = dt 80 3) (hk4 : dt 14 3 = dt 80 4) (hk5 : dt 16 3 = dt 80 5) (hk6 : dt 18 0 = dt 81 0) (hk7 : dt 24 3 = dt 81 1) (hk8 : dt 27 3 = dt 81 2) (hk9 : dt 29 3 = dt 81 3) (hk10 : dt 31 3 = dt 81 4) (hk11 : dt 33 3 = dt 81 5) (hk12 : dt 0 2 = dt 79 2) (hk13 : dt 35 1 = dt 79 12) (hk14 : dt 35 2 = dt 79 19) (hk15 : dt 35 3 = dt 79 21) (hd0 : TPL (dt 36) (dt 85) (dt 35 1)) (hd1 : SCL (dt 2) (dt 3) (dt 80)) (hd2 : SCL (dt 19) (dt 20) (dt 81)) (hd3 : QRL (dt 8) (dt 80)) (hd4 : QRL (dt 25) (dt 81)) (hd5 : SDL (dt 9) (dt 80)) (hd6 : SDL (dt 26) (dt 81)) (hd7 : LWL (dt 4) (dt 5) (dt 6) (dt 80)) (hd8 : LWL (dt 21) (dt 22) (dt 23) (dt 81)) (hd9 : CHL (dt 11) (dt 80)) (hd10 : CHL (dt 28) (dt 81)) (hd11 : ANL (dt 13) (dt 80)) (hd12 : ANL (dt 30) (dt 81)) (K : ∀ (dt : Nat → Nat → Int) (hI : InvC dt) (hM : MW (dt 80)) (hM2 : MW (dt 81)) (hk0 : dt 1 0 = dt 80 0) (hk1 : dt 7 3 = dt 80 1) (hk2 : dt 10 3 = dt 80 2) (hk3 : dt 12 3 = dt 80 3) (hk4 : dt 14 3 = dt 80 4) (hk5 : dt 16 3 = dt 80 5) (hk6 : dt 18 0 = dt 81 0) (hk7 : dt 24 3 = dt 81 1) (hk8 : dt 27 3 = dt 81 2) (hk9 : dt 29 3 = dt 81 3) (hk10 : dt 31 3 = dt 81 4) (hk11 : dt 33 3 = dt 81 5) (hk12 : dt 0 2 = dt 79 2) (hk13 : dt 35 1 = dt 79 12) (hk14 : dt 35 2 = dt 79 19) (hk15 : dt 35 3 = dt 79 21) (hd0 : TPL (dt 36) (dt 85) (dt 35 1)) (hd1 : SCL (dt 2) (dt 3) (dt 80)) (hd2 : SCL (dt 19) (dt 20) (dt 81)) (hd3 : QRL (dt 8) (dt 80)) (hd4 : QRL (dt 25) (dt 81)) (hd5 : SDL (dt 9) (dt 80)) (hd6 : SDL (dt 26) (dt 81)) (hd7 : LWL (dt 4) (dt 5) (dt 6) (dt 80)) (hd8 : LWL (dt 21) (dt 22) (dt 23) (dt 81)) (hd9 : CHL (dt 11) (dt 80)) (hd10 : CHL (dt 28) (dt 81)) (hd11 : ANL (dt 13) (dt 80)) (hd12 : ANL (dt 30) (dt 81)), GO (am_XX L xs sio) (d + 39) 267 1435 [some (.inr (.inr (some 3000))), some (.inr (.inr (some 0))), some (.inr (.inr (some 79))), some (.inl i)] [] (SH, dt) Q) : GO (am_XX L xs sio) (d + 39) 267 696 [some (.inr (.inr (some 3000))), some (.inr (.inr (some 0))), some (.inr (.inr (some 79))), some (.inl i)] [] (SH, dt) Q := by
  have hF : Fr [0, 1, 2, 3, 4, 5, 6, 7, 8, 9, 10, 11, 12, 13, 14, 15, 16, 17, 18, 19, 20, 21, 22, 23, 24, 25, 26, 27, 28, 29, 30, 31, 32, 33, 34, 35, 36, 37, 38, 39, 40, 41, 42, 43, 44, 45, 46, 47, 48, 49, 50, 51, 52, 53, 54, 55, 56, 57, 58, 59, 60, 61, 62, 63, 64, 65, 66, 67, 68, 69, 70, 71, 72, 73, 74, 75, 76, 77, 78, 79, 80, 81, 82, 83, 84, 85, 86, 87, 88, 89, 90, 91, 92, 93, 94, 95, 96, 97, 98, 99, 100, 101, 102, 103, 104] dt dt := Fr_refl
  have hqo := QOC_R hd3 hM hk1
  have hb1_ := hM.1.1
  have hb2_ := hM.1.2.1
  have hb3_ := hM.1.2.2.1
  have halk : ALK dt (dt 80) := ⟨hd7, hd3, hd5, hd9, hk1, hk2⟩
  have hav_ : ∀ i : Nat, (i : Int) < dt 12 3 → 0 ≤ dt 13 (6 * i + 1) ∧ dt 13 (6 * i + 1) < dt 7 3 := fun i hi => by have z := hd11 i (by omega); have y := z.2.2 1 (by decide); have w := z.2.1; omega
  refine go_toq PM267 (k := 5) (pc' := 701) (L' := [some (.inr (.inr (some 3000))), some (.inr (.inr (some 0))), some (.inr (.inr (some 79))), some (.inl i)]) (st' := [.inl (i + 1), .inr (.inr (some 3000)), .inr (.inr (some 0))]) (w' := (SH, dt)) rfl ?_
  have r1 := i32_R (xs ((i + 1).toNat))
  refine go_smpq PM267 (L' := [some (.inr (.inr (some 3000))), some (.inr (.inr (some 0))), some (.inr (.inr (some 79))), some (.inl i)]) (st' := [.inl ((xs ((i + 1).toNat)).toInt), .inr (.inr (some 0))]) (w' := (SH, dt)) rfl rfl (s_iald (n := L) (f := fun j => (xs j).toInt) (am_scr hLL) ⟨by omega, by omega⟩) ?_
  refine go_toq PM267 (k := 4) (pc' := 706) (L' := [some (.inr (.inr (some 3000))), some (.inr (.inr (some 0))), some (.inr (.inr (some 79))), some (.inl i)]) (st' := [.inl (i + 2), .inr (.inr (some 3000)), .inl ((xs ((i + 1).toNat)).toInt), .inr (.inr (some 0))]) (w' := (SH, dt)) rfl ?_
  have r2 := i32_R (xs ((i + 2).toNat))
  refine go_smpq PM267 (L' := [some (.inr (.inr (some 3000))), some (.inr (.inr (some 0))), some (.inr (.inr (some 79))), some (.inl i)]) (st' := [.inl ((xs ((i + 2).toNat)).toInt), .inl ((xs ((i + 1).toNat)).toInt), .inr (.inr (some 0))]) (w' := (SH, dt)) rfl rfl (s_iald (n := L) (f := fun j => (xs j).toInt) (am_scr hLL) ⟨by omega, by omega⟩) ?_
  refine go_toq PM267 (k := 4) (pc' := 711) (L' := [some (.inr (.inr (some 3000))), some (.inr (.inr (some 0))), some (.inr (.inr (some 79))), some (.inl i)]) (st' := [.inl (i + 3), .inr (.inr (some 3000)), .inl ((xs ((i + 2).toNat)).toInt), .inl ((xs ((i + 1).toNat)).toInt), .inr (.inr (some 0))]) (w' := (SH, dt)) rfl ?_
  have r3 := i32_R (xs ((i + 3).toNat))
  refine go_smpq PM267 (L' := [some (.inr (.inr (some 3000))), some (.inr (.inr (some 0))), some (.inr (.inr (some 79))), some (.inl i)]) (st' := [.inl ((xs ((i + 3).toNat)).toInt), .inl ((xs ((i + 2).toNat)).toInt), .inl ((xs ((i + 1).toNat)).toInt), .inr (.inr (some 0))]) (w' := (SH, dt)) rfl rfl (s_iald (n := L) (f := fun j => (xs j).toInt) (am_scr hLL) ⟨by omega, by omega⟩) ?_
  refine go_callq PM267 PM79 (Q' := _) rfl rfl rfl rfl (sp_X5_ask_g L xs sio (d + 33) dt hI (dt 80) hM ((xs ((i + 1).toNat)).toInt) ⟨by omega, by omega⟩ ((xs ((i + 2).toNat)).toInt) ⟨by omega, by omega⟩ ((xs ((i + 3).toNat)).toInt) ⟨by omega, by omega⟩ (by first | exact True.intro | with_reducible assumption | rfl | omega | trivial | exact hM2 | exact hd1 | exact hqo | exact halk | exact hav_)) ?_
  rintro _ _ ⟨dt5, rfl, hI6, hF7, h4⟩
  refine ⟨rfl, ?_⟩
  have hF8 : Fr [0, 1, 2, 3, 4, 5, 6, 7, 8, 9, 10, 11, 12, 13, 14, 15, 16, 17, 18, 19, 20, 21, 22, 23, 24, 25, 26, 27, 28, 29, 30, 31, 32, 33, 34, 35, 36, 37, 38, 39, 40, 41, 42, 43, 44, 45, 46, 47, 48, 49, 50, 51, 52, 53, 54, 55, 56, 57, 58, 59, 60, 61, 62, 63, 64, 65, 66, 67, 68, 69, 70, 71, 72, 73, 74, 75, 76, 77, 78, 79, 80, 81, 82, 83, 84, 85, 86, 87, 88, 89, 90, 91, 92, 93, 94, 95, 96, 97, 98, 99, 100, 101, 102, 103, 104] dt dt5 := Fr_tr hF hF7 (by decide)
  have hM9 : MW (dt5 80) := MW_fr hM hF7 (by decide)
  have w10 : dt5 7 3 = dt 7 3 := hF7 7 (by decide) 3
  have w11 : dt5 10 3 = dt 10 3 := hF7 10 (by decide) 3
  have w12 : dt5 14 3 = dt 14 3 := hF7 14 (by decide) 3
  have w13 : dt5 16 3 = dt 16 3 := hF7 16 (by decide) 3
  have w14 : dt5 18 0 = dt 18 0 := hF7 18 (by decide) 0
  have w15 : dt5 24 3 = dt 24 3 := hF7 24 (by decide) 3
  have w16 : dt5 27 3 = dt 27 3 := hF7 27 (by decide) 3
  have w17 : dt5 29 3 = dt 29 3 := hF7 29 (by decide) 3
  have w18 : dt5 31 3 = dt 31 3 := hF7 31 (by decide) 3
  have w19 : dt5 33 3 = dt 33 3 := hF7 33 (by decide) 3
  have w20 : dt5 0 2 = dt 0 2 := hF7 0 (by decide) 2
  have w21 : dt5 35 1 = dt 35 1 := hF7 35 (by decide) 1
  have w22 : dt5 35 2 = dt 35 2 := hF7 35 (by decide) 2
  have w23 : dt5 35 3 = dt 35 3 := hF7 35 (by decide) 3
  have w24 : dt5 80 0 = dt 80 0 := hF7 80 (by decide) 0
  have w25 : dt5 80 1 = dt 80 1 := hF7 80 (by decide) 1
  have w26 : dt5 80 2 = dt 80 2 := hF7 80 (by decide) 2
  have w27 : dt5 80 3 = dt 80 3 := hF7 80 (by decide) 3
  have w28 : dt5 80 4 = dt 80 4 := hF7 80 (by decide) 4
  have w29 : dt5 80 5 = dt 80 5 := hF7 80 (by decide) 5
  have w30 : dt5 81 0 = dt 81 0 := hF7 81 (by decide) 0
  have w31 : dt5 81 1 = dt 81 1 := hF7 81 (by decide) 1
  have w32 : dt5 81 2 = dt 81 2 := hF7 81 (by decide) 2
  have w33 : dt5 81 3 = dt 81 3 := hF7 81 (by decide) 3
  have w34 : dt5 81 4 = dt 81 4 := hF7 81 (by decide) 4
  have w35 : dt5 81 5 = dt 81 5 := hF7 81 (by decide) 5
  have w36 : dt5 79 2 = dt 79 2 := hF7 79 (by decide) 2
  have w37 : dt5 79 12 = dt 79 12 := hF7 79 (by decide) 12
  have w38 : dt5 79 19 = dt 79 19 := hF7 79 (by decide) 19
  have w39 : dt5 79 21 = dt 79 21 := hF7 79 (by decide) 21
  rcases h4 with ⟨rfl, h4⟩ | ⟨v_h4, rfl, h4r, h4⟩
  · skip
    obtain ⟨h4_0, h4_1, h4_2, h4_3⟩ := h4
    replace h4_0 := hid h4_0
    have w40 : dt5 1 0 = dt 1 0 := h4_1
    have w41 : dt5 12 3 = dt 12 3 := h4_2
    have M242 : MW (dt5 81) := MW_frk hM2 hF7 (by decide)
    have C43 : ∀ j : Nat, dt5 2 j = dt 2 j := fun j => (hF7 2 (by decide) j).trans ((fun _ => rfl) j)
    have C44 : ∀ j : Nat, dt5 3 j = dt 3 j := fun j => (hF7 3 (by decide) j).trans ((fun _ => rfl) j)
    have C45 : ∀ j : Nat, dt5 4 j = dt 4 j := fun j => (hF7 4 (by decide) j).trans ((fun _ => rfl) j)
    have C46 : ∀ j : Nat, dt5 5 j = dt 5 j := fun j => (hF7 5 (by decide) j).trans ((fun _ => rfl) j)
    have C47 : ∀ j : Nat, dt5 6 j = dt 6 j := fun j => (hF7 6 (by decide) j).trans ((fun _ => rfl) j)
    have C48 : ∀ j : Nat, dt5 8 j = dt 8 j := fun j => (hF7 8 (by decide) j).trans ((fun _ => rfl) j)
    have C49 : ∀ j : Nat, dt5 9 j = dt 9 j := fun j => (hF7 9 (by decide) j).trans ((fun _ => rfl) j)
    have C50 : ∀ j : Nat, dt5 11 j = dt 11 j := fun j => (hF7 11 (by decide) j).trans ((fun _ => rfl) j)
    have C51 : ∀ j : Nat, dt5 19 j = dt 19 j := fun j => (hF7 19 (by decide) j).trans ((fun _ => rfl) j)
    have C52 : ∀ j : Nat, dt5 20 j = dt 20 j := fun j => (hF7 20 (by decide) j).trans ((fun _ => rfl) j)
    have C53 : ∀ j : Nat, dt5 21 j = dt 21 j := fun j => (hF7 21 (by decide) j).trans ((fun _ => rfl) j)
    have C54 : ∀ j : Nat, dt5 22 j = dt 22 j := fun j => (hF7 22 (by decide) j).trans ((fun _ => rfl) j)
    have C55 : ∀ j : Nat, dt5 23 j = dt 23 j := fun j => (hF7 23 (by decide) j).trans ((fun _ => rfl) j)
    have C56 : ∀ j : Nat, dt5 25 j = dt 25 j := fun j => (hF7 25 (by decide) j).trans ((fun _ => rfl) j)
    have C57 : ∀ j : Nat, dt5 26 j = dt 26 j := fun j => (hF7 26 (by decide) j).trans ((fun _ => rfl) j)
    have C58 : ∀ j : Nat, dt5 28 j = dt 28 j := fun j => (hF7 28 (by decide) j).trans ((fun _ => rfl) j)
    have C59 : ∀ j : Nat, dt5 13 j = dt 13 j := fun j => (h4_3 j).trans ((fun _ => rfl) j)
    have C60 : ∀ j : Nat, dt5 30 j = dt 30 j := fun j => (hF7 30 (by decide) j).trans ((fun _ => rfl) j)
    have C61 : ∀ j : Nat, dt5 36 j = dt 36 j := fun j => (hF7 36 (by decide) j).trans ((fun _ => rfl) j)
    have C62 : ∀ j : Nat, dt5 80 j = dt 80 j := fun j => (hF7 80 (by decide) j).trans ((fun _ => rfl) j)
    have C63 : ∀ j : Nat, dt5 81 j = dt 81 j := fun j => (hF7 81 (by decide) j).trans ((fun _ => rfl) j)
    have C64 : ∀ j : Nat, dt5 85 j = dt 85 j := fun j => (hF7 85 (by decide) j).trans ((fun _ => rfl) j)
    refine go_toq PM267 (k := 6) (pc' := 721) (L' := [some (.inr (.inr (some 3000))), some (.inr (.inr (some 0))), some (.inr (.inr (some 79))), some (.inl i)]) (st' := [.inl (i + 1), .inr (.inr (some 3000)), .inr (.inr (some 79))]) (w' := (SH, dt5)) rfl ?_
    have r65 := i32_R (xs ((i + 1).toNat))
    refine go_smpq PM267 (L' := [some (.inr (.inr (some 3000))), some (.inr (.inr (some 0))), some (.inr (.inr (some 79))), some (.inl i)]) (st' := [.inl ((xs ((i + 1).toNat)).toInt), .inr (.inr (some 79))]) (w' := (SH, dt5)) rfl rfl (s_iald (n := L) (f := fun j => (xs j).toInt) (am_scr hLL) ⟨by (first | omega | (have z0_ := unhid h4_0; omega)), by (first | omega | (have z0_ := unhid h4_0; omega))⟩) ?_
    refine go_toq PM267 (k := 4) (pc' := 726) (L' := [some (.inr (.inr (some 3000))), some (.inr (.inr (some 0))), some (.inr (.inr (some 79))), some (.inl i)]) (st' := [.inl (i + 2), .inr (.inr (some 3000)), .inl ((xs ((i + 1).toNat)).toInt), .inr (.inr (some 79))]) (w' := (SH, dt5)) rfl ?_
    have r66 := i32_R (xs ((i + 2).toNat))
    refine go_smpq PM267 (L' := [some (.inr (.inr (some 3000))), some (.inr (.inr (some 0))), some (.inr (.inr (some 79))), some (.inl i)]) (st' := [.inl ((xs ((i + 2).toNat)).toInt), .inl ((xs ((i + 1).toNat)).toInt), .inr (.inr (some 79))]) (w' := (SH, dt5)) rfl rfl (s_iald (n := L) (f := fun j => (xs j).toInt) (am_scr hLL) ⟨by (first | omega | (have z0_ := unhid h4_0; omega)), by (first | omega | (have z0_ := unhid h4_0; omega))⟩) ?_
    refine go_toq PM267 (k := 4) (pc' := 731) (L' := [some (.inr (.inr (some 3000))), some (.inr (.inr (some 0))), some (.inr (.inr (some 79))), some (.inl i)]) (st' := [.inl (i + 3), .inr (.inr (some 3000)), .inl ((xs ((i + 2).toNat)).toInt), .inl ((xs ((i + 1).toNat)).toInt), .inr (.inr (some 79))]) (w' := (SH, dt5)) rfl ?_
    have r67 := i32_R (xs ((i + 3).toNat))
    refine go_smpq PM267 (L' := [some (.inr (.inr (some 3000))), some (.inr (.inr (some 0))), some (.inr (.inr (some 79))), some (.inl i)]) (st' := [.inl ((xs ((i + 3).toNat)).toInt), .inl ((xs ((i + 2).toNat)).toInt), .inl ((xs ((i + 1).toNat)).toInt), .inr (.inr (some 79))]) (w' := (SH, dt5)) rfl rfl (s_iald (n := L) (f := fun j => (xs j).toInt) (am_scr hLL) ⟨by (first | omega | (have z0_ := unhid h4_0; omega)), by (first | omega | (have z0_ := unhid h4_0; omega))⟩) ?_
    refine go_callq PM267 PM211 (Q' := _) rfl rfl rfl rfl (sp_X6_ask_g L xs sio (d + 32) dt5 hI6 hM9  ((xs ((i + 1).toNat)).toInt) ⟨by (first | omega | (have z0_ := unhid h4_0; omega)), by (first | omega | (have z0_ := unhid h4_0; omega))⟩ ((xs ((i + 2).toNat)).toInt) ⟨by (first | omega | (have z0_ := unhid h4_0; omega)), by (first | omega | (have z0_ := unhid h4_0; omega))⟩ ((xs ((i + 3).toNat)).toInt) ⟨by (first | omega | (have z0_ := unhid h4_0; omega)), by (first | omega | (have z0_ := unhid h4_0; omega))⟩ ) ?_
    rintro _ _ ⟨dt69, rfl, hI70, hF71, h68⟩
    refine ⟨rfl, ?_⟩
    have hF72 : Fr [0, 1, 2, 3, 4, 5, 6, 7, 8, 9, 10, 11, 12, 13, 14, 15, 16, 17, 18, 19, 20, 21, 22, 23, 24, 25, 26, 27, 28, 29, 30, 31, 32, 33, 34, 35, 36, 37, 38, 39, 40, 41, 42, 43, 44, 45, 46, 47, 48, 49, 50, 51, 52, 53, 54, 55, 56, 57, 58, 59, 60, 61, 62, 63, 64, 65, 66, 67, 68, 69, 70, 71, 72, 73, 74, 75, 76, 77, 78, 79, 80, 81, 82, 83, 84, 85, 86, 87, 88, 89, 90, 91, 92, 93, 94, 95, 96, 97, 98, 99, 100, 101, 102, 103, 104] dt dt69 := Fr_tr hF8 hF71 (by decide)
    have w73 : dt69 1 0 = dt 1 0 := (hF71 1 (by decide) 0).trans w40
    have w74 : dt69 7 3 = dt 7 3 := (hF71 7 (by decide) 3).trans w10
    have w75 : dt69 10 3 = dt 10 3 := (hF71 10 (by decide) 3).trans w11
    have w76 : dt69 12 3 = dt 12 3 := (hF71 12 (by decide) 3).trans w41
    have w77 : dt69 14 3 = dt 14 3 := (hF71 14 (by decide) 3).trans w12
    have w78 : dt69 16 3 = dt 16 3 := (hF71 16 (by decide) 3).trans w13
    have w79 : dt69 18 0 = dt 18 0 := (hF71 18 (by decide) 0).trans w14
    have w80 : dt69 24 3 = dt 24 3 := (hF71 24 (by decide) 3).trans w15
    have w81 : dt69 27 3 = dt 27 3 := (hF71 27 (by decide) 3).trans w16
    have w82 : dt69 29 3 = dt 29 3 := (hF71 29 (by decide) 3).trans w17
    have w83 : dt69 31 3 = dt 31 3 := (hF71 31 (by decide) 3).trans w18
    have w84 : dt69 33 3 = dt 33 3 := (hF71 33 (by decide) 3).trans w19
    have w85 : dt69 0 2 = dt 0 2 := (hF71 0 (by decide) 2).trans w20
    have w86 : dt69 35 1 = dt 35 1 := (hF71 35 (by decide) 1).trans w21
    have w87 : dt69 35 2 = dt 35 2 := (hF71 35 (by decide) 2).trans w22
    have w88 : dt69 35 3 = dt 35 3 := (hF71 35 (by decide) 3).trans w23
    have w89 : dt69 81 0 = dt 81 0 := (hF71 81 (by decide) 0).trans w30
    have w90 : dt69 81 1 = dt 81 1 := (hF71 81 (by decide) 1).trans w31
    have w91 : dt69 81 2 = dt 81 2 := (hF71 81 (by decide) 2).trans w32
    have w92 : dt69 81 3 = dt 81 3 := (hF71 81 (by decide) 3).trans w33
    have w93 : dt69 81 4 = dt 81 4 := (hF71 81 (by decide) 4).trans w34
    have w94 : dt69 81 5 = dt 81 5 := (hF71 81 (by decide) 5).trans w35
    have w95 : dt69 79 2 = dt 79 2 := (hF71 79 (by decide) 2).trans w36
    have w96 : dt69 79 12 = dt 79 12 := (hF71 79 (by decide) 12).trans w37
    have w97 : dt69 79 19 = dt 79 19 := (hF71 79 (by decide) 19).trans w38
    have w98 : dt69 79 21 = dt 79 21 := (hF71 79 (by decide) 21).trans w39
    rcases h68 with ⟨rfl, h68⟩ | ⟨v_h68, rfl, h68r, h68⟩
    · skip
      have hM99 : MW (dt69 80) := h68.2.1
      obtain ⟨h68_0, h68_1, h68_2, h68_3, h68_4, h68_5, h68_6, h68_7, h68_8⟩ := h68
      replace h68_0 := hid h68_0
      have w100 : dt69 80 0 = dt 80 0 := h68_2.trans w24
      have w101 : dt69 80 1 = dt 80 1 := h68_3.trans w25
      have w102 : dt69 80 2 = dt 80 2 := h68_4.trans w26
      have w103 : dt69 80 3 = dt 80 3 := h68_5.trans w27
      have w104 : dt69 80 4 = dt 80 4 := h68_6.trans w28
      have w105 : dt69 80 5 = dt 80 5 := h68_7.trans w29
      have M2106 : MW (dt69 81) := MW_frk M242 hF71 (by decide)
      have C107 : ∀ j : Nat, dt69 2 j = dt 2 j := fun j => (hF71 2 (by decide) j).trans (C43 j)
      have C108 : ∀ j : Nat, dt69 3 j = dt 3 j := fun j => (hF71 3 (by decide) j).trans (C44 j)
      have C109 : ∀ j : Nat, dt69 4 j = dt 4 j := fun j => (hF71 4 (by decide) j).trans (C45 j)
      have C110 : ∀ j : Nat, dt69 5 j = dt 5 j := fun j => (hF71 5 (by decide) j).trans (C46 j)
      have C111 : ∀ j : Nat, dt69 6 j = dt 6 j := fun j => (hF71 6 (by decide) j).trans (C47 j)
      have C112 : ∀ j : Nat, dt69 8 j = dt 8 j := fun j => (hF71 8 (by decide) j).trans (C48 j)
      have C113 : ∀ j : Nat, dt69 9 j = dt 9 j := fun j => (hF71 9 (by decide) j).trans (C49 j)
      have C114 : ∀ j : Nat, dt69 11 j = dt 11 j := fun j => (hF71 11 (by decide) j).trans (C50 j)
      have C115 : ∀ j : Nat, dt69 19 j = dt 19 j := fun j => (hF71 19 (by decide) j).trans (C51 j)
      have C116 : ∀ j : Nat, dt69 20 j = dt 20 j := fun j => (hF71 20 (by decide) j).trans (C52 j)
      have C117 : ∀ j : Nat, dt69 21 j = dt 21 j := fun j => (hF71 21 (by decide) j).trans (C53 j)
      have C118 : ∀ j : Nat, dt69 22 j = dt 22 j := fun j => (hF71 22 (by decide) j).trans (C54 j)
      have C119 : ∀ j : Nat, dt69 23 j = dt 23 j := fun j => (hF71 23 (by decide) j).trans (C55 j)
      have C120 : ∀ j : Nat, dt69 25 j = dt 25 j := fun j => (hF71 25 (by decide) j).trans (C56 j)
      have C121 : ∀ j : Nat, dt69 26 j = dt 26 j := fun j => (hF71 26 (by decide) j).trans (C57 j)
      have C122 : ∀ j : Nat, dt69 28 j = dt 28 j := fun j => (hF71 28 (by decide) j).trans (C58 j)
      have C123 : ∀ j : Nat, dt69 13 j = dt 13 j := fun j => (hF71 13 (by decide) j).trans (C59 j)
      have C124 : ∀ j : Nat, dt69 30 j = dt 30 j := fun j => (hF71 30 (by decide) j).trans (C60 j)
      have C125 : ∀ j : Nat, dt69 36 j = dt 36 j := fun j => (hF71 36 (by decide) j).trans (C61 j)
      have C126 : ∀ j : Nat, dt69 80 j = dt 80 j := fun j => (h68_8 j).trans (C62 j)
      have C127 : ∀ j : Nat, dt69 81 j = dt 81 j := fun j => (hF71 81 (by decide) j).trans (C63 j)
      have C128 : ∀ j : Nat, dt69 85 j = dt 85 j := fun j => (hF71 85 (by decide) j).trans (C64 j)
      refine go_toq PM267 (k := 2) (pc' := 1435) (L' := [some (.inr (.inr (some 3000))), some (.inr (.inr (some 0))), some (.inr (.inr (some 79))), some (.inl i)]) (st' := []) (w' := (SH, dt69)) rfl ?_
      exact K dt69 hI70 hM99 M2106 (w73.trans (hk0.trans w100.symm)) (w74.trans (hk1.trans w101.symm)) (w75.trans (hk2.trans w102.symm)) (w76.trans (hk3.trans w103.symm)) (w77.trans (hk4.trans w104.symm)) (w78.trans (hk5.trans w105.symm)) (w79.trans (hk6.trans w89.symm)) (w80.trans (hk7.trans w90.symm)) (w81.trans (hk8.trans w91.symm)) (w82.trans (hk9.trans w92.symm)) (w83.trans (hk10.trans w93.symm)) (w84.trans (hk11.trans w94.symm)) (w85.trans (hk12.trans w95.symm)) (w86.trans (hk13.trans w96.symm)) (w87.trans (hk14.trans w97.symm)) (w88.trans (hk15.trans w98.symm)) (by first | exact hI | exact TPL_k hd0 C125 C128 (by (first | omega | (have z0_ := unhid h4_0; have z1_ := unhid h68_0; omega))) | (exfalso; (first | omega | (have z0_ := unhid h4_0; have z1_ := unhid h68_0; omega)))) (by first | exact hI | exact SCL_k hd1 hM (fun j _ => C107 j) (fun j _ => C108 j) (fun j _ _ => C126 j) | (exfalso; (first | omega | (have z0_ := unhid h4_0; have z1_ := unhid h68_0; omega)))) (by first | exact hI | exact SCL_k hd2 hM2 (fun j _ => C115 j) (fun j _ => C116 j) (fun j _ _ => C127 j) | (exfalso; (first | omega | (have z0_ := unhid h4_0; have z1_ := unhid h68_0; omega)))) (by first | exact hI | exact QRL_k hd3 hM (fun j _ => C112 j) (C126 1) (fun j _ _ => C126 j) | (exfalso; (first | omega | (have z0_ := unhid h4_0; have z1_ := unhid h68_0; omega)))) (by first | exact hI | exact QRL_k hd4 hM2 (fun j _ => C120 j) (C127 1) (fun j _ _ => C127 j) | (exfalso; (first | omega | (have z0_ := unhid h4_0; have z1_ := unhid h68_0; omega)))) (by first | exact hI | exact SDL_k hd5 hM (fun j _ => C113 j) (C126 1) (fun j _ _ => C126 j) (fun j _ _ => C126 j) | (exfalso; (first | omega | (have z0_ := unhid h4_0; have z1_ := unhid h68_0; omega)))) (by first | exact hI | exact SDL_k hd6 hM2 (fun j _ => C121 j) (C127 1) (fun j _ _ => C127 j) (fun j _ _ => C127 j) | (exfalso; (first | omega | (have z0_ := unhid h4_0; have z1_ := unhid h68_0; omega)))) (by first | exact hI | exact LWL_k hd7 hM (fun j _ => C109 j) (fun j _ => C110 j) (fun j _ => C111 j) (fun j _ _ => C126 j) | (exfalso; (first | omega | (have z0_ := unhid h4_0; have z1_ := unhid h68_0; omega)))) (by first | exact hI | exact LWL_k hd8 hM2 (fun j _ => C117 j) (fun j _ => C118 j) (fun j _ => C119 j) (fun j _ _ => C127 j) | (exfalso; (first | omega | (have z0_ := unhid h4_0; have z1_ := unhid h68_0; omega)))) (by first | exact hI | exact CHL_k hd9 hM (fun j _ => C114 j) (by (first | omega | (have z0_ := unhid h4_0; have z1_ := unhid h68_0; omega))) (fun j _ _ => C126 j) | (exfalso; (first | omega | (have z0_ := unhid h4_0; have z1_ := unhid h68_0; omega)))) (by first | exact hI | exact CHL_k hd10 hM2 (fun j _ => C122 j) (by (first | omega | (have z0_ := unhid h4_0; have z1_ := unhid h68_0; omega))) (fun j _ _ => C127 j) | (exfalso; (first | omega | (have z0_ := unhid h4_0; have z1_ := unhid h68_0; omega)))) (by first | exact hI | exact ANL_k hd11 hM (fun j _ => C123 j) (by (first | omega | (have z0_ := unhid h4_0; have z1_ := unhid h68_0; omega))) (by (first | omega | (have z0_ := unhid h4_0; have z1_ := unhid h68_0; omega))) (by (first | omega | (have z0_ := unhid h4_0; have z1_ := unhid h68_0; omega))) (fun j _ _ => C126 j) | (exfalso; (first | omega | (have z0_ := unhid h4_0; have z1_ := unhid h68_0; omega)))) (by first | exact hI | exact ANL_k hd12 hM2 (fun j _ => C124 j) (by (first | omega | (have z0_ := unhid h4_0; have z1_ := unhid h68_0; omega))) (by (first | omega | (have z0_ := unhid h4_0; have z1_ := unhid h68_0; omega))) (by (first | omega | (have z0_ := unhid h4_0; have z1_ := unhid h68_0; omega))) (fun j _ _ => C127 j) | (exfalso; (first | omega | (have z0_ := unhid h4_0; have z1_ := unhid h68_0; omega))))
    · skip
      have hM129 : MW (dt69 80) := h68.2.1
      obtain ⟨h68_0, h68_1, h68_2, h68_3, h68_4, h68_5, h68_6, h68_7, h68_8, h68_9, h68_10, h68_11, h68_12, h68_13, h68_14, h68_15⟩ := h68
      have w130 : dt69 80 1 = dt 80 1 := h68_4.trans w25
      have w131 : dt69 80 2 = dt 80 2 := h68_5.trans w26
      have w132 : dt69 80 4 = dt 80 4 := h68_6.trans w28
      have w133 : dt69 80 5 = dt 80 5 := h68_7.trans w29
      have M2134 : MW (dt69 81) := MW_frk M242 hF71 (by decide)
      rw [show dt5 80 = dt 80 from funext C62] at h68_9
      have C135 : ∀ j : Nat, dt69 2 j = dt 2 j := fun j => (hF71 2 (by decide) j).trans (C43 j)
      have C136 : ∀ j : Nat, dt69 3 j = dt 3 j := fun j => (hF71 3 (by decide) j).trans (C44 j)
      have C137 : ∀ j : Nat, dt69 4 j = dt 4 j := fun j => (hF71 4 (by decide) j).trans (C45 j)
      have C138 : ∀ j : Nat, dt69 5 j = dt 5 j := fun j => (hF71 5 (by decide) j).trans (C46 j)
      have C139 : ∀ j : Nat, dt69 6 j = dt 6 j := fun j => (hF71 6 (by decide) j).trans (C47 j)
      have C140 : ∀ j : Nat, dt69 8 j = dt 8 j := fun j => (hF71 8 (by decide) j).trans (C48 j)
      have C141 : ∀ j : Nat, dt69 9 j = dt 9 j := fun j => (hF71 9 (by decide) j).trans (C49 j)
      have C142 : ∀ j : Nat, dt69 11 j = dt 11 j := fun j => (hF71 11 (by decide) j).trans (C50 j)
      have C143 : ∀ j : Nat, dt69 19 j = dt 19 j := fun j => (hF71 19 (by decide) j).trans (C51 j)
      have C144 : ∀ j : Nat, dt69 20 j = dt 20 j := fun j => (hF71 20 (by decide) j).trans (C52 j)
      have C145 : ∀ j : Nat, dt69 21 j = dt 21 j := fun j => (hF71 21 (by decide) j).trans (C53 j)
      have C146 : ∀ j : Nat, dt69 22 j = dt 22 j := fun j => (hF71 22 (by decide) j).trans (C54 j)
      have C147 : ∀ j : Nat, dt69 23 j = dt 23 j := fun j => (hF71 23 (by decide) j).trans (C55 j)
      have C148 : ∀ j : Nat, dt69 25 j = dt 25 j := fun j => (hF71 25 (by decide) j).trans (C56 j)
      have C149 : ∀ j : Nat, dt69 26 j = dt 26 j := fun j => (hF71 26 (by decide) j).trans (C57 j)
      have C150 : ∀ j : Nat, dt69 28 j = dt 28 j := fun j => (hF71 28 (by decide) j).trans (C58 j)
      have C151 : ∀ j : Nat, dt69 13 j = dt 13 j := fun j => (hF71 13 (by decide) j).trans (C59 j)
      have C152 : ∀ j : Nat, dt69 30 j = dt 30 j := fun j => (hF71 30 (by decide) j).trans (C60 j)
      have C153 : ∀ j : Nat, dt69 36 j = dt 36 j := fun j => (hF71 36 (by decide) j).trans (C61 j)
      have C154 : ∀ j : Nat, dt69 81 j = dt 81 j := fun j => (hF71 81 (by decide) j).trans (C63 j)
      have C155 : ∀ j : Nat, dt69 85 j = dt 85 j := fun j => (hF71 85 (by decide) j).trans (C64 j)
      have F156 : ∀ j : Nat, 6 ≤ j → j < 974 → dt69 80 j = dt 80 j := fun j h1_ h2_ => (h68_8 j (by (first | omega | (have z0_ := unhid h4_0; omega))) (by (first | omega | (have z0_ := unhid h4_0; omega))) (by (first | omega | (have z0_ := unhid h4_0; omega)))).trans (C62 j)
      have F157 : ∀ j : Nat, 974 ≤ j → j < 5320 → dt69 80 j = dt 80 j := fun j h1_ h2_ => (h68_8 j (by (first | omega | (have z0_ := unhid h4_0; omega))) (by (first | omega | (have z0_ := unhid h4_0; omega))) (by (first | omega | (have z0_ := unhid h4_0; omega)))).trans (C62 j)
      have F158 : ∀ j : Nat, 5320 ≤ j → j < 5380 → dt69 80 j = dt 80 j := fun j h1_ h2_ => (h68_8 j (by (first | omega | (have z0_ := unhid h4_0; omega))) (by (first | omega | (have z0_ := unhid h4_0; omega))) (by (first | omega | (have z0_ := unhid h4_0; omega)))).trans (C62 j)
      have F159 : dt69 80 1 = dt 80 1 := (h68_8 1 (by (first | omega | (have z0_ := unhid h4_0; omega))) (by (first | omega | (have z0_ := unhid h4_0; omega))) (by (first | omega | (have z0_ := unhid h4_0; omega)))).trans (C62 1)
      have F160 : ∀ j : Nat, 5380 ≤ j → j < 5540 → dt69 80 j = dt 80 j := fun j h1_ h2_ => (h68_8 j (by (first | omega | (have z0_ := unhid h4_0; omega))) (by (first | omega | (have z0_ := unhid h4_0; omega))) (by (first | omega | (have z0_ := unhid h4_0; omega)))).trans (C62 j)
      refine go_toq PM267 (k := 2) (pc' := 1435) (L' := [some (.inr (.inr (some 3000))), some (.inr (.inr (some 0))), some (.inr (.inr (some 79))), some (.inl i)]) (st' := []) (w' := (SH, dt69)) rfl ?_
      exact K dt69 hI70 hM129 M2134 (by first | (first | omega | (have z0_ := unhid h4_0; omega)) | (simp only [*]; done) | simp only [*]) (w74.trans (hk1.trans w130.symm)) (w75.trans (hk2.trans w131.symm)) (by (first | omega | (have z0_ := unhid h4_0; omega))) (w77.trans (hk4.trans w132.symm)) (w78.trans (hk5.trans w133.symm)) (w79.trans (hk6.trans w89.symm)) (w80.trans (hk7.trans w90.symm)) (w81.trans (hk8.trans w91.symm)) (w82.trans (hk9.trans w92.symm)) (w83.trans (hk10.trans w93.symm)) (w84.trans (hk11.trans w94.symm)) (w85.trans (hk12.trans w95.symm)) (w86.trans (hk13.trans w96.symm)) (w87.trans (hk14.trans w97.symm)) (w88.trans (hk15.trans w98.symm)) (by first | exact hI | exact TPL_k hd0 C153 C155 (by (first | omega | (have z0_ := unhid h4_0; omega))) | (exfalso; (first | omega | (have z0_ := unhid h4_0; omega)))) (by first | exact hI | exact SCL_k hd1 hM (fun j _ => C135 j) (fun j _ => C136 j) F156 | (exfalso; (first | omega | (have z0_ := unhid h4_0; omega)))) (by first | exact hI | exact SCL_k hd2 hM2 (fun j _ => C143 j) (fun j _ => C144 j) (fun j _ _ => C154 j) | (exfalso; (first | omega | (have z0_ := unhid h4_0; omega)))) (by first | exact hI | exact QRL_k hd3 hM (fun j _ => C140 j) F159 F158 | (exfalso; (first | omega | (have z0_ := unhid h4_0; omega)))) (by first | exact hI | exact QRL_k hd4 hM2 (fun j _ => C148 j) (C154 1) (fun j _ _ => C154 j) | (exfalso; (first | omega | (have z0_ := unhid h4_0; omega)))) (by first | exact hI | exact SDL_k hd5 hM (fun j _ => C141 j) F159 F156 F158 | (exfalso; (first | omega | (have z0_ := unhid h4_0; omega)))) (by first | exact hI | exact SDL_k hd6 hM2 (fun j _ => C149 j) (C154 1) (fun j _ _ => C154 j) (fun j _ _ => C154 j) | (exfalso; (first | omega | (have z0_ := unhid h4_0; omega)))) (by first | exact hI | exact LWL_k hd7 hM (fun j _ => C137 j) (fun j _ => C138 j) (fun j _ => C139 j) F157 | (exfalso; (first | omega | (have z0_ := unhid h4_0; omega)))) (by first | exact hI | exact LWL_k hd8 hM2 (fun j _ => C145 j) (fun j _ => C146 j) (fun j _ => C147 j) (fun j _ _ => C154 j) | (exfalso; (first | omega | (have z0_ := unhid h4_0; omega)))) (by first | exact hI | exact CHL_k hd9 hM (fun j _ => C142 j) (by (first | omega | (have z0_ := unhid h4_0; omega))) F160 | (exfalso; (first | omega | (have z0_ := unhid h4_0; omega)))) (by first | exact hI | exact CHL_k hd10 hM2 (fun j _ => C150 j) (by (first | omega | (have z0_ := unhid h4_0; omega))) (fun j _ _ => C154 j) | (exfalso; (first | omega | (have z0_ := unhid h4_0; omega)))) (by first | exact hI | exact ANL_k hd11 hM (fun j _ => C151 j) (by (first | omega | (have z0_ := unhid h4_0; omega))) (by (first | omega | (have z0_ := unhid h4_0; omega))) (by (first | omega | (have z0_ := unhid h4_0; omega))) hI | (exfalso; (first | omega | (have z0_ := unhid h4_0; omega)))) (by first | exact hI | exact ANL_k hd12 hM2 (fun j _ => C152 j) (by (first | omega | (have z0_ := unhid h4_0; omega))) (by (first | omega | (have z0_ := unhid h4_0; omega))) (by (first | omega | (have z0_ := unhid h4_0; omega))) (fun j _ _ => C154 j) | (exfalso; (first | omega | (have z0_ := unhid h4_0; omega))))
  · skip
    obtain ⟨h4_0, h4_1, h4_2, h4_3, h4_4, h4_5, h4_6, h4_7, h4_8, h4_9, h4_10⟩ := h4
    have M2161 : MW (dt5 81) := MW_frk hM2 hF7 (by decide)
    change dt5 1 0 = wr (1664525 * (wr (1664525 * (dt 1 0) + 1013904223)) + 1013904223) at h4_1
    rw [hk0] at h4_3
    rw [hk0] at h4_9
    rw [hk0] at h4_10
    have C162 : ∀ j : Nat, dt5 2 j = dt 2 j := fun j => (hF7 2 (by decide) j).trans ((fun _ => rfl) j)
    have C163 : ∀ j : Nat, dt5 3 j = dt 3 j := fun j => (hF7 3 (by decide) j).trans ((fun _ => rfl) j)
    have C164 : ∀ j : Nat, dt5 4 j = dt 4 j := fun j => (hF7 4 (by decide) j).trans ((fun _ => rfl) j)
    have C165 : ∀ j : Nat, dt5 5 j = dt 5 j := fun j => (hF7 5 (by decide) j).trans ((fun _ => rfl) j)
    have C166 : ∀ j : Nat, dt5 6 j = dt 6 j := fun j => (hF7 6 (by decide) j).trans ((fun _ => rfl) j)
    have C167 : ∀ j : Nat, dt5 8 j = dt 8 j := fun j => (hF7 8 (by decide) j).trans ((fun _ => rfl) j)
    have C168 : ∀ j : Nat, dt5 9 j = dt 9 j := fun j => (hF7 9 (by decide) j).trans ((fun _ => rfl) j)
    have C169 : ∀ j : Nat, dt5 11 j = dt 11 j := fun j => (hF7 11 (by decide) j).trans ((fun _ => rfl) j)
    have C170 : ∀ j : Nat, dt5 19 j = dt 19 j := fun j => (hF7 19 (by decide) j).trans ((fun _ => rfl) j)
    have C171 : ∀ j : Nat, dt5 20 j = dt 20 j := fun j => (hF7 20 (by decide) j).trans ((fun _ => rfl) j)
    have C172 : ∀ j : Nat, dt5 21 j = dt 21 j := fun j => (hF7 21 (by decide) j).trans ((fun _ => rfl) j)
    have C173 : ∀ j : Nat, dt5 22 j = dt 22 j := fun j => (hF7 22 (by decide) j).trans ((fun _ => rfl) j)
    have C174 : ∀ j : Nat, dt5 23 j = dt 23 j := fun j => (hF7 23 (by decide) j).trans ((fun _ => rfl) j)
    have C175 : ∀ j : Nat, dt5 25 j = dt 25 j := fun j => (hF7 25 (by decide) j).trans ((fun _ => rfl) j)
    have C176 : ∀ j : Nat, dt5 26 j = dt 26 j := fun j => (hF7 26 (by decide) j).trans ((fun _ => rfl) j)
    have C177 : ∀ j : Nat, dt5 28 j = dt 28 j := fun j => (hF7 28 (by decide) j).trans ((fun _ => rfl) j)
    have C178 : ∀ j : Nat, dt5 30 j = dt 30 j := fun j => (hF7 30 (by decide) j).trans ((fun _ => rfl) j)
    have C179 : ∀ j : Nat, dt5 36 j = dt 36 j := fun j => (hF7 36 (by decide) j).trans ((fun _ => rfl) j)
    have C180 : ∀ j : Nat, dt5 80 j = dt 80 j := fun j => (hF7 80 (by decide) j).trans ((fun _ => rfl) j)
    have C181 : ∀ j : Nat, dt5 81 j = dt 81 j := fun j => (hF7 81 (by decide) j).trans ((fun _ => rfl) j)
    have C182 : ∀ j : Nat, dt5 85 j = dt 85 j := fun j => (hF7 85 (by decide) j).trans ((fun _ => rfl) j)
    refine go_toq PM267 (k := 6) (pc' := 721) (L' := [some (.inr (.inr (some 3000))), some (.inr (.inr (some 0))), some (.inr (.inr (some 79))), some (.inl i)]) (st' := [.inl (i + 1), .inr (.inr (some 3000)), .inr (.inr (some 79))]) (w' := (SH, dt5)) rfl ?_
    have r183 := i32_R (xs ((i + 1).toNat))
    refine go_smpq PM267 (L' := [some (.inr (.inr (some 3000))), some (.inr (.inr (some 0))), some (.inr (.inr (some 79))), some (.inl i)]) (st' := [.inl ((xs ((i + 1).toNat)).toInt), .inr (.inr (some 79))]) (w' := (SH, dt5)) rfl rfl (s_iald (n := L) (f := fun j => (xs j).toInt) (am_scr hLL) ⟨by omega, by omega⟩) ?_
    refine go_toq PM267 (k := 4) (pc' := 726) (L' := [some (.inr (.inr (some 3000))), some (.inr (.inr (some 0))), some (.inr (.inr (some 79))), some (.inl i)]) (st' := [.inl (i + 2), .inr (.inr (some 3000)), .inl ((xs ((i + 1).toNat)).toInt), .inr (.inr (some 79))]) (w' := (SH, dt5)) rfl ?_
    have r184 := i32_R (xs ((i + 2).toNat))
    refine go_smpq PM267 (L' := [some (.inr (.inr (some 3000))), some (.inr (.inr (some 0))), some (.inr (.inr (some 79))), some (.inl i)]) (st' := [.inl ((xs ((i + 2).toNat)).toInt), .inl ((xs ((i + 1).toNat)).toInt), .inr (.inr (some 79))]) (w' := (SH, dt5)) rfl rfl (s_iald (n := L) (f := fun j => (xs j).toInt) (am_scr hLL) ⟨by omega, by omega⟩) ?_
    refine go_toq PM267 (k := 4) (pc' := 731) (L' := [some (.inr (.inr (some 3000))), some (.inr (.inr (some 0))), some (.inr (.inr (some 79))), some (.inl i)]) (st' := [.inl (i + 3), .inr (.inr (some 3000)), .inl ((xs ((i + 2).toNat)).toInt), .inl ((xs ((i + 1).toNat)).toInt), .inr (.inr (some 79))]) (w' := (SH, dt5)) rfl ?_
    have r185 := i32_R (xs ((i + 3).toNat))
    refine go_smpq PM267 (L' := [some (.inr (.inr (some 3000))), some (.inr (.inr (some 0))), some (.inr (.inr (some 79))), some (.inl i)]) (st' := [.inl ((xs ((i + 3).toNat)).toInt), .inl ((xs ((i + 2).toNat)).toInt), .inl ((xs ((i + 1).toNat)).toInt), .inr (.inr (some 79))]) (w' := (SH, dt5)) rfl rfl (s_iald (n := L) (f := fun j => (xs j).toInt) (am_scr hLL) ⟨by omega, by omega⟩) ?_
    refine go_callq PM267 PM211 (Q' := _) rfl rfl rfl rfl (sp_X6_ask_g L xs sio (d + 32) dt5 hI6 hM9  ((xs ((i + 1).toNat)).toInt) ⟨by omega, by omega⟩ ((xs ((i + 2).toNat)).toInt) ⟨by omega, by omega⟩ ((xs ((i + 3).toNat)).toInt) ⟨by omega, by omega⟩ ) ?_
    rintro _ _ ⟨dt187, rfl, hI188, hF189, h186⟩
    refine ⟨rfl, ?_⟩
    have hF190 : Fr [0, 1, 2, 3, 4, 5, 6, 7, 8, 9, 10, 11, 12, 13, 14, 15, 16, 17, 18, 19, 20, 21, 22, 23, 24, 25, 26, 27, 28, 29, 30, 31, 32, 33, 34, 35, 36, 37, 38, 39, 40, 41, 42, 43, 44, 45, 46, 47, 48, 49, 50, 51, 52, 53, 54, 55, 56, 57, 58, 59, 60, 61, 62, 63, 64, 65, 66, 67, 68, 69, 70, 71, 72, 73, 74, 75, 76, 77, 78, 79, 80, 81, 82, 83, 84, 85, 86, 87, 88, 89, 90, 91, 92, 93, 94, 95, 96, 97, 98, 99, 100, 101, 102, 103, 104] dt dt187 := Fr_tr hF8 hF189 (by decide)
    have w191 : dt187 1 0 = dt5 1 0 := hF189 1 (by decide) 0
    have w192 : dt187 7 3 = dt 7 3 := (hF189 7 (by decide) 3).trans w10
    have w193 : dt187 10 3 = dt 10 3 := (hF189 10 (by decide) 3).trans w11
    have w194 : dt187 12 3 = dt5 12 3 := hF189 12 (by decide) 3
    have w195 : dt187 14 3 = dt 14 3 := (hF189 14 (by decide) 3).trans w12
    have w196 : dt187 16 3 = dt 16 3 := (hF189 16 (by decide) 3).trans w13
    have w197 : dt187 18 0 = dt 18 0 := (hF189 18 (by decide) 0).trans w14
    have w198 : dt187 24 3 = dt 24 3 := (hF189 24 (by decide) 3).trans w15
    have w199 : dt187 27 3 = dt 27 3 := (hF189 27 (by decide) 3).trans w16
    have w200 : dt187 29 3 = dt 29 3 := (hF189 29 (by decide) 3).trans w17
    have w201 : dt187 31 3 = dt 31 3 := (hF189 31 (by decide) 3).trans w18
    have w202 : dt187 33 3 = dt 33 3 := (hF189 33 (by decide) 3).trans w19
    have w203 : dt187 0 2 = dt 0 2 := (hF189 0 (by decide) 2).trans w20
    have w204 : dt187 35 1 = dt 35 1 := (hF189 35 (by decide) 1).trans w21
    have w205 : dt187 35 2 = dt 35 2 := (hF189 35 (by decide) 2).trans w22
    have w206 : dt187 35 3 = dt 35 3 := (hF189 35 (by decide) 3).trans w23
    have w207 : dt187 81 0 = dt 81 0 := (hF189 81 (by decide) 0).trans w30
    have w208 : dt187 81 1 = dt 81 1 := (hF189 81 (by decide) 1).trans w31
    have w209 : dt187 81 2 = dt 81 2 := (hF189 81 (by decide) 2).trans w32
    have w210 : dt187 81 3 = dt 81 3 := (hF189 81 (by decide) 3).trans w33
    have w211 : dt187 81 4 = dt 81 4 := (hF189 81 (by decide) 4).trans w34
    have w212 : dt187 81 5 = dt 81 5 := (hF189 81 (by decide) 5).trans w35
    have w213 : dt187 79 2 = dt 79 2 := (hF189 79 (by decide) 2).trans w36
    have w214 : dt187 79 12 = dt 79 12 := (hF189 79 (by decide) 12).trans w37
    have w215 : dt187 79 19 = dt 79 19 := (hF189 79 (by decide) 19).trans w38
    have w216 : dt187 79 21 = dt 79 21 := (hF189 79 (by decide) 21).trans w39
    rcases h186 with ⟨rfl, h186⟩ | ⟨v_h186, rfl, h186r, h186⟩
    · skip
      have hM217 : MW (dt187 80) := h186.2.1
      obtain ⟨h186_0, h186_1, h186_2, h186_3, h186_4, h186_5, h186_6, h186_7, h186_8⟩ := h186
      replace h186_0 := hid h186_0
      have w218 : dt187 80 0 = dt 80 0 := h186_2.trans w24
      have w219 : dt187 80 1 = dt 80 1 := h186_3.trans w25
      have w220 : dt187 80 2 = dt 80 2 := h186_4.trans w26
      have w221 : dt187 80 3 = dt 80 3 := h186_5.trans w27
      have w222 : dt187 80 4 = dt 80 4 := h186_6.trans w28
      have w223 : dt187 80 5 = dt 80 5 := h186_7.trans w29
      have M2224 : MW (dt187 81) := MW_frk M2161 hF189 (by decide)
      have C225 : ∀ j : Nat, dt187 2 j = dt 2 j := fun j => (hF189 2 (by decide) j).trans (C162 j)
      have C226 : ∀ j : Nat, dt187 3 j = dt 3 j := fun j => (hF189 3 (by decide) j).trans (C163 j)
      have C227 : ∀ j : Nat, dt187 4 j = dt 4 j := fun j => (hF189 4 (by decide) j).trans (C164 j)
      have C228 : ∀ j : Nat, dt187 5 j = dt 5 j := fun j => (hF189 5 (by decide) j).trans (C165 j)
      have C229 : ∀ j : Nat, dt187 6 j = dt 6 j := fun j => (hF189 6 (by decide) j).trans (C166 j)
      have C230 : ∀ j : Nat, dt187 8 j = dt 8 j := fun j => (hF189 8 (by decide) j).trans (C167 j)
      have C231 : ∀ j : Nat, dt187 9 j = dt 9 j := fun j => (hF189 9 (by decide) j).trans (C168 j)
      have C232 : ∀ j : Nat, dt187 11 j = dt 11 j := fun j => (hF189 11 (by decide) j).trans (C169 j)
      have C233 : ∀ j : Nat, dt187 19 j = dt 19 j := fun j => (hF189 19 (by decide) j).trans (C170 j)
      have C234 : ∀ j : Nat, dt187 20 j = dt 20 j := fun j => (hF189 20 (by decide) j).trans (C171 j)
      have C235 : ∀ j : Nat, dt187 21 j = dt 21 j := fun j => (hF189 21 (by decide) j).trans (C172 j)
      have C236 : ∀ j : Nat, dt187 22 j = dt 22 j := fun j => (hF189 22 (by decide) j).trans (C173 j)
      have C237 : ∀ j : Nat, dt187 23 j = dt 23 j := fun j => (hF189 23 (by decide) j).trans (C174 j)
      have C238 : ∀ j : Nat, dt187 25 j = dt 25 j := fun j => (hF189 25 (by decide) j).trans (C175 j)
      have C239 : ∀ j : Nat, dt187 26 j = dt 26 j := fun j => (hF189 26 (by decide) j).trans (C176 j)
      have C240 : ∀ j : Nat, dt187 28 j = dt 28 j := fun j => (hF189 28 (by decide) j).trans (C177 j)
      have C241 : ∀ j : Nat, dt187 30 j = dt 30 j := fun j => (hF189 30 (by decide) j).trans (C178 j)
      have C242 : ∀ j : Nat, dt187 36 j = dt 36 j := fun j => (hF189 36 (by decide) j).trans (C179 j)
      have C243 : ∀ j : Nat, dt187 80 j = dt 80 j := fun j => (h186_8 j).trans (C180 j)
      have C244 : ∀ j : Nat, dt187 81 j = dt 81 j := fun j => (hF189 81 (by decide) j).trans (C181 j)
      have C245 : ∀ j : Nat, dt187 85 j = dt 85 j := fun j => (hF189 85 (by decide) j).trans (C182 j)
      have N246 := fun (j : Nat) (hj : (j : Int) < 6 * dt 12 3) => (hF189 13 (by decide) j).trans (h4_4 j hj)
      have N247 := (hF189 13 (by decide) _).trans h4_5
      have N248 := (hF189 13 (by decide) _).trans h4_6
      have N249 := (hF189 13 (by decide) _).trans h4_7
      have N250 := (hF189 13 (by decide) _).trans h4_8
      have N251 := (hF189 13 (by decide) _).trans h4_9
      have N252 := (hF189 13 (by decide) _).trans h4_10
      refine go_toq PM267 (k := 2) (pc' := 1435) (L' := [some (.inr (.inr (some 3000))), some (.inr (.inr (some 0))), some (.inr (.inr (some 79))), some (.inl i)]) (st' := []) (w' := (SH, dt187)) rfl ?_
      exact K dt187 hI188 hM217 M2224 (by first | (first | omega | (have z0_ := unhid h186_0; omega)) | (simp only [*]; done) | simp only [*]) (w192.trans (hk1.trans w219.symm)) (w193.trans (hk2.trans w220.symm)) (by (first | omega | (have z0_ := unhid h186_0; omega))) (w195.trans (hk4.trans w222.symm)) (w196.trans (hk5.trans w223.symm)) (w197.trans (hk6.trans w207.symm)) (w198.trans (hk7.trans w208.symm)) (w199.trans (hk8.trans w209.symm)) (w200.trans (hk9.trans w210.symm)) (w201.trans (hk10.trans w211.symm)) (w202.trans (hk11.trans w212.symm)) (w203.trans (hk12.trans w213.symm)) (w204.trans (hk13.trans w214.symm)) (w205.trans (hk14.trans w215.symm)) (w206.trans (hk15.trans w216.symm)) (by first | exact hI | exact TPL_k hd0 C242 C245 (by (first | omega | (have z0_ := unhid h186_0; omega))) | (exfalso; (first | omega | (have z0_ := unhid h186_0; omega)))) (by first | exact hI | exact SCL_k hd1 hM (fun j _ => C225 j) (fun j _ => C226 j) (fun j _ _ => C243 j) | (exfalso; (first | omega | (have z0_ := unhid h186_0; omega)))) (by first | exact hI | exact SCL_k hd2 hM2 (fun j _ => C233 j) (fun j _ => C234 j) (fun j _ _ => C244 j) | (exfalso; (first | omega | (have z0_ := unhid h186_0; omega)))) (by first | exact hI | exact QRL_k hd3 hM (fun j _ => C230 j) (C243 1) (fun j _ _ => C243 j) | (exfalso; (first | omega | (have z0_ := unhid h186_0; omega)))) (by first | exact hI | exact QRL_k hd4 hM2 (fun j _ => C238 j) (C244 1) (fun j _ _ => C244 j) | (exfalso; (first | omega | (have z0_ := unhid h186_0; omega)))) (by first | exact hI | exact SDL_k hd5 hM (fun j _ => C231 j) (C243 1) (fun j _ _ => C243 j) (fun j _ _ => C243 j) | (exfalso; (first | omega | (have z0_ := unhid h186_0; omega)))) (by first | exact hI | exact SDL_k hd6 hM2 (fun j _ => C239 j) (C244 1) (fun j _ _ => C244 j) (fun j _ _ => C244 j) | (exfalso; (first | omega | (have z0_ := unhid h186_0; omega)))) (by first | exact hI | exact LWL_k hd7 hM (fun j _ => C227 j) (fun j _ => C228 j) (fun j _ => C229 j) (fun j _ _ => C243 j) | (exfalso; (first | omega | (have z0_ := unhid h186_0; omega)))) (by first | exact hI | exact LWL_k hd8 hM2 (fun j _ => C235 j) (fun j _ => C236 j) (fun j _ => C237 j) (fun j _ _ => C244 j) | (exfalso; (first | omega | (have z0_ := unhid h186_0; omega)))) (by first | exact hI | exact CHL_k hd9 hM (fun j _ => C232 j) (by (first | omega | (have z0_ := unhid h186_0; omega))) (fun j _ _ => C243 j) | (exfalso; (first | omega | (have z0_ := unhid h186_0; omega)))) (by first | exact hI | exact CHL_k hd10 hM2 (fun j _ => C240 j) (by (first | omega | (have z0_ := unhid h186_0; omega))) (fun j _ _ => C244 j) | (exfalso; (first | omega | (have z0_ := unhid h186_0; omega)))) (by first | exact hI | exact ANL_k hd11 hM hI (by (first | omega | (have z0_ := unhid h186_0; omega))) (by (first | omega | (have z0_ := unhid h186_0; omega))) (by (first | omega | (have z0_ := unhid h186_0; omega))) (fun j _ _ => C243 j) | (exfalso; (first | omega | (have z0_ := unhid h186_0; omega)))) (by first | exact hI | exact ANL_k hd12 hM2 (fun j _ => C241 j) (by (first | omega | (have z0_ := unhid h186_0; omega))) (by (first | omega | (have z0_ := unhid h186_0; omega))) (by (first | omega | (have z0_ := unhid h186_0; omega))) (fun j _ _ => C244 j) | (exfalso; (first | omega | (have z0_ := unhid h186_0; omega))))
    · skip
      have hM253 : MW (dt187 80) := h186.2.1
      obtain ⟨h186_0, h186_1, h186_2, h186_3, h186_4, h186_5, h186_6, h186_7, h186_8, h186_9, h186_10, h186_11, h186_12, h186_13, h186_14, h186_15⟩ := h186
      have w254 : dt187 80 1 = dt 80 1 := h186_4.trans w25
      have w255 : dt187 80 2 = dt 80 2 := h186_5.trans w26
      have w256 : dt187 80 4 = dt 80 4 := h186_6.trans w28
      have w257 : dt187 80 5 = dt 80 5 := h186_7.trans w29
      have M2258 : MW (dt187 81) := MW_frk M2161 hF189 (by decide)
      rw [show dt5 80 = dt 80 from funext C180] at h186_9
      have C259 : ∀ j : Nat, dt187 2 j = dt 2 j := fun j => (hF189 2 (by decide) j).trans (C162 j)
      have C260 : ∀ j : Nat, dt187 3 j = dt 3 j := fun j => (hF189 3 (by decide) j).trans (C163 j)
      have C261 : ∀ j : Nat, dt187 4 j = dt 4 j := fun j => (hF189 4 (by decide) j).trans (C164 j)
      have C262 : ∀ j : Nat, dt187 5 j = dt 5 j := fun j => (hF189 5 (by decide) j).trans (C165 j)
      have C263 : ∀ j : Nat, dt187 6 j = dt 6 j := fun j => (hF189 6 (by decide) j).trans (C166 j)
      have C264 : ∀ j : Nat, dt187 8 j = dt 8 j := fun j => (hF189 8 (by decide) j).trans (C167 j)
      have C265 : ∀ j : Nat, dt187 9 j = dt 9 j := fun j => (hF189 9 (by decide) j).trans (C168 j)
      have C266 : ∀ j : Nat, dt187 11 j = dt 11 j := fun j => (hF189 11 (by decide) j).trans (C169 j)
      have C267 : ∀ j : Nat, dt187 19 j = dt 19 j := fun j => (hF189 19 (by decide) j).trans (C170 j)
      have C268 : ∀ j : Nat, dt187 20 j = dt 20 j := fun j => (hF189 20 (by decide) j).trans (C171 j)
      have C269 : ∀ j : Nat, dt187 21 j = dt 21 j := fun j => (hF189 21 (by decide) j).trans (C172 j)
      have C270 : ∀ j : Nat, dt187 22 j = dt 22 j := fun j => (hF189 22 (by decide) j).trans (C173 j)
      have C271 : ∀ j : Nat, dt187 23 j = dt 23 j := fun j => (hF189 23 (by decide) j).trans (C174 j)
      have C272 : ∀ j : Nat, dt187 25 j = dt 25 j := fun j => (hF189 25 (by decide) j).trans (C175 j)
      have C273 : ∀ j : Nat, dt187 26 j = dt 26 j := fun j => (hF189 26 (by decide) j).trans (C176 j)
      have C274 : ∀ j : Nat, dt187 28 j = dt 28 j := fun j => (hF189 28 (by decide) j).trans (C177 j)
      have C275 : ∀ j : Nat, dt187 30 j = dt 30 j := fun j => (hF189 30 (by decide) j).trans (C178 j)
      have C276 : ∀ j : Nat, dt187 36 j = dt 36 j := fun j => (hF189 36 (by decide) j).trans (C179 j)
      have C277 : ∀ j : Nat, dt187 81 j = dt 81 j := fun j => (hF189 81 (by decide) j).trans (C181 j)
      have C278 : ∀ j : Nat, dt187 85 j = dt 85 j := fun j => (hF189 85 (by decide) j).trans (C182 j)
      have F279 : ∀ j : Nat, 6 ≤ j → j < 974 → dt187 80 j = dt 80 j := fun j h1_ h2_ => (h186_8 j (by omega) (by omega) (by omega)).trans (C180 j)
      have F280 : ∀ j : Nat, 974 ≤ j → j < 5320 → dt187 80 j = dt 80 j := fun j h1_ h2_ => (h186_8 j (by omega) (by omega) (by omega)).trans (C180 j)
      have F281 : ∀ j : Nat, 5320 ≤ j → j < 5380 → dt187 80 j = dt 80 j := fun j h1_ h2_ => (h186_8 j (by omega) (by omega) (by omega)).trans (C180 j)
      have F282 : dt187 80 1 = dt 80 1 := (h186_8 1 (by omega) (by omega) (by omega)).trans (C180 1)
      have F283 : ∀ j : Nat, 5380 ≤ j → j < 5540 → dt187 80 j = dt 80 j := fun j h1_ h2_ => (h186_8 j (by omega) (by omega) (by omega)).trans (C180 j)
      have N284 := fun (j : Nat) (hj : (j : Int) < 6 * dt 12 3) => (hF189 13 (by decide) j).trans (h4_4 j hj)
      have N285 := (hF189 13 (by decide) _).trans h4_5
      have N286 := (hF189 13 (by decide) _).trans h4_6
      have N287 := (hF189 13 (by decide) _).trans h4_7
      have N288 := (hF189 13 (by decide) _).trans h4_8
      have N289 := (hF189 13 (by decide) _).trans h4_9
      have N290 := (hF189 13 (by decide) _).trans h4_10
      have N291 := h186_8
      rw [show dt5 80 = dt 80 from funext C180] at N291
      have N292 := h186_10
      rw [show dt5 80 = dt 80 from funext C180] at N292
      have N293 := h186_11
      rw [show dt5 80 = dt 80 from funext C180] at N293
      have N294 := h186_12
      rw [show dt5 80 = dt 80 from funext C180] at N294
      have N295 := h186_13
      rw [show dt5 80 = dt 80 from funext C180] at N295
      have N296 := h186_14
      rw [show dt5 80 = dt 80 from funext C180] at N296
      have N297 := h186_15
      rw [show dt5 80 = dt 80 from funext C180] at N297
      have S298 : ANL (dt187 13) (dt187 80) := by first | exact ANL_a hd11 (by omega) (by omega) N284 N285 N286 N287 N288 N289 N290 (by omega) (fun j a_ b_ c_ => N291 j (by omega) a_ b_) (by first | exact N292 | (rw [N292]; first | omega | (simp only [*]; done))) (by first | exact N293 | (rw [N293]; first | omega | (simp only [*]; done))) (by first | exact N294 | (rw [N294]; first | omega | (simp only [*]; done))) (by first | exact N295 | (rw [N295]; first | omega | (simp only [*]; done))) (by first | exact N296 | (rw [N296]; first | omega | (simp only [*]; done))) (by first | exact N297 | (rw [N297]; first | omega | (simp only [*]; done))) (by omega) (by omega) (by omega) (by omega) | (exfalso; omega)
      refine go_toq PM267 (k := 2) (pc' := 1435) (L' := [some (.inr (.inr (some 3000))), some (.inr (.inr (some 0))), some (.inr (.inr (some 79))), some (.inl i)]) (st' := []) (w' := (SH, dt187)) rfl ?_
      exact K dt187 hI188 hM253 M2258 (by first | omega | (simp only [*]; done) | simp only [*]) (w192.trans (hk1.trans w254.symm)) (w193.trans (hk2.trans w255.symm)) (by omega) (w195.trans (hk4.trans w256.symm)) (w196.trans (hk5.trans w257.symm)) (w197.trans (hk6.trans w207.symm)) (w198.trans (hk7.trans w208.symm)) (w199.trans (hk8.trans w209.symm)) (w200.trans (hk9.trans w210.symm)) (w201.trans (hk10.trans w211.symm)) (w202.trans (hk11.trans w212.symm)) (w203.trans (hk12.trans w213.symm)) (w204.trans (hk13.trans w214.symm)) (w205.trans (hk14.trans w215.symm)) (w206.trans (hk15.trans w216.symm)) (by first | exact hI | exact TPL_k hd0 C276 C278 (by omega) | (exfalso; omega)) (by first | exact hI | exact SCL_k hd1 hM (fun j _ => C259 j) (fun j _ => C260 j) F279 | (exfalso; omega)) (by first | exact hI | exact SCL_k hd2 hM2 (fun j _ => C267 j) (fun j _ => C268 j) (fun j _ _ => C277 j) | (exfalso; omega)) (by first | exact hI | exact QRL_k hd3 hM (fun j _ => C264 j) F282 F281 | (exfalso; omega)) (by first | exact hI | exact QRL_k hd4 hM2 (fun j _ => C272 j) (C277 1) (fun j _ _ => C277 j) | (exfalso; omega)) (by first | exact hI | exact SDL_k hd5 hM (fun j _ => C265 j) F282 F279 F281 | (exfalso; omega)) (by first | exact hI | exact SDL_k hd6 hM2 (fun j _ => C273 j) (C277 1) (fun j _ _ => C277 j) (fun j _ _ => C277 j) | (exfalso; omega)) (by first | exact hI | exact LWL_k hd7 hM (fun j _ => C261 j) (fun j _ => C262 j) (fun j _ => C263 j) F280 | (exfalso; omega)) (by first | exact hI | exact LWL_k hd8 hM2 (fun j _ => C269 j) (fun j _ => C270 j) (fun j _ => C271 j) (fun j _ _ => C277 j) | (exfalso; omega)) (by first | exact hI | exact CHL_k hd9 hM (fun j _ => C266 j) (by omega) F283 | (exfalso; omega)) (by first | exact hI | exact CHL_k hd10 hM2 (fun j _ => C274 j) (by omega) (fun j _ _ => C277 j) | (exfalso; omega)) (by first | exact S298 | exact ANL_k hd11 hM hI (by omega) (by omega) (by omega) hI | (exfalso; omega)) (by first | exact hI | exact ANL_k hd12 hM2 (fun j _ => C275 j) (by omega) (by omega) (by omega) (fun j _ _ => C277 j) | (exfalso; omega))
set_option maxRecDepth 20000 in
set_option maxHeartbeats 8000000 in
theorem sp_case13 (L : Nat) (xs : Nat → Int32) (sio : Option Nat) (d : Nat) (Q : Option AV → am_W → Prop) (hLL : L ≤ 3072) (i : Int) (hi : 0 ≤ i ∧ i ≤ 3066) (hil : i ≤ (L : Int) - 6) (dt : Nat → Nat → Int) (hI : InvC dt) (hM : MW (dt 80)) (hM2 : MW (dt 81)) (hk0 : dt 1 0 = dt 80 0) (hk1 : dt 7 3 = dt 80 1) (hk2 : dt 10 3 = dt 80 2) (hk3 : dt 12 3 = dt 80 3) (hk4 : dt 14 3 = dt 80 4) (hk5 : dt 16 3 = dt 80 5) (hk6 : dt 18 0 = dt 81 0) (hk7 : dt 24 3 = dt 81 1) (hk8 : dt 27 3 = dt 81 2) (hk9 : dt 29 3 = dt 81 3) (hk10 : dt 31 3 = dt 81 4) (hk11 : dt 33 3 = dt 81 5) (hk12 : dt 0 2 = dt 79 2) (hk13 : dt 35 1 = dt 79 12) (hk14 : dt 35 2 = dt 79 19) (hk15 : dt 35 3 = dt 79 21) (hd0 : TPL (dt 36) (dt 85) (dt 35 1)) (hd1 : SCL (dt 2) (dt 3) (dt 80)) (hd2 : SCL (dt 19) (dt 20) (dt 81)) (hd3 : QRL (dt 8) (dt 80)) (hd4 : QRL (dt 25) (dt 81)) (hd5 : SDL (dt 9) (dt 80)) (hd6 : SDL (dt 26) (dt 81)) (hd7 : LWL (dt 4) (dt 5) (dt 6) (dt 80)) (hd8 : LWL (dt 21) (dt 22) (dt 23) (dt 81)) (hd9 : CHL (dt 11) (dt 80)) (hd10 : CHL (dt 28) (dt 81)) (hd11 : ANL (dt 13) (dt 80)) (hd12 : ANL (dt 30) (dt 81)) (K : ∀ (dt : Nat → Nat → Int) (hI : InvC dt) (hM : MW (dt 80)) (hM2 : MW (dt 81)) (hk0 : dt 1 0 = dt 80 0) (hk1 : dt 7 3 = dt 80 1) (hk2 : dt 10 3 = dt 80 2) (hk3 : dt 12 3 = dt 80 3) (hk4 : dt 14 3 = dt 80 4) (hk5 : dt 16 3 = dt 80 5) (hk6 : dt 18 0 = dt 81 0) (hk7 : dt 24 3 = dt 81 1) (hk8 : dt 27 3 = dt 81 2) (hk9 : dt 29 3 = dt 81 3) (hk10 : dt 31 3 = dt 81 4) (hk11 : dt 33 3 = dt 81 5) (hk12 : dt 0 2 = dt 79 2) (hk13 : dt 35 1 = dt 79 12) (hk14 : dt 35 2 = dt 79 19) (hk15 : dt 35 3 = dt 79 21) (hd0 : TPL (dt 36) (dt 85) (dt 35 1)) (hd1 : SCL (dt 2) (dt 3) (dt 80)) (hd2 : SCL (dt 19) (dt 20) (dt 81)) (hd3 : QRL (dt 8) (dt 80)) (hd4 : QRL (dt 25) (dt 81)) (hd5 : SDL (dt 9) (dt 80)) (hd6 : SDL (dt 26) (dt 81)) (hd7 : LWL (dt 4) (dt 5) (dt 6) (dt 80)) (hd8 : LWL (dt 21) (dt 22) (dt 23) (dt 81)) (hd9 : CHL (dt 11) (dt 80)) (hd10 : CHL (dt 28) (dt 81)) (hd11 : ANL (dt 13) (dt 80)) (hd12 : ANL (dt 30) (dt 81)), GO (am_XX L xs sio) (d + 39) 267 1435 [some (.inr (.inr (some 3000))), some (.inr (.inr (some 0))), some (.inr (.inr (some 79))), some (.inl i)] [] (SH, dt) Q) : GO (am_XX L xs sio) (d + 39) 267 739 [some (.inr (.inr (some 3000))), some (.inr (.inr (some 0))), some (.inr (.inr (some 79))), some (.inl i)] [] (SH, dt) Q := by
  have hF : Fr [0, 1, 2, 3, 4, 5, 6, 7, 8, 9, 10, 11, 12, 13, 14, 15, 16, 17, 18, 19, 20, 21, 22, 23, 24, 25, 26, 27, 28, 29, 30, 31, 32, 33, 34, 35, 36, 37, 38, 39, 40, 41, 42, 43, 44, 45, 46, 47, 48, 49, 50, 51, 52, 53, 54, 55, 56, 57, 58, 59, 60, 61, 62, 63, 64, 65, 66, 67, 68, 69, 70, 71, 72, 73, 74, 75, 76, 77, 78, 79, 80, 81, 82, 83, 84, 85, 86, 87, 88, 89, 90, 91, 92, 93, 94, 95, 96, 97, 98, 99, 100, 101, 102, 103, 104] dt dt := Fr_refl
  have hqo := QOC_R hd3 hM hk1
  have hb1_ := hM.1.1
  have hb2_ := hM.1.2.1
  have hb3_ := hM.1.2.2.1
  have halk : ALK dt (dt 80) := ⟨hd7, hd3, hd5, hd9, hk1, hk2⟩
  have hav_ : ∀ i : Nat, (i : Int) < dt 12 3 → 0 ≤ dt 13 (6 * i + 1) ∧ dt 13 (6 * i + 1) < dt 7 3 := fun i hi => by have z := hd11 i (by omega); have y := z.2.2 1 (by decide); have w := z.2.1; omega
  refine go_toq PM267 (k := 5) (pc' := 744) (L' := [some (.inr (.inr (some 3000))), some (.inr (.inr (some 0))), some (.inr (.inr (some 79))), some (.inl i)]) (st' := [.inl (i + 1), .inr (.inr (some 3000)), .inr (.inr (some 0))]) (w' := (SH, dt)) rfl ?_
  have r1 := i32_R (xs ((i + 1).toNat))
  refine go_smpq PM267 (L' := [some (.inr (.inr (some 3000))), some (.inr (.inr (some 0))), some (.inr (.inr (some 79))), some (.inl i)]) (st' := [.inl ((xs ((i + 1).toNat)).toInt), .inr (.inr (some 0))]) (w' := (SH, dt)) rfl rfl (s_iald (n := L) (f := fun j => (xs j).toInt) (am_scr hLL) ⟨by omega, by omega⟩) ?_
  refine go_toq PM267 (k := 4) (pc' := 749) (L' := [some (.inr (.inr (some 3000))), some (.inr (.inr (some 0))), some (.inr (.inr (some 79))), some (.inl i)]) (st' := [.inl (i + 2), .inr (.inr (some 3000)), .inl ((xs ((i + 1).toNat)).toInt), .inr (.inr (some 0))]) (w' := (SH, dt)) rfl ?_
  have r2 := i32_R (xs ((i + 2).toNat))
  refine go_smpq PM267 (L' := [some (.inr (.inr (some 3000))), some (.inr (.inr (some 0))), some (.inr (.inr (some 79))), some (.inl i)]) (st' := [.inl ((xs ((i + 2).toNat)).toInt), .inl ((xs ((i + 1).toNat)).toInt), .inr (.inr (some 0))]) (w' := (SH, dt)) rfl rfl (s_iald (n := L) (f := fun j => (xs j).toInt) (am_scr hLL) ⟨by omega, by omega⟩) ?_
  refine go_toq PM267 (k := 4) (pc' := 754) (L' := [some (.inr (.inr (some 3000))), some (.inr (.inr (some 0))), some (.inr (.inr (some 79))), some (.inl i)]) (st' := [.inl (i + 3), .inr (.inr (some 3000)), .inl ((xs ((i + 2).toNat)).toInt), .inl ((xs ((i + 1).toNat)).toInt), .inr (.inr (some 0))]) (w' := (SH, dt)) rfl ?_
  have r3 := i32_R (xs ((i + 3).toNat))
  refine go_smpq PM267 (L' := [some (.inr (.inr (some 3000))), some (.inr (.inr (some 0))), some (.inr (.inr (some 79))), some (.inl i)]) (st' := [.inl ((xs ((i + 3).toNat)).toInt), .inl ((xs ((i + 2).toNat)).toInt), .inl ((xs ((i + 1).toNat)).toInt), .inr (.inr (some 0))]) (w' := (SH, dt)) rfl rfl (s_iald (n := L) (f := fun j => (xs j).toInt) (am_scr hLL) ⟨by omega, by omega⟩) ?_
  refine go_toq PM267 (k := 4) (pc' := 759) (L' := [some (.inr (.inr (some 3000))), some (.inr (.inr (some 0))), some (.inr (.inr (some 79))), some (.inl i)]) (st' := [.inl (i + 4), .inr (.inr (some 3000)), .inl ((xs ((i + 3).toNat)).toInt), .inl ((xs ((i + 2).toNat)).toInt), .inl ((xs ((i + 1).toNat)).toInt), .inr (.inr (some 0))]) (w' := (SH, dt)) rfl ?_
  have r4 := i32_R (xs ((i + 4).toNat))
  refine go_smpq PM267 (L' := [some (.inr (.inr (some 3000))), some (.inr (.inr (some 0))), some (.inr (.inr (some 79))), some (.inl i)]) (st' := [.inl ((xs ((i + 4).toNat)).toInt), .inl ((xs ((i + 3).toNat)).toInt), .inl ((xs ((i + 2).toNat)).toInt), .inl ((xs ((i + 1).toNat)).toInt), .inr (.inr (some 0))]) (w' := (SH, dt)) rfl rfl (s_iald (n := L) (f := fun j => (xs j).toInt) (am_scr hLL) ⟨by omega, by omega⟩) ?_
  refine go_callq PM267 PM80 (Q' := _) rfl rfl rfl rfl (sp_X5_told_f L xs sio (d + 36) dt hI  ((xs ((i + 1).toNat)).toInt) ⟨by omega, by omega⟩ ((xs ((i + 2).toNat)).toInt) ⟨by omega, by omega⟩ ((xs ((i + 3).toNat)).toInt) ⟨by omega, by omega⟩ ((xs ((i + 4).toNat)).toInt) ⟨by omega, by omega⟩ ) ?_
  rintro _ _ ⟨dt6, rfl, hI7, hF8, h5⟩
  refine ⟨rfl, ?_⟩
  have hF9 : Fr [0, 1, 2, 3, 4, 5, 6, 7, 8, 9, 10, 11, 12, 13, 14, 15, 16, 17, 18, 19, 20, 21, 22, 23, 24, 25, 26, 27, 28, 29, 30, 31, 32, 33, 34, 35, 36, 37, 38, 39, 40, 41, 42, 43, 44, 45, 46, 47, 48, 49, 50, 51, 52, 53, 54, 55, 56, 57, 58, 59, 60, 61, 62, 63, 64, 65, 66, 67, 68, 69, 70, 71, 72, 73, 74, 75, 76, 77, 78, 79, 80, 81, 82, 83, 84, 85, 86, 87, 88, 89, 90, 91, 92, 93, 94, 95, 96, 97, 98, 99, 100, 101, 102, 103, 104] dt dt6 := Fr_tr hF hF8 (by decide)
  have hM10 : MW (dt6 80) := MW_fr hM hF8 (by decide)
  have w11 : dt6 1 0 = dt 1 0 := hF8 1 (by decide) 0
  have w12 : dt6 7 3 = dt 7 3 := hF8 7 (by decide) 3
  have w13 : dt6 10 3 = dt 10 3 := hF8 10 (by decide) 3
  have w14 : dt6 14 3 = dt 14 3 := hF8 14 (by decide) 3
  have w15 : dt6 16 3 = dt 16 3 := hF8 16 (by decide) 3
  have w16 : dt6 18 0 = dt 18 0 := hF8 18 (by decide) 0
  have w17 : dt6 24 3 = dt 24 3 := hF8 24 (by decide) 3
  have w18 : dt6 27 3 = dt 27 3 := hF8 27 (by decide) 3
  have w19 : dt6 29 3 = dt 29 3 := hF8 29 (by decide) 3
  have w20 : dt6 31 3 = dt 31 3 := hF8 31 (by decide) 3
  have w21 : dt6 33 3 = dt 33 3 := hF8 33 (by decide) 3
  have w22 : dt6 0 2 = dt 0 2 := hF8 0 (by decide) 2
  have w23 : dt6 35 1 = dt 35 1 := hF8 35 (by decide) 1
  have w24 : dt6 35 2 = dt 35 2 := hF8 35 (by decide) 2
  have w25 : dt6 35 3 = dt 35 3 := hF8 35 (by decide) 3
  have w26 : dt6 80 0 = dt 80 0 := hF8 80 (by decide) 0
  have w27 : dt6 80 1 = dt 80 1 := hF8 80 (by decide) 1
  have w28 : dt6 80 2 = dt 80 2 := hF8 80 (by decide) 2
  have w29 : dt6 80 3 = dt 80 3 := hF8 80 (by decide) 3
  have w30 : dt6 80 4 = dt 80 4 := hF8 80 (by decide) 4
  have w31 : dt6 80 5 = dt 80 5 := hF8 80 (by decide) 5
  have w32 : dt6 81 0 = dt 81 0 := hF8 81 (by decide) 0
  have w33 : dt6 81 1 = dt 81 1 := hF8 81 (by decide) 1
  have w34 : dt6 81 2 = dt 81 2 := hF8 81 (by decide) 2
  have w35 : dt6 81 3 = dt 81 3 := hF8 81 (by decide) 3
  have w36 : dt6 81 4 = dt 81 4 := hF8 81 (by decide) 4
  have w37 : dt6 81 5 = dt 81 5 := hF8 81 (by decide) 5
  have w38 : dt6 79 2 = dt 79 2 := hF8 79 (by decide) 2
  have w39 : dt6 79 12 = dt 79 12 := hF8 79 (by decide) 12
  have w40 : dt6 79 19 = dt 79 19 := hF8 79 (by decide) 19
  have w41 : dt6 79 21 = dt 79 21 := hF8 79 (by decide) 21
  rcases h5 with ⟨rfl, h5⟩ | ⟨v_h5, rfl, h5r, h5⟩
  · skip
    obtain ⟨h5_0, h5_1, h5_2⟩ := h5
    replace h5_0 := hid h5_0
    have w42 : dt6 12 3 = dt 12 3 := h5_1
    have M243 : MW (dt6 81) := MW_frk hM2 hF8 (by decide)
    have C44 : ∀ j : Nat, dt6 2 j = dt 2 j := fun j => (hF8 2 (by decide) j).trans ((fun _ => rfl) j)
    have C45 : ∀ j : Nat, dt6 3 j = dt 3 j := fun j => (hF8 3 (by decide) j).trans ((fun _ => rfl) j)
    have C46 : ∀ j : Nat, dt6 4 j = dt 4 j := fun j => (hF8 4 (by decide) j).trans ((fun _ => rfl) j)
    have C47 : ∀ j : Nat, dt6 5 j = dt 5 j := fun j => (hF8 5 (by decide) j).trans ((fun _ => rfl) j)
    have C48 : ∀ j : Nat, dt6 6 j = dt 6 j := fun j => (hF8 6 (by decide) j).trans ((fun _ => rfl) j)
    have C49 : ∀ j : Nat, dt6 8 j = dt 8 j := fun j => (hF8 8 (by decide) j).trans ((fun _ => rfl) j)
    have C50 : ∀ j : Nat, dt6 9 j = dt 9 j := fun j => (hF8 9 (by decide) j).trans ((fun _ => rfl) j)
    have C51 : ∀ j : Nat, dt6 11 j = dt 11 j := fun j => (hF8 11 (by decide) j).trans ((fun _ => rfl) j)
    have C52 : ∀ j : Nat, dt6 19 j = dt 19 j := fun j => (hF8 19 (by decide) j).trans ((fun _ => rfl) j)
    have C53 : ∀ j : Nat, dt6 20 j = dt 20 j := fun j => (hF8 20 (by decide) j).trans ((fun _ => rfl) j)
    have C54 : ∀ j : Nat, dt6 21 j = dt 21 j := fun j => (hF8 21 (by decide) j).trans ((fun _ => rfl) j)
    have C55 : ∀ j : Nat, dt6 22 j = dt 22 j := fun j => (hF8 22 (by decide) j).trans ((fun _ => rfl) j)
    have C56 : ∀ j : Nat, dt6 23 j = dt 23 j := fun j => (hF8 23 (by decide) j).trans ((fun _ => rfl) j)
    have C57 : ∀ j : Nat, dt6 25 j = dt 25 j := fun j => (hF8 25 (by decide) j).trans ((fun _ => rfl) j)
    have C58 : ∀ j : Nat, dt6 26 j = dt 26 j := fun j => (hF8 26 (by decide) j).trans ((fun _ => rfl) j)
    have C59 : ∀ j : Nat, dt6 28 j = dt 28 j := fun j => (hF8 28 (by decide) j).trans ((fun _ => rfl) j)
    have C60 : ∀ j : Nat, dt6 13 j = dt 13 j := fun j => (h5_2 j).trans ((fun _ => rfl) j)
    have C61 : ∀ j : Nat, dt6 30 j = dt 30 j := fun j => (hF8 30 (by decide) j).trans ((fun _ => rfl) j)
    have C62 : ∀ j : Nat, dt6 36 j = dt 36 j := fun j => (hF8 36 (by decide) j).trans ((fun _ => rfl) j)
    have C63 : ∀ j : Nat, dt6 80 j = dt 80 j := fun j => (hF8 80 (by decide) j).trans ((fun _ => rfl) j)
    have C64 : ∀ j : Nat, dt6 81 j = dt 81 j := fun j => (hF8 81 (by decide) j).trans ((fun _ => rfl) j)
    have C65 : ∀ j : Nat, dt6 85 j = dt 85 j := fun j => (hF8 85 (by decide) j).trans ((fun _ => rfl) j)
    refine go_toq PM267 (k := 6) (pc' := 769) (L' := [some (.inr (.inr (some 3000))), some (.inr (.inr (some 0))), some (.inr (.inr (some 79))), some (.inl i)]) (st' := [.inl (i + 1), .inr (.inr (some 3000)), .inr (.inr (some 79))]) (w' := (SH, dt6)) rfl ?_
    have r66 := i32_R (xs ((i + 1).toNat))
    refine go_smpq PM267 (L' := [some (.inr (.inr (some 3000))), some (.inr (.inr (some 0))), some (.inr (.inr (some 79))), some (.inl i)]) (st' := [.inl ((xs ((i + 1).toNat)).toInt), .inr (.inr (some 79))]) (w' := (SH, dt6)) rfl rfl (s_iald (n := L) (f := fun j => (xs j).toInt) (am_scr hLL) ⟨by (first | omega | (have z0_ := unhid h5_0; omega)), by (first | omega | (have z0_ := unhid h5_0; omega))⟩) ?_
    refine go_toq PM267 (k := 4) (pc' := 774) (L' := [some (.inr (.inr (some 3000))), some (.inr (.inr (some 0))), some (.inr (.inr (some 79))), some (.inl i)]) (st' := [.inl (i + 2), .inr (.inr (some 3000)), .inl ((xs ((i + 1).toNat)).toInt), .inr (.inr (some 79))]) (w' := (SH, dt6)) rfl ?_
    have r67 := i32_R (xs ((i + 2).toNat))
    refine go_smpq PM267 (L' := [some (.inr (.inr (some 3000))), some (.inr (.inr (some 0))), some (.inr (.inr (some 79))), some (.inl i)]) (st' := [.inl ((xs ((i + 2).toNat)).toInt), .inl ((xs ((i + 1).toNat)).toInt), .inr (.inr (some 79))]) (w' := (SH, dt6)) rfl rfl (s_iald (n := L) (f := fun j => (xs j).toInt) (am_scr hLL) ⟨by (first | omega | (have z0_ := unhid h5_0; omega)), by (first | omega | (have z0_ := unhid h5_0; omega))⟩) ?_
    refine go_toq PM267 (k := 4) (pc' := 779) (L' := [some (.inr (.inr (some 3000))), some (.inr (.inr (some 0))), some (.inr (.inr (some 79))), some (.inl i)]) (st' := [.inl (i + 3), .inr (.inr (some 3000)), .inl ((xs ((i + 2).toNat)).toInt), .inl ((xs ((i + 1).toNat)).toInt), .inr (.inr (some 79))]) (w' := (SH, dt6)) rfl ?_
    have r68 := i32_R (xs ((i + 3).toNat))
    refine go_smpq PM267 (L' := [some (.inr (.inr (some 3000))), some (.inr (.inr (some 0))), some (.inr (.inr (some 79))), some (.inl i)]) (st' := [.inl ((xs ((i + 3).toNat)).toInt), .inl ((xs ((i + 2).toNat)).toInt), .inl ((xs ((i + 1).toNat)).toInt), .inr (.inr (some 79))]) (w' := (SH, dt6)) rfl rfl (s_iald (n := L) (f := fun j => (xs j).toInt) (am_scr hLL) ⟨by (first | omega | (have z0_ := unhid h5_0; omega)), by (first | omega | (have z0_ := unhid h5_0; omega))⟩) ?_
    refine go_toq PM267 (k := 4) (pc' := 784) (L' := [some (.inr (.inr (some 3000))), some (.inr (.inr (some 0))), some (.inr (.inr (some 79))), some (.inl i)]) (st' := [.inl (i + 4), .inr (.inr (some 3000)), .inl ((xs ((i + 3).toNat)).toInt), .inl ((xs ((i + 2).toNat)).toInt), .inl ((xs ((i + 1).toNat)).toInt), .inr (.inr (some 79))]) (w' := (SH, dt6)) rfl ?_
    have r69 := i32_R (xs ((i + 4).toNat))
    refine go_smpq PM267 (L' := [some (.inr (.inr (some 3000))), some (.inr (.inr (some 0))), some (.inr (.inr (some 79))), some (.inl i)]) (st' := [.inl ((xs ((i + 4).toNat)).toInt), .inl ((xs ((i + 3).toNat)).toInt), .inl ((xs ((i + 2).toNat)).toInt), .inl ((xs ((i + 1).toNat)).toInt), .inr (.inr (some 79))]) (w' := (SH, dt6)) rfl rfl (s_iald (n := L) (f := fun j => (xs j).toInt) (am_scr hLL) ⟨by (first | omega | (have z0_ := unhid h5_0; omega)), by (first | omega | (have z0_ := unhid h5_0; omega))⟩) ?_
    refine go_callq PM267 PM213 (Q' := _) rfl rfl rfl rfl (sp_X6_told_v L xs sio (d + 36) dt6 hI7 hM10  ((xs ((i + 1).toNat)).toInt) ⟨by (first | omega | (have z0_ := unhid h5_0; omega)), by (first | omega | (have z0_ := unhid h5_0; omega))⟩ ((xs ((i + 2).toNat)).toInt) ⟨by (first | omega | (have z0_ := unhid h5_0; omega)), by (first | omega | (have z0_ := unhid h5_0; omega))⟩ ((xs ((i + 3).toNat)).toInt) ⟨by (first | omega | (have z0_ := unhid h5_0; omega)), by (first | omega | (have z0_ := unhid h5_0; omega))⟩ ((xs ((i + 4).toNat)).toInt) ⟨by (first | omega | (have z0_ := unhid h5_0; omega)), by (first | omega | (have z0_ := unhid h5_0; omega))⟩ ) ?_
    rintro _ _ ⟨dt71, rfl, hI72, hF73, h70⟩
    refine ⟨rfl, ?_⟩
    have hF74 : Fr [0, 1, 2, 3, 4, 5, 6, 7, 8, 9, 10, 11, 12, 13, 14, 15, 16, 17, 18, 19, 20, 21, 22, 23, 24, 25, 26, 27, 28, 29, 30, 31, 32, 33, 34, 35, 36, 37, 38, 39, 40, 41, 42, 43, 44, 45, 46, 47, 48, 49, 50, 51, 52, 53, 54, 55, 56, 57, 58, 59, 60, 61, 62, 63, 64, 65, 66, 67, 68, 69, 70, 71, 72, 73, 74, 75, 76, 77, 78, 79, 80, 81, 82, 83, 84, 85, 86, 87, 88, 89, 90, 91, 92, 93, 94, 95, 96, 97, 98, 99, 100, 101, 102, 103, 104] dt dt71 := Fr_tr hF9 hF73 (by decide)
    have w75 : dt71 1 0 = dt 1 0 := (hF73 1 (by decide) 0).trans w11
    have w76 : dt71 7 3 = dt 7 3 := (hF73 7 (by decide) 3).trans w12
    have w77 : dt71 10 3 = dt 10 3 := (hF73 10 (by decide) 3).trans w13
    have w78 : dt71 12 3 = dt 12 3 := (hF73 12 (by decide) 3).trans w42
    have w79 : dt71 14 3 = dt 14 3 := (hF73 14 (by decide) 3).trans w14
    have w80 : dt71 16 3 = dt 16 3 := (hF73 16 (by decide) 3).trans w15
    have w81 : dt71 18 0 = dt 18 0 := (hF73 18 (by decide) 0).trans w16
    have w82 : dt71 24 3 = dt 24 3 := (hF73 24 (by decide) 3).trans w17
    have w83 : dt71 27 3 = dt 27 3 := (hF73 27 (by decide) 3).trans w18
    have w84 : dt71 29 3 = dt 29 3 := (hF73 29 (by decide) 3).trans w19
    have w85 : dt71 31 3 = dt 31 3 := (hF73 31 (by decide) 3).trans w20
    have w86 : dt71 33 3 = dt 33 3 := (hF73 33 (by decide) 3).trans w21
    have w87 : dt71 0 2 = dt 0 2 := (hF73 0 (by decide) 2).trans w22
    have w88 : dt71 35 1 = dt 35 1 := (hF73 35 (by decide) 1).trans w23
    have w89 : dt71 35 2 = dt 35 2 := (hF73 35 (by decide) 2).trans w24
    have w90 : dt71 35 3 = dt 35 3 := (hF73 35 (by decide) 3).trans w25
    have w91 : dt71 81 0 = dt 81 0 := (hF73 81 (by decide) 0).trans w32
    have w92 : dt71 81 1 = dt 81 1 := (hF73 81 (by decide) 1).trans w33
    have w93 : dt71 81 2 = dt 81 2 := (hF73 81 (by decide) 2).trans w34
    have w94 : dt71 81 3 = dt 81 3 := (hF73 81 (by decide) 3).trans w35
    have w95 : dt71 81 4 = dt 81 4 := (hF73 81 (by decide) 4).trans w36
    have w96 : dt71 81 5 = dt 81 5 := (hF73 81 (by decide) 5).trans w37
    have w97 : dt71 79 2 = dt 79 2 := (hF73 79 (by decide) 2).trans w38
    have w98 : dt71 79 12 = dt 79 12 := (hF73 79 (by decide) 12).trans w39
    have w99 : dt71 79 19 = dt 79 19 := (hF73 79 (by decide) 19).trans w40
    have w100 : dt71 79 21 = dt 79 21 := (hF73 79 (by decide) 21).trans w41
    rcases h70 with ⟨rfl, h70⟩ | ⟨v_h70, rfl, h70r, h70⟩
    · skip
      have hM101 : MW (dt71 80) := h70.2.1
      obtain ⟨h70_0, h70_1, h70_2, h70_3, h70_4, h70_5, h70_6, h70_7, h70_8⟩ := h70
      replace h70_0 := hid h70_0
      have w102 : dt71 80 0 = dt 80 0 := h70_2.trans w26
      have w103 : dt71 80 1 = dt 80 1 := h70_3.trans w27
      have w104 : dt71 80 2 = dt 80 2 := h70_4.trans w28
      have w105 : dt71 80 3 = dt 80 3 := h70_5.trans w29
      have w106 : dt71 80 4 = dt 80 4 := h70_6.trans w30
      have w107 : dt71 80 5 = dt 80 5 := h70_7.trans w31
      have M2108 : MW (dt71 81) := MW_frk M243 hF73 (by decide)
      have C109 : ∀ j : Nat, dt71 2 j = dt 2 j := fun j => (hF73 2 (by decide) j).trans (C44 j)
      have C110 : ∀ j : Nat, dt71 3 j = dt 3 j := fun j => (hF73 3 (by decide) j).trans (C45 j)
      have C111 : ∀ j : Nat, dt71 4 j = dt 4 j := fun j => (hF73 4 (by decide) j).trans (C46 j)
      have C112 : ∀ j : Nat, dt71 5 j = dt 5 j := fun j => (hF73 5 (by decide) j).trans (C47 j)
      have C113 : ∀ j : Nat, dt71 6 j = dt 6 j := fun j => (hF73 6 (by decide) j).trans (C48 j)
      have C114 : ∀ j : Nat, dt71 8 j = dt 8 j := fun j => (hF73 8 (by decide) j).trans (C49 j)
      have C115 : ∀ j : Nat, dt71 9 j = dt 9 j := fun j => (hF73 9 (by decide) j).trans (C50 j)
      have C116 : ∀ j : Nat, dt71 11 j = dt 11 j := fun j => (hF73 11 (by decide) j).trans (C51 j)
      have C117 : ∀ j : Nat, dt71 19 j = dt 19 j := fun j => (hF73 19 (by decide) j).trans (C52 j)
      have C118 : ∀ j : Nat, dt71 20 j = dt 20 j := fun j => (hF73 20 (by decide) j).trans (C53 j)
      have C119 : ∀ j : Nat, dt71 21 j = dt 21 j := fun j => (hF73 21 (by decide) j).trans (C54 j)
      have C120 : ∀ j : Nat, dt71 22 j = dt 22 j := fun j => (hF73 22 (by decide) j).trans (C55 j)
      have C121 : ∀ j : Nat, dt71 23 j = dt 23 j := fun j => (hF73 23 (by decide) j).trans (C56 j)
      have C122 : ∀ j : Nat, dt71 25 j = dt 25 j := fun j => (hF73 25 (by decide) j).trans (C57 j)
      have C123 : ∀ j : Nat, dt71 26 j = dt 26 j := fun j => (hF73 26 (by decide) j).trans (C58 j)
      have C124 : ∀ j : Nat, dt71 28 j = dt 28 j := fun j => (hF73 28 (by decide) j).trans (C59 j)
      have C125 : ∀ j : Nat, dt71 13 j = dt 13 j := fun j => (hF73 13 (by decide) j).trans (C60 j)
      have C126 : ∀ j : Nat, dt71 30 j = dt 30 j := fun j => (hF73 30 (by decide) j).trans (C61 j)
      have C127 : ∀ j : Nat, dt71 36 j = dt 36 j := fun j => (hF73 36 (by decide) j).trans (C62 j)
      have C128 : ∀ j : Nat, dt71 80 j = dt 80 j := fun j => (h70_8 j).trans (C63 j)
      have C129 : ∀ j : Nat, dt71 81 j = dt 81 j := fun j => (hF73 81 (by decide) j).trans (C64 j)
      have C130 : ∀ j : Nat, dt71 85 j = dt 85 j := fun j => (hF73 85 (by decide) j).trans (C65 j)
      refine go_toq PM267 (k := 2) (pc' := 1435) (L' := [some (.inr (.inr (some 3000))), some (.inr (.inr (some 0))), some (.inr (.inr (some 79))), some (.inl i)]) (st' := []) (w' := (SH, dt71)) rfl ?_
      exact K dt71 hI72 hM101 M2108 (w75.trans (hk0.trans w102.symm)) (w76.trans (hk1.trans w103.symm)) (w77.trans (hk2.trans w104.symm)) (w78.trans (hk3.trans w105.symm)) (w79.trans (hk4.trans w106.symm)) (w80.trans (hk5.trans w107.symm)) (w81.trans (hk6.trans w91.symm)) (w82.trans (hk7.trans w92.symm)) (w83.trans (hk8.trans w93.symm)) (w84.trans (hk9.trans w94.symm)) (w85.trans (hk10.trans w95.symm)) (w86.trans (hk11.trans w96.symm)) (w87.trans (hk12.trans w97.symm)) (w88.trans (hk13.trans w98.symm)) (w89.trans (hk14.trans w99.symm)) (w90.trans (hk15.trans w100.symm)) (by first | exact hI | exact TPL_k hd0 C127 C130 (by (first | omega | (have z0_ := unhid h5_0; have z1_ := unhid h70_0; omega))) | (exfalso; (first | omega | (have z0_ := unhid h5_0; have z1_ := unhid h70_0; omega)))) (by first | exact hI | exact SCL_k hd1 hM (fun j _ => C109 j) (fun j _ => C110 j) (fun j _ _ => C128 j) | (exfalso; (first | omega | (have z0_ := unhid h5_0; have z1_ := unhid h70_0; omega)))) (by first | exact hI | exact SCL_k hd2 hM2 (fun j _ => C117 j) (fun j _ => C118 j) (fun j _ _ => C129 j) | (exfalso; (first | omega | (have z0_ := unhid h5_0; have z1_ := unhid h70_0; omega)))) (by first | exact hI | exact QRL_k hd3 hM (fun j _ => C114 j) (C128 1) (fun j _ _ => C128 j) | (exfalso; (first | omega | (have z0_ := unhid h5_0; have z1_ := unhid h70_0; omega)))) (by first | exact hI | exact QRL_k hd4 hM2 (fun j _ => C122 j) (C129 1) (fun j _ _ => C129 j) | (exfalso; (first | omega | (have z0_ := unhid h5_0; have z1_ := unhid h70_0; omega)))) (by first | exact hI | exact SDL_k hd5 hM (fun j _ => C115 j) (C128 1) (fun j _ _ => C128 j) (fun j _ _ => C128 j) | (exfalso; (first | omega | (have z0_ := unhid h5_0; have z1_ := unhid h70_0; omega)))) (by first | exact hI | exact SDL_k hd6 hM2 (fun j _ => C123 j) (C129 1) (fun j _ _ => C129 j) (fun j _ _ => C129 j) | (exfalso; (first | omega | (have z0_ := unhid h5_0; have z1_ := unhid h70_0; omega)))) (by first | exact hI | exact LWL_k hd7 hM (fun j _ => C111 j) (fun j _ => C112 j) (fun j _ => C113 j) (fun j _ _ => C128 j) | (exfalso; (first | omega | (have z0_ := unhid h5_0; have z1_ := unhid h70_0; omega)))) (by first | exact hI | exact LWL_k hd8 hM2 (fun j _ => C119 j) (fun j _ => C120 j) (fun j _ => C121 j) (fun j _ _ => C129 j) | (exfalso; (first | omega | (have z0_ := unhid h5_0; have z1_ := unhid h70_0; omega)))) (by first | exact hI | exact CHL_k hd9 hM (fun j _ => C116 j) (by (first | omega | (have z0_ := unhid h5_0; have z1_ := unhid h70_0; omega))) (fun j _ _ => C128 j) | (exfalso; (first | omega | (have z0_ := unhid h5_0; have z1_ := unhid h70_0; omega)))) (by first | exact hI | exact CHL_k hd10 hM2 (fun j _ => C124 j) (by (first | omega | (have z0_ := unhid h5_0; have z1_ := unhid h70_0; omega))) (fun j _ _ => C129 j) | (exfalso; (first | omega | (have z0_ := unhid h5_0; have z1_ := unhid h70_0; omega)))) (by first | exact hI | exact ANL_k hd11 hM (fun j _ => C125 j) (by (first | omega | (have z0_ := unhid h5_0; have z1_ := unhid h70_0; omega))) (by (first | omega | (have z0_ := unhid h5_0; have z1_ := unhid h70_0; omega))) (by (first | omega | (have z0_ := unhid h5_0; have z1_ := unhid h70_0; omega))) (fun j _ _ => C128 j) | (exfalso; (first | omega | (have z0_ := unhid h5_0; have z1_ := unhid h70_0; omega)))) (by first | exact hI | exact ANL_k hd12 hM2 (fun j _ => C126 j) (by (first | omega | (have z0_ := unhid h5_0; have z1_ := unhid h70_0; omega))) (by (first | omega | (have z0_ := unhid h5_0; have z1_ := unhid h70_0; omega))) (by (first | omega | (have z0_ := unhid h5_0; have z1_ := unhid h70_0; omega))) (fun j _ _ => C129 j) | (exfalso; (first | omega | (have z0_ := unhid h5_0; have z1_ := unhid h70_0; omega))))
    · skip
      have hM131 : MW (dt71 80) := h70.2.2.1
      obtain ⟨h70_0, h70_1, h70_2, h70_3, h70_4, h70_5, h70_6, h70_7, h70_8, h70_9, h70_10, h70_11, h70_12, h70_13, h70_14, h70_15⟩ := h70
      have w132 : dt71 80 0 = dt 80 0 := h70_4.trans w26
      have w133 : dt71 80 1 = dt 80 1 := h70_5.trans w27
      have w134 : dt71 80 2 = dt 80 2 := h70_6.trans w28
      have w135 : dt71 80 4 = dt 80 4 := h70_7.trans w30
      have w136 : dt71 80 5 = dt 80 5 := h70_8.trans w31
      have M2137 : MW (dt71 81) := MW_frk M243 hF73 (by decide)
      have C138 : ∀ j : Nat, dt71 2 j = dt 2 j := fun j => (hF73 2 (by decide) j).trans (C44 j)
      have C139 : ∀ j : Nat, dt71 3 j = dt 3 j := fun j => (hF73 3 (by decide) j).trans (C45 j)
      have C140 : ∀ j : Nat, dt71 4 j = dt 4 j := fun j => (hF73 4 (by decide) j).trans (C46 j)
      have C141 : ∀ j : Nat, dt71 5 j = dt 5 j := fun j => (hF73 5 (by decide) j).trans (C47 j)
      have C142 : ∀ j : Nat, dt71 6 j = dt 6 j := fun j => (hF73 6 (by decide) j).trans (C48 j)
      have C143 : ∀ j : Nat, dt71 8 j = dt 8 j := fun j => (hF73 8 (by decide) j).trans (C49 j)
      have C144 : ∀ j : Nat, dt71 9 j = dt 9 j := fun j => (hF73 9 (by decide) j).trans (C50 j)
      have C145 : ∀ j : Nat, dt71 11 j = dt 11 j := fun j => (hF73 11 (by decide) j).trans (C51 j)
      have C146 : ∀ j : Nat, dt71 19 j = dt 19 j := fun j => (hF73 19 (by decide) j).trans (C52 j)
      have C147 : ∀ j : Nat, dt71 20 j = dt 20 j := fun j => (hF73 20 (by decide) j).trans (C53 j)
      have C148 : ∀ j : Nat, dt71 21 j = dt 21 j := fun j => (hF73 21 (by decide) j).trans (C54 j)
      have C149 : ∀ j : Nat, dt71 22 j = dt 22 j := fun j => (hF73 22 (by decide) j).trans (C55 j)
      have C150 : ∀ j : Nat, dt71 23 j = dt 23 j := fun j => (hF73 23 (by decide) j).trans (C56 j)
      have C151 : ∀ j : Nat, dt71 25 j = dt 25 j := fun j => (hF73 25 (by decide) j).trans (C57 j)
      have C152 : ∀ j : Nat, dt71 26 j = dt 26 j := fun j => (hF73 26 (by decide) j).trans (C58 j)
      have C153 : ∀ j : Nat, dt71 28 j = dt 28 j := fun j => (hF73 28 (by decide) j).trans (C59 j)
      have C154 : ∀ j : Nat, dt71 13 j = dt 13 j := fun j => (hF73 13 (by decide) j).trans (C60 j)
      have C155 : ∀ j : Nat, dt71 30 j = dt 30 j := fun j => (hF73 30 (by decide) j).trans (C61 j)
      have C156 : ∀ j : Nat, dt71 36 j = dt 36 j := fun j => (hF73 36 (by decide) j).trans (C62 j)
      have C157 : ∀ j : Nat, dt71 81 j = dt 81 j := fun j => (hF73 81 (by decide) j).trans (C64 j)
      have C158 : ∀ j : Nat, dt71 85 j = dt 85 j := fun j => (hF73 85 (by decide) j).trans (C65 j)
      have F159 : ∀ j : Nat, 6 ≤ j → j < 974 → dt71 80 j = dt 80 j := fun j h1_ h2_ => (h70_9 j (by (first | omega | (have z0_ := unhid h5_0; omega))) (by (first | omega | (have z0_ := unhid h5_0; omega)))).trans (C63 j)
      have F160 : ∀ j : Nat, 974 ≤ j → j < 5320 → dt71 80 j = dt 80 j := fun j h1_ h2_ => (h70_9 j (by (first | omega | (have z0_ := unhid h5_0; omega))) (by (first | omega | (have z0_ := unhid h5_0; omega)))).trans (C63 j)
      have F161 : ∀ j : Nat, 5320 ≤ j → j < 5380 → dt71 80 j = dt 80 j := fun j h1_ h2_ => (h70_9 j (by (first | omega | (have z0_ := unhid h5_0; omega))) (by (first | omega | (have z0_ := unhid h5_0; omega)))).trans (C63 j)
      have F162 : dt71 80 1 = dt 80 1 := (h70_9 1 (by (first | omega | (have z0_ := unhid h5_0; omega))) (by (first | omega | (have z0_ := unhid h5_0; omega)))).trans (C63 1)
      have F163 : ∀ j : Nat, 5380 ≤ j → j < 5540 → dt71 80 j = dt 80 j := fun j h1_ h2_ => (h70_9 j (by (first | omega | (have z0_ := unhid h5_0; omega))) (by (first | omega | (have z0_ := unhid h5_0; omega)))).trans (C63 j)
      refine go_toq PM267 (k := 2) (pc' := 1435) (L' := [some (.inr (.inr (some 3000))), some (.inr (.inr (some 0))), some (.inr (.inr (some 79))), some (.inl i)]) (st' := []) (w' := (SH, dt71)) rfl ?_
      exact K dt71 hI72 hM131 M2137 (w75.trans (hk0.trans w132.symm)) (w76.trans (hk1.trans w133.symm)) (w77.trans (hk2.trans w134.symm)) (by (first | omega | (have z0_ := unhid h5_0; omega))) (w79.trans (hk4.trans w135.symm)) (w80.trans (hk5.trans w136.symm)) (w81.trans (hk6.trans w91.symm)) (w82.trans (hk7.trans w92.symm)) (w83.trans (hk8.trans w93.symm)) (w84.trans (hk9.trans w94.symm)) (w85.trans (hk10.trans w95.symm)) (w86.trans (hk11.trans w96.symm)) (w87.trans (hk12.trans w97.symm)) (w88.trans (hk13.trans w98.symm)) (w89.trans (hk14.trans w99.symm)) (w90.trans (hk15.trans w100.symm)) (by first | exact hI | exact TPL_k hd0 C156 C158 (by (first | omega | (have z0_ := unhid h5_0; omega))) | (exfalso; (first | omega | (have z0_ := unhid h5_0; omega)))) (by first | exact hI | exact SCL_k hd1 hM (fun j _ => C138 j) (fun j _ => C139 j) F159 | (exfalso; (first | omega | (have z0_ := unhid h5_0; omega)))) (by first | exact hI | exact SCL_k hd2 hM2 (fun j _ => C146 j) (fun j _ => C147 j) (fun j _ _ => C157 j) | (exfalso; (first | omega | (have z0_ := unhid h5_0; omega)))) (by first | exact hI | exact QRL_k hd3 hM (fun j _ => C143 j) F162 F161 | (exfalso; (first | omega | (have z0_ := unhid h5_0; omega)))) (by first | exact hI | exact QRL_k hd4 hM2 (fun j _ => C151 j) (C157 1) (fun j _ _ => C157 j) | (exfalso; (first | omega | (have z0_ := unhid h5_0; omega)))) (by first | exact hI | exact SDL_k hd5 hM (fun j _ => C144 j) F162 F159 F161 | (exfalso; (first | omega | (have z0_ := unhid h5_0; omega)))) (by first | exact hI | exact SDL_k hd6 hM2 (fun j _ => C152 j) (C157 1) (fun j _ _ => C157 j) (fun j _ _ => C157 j) | (exfalso; (first | omega | (have z0_ := unhid h5_0; omega)))) (by first | exact hI | exact LWL_k hd7 hM (fun j _ => C140 j) (fun j _ => C141 j) (fun j _ => C142 j) F160 | (exfalso; (first | omega | (have z0_ := unhid h5_0; omega)))) (by first | exact hI | exact LWL_k hd8 hM2 (fun j _ => C148 j) (fun j _ => C149 j) (fun j _ => C150 j) (fun j _ _ => C157 j) | (exfalso; (first | omega | (have z0_ := unhid h5_0; omega)))) (by first | exact hI | exact CHL_k hd9 hM (fun j _ => C145 j) (by (first | omega | (have z0_ := unhid h5_0; omega))) F163 | (exfalso; (first | omega | (have z0_ := unhid h5_0; omega)))) (by first | exact hI | exact CHL_k hd10 hM2 (fun j _ => C153 j) (by (first | omega | (have z0_ := unhid h5_0; omega))) (fun j _ _ => C157 j) | (exfalso; (first | omega | (have z0_ := unhid h5_0; omega)))) (by first | exact hI | exact ANL_k hd11 hM (fun j _ => C154 j) (by (first | omega | (have z0_ := unhid h5_0; omega))) (by (first | omega | (have z0_ := unhid h5_0; omega))) (by (first | omega | (have z0_ := unhid h5_0; omega))) hI | (exfalso; (first | omega | (have z0_ := unhid h5_0; omega)))) (by first | exact hI | exact ANL_k hd12 hM2 (fun j _ => C155 j) (by (first | omega | (have z0_ := unhid h5_0; omega))) (by (first | omega | (have z0_ := unhid h5_0; omega))) (by (first | omega | (have z0_ := unhid h5_0; omega))) (fun j _ _ => C157 j) | (exfalso; (first | omega | (have z0_ := unhid h5_0; omega))))
  · skip
    obtain ⟨h5_0, h5_1, h5_2, h5_3, h5_4, h5_5, h5_6, h5_7, h5_8, h5_9⟩ := h5
    have M2164 : MW (dt6 81) := MW_frk hM2 hF8 (by decide)
    have C165 : ∀ j : Nat, dt6 2 j = dt 2 j := fun j => (hF8 2 (by decide) j).trans ((fun _ => rfl) j)
    have C166 : ∀ j : Nat, dt6 3 j = dt 3 j := fun j => (hF8 3 (by decide) j).trans ((fun _ => rfl) j)
    have C167 : ∀ j : Nat, dt6 4 j = dt 4 j := fun j => (hF8 4 (by decide) j).trans ((fun _ => rfl) j)
    have C168 : ∀ j : Nat, dt6 5 j = dt 5 j := fun j => (hF8 5 (by decide) j).trans ((fun _ => rfl) j)
    have C169 : ∀ j : Nat, dt6 6 j = dt 6 j := fun j => (hF8 6 (by decide) j).trans ((fun _ => rfl) j)
    have C170 : ∀ j : Nat, dt6 8 j = dt 8 j := fun j => (hF8 8 (by decide) j).trans ((fun _ => rfl) j)
    have C171 : ∀ j : Nat, dt6 9 j = dt 9 j := fun j => (hF8 9 (by decide) j).trans ((fun _ => rfl) j)
    have C172 : ∀ j : Nat, dt6 11 j = dt 11 j := fun j => (hF8 11 (by decide) j).trans ((fun _ => rfl) j)
    have C173 : ∀ j : Nat, dt6 19 j = dt 19 j := fun j => (hF8 19 (by decide) j).trans ((fun _ => rfl) j)
    have C174 : ∀ j : Nat, dt6 20 j = dt 20 j := fun j => (hF8 20 (by decide) j).trans ((fun _ => rfl) j)
    have C175 : ∀ j : Nat, dt6 21 j = dt 21 j := fun j => (hF8 21 (by decide) j).trans ((fun _ => rfl) j)
    have C176 : ∀ j : Nat, dt6 22 j = dt 22 j := fun j => (hF8 22 (by decide) j).trans ((fun _ => rfl) j)
    have C177 : ∀ j : Nat, dt6 23 j = dt 23 j := fun j => (hF8 23 (by decide) j).trans ((fun _ => rfl) j)
    have C178 : ∀ j : Nat, dt6 25 j = dt 25 j := fun j => (hF8 25 (by decide) j).trans ((fun _ => rfl) j)
    have C179 : ∀ j : Nat, dt6 26 j = dt 26 j := fun j => (hF8 26 (by decide) j).trans ((fun _ => rfl) j)
    have C180 : ∀ j : Nat, dt6 28 j = dt 28 j := fun j => (hF8 28 (by decide) j).trans ((fun _ => rfl) j)
    have C181 : ∀ j : Nat, dt6 30 j = dt 30 j := fun j => (hF8 30 (by decide) j).trans ((fun _ => rfl) j)
    have C182 : ∀ j : Nat, dt6 36 j = dt 36 j := fun j => (hF8 36 (by decide) j).trans ((fun _ => rfl) j)
    have C183 : ∀ j : Nat, dt6 80 j = dt 80 j := fun j => (hF8 80 (by decide) j).trans ((fun _ => rfl) j)
    have C184 : ∀ j : Nat, dt6 81 j = dt 81 j := fun j => (hF8 81 (by decide) j).trans ((fun _ => rfl) j)
    have C185 : ∀ j : Nat, dt6 85 j = dt 85 j := fun j => (hF8 85 (by decide) j).trans ((fun _ => rfl) j)
    refine go_toq PM267 (k := 6) (pc' := 769) (L' := [some (.inr (.inr (some 3000))), some (.inr (.inr (some 0))), some (.inr (.inr (some 79))), some (.inl i)]) (st' := [.inl (i + 1), .inr (.inr (some 3000)), .inr (.inr (some 79))]) (w' := (SH, dt6)) rfl ?_
    have r186 := i32_R (xs ((i + 1).toNat))
    refine go_smpq PM267 (L' := [some (.inr (.inr (some 3000))), some (.inr (.inr (some 0))), some (.inr (.inr (some 79))), some (.inl i)]) (st' := [.inl ((xs ((i + 1).toNat)).toInt), .inr (.inr (some 79))]) (w' := (SH, dt6)) rfl rfl (s_iald (n := L) (f := fun j => (xs j).toInt) (am_scr hLL) ⟨by omega, by omega⟩) ?_
    refine go_toq PM267 (k := 4) (pc' := 774) (L' := [some (.inr (.inr (some 3000))), some (.inr (.inr (some 0))), some (.inr (.inr (some 79))), some (.inl i)]) (st' := [.inl (i + 2), .inr (.inr (some 3000)), .inl ((xs ((i + 1).toNat)).toInt), .inr (.inr (some 79))]) (w' := (SH, dt6)) rfl ?_
    have r187 := i32_R (xs ((i + 2).toNat))
    refine go_smpq PM267 (L' := [some (.inr (.inr (some 3000))), some (.inr (.inr (some 0))), some (.inr (.inr (some 79))), some (.inl i)]) (st' := [.inl ((xs ((i + 2).toNat)).toInt), .inl ((xs ((i + 1).toNat)).toInt), .inr (.inr (some 79))]) (w' := (SH, dt6)) rfl rfl (s_iald (n := L) (f := fun j => (xs j).toInt) (am_scr hLL) ⟨by omega, by omega⟩) ?_
    refine go_toq PM267 (k := 4) (pc' := 779) (L' := [some (.inr (.inr (some 3000))), some (.inr (.inr (some 0))), some (.inr (.inr (some 79))), some (.inl i)]) (st' := [.inl (i + 3), .inr (.inr (some 3000)), .inl ((xs ((i + 2).toNat)).toInt), .inl ((xs ((i + 1).toNat)).toInt), .inr (.inr (some 79))]) (w' := (SH, dt6)) rfl ?_
    have r188 := i32_R (xs ((i + 3).toNat))
    refine go_smpq PM267 (L' := [some (.inr (.inr (some 3000))), some (.inr (.inr (some 0))), some (.inr (.inr (some 79))), some (.inl i)]) (st' := [.inl ((xs ((i + 3).toNat)).toInt), .inl ((xs ((i + 2).toNat)).toInt), .inl ((xs ((i + 1).toNat)).toInt), .inr (.inr (some 79))]) (w' := (SH, dt6)) rfl rfl (s_iald (n := L) (f := fun j => (xs j).toInt) (am_scr hLL) ⟨by omega, by omega⟩) ?_
    refine go_toq PM267 (k := 4) (pc' := 784) (L' := [some (.inr (.inr (some 3000))), some (.inr (.inr (some 0))), some (.inr (.inr (some 79))), some (.inl i)]) (st' := [.inl (i + 4), .inr (.inr (some 3000)), .inl ((xs ((i + 3).toNat)).toInt), .inl ((xs ((i + 2).toNat)).toInt), .inl ((xs ((i + 1).toNat)).toInt), .inr (.inr (some 79))]) (w' := (SH, dt6)) rfl ?_
    have r189 := i32_R (xs ((i + 4).toNat))
    refine go_smpq PM267 (L' := [some (.inr (.inr (some 3000))), some (.inr (.inr (some 0))), some (.inr (.inr (some 79))), some (.inl i)]) (st' := [.inl ((xs ((i + 4).toNat)).toInt), .inl ((xs ((i + 3).toNat)).toInt), .inl ((xs ((i + 2).toNat)).toInt), .inl ((xs ((i + 1).toNat)).toInt), .inr (.inr (some 79))]) (w' := (SH, dt6)) rfl rfl (s_iald (n := L) (f := fun j => (xs j).toInt) (am_scr hLL) ⟨by omega, by omega⟩) ?_
    refine go_callq PM267 PM213 (Q' := _) rfl rfl rfl rfl (sp_X6_told_v L xs sio (d + 36) dt6 hI7 hM10  ((xs ((i + 1).toNat)).toInt) ⟨by omega, by omega⟩ ((xs ((i + 2).toNat)).toInt) ⟨by omega, by omega⟩ ((xs ((i + 3).toNat)).toInt) ⟨by omega, by omega⟩ ((xs ((i + 4).toNat)).toInt) ⟨by omega, by omega⟩ ) ?_
    rintro _ _ ⟨dt191, rfl, hI192, hF193, h190⟩
    refine ⟨rfl, ?_⟩
    have hF194 : Fr [0, 1, 2, 3, 4, 5, 6, 7, 8, 9, 10, 11, 12, 13, 14, 15, 16, 17, 18, 19, 20, 21, 22, 23, 24, 25, 26, 27, 28, 29, 30, 31, 32, 33, 34, 35, 36, 37, 38, 39, 40, 41, 42, 43, 44, 45, 46, 47, 48, 49, 50, 51, 52, 53, 54, 55, 56, 57, 58, 59, 60, 61, 62, 63, 64, 65, 66, 67, 68, 69, 70, 71, 72, 73, 74, 75, 76, 77, 78, 79, 80, 81, 82, 83, 84, 85, 86, 87, 88, 89, 90, 91, 92, 93, 94, 95, 96, 97, 98, 99, 100, 101, 102, 103, 104] dt dt191 := Fr_tr hF9 hF193 (by decide)
    have w195 : dt191 1 0 = dt 1 0 := (hF193 1 (by decide) 0).trans w11
    have w196 : dt191 7 3 = dt 7 3 := (hF193 7 (by decide) 3).trans w12
    have w197 : dt191 10 3 = dt 10 3 := (hF193 10 (by decide) 3).trans w13
    have w198 : dt191 12 3 = dt6 12 3 := hF193 12 (by decide) 3
    have w199 : dt191 14 3 = dt 14 3 := (hF193 14 (by decide) 3).trans w14
    have w200 : dt191 16 3 = dt 16 3 := (hF193 16 (by decide) 3).trans w15
    have w201 : dt191 18 0 = dt 18 0 := (hF193 18 (by decide) 0).trans w16
    have w202 : dt191 24 3 = dt 24 3 := (hF193 24 (by decide) 3).trans w17
    have w203 : dt191 27 3 = dt 27 3 := (hF193 27 (by decide) 3).trans w18
    have w204 : dt191 29 3 = dt 29 3 := (hF193 29 (by decide) 3).trans w19
    have w205 : dt191 31 3 = dt 31 3 := (hF193 31 (by decide) 3).trans w20
    have w206 : dt191 33 3 = dt 33 3 := (hF193 33 (by decide) 3).trans w21
    have w207 : dt191 0 2 = dt 0 2 := (hF193 0 (by decide) 2).trans w22
    have w208 : dt191 35 1 = dt 35 1 := (hF193 35 (by decide) 1).trans w23
    have w209 : dt191 35 2 = dt 35 2 := (hF193 35 (by decide) 2).trans w24
    have w210 : dt191 35 3 = dt 35 3 := (hF193 35 (by decide) 3).trans w25
    have w211 : dt191 81 0 = dt 81 0 := (hF193 81 (by decide) 0).trans w32
    have w212 : dt191 81 1 = dt 81 1 := (hF193 81 (by decide) 1).trans w33
    have w213 : dt191 81 2 = dt 81 2 := (hF193 81 (by decide) 2).trans w34
    have w214 : dt191 81 3 = dt 81 3 := (hF193 81 (by decide) 3).trans w35
    have w215 : dt191 81 4 = dt 81 4 := (hF193 81 (by decide) 4).trans w36
    have w216 : dt191 81 5 = dt 81 5 := (hF193 81 (by decide) 5).trans w37
    have w217 : dt191 79 2 = dt 79 2 := (hF193 79 (by decide) 2).trans w38
    have w218 : dt191 79 12 = dt 79 12 := (hF193 79 (by decide) 12).trans w39
    have w219 : dt191 79 19 = dt 79 19 := (hF193 79 (by decide) 19).trans w40
    have w220 : dt191 79 21 = dt 79 21 := (hF193 79 (by decide) 21).trans w41
    rcases h190 with ⟨rfl, h190⟩ | ⟨v_h190, rfl, h190r, h190⟩
    · skip
      have hM221 : MW (dt191 80) := h190.2.1
      obtain ⟨h190_0, h190_1, h190_2, h190_3, h190_4, h190_5, h190_6, h190_7, h190_8⟩ := h190
      replace h190_0 := hid h190_0
      have w222 : dt191 80 0 = dt 80 0 := h190_2.trans w26
      have w223 : dt191 80 1 = dt 80 1 := h190_3.trans w27
      have w224 : dt191 80 2 = dt 80 2 := h190_4.trans w28
      have w225 : dt191 80 3 = dt 80 3 := h190_5.trans w29
      have w226 : dt191 80 4 = dt 80 4 := h190_6.trans w30
      have w227 : dt191 80 5 = dt 80 5 := h190_7.trans w31
      have M2228 : MW (dt191 81) := MW_frk M2164 hF193 (by decide)
      have C229 : ∀ j : Nat, dt191 2 j = dt 2 j := fun j => (hF193 2 (by decide) j).trans (C165 j)
      have C230 : ∀ j : Nat, dt191 3 j = dt 3 j := fun j => (hF193 3 (by decide) j).trans (C166 j)
      have C231 : ∀ j : Nat, dt191 4 j = dt 4 j := fun j => (hF193 4 (by decide) j).trans (C167 j)
      have C232 : ∀ j : Nat, dt191 5 j = dt 5 j := fun j => (hF193 5 (by decide) j).trans (C168 j)
      have C233 : ∀ j : Nat, dt191 6 j = dt 6 j := fun j => (hF193 6 (by decide) j).trans (C169 j)
      have C234 : ∀ j : Nat, dt191 8 j = dt 8 j := fun j => (hF193 8 (by decide) j).trans (C170 j)
      have C235 : ∀ j : Nat, dt191 9 j = dt 9 j := fun j => (hF193 9 (by decide) j).trans (C171 j)
      have C236 : ∀ j : Nat, dt191 11 j = dt 11 j := fun j => (hF193 11 (by decide) j).trans (C172 j)
      have C237 : ∀ j : Nat, dt191 19 j = dt 19 j := fun j => (hF193 19 (by decide) j).trans (C173 j)
      have C238 : ∀ j : Nat, dt191 20 j = dt 20 j := fun j => (hF193 20 (by decide) j).trans (C174 j)
      have C239 : ∀ j : Nat, dt191 21 j = dt 21 j := fun j => (hF193 21 (by decide) j).trans (C175 j)
      have C240 : ∀ j : Nat, dt191 22 j = dt 22 j := fun j => (hF193 22 (by decide) j).trans (C176 j)
      have C241 : ∀ j : Nat, dt191 23 j = dt 23 j := fun j => (hF193 23 (by decide) j).trans (C177 j)
      have C242 : ∀ j : Nat, dt191 25 j = dt 25 j := fun j => (hF193 25 (by decide) j).trans (C178 j)
      have C243 : ∀ j : Nat, dt191 26 j = dt 26 j := fun j => (hF193 26 (by decide) j).trans (C179 j)
      have C244 : ∀ j : Nat, dt191 28 j = dt 28 j := fun j => (hF193 28 (by decide) j).trans (C180 j)
      have C245 : ∀ j : Nat, dt191 30 j = dt 30 j := fun j => (hF193 30 (by decide) j).trans (C181 j)
      have C246 : ∀ j : Nat, dt191 36 j = dt 36 j := fun j => (hF193 36 (by decide) j).trans (C182 j)
      have C247 : ∀ j : Nat, dt191 80 j = dt 80 j := fun j => (h190_8 j).trans (C183 j)
      have C248 : ∀ j : Nat, dt191 81 j = dt 81 j := fun j => (hF193 81 (by decide) j).trans (C184 j)
      have C249 : ∀ j : Nat, dt191 85 j = dt 85 j := fun j => (hF193 85 (by decide) j).trans (C185 j)
      have N250 := fun (j : Nat) (hj : (j : Int) < 6 * dt 12 3) => (hF193 13 (by decide) j).trans (h5_3 j hj)
      have N251 := (hF193 13 (by decide) _).trans h5_4
      have N252 := (hF193 13 (by decide) _).trans h5_5
      have N253 := (hF193 13 (by decide) _).trans h5_6
      have N254 := (hF193 13 (by decide) _).trans h5_7
      have N255 := (hF193 13 (by decide) _).trans h5_8
      have N256 := (hF193 13 (by decide) _).trans h5_9
      refine go_toq PM267 (k := 2) (pc' := 1435) (L' := [some (.inr (.inr (some 3000))), some (.inr (.inr (some 0))), some (.inr (.inr (some 79))), some (.inl i)]) (st' := []) (w' := (SH, dt191)) rfl ?_
      exact K dt191 hI192 hM221 M2228 (w195.trans (hk0.trans w222.symm)) (w196.trans (hk1.trans w223.symm)) (w197.trans (hk2.trans w224.symm)) (by (first | omega | (have z0_ := unhid h190_0; omega))) (w199.trans (hk4.trans w226.symm)) (w200.trans (hk5.trans w227.symm)) (w201.trans (hk6.trans w211.symm)) (w202.trans (hk7.trans w212.symm)) (w203.trans (hk8.trans w213.symm)) (w204.trans (hk9.trans w214.symm)) (w205.trans (hk10.trans w215.symm)) (w206.trans (hk11.trans w216.symm)) (w207.trans (hk12.trans w217.symm)) (w208.trans (hk13.trans w218.symm)) (w209.trans (hk14.trans w219.symm)) (w210.trans (hk15.trans w220.symm)) (by first | exact hI | exact TPL_k hd0 C246 C249 (by (first | omega | (have z0_ := unhid h190_0; omega))) | (exfalso; (first | omega | (have z0_ := unhid h190_0; omega)))) (by first | exact hI | exact SCL_k hd1 hM (fun j _ => C229 j) (fun j _ => C230 j) (fun j _ _ => C247 j) | (exfalso; (first | omega | (have z0_ := unhid h190_0; omega)))) (by first | exact hI | exact SCL_k hd2 hM2 (fun j _ => C237 j) (fun j _ => C238 j) (fun j _ _ => C248 j) | (exfalso; (first | omega | (have z0_ := unhid h190_0; omega)))) (by first | exact hI | exact QRL_k hd3 hM (fun j _ => C234 j) (C247 1) (fun j _ _ => C247 j) | (exfalso; (first | omega | (have z0_ := unhid h190_0; omega)))) (by first | exact hI | exact QRL_k hd4 hM2 (fun j _ => C242 j) (C248 1) (fun j _ _ => C248 j) | (exfalso; (first | omega | (have z0_ := unhid h190_0; omega)))) (by first | exact hI | exact SDL_k hd5 hM (fun j _ => C235 j) (C247 1) (fun j _ _ => C247 j) (fun j _ _ => C247 j) | (exfalso; (first | omega | (have z0_ := unhid h190_0; omega)))) (by first | exact hI | exact SDL_k hd6 hM2 (fun j _ => C243 j) (C248 1) (fun j _ _ => C248 j) (fun j _ _ => C248 j) | (exfalso; (first | omega | (have z0_ := unhid h190_0; omega)))) (by first | exact hI | exact LWL_k hd7 hM (fun j _ => C231 j) (fun j _ => C232 j) (fun j _ => C233 j) (fun j _ _ => C247 j) | (exfalso; (first | omega | (have z0_ := unhid h190_0; omega)))) (by first | exact hI | exact LWL_k hd8 hM2 (fun j _ => C239 j) (fun j _ => C240 j) (fun j _ => C241 j) (fun j _ _ => C248 j) | (exfalso; (first | omega | (have z0_ := unhid h190_0; omega)))) (by first | exact hI | exact CHL_k hd9 hM (fun j _ => C236 j) (by (first | omega | (have z0_ := unhid h190_0; omega))) (fun j _ _ => C247 j) | (exfalso; (first | omega | (have z0_ := unhid h190_0; omega)))) (by first | exact hI | exact CHL_k hd10 hM2 (fun j _ => C244 j) (by (first | omega | (have z0_ := unhid h190_0; omega))) (fun j _ _ => C248 j) | (exfalso; (first | omega | (have z0_ := unhid h190_0; omega)))) (by first | exact hI | exact ANL_k hd11 hM hI (by (first | omega | (have z0_ := unhid h190_0; omega))) (by (first | omega | (have z0_ := unhid h190_0; omega))) (by (first | omega | (have z0_ := unhid h190_0; omega))) (fun j _ _ => C247 j) | (exfalso; (first | omega | (have z0_ := unhid h190_0; omega)))) (by first | exact hI | exact ANL_k hd12 hM2 (fun j _ => C245 j) (by (first | omega | (have z0_ := unhid h190_0; omega))) (by (first | omega | (have z0_ := unhid h190_0; omega))) (by (first | omega | (have z0_ := unhid h190_0; omega))) (fun j _ _ => C248 j) | (exfalso; (first | omega | (have z0_ := unhid h190_0; omega))))
    · skip
      have hM257 : MW (dt191 80) := h190.2.2.1
      obtain ⟨h190_0, h190_1, h190_2, h190_3, h190_4, h190_5, h190_6, h190_7, h190_8, h190_9, h190_10, h190_11, h190_12, h190_13, h190_14, h190_15⟩ := h190
      have w258 : dt191 80 0 = dt 80 0 := h190_4.trans w26
      have w259 : dt191 80 1 = dt 80 1 := h190_5.trans w27
      have w260 : dt191 80 2 = dt 80 2 := h190_6.trans w28
      have w261 : dt191 80 4 = dt 80 4 := h190_7.trans w30
      have w262 : dt191 80 5 = dt 80 5 := h190_8.trans w31
      have M2263 : MW (dt191 81) := MW_frk M2164 hF193 (by decide)
      have C264 : ∀ j : Nat, dt191 2 j = dt 2 j := fun j => (hF193 2 (by decide) j).trans (C165 j)
      have C265 : ∀ j : Nat, dt191 3 j = dt 3 j := fun j => (hF193 3 (by decide) j).trans (C166 j)
      have C266 : ∀ j : Nat, dt191 4 j = dt 4 j := fun j => (hF193 4 (by decide) j).trans (C167 j)
      have C267 : ∀ j : Nat, dt191 5 j = dt 5 j := fun j => (hF193 5 (by decide) j).trans (C168 j)
      have C268 : ∀ j : Nat, dt191 6 j = dt 6 j := fun j => (hF193 6 (by decide) j).trans (C169 j)
      have C269 : ∀ j : Nat, dt191 8 j = dt 8 j := fun j => (hF193 8 (by decide) j).trans (C170 j)
      have C270 : ∀ j : Nat, dt191 9 j = dt 9 j := fun j => (hF193 9 (by decide) j).trans (C171 j)
      have C271 : ∀ j : Nat, dt191 11 j = dt 11 j := fun j => (hF193 11 (by decide) j).trans (C172 j)
      have C272 : ∀ j : Nat, dt191 19 j = dt 19 j := fun j => (hF193 19 (by decide) j).trans (C173 j)
      have C273 : ∀ j : Nat, dt191 20 j = dt 20 j := fun j => (hF193 20 (by decide) j).trans (C174 j)
      have C274 : ∀ j : Nat, dt191 21 j = dt 21 j := fun j => (hF193 21 (by decide) j).trans (C175 j)
      have C275 : ∀ j : Nat, dt191 22 j = dt 22 j := fun j => (hF193 22 (by decide) j).trans (C176 j)
      have C276 : ∀ j : Nat, dt191 23 j = dt 23 j := fun j => (hF193 23 (by decide) j).trans (C177 j)
      have C277 : ∀ j : Nat, dt191 25 j = dt 25 j := fun j => (hF193 25 (by decide) j).trans (C178 j)
      have C278 : ∀ j : Nat, dt191 26 j = dt 26 j := fun j => (hF193 26 (by decide) j).trans (C179 j)
      have C279 : ∀ j : Nat, dt191 28 j = dt 28 j := fun j => (hF193 28 (by decide) j).trans (C180 j)
      have C280 : ∀ j : Nat, dt191 30 j = dt 30 j := fun j => (hF193 30 (by decide) j).trans (C181 j)
      have C281 : ∀ j : Nat, dt191 36 j = dt 36 j := fun j => (hF193 36 (by decide) j).trans (C182 j)
      have C282 : ∀ j : Nat, dt191 81 j = dt 81 j := fun j => (hF193 81 (by decide) j).trans (C184 j)
      have C283 : ∀ j : Nat, dt191 85 j = dt 85 j := fun j => (hF193 85 (by decide) j).trans (C185 j)
      have F284 : ∀ j : Nat, 6 ≤ j → j < 974 → dt191 80 j = dt 80 j := fun j h1_ h2_ => (h190_9 j (by omega) (by omega)).trans (C183 j)
      have F285 : ∀ j : Nat, 974 ≤ j → j < 5320 → dt191 80 j = dt 80 j := fun j h1_ h2_ => (h190_9 j (by omega) (by omega)).trans (C183 j)
      have F286 : ∀ j : Nat, 5320 ≤ j → j < 5380 → dt191 80 j = dt 80 j := fun j h1_ h2_ => (h190_9 j (by omega) (by omega)).trans (C183 j)
      have F287 : dt191 80 1 = dt 80 1 := (h190_9 1 (by omega) (by omega)).trans (C183 1)
      have F288 : ∀ j : Nat, 5380 ≤ j → j < 5540 → dt191 80 j = dt 80 j := fun j h1_ h2_ => (h190_9 j (by omega) (by omega)).trans (C183 j)
      have N289 := fun (j : Nat) (hj : (j : Int) < 6 * dt 12 3) => (hF193 13 (by decide) j).trans (h5_3 j hj)
      have N290 := (hF193 13 (by decide) _).trans h5_4
      have N291 := (hF193 13 (by decide) _).trans h5_5
      have N292 := (hF193 13 (by decide) _).trans h5_6
      have N293 := (hF193 13 (by decide) _).trans h5_7
      have N294 := (hF193 13 (by decide) _).trans h5_8
      have N295 := (hF193 13 (by decide) _).trans h5_9
      have N296 := h190_9
      rw [show dt6 80 = dt 80 from funext C183] at N296
      have N297 := h190_10
      rw [show dt6 80 = dt 80 from funext C183] at N297
      have N298 := h190_11
      rw [show dt6 80 = dt 80 from funext C183] at N298
      have N299 := h190_12
      rw [show dt6 80 = dt 80 from funext C183] at N299
      have N300 := h190_13
      rw [show dt6 80 = dt 80 from funext C183] at N300
      have N301 := h190_14
      rw [show dt6 80 = dt 80 from funext C183] at N301
      have N302 := h190_15
      rw [show dt6 80 = dt 80 from funext C183] at N302
      have S303 : ANL (dt191 13) (dt191 80) := by first | exact ANL_a hd11 (by omega) (by omega) N289 N290 N291 N292 N293 N294 N295 (by omega) (fun j a_ b_ c_ => N296 j a_ b_) (by first | exact N297 | (rw [N297]; first | omega | (simp only [*]; done))) (by first | exact N298 | (rw [N298]; first | omega | (simp only [*]; done))) (by first | exact N299 | (rw [N299]; first | omega | (simp only [*]; done))) (by first | exact N300 | (rw [N300]; first | omega | (simp only [*]; done))) (by first | exact N301 | (rw [N301]; first | omega | (simp only [*]; done))) (by first | exact N302 | (rw [N302]; first | omega | (simp only [*]; done))) (by omega) (by omega) (by omega) (by omega) | (exfalso; omega)
      refine go_toq PM267 (k := 2) (pc' := 1435) (L' := [some (.inr (.inr (some 3000))), some (.inr (.inr (some 0))), some (.inr (.inr (some 79))), some (.inl i)]) (st' := []) (w' := (SH, dt191)) rfl ?_
      exact K dt191 hI192 hM257 M2263 (w195.trans (hk0.trans w258.symm)) (w196.trans (hk1.trans w259.symm)) (w197.trans (hk2.trans w260.symm)) (by omega) (w199.trans (hk4.trans w261.symm)) (w200.trans (hk5.trans w262.symm)) (w201.trans (hk6.trans w211.symm)) (w202.trans (hk7.trans w212.symm)) (w203.trans (hk8.trans w213.symm)) (w204.trans (hk9.trans w214.symm)) (w205.trans (hk10.trans w215.symm)) (w206.trans (hk11.trans w216.symm)) (w207.trans (hk12.trans w217.symm)) (w208.trans (hk13.trans w218.symm)) (w209.trans (hk14.trans w219.symm)) (w210.trans (hk15.trans w220.symm)) (by first | exact hI | exact TPL_k hd0 C281 C283 (by omega) | (exfalso; omega)) (by first | exact hI | exact SCL_k hd1 hM (fun j _ => C264 j) (fun j _ => C265 j) F284 | (exfalso; omega)) (by first | exact hI | exact SCL_k hd2 hM2 (fun j _ => C272 j) (fun j _ => C273 j) (fun j _ _ => C282 j) | (exfalso; omega)) (by first | exact hI | exact QRL_k hd3 hM (fun j _ => C269 j) F287 F286 | (exfalso; omega)) (by first | exact hI | exact QRL_k hd4 hM2 (fun j _ => C277 j) (C282 1) (fun j _ _ => C282 j) | (exfalso; omega)) (by first | exact hI | exact SDL_k hd5 hM (fun j _ => C270 j) F287 F284 F286 | (exfalso; omega)) (by first | exact hI | exact SDL_k hd6 hM2 (fun j _ => C278 j) (C282 1) (fun j _ _ => C282 j) (fun j _ _ => C282 j) | (exfalso; omega)) (by first | exact hI | exact LWL_k hd7 hM (fun j _ => C266 j) (fun j _ => C267 j) (fun j _ => C268 j) F285 | (exfalso; omega)) (by first | exact hI | exact LWL_k hd8 hM2 (fun j _ => C274 j) (fun j _ => C275 j) (fun j _ => C276 j) (fun j _ _ => C282 j) | (exfalso; omega)) (by first | exact hI | exact CHL_k hd9 hM (fun j _ => C271 j) (by omega) F288 | (exfalso; omega)) (by first | exact hI | exact CHL_k hd10 hM2 (fun j _ => C279 j) (by omega) (fun j _ _ => C282 j) | (exfalso; omega)) (by first | exact S303 | exact ANL_k hd11 hM hI (by omega) (by omega) (by omega) hI | (exfalso; omega)) (by first | exact hI | exact ANL_k hd12 hM2 (fun j _ => C280 j) (by omega) (by omega) (by omega) (fun j _ _ => C282 j) | (exfalso; omega))
set_option maxRecDepth 20000 in
set_option maxHeartbeats 8000000 in
theorem sp_case14 (L : Nat) (xs : Nat → Int32) (sio : Option Nat) (d : Nat) (Q : Option AV → am_W → Prop) (hLL : L ≤ 3072) (i : Int) (hi : 0 ≤ i ∧ i ≤ 3066) (hil : i ≤ (L : Int) - 6) (dt : Nat → Nat → Int) (hI : InvC dt) (hM : MW (dt 80)) (hM2 : MW (dt 81)) (hk0 : dt 1 0 = dt 80 0) (hk1 : dt 7 3 = dt 80 1) (hk2 : dt 10 3 = dt 80 2) (hk3 : dt 12 3 = dt 80 3) (hk4 : dt 14 3 = dt 80 4) (hk5 : dt 16 3 = dt 80 5) (hk6 : dt 18 0 = dt 81 0) (hk7 : dt 24 3 = dt 81 1) (hk8 : dt 27 3 = dt 81 2) (hk9 : dt 29 3 = dt 81 3) (hk10 : dt 31 3 = dt 81 4) (hk11 : dt 33 3 = dt 81 5) (hk12 : dt 0 2 = dt 79 2) (hk13 : dt 35 1 = dt 79 12) (hk14 : dt 35 2 = dt 79 19) (hk15 : dt 35 3 = dt 79 21) (hd0 : TPL (dt 36) (dt 85) (dt 35 1)) (hd1 : SCL (dt 2) (dt 3) (dt 80)) (hd2 : SCL (dt 19) (dt 20) (dt 81)) (hd3 : QRL (dt 8) (dt 80)) (hd4 : QRL (dt 25) (dt 81)) (hd5 : SDL (dt 9) (dt 80)) (hd6 : SDL (dt 26) (dt 81)) (hd7 : LWL (dt 4) (dt 5) (dt 6) (dt 80)) (hd8 : LWL (dt 21) (dt 22) (dt 23) (dt 81)) (hd9 : CHL (dt 11) (dt 80)) (hd10 : CHL (dt 28) (dt 81)) (hd11 : ANL (dt 13) (dt 80)) (hd12 : ANL (dt 30) (dt 81)) (K : ∀ (dt : Nat → Nat → Int) (hI : InvC dt) (hM : MW (dt 80)) (hM2 : MW (dt 81)) (hk0 : dt 1 0 = dt 80 0) (hk1 : dt 7 3 = dt 80 1) (hk2 : dt 10 3 = dt 80 2) (hk3 : dt 12 3 = dt 80 3) (hk4 : dt 14 3 = dt 80 4) (hk5 : dt 16 3 = dt 80 5) (hk6 : dt 18 0 = dt 81 0) (hk7 : dt 24 3 = dt 81 1) (hk8 : dt 27 3 = dt 81 2) (hk9 : dt 29 3 = dt 81 3) (hk10 : dt 31 3 = dt 81 4) (hk11 : dt 33 3 = dt 81 5) (hk12 : dt 0 2 = dt 79 2) (hk13 : dt 35 1 = dt 79 12) (hk14 : dt 35 2 = dt 79 19) (hk15 : dt 35 3 = dt 79 21) (hd0 : TPL (dt 36) (dt 85) (dt 35 1)) (hd1 : SCL (dt 2) (dt 3) (dt 80)) (hd2 : SCL (dt 19) (dt 20) (dt 81)) (hd3 : QRL (dt 8) (dt 80)) (hd4 : QRL (dt 25) (dt 81)) (hd5 : SDL (dt 9) (dt 80)) (hd6 : SDL (dt 26) (dt 81)) (hd7 : LWL (dt 4) (dt 5) (dt 6) (dt 80)) (hd8 : LWL (dt 21) (dt 22) (dt 23) (dt 81)) (hd9 : CHL (dt 11) (dt 80)) (hd10 : CHL (dt 28) (dt 81)) (hd11 : ANL (dt 13) (dt 80)) (hd12 : ANL (dt 30) (dt 81)), GO (am_XX L xs sio) (d + 39) 267 1435 [some (.inr (.inr (some 3000))), some (.inr (.inr (some 0))), some (.inr (.inr (some 79))), some (.inl i)] [] (SH, dt) Q) : GO (am_XX L xs sio) (d + 39) 267 792 [some (.inr (.inr (some 3000))), some (.inr (.inr (some 0))), some (.inr (.inr (some 79))), some (.inl i)] [] (SH, dt) Q := by
  have hF : Fr [0, 1, 2, 3, 4, 5, 6, 7, 8, 9, 10, 11, 12, 13, 14, 15, 16, 17, 18, 19, 20, 21, 22, 23, 24, 25, 26, 27, 28, 29, 30, 31, 32, 33, 34, 35, 36, 37, 38, 39, 40, 41, 42, 43, 44, 45, 46, 47, 48, 49, 50, 51, 52, 53, 54, 55, 56, 57, 58, 59, 60, 61, 62, 63, 64, 65, 66, 67, 68, 69, 70, 71, 72, 73, 74, 75, 76, 77, 78, 79, 80, 81, 82, 83, 84, 85, 86, 87, 88, 89, 90, 91, 92, 93, 94, 95, 96, 97, 98, 99, 100, 101, 102, 103, 104] dt dt := Fr_refl
  have hqo := QOC_R hd3 hM hk1
  have hb1_ := hM.1.1
  have hb2_ := hM.1.2.1
  have hb3_ := hM.1.2.2.1
  have halk : ALK dt (dt 80) := ⟨hd7, hd3, hd5, hd9, hk1, hk2⟩
  have hav_ : ∀ i : Nat, (i : Int) < dt 12 3 → 0 ≤ dt 13 (6 * i + 1) ∧ dt 13 (6 * i + 1) < dt 7 3 := fun i hi => by have z := hd11 i (by omega); have y := z.2.2 1 (by decide); have w := z.2.1; omega
  refine go_toq PM267 (k := 5) (pc' := 797) (L' := [some (.inr (.inr (some 3000))), some (.inr (.inr (some 0))), some (.inr (.inr (some 79))), some (.inl i)]) (st' := [.inl (i + 1), .inr (.inr (some 3000)), .inr (.inr (some 0))]) (w' := (SH, dt)) rfl ?_
  have r1 := i32_R (xs ((i + 1).toNat))
  refine go_smpq PM267 (L' := [some (.inr (.inr (some 3000))), some (.inr (.inr (some 0))), some (.inr (.inr (some 79))), some (.inl i)]) (st' := [.inl ((xs ((i + 1).toNat)).toInt), .inr (.inr (some 0))]) (w' := (SH, dt)) rfl rfl (s_iald (n := L) (f := fun j => (xs j).toInt) (am_scr hLL) ⟨by omega, by omega⟩) ?_
  refine go_toq PM267 (k := 4) (pc' := 802) (L' := [some (.inr (.inr (some 3000))), some (.inr (.inr (some 0))), some (.inr (.inr (some 79))), some (.inl i)]) (st' := [.inl (i + 2), .inr (.inr (some 3000)), .inl ((xs ((i + 1).toNat)).toInt), .inr (.inr (some 0))]) (w' := (SH, dt)) rfl ?_
  have r2 := i32_R (xs ((i + 2).toNat))
  refine go_smpq PM267 (L' := [some (.inr (.inr (some 3000))), some (.inr (.inr (some 0))), some (.inr (.inr (some 79))), some (.inl i)]) (st' := [.inl ((xs ((i + 2).toNat)).toInt), .inl ((xs ((i + 1).toNat)).toInt), .inr (.inr (some 0))]) (w' := (SH, dt)) rfl rfl (s_iald (n := L) (f := fun j => (xs j).toInt) (am_scr hLL) ⟨by omega, by omega⟩) ?_
  refine go_callq PM267 PM81 (Q' := _) rfl rfl rfl rfl (sp_X5_answer_f L xs sio (d + 36) dt hI  ((xs ((i + 1).toNat)).toInt) ⟨by omega, by omega⟩ ((xs ((i + 2).toNat)).toInt) ⟨by omega, by omega⟩ ) ?_
  rintro _ _ ⟨rfl, h3⟩
  refine ⟨rfl, ?_⟩
  rcases h3 with ⟨rfl, h3⟩ | ⟨v_h3, rfl, h3r, h3⟩
  · skip
    refine go_toq PM267 (k := 6) (pc' := 812) (L' := [some (.inr (.inr (some 3000))), some (.inr (.inr (some 0))), some (.inr (.inr (some 79))), some (.inl i)]) (st' := [.inl (i + 1), .inr (.inr (some 3000)), .inr (.inr (some 79))]) (w' := (SH, dt)) rfl ?_
    refine go_smpq PM267 (L' := [some (.inr (.inr (some 3000))), some (.inr (.inr (some 0))), some (.inr (.inr (some 79))), some (.inl i)]) (st' := [.inl ((xs ((i + 1).toNat)).toInt), .inr (.inr (some 79))]) (w' := (SH, dt)) rfl rfl (s_iald (n := L) (f := fun j => (xs j).toInt) (am_scr hLL) ⟨by omega, by omega⟩) ?_
    refine go_toq PM267 (k := 4) (pc' := 817) (L' := [some (.inr (.inr (some 3000))), some (.inr (.inr (some 0))), some (.inr (.inr (some 79))), some (.inl i)]) (st' := [.inl (i + 2), .inr (.inr (some 3000)), .inl ((xs ((i + 1).toNat)).toInt), .inr (.inr (some 79))]) (w' := (SH, dt)) rfl ?_
    refine go_smpq PM267 (L' := [some (.inr (.inr (some 3000))), some (.inr (.inr (some 0))), some (.inr (.inr (some 79))), some (.inl i)]) (st' := [.inl ((xs ((i + 2).toNat)).toInt), .inl ((xs ((i + 1).toNat)).toInt), .inr (.inr (some 79))]) (w' := (SH, dt)) rfl rfl (s_iald (n := L) (f := fun j => (xs j).toInt) (am_scr hLL) ⟨by omega, by omega⟩) ?_
    refine go_callq PM267 PM214 (Q' := _) rfl rfl rfl rfl (sp_X6_answer_f L xs sio (d + 37) dt hI hM  ((xs ((i + 1).toNat)).toInt) ⟨by omega, by omega⟩ ((xs ((i + 2).toNat)).toInt) ⟨by omega, by omega⟩ ) ?_
    rintro _ _ ⟨rfl, h4⟩
    refine ⟨rfl, ?_⟩
    rcases h4 with ⟨rfl, h4⟩ | ⟨v_h4, rfl, h4r, h4⟩
    · skip
      have y5 : (0 ≤ ((xs ((i + 1).toNat)).toInt) ∧ ((xs ((i + 1).toNat)).toInt) < dt 12 3) → (0 ≤ ((xs ((i + 2).toNat)).toInt) ∧ ((xs ((i + 2).toNat)).toInt) ≤ 5) → dt 13 (6 * (((xs ((i + 1).toNat)).toInt)).toNat + (((xs ((i + 2).toNat)).toInt)).toNat) = dt 80 (5540 + 6 * (((xs ((i + 1).toNat)).toInt)).toNat + (((xs ((i + 2).toNat)).toInt)).toNat) := fun h1_ h2_ => ANL_v hd11 (by omega) (by omega)
      replace y5 := hid y5
      refine go_toq PM267 (k := 2) (pc' := 1435) (L' := [some (.inr (.inr (some 3000))), some (.inr (.inr (some 0))), some (.inr (.inr (some 79))), some (.inl i)]) (st' := []) (w' := (SH, dt)) rfl ?_
      exact K dt hI hM hM2 hk0 hk1 hk2 hk3 hk4 hk5 hk6 hk7 hk8 hk9 hk10 hk11 hk12 hk13 hk14 hk15 (by first | exact hI | exact TPL_k hd0 (fun _ => rfl) (fun _ => rfl) (by (first | omega | (have z0_ := unhid y5; omega))) | (exfalso; (first | omega | (have z0_ := unhid y5; omega)))) (by first | exact hI | exact SCL_k hd1 hM (fun j _ => (fun _ => rfl) j) (fun j _ => (fun _ => rfl) j) (fun j _ _ => (fun _ => rfl) j) | (exfalso; (first | omega | (have z0_ := unhid y5; omega)))) (by first | exact hI | exact SCL_k hd2 hM2 (fun j _ => (fun _ => rfl) j) (fun j _ => (fun _ => rfl) j) (fun j _ _ => (fun _ => rfl) j) | (exfalso; (first | omega | (have z0_ := unhid y5; omega)))) (by first | exact hI | exact QRL_k hd3 hM (fun j _ => (fun _ => rfl) j) ((fun _ => rfl) 1) (fun j _ _ => (fun _ => rfl) j) | (exfalso; (first | omega | (have z0_ := unhid y5; omega)))) (by first | exact hI | exact QRL_k hd4 hM2 (fun j _ => (fun _ => rfl) j) ((fun _ => rfl) 1) (fun j _ _ => (fun _ => rfl) j) | (exfalso; (first | omega | (have z0_ := unhid y5; omega)))) (by first | exact hI | exact SDL_k hd5 hM (fun j _ => (fun _ => rfl) j) ((fun _ => rfl) 1) (fun j _ _ => (fun _ => rfl) j) (fun j _ _ => (fun _ => rfl) j) | (exfalso; (first | omega | (have z0_ := unhid y5; omega)))) (by first | exact hI | exact SDL_k hd6 hM2 (fun j _ => (fun _ => rfl) j) ((fun _ => rfl) 1) (fun j _ _ => (fun _ => rfl) j) (fun j _ _ => (fun _ => rfl) j) | (exfalso; (first | omega | (have z0_ := unhid y5; omega)))) (by first | exact hI | exact LWL_k hd7 hM (fun j _ => (fun _ => rfl) j) (fun j _ => (fun _ => rfl) j) (fun j _ => (fun _ => rfl) j) (fun j _ _ => (fun _ => rfl) j) | (exfalso; (first | omega | (have z0_ := unhid y5; omega)))) (by first | exact hI | exact LWL_k hd8 hM2 (fun j _ => (fun _ => rfl) j) (fun j _ => (fun _ => rfl) j) (fun j _ => (fun _ => rfl) j) (fun j _ _ => (fun _ => rfl) j) | (exfalso; (first | omega | (have z0_ := unhid y5; omega)))) (by first | exact hI | exact CHL_k hd9 hM (fun j _ => (fun _ => rfl) j) (by (first | omega | (have z0_ := unhid y5; omega))) (fun j _ _ => (fun _ => rfl) j) | (exfalso; (first | omega | (have z0_ := unhid y5; omega)))) (by first | exact hI | exact CHL_k hd10 hM2 (fun j _ => (fun _ => rfl) j) (by (first | omega | (have z0_ := unhid y5; omega))) (fun j _ _ => (fun _ => rfl) j) | (exfalso; (first | omega | (have z0_ := unhid y5; omega)))) (by first | exact hI | exact ANL_k hd11 hM (fun j _ => (fun _ => rfl) j) (by (first | omega | (have z0_ := unhid y5; omega))) (by (first | omega | (have z0_ := unhid y5; omega))) (by (first | omega | (have z0_ := unhid y5; omega))) (fun j _ _ => (fun _ => rfl) j) | (exfalso; (first | omega | (have z0_ := unhid y5; omega)))) (by first | exact hI | exact ANL_k hd12 hM2 (fun j _ => (fun _ => rfl) j) (by (first | omega | (have z0_ := unhid y5; omega))) (by (first | omega | (have z0_ := unhid y5; omega))) (by (first | omega | (have z0_ := unhid y5; omega))) (fun j _ _ => (fun _ => rfl) j) | (exfalso; (first | omega | (have z0_ := unhid y5; omega))))
    · skip
      obtain ⟨h4_0, h4_1⟩ := h4
      have y6 : (0 ≤ ((xs ((i + 1).toNat)).toInt) ∧ ((xs ((i + 1).toNat)).toInt) < dt 12 3) → (0 ≤ ((xs ((i + 2).toNat)).toInt) ∧ ((xs ((i + 2).toNat)).toInt) ≤ 5) → dt 13 (6 * (((xs ((i + 1).toNat)).toInt)).toNat + (((xs ((i + 2).toNat)).toInt)).toNat) = dt 80 (5540 + 6 * (((xs ((i + 1).toNat)).toInt)).toNat + (((xs ((i + 2).toNat)).toInt)).toNat) := fun h1_ h2_ => ANL_v hd11 (by omega) (by omega)
      replace y6 := hid y6
      refine go_toq PM267 (k := 2) (pc' := 1435) (L' := [some (.inr (.inr (some 3000))), some (.inr (.inr (some 0))), some (.inr (.inr (some 79))), some (.inl i)]) (st' := []) (w' := (SH, dt)) rfl ?_
      exact K dt hI hM hM2 hk0 hk1 hk2 hk3 hk4 hk5 hk6 hk7 hk8 hk9 hk10 hk11 hk12 hk13 hk14 hk15 (by first | exact hI | exact TPL_k hd0 (fun _ => rfl) (fun _ => rfl) (by (first | omega | (have z0_ := unhid y6; omega))) | (exfalso; (first | omega | (have z0_ := unhid y6; omega)))) (by first | exact hI | exact SCL_k hd1 hM (fun j _ => (fun _ => rfl) j) (fun j _ => (fun _ => rfl) j) (fun j _ _ => (fun _ => rfl) j) | (exfalso; (first | omega | (have z0_ := unhid y6; omega)))) (by first | exact hI | exact SCL_k hd2 hM2 (fun j _ => (fun _ => rfl) j) (fun j _ => (fun _ => rfl) j) (fun j _ _ => (fun _ => rfl) j) | (exfalso; (first | omega | (have z0_ := unhid y6; omega)))) (by first | exact hI | exact QRL_k hd3 hM (fun j _ => (fun _ => rfl) j) ((fun _ => rfl) 1) (fun j _ _ => (fun _ => rfl) j) | (exfalso; (first | omega | (have z0_ := unhid y6; omega)))) (by first | exact hI | exact QRL_k hd4 hM2 (fun j _ => (fun _ => rfl) j) ((fun _ => rfl) 1) (fun j _ _ => (fun _ => rfl) j) | (exfalso; (first | omega | (have z0_ := unhid y6; omega)))) (by first | exact hI | exact SDL_k hd5 hM (fun j _ => (fun _ => rfl) j) ((fun _ => rfl) 1) (fun j _ _ => (fun _ => rfl) j) (fun j _ _ => (fun _ => rfl) j) | (exfalso; (first | omega | (have z0_ := unhid y6; omega)))) (by first | exact hI | exact SDL_k hd6 hM2 (fun j _ => (fun _ => rfl) j) ((fun _ => rfl) 1) (fun j _ _ => (fun _ => rfl) j) (fun j _ _ => (fun _ => rfl) j) | (exfalso; (first | omega | (have z0_ := unhid y6; omega)))) (by first | exact hI | exact LWL_k hd7 hM (fun j _ => (fun _ => rfl) j) (fun j _ => (fun _ => rfl) j) (fun j _ => (fun _ => rfl) j) (fun j _ _ => (fun _ => rfl) j) | (exfalso; (first | omega | (have z0_ := unhid y6; omega)))) (by first | exact hI | exact LWL_k hd8 hM2 (fun j _ => (fun _ => rfl) j) (fun j _ => (fun _ => rfl) j) (fun j _ => (fun _ => rfl) j) (fun j _ _ => (fun _ => rfl) j) | (exfalso; (first | omega | (have z0_ := unhid y6; omega)))) (by first | exact hI | exact CHL_k hd9 hM (fun j _ => (fun _ => rfl) j) (by (first | omega | (have z0_ := unhid y6; omega))) (fun j _ _ => (fun _ => rfl) j) | (exfalso; (first | omega | (have z0_ := unhid y6; omega)))) (by first | exact hI | exact CHL_k hd10 hM2 (fun j _ => (fun _ => rfl) j) (by (first | omega | (have z0_ := unhid y6; omega))) (fun j _ _ => (fun _ => rfl) j) | (exfalso; (first | omega | (have z0_ := unhid y6; omega)))) (by first | exact hI | exact ANL_k hd11 hM (fun j _ => (fun _ => rfl) j) (by (first | omega | (have z0_ := unhid y6; omega))) (by (first | omega | (have z0_ := unhid y6; omega))) (by (first | omega | (have z0_ := unhid y6; omega))) (fun j _ _ => (fun _ => rfl) j) | (exfalso; (first | omega | (have z0_ := unhid y6; omega)))) (by first | exact hI | exact ANL_k hd12 hM2 (fun j _ => (fun _ => rfl) j) (by (first | omega | (have z0_ := unhid y6; omega))) (by (first | omega | (have z0_ := unhid y6; omega))) (by (first | omega | (have z0_ := unhid y6; omega))) (fun j _ _ => (fun _ => rfl) j) | (exfalso; (first | omega | (have z0_ := unhid y6; omega))))
  · skip
    obtain ⟨h3_0, h3_1⟩ := h3
    refine go_toq PM267 (k := 6) (pc' := 812) (L' := [some (.inr (.inr (some 3000))), some (.inr (.inr (some 0))), some (.inr (.inr (some 79))), some (.inl i)]) (st' := [.inl (i + 1), .inr (.inr (some 3000)), .inr (.inr (some 79))]) (w' := (SH, dt)) rfl ?_
    refine go_smpq PM267 (L' := [some (.inr (.inr (some 3000))), some (.inr (.inr (some 0))), some (.inr (.inr (some 79))), some (.inl i)]) (st' := [.inl ((xs ((i + 1).toNat)).toInt), .inr (.inr (some 79))]) (w' := (SH, dt)) rfl rfl (s_iald (n := L) (f := fun j => (xs j).toInt) (am_scr hLL) ⟨by omega, by omega⟩) ?_
    refine go_toq PM267 (k := 4) (pc' := 817) (L' := [some (.inr (.inr (some 3000))), some (.inr (.inr (some 0))), some (.inr (.inr (some 79))), some (.inl i)]) (st' := [.inl (i + 2), .inr (.inr (some 3000)), .inl ((xs ((i + 1).toNat)).toInt), .inr (.inr (some 79))]) (w' := (SH, dt)) rfl ?_
    refine go_smpq PM267 (L' := [some (.inr (.inr (some 3000))), some (.inr (.inr (some 0))), some (.inr (.inr (some 79))), some (.inl i)]) (st' := [.inl ((xs ((i + 2).toNat)).toInt), .inl ((xs ((i + 1).toNat)).toInt), .inr (.inr (some 79))]) (w' := (SH, dt)) rfl rfl (s_iald (n := L) (f := fun j => (xs j).toInt) (am_scr hLL) ⟨by omega, by omega⟩) ?_
    refine go_callq PM267 PM214 (Q' := _) rfl rfl rfl rfl (sp_X6_answer_f L xs sio (d + 37) dt hI hM  ((xs ((i + 1).toNat)).toInt) ⟨by omega, by omega⟩ ((xs ((i + 2).toNat)).toInt) ⟨by omega, by omega⟩ ) ?_
    rintro _ _ ⟨rfl, h7⟩
    refine ⟨rfl, ?_⟩
    rcases h7 with ⟨rfl, h7⟩ | ⟨v_h7, rfl, h7r, h7⟩
    · skip
      have y8 : (0 ≤ ((xs ((i + 1).toNat)).toInt) ∧ ((xs ((i + 1).toNat)).toInt) < dt 12 3) → (0 ≤ ((xs ((i + 2).toNat)).toInt) ∧ ((xs ((i + 2).toNat)).toInt) ≤ 5) → dt 13 (6 * (((xs ((i + 1).toNat)).toInt)).toNat + (((xs ((i + 2).toNat)).toInt)).toNat) = dt 80 (5540 + 6 * (((xs ((i + 1).toNat)).toInt)).toNat + (((xs ((i + 2).toNat)).toInt)).toNat) := fun h1_ h2_ => ANL_v hd11 (by omega) (by omega)
      replace y8 := hid y8
      refine go_toq PM267 (k := 2) (pc' := 1435) (L' := [some (.inr (.inr (some 3000))), some (.inr (.inr (some 0))), some (.inr (.inr (some 79))), some (.inl i)]) (st' := []) (w' := (SH, dt)) rfl ?_
      exact K dt hI hM hM2 hk0 hk1 hk2 hk3 hk4 hk5 hk6 hk7 hk8 hk9 hk10 hk11 hk12 hk13 hk14 hk15 (by first | exact hI | exact TPL_k hd0 (fun _ => rfl) (fun _ => rfl) (by (first | omega | (have z0_ := unhid y8; omega))) | (exfalso; (first | omega | (have z0_ := unhid y8; omega)))) (by first | exact hI | exact SCL_k hd1 hM (fun j _ => (fun _ => rfl) j) (fun j _ => (fun _ => rfl) j) (fun j _ _ => (fun _ => rfl) j) | (exfalso; (first | omega | (have z0_ := unhid y8; omega)))) (by first | exact hI | exact SCL_k hd2 hM2 (fun j _ => (fun _ => rfl) j) (fun j _ => (fun _ => rfl) j) (fun j _ _ => (fun _ => rfl) j) | (exfalso; (first | omega | (have z0_ := unhid y8; omega)))) (by first | exact hI | exact QRL_k hd3 hM (fun j _ => (fun _ => rfl) j) ((fun _ => rfl) 1) (fun j _ _ => (fun _ => rfl) j) | (exfalso; (first | omega | (have z0_ := unhid y8; omega)))) (by first | exact hI | exact QRL_k hd4 hM2 (fun j _ => (fun _ => rfl) j) ((fun _ => rfl) 1) (fun j _ _ => (fun _ => rfl) j) | (exfalso; (first | omega | (have z0_ := unhid y8; omega)))) (by first | exact hI | exact SDL_k hd5 hM (fun j _ => (fun _ => rfl) j) ((fun _ => rfl) 1) (fun j _ _ => (fun _ => rfl) j) (fun j _ _ => (fun _ => rfl) j) | (exfalso; (first | omega | (have z0_ := unhid y8; omega)))) (by first | exact hI | exact SDL_k hd6 hM2 (fun j _ => (fun _ => rfl) j) ((fun _ => rfl) 1) (fun j _ _ => (fun _ => rfl) j) (fun j _ _ => (fun _ => rfl) j) | (exfalso; (first | omega | (have z0_ := unhid y8; omega)))) (by first | exact hI | exact LWL_k hd7 hM (fun j _ => (fun _ => rfl) j) (fun j _ => (fun _ => rfl) j) (fun j _ => (fun _ => rfl) j) (fun j _ _ => (fun _ => rfl) j) | (exfalso; (first | omega | (have z0_ := unhid y8; omega)))) (by first | exact hI | exact LWL_k hd8 hM2 (fun j _ => (fun _ => rfl) j) (fun j _ => (fun _ => rfl) j) (fun j _ => (fun _ => rfl) j) (fun j _ _ => (fun _ => rfl) j) | (exfalso; (first | omega | (have z0_ := unhid y8; omega)))) (by first | exact hI | exact CHL_k hd9 hM (fun j _ => (fun _ => rfl) j) (by (first | omega | (have z0_ := unhid y8; omega))) (fun j _ _ => (fun _ => rfl) j) | (exfalso; (first | omega | (have z0_ := unhid y8; omega)))) (by first | exact hI | exact CHL_k hd10 hM2 (fun j _ => (fun _ => rfl) j) (by (first | omega | (have z0_ := unhid y8; omega))) (fun j _ _ => (fun _ => rfl) j) | (exfalso; (first | omega | (have z0_ := unhid y8; omega)))) (by first | exact hI | exact ANL_k hd11 hM (fun j _ => (fun _ => rfl) j) (by (first | omega | (have z0_ := unhid y8; omega))) (by (first | omega | (have z0_ := unhid y8; omega))) (by (first | omega | (have z0_ := unhid y8; omega))) (fun j _ _ => (fun _ => rfl) j) | (exfalso; (first | omega | (have z0_ := unhid y8; omega)))) (by first | exact hI | exact ANL_k hd12 hM2 (fun j _ => (fun _ => rfl) j) (by (first | omega | (have z0_ := unhid y8; omega))) (by (first | omega | (have z0_ := unhid y8; omega))) (by (first | omega | (have z0_ := unhid y8; omega))) (fun j _ _ => (fun _ => rfl) j) | (exfalso; (first | omega | (have z0_ := unhid y8; omega))))
    · skip
      obtain ⟨h7_0, h7_1⟩ := h7
      have y9 : (0 ≤ ((xs ((i + 1).toNat)).toInt) ∧ ((xs ((i + 1).toNat)).toInt) < dt 12 3) → (0 ≤ ((xs ((i + 2).toNat)).toInt) ∧ ((xs ((i + 2).toNat)).toInt) ≤ 5) → dt 13 (6 * (((xs ((i + 1).toNat)).toInt)).toNat + (((xs ((i + 2).toNat)).toInt)).toNat) = dt 80 (5540 + 6 * (((xs ((i + 1).toNat)).toInt)).toNat + (((xs ((i + 2).toNat)).toInt)).toNat) := fun h1_ h2_ => ANL_v hd11 (by omega) (by omega)
      replace y9 := hid y9
      refine go_toq PM267 (k := 2) (pc' := 1435) (L' := [some (.inr (.inr (some 3000))), some (.inr (.inr (some 0))), some (.inr (.inr (some 79))), some (.inl i)]) (st' := []) (w' := (SH, dt)) rfl ?_
      exact K dt hI hM hM2 hk0 hk1 hk2 hk3 hk4 hk5 hk6 hk7 hk8 hk9 hk10 hk11 hk12 hk13 hk14 hk15 (by first | exact hI | exact TPL_k hd0 (fun _ => rfl) (fun _ => rfl) (by (first | omega | (have z0_ := unhid y9; omega))) | (exfalso; (first | omega | (have z0_ := unhid y9; omega)))) (by first | exact hI | exact SCL_k hd1 hM (fun j _ => (fun _ => rfl) j) (fun j _ => (fun _ => rfl) j) (fun j _ _ => (fun _ => rfl) j) | (exfalso; (first | omega | (have z0_ := unhid y9; omega)))) (by first | exact hI | exact SCL_k hd2 hM2 (fun j _ => (fun _ => rfl) j) (fun j _ => (fun _ => rfl) j) (fun j _ _ => (fun _ => rfl) j) | (exfalso; (first | omega | (have z0_ := unhid y9; omega)))) (by first | exact hI | exact QRL_k hd3 hM (fun j _ => (fun _ => rfl) j) ((fun _ => rfl) 1) (fun j _ _ => (fun _ => rfl) j) | (exfalso; (first | omega | (have z0_ := unhid y9; omega)))) (by first | exact hI | exact QRL_k hd4 hM2 (fun j _ => (fun _ => rfl) j) ((fun _ => rfl) 1) (fun j _ _ => (fun _ => rfl) j) | (exfalso; (first | omega | (have z0_ := unhid y9; omega)))) (by first | exact hI | exact SDL_k hd5 hM (fun j _ => (fun _ => rfl) j) ((fun _ => rfl) 1) (fun j _ _ => (fun _ => rfl) j) (fun j _ _ => (fun _ => rfl) j) | (exfalso; (first | omega | (have z0_ := unhid y9; omega)))) (by first | exact hI | exact SDL_k hd6 hM2 (fun j _ => (fun _ => rfl) j) ((fun _ => rfl) 1) (fun j _ _ => (fun _ => rfl) j) (fun j _ _ => (fun _ => rfl) j) | (exfalso; (first | omega | (have z0_ := unhid y9; omega)))) (by first | exact hI | exact LWL_k hd7 hM (fun j _ => (fun _ => rfl) j) (fun j _ => (fun _ => rfl) j) (fun j _ => (fun _ => rfl) j) (fun j _ _ => (fun _ => rfl) j) | (exfalso; (first | omega | (have z0_ := unhid y9; omega)))) (by first | exact hI | exact LWL_k hd8 hM2 (fun j _ => (fun _ => rfl) j) (fun j _ => (fun _ => rfl) j) (fun j _ => (fun _ => rfl) j) (fun j _ _ => (fun _ => rfl) j) | (exfalso; (first | omega | (have z0_ := unhid y9; omega)))) (by first | exact hI | exact CHL_k hd9 hM (fun j _ => (fun _ => rfl) j) (by (first | omega | (have z0_ := unhid y9; omega))) (fun j _ _ => (fun _ => rfl) j) | (exfalso; (first | omega | (have z0_ := unhid y9; omega)))) (by first | exact hI | exact CHL_k hd10 hM2 (fun j _ => (fun _ => rfl) j) (by (first | omega | (have z0_ := unhid y9; omega))) (fun j _ _ => (fun _ => rfl) j) | (exfalso; (first | omega | (have z0_ := unhid y9; omega)))) (by first | exact hI | exact ANL_k hd11 hM (fun j _ => (fun _ => rfl) j) (by (first | omega | (have z0_ := unhid y9; omega))) (by (first | omega | (have z0_ := unhid y9; omega))) (by (first | omega | (have z0_ := unhid y9; omega))) (fun j _ _ => (fun _ => rfl) j) | (exfalso; (first | omega | (have z0_ := unhid y9; omega)))) (by first | exact hI | exact ANL_k hd12 hM2 (fun j _ => (fun _ => rfl) j) (by (first | omega | (have z0_ := unhid y9; omega))) (by (first | omega | (have z0_ := unhid y9; omega))) (by (first | omega | (have z0_ := unhid y9; omega))) (fun j _ _ => (fun _ => rfl) j) | (exfalso; (first | omega | (have z0_ := unhid y9; omega))))
set_option maxRecDepth 20000 in
set_option maxHeartbeats 8000000 in
theorem sp_case15 (L : Nat) (xs : Nat → Int32) (sio : Option Nat) (d : Nat) (Q : Option AV → am_W → Prop) (hLL : L ≤ 3072) (i : Int) (hi : 0 ≤ i ∧ i ≤ 3066) (hil : i ≤ (L : Int) - 6) (dt : Nat → Nat → Int) (hI : InvC dt) (hM : MW (dt 80)) (hM2 : MW (dt 81)) (hk0 : dt 1 0 = dt 80 0) (hk1 : dt 7 3 = dt 80 1) (hk2 : dt 10 3 = dt 80 2) (hk3 : dt 12 3 = dt 80 3) (hk4 : dt 14 3 = dt 80 4) (hk5 : dt 16 3 = dt 80 5) (hk6 : dt 18 0 = dt 81 0) (hk7 : dt 24 3 = dt 81 1) (hk8 : dt 27 3 = dt 81 2) (hk9 : dt 29 3 = dt 81 3) (hk10 : dt 31 3 = dt 81 4) (hk11 : dt 33 3 = dt 81 5) (hk12 : dt 0 2 = dt 79 2) (hk13 : dt 35 1 = dt 79 12) (hk14 : dt 35 2 = dt 79 19) (hk15 : dt 35 3 = dt 79 21) (hd0 : TPL (dt 36) (dt 85) (dt 35 1)) (hd1 : SCL (dt 2) (dt 3) (dt 80)) (hd2 : SCL (dt 19) (dt 20) (dt 81)) (hd3 : QRL (dt 8) (dt 80)) (hd4 : QRL (dt 25) (dt 81)) (hd5 : SDL (dt 9) (dt 80)) (hd6 : SDL (dt 26) (dt 81)) (hd7 : LWL (dt 4) (dt 5) (dt 6) (dt 80)) (hd8 : LWL (dt 21) (dt 22) (dt 23) (dt 81)) (hd9 : CHL (dt 11) (dt 80)) (hd10 : CHL (dt 28) (dt 81)) (hd11 : ANL (dt 13) (dt 80)) (hd12 : ANL (dt 30) (dt 81)) (K : ∀ (dt : Nat → Nat → Int) (hI : InvC dt) (hM : MW (dt 80)) (hM2 : MW (dt 81)) (hk0 : dt 1 0 = dt 80 0) (hk1 : dt 7 3 = dt 80 1) (hk2 : dt 10 3 = dt 80 2) (hk3 : dt 12 3 = dt 80 3) (hk4 : dt 14 3 = dt 80 4) (hk5 : dt 16 3 = dt 80 5) (hk6 : dt 18 0 = dt 81 0) (hk7 : dt 24 3 = dt 81 1) (hk8 : dt 27 3 = dt 81 2) (hk9 : dt 29 3 = dt 81 3) (hk10 : dt 31 3 = dt 81 4) (hk11 : dt 33 3 = dt 81 5) (hk12 : dt 0 2 = dt 79 2) (hk13 : dt 35 1 = dt 79 12) (hk14 : dt 35 2 = dt 79 19) (hk15 : dt 35 3 = dt 79 21) (hd0 : TPL (dt 36) (dt 85) (dt 35 1)) (hd1 : SCL (dt 2) (dt 3) (dt 80)) (hd2 : SCL (dt 19) (dt 20) (dt 81)) (hd3 : QRL (dt 8) (dt 80)) (hd4 : QRL (dt 25) (dt 81)) (hd5 : SDL (dt 9) (dt 80)) (hd6 : SDL (dt 26) (dt 81)) (hd7 : LWL (dt 4) (dt 5) (dt 6) (dt 80)) (hd8 : LWL (dt 21) (dt 22) (dt 23) (dt 81)) (hd9 : CHL (dt 11) (dt 80)) (hd10 : CHL (dt 28) (dt 81)) (hd11 : ANL (dt 13) (dt 80)) (hd12 : ANL (dt 30) (dt 81)), GO (am_XX L xs sio) (d + 39) 267 1435 [some (.inr (.inr (some 3000))), some (.inr (.inr (some 0))), some (.inr (.inr (some 79))), some (.inl i)] [] (SH, dt) Q) : GO (am_XX L xs sio) (d + 39) 267 825 [some (.inr (.inr (some 3000))), some (.inr (.inr (some 0))), some (.inr (.inr (some 79))), some (.inl i)] [] (SH, dt) Q := by
  have hF : Fr [0, 1, 2, 3, 4, 5, 6, 7, 8, 9, 10, 11, 12, 13, 14, 15, 16, 17, 18, 19, 20, 21, 22, 23, 24, 25, 26, 27, 28, 29, 30, 31, 32, 33, 34, 35, 36, 37, 38, 39, 40, 41, 42, 43, 44, 45, 46, 47, 48, 49, 50, 51, 52, 53, 54, 55, 56, 57, 58, 59, 60, 61, 62, 63, 64, 65, 66, 67, 68, 69, 70, 71, 72, 73, 74, 75, 76, 77, 78, 79, 80, 81, 82, 83, 84, 85, 86, 87, 88, 89, 90, 91, 92, 93, 94, 95, 96, 97, 98, 99, 100, 101, 102, 103, 104] dt dt := Fr_refl
  have hqo := QOC_R hd3 hM hk1
  have hb1_ := hM.1.1
  have hb2_ := hM.1.2.1
  have hb3_ := hM.1.2.2.1
  have halk : ALK dt (dt 80) := ⟨hd7, hd3, hd5, hd9, hk1, hk2⟩
  have hav_ : ∀ i : Nat, (i : Int) < dt 12 3 → 0 ≤ dt 13 (6 * i + 1) ∧ dt 13 (6 * i + 1) < dt 7 3 := fun i hi => by have z := hd11 i (by omega); have y := z.2.2 1 (by decide); have w := z.2.1; omega
  refine go_toq PM267 (k := 5) (pc' := 830) (L' := [some (.inr (.inr (some 3000))), some (.inr (.inr (some 0))), some (.inr (.inr (some 79))), some (.inl i)]) (st' := [.inl (i + 1), .inr (.inr (some 3000)), .inr (.inr (some 0))]) (w' := (SH, dt)) rfl ?_
  have r1 := i32_R (xs ((i + 1).toNat))
  refine go_smpq PM267 (L' := [some (.inr (.inr (some 3000))), some (.inr (.inr (some 0))), some (.inr (.inr (some 79))), some (.inl i)]) (st' := [.inl ((xs ((i + 1).toNat)).toInt), .inr (.inr (some 0))]) (w' := (SH, dt)) rfl rfl (s_iald (n := L) (f := fun j => (xs j).toInt) (am_scr hLL) ⟨by omega, by omega⟩) ?_
  refine go_toq PM267 (k := 4) (pc' := 835) (L' := [some (.inr (.inr (some 3000))), some (.inr (.inr (some 0))), some (.inr (.inr (some 79))), some (.inl i)]) (st' := [.inl (i + 2), .inr (.inr (some 3000)), .inl ((xs ((i + 1).toNat)).toInt), .inr (.inr (some 0))]) (w' := (SH, dt)) rfl ?_
  have r2 := i32_R (xs ((i + 2).toNat))
  refine go_smpq PM267 (L' := [some (.inr (.inr (some 3000))), some (.inr (.inr (some 0))), some (.inr (.inr (some 79))), some (.inl i)]) (st' := [.inl ((xs ((i + 2).toNat)).toInt), .inl ((xs ((i + 1).toNat)).toInt), .inr (.inr (some 0))]) (w' := (SH, dt)) rfl rfl (s_iald (n := L) (f := fun j => (xs j).toInt) (am_scr hLL) ⟨by omega, by omega⟩) ?_
  refine go_toq PM267 (k := 4) (pc' := 840) (L' := [some (.inr (.inr (some 3000))), some (.inr (.inr (some 0))), some (.inr (.inr (some 79))), some (.inl i)]) (st' := [.inl (i + 3), .inr (.inr (some 3000)), .inl ((xs ((i + 2).toNat)).toInt), .inl ((xs ((i + 1).toNat)).toInt), .inr (.inr (some 0))]) (w' := (SH, dt)) rfl ?_
  have r3 := i32_R (xs ((i + 3).toNat))
  refine go_smpq PM267 (L' := [some (.inr (.inr (some 3000))), some (.inr (.inr (some 0))), some (.inr (.inr (some 79))), some (.inl i)]) (st' := [.inl ((xs ((i + 3).toNat)).toInt), .inl ((xs ((i + 2).toNat)).toInt), .inl ((xs ((i + 1).toNat)).toInt), .inr (.inr (some 0))]) (w' := (SH, dt)) rfl rfl (s_iald (n := L) (f := fun j => (xs j).toInt) (am_scr hLL) ⟨by omega, by omega⟩) ?_
  refine go_toq PM267 (k := 4) (pc' := 845) (L' := [some (.inr (.inr (some 3000))), some (.inr (.inr (some 0))), some (.inr (.inr (some 79))), some (.inl i)]) (st' := [.inl (i + 4), .inr (.inr (some 3000)), .inl ((xs ((i + 3).toNat)).toInt), .inl ((xs ((i + 2).toNat)).toInt), .inl ((xs ((i + 1).toNat)).toInt), .inr (.inr (some 0))]) (w' := (SH, dt)) rfl ?_
  have r4 := i32_R (xs ((i + 4).toNat))
  refine go_smpq PM267 (L' := [some (.inr (.inr (some 3000))), some (.inr (.inr (some 0))), some (.inr (.inr (some 79))), some (.inl i)]) (st' := [.inl ((xs ((i + 4).toNat)).toInt), .inl ((xs ((i + 3).toNat)).toInt), .inl ((xs ((i + 2).toNat)).toInt), .inl ((xs ((i + 1).toNat)).toInt), .inr (.inr (some 0))]) (w' := (SH, dt)) rfl rfl (s_iald (n := L) (f := fun j => (xs j).toInt) (am_scr hLL) ⟨by omega, by omega⟩) ?_
  refine go_toq PM267 (k := 4) (pc' := 850) (L' := [some (.inr (.inr (some 3000))), some (.inr (.inr (some 0))), some (.inr (.inr (some 79))), some (.inl i)]) (st' := [.inl (i + 5), .inr (.inr (some 3000)), .inl ((xs ((i + 4).toNat)).toInt), .inl ((xs ((i + 3).toNat)).toInt), .inl ((xs ((i + 2).toNat)).toInt), .inl ((xs ((i + 1).toNat)).toInt), .inr (.inr (some 0))]) (w' := (SH, dt)) rfl ?_
  have r5 := i32_R (xs ((i + 5).toNat))
  refine go_smpq PM267 (L' := [some (.inr (.inr (some 3000))), some (.inr (.inr (some 0))), some (.inr (.inr (some 79))), some (.inl i)]) (st' := [.inl ((xs ((i + 5).toNat)).toInt), .inl ((xs ((i + 4).toNat)).toInt), .inl ((xs ((i + 3).toNat)).toInt), .inl ((xs ((i + 2).toNat)).toInt), .inl ((xs ((i + 1).toNat)).toInt), .inr (.inr (some 0))]) (w' := (SH, dt)) rfl rfl (s_iald (n := L) (f := fun j => (xs j).toInt) (am_scr hLL) ⟨by omega, by omega⟩) ?_
  refine go_callq PM267 PM82 (Q' := _) rfl rfl rfl rfl (sp_X5_chance_f L xs sio (d + 33) dt hI (dt 80) hM ((xs ((i + 1).toNat)).toInt) ⟨by omega, by omega⟩ ((xs ((i + 2).toNat)).toInt) ⟨by omega, by omega⟩ ((xs ((i + 3).toNat)).toInt) ⟨by omega, by omega⟩ ((xs ((i + 4).toNat)).toInt) ⟨by omega, by omega⟩ ((xs ((i + 5).toNat)).toInt) ⟨by omega, by omega⟩ (by first | exact True.intro | with_reducible assumption | rfl | omega | trivial | exact hM2 | exact hd1 | exact hqo | exact halk | exact hav_)) ?_
  rintro _ _ ⟨dt7, rfl, hI8, hF9, h6⟩
  refine ⟨rfl, ?_⟩
  have hF10 : Fr [0, 1, 2, 3, 4, 5, 6, 7, 8, 9, 10, 11, 12, 13, 14, 15, 16, 17, 18, 19, 20, 21, 22, 23, 24, 25, 26, 27, 28, 29, 30, 31, 32, 33, 34, 35, 36, 37, 38, 39, 40, 41, 42, 43, 44, 45, 46, 47, 48, 49, 50, 51, 52, 53, 54, 55, 56, 57, 58, 59, 60, 61, 62, 63, 64, 65, 66, 67, 68, 69, 70, 71, 72, 73, 74, 75, 76, 77, 78, 79, 80, 81, 82, 83, 84, 85, 86, 87, 88, 89, 90, 91, 92, 93, 94, 95, 96, 97, 98, 99, 100, 101, 102, 103, 104] dt dt7 := Fr_tr hF hF9 (by decide)
  have hM11 : MW (dt7 80) := MW_fr hM hF9 (by decide)
  have w12 : dt7 1 0 = dt 1 0 := hF9 1 (by decide) 0
  have w13 : dt7 7 3 = dt 7 3 := hF9 7 (by decide) 3
  have w14 : dt7 10 3 = dt 10 3 := hF9 10 (by decide) 3
  have w15 : dt7 12 3 = dt 12 3 := hF9 12 (by decide) 3
  have w16 : dt7 14 3 = dt 14 3 := hF9 14 (by decide) 3
  have w17 : dt7 16 3 = dt 16 3 := hF9 16 (by decide) 3
  have w18 : dt7 18 0 = dt 18 0 := hF9 18 (by decide) 0
  have w19 : dt7 24 3 = dt 24 3 := hF9 24 (by decide) 3
  have w20 : dt7 27 3 = dt 27 3 := hF9 27 (by decide) 3
  have w21 : dt7 29 3 = dt 29 3 := hF9 29 (by decide) 3
  have w22 : dt7 31 3 = dt 31 3 := hF9 31 (by decide) 3
  have w23 : dt7 33 3 = dt 33 3 := hF9 33 (by decide) 3
  have w24 : dt7 0 2 = dt 0 2 := hF9 0 (by decide) 2
  have w25 : dt7 35 1 = dt 35 1 := hF9 35 (by decide) 1
  have w26 : dt7 35 2 = dt 35 2 := hF9 35 (by decide) 2
  have w27 : dt7 35 3 = dt 35 3 := hF9 35 (by decide) 3
  have w28 : dt7 80 0 = dt 80 0 := hF9 80 (by decide) 0
  have w29 : dt7 80 1 = dt 80 1 := hF9 80 (by decide) 1
  have w30 : dt7 80 2 = dt 80 2 := hF9 80 (by decide) 2
  have w31 : dt7 80 3 = dt 80 3 := hF9 80 (by decide) 3
  have w32 : dt7 80 4 = dt 80 4 := hF9 80 (by decide) 4
  have w33 : dt7 80 5 = dt 80 5 := hF9 80 (by decide) 5
  have w34 : dt7 81 0 = dt 81 0 := hF9 81 (by decide) 0
  have w35 : dt7 81 1 = dt 81 1 := hF9 81 (by decide) 1
  have w36 : dt7 81 2 = dt 81 2 := hF9 81 (by decide) 2
  have w37 : dt7 81 3 = dt 81 3 := hF9 81 (by decide) 3
  have w38 : dt7 81 4 = dt 81 4 := hF9 81 (by decide) 4
  have w39 : dt7 81 5 = dt 81 5 := hF9 81 (by decide) 5
  have w40 : dt7 79 2 = dt 79 2 := hF9 79 (by decide) 2
  have w41 : dt7 79 12 = dt 79 12 := hF9 79 (by decide) 12
  have w42 : dt7 79 19 = dt 79 19 := hF9 79 (by decide) 19
  have w43 : dt7 79 21 = dt 79 21 := hF9 79 (by decide) 21
  rcases h6 with ⟨rfl, h6⟩ | ⟨v_h6, rfl, h6r, h6⟩
  · skip
    have M244 : MW (dt7 81) := MW_frk hM2 hF9 (by decide)
    have C45 : ∀ j : Nat, dt7 2 j = dt 2 j := fun j => (hF9 2 (by decide) j).trans ((fun _ => rfl) j)
    have C46 : ∀ j : Nat, dt7 3 j = dt 3 j := fun j => (hF9 3 (by decide) j).trans ((fun _ => rfl) j)
    have C47 : ∀ j : Nat, dt7 4 j = dt 4 j := fun j => (hF9 4 (by decide) j).trans ((fun _ => rfl) j)
    have C48 : ∀ j : Nat, dt7 5 j = dt 5 j := fun j => (hF9 5 (by decide) j).trans ((fun _ => rfl) j)
    have C49 : ∀ j : Nat, dt7 6 j = dt 6 j := fun j => (hF9 6 (by decide) j).trans ((fun _ => rfl) j)
    have C50 : ∀ j : Nat, dt7 8 j = dt 8 j := fun j => (hF9 8 (by decide) j).trans ((fun _ => rfl) j)
    have C51 : ∀ j : Nat, dt7 9 j = dt 9 j := fun j => (hF9 9 (by decide) j).trans ((fun _ => rfl) j)
    have C52 : ∀ j : Nat, dt7 11 j = dt 11 j := fun j => (hF9 11 (by decide) j).trans ((fun _ => rfl) j)
    have C53 : ∀ j : Nat, dt7 19 j = dt 19 j := fun j => (hF9 19 (by decide) j).trans ((fun _ => rfl) j)
    have C54 : ∀ j : Nat, dt7 20 j = dt 20 j := fun j => (hF9 20 (by decide) j).trans ((fun _ => rfl) j)
    have C55 : ∀ j : Nat, dt7 21 j = dt 21 j := fun j => (hF9 21 (by decide) j).trans ((fun _ => rfl) j)
    have C56 : ∀ j : Nat, dt7 22 j = dt 22 j := fun j => (hF9 22 (by decide) j).trans ((fun _ => rfl) j)
    have C57 : ∀ j : Nat, dt7 23 j = dt 23 j := fun j => (hF9 23 (by decide) j).trans ((fun _ => rfl) j)
    have C58 : ∀ j : Nat, dt7 25 j = dt 25 j := fun j => (hF9 25 (by decide) j).trans ((fun _ => rfl) j)
    have C59 : ∀ j : Nat, dt7 26 j = dt 26 j := fun j => (hF9 26 (by decide) j).trans ((fun _ => rfl) j)
    have C60 : ∀ j : Nat, dt7 28 j = dt 28 j := fun j => (hF9 28 (by decide) j).trans ((fun _ => rfl) j)
    have C61 : ∀ j : Nat, dt7 13 j = dt 13 j := fun j => (hF9 13 (by decide) j).trans ((fun _ => rfl) j)
    have C62 : ∀ j : Nat, dt7 30 j = dt 30 j := fun j => (hF9 30 (by decide) j).trans ((fun _ => rfl) j)
    have C63 : ∀ j : Nat, dt7 36 j = dt 36 j := fun j => (hF9 36 (by decide) j).trans ((fun _ => rfl) j)
    have C64 : ∀ j : Nat, dt7 80 j = dt 80 j := fun j => (hF9 80 (by decide) j).trans ((fun _ => rfl) j)
    have C65 : ∀ j : Nat, dt7 81 j = dt 81 j := fun j => (hF9 81 (by decide) j).trans ((fun _ => rfl) j)
    have C66 : ∀ j : Nat, dt7 85 j = dt 85 j := fun j => (hF9 85 (by decide) j).trans ((fun _ => rfl) j)
    refine go_toq PM267 (k := 6) (pc' := 860) (L' := [some (.inr (.inr (some 3000))), some (.inr (.inr (some 0))), some (.inr (.inr (some 79))), some (.inl i)]) (st' := [.inl (i + 1), .inr (.inr (some 3000)), .inr (.inr (some 79))]) (w' := (SH, dt7)) rfl ?_
    have r67 := i32_R (xs ((i + 1).toNat))
    refine go_smpq PM267 (L' := [some (.inr (.inr (some 3000))), some (.inr (.inr (some 0))), some (.inr (.inr (some 79))), some (.inl i)]) (st' := [.inl ((xs ((i + 1).toNat)).toInt), .inr (.inr (some 79))]) (w' := (SH, dt7)) rfl rfl (s_iald (n := L) (f := fun j => (xs j).toInt) (am_scr hLL) ⟨by omega, by omega⟩) ?_
    refine go_toq PM267 (k := 4) (pc' := 865) (L' := [some (.inr (.inr (some 3000))), some (.inr (.inr (some 0))), some (.inr (.inr (some 79))), some (.inl i)]) (st' := [.inl (i + 2), .inr (.inr (some 3000)), .inl ((xs ((i + 1).toNat)).toInt), .inr (.inr (some 79))]) (w' := (SH, dt7)) rfl ?_
    have r68 := i32_R (xs ((i + 2).toNat))
    refine go_smpq PM267 (L' := [some (.inr (.inr (some 3000))), some (.inr (.inr (some 0))), some (.inr (.inr (some 79))), some (.inl i)]) (st' := [.inl ((xs ((i + 2).toNat)).toInt), .inl ((xs ((i + 1).toNat)).toInt), .inr (.inr (some 79))]) (w' := (SH, dt7)) rfl rfl (s_iald (n := L) (f := fun j => (xs j).toInt) (am_scr hLL) ⟨by omega, by omega⟩) ?_
    refine go_toq PM267 (k := 4) (pc' := 870) (L' := [some (.inr (.inr (some 3000))), some (.inr (.inr (some 0))), some (.inr (.inr (some 79))), some (.inl i)]) (st' := [.inl (i + 3), .inr (.inr (some 3000)), .inl ((xs ((i + 2).toNat)).toInt), .inl ((xs ((i + 1).toNat)).toInt), .inr (.inr (some 79))]) (w' := (SH, dt7)) rfl ?_
    have r69 := i32_R (xs ((i + 3).toNat))
    refine go_smpq PM267 (L' := [some (.inr (.inr (some 3000))), some (.inr (.inr (some 0))), some (.inr (.inr (some 79))), some (.inl i)]) (st' := [.inl ((xs ((i + 3).toNat)).toInt), .inl ((xs ((i + 2).toNat)).toInt), .inl ((xs ((i + 1).toNat)).toInt), .inr (.inr (some 79))]) (w' := (SH, dt7)) rfl rfl (s_iald (n := L) (f := fun j => (xs j).toInt) (am_scr hLL) ⟨by omega, by omega⟩) ?_
    refine go_toq PM267 (k := 4) (pc' := 875) (L' := [some (.inr (.inr (some 3000))), some (.inr (.inr (some 0))), some (.inr (.inr (some 79))), some (.inl i)]) (st' := [.inl (i + 4), .inr (.inr (some 3000)), .inl ((xs ((i + 3).toNat)).toInt), .inl ((xs ((i + 2).toNat)).toInt), .inl ((xs ((i + 1).toNat)).toInt), .inr (.inr (some 79))]) (w' := (SH, dt7)) rfl ?_
    have r70 := i32_R (xs ((i + 4).toNat))
    refine go_smpq PM267 (L' := [some (.inr (.inr (some 3000))), some (.inr (.inr (some 0))), some (.inr (.inr (some 79))), some (.inl i)]) (st' := [.inl ((xs ((i + 4).toNat)).toInt), .inl ((xs ((i + 3).toNat)).toInt), .inl ((xs ((i + 2).toNat)).toInt), .inl ((xs ((i + 1).toNat)).toInt), .inr (.inr (some 79))]) (w' := (SH, dt7)) rfl rfl (s_iald (n := L) (f := fun j => (xs j).toInt) (am_scr hLL) ⟨by omega, by omega⟩) ?_
    refine go_toq PM267 (k := 4) (pc' := 880) (L' := [some (.inr (.inr (some 3000))), some (.inr (.inr (some 0))), some (.inr (.inr (some 79))), some (.inl i)]) (st' := [.inl (i + 5), .inr (.inr (some 3000)), .inl ((xs ((i + 4).toNat)).toInt), .inl ((xs ((i + 3).toNat)).toInt), .inl ((xs ((i + 2).toNat)).toInt), .inl ((xs ((i + 1).toNat)).toInt), .inr (.inr (some 79))]) (w' := (SH, dt7)) rfl ?_
    have r71 := i32_R (xs ((i + 5).toNat))
    refine go_smpq PM267 (L' := [some (.inr (.inr (some 3000))), some (.inr (.inr (some 0))), some (.inr (.inr (some 79))), some (.inl i)]) (st' := [.inl ((xs ((i + 5).toNat)).toInt), .inl ((xs ((i + 4).toNat)).toInt), .inl ((xs ((i + 3).toNat)).toInt), .inl ((xs ((i + 2).toNat)).toInt), .inl ((xs ((i + 1).toNat)).toInt), .inr (.inr (some 79))]) (w' := (SH, dt7)) rfl rfl (s_iald (n := L) (f := fun j => (xs j).toInt) (am_scr hLL) ⟨by omega, by omega⟩) ?_
    refine go_callq PM267 PM216 (Q' := _) rfl rfl rfl rfl (sp_X6_chance_f L xs sio (d + 31) dt7 hI8 hM11  ((xs ((i + 1).toNat)).toInt) ⟨by omega, by omega⟩ ((xs ((i + 2).toNat)).toInt) ⟨by omega, by omega⟩ ((xs ((i + 3).toNat)).toInt) ⟨by omega, by omega⟩ ((xs ((i + 4).toNat)).toInt) ⟨by omega, by omega⟩ ((xs ((i + 5).toNat)).toInt) ⟨by omega, by omega⟩ ) ?_
    rintro _ _ ⟨dt73, rfl, hI74, hF75, h72⟩
    refine ⟨rfl, ?_⟩
    have hF76 : Fr [0, 1, 2, 3, 4, 5, 6, 7, 8, 9, 10, 11, 12, 13, 14, 15, 16, 17, 18, 19, 20, 21, 22, 23, 24, 25, 26, 27, 28, 29, 30, 31, 32, 33, 34, 35, 36, 37, 38, 39, 40, 41, 42, 43, 44, 45, 46, 47, 48, 49, 50, 51, 52, 53, 54, 55, 56, 57, 58, 59, 60, 61, 62, 63, 64, 65, 66, 67, 68, 69, 70, 71, 72, 73, 74, 75, 76, 77, 78, 79, 80, 81, 82, 83, 84, 85, 86, 87, 88, 89, 90, 91, 92, 93, 94, 95, 96, 97, 98, 99, 100, 101, 102, 103, 104] dt dt73 := Fr_tr hF10 hF75 (by decide)
    have hM77 : MW (dt73 80) := MW_fr hM11 hF75 (by decide)
    have w78 : dt73 1 0 = dt 1 0 := (hF75 1 (by decide) 0).trans w12
    have w79 : dt73 7 3 = dt 7 3 := (hF75 7 (by decide) 3).trans w13
    have w80 : dt73 10 3 = dt 10 3 := (hF75 10 (by decide) 3).trans w14
    have w81 : dt73 12 3 = dt 12 3 := (hF75 12 (by decide) 3).trans w15
    have w82 : dt73 14 3 = dt 14 3 := (hF75 14 (by decide) 3).trans w16
    have w83 : dt73 16 3 = dt 16 3 := (hF75 16 (by decide) 3).trans w17
    have w84 : dt73 18 0 = dt 18 0 := (hF75 18 (by decide) 0).trans w18
    have w85 : dt73 24 3 = dt 24 3 := (hF75 24 (by decide) 3).trans w19
    have w86 : dt73 27 3 = dt 27 3 := (hF75 27 (by decide) 3).trans w20
    have w87 : dt73 29 3 = dt 29 3 := (hF75 29 (by decide) 3).trans w21
    have w88 : dt73 31 3 = dt 31 3 := (hF75 31 (by decide) 3).trans w22
    have w89 : dt73 33 3 = dt 33 3 := (hF75 33 (by decide) 3).trans w23
    have w90 : dt73 0 2 = dt 0 2 := (hF75 0 (by decide) 2).trans w24
    have w91 : dt73 35 1 = dt 35 1 := (hF75 35 (by decide) 1).trans w25
    have w92 : dt73 35 2 = dt 35 2 := (hF75 35 (by decide) 2).trans w26
    have w93 : dt73 35 3 = dt 35 3 := (hF75 35 (by decide) 3).trans w27
    have w94 : dt73 80 0 = dt 80 0 := (hF75 80 (by decide) 0).trans w28
    have w95 : dt73 80 1 = dt 80 1 := (hF75 80 (by decide) 1).trans w29
    have w96 : dt73 80 2 = dt 80 2 := (hF75 80 (by decide) 2).trans w30
    have w97 : dt73 80 3 = dt 80 3 := (hF75 80 (by decide) 3).trans w31
    have w98 : dt73 80 4 = dt 80 4 := (hF75 80 (by decide) 4).trans w32
    have w99 : dt73 80 5 = dt 80 5 := (hF75 80 (by decide) 5).trans w33
    have w100 : dt73 81 0 = dt 81 0 := (hF75 81 (by decide) 0).trans w34
    have w101 : dt73 81 1 = dt 81 1 := (hF75 81 (by decide) 1).trans w35
    have w102 : dt73 81 2 = dt 81 2 := (hF75 81 (by decide) 2).trans w36
    have w103 : dt73 81 3 = dt 81 3 := (hF75 81 (by decide) 3).trans w37
    have w104 : dt73 81 4 = dt 81 4 := (hF75 81 (by decide) 4).trans w38
    have w105 : dt73 81 5 = dt 81 5 := (hF75 81 (by decide) 5).trans w39
    have w106 : dt73 79 2 = dt 79 2 := (hF75 79 (by decide) 2).trans w40
    have w107 : dt73 79 12 = dt 79 12 := (hF75 79 (by decide) 12).trans w41
    have w108 : dt73 79 19 = dt 79 19 := (hF75 79 (by decide) 19).trans w42
    have w109 : dt73 79 21 = dt 79 21 := (hF75 79 (by decide) 21).trans w43
    rcases h72 with ⟨rfl, h72⟩ | ⟨v_h72, rfl, h72r, h72⟩
    · skip
      have M2110 : MW (dt73 81) := MW_frk M244 hF75 (by decide)
      have C111 : ∀ j : Nat, dt73 2 j = dt 2 j := fun j => (hF75 2 (by decide) j).trans (C45 j)
      have C112 : ∀ j : Nat, dt73 3 j = dt 3 j := fun j => (hF75 3 (by decide) j).trans (C46 j)
      have C113 : ∀ j : Nat, dt73 4 j = dt 4 j := fun j => (hF75 4 (by decide) j).trans (C47 j)
      have C114 : ∀ j : Nat, dt73 5 j = dt 5 j := fun j => (hF75 5 (by decide) j).trans (C48 j)
      have C115 : ∀ j : Nat, dt73 6 j = dt 6 j := fun j => (hF75 6 (by decide) j).trans (C49 j)
      have C116 : ∀ j : Nat, dt73 8 j = dt 8 j := fun j => (hF75 8 (by decide) j).trans (C50 j)
      have C117 : ∀ j : Nat, dt73 9 j = dt 9 j := fun j => (hF75 9 (by decide) j).trans (C51 j)
      have C118 : ∀ j : Nat, dt73 11 j = dt 11 j := fun j => (hF75 11 (by decide) j).trans (C52 j)
      have C119 : ∀ j : Nat, dt73 19 j = dt 19 j := fun j => (hF75 19 (by decide) j).trans (C53 j)
      have C120 : ∀ j : Nat, dt73 20 j = dt 20 j := fun j => (hF75 20 (by decide) j).trans (C54 j)
      have C121 : ∀ j : Nat, dt73 21 j = dt 21 j := fun j => (hF75 21 (by decide) j).trans (C55 j)
      have C122 : ∀ j : Nat, dt73 22 j = dt 22 j := fun j => (hF75 22 (by decide) j).trans (C56 j)
      have C123 : ∀ j : Nat, dt73 23 j = dt 23 j := fun j => (hF75 23 (by decide) j).trans (C57 j)
      have C124 : ∀ j : Nat, dt73 25 j = dt 25 j := fun j => (hF75 25 (by decide) j).trans (C58 j)
      have C125 : ∀ j : Nat, dt73 26 j = dt 26 j := fun j => (hF75 26 (by decide) j).trans (C59 j)
      have C126 : ∀ j : Nat, dt73 28 j = dt 28 j := fun j => (hF75 28 (by decide) j).trans (C60 j)
      have C127 : ∀ j : Nat, dt73 13 j = dt 13 j := fun j => (hF75 13 (by decide) j).trans (C61 j)
      have C128 : ∀ j : Nat, dt73 30 j = dt 30 j := fun j => (hF75 30 (by decide) j).trans (C62 j)
      have C129 : ∀ j : Nat, dt73 36 j = dt 36 j := fun j => (hF75 36 (by decide) j).trans (C63 j)
      have C130 : ∀ j : Nat, dt73 80 j = dt 80 j := fun j => (hF75 80 (by decide) j).trans (C64 j)
      have C131 : ∀ j : Nat, dt73 81 j = dt 81 j := fun j => (hF75 81 (by decide) j).trans (C65 j)
      have C132 : ∀ j : Nat, dt73 85 j = dt 85 j := fun j => (hF75 85 (by decide) j).trans (C66 j)
      refine go_toq PM267 (k := 2) (pc' := 1435) (L' := [some (.inr (.inr (some 3000))), some (.inr (.inr (some 0))), some (.inr (.inr (some 79))), some (.inl i)]) (st' := []) (w' := (SH, dt73)) rfl ?_
      exact K dt73 hI74 hM77 M2110 (w78.trans (hk0.trans w94.symm)) (w79.trans (hk1.trans w95.symm)) (w80.trans (hk2.trans w96.symm)) (w81.trans (hk3.trans w97.symm)) (w82.trans (hk4.trans w98.symm)) (w83.trans (hk5.trans w99.symm)) (w84.trans (hk6.trans w100.symm)) (w85.trans (hk7.trans w101.symm)) (w86.trans (hk8.trans w102.symm)) (w87.trans (hk9.trans w103.symm)) (w88.trans (hk10.trans w104.symm)) (w89.trans (hk11.trans w105.symm)) (w90.trans (hk12.trans w106.symm)) (w91.trans (hk13.trans w107.symm)) (w92.trans (hk14.trans w108.symm)) (w93.trans (hk15.trans w109.symm)) (by first | exact hI | exact TPL_k hd0 C129 C132 (by omega) | (exfalso; omega)) (by first | exact hI | exact SCL_k hd1 hM (fun j _ => C111 j) (fun j _ => C112 j) (fun j _ _ => C130 j) | (exfalso; omega)) (by first | exact hI | exact SCL_k hd2 hM2 (fun j _ => C119 j) (fun j _ => C120 j) (fun j _ _ => C131 j) | (exfalso; omega)) (by first | exact hI | exact QRL_k hd3 hM (fun j _ => C116 j) (C130 1) (fun j _ _ => C130 j) | (exfalso; omega)) (by first | exact hI | exact QRL_k hd4 hM2 (fun j _ => C124 j) (C131 1) (fun j _ _ => C131 j) | (exfalso; omega)) (by first | exact hI | exact SDL_k hd5 hM (fun j _ => C117 j) (C130 1) (fun j _ _ => C130 j) (fun j _ _ => C130 j) | (exfalso; omega)) (by first | exact hI | exact SDL_k hd6 hM2 (fun j _ => C125 j) (C131 1) (fun j _ _ => C131 j) (fun j _ _ => C131 j) | (exfalso; omega)) (by first | exact hI | exact LWL_k hd7 hM (fun j _ => C113 j) (fun j _ => C114 j) (fun j _ => C115 j) (fun j _ _ => C130 j) | (exfalso; omega)) (by first | exact hI | exact LWL_k hd8 hM2 (fun j _ => C121 j) (fun j _ => C122 j) (fun j _ => C123 j) (fun j _ _ => C131 j) | (exfalso; omega)) (by first | exact hI | exact CHL_k hd9 hM (fun j _ => C118 j) (by omega) (fun j _ _ => C130 j) | (exfalso; omega)) (by first | exact hI | exact CHL_k hd10 hM2 (fun j _ => C126 j) (by omega) (fun j _ _ => C131 j) | (exfalso; omega)) (by first | exact hI | exact ANL_k hd11 hM (fun j _ => C127 j) (by omega) (by omega) (by omega) (fun j _ _ => C130 j) | (exfalso; omega)) (by first | exact hI | exact ANL_k hd12 hM2 (fun j _ => C128 j) (by omega) (by omega) (by omega) (fun j _ _ => C131 j) | (exfalso; omega))
    · skip
      obtain ⟨h72_0, h72_1⟩ := h72
      have M2133 : MW (dt73 81) := MW_frk M244 hF75 (by decide)
      rw [show dt7 80 = dt 80 from funext C64] at h72_1
      have C134 : ∀ j : Nat, dt73 2 j = dt 2 j := fun j => (hF75 2 (by decide) j).trans (C45 j)
      have C135 : ∀ j : Nat, dt73 3 j = dt 3 j := fun j => (hF75 3 (by decide) j).trans (C46 j)
      have C136 : ∀ j : Nat, dt73 4 j = dt 4 j := fun j => (hF75 4 (by decide) j).trans (C47 j)
      have C137 : ∀ j : Nat, dt73 5 j = dt 5 j := fun j => (hF75 5 (by decide) j).trans (C48 j)
      have C138 : ∀ j : Nat, dt73 6 j = dt 6 j := fun j => (hF75 6 (by decide) j).trans (C49 j)
      have C139 : ∀ j : Nat, dt73 8 j = dt 8 j := fun j => (hF75 8 (by decide) j).trans (C50 j)
      have C140 : ∀ j : Nat, dt73 9 j = dt 9 j := fun j => (hF75 9 (by decide) j).trans (C51 j)
      have C141 : ∀ j : Nat, dt73 11 j = dt 11 j := fun j => (hF75 11 (by decide) j).trans (C52 j)
      have C142 : ∀ j : Nat, dt73 19 j = dt 19 j := fun j => (hF75 19 (by decide) j).trans (C53 j)
      have C143 : ∀ j : Nat, dt73 20 j = dt 20 j := fun j => (hF75 20 (by decide) j).trans (C54 j)
      have C144 : ∀ j : Nat, dt73 21 j = dt 21 j := fun j => (hF75 21 (by decide) j).trans (C55 j)
      have C145 : ∀ j : Nat, dt73 22 j = dt 22 j := fun j => (hF75 22 (by decide) j).trans (C56 j)
      have C146 : ∀ j : Nat, dt73 23 j = dt 23 j := fun j => (hF75 23 (by decide) j).trans (C57 j)
      have C147 : ∀ j : Nat, dt73 25 j = dt 25 j := fun j => (hF75 25 (by decide) j).trans (C58 j)
      have C148 : ∀ j : Nat, dt73 26 j = dt 26 j := fun j => (hF75 26 (by decide) j).trans (C59 j)
      have C149 : ∀ j : Nat, dt73 28 j = dt 28 j := fun j => (hF75 28 (by decide) j).trans (C60 j)
      have C150 : ∀ j : Nat, dt73 13 j = dt 13 j := fun j => (hF75 13 (by decide) j).trans (C61 j)
      have C151 : ∀ j : Nat, dt73 30 j = dt 30 j := fun j => (hF75 30 (by decide) j).trans (C62 j)
      have C152 : ∀ j : Nat, dt73 36 j = dt 36 j := fun j => (hF75 36 (by decide) j).trans (C63 j)
      have C153 : ∀ j : Nat, dt73 80 j = dt 80 j := fun j => (hF75 80 (by decide) j).trans (C64 j)
      have C154 : ∀ j : Nat, dt73 81 j = dt 81 j := fun j => (hF75 81 (by decide) j).trans (C65 j)
      have C155 : ∀ j : Nat, dt73 85 j = dt 85 j := fun j => (hF75 85 (by decide) j).trans (C66 j)
      refine go_toq PM267 (k := 2) (pc' := 1435) (L' := [some (.inr (.inr (some 3000))), some (.inr (.inr (some 0))), some (.inr (.inr (some 79))), some (.inl i)]) (st' := []) (w' := (SH, dt73)) rfl ?_
      exact K dt73 hI74 hM77 M2133 (w78.trans (hk0.trans w94.symm)) (w79.trans (hk1.trans w95.symm)) (w80.trans (hk2.trans w96.symm)) (w81.trans (hk3.trans w97.symm)) (w82.trans (hk4.trans w98.symm)) (w83.trans (hk5.trans w99.symm)) (w84.trans (hk6.trans w100.symm)) (w85.trans (hk7.trans w101.symm)) (w86.trans (hk8.trans w102.symm)) (w87.trans (hk9.trans w103.symm)) (w88.trans (hk10.trans w104.symm)) (w89.trans (hk11.trans w105.symm)) (w90.trans (hk12.trans w106.symm)) (w91.trans (hk13.trans w107.symm)) (w92.trans (hk14.trans w108.symm)) (w93.trans (hk15.trans w109.symm)) (by first | exact hI | exact TPL_k hd0 C152 C155 (by omega) | (exfalso; omega)) (by first | exact hI | exact SCL_k hd1 hM (fun j _ => C134 j) (fun j _ => C135 j) (fun j _ _ => C153 j) | (exfalso; omega)) (by first | exact hI | exact SCL_k hd2 hM2 (fun j _ => C142 j) (fun j _ => C143 j) (fun j _ _ => C154 j) | (exfalso; omega)) (by first | exact hI | exact QRL_k hd3 hM (fun j _ => C139 j) (C153 1) (fun j _ _ => C153 j) | (exfalso; omega)) (by first | exact hI | exact QRL_k hd4 hM2 (fun j _ => C147 j) (C154 1) (fun j _ _ => C154 j) | (exfalso; omega)) (by first | exact hI | exact SDL_k hd5 hM (fun j _ => C140 j) (C153 1) (fun j _ _ => C153 j) (fun j _ _ => C153 j) | (exfalso; omega)) (by first | exact hI | exact SDL_k hd6 hM2 (fun j _ => C148 j) (C154 1) (fun j _ _ => C154 j) (fun j _ _ => C154 j) | (exfalso; omega)) (by first | exact hI | exact LWL_k hd7 hM (fun j _ => C136 j) (fun j _ => C137 j) (fun j _ => C138 j) (fun j _ _ => C153 j) | (exfalso; omega)) (by first | exact hI | exact LWL_k hd8 hM2 (fun j _ => C144 j) (fun j _ => C145 j) (fun j _ => C146 j) (fun j _ _ => C154 j) | (exfalso; omega)) (by first | exact hI | exact CHL_k hd9 hM (fun j _ => C141 j) (by omega) (fun j _ _ => C153 j) | (exfalso; omega)) (by first | exact hI | exact CHL_k hd10 hM2 (fun j _ => C149 j) (by omega) (fun j _ _ => C154 j) | (exfalso; omega)) (by first | exact hI | exact ANL_k hd11 hM (fun j _ => C150 j) (by omega) (by omega) (by omega) (fun j _ _ => C153 j) | (exfalso; omega)) (by first | exact hI | exact ANL_k hd12 hM2 (fun j _ => C151 j) (by omega) (by omega) (by omega) (fun j _ _ => C154 j) | (exfalso; omega))
  · skip
    obtain ⟨h6_0, h6_1⟩ := h6
    have M2156 : MW (dt7 81) := MW_frk hM2 hF9 (by decide)
    have C157 : ∀ j : Nat, dt7 2 j = dt 2 j := fun j => (hF9 2 (by decide) j).trans ((fun _ => rfl) j)
    have C158 : ∀ j : Nat, dt7 3 j = dt 3 j := fun j => (hF9 3 (by decide) j).trans ((fun _ => rfl) j)
    have C159 : ∀ j : Nat, dt7 4 j = dt 4 j := fun j => (hF9 4 (by decide) j).trans ((fun _ => rfl) j)
    have C160 : ∀ j : Nat, dt7 5 j = dt 5 j := fun j => (hF9 5 (by decide) j).trans ((fun _ => rfl) j)
    have C161 : ∀ j : Nat, dt7 6 j = dt 6 j := fun j => (hF9 6 (by decide) j).trans ((fun _ => rfl) j)
    have C162 : ∀ j : Nat, dt7 8 j = dt 8 j := fun j => (hF9 8 (by decide) j).trans ((fun _ => rfl) j)
    have C163 : ∀ j : Nat, dt7 9 j = dt 9 j := fun j => (hF9 9 (by decide) j).trans ((fun _ => rfl) j)
    have C164 : ∀ j : Nat, dt7 11 j = dt 11 j := fun j => (hF9 11 (by decide) j).trans ((fun _ => rfl) j)
    have C165 : ∀ j : Nat, dt7 19 j = dt 19 j := fun j => (hF9 19 (by decide) j).trans ((fun _ => rfl) j)
    have C166 : ∀ j : Nat, dt7 20 j = dt 20 j := fun j => (hF9 20 (by decide) j).trans ((fun _ => rfl) j)
    have C167 : ∀ j : Nat, dt7 21 j = dt 21 j := fun j => (hF9 21 (by decide) j).trans ((fun _ => rfl) j)
    have C168 : ∀ j : Nat, dt7 22 j = dt 22 j := fun j => (hF9 22 (by decide) j).trans ((fun _ => rfl) j)
    have C169 : ∀ j : Nat, dt7 23 j = dt 23 j := fun j => (hF9 23 (by decide) j).trans ((fun _ => rfl) j)
    have C170 : ∀ j : Nat, dt7 25 j = dt 25 j := fun j => (hF9 25 (by decide) j).trans ((fun _ => rfl) j)
    have C171 : ∀ j : Nat, dt7 26 j = dt 26 j := fun j => (hF9 26 (by decide) j).trans ((fun _ => rfl) j)
    have C172 : ∀ j : Nat, dt7 28 j = dt 28 j := fun j => (hF9 28 (by decide) j).trans ((fun _ => rfl) j)
    have C173 : ∀ j : Nat, dt7 13 j = dt 13 j := fun j => (hF9 13 (by decide) j).trans ((fun _ => rfl) j)
    have C174 : ∀ j : Nat, dt7 30 j = dt 30 j := fun j => (hF9 30 (by decide) j).trans ((fun _ => rfl) j)
    have C175 : ∀ j : Nat, dt7 36 j = dt 36 j := fun j => (hF9 36 (by decide) j).trans ((fun _ => rfl) j)
    have C176 : ∀ j : Nat, dt7 80 j = dt 80 j := fun j => (hF9 80 (by decide) j).trans ((fun _ => rfl) j)
    have C177 : ∀ j : Nat, dt7 81 j = dt 81 j := fun j => (hF9 81 (by decide) j).trans ((fun _ => rfl) j)
    have C178 : ∀ j : Nat, dt7 85 j = dt 85 j := fun j => (hF9 85 (by decide) j).trans ((fun _ => rfl) j)
    refine go_toq PM267 (k := 6) (pc' := 860) (L' := [some (.inr (.inr (some 3000))), some (.inr (.inr (some 0))), some (.inr (.inr (some 79))), some (.inl i)]) (st' := [.inl (i + 1), .inr (.inr (some 3000)), .inr (.inr (some 79))]) (w' := (SH, dt7)) rfl ?_
    have r179 := i32_R (xs ((i + 1).toNat))
    refine go_smpq PM267 (L' := [some (.inr (.inr (some 3000))), some (.inr (.inr (some 0))), some (.inr (.inr (some 79))), some (.inl i)]) (st' := [.inl ((xs ((i + 1).toNat)).toInt), .inr (.inr (some 79))]) (w' := (SH, dt7)) rfl rfl (s_iald (n := L) (f := fun j => (xs j).toInt) (am_scr hLL) ⟨by omega, by omega⟩) ?_
    refine go_toq PM267 (k := 4) (pc' := 865) (L' := [some (.inr (.inr (some 3000))), some (.inr (.inr (some 0))), some (.inr (.inr (some 79))), some (.inl i)]) (st' := [.inl (i + 2), .inr (.inr (some 3000)), .inl ((xs ((i + 1).toNat)).toInt), .inr (.inr (some 79))]) (w' := (SH, dt7)) rfl ?_
    have r180 := i32_R (xs ((i + 2).toNat))
    refine go_smpq PM267 (L' := [some (.inr (.inr (some 3000))), some (.inr (.inr (some 0))), some (.inr (.inr (some 79))), some (.inl i)]) (st' := [.inl ((xs ((i + 2).toNat)).toInt), .inl ((xs ((i + 1).toNat)).toInt), .inr (.inr (some 79))]) (w' := (SH, dt7)) rfl rfl (s_iald (n := L) (f := fun j => (xs j).toInt) (am_scr hLL) ⟨by omega, by omega⟩) ?_
    refine go_toq PM267 (k := 4) (pc' := 870) (L' := [some (.inr (.inr (some 3000))), some (.inr (.inr (some 0))), some (.inr (.inr (some 79))), some (.inl i)]) (st' := [.inl (i + 3), .inr (.inr (some 3000)), .inl ((xs ((i + 2).toNat)).toInt), .inl ((xs ((i + 1).toNat)).toInt), .inr (.inr (some 79))]) (w' := (SH, dt7)) rfl ?_
    have r181 := i32_R (xs ((i + 3).toNat))
    refine go_smpq PM267 (L' := [some (.inr (.inr (some 3000))), some (.inr (.inr (some 0))), some (.inr (.inr (some 79))), some (.inl i)]) (st' := [.inl ((xs ((i + 3).toNat)).toInt), .inl ((xs ((i + 2).toNat)).toInt), .inl ((xs ((i + 1).toNat)).toInt), .inr (.inr (some 79))]) (w' := (SH, dt7)) rfl rfl (s_iald (n := L) (f := fun j => (xs j).toInt) (am_scr hLL) ⟨by omega, by omega⟩) ?_
    refine go_toq PM267 (k := 4) (pc' := 875) (L' := [some (.inr (.inr (some 3000))), some (.inr (.inr (some 0))), some (.inr (.inr (some 79))), some (.inl i)]) (st' := [.inl (i + 4), .inr (.inr (some 3000)), .inl ((xs ((i + 3).toNat)).toInt), .inl ((xs ((i + 2).toNat)).toInt), .inl ((xs ((i + 1).toNat)).toInt), .inr (.inr (some 79))]) (w' := (SH, dt7)) rfl ?_
    have r182 := i32_R (xs ((i + 4).toNat))
    refine go_smpq PM267 (L' := [some (.inr (.inr (some 3000))), some (.inr (.inr (some 0))), some (.inr (.inr (some 79))), some (.inl i)]) (st' := [.inl ((xs ((i + 4).toNat)).toInt), .inl ((xs ((i + 3).toNat)).toInt), .inl ((xs ((i + 2).toNat)).toInt), .inl ((xs ((i + 1).toNat)).toInt), .inr (.inr (some 79))]) (w' := (SH, dt7)) rfl rfl (s_iald (n := L) (f := fun j => (xs j).toInt) (am_scr hLL) ⟨by omega, by omega⟩) ?_
    refine go_toq PM267 (k := 4) (pc' := 880) (L' := [some (.inr (.inr (some 3000))), some (.inr (.inr (some 0))), some (.inr (.inr (some 79))), some (.inl i)]) (st' := [.inl (i + 5), .inr (.inr (some 3000)), .inl ((xs ((i + 4).toNat)).toInt), .inl ((xs ((i + 3).toNat)).toInt), .inl ((xs ((i + 2).toNat)).toInt), .inl ((xs ((i + 1).toNat)).toInt), .inr (.inr (some 79))]) (w' := (SH, dt7)) rfl ?_
    have r183 := i32_R (xs ((i + 5).toNat))
    refine go_smpq PM267 (L' := [some (.inr (.inr (some 3000))), some (.inr (.inr (some 0))), some (.inr (.inr (some 79))), some (.inl i)]) (st' := [.inl ((xs ((i + 5).toNat)).toInt), .inl ((xs ((i + 4).toNat)).toInt), .inl ((xs ((i + 3).toNat)).toInt), .inl ((xs ((i + 2).toNat)).toInt), .inl ((xs ((i + 1).toNat)).toInt), .inr (.inr (some 79))]) (w' := (SH, dt7)) rfl rfl (s_iald (n := L) (f := fun j => (xs j).toInt) (am_scr hLL) ⟨by omega, by omega⟩) ?_
    refine go_callq PM267 PM216 (Q' := _) rfl rfl rfl rfl (sp_X6_chance_f L xs sio (d + 31) dt7 hI8 hM11  ((xs ((i + 1).toNat)).toInt) ⟨by omega, by omega⟩ ((xs ((i + 2).toNat)).toInt) ⟨by omega, by omega⟩ ((xs ((i + 3).toNat)).toInt) ⟨by omega, by omega⟩ ((xs ((i + 4).toNat)).toInt) ⟨by omega, by omega⟩ ((xs ((i + 5).toNat)).toInt) ⟨by omega, by omega⟩ ) ?_
    rintro _ _ ⟨dt185, rfl, hI186, hF187, h184⟩
    refine ⟨rfl, ?_⟩
    have hF188 : Fr [0, 1, 2, 3, 4, 5, 6, 7, 8, 9, 10, 11, 12, 13, 14, 15, 16, 17, 18, 19, 20, 21, 22, 23, 24, 25, 26, 27, 28, 29, 30, 31, 32, 33, 34, 35, 36, 37, 38, 39, 40, 41, 42, 43, 44, 45, 46, 47, 48, 49, 50, 51, 52, 53, 54, 55, 56, 57, 58, 59, 60, 61, 62, 63, 64, 65, 66, 67, 68, 69, 70, 71, 72, 73, 74, 75, 76, 77, 78, 79, 80, 81, 82, 83, 84, 85, 86, 87, 88, 89, 90, 91, 92, 93, 94, 95, 96, 97, 98, 99, 100, 101, 102, 103, 104] dt dt185 := Fr_tr hF10 hF187 (by decide)
    have hM189 : MW (dt185 80) := MW_fr hM11 hF187 (by decide)
    have w190 : dt185 1 0 = dt 1 0 := (hF187 1 (by decide) 0).trans w12
    have w191 : dt185 7 3 = dt 7 3 := (hF187 7 (by decide) 3).trans w13
    have w192 : dt185 10 3 = dt 10 3 := (hF187 10 (by decide) 3).trans w14
    have w193 : dt185 12 3 = dt 12 3 := (hF187 12 (by decide) 3).trans w15
    have w194 : dt185 14 3 = dt 14 3 := (hF187 14 (by decide) 3).trans w16
    have w195 : dt185 16 3 = dt 16 3 := (hF187 16 (by decide) 3).trans w17
    have w196 : dt185 18 0 = dt 18 0 := (hF187 18 (by decide) 0).trans w18
    have w197 : dt185 24 3 = dt 24 3 := (hF187 24 (by decide) 3).trans w19
    have w198 : dt185 27 3 = dt 27 3 := (hF187 27 (by decide) 3).trans w20
    have w199 : dt185 29 3 = dt 29 3 := (hF187 29 (by decide) 3).trans w21
    have w200 : dt185 31 3 = dt 31 3 := (hF187 31 (by decide) 3).trans w22
    have w201 : dt185 33 3 = dt 33 3 := (hF187 33 (by decide) 3).trans w23
    have w202 : dt185 0 2 = dt 0 2 := (hF187 0 (by decide) 2).trans w24
    have w203 : dt185 35 1 = dt 35 1 := (hF187 35 (by decide) 1).trans w25
    have w204 : dt185 35 2 = dt 35 2 := (hF187 35 (by decide) 2).trans w26
    have w205 : dt185 35 3 = dt 35 3 := (hF187 35 (by decide) 3).trans w27
    have w206 : dt185 80 0 = dt 80 0 := (hF187 80 (by decide) 0).trans w28
    have w207 : dt185 80 1 = dt 80 1 := (hF187 80 (by decide) 1).trans w29
    have w208 : dt185 80 2 = dt 80 2 := (hF187 80 (by decide) 2).trans w30
    have w209 : dt185 80 3 = dt 80 3 := (hF187 80 (by decide) 3).trans w31
    have w210 : dt185 80 4 = dt 80 4 := (hF187 80 (by decide) 4).trans w32
    have w211 : dt185 80 5 = dt 80 5 := (hF187 80 (by decide) 5).trans w33
    have w212 : dt185 81 0 = dt 81 0 := (hF187 81 (by decide) 0).trans w34
    have w213 : dt185 81 1 = dt 81 1 := (hF187 81 (by decide) 1).trans w35
    have w214 : dt185 81 2 = dt 81 2 := (hF187 81 (by decide) 2).trans w36
    have w215 : dt185 81 3 = dt 81 3 := (hF187 81 (by decide) 3).trans w37
    have w216 : dt185 81 4 = dt 81 4 := (hF187 81 (by decide) 4).trans w38
    have w217 : dt185 81 5 = dt 81 5 := (hF187 81 (by decide) 5).trans w39
    have w218 : dt185 79 2 = dt 79 2 := (hF187 79 (by decide) 2).trans w40
    have w219 : dt185 79 12 = dt 79 12 := (hF187 79 (by decide) 12).trans w41
    have w220 : dt185 79 19 = dt 79 19 := (hF187 79 (by decide) 19).trans w42
    have w221 : dt185 79 21 = dt 79 21 := (hF187 79 (by decide) 21).trans w43
    rcases h184 with ⟨rfl, h184⟩ | ⟨v_h184, rfl, h184r, h184⟩
    · skip
      have M2222 : MW (dt185 81) := MW_frk M2156 hF187 (by decide)
      have C223 : ∀ j : Nat, dt185 2 j = dt 2 j := fun j => (hF187 2 (by decide) j).trans (C157 j)
      have C224 : ∀ j : Nat, dt185 3 j = dt 3 j := fun j => (hF187 3 (by decide) j).trans (C158 j)
      have C225 : ∀ j : Nat, dt185 4 j = dt 4 j := fun j => (hF187 4 (by decide) j).trans (C159 j)
      have C226 : ∀ j : Nat, dt185 5 j = dt 5 j := fun j => (hF187 5 (by decide) j).trans (C160 j)
      have C227 : ∀ j : Nat, dt185 6 j = dt 6 j := fun j => (hF187 6 (by decide) j).trans (C161 j)
      have C228 : ∀ j : Nat, dt185 8 j = dt 8 j := fun j => (hF187 8 (by decide) j).trans (C162 j)
      have C229 : ∀ j : Nat, dt185 9 j = dt 9 j := fun j => (hF187 9 (by decide) j).trans (C163 j)
      have C230 : ∀ j : Nat, dt185 11 j = dt 11 j := fun j => (hF187 11 (by decide) j).trans (C164 j)
      have C231 : ∀ j : Nat, dt185 19 j = dt 19 j := fun j => (hF187 19 (by decide) j).trans (C165 j)
      have C232 : ∀ j : Nat, dt185 20 j = dt 20 j := fun j => (hF187 20 (by decide) j).trans (C166 j)
      have C233 : ∀ j : Nat, dt185 21 j = dt 21 j := fun j => (hF187 21 (by decide) j).trans (C167 j)
      have C234 : ∀ j : Nat, dt185 22 j = dt 22 j := fun j => (hF187 22 (by decide) j).trans (C168 j)
      have C235 : ∀ j : Nat, dt185 23 j = dt 23 j := fun j => (hF187 23 (by decide) j).trans (C169 j)
      have C236 : ∀ j : Nat, dt185 25 j = dt 25 j := fun j => (hF187 25 (by decide) j).trans (C170 j)
      have C237 : ∀ j : Nat, dt185 26 j = dt 26 j := fun j => (hF187 26 (by decide) j).trans (C171 j)
      have C238 : ∀ j : Nat, dt185 28 j = dt 28 j := fun j => (hF187 28 (by decide) j).trans (C172 j)
      have C239 : ∀ j : Nat, dt185 13 j = dt 13 j := fun j => (hF187 13 (by decide) j).trans (C173 j)
      have C240 : ∀ j : Nat, dt185 30 j = dt 30 j := fun j => (hF187 30 (by decide) j).trans (C174 j)
      have C241 : ∀ j : Nat, dt185 36 j = dt 36 j := fun j => (hF187 36 (by decide) j).trans (C175 j)
      have C242 : ∀ j : Nat, dt185 80 j = dt 80 j := fun j => (hF187 80 (by decide) j).trans (C176 j)
      have C243 : ∀ j : Nat, dt185 81 j = dt 81 j := fun j => (hF187 81 (by decide) j).trans (C177 j)
      have C244 : ∀ j : Nat, dt185 85 j = dt 85 j := fun j => (hF187 85 (by decide) j).trans (C178 j)
      refine go_toq PM267 (k := 2) (pc' := 1435) (L' := [some (.inr (.inr (some 3000))), some (.inr (.inr (some 0))), some (.inr (.inr (some 79))), some (.inl i)]) (st' := []) (w' := (SH, dt185)) rfl ?_
      exact K dt185 hI186 hM189 M2222 (w190.trans (hk0.trans w206.symm)) (w191.trans (hk1.trans w207.symm)) (w192.trans (hk2.trans w208.symm)) (w193.trans (hk3.trans w209.symm)) (w194.trans (hk4.trans w210.symm)) (w195.trans (hk5.trans w211.symm)) (w196.trans (hk6.trans w212.symm)) (w197.trans (hk7.trans w213.symm)) (w198.trans (hk8.trans w214.symm)) (w199.trans (hk9.trans w215.symm)) (w200.trans (hk10.trans w216.symm)) (w201.trans (hk11.trans w217.symm)) (w202.trans (hk12.trans w218.symm)) (w203.trans (hk13.trans w219.symm)) (w204.trans (hk14.trans w220.symm)) (w205.trans (hk15.trans w221.symm)) (by first | exact hI | exact TPL_k hd0 C241 C244 (by omega) | (exfalso; omega)) (by first | exact hI | exact SCL_k hd1 hM (fun j _ => C223 j) (fun j _ => C224 j) (fun j _ _ => C242 j) | (exfalso; omega)) (by first | exact hI | exact SCL_k hd2 hM2 (fun j _ => C231 j) (fun j _ => C232 j) (fun j _ _ => C243 j) | (exfalso; omega)) (by first | exact hI | exact QRL_k hd3 hM (fun j _ => C228 j) (C242 1) (fun j _ _ => C242 j) | (exfalso; omega)) (by first | exact hI | exact QRL_k hd4 hM2 (fun j _ => C236 j) (C243 1) (fun j _ _ => C243 j) | (exfalso; omega)) (by first | exact hI | exact SDL_k hd5 hM (fun j _ => C229 j) (C242 1) (fun j _ _ => C242 j) (fun j _ _ => C242 j) | (exfalso; omega)) (by first | exact hI | exact SDL_k hd6 hM2 (fun j _ => C237 j) (C243 1) (fun j _ _ => C243 j) (fun j _ _ => C243 j) | (exfalso; omega)) (by first | exact hI | exact LWL_k hd7 hM (fun j _ => C225 j) (fun j _ => C226 j) (fun j _ => C227 j) (fun j _ _ => C242 j) | (exfalso; omega)) (by first | exact hI | exact LWL_k hd8 hM2 (fun j _ => C233 j) (fun j _ => C234 j) (fun j _ => C235 j) (fun j _ _ => C243 j) | (exfalso; omega)) (by first | exact hI | exact CHL_k hd9 hM (fun j _ => C230 j) (by omega) (fun j _ _ => C242 j) | (exfalso; omega)) (by first | exact hI | exact CHL_k hd10 hM2 (fun j _ => C238 j) (by omega) (fun j _ _ => C243 j) | (exfalso; omega)) (by first | exact hI | exact ANL_k hd11 hM (fun j _ => C239 j) (by omega) (by omega) (by omega) (fun j _ _ => C242 j) | (exfalso; omega)) (by first | exact hI | exact ANL_k hd12 hM2 (fun j _ => C240 j) (by omega) (by omega) (by omega) (fun j _ _ => C243 j) | (exfalso; omega))
    · skip
      obtain ⟨h184_0, h184_1⟩ := h184
      have M2245 : MW (dt185 81) := MW_frk M2156 hF187 (by decide)
      rw [show dt7 80 = dt 80 from funext C176] at h184_1
      have C246 : ∀ j : Nat, dt185 2 j = dt 2 j := fun j => (hF187 2 (by decide) j).trans (C157 j)
      have C247 : ∀ j : Nat, dt185 3 j = dt 3 j := fun j => (hF187 3 (by decide) j).trans (C158 j)
      have C248 : ∀ j : Nat, dt185 4 j = dt 4 j := fun j => (hF187 4 (by decide) j).trans (C159 j)
      have C249 : ∀ j : Nat, dt185 5 j = dt 5 j := fun j => (hF187 5 (by decide) j).trans (C160 j)
      have C250 : ∀ j : Nat, dt185 6 j = dt 6 j := fun j => (hF187 6 (by decide) j).trans (C161 j)
      have C251 : ∀ j : Nat, dt185 8 j = dt 8 j := fun j => (hF187 8 (by decide) j).trans (C162 j)
      have C252 : ∀ j : Nat, dt185 9 j = dt 9 j := fun j => (hF187 9 (by decide) j).trans (C163 j)
      have C253 : ∀ j : Nat, dt185 11 j = dt 11 j := fun j => (hF187 11 (by decide) j).trans (C164 j)
      have C254 : ∀ j : Nat, dt185 19 j = dt 19 j := fun j => (hF187 19 (by decide) j).trans (C165 j)
      have C255 : ∀ j : Nat, dt185 20 j = dt 20 j := fun j => (hF187 20 (by decide) j).trans (C166 j)
      have C256 : ∀ j : Nat, dt185 21 j = dt 21 j := fun j => (hF187 21 (by decide) j).trans (C167 j)
      have C257 : ∀ j : Nat, dt185 22 j = dt 22 j := fun j => (hF187 22 (by decide) j).trans (C168 j)
      have C258 : ∀ j : Nat, dt185 23 j = dt 23 j := fun j => (hF187 23 (by decide) j).trans (C169 j)
      have C259 : ∀ j : Nat, dt185 25 j = dt 25 j := fun j => (hF187 25 (by decide) j).trans (C170 j)
      have C260 : ∀ j : Nat, dt185 26 j = dt 26 j := fun j => (hF187 26 (by decide) j).trans (C171 j)
      have C261 : ∀ j : Nat, dt185 28 j = dt 28 j := fun j => (hF187 28 (by decide) j).trans (C172 j)
      have C262 : ∀ j : Nat, dt185 13 j = dt 13 j := fun j => (hF187 13 (by decide) j).trans (C173 j)
      have C263 : ∀ j : Nat, dt185 30 j = dt 30 j := fun j => (hF187 30 (by decide) j).trans (C174 j)
      have C264 : ∀ j : Nat, dt185 36 j = dt 36 j := fun j => (hF187 36 (by decide) j).trans (C175 j)
      have C265 : ∀ j : Nat, dt185 80 j = dt 80 j := fun j => (hF187 80 (by decide) j).trans (C176 j)
      have C266 : ∀ j : Nat, dt185 81 j = dt 81 j := fun j => (hF187 81 (by decide) j).trans (C177 j)
      have C267 : ∀ j : Nat, dt185 85 j = dt 85 j := fun j => (hF187 85 (by decide) j).trans (C178 j)
      refine go_toq PM267 (k := 2) (pc' := 1435) (L' := [some (.inr (.inr (some 3000))), some (.inr (.inr (some 0))), some (.inr (.inr (some 79))), some (.inl i)]) (st' := []) (w' := (SH, dt185)) rfl ?_
      exact K dt185 hI186 hM189 M2245 (w190.trans (hk0.trans w206.symm)) (w191.trans (hk1.trans w207.symm)) (w192.trans (hk2.trans w208.symm)) (w193.trans (hk3.trans w209.symm)) (w194.trans (hk4.trans w210.symm)) (w195.trans (hk5.trans w211.symm)) (w196.trans (hk6.trans w212.symm)) (w197.trans (hk7.trans w213.symm)) (w198.trans (hk8.trans w214.symm)) (w199.trans (hk9.trans w215.symm)) (w200.trans (hk10.trans w216.symm)) (w201.trans (hk11.trans w217.symm)) (w202.trans (hk12.trans w218.symm)) (w203.trans (hk13.trans w219.symm)) (w204.trans (hk14.trans w220.symm)) (w205.trans (hk15.trans w221.symm)) (by first | exact hI | exact TPL_k hd0 C264 C267 (by omega) | (exfalso; omega)) (by first | exact hI | exact SCL_k hd1 hM (fun j _ => C246 j) (fun j _ => C247 j) (fun j _ _ => C265 j) | (exfalso; omega)) (by first | exact hI | exact SCL_k hd2 hM2 (fun j _ => C254 j) (fun j _ => C255 j) (fun j _ _ => C266 j) | (exfalso; omega)) (by first | exact hI | exact QRL_k hd3 hM (fun j _ => C251 j) (C265 1) (fun j _ _ => C265 j) | (exfalso; omega)) (by first | exact hI | exact QRL_k hd4 hM2 (fun j _ => C259 j) (C266 1) (fun j _ _ => C266 j) | (exfalso; omega)) (by first | exact hI | exact SDL_k hd5 hM (fun j _ => C252 j) (C265 1) (fun j _ _ => C265 j) (fun j _ _ => C265 j) | (exfalso; omega)) (by first | exact hI | exact SDL_k hd6 hM2 (fun j _ => C260 j) (C266 1) (fun j _ _ => C266 j) (fun j _ _ => C266 j) | (exfalso; omega)) (by first | exact hI | exact LWL_k hd7 hM (fun j _ => C248 j) (fun j _ => C249 j) (fun j _ => C250 j) (fun j _ _ => C265 j) | (exfalso; omega)) (by first | exact hI | exact LWL_k hd8 hM2 (fun j _ => C256 j) (fun j _ => C257 j) (fun j _ => C258 j) (fun j _ _ => C266 j) | (exfalso; omega)) (by first | exact hI | exact CHL_k hd9 hM (fun j _ => C253 j) (by omega) (fun j _ _ => C265 j) | (exfalso; omega)) (by first | exact hI | exact CHL_k hd10 hM2 (fun j _ => C261 j) (by omega) (fun j _ _ => C266 j) | (exfalso; omega)) (by first | exact hI | exact ANL_k hd11 hM (fun j _ => C262 j) (by omega) (by omega) (by omega) (fun j _ _ => C265 j) | (exfalso; omega)) (by first | exact hI | exact ANL_k hd12 hM2 (fun j _ => C263 j) (by omega) (by omega) (by omega) (fun j _ _ => C266 j) | (exfalso; omega))
set_option maxRecDepth 20000 in
set_option maxHeartbeats 8000000 in
theorem sp_case16 (L : Nat) (xs : Nat → Int32) (sio : Option Nat) (d : Nat) (Q : Option AV → am_W → Prop) (hLL : L ≤ 3072) (i : Int) (hi : 0 ≤ i ∧ i ≤ 3066) (hil : i ≤ (L : Int) - 6) (dt : Nat → Nat → Int) (hI : InvC dt) (hM : MW (dt 80)) (hM2 : MW (dt 81)) (hk0 : dt 1 0 = dt 80 0) (hk1 : dt 7 3 = dt 80 1) (hk2 : dt 10 3 = dt 80 2) (hk3 : dt 12 3 = dt 80 3) (hk4 : dt 14 3 = dt 80 4) (hk5 : dt 16 3 = dt 80 5) (hk6 : dt 18 0 = dt 81 0) (hk7 : dt 24 3 = dt 81 1) (hk8 : dt 27 3 = dt 81 2) (hk9 : dt 29 3 = dt 81 3) (hk10 : dt 31 3 = dt 81 4) (hk11 : dt 33 3 = dt 81 5) (hk12 : dt 0 2 = dt 79 2) (hk13 : dt 35 1 = dt 79 12) (hk14 : dt 35 2 = dt 79 19) (hk15 : dt 35 3 = dt 79 21) (hd0 : TPL (dt 36) (dt 85) (dt 35 1)) (hd1 : SCL (dt 2) (dt 3) (dt 80)) (hd2 : SCL (dt 19) (dt 20) (dt 81)) (hd3 : QRL (dt 8) (dt 80)) (hd4 : QRL (dt 25) (dt 81)) (hd5 : SDL (dt 9) (dt 80)) (hd6 : SDL (dt 26) (dt 81)) (hd7 : LWL (dt 4) (dt 5) (dt 6) (dt 80)) (hd8 : LWL (dt 21) (dt 22) (dt 23) (dt 81)) (hd9 : CHL (dt 11) (dt 80)) (hd10 : CHL (dt 28) (dt 81)) (hd11 : ANL (dt 13) (dt 80)) (hd12 : ANL (dt 30) (dt 81)) (K : ∀ (dt : Nat → Nat → Int) (hI : InvC dt) (hM : MW (dt 80)) (hM2 : MW (dt 81)) (hk0 : dt 1 0 = dt 80 0) (hk1 : dt 7 3 = dt 80 1) (hk2 : dt 10 3 = dt 80 2) (hk3 : dt 12 3 = dt 80 3) (hk4 : dt 14 3 = dt 80 4) (hk5 : dt 16 3 = dt 80 5) (hk6 : dt 18 0 = dt 81 0) (hk7 : dt 24 3 = dt 81 1) (hk8 : dt 27 3 = dt 81 2) (hk9 : dt 29 3 = dt 81 3) (hk10 : dt 31 3 = dt 81 4) (hk11 : dt 33 3 = dt 81 5) (hk12 : dt 0 2 = dt 79 2) (hk13 : dt 35 1 = dt 79 12) (hk14 : dt 35 2 = dt 79 19) (hk15 : dt 35 3 = dt 79 21) (hd0 : TPL (dt 36) (dt 85) (dt 35 1)) (hd1 : SCL (dt 2) (dt 3) (dt 80)) (hd2 : SCL (dt 19) (dt 20) (dt 81)) (hd3 : QRL (dt 8) (dt 80)) (hd4 : QRL (dt 25) (dt 81)) (hd5 : SDL (dt 9) (dt 80)) (hd6 : SDL (dt 26) (dt 81)) (hd7 : LWL (dt 4) (dt 5) (dt 6) (dt 80)) (hd8 : LWL (dt 21) (dt 22) (dt 23) (dt 81)) (hd9 : CHL (dt 11) (dt 80)) (hd10 : CHL (dt 28) (dt 81)) (hd11 : ANL (dt 13) (dt 80)) (hd12 : ANL (dt 30) (dt 81)), GO (am_XX L xs sio) (d + 39) 267 1435 [some (.inr (.inr (some 3000))), some (.inr (.inr (some 0))), some (.inr (.inr (some 79))), some (.inl i)] [] (SH, dt) Q) : GO (am_XX L xs sio) (d + 39) 267 888 [some (.inr (.inr (some 3000))), some (.inr (.inr (some 0))), some (.inr (.inr (some 79))), some (.inl i)] [] (SH, dt) Q := by
  have hF : Fr [0, 1, 2, 3, 4, 5, 6, 7, 8, 9, 10, 11, 12, 13, 14, 15, 16, 17, 18, 19, 20, 21, 22, 23, 24, 25, 26, 27, 28, 29, 30, 31, 32, 33, 34, 35, 36, 37, 38, 39, 40, 41, 42, 43, 44, 45, 46, 47, 48, 49, 50, 51, 52, 53, 54, 55, 56, 57, 58, 59, 60, 61, 62, 63, 64, 65, 66, 67, 68, 69, 70, 71, 72, 73, 74, 75, 76, 77, 78, 79, 80, 81, 82, 83, 84, 85, 86, 87, 88, 89, 90, 91, 92, 93, 94, 95, 96, 97, 98, 99, 100, 101, 102, 103, 104] dt dt := Fr_refl
  have hqo := QOC_R hd3 hM hk1
  have hb1_ := hM.1.1
  have hb2_ := hM.1.2.1
  have hb3_ := hM.1.2.2.1
  have halk : ALK dt (dt 80) := ⟨hd7, hd3, hd5, hd9, hk1, hk2⟩
  have hav_ : ∀ i : Nat, (i : Int) < dt 12 3 → 0 ≤ dt 13 (6 * i + 1) ∧ dt 13 (6 * i + 1) < dt 7 3 := fun i hi => by have z := hd11 i (by omega); have y := z.2.2 1 (by decide); have w := z.2.1; omega
  refine go_toq PM267 (k := 5) (pc' := 893) (L' := [some (.inr (.inr (some 3000))), some (.inr (.inr (some 0))), some (.inr (.inr (some 79))), some (.inl i)]) (st' := [.inl (i + 1), .inr (.inr (some 3000)), .inr (.inr (some 0))]) (w' := (SH, dt)) rfl ?_
  have r1 := i32_R (xs ((i + 1).toNat))
  refine go_smpq PM267 (L' := [some (.inr (.inr (some 3000))), some (.inr (.inr (some 0))), some (.inr (.inr (some 79))), some (.inl i)]) (st' := [.inl ((xs ((i + 1).toNat)).toInt), .inr (.inr (some 0))]) (w' := (SH, dt)) rfl rfl (s_iald (n := L) (f := fun j => (xs j).toInt) (am_scr hLL) ⟨by omega, by omega⟩) ?_
  refine go_toq PM267 (k := 4) (pc' := 898) (L' := [some (.inr (.inr (some 3000))), some (.inr (.inr (some 0))), some (.inr (.inr (some 79))), some (.inl i)]) (st' := [.inl (i + 2), .inr (.inr (some 3000)), .inl ((xs ((i + 1).toNat)).toInt), .inr (.inr (some 0))]) (w' := (SH, dt)) rfl ?_
  have r2 := i32_R (xs ((i + 2).toNat))
  refine go_smpq PM267 (L' := [some (.inr (.inr (some 3000))), some (.inr (.inr (some 0))), some (.inr (.inr (some 79))), some (.inl i)]) (st' := [.inl ((xs ((i + 2).toNat)).toInt), .inl ((xs ((i + 1).toNat)).toInt), .inr (.inr (some 0))]) (w' := (SH, dt)) rfl rfl (s_iald (n := L) (f := fun j => (xs j).toInt) (am_scr hLL) ⟨by omega, by omega⟩) ?_
  refine go_callq PM267 PM83 (Q' := _) rfl rfl rfl rfl (sp_X5_parted_f L xs sio (d + 35) dt hI  ((xs ((i + 1).toNat)).toInt) ⟨by omega, by omega⟩ ((xs ((i + 2).toNat)).toInt) ⟨by omega, by omega⟩ ) ?_
  rintro _ _ ⟨rfl, h3⟩
  refine ⟨rfl, ?_⟩
  rcases h3 with ⟨rfl, h3⟩ | ⟨v_h3, rfl, h3r, h3⟩
  · skip
    refine go_toq PM267 (k := 6) (pc' := 908) (L' := [some (.inr (.inr (some 3000))), some (.inr (.inr (some 0))), some (.inr (.inr (some 79))), some (.inl i)]) (st' := [.inl (i + 1), .inr (.inr (some 3000)), .inr (.inr (some 79))]) (w' := (SH, dt)) rfl ?_
    refine go_smpq PM267 (L' := [some (.inr (.inr (some 3000))), some (.inr (.inr (some 0))), some (.inr (.inr (some 79))), some (.inl i)]) (st' := [.inl ((xs ((i + 1).toNat)).toInt), .inr (.inr (some 79))]) (w' := (SH, dt)) rfl rfl (s_iald (n := L) (f := fun j => (xs j).toInt) (am_scr hLL) ⟨by omega, by omega⟩) ?_
    refine go_toq PM267 (k := 4) (pc' := 913) (L' := [some (.inr (.inr (some 3000))), some (.inr (.inr (some 0))), some (.inr (.inr (some 79))), some (.inl i)]) (st' := [.inl (i + 2), .inr (.inr (some 3000)), .inl ((xs ((i + 1).toNat)).toInt), .inr (.inr (some 79))]) (w' := (SH, dt)) rfl ?_
    refine go_smpq PM267 (L' := [some (.inr (.inr (some 3000))), some (.inr (.inr (some 0))), some (.inr (.inr (some 79))), some (.inl i)]) (st' := [.inl ((xs ((i + 2).toNat)).toInt), .inl ((xs ((i + 1).toNat)).toInt), .inr (.inr (some 79))]) (w' := (SH, dt)) rfl rfl (s_iald (n := L) (f := fun j => (xs j).toInt) (am_scr hLL) ⟨by omega, by omega⟩) ?_
    refine go_callq PM267 PM219 (Q' := _) rfl rfl rfl rfl (sp_X6_parted_f L xs sio (d + 32) dt hI hM  ((xs ((i + 1).toNat)).toInt) ⟨by omega, by omega⟩ ((xs ((i + 2).toNat)).toInt) ⟨by omega, by omega⟩ ) ?_
    rintro _ _ ⟨dt5, rfl, hI6, hF7, h4⟩
    refine ⟨rfl, ?_⟩
    have hF8 : Fr [0, 1, 2, 3, 4, 5, 6, 7, 8, 9, 10, 11, 12, 13, 14, 15, 16, 17, 18, 19, 20, 21, 22, 23, 24, 25, 26, 27, 28, 29, 30, 31, 32, 33, 34, 35, 36, 37, 38, 39, 40, 41, 42, 43, 44, 45, 46, 47, 48, 49, 50, 51, 52, 53, 54, 55, 56, 57, 58, 59, 60, 61, 62, 63, 64, 65, 66, 67, 68, 69, 70, 71, 72, 73, 74, 75, 76, 77, 78, 79, 80, 81, 82, 83, 84, 85, 86, 87, 88, 89, 90, 91, 92, 93, 94, 95, 96, 97, 98, 99, 100, 101, 102, 103, 104] dt dt5 := Fr_tr hF hF7 (by decide)
    have hM9 : MW (dt5 80) := MW_fr hM hF7 (by decide)
    have w10 : dt5 1 0 = dt 1 0 := hF7 1 (by decide) 0
    have w11 : dt5 7 3 = dt 7 3 := hF7 7 (by decide) 3
    have w12 : dt5 10 3 = dt 10 3 := hF7 10 (by decide) 3
    have w13 : dt5 12 3 = dt 12 3 := hF7 12 (by decide) 3
    have w14 : dt5 14 3 = dt 14 3 := hF7 14 (by decide) 3
    have w15 : dt5 16 3 = dt 16 3 := hF7 16 (by decide) 3
    have w16 : dt5 18 0 = dt 18 0 := hF7 18 (by decide) 0
    have w17 : dt5 24 3 = dt 24 3 := hF7 24 (by decide) 3
    have w18 : dt5 27 3 = dt 27 3 := hF7 27 (by decide) 3
    have w19 : dt5 29 3 = dt 29 3 := hF7 29 (by decide) 3
    have w20 : dt5 31 3 = dt 31 3 := hF7 31 (by decide) 3
    have w21 : dt5 33 3 = dt 33 3 := hF7 33 (by decide) 3
    have w22 : dt5 0 2 = dt 0 2 := hF7 0 (by decide) 2
    have w23 : dt5 35 1 = dt 35 1 := hF7 35 (by decide) 1
    have w24 : dt5 35 2 = dt 35 2 := hF7 35 (by decide) 2
    have w25 : dt5 35 3 = dt 35 3 := hF7 35 (by decide) 3
    have w26 : dt5 80 0 = dt 80 0 := hF7 80 (by decide) 0
    have w27 : dt5 80 1 = dt 80 1 := hF7 80 (by decide) 1
    have w28 : dt5 80 2 = dt 80 2 := hF7 80 (by decide) 2
    have w29 : dt5 80 3 = dt 80 3 := hF7 80 (by decide) 3
    have w30 : dt5 80 4 = dt 80 4 := hF7 80 (by decide) 4
    have w31 : dt5 80 5 = dt 80 5 := hF7 80 (by decide) 5
    have w32 : dt5 81 0 = dt 81 0 := hF7 81 (by decide) 0
    have w33 : dt5 81 1 = dt 81 1 := hF7 81 (by decide) 1
    have w34 : dt5 81 2 = dt 81 2 := hF7 81 (by decide) 2
    have w35 : dt5 81 3 = dt 81 3 := hF7 81 (by decide) 3
    have w36 : dt5 81 4 = dt 81 4 := hF7 81 (by decide) 4
    have w37 : dt5 81 5 = dt 81 5 := hF7 81 (by decide) 5
    have w38 : dt5 79 2 = dt 79 2 := hF7 79 (by decide) 2
    have w39 : dt5 79 12 = dt 79 12 := hF7 79 (by decide) 12
    have w40 : dt5 79 19 = dt 79 19 := hF7 79 (by decide) 19
    have w41 : dt5 79 21 = dt 79 21 := hF7 79 (by decide) 21
    rcases h4 with ⟨rfl, h4⟩ | ⟨v_h4, rfl, h4r, h4⟩
    · skip
      have M242 : MW (dt5 81) := MW_frk hM2 hF7 (by decide)
      have y43 : (0 ≤ ((xs ((i + 1).toNat)).toInt) ∧ ((xs ((i + 1).toNat)).toInt) ≤ 7) → (0 ≤ ((xs ((i + 2).toNat)).toInt) ∧ ((xs ((i + 2).toNat)).toInt) ≤ 7) → PTB (SDC (dt 9)) ((xs ((i + 1).toNat)).toInt) ((xs ((i + 2).toNat)).toInt) (dt 7 3).toNat = PTB (SAID (dt 80)) ((xs ((i + 1).toNat)).toInt) ((xs ((i + 2).toNat)).toInt) (dt 80 1).toNat := fun h1_ h2_ => by rw [PTB_L hd5 h1_ h2_ hk1, hk1]
      replace y43 := hid y43
      have C44 : ∀ j : Nat, dt5 2 j = dt 2 j := fun j => (hF7 2 (by decide) j).trans ((fun _ => rfl) j)
      have C45 : ∀ j : Nat, dt5 3 j = dt 3 j := fun j => (hF7 3 (by decide) j).trans ((fun _ => rfl) j)
      have C46 : ∀ j : Nat, dt5 4 j = dt 4 j := fun j => (hF7 4 (by decide) j).trans ((fun _ => rfl) j)
      have C47 : ∀ j : Nat, dt5 5 j = dt 5 j := fun j => (hF7 5 (by decide) j).trans ((fun _ => rfl) j)
      have C48 : ∀ j : Nat, dt5 6 j = dt 6 j := fun j => (hF7 6 (by decide) j).trans ((fun _ => rfl) j)
      have C49 : ∀ j : Nat, dt5 8 j = dt 8 j := fun j => (hF7 8 (by decide) j).trans ((fun _ => rfl) j)
      have C50 : ∀ j : Nat, dt5 9 j = dt 9 j := fun j => (hF7 9 (by decide) j).trans ((fun _ => rfl) j)
      have C51 : ∀ j : Nat, dt5 11 j = dt 11 j := fun j => (hF7 11 (by decide) j).trans ((fun _ => rfl) j)
      have C52 : ∀ j : Nat, dt5 19 j = dt 19 j := fun j => (hF7 19 (by decide) j).trans ((fun _ => rfl) j)
      have C53 : ∀ j : Nat, dt5 20 j = dt 20 j := fun j => (hF7 20 (by decide) j).trans ((fun _ => rfl) j)
      have C54 : ∀ j : Nat, dt5 21 j = dt 21 j := fun j => (hF7 21 (by decide) j).trans ((fun _ => rfl) j)
      have C55 : ∀ j : Nat, dt5 22 j = dt 22 j := fun j => (hF7 22 (by decide) j).trans ((fun _ => rfl) j)
      have C56 : ∀ j : Nat, dt5 23 j = dt 23 j := fun j => (hF7 23 (by decide) j).trans ((fun _ => rfl) j)
      have C57 : ∀ j : Nat, dt5 25 j = dt 25 j := fun j => (hF7 25 (by decide) j).trans ((fun _ => rfl) j)
      have C58 : ∀ j : Nat, dt5 26 j = dt 26 j := fun j => (hF7 26 (by decide) j).trans ((fun _ => rfl) j)
      have C59 : ∀ j : Nat, dt5 28 j = dt 28 j := fun j => (hF7 28 (by decide) j).trans ((fun _ => rfl) j)
      have C60 : ∀ j : Nat, dt5 13 j = dt 13 j := fun j => (hF7 13 (by decide) j).trans ((fun _ => rfl) j)
      have C61 : ∀ j : Nat, dt5 30 j = dt 30 j := fun j => (hF7 30 (by decide) j).trans ((fun _ => rfl) j)
      have C62 : ∀ j : Nat, dt5 36 j = dt 36 j := fun j => (hF7 36 (by decide) j).trans ((fun _ => rfl) j)
      have C63 : ∀ j : Nat, dt5 80 j = dt 80 j := fun j => (hF7 80 (by decide) j).trans ((fun _ => rfl) j)
      have C64 : ∀ j : Nat, dt5 81 j = dt 81 j := fun j => (hF7 81 (by decide) j).trans ((fun _ => rfl) j)
      have C65 : ∀ j : Nat, dt5 85 j = dt 85 j := fun j => (hF7 85 (by decide) j).trans ((fun _ => rfl) j)
      refine go_toq PM267 (k := 2) (pc' := 1435) (L' := [some (.inr (.inr (some 3000))), some (.inr (.inr (some 0))), some (.inr (.inr (some 79))), some (.inl i)]) (st' := []) (w' := (SH, dt5)) rfl ?_
      exact K dt5 hI6 hM9 M242 (w10.trans (hk0.trans w26.symm)) (w11.trans (hk1.trans w27.symm)) (w12.trans (hk2.trans w28.symm)) (w13.trans (hk3.trans w29.symm)) (w14.trans (hk4.trans w30.symm)) (w15.trans (hk5.trans w31.symm)) (w16.trans (hk6.trans w32.symm)) (w17.trans (hk7.trans w33.symm)) (w18.trans (hk8.trans w34.symm)) (w19.trans (hk9.trans w35.symm)) (w20.trans (hk10.trans w36.symm)) (w21.trans (hk11.trans w37.symm)) (w22.trans (hk12.trans w38.symm)) (w23.trans (hk13.trans w39.symm)) (w24.trans (hk14.trans w40.symm)) (w25.trans (hk15.trans w41.symm)) (by first | exact hI | exact TPL_k hd0 C62 C65 (by (first | omega | (have z0_ := unhid y43; omega))) | (exfalso; (first | omega | (have z0_ := unhid y43; omega)))) (by first | exact hI | exact SCL_k hd1 hM (fun j _ => C44 j) (fun j _ => C45 j) (fun j _ _ => C63 j) | (exfalso; (first | omega | (have z0_ := unhid y43; omega)))) (by first | exact hI | exact SCL_k hd2 hM2 (fun j _ => C52 j) (fun j _ => C53 j) (fun j _ _ => C64 j) | (exfalso; (first | omega | (have z0_ := unhid y43; omega)))) (by first | exact hI | exact QRL_k hd3 hM (fun j _ => C49 j) (C63 1) (fun j _ _ => C63 j) | (exfalso; (first | omega | (have z0_ := unhid y43; omega)))) (by first | exact hI | exact QRL_k hd4 hM2 (fun j _ => C57 j) (C64 1) (fun j _ _ => C64 j) | (exfalso; (first | omega | (have z0_ := unhid y43; omega)))) (by first | exact hI | exact SDL_k hd5 hM (fun j _ => C50 j) (C63 1) (fun j _ _ => C63 j) (fun j _ _ => C63 j) | (exfalso; (first | omega | (have z0_ := unhid y43; omega)))) (by first | exact hI | exact SDL_k hd6 hM2 (fun j _ => C58 j) (C64 1) (fun j _ _ => C64 j) (fun j _ _ => C64 j) | (exfalso; (first | omega | (have z0_ := unhid y43; omega)))) (by first | exact hI | exact LWL_k hd7 hM (fun j _ => C46 j) (fun j _ => C47 j) (fun j _ => C48 j) (fun j _ _ => C63 j) | (exfalso; (first | omega | (have z0_ := unhid y43; omega)))) (by first | exact hI | exact LWL_k hd8 hM2 (fun j _ => C54 j) (fun j _ => C55 j) (fun j _ => C56 j) (fun j _ _ => C64 j) | (exfalso; (first | omega | (have z0_ := unhid y43; omega)))) (by first | exact hI | exact CHL_k hd9 hM (fun j _ => C51 j) (by (first | omega | (have z0_ := unhid y43; omega))) (fun j _ _ => C63 j) | (exfalso; (first | omega | (have z0_ := unhid y43; omega)))) (by first | exact hI | exact CHL_k hd10 hM2 (fun j _ => C59 j) (by (first | omega | (have z0_ := unhid y43; omega))) (fun j _ _ => C64 j) | (exfalso; (first | omega | (have z0_ := unhid y43; omega)))) (by first | exact hI | exact ANL_k hd11 hM (fun j _ => C60 j) (by (first | omega | (have z0_ := unhid y43; omega))) (by (first | omega | (have z0_ := unhid y43; omega))) (by (first | omega | (have z0_ := unhid y43; omega))) (fun j _ _ => C63 j) | (exfalso; (first | omega | (have z0_ := unhid y43; omega)))) (by first | exact hI | exact ANL_k hd12 hM2 (fun j _ => C61 j) (by (first | omega | (have z0_ := unhid y43; omega))) (by (first | omega | (have z0_ := unhid y43; omega))) (by (first | omega | (have z0_ := unhid y43; omega))) (fun j _ _ => C64 j) | (exfalso; (first | omega | (have z0_ := unhid y43; omega))))
    · skip
      obtain ⟨h4_0, h4_1⟩ := h4
      have M266 : MW (dt5 81) := MW_frk hM2 hF7 (by decide)
      have y67 : (0 ≤ ((xs ((i + 1).toNat)).toInt) ∧ ((xs ((i + 1).toNat)).toInt) ≤ 7) → (0 ≤ ((xs ((i + 2).toNat)).toInt) ∧ ((xs ((i + 2).toNat)).toInt) ≤ 7) → PTB (SDC (dt 9)) ((xs ((i + 1).toNat)).toInt) ((xs ((i + 2).toNat)).toInt) (dt 7 3).toNat = PTB (SAID (dt 80)) ((xs ((i + 1).toNat)).toInt) ((xs ((i + 2).toNat)).toInt) (dt 80 1).toNat := fun h1_ h2_ => by rw [PTB_L hd5 h1_ h2_ hk1, hk1]
      replace y67 := hid y67
      have C68 : ∀ j : Nat, dt5 2 j = dt 2 j := fun j => (hF7 2 (by decide) j).trans ((fun _ => rfl) j)
      have C69 : ∀ j : Nat, dt5 3 j = dt 3 j := fun j => (hF7 3 (by decide) j).trans ((fun _ => rfl) j)
      have C70 : ∀ j : Nat, dt5 4 j = dt 4 j := fun j => (hF7 4 (by decide) j).trans ((fun _ => rfl) j)
      have C71 : ∀ j : Nat, dt5 5 j = dt 5 j := fun j => (hF7 5 (by decide) j).trans ((fun _ => rfl) j)
      have C72 : ∀ j : Nat, dt5 6 j = dt 6 j := fun j => (hF7 6 (by decide) j).trans ((fun _ => rfl) j)
      have C73 : ∀ j : Nat, dt5 8 j = dt 8 j := fun j => (hF7 8 (by decide) j).trans ((fun _ => rfl) j)
      have C74 : ∀ j : Nat, dt5 9 j = dt 9 j := fun j => (hF7 9 (by decide) j).trans ((fun _ => rfl) j)
      have C75 : ∀ j : Nat, dt5 11 j = dt 11 j := fun j => (hF7 11 (by decide) j).trans ((fun _ => rfl) j)
      have C76 : ∀ j : Nat, dt5 19 j = dt 19 j := fun j => (hF7 19 (by decide) j).trans ((fun _ => rfl) j)
      have C77 : ∀ j : Nat, dt5 20 j = dt 20 j := fun j => (hF7 20 (by decide) j).trans ((fun _ => rfl) j)
      have C78 : ∀ j : Nat, dt5 21 j = dt 21 j := fun j => (hF7 21 (by decide) j).trans ((fun _ => rfl) j)
      have C79 : ∀ j : Nat, dt5 22 j = dt 22 j := fun j => (hF7 22 (by decide) j).trans ((fun _ => rfl) j)
      have C80 : ∀ j : Nat, dt5 23 j = dt 23 j := fun j => (hF7 23 (by decide) j).trans ((fun _ => rfl) j)
      have C81 : ∀ j : Nat, dt5 25 j = dt 25 j := fun j => (hF7 25 (by decide) j).trans ((fun _ => rfl) j)
      have C82 : ∀ j : Nat, dt5 26 j = dt 26 j := fun j => (hF7 26 (by decide) j).trans ((fun _ => rfl) j)
      have C83 : ∀ j : Nat, dt5 28 j = dt 28 j := fun j => (hF7 28 (by decide) j).trans ((fun _ => rfl) j)
      have C84 : ∀ j : Nat, dt5 13 j = dt 13 j := fun j => (hF7 13 (by decide) j).trans ((fun _ => rfl) j)
      have C85 : ∀ j : Nat, dt5 30 j = dt 30 j := fun j => (hF7 30 (by decide) j).trans ((fun _ => rfl) j)
      have C86 : ∀ j : Nat, dt5 36 j = dt 36 j := fun j => (hF7 36 (by decide) j).trans ((fun _ => rfl) j)
      have C87 : ∀ j : Nat, dt5 80 j = dt 80 j := fun j => (hF7 80 (by decide) j).trans ((fun _ => rfl) j)
      have C88 : ∀ j : Nat, dt5 81 j = dt 81 j := fun j => (hF7 81 (by decide) j).trans ((fun _ => rfl) j)
      have C89 : ∀ j : Nat, dt5 85 j = dt 85 j := fun j => (hF7 85 (by decide) j).trans ((fun _ => rfl) j)
      refine go_toq PM267 (k := 2) (pc' := 1435) (L' := [some (.inr (.inr (some 3000))), some (.inr (.inr (some 0))), some (.inr (.inr (some 79))), some (.inl i)]) (st' := []) (w' := (SH, dt5)) rfl ?_
      exact K dt5 hI6 hM9 M266 (w10.trans (hk0.trans w26.symm)) (w11.trans (hk1.trans w27.symm)) (w12.trans (hk2.trans w28.symm)) (w13.trans (hk3.trans w29.symm)) (w14.trans (hk4.trans w30.symm)) (w15.trans (hk5.trans w31.symm)) (w16.trans (hk6.trans w32.symm)) (w17.trans (hk7.trans w33.symm)) (w18.trans (hk8.trans w34.symm)) (w19.trans (hk9.trans w35.symm)) (w20.trans (hk10.trans w36.symm)) (w21.trans (hk11.trans w37.symm)) (w22.trans (hk12.trans w38.symm)) (w23.trans (hk13.trans w39.symm)) (w24.trans (hk14.trans w40.symm)) (w25.trans (hk15.trans w41.symm)) (by first | exact hI | exact TPL_k hd0 C86 C89 (by (first | omega | (have z0_ := unhid y67; omega))) | (exfalso; (first | omega | (have z0_ := unhid y67; omega)))) (by first | exact hI | exact SCL_k hd1 hM (fun j _ => C68 j) (fun j _ => C69 j) (fun j _ _ => C87 j) | (exfalso; (first | omega | (have z0_ := unhid y67; omega)))) (by first | exact hI | exact SCL_k hd2 hM2 (fun j _ => C76 j) (fun j _ => C77 j) (fun j _ _ => C88 j) | (exfalso; (first | omega | (have z0_ := unhid y67; omega)))) (by first | exact hI | exact QRL_k hd3 hM (fun j _ => C73 j) (C87 1) (fun j _ _ => C87 j) | (exfalso; (first | omega | (have z0_ := unhid y67; omega)))) (by first | exact hI | exact QRL_k hd4 hM2 (fun j _ => C81 j) (C88 1) (fun j _ _ => C88 j) | (exfalso; (first | omega | (have z0_ := unhid y67; omega)))) (by first | exact hI | exact SDL_k hd5 hM (fun j _ => C74 j) (C87 1) (fun j _ _ => C87 j) (fun j _ _ => C87 j) | (exfalso; (first | omega | (have z0_ := unhid y67; omega)))) (by first | exact hI | exact SDL_k hd6 hM2 (fun j _ => C82 j) (C88 1) (fun j _ _ => C88 j) (fun j _ _ => C88 j) | (exfalso; (first | omega | (have z0_ := unhid y67; omega)))) (by first | exact hI | exact LWL_k hd7 hM (fun j _ => C70 j) (fun j _ => C71 j) (fun j _ => C72 j) (fun j _ _ => C87 j) | (exfalso; (first | omega | (have z0_ := unhid y67; omega)))) (by first | exact hI | exact LWL_k hd8 hM2 (fun j _ => C78 j) (fun j _ => C79 j) (fun j _ => C80 j) (fun j _ _ => C88 j) | (exfalso; (first | omega | (have z0_ := unhid y67; omega)))) (by first | exact hI | exact CHL_k hd9 hM (fun j _ => C75 j) (by (first | omega | (have z0_ := unhid y67; omega))) (fun j _ _ => C87 j) | (exfalso; (first | omega | (have z0_ := unhid y67; omega)))) (by first | exact hI | exact CHL_k hd10 hM2 (fun j _ => C83 j) (by (first | omega | (have z0_ := unhid y67; omega))) (fun j _ _ => C88 j) | (exfalso; (first | omega | (have z0_ := unhid y67; omega)))) (by first | exact hI | exact ANL_k hd11 hM (fun j _ => C84 j) (by (first | omega | (have z0_ := unhid y67; omega))) (by (first | omega | (have z0_ := unhid y67; omega))) (by (first | omega | (have z0_ := unhid y67; omega))) (fun j _ _ => C87 j) | (exfalso; (first | omega | (have z0_ := unhid y67; omega)))) (by first | exact hI | exact ANL_k hd12 hM2 (fun j _ => C85 j) (by (first | omega | (have z0_ := unhid y67; omega))) (by (first | omega | (have z0_ := unhid y67; omega))) (by (first | omega | (have z0_ := unhid y67; omega))) (fun j _ _ => C88 j) | (exfalso; (first | omega | (have z0_ := unhid y67; omega))))
  · skip
    obtain ⟨h3_0, h3_1⟩ := h3
    refine go_toq PM267 (k := 6) (pc' := 908) (L' := [some (.inr (.inr (some 3000))), some (.inr (.inr (some 0))), some (.inr (.inr (some 79))), some (.inl i)]) (st' := [.inl (i + 1), .inr (.inr (some 3000)), .inr (.inr (some 79))]) (w' := (SH, dt)) rfl ?_
    refine go_smpq PM267 (L' := [some (.inr (.inr (some 3000))), some (.inr (.inr (some 0))), some (.inr (.inr (some 79))), some (.inl i)]) (st' := [.inl ((xs ((i + 1).toNat)).toInt), .inr (.inr (some 79))]) (w' := (SH, dt)) rfl rfl (s_iald (n := L) (f := fun j => (xs j).toInt) (am_scr hLL) ⟨by omega, by omega⟩) ?_
    refine go_toq PM267 (k := 4) (pc' := 913) (L' := [some (.inr (.inr (some 3000))), some (.inr (.inr (some 0))), some (.inr (.inr (some 79))), some (.inl i)]) (st' := [.inl (i + 2), .inr (.inr (some 3000)), .inl ((xs ((i + 1).toNat)).toInt), .inr (.inr (some 79))]) (w' := (SH, dt)) rfl ?_
    refine go_smpq PM267 (L' := [some (.inr (.inr (some 3000))), some (.inr (.inr (some 0))), some (.inr (.inr (some 79))), some (.inl i)]) (st' := [.inl ((xs ((i + 2).toNat)).toInt), .inl ((xs ((i + 1).toNat)).toInt), .inr (.inr (some 79))]) (w' := (SH, dt)) rfl rfl (s_iald (n := L) (f := fun j => (xs j).toInt) (am_scr hLL) ⟨by omega, by omega⟩) ?_
    refine go_callq PM267 PM219 (Q' := _) rfl rfl rfl rfl (sp_X6_parted_f L xs sio (d + 32) dt hI hM  ((xs ((i + 1).toNat)).toInt) ⟨by omega, by omega⟩ ((xs ((i + 2).toNat)).toInt) ⟨by omega, by omega⟩ ) ?_
    rintro _ _ ⟨dt91, rfl, hI92, hF93, h90⟩
    refine ⟨rfl, ?_⟩
    have hF94 : Fr [0, 1, 2, 3, 4, 5, 6, 7, 8, 9, 10, 11, 12, 13, 14, 15, 16, 17, 18, 19, 20, 21, 22, 23, 24, 25, 26, 27, 28, 29, 30, 31, 32, 33, 34, 35, 36, 37, 38, 39, 40, 41, 42, 43, 44, 45, 46, 47, 48, 49, 50, 51, 52, 53, 54, 55, 56, 57, 58, 59, 60, 61, 62, 63, 64, 65, 66, 67, 68, 69, 70, 71, 72, 73, 74, 75, 76, 77, 78, 79, 80, 81, 82, 83, 84, 85, 86, 87, 88, 89, 90, 91, 92, 93, 94, 95, 96, 97, 98, 99, 100, 101, 102, 103, 104] dt dt91 := Fr_tr hF hF93 (by decide)
    have hM95 : MW (dt91 80) := MW_fr hM hF93 (by decide)
    have w96 : dt91 1 0 = dt 1 0 := hF93 1 (by decide) 0
    have w97 : dt91 7 3 = dt 7 3 := hF93 7 (by decide) 3
    have w98 : dt91 10 3 = dt 10 3 := hF93 10 (by decide) 3
    have w99 : dt91 12 3 = dt 12 3 := hF93 12 (by decide) 3
    have w100 : dt91 14 3 = dt 14 3 := hF93 14 (by decide) 3
    have w101 : dt91 16 3 = dt 16 3 := hF93 16 (by decide) 3
    have w102 : dt91 18 0 = dt 18 0 := hF93 18 (by decide) 0
    have w103 : dt91 24 3 = dt 24 3 := hF93 24 (by decide) 3
    have w104 : dt91 27 3 = dt 27 3 := hF93 27 (by decide) 3
    have w105 : dt91 29 3 = dt 29 3 := hF93 29 (by decide) 3
    have w106 : dt91 31 3 = dt 31 3 := hF93 31 (by decide) 3
    have w107 : dt91 33 3 = dt 33 3 := hF93 33 (by decide) 3
    have w108 : dt91 0 2 = dt 0 2 := hF93 0 (by decide) 2
    have w109 : dt91 35 1 = dt 35 1 := hF93 35 (by decide) 1
    have w110 : dt91 35 2 = dt 35 2 := hF93 35 (by decide) 2
    have w111 : dt91 35 3 = dt 35 3 := hF93 35 (by decide) 3
    have w112 : dt91 80 0 = dt 80 0 := hF93 80 (by decide) 0
    have w113 : dt91 80 1 = dt 80 1 := hF93 80 (by decide) 1
    have w114 : dt91 80 2 = dt 80 2 := hF93 80 (by decide) 2
    have w115 : dt91 80 3 = dt 80 3 := hF93 80 (by decide) 3
    have w116 : dt91 80 4 = dt 80 4 := hF93 80 (by decide) 4
    have w117 : dt91 80 5 = dt 80 5 := hF93 80 (by decide) 5
    have w118 : dt91 81 0 = dt 81 0 := hF93 81 (by decide) 0
    have w119 : dt91 81 1 = dt 81 1 := hF93 81 (by decide) 1
    have w120 : dt91 81 2 = dt 81 2 := hF93 81 (by decide) 2
    have w121 : dt91 81 3 = dt 81 3 := hF93 81 (by decide) 3
    have w122 : dt91 81 4 = dt 81 4 := hF93 81 (by decide) 4
    have w123 : dt91 81 5 = dt 81 5 := hF93 81 (by decide) 5
    have w124 : dt91 79 2 = dt 79 2 := hF93 79 (by decide) 2
    have w125 : dt91 79 12 = dt 79 12 := hF93 79 (by decide) 12
    have w126 : dt91 79 19 = dt 79 19 := hF93 79 (by decide) 19
    have w127 : dt91 79 21 = dt 79 21 := hF93 79 (by decide) 21
    rcases h90 with ⟨rfl, h90⟩ | ⟨v_h90, rfl, h90r, h90⟩
    · skip
      have M2128 : MW (dt91 81) := MW_frk hM2 hF93 (by decide)
      have y129 : (0 ≤ ((xs ((i + 1).toNat)).toInt) ∧ ((xs ((i + 1).toNat)).toInt) ≤ 7) → (0 ≤ ((xs ((i + 2).toNat)).toInt) ∧ ((xs ((i + 2).toNat)).toInt) ≤ 7) → PTB (SDC (dt 9)) ((xs ((i + 1).toNat)).toInt) ((xs ((i + 2).toNat)).toInt) (dt 7 3).toNat = PTB (SAID (dt 80)) ((xs ((i + 1).toNat)).toInt) ((xs ((i + 2).toNat)).toInt) (dt 80 1).toNat := fun h1_ h2_ => by rw [PTB_L hd5 h1_ h2_ hk1, hk1]
      replace y129 := hid y129
      have C130 : ∀ j : Nat, dt91 2 j = dt 2 j := fun j => (hF93 2 (by decide) j).trans ((fun _ => rfl) j)
      have C131 : ∀ j : Nat, dt91 3 j = dt 3 j := fun j => (hF93 3 (by decide) j).trans ((fun _ => rfl) j)
      have C132 : ∀ j : Nat, dt91 4 j = dt 4 j := fun j => (hF93 4 (by decide) j).trans ((fun _ => rfl) j)
      have C133 : ∀ j : Nat, dt91 5 j = dt 5 j := fun j => (hF93 5 (by decide) j).trans ((fun _ => rfl) j)
      have C134 : ∀ j : Nat, dt91 6 j = dt 6 j := fun j => (hF93 6 (by decide) j).trans ((fun _ => rfl) j)
      have C135 : ∀ j : Nat, dt91 8 j = dt 8 j := fun j => (hF93 8 (by decide) j).trans ((fun _ => rfl) j)
      have C136 : ∀ j : Nat, dt91 9 j = dt 9 j := fun j => (hF93 9 (by decide) j).trans ((fun _ => rfl) j)
      have C137 : ∀ j : Nat, dt91 11 j = dt 11 j := fun j => (hF93 11 (by decide) j).trans ((fun _ => rfl) j)
      have C138 : ∀ j : Nat, dt91 19 j = dt 19 j := fun j => (hF93 19 (by decide) j).trans ((fun _ => rfl) j)
      have C139 : ∀ j : Nat, dt91 20 j = dt 20 j := fun j => (hF93 20 (by decide) j).trans ((fun _ => rfl) j)
      have C140 : ∀ j : Nat, dt91 21 j = dt 21 j := fun j => (hF93 21 (by decide) j).trans ((fun _ => rfl) j)
      have C141 : ∀ j : Nat, dt91 22 j = dt 22 j := fun j => (hF93 22 (by decide) j).trans ((fun _ => rfl) j)
      have C142 : ∀ j : Nat, dt91 23 j = dt 23 j := fun j => (hF93 23 (by decide) j).trans ((fun _ => rfl) j)
      have C143 : ∀ j : Nat, dt91 25 j = dt 25 j := fun j => (hF93 25 (by decide) j).trans ((fun _ => rfl) j)
      have C144 : ∀ j : Nat, dt91 26 j = dt 26 j := fun j => (hF93 26 (by decide) j).trans ((fun _ => rfl) j)
      have C145 : ∀ j : Nat, dt91 28 j = dt 28 j := fun j => (hF93 28 (by decide) j).trans ((fun _ => rfl) j)
      have C146 : ∀ j : Nat, dt91 13 j = dt 13 j := fun j => (hF93 13 (by decide) j).trans ((fun _ => rfl) j)
      have C147 : ∀ j : Nat, dt91 30 j = dt 30 j := fun j => (hF93 30 (by decide) j).trans ((fun _ => rfl) j)
      have C148 : ∀ j : Nat, dt91 36 j = dt 36 j := fun j => (hF93 36 (by decide) j).trans ((fun _ => rfl) j)
      have C149 : ∀ j : Nat, dt91 80 j = dt 80 j := fun j => (hF93 80 (by decide) j).trans ((fun _ => rfl) j)
      have C150 : ∀ j : Nat, dt91 81 j = dt 81 j := fun j => (hF93 81 (by decide) j).trans ((fun _ => rfl) j)
      have C151 : ∀ j : Nat, dt91 85 j = dt 85 j := fun j => (hF93 85 (by decide) j).trans ((fun _ => rfl) j)
      refine go_toq PM267 (k := 2) (pc' := 1435) (L' := [some (.inr (.inr (some 3000))), some (.inr (.inr (some 0))), some (.inr (.inr (some 79))), some (.inl i)]) (st' := []) (w' := (SH, dt91)) rfl ?_
      exact K dt91 hI92 hM95 M2128 (w96.trans (hk0.trans w112.symm)) (w97.trans (hk1.trans w113.symm)) (w98.trans (hk2.trans w114.symm)) (w99.trans (hk3.trans w115.symm)) (w100.trans (hk4.trans w116.symm)) (w101.trans (hk5.trans w117.symm)) (w102.trans (hk6.trans w118.symm)) (w103.trans (hk7.trans w119.symm)) (w104.trans (hk8.trans w120.symm)) (w105.trans (hk9.trans w121.symm)) (w106.trans (hk10.trans w122.symm)) (w107.trans (hk11.trans w123.symm)) (w108.trans (hk12.trans w124.symm)) (w109.trans (hk13.trans w125.symm)) (w110.trans (hk14.trans w126.symm)) (w111.trans (hk15.trans w127.symm)) (by first | exact hI | exact TPL_k hd0 C148 C151 (by (first | omega | (have z0_ := unhid y129; omega))) | (exfalso; (first | omega | (have z0_ := unhid y129; omega)))) (by first | exact hI | exact SCL_k hd1 hM (fun j _ => C130 j) (fun j _ => C131 j) (fun j _ _ => C149 j) | (exfalso; (first | omega | (have z0_ := unhid y129; omega)))) (by first | exact hI | exact SCL_k hd2 hM2 (fun j _ => C138 j) (fun j _ => C139 j) (fun j _ _ => C150 j) | (exfalso; (first | omega | (have z0_ := unhid y129; omega)))) (by first | exact hI | exact QRL_k hd3 hM (fun j _ => C135 j) (C149 1) (fun j _ _ => C149 j) | (exfalso; (first | omega | (have z0_ := unhid y129; omega)))) (by first | exact hI | exact QRL_k hd4 hM2 (fun j _ => C143 j) (C150 1) (fun j _ _ => C150 j) | (exfalso; (first | omega | (have z0_ := unhid y129; omega)))) (by first | exact hI | exact SDL_k hd5 hM (fun j _ => C136 j) (C149 1) (fun j _ _ => C149 j) (fun j _ _ => C149 j) | (exfalso; (first | omega | (have z0_ := unhid y129; omega)))) (by first | exact hI | exact SDL_k hd6 hM2 (fun j _ => C144 j) (C150 1) (fun j _ _ => C150 j) (fun j _ _ => C150 j) | (exfalso; (first | omega | (have z0_ := unhid y129; omega)))) (by first | exact hI | exact LWL_k hd7 hM (fun j _ => C132 j) (fun j _ => C133 j) (fun j _ => C134 j) (fun j _ _ => C149 j) | (exfalso; (first | omega | (have z0_ := unhid y129; omega)))) (by first | exact hI | exact LWL_k hd8 hM2 (fun j _ => C140 j) (fun j _ => C141 j) (fun j _ => C142 j) (fun j _ _ => C150 j) | (exfalso; (first | omega | (have z0_ := unhid y129; omega)))) (by first | exact hI | exact CHL_k hd9 hM (fun j _ => C137 j) (by (first | omega | (have z0_ := unhid y129; omega))) (fun j _ _ => C149 j) | (exfalso; (first | omega | (have z0_ := unhid y129; omega)))) (by first | exact hI | exact CHL_k hd10 hM2 (fun j _ => C145 j) (by (first | omega | (have z0_ := unhid y129; omega))) (fun j _ _ => C150 j) | (exfalso; (first | omega | (have z0_ := unhid y129; omega)))) (by first | exact hI | exact ANL_k hd11 hM (fun j _ => C146 j) (by (first | omega | (have z0_ := unhid y129; omega))) (by (first | omega | (have z0_ := unhid y129; omega))) (by (first | omega | (have z0_ := unhid y129; omega))) (fun j _ _ => C149 j) | (exfalso; (first | omega | (have z0_ := unhid y129; omega)))) (by first | exact hI | exact ANL_k hd12 hM2 (fun j _ => C147 j) (by (first | omega | (have z0_ := unhid y129; omega))) (by (first | omega | (have z0_ := unhid y129; omega))) (by (first | omega | (have z0_ := unhid y129; omega))) (fun j _ _ => C150 j) | (exfalso; (first | omega | (have z0_ := unhid y129; omega))))
    · skip
      obtain ⟨h90_0, h90_1⟩ := h90
      have M2152 : MW (dt91 81) := MW_frk hM2 hF93 (by decide)
      have y153 : (0 ≤ ((xs ((i + 1).toNat)).toInt) ∧ ((xs ((i + 1).toNat)).toInt) ≤ 7) → (0 ≤ ((xs ((i + 2).toNat)).toInt) ∧ ((xs ((i + 2).toNat)).toInt) ≤ 7) → PTB (SDC (dt 9)) ((xs ((i + 1).toNat)).toInt) ((xs ((i + 2).toNat)).toInt) (dt 7 3).toNat = PTB (SAID (dt 80)) ((xs ((i + 1).toNat)).toInt) ((xs ((i + 2).toNat)).toInt) (dt 80 1).toNat := fun h1_ h2_ => by rw [PTB_L hd5 h1_ h2_ hk1, hk1]
      replace y153 := hid y153
      have C154 : ∀ j : Nat, dt91 2 j = dt 2 j := fun j => (hF93 2 (by decide) j).trans ((fun _ => rfl) j)
      have C155 : ∀ j : Nat, dt91 3 j = dt 3 j := fun j => (hF93 3 (by decide) j).trans ((fun _ => rfl) j)
      have C156 : ∀ j : Nat, dt91 4 j = dt 4 j := fun j => (hF93 4 (by decide) j).trans ((fun _ => rfl) j)
      have C157 : ∀ j : Nat, dt91 5 j = dt 5 j := fun j => (hF93 5 (by decide) j).trans ((fun _ => rfl) j)
      have C158 : ∀ j : Nat, dt91 6 j = dt 6 j := fun j => (hF93 6 (by decide) j).trans ((fun _ => rfl) j)
      have C159 : ∀ j : Nat, dt91 8 j = dt 8 j := fun j => (hF93 8 (by decide) j).trans ((fun _ => rfl) j)
      have C160 : ∀ j : Nat, dt91 9 j = dt 9 j := fun j => (hF93 9 (by decide) j).trans ((fun _ => rfl) j)
      have C161 : ∀ j : Nat, dt91 11 j = dt 11 j := fun j => (hF93 11 (by decide) j).trans ((fun _ => rfl) j)
      have C162 : ∀ j : Nat, dt91 19 j = dt 19 j := fun j => (hF93 19 (by decide) j).trans ((fun _ => rfl) j)
      have C163 : ∀ j : Nat, dt91 20 j = dt 20 j := fun j => (hF93 20 (by decide) j).trans ((fun _ => rfl) j)
      have C164 : ∀ j : Nat, dt91 21 j = dt 21 j := fun j => (hF93 21 (by decide) j).trans ((fun _ => rfl) j)
      have C165 : ∀ j : Nat, dt91 22 j = dt 22 j := fun j => (hF93 22 (by decide) j).trans ((fun _ => rfl) j)
      have C166 : ∀ j : Nat, dt91 23 j = dt 23 j := fun j => (hF93 23 (by decide) j).trans ((fun _ => rfl) j)
      have C167 : ∀ j : Nat, dt91 25 j = dt 25 j := fun j => (hF93 25 (by decide) j).trans ((fun _ => rfl) j)
      have C168 : ∀ j : Nat, dt91 26 j = dt 26 j := fun j => (hF93 26 (by decide) j).trans ((fun _ => rfl) j)
      have C169 : ∀ j : Nat, dt91 28 j = dt 28 j := fun j => (hF93 28 (by decide) j).trans ((fun _ => rfl) j)
      have C170 : ∀ j : Nat, dt91 13 j = dt 13 j := fun j => (hF93 13 (by decide) j).trans ((fun _ => rfl) j)
      have C171 : ∀ j : Nat, dt91 30 j = dt 30 j := fun j => (hF93 30 (by decide) j).trans ((fun _ => rfl) j)
      have C172 : ∀ j : Nat, dt91 36 j = dt 36 j := fun j => (hF93 36 (by decide) j).trans ((fun _ => rfl) j)
      have C173 : ∀ j : Nat, dt91 80 j = dt 80 j := fun j => (hF93 80 (by decide) j).trans ((fun _ => rfl) j)
      have C174 : ∀ j : Nat, dt91 81 j = dt 81 j := fun j => (hF93 81 (by decide) j).trans ((fun _ => rfl) j)
      have C175 : ∀ j : Nat, dt91 85 j = dt 85 j := fun j => (hF93 85 (by decide) j).trans ((fun _ => rfl) j)
      refine go_toq PM267 (k := 2) (pc' := 1435) (L' := [some (.inr (.inr (some 3000))), some (.inr (.inr (some 0))), some (.inr (.inr (some 79))), some (.inl i)]) (st' := []) (w' := (SH, dt91)) rfl ?_
      exact K dt91 hI92 hM95 M2152 (w96.trans (hk0.trans w112.symm)) (w97.trans (hk1.trans w113.symm)) (w98.trans (hk2.trans w114.symm)) (w99.trans (hk3.trans w115.symm)) (w100.trans (hk4.trans w116.symm)) (w101.trans (hk5.trans w117.symm)) (w102.trans (hk6.trans w118.symm)) (w103.trans (hk7.trans w119.symm)) (w104.trans (hk8.trans w120.symm)) (w105.trans (hk9.trans w121.symm)) (w106.trans (hk10.trans w122.symm)) (w107.trans (hk11.trans w123.symm)) (w108.trans (hk12.trans w124.symm)) (w109.trans (hk13.trans w125.symm)) (w110.trans (hk14.trans w126.symm)) (w111.trans (hk15.trans w127.symm)) (by first | exact hI | exact TPL_k hd0 C172 C175 (by (first | omega | (have z0_ := unhid y153; omega))) | (exfalso; (first | omega | (have z0_ := unhid y153; omega)))) (by first | exact hI | exact SCL_k hd1 hM (fun j _ => C154 j) (fun j _ => C155 j) (fun j _ _ => C173 j) | (exfalso; (first | omega | (have z0_ := unhid y153; omega)))) (by first | exact hI | exact SCL_k hd2 hM2 (fun j _ => C162 j) (fun j _ => C163 j) (fun j _ _ => C174 j) | (exfalso; (first | omega | (have z0_ := unhid y153; omega)))) (by first | exact hI | exact QRL_k hd3 hM (fun j _ => C159 j) (C173 1) (fun j _ _ => C173 j) | (exfalso; (first | omega | (have z0_ := unhid y153; omega)))) (by first | exact hI | exact QRL_k hd4 hM2 (fun j _ => C167 j) (C174 1) (fun j _ _ => C174 j) | (exfalso; (first | omega | (have z0_ := unhid y153; omega)))) (by first | exact hI | exact SDL_k hd5 hM (fun j _ => C160 j) (C173 1) (fun j _ _ => C173 j) (fun j _ _ => C173 j) | (exfalso; (first | omega | (have z0_ := unhid y153; omega)))) (by first | exact hI | exact SDL_k hd6 hM2 (fun j _ => C168 j) (C174 1) (fun j _ _ => C174 j) (fun j _ _ => C174 j) | (exfalso; (first | omega | (have z0_ := unhid y153; omega)))) (by first | exact hI | exact LWL_k hd7 hM (fun j _ => C156 j) (fun j _ => C157 j) (fun j _ => C158 j) (fun j _ _ => C173 j) | (exfalso; (first | omega | (have z0_ := unhid y153; omega)))) (by first | exact hI | exact LWL_k hd8 hM2 (fun j _ => C164 j) (fun j _ => C165 j) (fun j _ => C166 j) (fun j _ _ => C174 j) | (exfalso; (first | omega | (have z0_ := unhid y153; omega)))) (by first | exact hI | exact CHL_k hd9 hM (fun j _ => C161 j) (by (first | omega | (have z0_ := unhid y153; omega))) (fun j _ _ => C173 j) | (exfalso; (first | omega | (have z0_ := unhid y153; omega)))) (by first | exact hI | exact CHL_k hd10 hM2 (fun j _ => C169 j) (by (first | omega | (have z0_ := unhid y153; omega))) (fun j _ _ => C174 j) | (exfalso; (first | omega | (have z0_ := unhid y153; omega)))) (by first | exact hI | exact ANL_k hd11 hM (fun j _ => C170 j) (by (first | omega | (have z0_ := unhid y153; omega))) (by (first | omega | (have z0_ := unhid y153; omega))) (by (first | omega | (have z0_ := unhid y153; omega))) (fun j _ _ => C173 j) | (exfalso; (first | omega | (have z0_ := unhid y153; omega)))) (by first | exact hI | exact ANL_k hd12 hM2 (fun j _ => C171 j) (by (first | omega | (have z0_ := unhid y153; omega))) (by (first | omega | (have z0_ := unhid y153; omega))) (by (first | omega | (have z0_ := unhid y153; omega))) (fun j _ _ => C174 j) | (exfalso; (first | omega | (have z0_ := unhid y153; omega))))
set_option maxRecDepth 20000 in
set_option maxHeartbeats 8000000 in
theorem sp_case17 (L : Nat) (xs : Nat → Int32) (sio : Option Nat) (d : Nat) (Q : Option AV → am_W → Prop) (hLL : L ≤ 3072) (i : Int) (hi : 0 ≤ i ∧ i ≤ 3066) (hil : i ≤ (L : Int) - 6) (dt : Nat → Nat → Int) (hI : InvC dt) (hM : MW (dt 80)) (hM2 : MW (dt 81)) (hk0 : dt 1 0 = dt 80 0) (hk1 : dt 7 3 = dt 80 1) (hk2 : dt 10 3 = dt 80 2) (hk3 : dt 12 3 = dt 80 3) (hk4 : dt 14 3 = dt 80 4) (hk5 : dt 16 3 = dt 80 5) (hk6 : dt 18 0 = dt 81 0) (hk7 : dt 24 3 = dt 81 1) (hk8 : dt 27 3 = dt 81 2) (hk9 : dt 29 3 = dt 81 3) (hk10 : dt 31 3 = dt 81 4) (hk11 : dt 33 3 = dt 81 5) (hk12 : dt 0 2 = dt 79 2) (hk13 : dt 35 1 = dt 79 12) (hk14 : dt 35 2 = dt 79 19) (hk15 : dt 35 3 = dt 79 21) (hd0 : TPL (dt 36) (dt 85) (dt 35 1)) (hd1 : SCL (dt 2) (dt 3) (dt 80)) (hd2 : SCL (dt 19) (dt 20) (dt 81)) (hd3 : QRL (dt 8) (dt 80)) (hd4 : QRL (dt 25) (dt 81)) (hd5 : SDL (dt 9) (dt 80)) (hd6 : SDL (dt 26) (dt 81)) (hd7 : LWL (dt 4) (dt 5) (dt 6) (dt 80)) (hd8 : LWL (dt 21) (dt 22) (dt 23) (dt 81)) (hd9 : CHL (dt 11) (dt 80)) (hd10 : CHL (dt 28) (dt 81)) (hd11 : ANL (dt 13) (dt 80)) (hd12 : ANL (dt 30) (dt 81)) (K : ∀ (dt : Nat → Nat → Int) (hI : InvC dt) (hM : MW (dt 80)) (hM2 : MW (dt 81)) (hk0 : dt 1 0 = dt 80 0) (hk1 : dt 7 3 = dt 80 1) (hk2 : dt 10 3 = dt 80 2) (hk3 : dt 12 3 = dt 80 3) (hk4 : dt 14 3 = dt 80 4) (hk5 : dt 16 3 = dt 80 5) (hk6 : dt 18 0 = dt 81 0) (hk7 : dt 24 3 = dt 81 1) (hk8 : dt 27 3 = dt 81 2) (hk9 : dt 29 3 = dt 81 3) (hk10 : dt 31 3 = dt 81 4) (hk11 : dt 33 3 = dt 81 5) (hk12 : dt 0 2 = dt 79 2) (hk13 : dt 35 1 = dt 79 12) (hk14 : dt 35 2 = dt 79 19) (hk15 : dt 35 3 = dt 79 21) (hd0 : TPL (dt 36) (dt 85) (dt 35 1)) (hd1 : SCL (dt 2) (dt 3) (dt 80)) (hd2 : SCL (dt 19) (dt 20) (dt 81)) (hd3 : QRL (dt 8) (dt 80)) (hd4 : QRL (dt 25) (dt 81)) (hd5 : SDL (dt 9) (dt 80)) (hd6 : SDL (dt 26) (dt 81)) (hd7 : LWL (dt 4) (dt 5) (dt 6) (dt 80)) (hd8 : LWL (dt 21) (dt 22) (dt 23) (dt 81)) (hd9 : CHL (dt 11) (dt 80)) (hd10 : CHL (dt 28) (dt 81)) (hd11 : ANL (dt 13) (dt 80)) (hd12 : ANL (dt 30) (dt 81)), GO (am_XX L xs sio) (d + 39) 267 1435 [some (.inr (.inr (some 3000))), some (.inr (.inr (some 0))), some (.inr (.inr (some 79))), some (.inl i)] [] (SH, dt) Q) : GO (am_XX L xs sio) (d + 39) 267 921 [some (.inr (.inr (some 3000))), some (.inr (.inr (some 0))), some (.inr (.inr (some 79))), some (.inl i)] [] (SH, dt) Q := by
  have hF : Fr [0, 1, 2, 3, 4, 5, 6, 7, 8, 9, 10, 11, 12, 13, 14, 15, 16, 17, 18, 19, 20, 21, 22, 23, 24, 25, 26, 27, 28, 29, 30, 31, 32, 33, 34, 35, 36, 37, 38, 39, 40, 41, 42, 43, 44, 45, 46, 47, 48, 49, 50, 51, 52, 53, 54, 55, 56, 57, 58, 59, 60, 61, 62, 63, 64, 65, 66, 67, 68, 69, 70, 71, 72, 73, 74, 75, 76, 77, 78, 79, 80, 81, 82, 83, 84, 85, 86, 87, 88, 89, 90, 91, 92, 93, 94, 95, 96, 97, 98, 99, 100, 101, 102, 103, 104] dt dt := Fr_refl
  have hqo := QOC_R hd3 hM hk1
  have hb1_ := hM.1.1
  have hb2_ := hM.1.2.1
  have hb3_ := hM.1.2.2.1
  have halk : ALK dt (dt 80) := ⟨hd7, hd3, hd5, hd9, hk1, hk2⟩
  have hav_ : ∀ i : Nat, (i : Int) < dt 12 3 → 0 ≤ dt 13 (6 * i + 1) ∧ dt 13 (6 * i + 1) < dt 7 3 := fun i hi => by have z := hd11 i (by omega); have y := z.2.2 1 (by decide); have w := z.2.1; omega
  refine go_toq PM267 (k := 5) (pc' := 926) (L' := [some (.inr (.inr (some 3000))), some (.inr (.inr (some 0))), some (.inr (.inr (some 79))), some (.inl i)]) (st' := [.inl (i + 1), .inr (.inr (some 3000)), .inr (.inr (some 0))]) (w' := (SH, dt)) rfl ?_
  have r1 := i32_R (xs ((i + 1).toNat))
  refine go_smpq PM267 (L' := [some (.inr (.inr (some 3000))), some (.inr (.inr (some 0))), some (.inr (.inr (some 79))), some (.inl i)]) (st' := [.inl ((xs ((i + 1).toNat)).toInt), .inr (.inr (some 0))]) (w' := (SH, dt)) rfl rfl (s_iald (n := L) (f := fun j => (xs j).toInt) (am_scr hLL) ⟨by omega, by omega⟩) ?_
  refine go_callq PM267 PM84 (Q' := _) rfl rfl rfl rfl (sp_X5_fewest L xs sio (d + 34) dt hI  ((xs ((i + 1).toNat)).toInt) ⟨by omega, by omega⟩ ) ?_
  rintro _ _ ⟨dt3, rfl, hI4, hF5, h2⟩
  refine ⟨rfl, ?_⟩
  have hF6 : Fr [0, 1, 2, 3, 4, 5, 6, 7, 8, 9, 10, 11, 12, 13, 14, 15, 16, 17, 18, 19, 20, 21, 22, 23, 24, 25, 26, 27, 28, 29, 30, 31, 32, 33, 34, 35, 36, 37, 38, 39, 40, 41, 42, 43, 44, 45, 46, 47, 48, 49, 50, 51, 52, 53, 54, 55, 56, 57, 58, 59, 60, 61, 62, 63, 64, 65, 66, 67, 68, 69, 70, 71, 72, 73, 74, 75, 76, 77, 78, 79, 80, 81, 82, 83, 84, 85, 86, 87, 88, 89, 90, 91, 92, 93, 94, 95, 96, 97, 98, 99, 100, 101, 102, 103, 104] dt dt3 := Fr_tr hF hF5 (by decide)
  have hM7 : MW (dt3 80) := MW_fr hM hF5 (by decide)
  have w8 : dt3 1 0 = dt 1 0 := hF5 1 (by decide) 0
  have w9 : dt3 7 3 = dt 7 3 := hF5 7 (by decide) 3
  have w10 : dt3 10 3 = dt 10 3 := hF5 10 (by decide) 3
  have w11 : dt3 12 3 = dt 12 3 := hF5 12 (by decide) 3
  have w12 : dt3 14 3 = dt 14 3 := hF5 14 (by decide) 3
  have w13 : dt3 16 3 = dt 16 3 := hF5 16 (by decide) 3
  have w14 : dt3 18 0 = dt 18 0 := hF5 18 (by decide) 0
  have w15 : dt3 24 3 = dt 24 3 := hF5 24 (by decide) 3
  have w16 : dt3 27 3 = dt 27 3 := hF5 27 (by decide) 3
  have w17 : dt3 29 3 = dt 29 3 := hF5 29 (by decide) 3
  have w18 : dt3 31 3 = dt 31 3 := hF5 31 (by decide) 3
  have w19 : dt3 33 3 = dt 33 3 := hF5 33 (by decide) 3
  have w20 : dt3 0 2 = dt 0 2 := hF5 0 (by decide) 2
  have w21 : dt3 35 1 = dt 35 1 := hF5 35 (by decide) 1
  have w22 : dt3 35 2 = dt 35 2 := hF5 35 (by decide) 2
  have w23 : dt3 35 3 = dt 35 3 := hF5 35 (by decide) 3
  have w24 : dt3 80 0 = dt 80 0 := hF5 80 (by decide) 0
  have w25 : dt3 80 1 = dt 80 1 := hF5 80 (by decide) 1
  have w26 : dt3 80 2 = dt 80 2 := hF5 80 (by decide) 2
  have w27 : dt3 80 3 = dt 80 3 := hF5 80 (by decide) 3
  have w28 : dt3 80 4 = dt 80 4 := hF5 80 (by decide) 4
  have w29 : dt3 80 5 = dt 80 5 := hF5 80 (by decide) 5
  have w30 : dt3 81 0 = dt 81 0 := hF5 81 (by decide) 0
  have w31 : dt3 81 1 = dt 81 1 := hF5 81 (by decide) 1
  have w32 : dt3 81 2 = dt 81 2 := hF5 81 (by decide) 2
  have w33 : dt3 81 3 = dt 81 3 := hF5 81 (by decide) 3
  have w34 : dt3 81 4 = dt 81 4 := hF5 81 (by decide) 4
  have w35 : dt3 81 5 = dt 81 5 := hF5 81 (by decide) 5
  have w36 : dt3 79 2 = dt 79 2 := hF5 79 (by decide) 2
  have w37 : dt3 79 12 = dt 79 12 := hF5 79 (by decide) 12
  have w38 : dt3 79 19 = dt 79 19 := hF5 79 (by decide) 19
  have w39 : dt3 79 21 = dt 79 21 := hF5 79 (by decide) 21
  rcases h2 with ⟨v_h2, rfl, h2r, h2⟩
  have M240 : MW (dt3 81) := MW_frk hM2 hF5 (by decide)
  have C41 : ∀ j : Nat, dt3 2 j = dt 2 j := fun j => (hF5 2 (by decide) j).trans ((fun _ => rfl) j)
  have C42 : ∀ j : Nat, dt3 3 j = dt 3 j := fun j => (hF5 3 (by decide) j).trans ((fun _ => rfl) j)
  have C43 : ∀ j : Nat, dt3 4 j = dt 4 j := fun j => (hF5 4 (by decide) j).trans ((fun _ => rfl) j)
  have C44 : ∀ j : Nat, dt3 5 j = dt 5 j := fun j => (hF5 5 (by decide) j).trans ((fun _ => rfl) j)
  have C45 : ∀ j : Nat, dt3 6 j = dt 6 j := fun j => (hF5 6 (by decide) j).trans ((fun _ => rfl) j)
  have C46 : ∀ j : Nat, dt3 8 j = dt 8 j := fun j => (hF5 8 (by decide) j).trans ((fun _ => rfl) j)
  have C47 : ∀ j : Nat, dt3 9 j = dt 9 j := fun j => (hF5 9 (by decide) j).trans ((fun _ => rfl) j)
  have C48 : ∀ j : Nat, dt3 11 j = dt 11 j := fun j => (hF5 11 (by decide) j).trans ((fun _ => rfl) j)
  have C49 : ∀ j : Nat, dt3 19 j = dt 19 j := fun j => (hF5 19 (by decide) j).trans ((fun _ => rfl) j)
  have C50 : ∀ j : Nat, dt3 20 j = dt 20 j := fun j => (hF5 20 (by decide) j).trans ((fun _ => rfl) j)
  have C51 : ∀ j : Nat, dt3 21 j = dt 21 j := fun j => (hF5 21 (by decide) j).trans ((fun _ => rfl) j)
  have C52 : ∀ j : Nat, dt3 22 j = dt 22 j := fun j => (hF5 22 (by decide) j).trans ((fun _ => rfl) j)
  have C53 : ∀ j : Nat, dt3 23 j = dt 23 j := fun j => (hF5 23 (by decide) j).trans ((fun _ => rfl) j)
  have C54 : ∀ j : Nat, dt3 25 j = dt 25 j := fun j => (hF5 25 (by decide) j).trans ((fun _ => rfl) j)
  have C55 : ∀ j : Nat, dt3 26 j = dt 26 j := fun j => (hF5 26 (by decide) j).trans ((fun _ => rfl) j)
  have C56 : ∀ j : Nat, dt3 28 j = dt 28 j := fun j => (hF5 28 (by decide) j).trans ((fun _ => rfl) j)
  have C57 : ∀ j : Nat, dt3 13 j = dt 13 j := fun j => (hF5 13 (by decide) j).trans ((fun _ => rfl) j)
  have C58 : ∀ j : Nat, dt3 30 j = dt 30 j := fun j => (hF5 30 (by decide) j).trans ((fun _ => rfl) j)
  have C59 : ∀ j : Nat, dt3 36 j = dt 36 j := fun j => (hF5 36 (by decide) j).trans ((fun _ => rfl) j)
  have C60 : ∀ j : Nat, dt3 80 j = dt 80 j := fun j => (hF5 80 (by decide) j).trans ((fun _ => rfl) j)
  have C61 : ∀ j : Nat, dt3 81 j = dt 81 j := fun j => (hF5 81 (by decide) j).trans ((fun _ => rfl) j)
  have C62 : ∀ j : Nat, dt3 85 j = dt 85 j := fun j => (hF5 85 (by decide) j).trans ((fun _ => rfl) j)
  refine go_toq PM267 (k := 6) (pc' := 936) (L' := [some (.inr (.inr (some 3000))), some (.inr (.inr (some 0))), some (.inr (.inr (some 79))), some (.inl i)]) (st' := [.inl (i + 1), .inr (.inr (some 3000)), .inr (.inr (some 79))]) (w' := (SH, dt3)) rfl ?_
  have r63 := i32_R (xs ((i + 1).toNat))
  refine go_smpq PM267 (L' := [some (.inr (.inr (some 3000))), some (.inr (.inr (some 0))), some (.inr (.inr (some 79))), some (.inl i)]) (st' := [.inl ((xs ((i + 1).toNat)).toInt), .inr (.inr (some 79))]) (w' := (SH, dt3)) rfl rfl (s_iald (n := L) (f := fun j => (xs j).toInt) (am_scr hLL) ⟨by omega, by omega⟩) ?_
  refine go_callq PM267 PM221 (Q' := _) rfl rfl rfl rfl (sp_X6_fewest L xs sio (d + 32) dt3 hI4 hM7  ((xs ((i + 1).toNat)).toInt) ⟨by omega, by omega⟩ ) ?_
  rintro _ _ ⟨dt65, rfl, hI66, hF67, h64⟩
  refine ⟨rfl, ?_⟩
  have hF68 : Fr [0, 1, 2, 3, 4, 5, 6, 7, 8, 9, 10, 11, 12, 13, 14, 15, 16, 17, 18, 19, 20, 21, 22, 23, 24, 25, 26, 27, 28, 29, 30, 31, 32, 33, 34, 35, 36, 37, 38, 39, 40, 41, 42, 43, 44, 45, 46, 47, 48, 49, 50, 51, 52, 53, 54, 55, 56, 57, 58, 59, 60, 61, 62, 63, 64, 65, 66, 67, 68, 69, 70, 71, 72, 73, 74, 75, 76, 77, 78, 79, 80, 81, 82, 83, 84, 85, 86, 87, 88, 89, 90, 91, 92, 93, 94, 95, 96, 97, 98, 99, 100, 101, 102, 103, 104] dt dt65 := Fr_tr hF6 hF67 (by decide)
  have hM69 : MW (dt65 80) := MW_fr hM7 hF67 (by decide)
  have w70 : dt65 1 0 = dt 1 0 := (hF67 1 (by decide) 0).trans w8
  have w71 : dt65 7 3 = dt 7 3 := (hF67 7 (by decide) 3).trans w9
  have w72 : dt65 10 3 = dt 10 3 := (hF67 10 (by decide) 3).trans w10
  have w73 : dt65 12 3 = dt 12 3 := (hF67 12 (by decide) 3).trans w11
  have w74 : dt65 14 3 = dt 14 3 := (hF67 14 (by decide) 3).trans w12
  have w75 : dt65 16 3 = dt 16 3 := (hF67 16 (by decide) 3).trans w13
  have w76 : dt65 18 0 = dt 18 0 := (hF67 18 (by decide) 0).trans w14
  have w77 : dt65 24 3 = dt 24 3 := (hF67 24 (by decide) 3).trans w15
  have w78 : dt65 27 3 = dt 27 3 := (hF67 27 (by decide) 3).trans w16
  have w79 : dt65 29 3 = dt 29 3 := (hF67 29 (by decide) 3).trans w17
  have w80 : dt65 31 3 = dt 31 3 := (hF67 31 (by decide) 3).trans w18
  have w81 : dt65 33 3 = dt 33 3 := (hF67 33 (by decide) 3).trans w19
  have w82 : dt65 0 2 = dt 0 2 := (hF67 0 (by decide) 2).trans w20
  have w83 : dt65 35 1 = dt 35 1 := (hF67 35 (by decide) 1).trans w21
  have w84 : dt65 35 2 = dt 35 2 := (hF67 35 (by decide) 2).trans w22
  have w85 : dt65 35 3 = dt 35 3 := (hF67 35 (by decide) 3).trans w23
  have w86 : dt65 80 0 = dt 80 0 := (hF67 80 (by decide) 0).trans w24
  have w87 : dt65 80 1 = dt 80 1 := (hF67 80 (by decide) 1).trans w25
  have w88 : dt65 80 2 = dt 80 2 := (hF67 80 (by decide) 2).trans w26
  have w89 : dt65 80 3 = dt 80 3 := (hF67 80 (by decide) 3).trans w27
  have w90 : dt65 80 4 = dt 80 4 := (hF67 80 (by decide) 4).trans w28
  have w91 : dt65 80 5 = dt 80 5 := (hF67 80 (by decide) 5).trans w29
  have w92 : dt65 81 0 = dt 81 0 := (hF67 81 (by decide) 0).trans w30
  have w93 : dt65 81 1 = dt 81 1 := (hF67 81 (by decide) 1).trans w31
  have w94 : dt65 81 2 = dt 81 2 := (hF67 81 (by decide) 2).trans w32
  have w95 : dt65 81 3 = dt 81 3 := (hF67 81 (by decide) 3).trans w33
  have w96 : dt65 81 4 = dt 81 4 := (hF67 81 (by decide) 4).trans w34
  have w97 : dt65 81 5 = dt 81 5 := (hF67 81 (by decide) 5).trans w35
  have w98 : dt65 79 2 = dt 79 2 := (hF67 79 (by decide) 2).trans w36
  have w99 : dt65 79 12 = dt 79 12 := (hF67 79 (by decide) 12).trans w37
  have w100 : dt65 79 19 = dt 79 19 := (hF67 79 (by decide) 19).trans w38
  have w101 : dt65 79 21 = dt 79 21 := (hF67 79 (by decide) 21).trans w39
  rcases h64 with ⟨v_h64, rfl, h64r, h64⟩
  have M2102 : MW (dt65 81) := MW_frk M240 hF67 (by decide)
  have C103 : ∀ j : Nat, dt65 2 j = dt 2 j := fun j => (hF67 2 (by decide) j).trans (C41 j)
  have C104 : ∀ j : Nat, dt65 3 j = dt 3 j := fun j => (hF67 3 (by decide) j).trans (C42 j)
  have C105 : ∀ j : Nat, dt65 4 j = dt 4 j := fun j => (hF67 4 (by decide) j).trans (C43 j)
  have C106 : ∀ j : Nat, dt65 5 j = dt 5 j := fun j => (hF67 5 (by decide) j).trans (C44 j)
  have C107 : ∀ j : Nat, dt65 6 j = dt 6 j := fun j => (hF67 6 (by decide) j).trans (C45 j)
  have C108 : ∀ j : Nat, dt65 8 j = dt 8 j := fun j => (hF67 8 (by decide) j).trans (C46 j)
  have C109 : ∀ j : Nat, dt65 9 j = dt 9 j := fun j => (hF67 9 (by decide) j).trans (C47 j)
  have C110 : ∀ j : Nat, dt65 11 j = dt 11 j := fun j => (hF67 11 (by decide) j).trans (C48 j)
  have C111 : ∀ j : Nat, dt65 19 j = dt 19 j := fun j => (hF67 19 (by decide) j).trans (C49 j)
  have C112 : ∀ j : Nat, dt65 20 j = dt 20 j := fun j => (hF67 20 (by decide) j).trans (C50 j)
  have C113 : ∀ j : Nat, dt65 21 j = dt 21 j := fun j => (hF67 21 (by decide) j).trans (C51 j)
  have C114 : ∀ j : Nat, dt65 22 j = dt 22 j := fun j => (hF67 22 (by decide) j).trans (C52 j)
  have C115 : ∀ j : Nat, dt65 23 j = dt 23 j := fun j => (hF67 23 (by decide) j).trans (C53 j)
  have C116 : ∀ j : Nat, dt65 25 j = dt 25 j := fun j => (hF67 25 (by decide) j).trans (C54 j)
  have C117 : ∀ j : Nat, dt65 26 j = dt 26 j := fun j => (hF67 26 (by decide) j).trans (C55 j)
  have C118 : ∀ j : Nat, dt65 28 j = dt 28 j := fun j => (hF67 28 (by decide) j).trans (C56 j)
  have C119 : ∀ j : Nat, dt65 13 j = dt 13 j := fun j => (hF67 13 (by decide) j).trans (C57 j)
  have C120 : ∀ j : Nat, dt65 30 j = dt 30 j := fun j => (hF67 30 (by decide) j).trans (C58 j)
  have C121 : ∀ j : Nat, dt65 36 j = dt 36 j := fun j => (hF67 36 (by decide) j).trans (C59 j)
  have C122 : ∀ j : Nat, dt65 80 j = dt 80 j := fun j => (hF67 80 (by decide) j).trans (C60 j)
  have C123 : ∀ j : Nat, dt65 81 j = dt 81 j := fun j => (hF67 81 (by decide) j).trans (C61 j)
  have C124 : ∀ j : Nat, dt65 85 j = dt 85 j := fun j => (hF67 85 (by decide) j).trans (C62 j)
  refine go_toq PM267 (k := 2) (pc' := 1435) (L' := [some (.inr (.inr (some 3000))), some (.inr (.inr (some 0))), some (.inr (.inr (some 79))), some (.inl i)]) (st' := []) (w' := (SH, dt65)) rfl ?_
  exact K dt65 hI66 hM69 M2102 (w70.trans (hk0.trans w86.symm)) (w71.trans (hk1.trans w87.symm)) (w72.trans (hk2.trans w88.symm)) (w73.trans (hk3.trans w89.symm)) (w74.trans (hk4.trans w90.symm)) (w75.trans (hk5.trans w91.symm)) (w76.trans (hk6.trans w92.symm)) (w77.trans (hk7.trans w93.symm)) (w78.trans (hk8.trans w94.symm)) (w79.trans (hk9.trans w95.symm)) (w80.trans (hk10.trans w96.symm)) (w81.trans (hk11.trans w97.symm)) (w82.trans (hk12.trans w98.symm)) (w83.trans (hk13.trans w99.symm)) (w84.trans (hk14.trans w100.symm)) (w85.trans (hk15.trans w101.symm)) (by first | exact hI | exact TPL_k hd0 C121 C124 (by omega) | (exfalso; omega)) (by first | exact hI | exact SCL_k hd1 hM (fun j _ => C103 j) (fun j _ => C104 j) (fun j _ _ => C122 j) | (exfalso; omega)) (by first | exact hI | exact SCL_k hd2 hM2 (fun j _ => C111 j) (fun j _ => C112 j) (fun j _ _ => C123 j) | (exfalso; omega)) (by first | exact hI | exact QRL_k hd3 hM (fun j _ => C108 j) (C122 1) (fun j _ _ => C122 j) | (exfalso; omega)) (by first | exact hI | exact QRL_k hd4 hM2 (fun j _ => C116 j) (C123 1) (fun j _ _ => C123 j) | (exfalso; omega)) (by first | exact hI | exact SDL_k hd5 hM (fun j _ => C109 j) (C122 1) (fun j _ _ => C122 j) (fun j _ _ => C122 j) | (exfalso; omega)) (by first | exact hI | exact SDL_k hd6 hM2 (fun j _ => C117 j) (C123 1) (fun j _ _ => C123 j) (fun j _ _ => C123 j) | (exfalso; omega)) (by first | exact hI | exact LWL_k hd7 hM (fun j _ => C105 j) (fun j _ => C106 j) (fun j _ => C107 j) (fun j _ _ => C122 j) | (exfalso; omega)) (by first | exact hI | exact LWL_k hd8 hM2 (fun j _ => C113 j) (fun j _ => C114 j) (fun j _ => C115 j) (fun j _ _ => C123 j) | (exfalso; omega)) (by first | exact hI | exact CHL_k hd9 hM (fun j _ => C110 j) (by omega) (fun j _ _ => C122 j) | (exfalso; omega)) (by first | exact hI | exact CHL_k hd10 hM2 (fun j _ => C118 j) (by omega) (fun j _ _ => C123 j) | (exfalso; omega)) (by first | exact hI | exact ANL_k hd11 hM (fun j _ => C119 j) (by omega) (by omega) (by omega) (fun j _ _ => C122 j) | (exfalso; omega)) (by first | exact hI | exact ANL_k hd12 hM2 (fun j _ => C120 j) (by omega) (by omega) (by omega) (fun j _ _ => C123 j) | (exfalso; omega))
set_option maxRecDepth 20000 in
set_option maxHeartbeats 8000000 in
theorem sp_case18 (L : Nat) (xs : Nat → Int32) (sio : Option Nat) (d : Nat) (Q : Option AV → am_W → Prop) (hLL : L ≤ 3072) (i : Int) (hi : 0 ≤ i ∧ i ≤ 3066) (hil : i ≤ (L : Int) - 6) (dt : Nat → Nat → Int) (hI : InvC dt) (hM : MW (dt 80)) (hM2 : MW (dt 81)) (hk0 : dt 1 0 = dt 80 0) (hk1 : dt 7 3 = dt 80 1) (hk2 : dt 10 3 = dt 80 2) (hk3 : dt 12 3 = dt 80 3) (hk4 : dt 14 3 = dt 80 4) (hk5 : dt 16 3 = dt 80 5) (hk6 : dt 18 0 = dt 81 0) (hk7 : dt 24 3 = dt 81 1) (hk8 : dt 27 3 = dt 81 2) (hk9 : dt 29 3 = dt 81 3) (hk10 : dt 31 3 = dt 81 4) (hk11 : dt 33 3 = dt 81 5) (hk12 : dt 0 2 = dt 79 2) (hk13 : dt 35 1 = dt 79 12) (hk14 : dt 35 2 = dt 79 19) (hk15 : dt 35 3 = dt 79 21) (hd0 : TPL (dt 36) (dt 85) (dt 35 1)) (hd1 : SCL (dt 2) (dt 3) (dt 80)) (hd2 : SCL (dt 19) (dt 20) (dt 81)) (hd3 : QRL (dt 8) (dt 80)) (hd4 : QRL (dt 25) (dt 81)) (hd5 : SDL (dt 9) (dt 80)) (hd6 : SDL (dt 26) (dt 81)) (hd7 : LWL (dt 4) (dt 5) (dt 6) (dt 80)) (hd8 : LWL (dt 21) (dt 22) (dt 23) (dt 81)) (hd9 : CHL (dt 11) (dt 80)) (hd10 : CHL (dt 28) (dt 81)) (hd11 : ANL (dt 13) (dt 80)) (hd12 : ANL (dt 30) (dt 81)) (K : ∀ (dt : Nat → Nat → Int) (hI : InvC dt) (hM : MW (dt 80)) (hM2 : MW (dt 81)) (hk0 : dt 1 0 = dt 80 0) (hk1 : dt 7 3 = dt 80 1) (hk2 : dt 10 3 = dt 80 2) (hk3 : dt 12 3 = dt 80 3) (hk4 : dt 14 3 = dt 80 4) (hk5 : dt 16 3 = dt 80 5) (hk6 : dt 18 0 = dt 81 0) (hk7 : dt 24 3 = dt 81 1) (hk8 : dt 27 3 = dt 81 2) (hk9 : dt 29 3 = dt 81 3) (hk10 : dt 31 3 = dt 81 4) (hk11 : dt 33 3 = dt 81 5) (hk12 : dt 0 2 = dt 79 2) (hk13 : dt 35 1 = dt 79 12) (hk14 : dt 35 2 = dt 79 19) (hk15 : dt 35 3 = dt 79 21) (hd0 : TPL (dt 36) (dt 85) (dt 35 1)) (hd1 : SCL (dt 2) (dt 3) (dt 80)) (hd2 : SCL (dt 19) (dt 20) (dt 81)) (hd3 : QRL (dt 8) (dt 80)) (hd4 : QRL (dt 25) (dt 81)) (hd5 : SDL (dt 9) (dt 80)) (hd6 : SDL (dt 26) (dt 81)) (hd7 : LWL (dt 4) (dt 5) (dt 6) (dt 80)) (hd8 : LWL (dt 21) (dt 22) (dt 23) (dt 81)) (hd9 : CHL (dt 11) (dt 80)) (hd10 : CHL (dt 28) (dt 81)) (hd11 : ANL (dt 13) (dt 80)) (hd12 : ANL (dt 30) (dt 81)), GO (am_XX L xs sio) (d + 39) 267 1435 [some (.inr (.inr (some 3000))), some (.inr (.inr (some 0))), some (.inr (.inr (some 79))), some (.inl i)] [] (SH, dt) Q) : GO (am_XX L xs sio) (d + 39) 267 944 [some (.inr (.inr (some 3000))), some (.inr (.inr (some 0))), some (.inr (.inr (some 79))), some (.inl i)] [] (SH, dt) Q := by
  have hF : Fr [0, 1, 2, 3, 4, 5, 6, 7, 8, 9, 10, 11, 12, 13, 14, 15, 16, 17, 18, 19, 20, 21, 22, 23, 24, 25, 26, 27, 28, 29, 30, 31, 32, 33, 34, 35, 36, 37, 38, 39, 40, 41, 42, 43, 44, 45, 46, 47, 48, 49, 50, 51, 52, 53, 54, 55, 56, 57, 58, 59, 60, 61, 62, 63, 64, 65, 66, 67, 68, 69, 70, 71, 72, 73, 74, 75, 76, 77, 78, 79, 80, 81, 82, 83, 84, 85, 86, 87, 88, 89, 90, 91, 92, 93, 94, 95, 96, 97, 98, 99, 100, 101, 102, 103, 104] dt dt := Fr_refl
  have hqo := QOC_R hd3 hM hk1
  have hb1_ := hM.1.1
  have hb2_ := hM.1.2.1
  have hb3_ := hM.1.2.2.1
  have halk : ALK dt (dt 80) := ⟨hd7, hd3, hd5, hd9, hk1, hk2⟩
  have hav_ : ∀ i : Nat, (i : Int) < dt 12 3 → 0 ≤ dt 13 (6 * i + 1) ∧ dt 13 (6 * i + 1) < dt 7 3 := fun i hi => by have z := hd11 i (by omega); have y := z.2.2 1 (by decide); have w := z.2.1; omega
  refine go_toq PM267 (k := 5) (pc' := 949) (L' := [some (.inr (.inr (some 3000))), some (.inr (.inr (some 0))), some (.inr (.inr (some 79))), some (.inl i)]) (st' := [.inl (i + 1), .inr (.inr (some 3000)), .inr (.inr (some 0))]) (w' := (SH, dt)) rfl ?_
  have r1 := i32_R (xs ((i + 1).toNat))
  refine go_smpq PM267 (L' := [some (.inr (.inr (some 3000))), some (.inr (.inr (some 0))), some (.inr (.inr (some 79))), some (.inl i)]) (st' := [.inl ((xs ((i + 1).toNat)).toInt), .inr (.inr (some 0))]) (w' := (SH, dt)) rfl rfl (s_iald (n := L) (f := fun j => (xs j).toInt) (am_scr hLL) ⟨by omega, by omega⟩) ?_
  refine go_toq PM267 (k := 4) (pc' := 954) (L' := [some (.inr (.inr (some 3000))), some (.inr (.inr (some 0))), some (.inr (.inr (some 79))), some (.inl i)]) (st' := [.inl (i + 2), .inr (.inr (some 3000)), .inl ((xs ((i + 1).toNat)).toInt), .inr (.inr (some 0))]) (w' := (SH, dt)) rfl ?_
  have r2 := i32_R (xs ((i + 2).toNat))
  refine go_smpq PM267 (L' := [some (.inr (.inr (some 3000))), some (.inr (.inr (some 0))), some (.inr (.inr (some 79))), some (.inl i)]) (st' := [.inl ((xs ((i + 2).toNat)).toInt), .inl ((xs ((i + 1).toNat)).toInt), .inr (.inr (some 0))]) (w' := (SH, dt)) rfl rfl (s_iald (n := L) (f := fun j => (xs j).toInt) (am_scr hLL) ⟨by omega, by omega⟩) ?_
  refine go_toq PM267 (k := 4) (pc' := 959) (L' := [some (.inr (.inr (some 3000))), some (.inr (.inr (some 0))), some (.inr (.inr (some 79))), some (.inl i)]) (st' := [.inl (i + 3), .inr (.inr (some 3000)), .inl ((xs ((i + 2).toNat)).toInt), .inl ((xs ((i + 1).toNat)).toInt), .inr (.inr (some 0))]) (w' := (SH, dt)) rfl ?_
  have r3 := i32_R (xs ((i + 3).toNat))
  refine go_smpq PM267 (L' := [some (.inr (.inr (some 3000))), some (.inr (.inr (some 0))), some (.inr (.inr (some 79))), some (.inl i)]) (st' := [.inl ((xs ((i + 3).toNat)).toInt), .inl ((xs ((i + 2).toNat)).toInt), .inl ((xs ((i + 1).toNat)).toInt), .inr (.inr (some 0))]) (w' := (SH, dt)) rfl rfl (s_iald (n := L) (f := fun j => (xs j).toInt) (am_scr hLL) ⟨by omega, by omega⟩) ?_
  refine go_callq PM267 PM85 (Q' := _) rfl rfl rfl rfl (sp_X5_make L xs sio (d + 32) dt hI  ((xs ((i + 1).toNat)).toInt) ⟨by omega, by omega⟩ ((xs ((i + 2).toNat)).toInt) ⟨by omega, by omega⟩ ((xs ((i + 3).toNat)).toInt) ⟨by omega, by omega⟩ ) ?_
  rintro _ _ ⟨dt5, rfl, hI6, hF7, h4⟩
  refine ⟨rfl, ?_⟩
  have hF8 : Fr [0, 1, 2, 3, 4, 5, 6, 7, 8, 9, 10, 11, 12, 13, 14, 15, 16, 17, 18, 19, 20, 21, 22, 23, 24, 25, 26, 27, 28, 29, 30, 31, 32, 33, 34, 35, 36, 37, 38, 39, 40, 41, 42, 43, 44, 45, 46, 47, 48, 49, 50, 51, 52, 53, 54, 55, 56, 57, 58, 59, 60, 61, 62, 63, 64, 65, 66, 67, 68, 69, 70, 71, 72, 73, 74, 75, 76, 77, 78, 79, 80, 81, 82, 83, 84, 85, 86, 87, 88, 89, 90, 91, 92, 93, 94, 95, 96, 97, 98, 99, 100, 101, 102, 103, 104] dt dt5 := Fr_tr hF hF7 (by decide)
  have hM9 : MW (dt5 80) := MW_fr hM hF7 (by decide)
  have w10 : dt5 1 0 = dt 1 0 := hF7 1 (by decide) 0
  have w11 : dt5 7 3 = dt 7 3 := hF7 7 (by decide) 3
  have w12 : dt5 10 3 = dt 10 3 := hF7 10 (by decide) 3
  have w13 : dt5 12 3 = dt 12 3 := hF7 12 (by decide) 3
  have w14 : dt5 14 3 = dt 14 3 := hF7 14 (by decide) 3
  have w15 : dt5 16 3 = dt 16 3 := hF7 16 (by decide) 3
  have w16 : dt5 18 0 = dt 18 0 := hF7 18 (by decide) 0
  have w17 : dt5 24 3 = dt 24 3 := hF7 24 (by decide) 3
  have w18 : dt5 27 3 = dt 27 3 := hF7 27 (by decide) 3
  have w19 : dt5 29 3 = dt 29 3 := hF7 29 (by decide) 3
  have w20 : dt5 31 3 = dt 31 3 := hF7 31 (by decide) 3
  have w21 : dt5 33 3 = dt 33 3 := hF7 33 (by decide) 3
  have w22 : dt5 0 2 = dt 0 2 := hF7 0 (by decide) 2
  have w23 : dt5 35 1 = dt 35 1 := hF7 35 (by decide) 1
  have w24 : dt5 35 2 = dt 35 2 := hF7 35 (by decide) 2
  have w25 : dt5 35 3 = dt 35 3 := hF7 35 (by decide) 3
  have w26 : dt5 80 0 = dt 80 0 := hF7 80 (by decide) 0
  have w27 : dt5 80 1 = dt 80 1 := hF7 80 (by decide) 1
  have w28 : dt5 80 2 = dt 80 2 := hF7 80 (by decide) 2
  have w29 : dt5 80 3 = dt 80 3 := hF7 80 (by decide) 3
  have w30 : dt5 80 4 = dt 80 4 := hF7 80 (by decide) 4
  have w31 : dt5 80 5 = dt 80 5 := hF7 80 (by decide) 5
  have w32 : dt5 81 0 = dt 81 0 := hF7 81 (by decide) 0
  have w33 : dt5 81 1 = dt 81 1 := hF7 81 (by decide) 1
  have w34 : dt5 81 2 = dt 81 2 := hF7 81 (by decide) 2
  have w35 : dt5 81 3 = dt 81 3 := hF7 81 (by decide) 3
  have w36 : dt5 81 4 = dt 81 4 := hF7 81 (by decide) 4
  have w37 : dt5 81 5 = dt 81 5 := hF7 81 (by decide) 5
  have w38 : dt5 79 2 = dt 79 2 := hF7 79 (by decide) 2
  have w39 : dt5 79 12 = dt 79 12 := hF7 79 (by decide) 12
  have w40 : dt5 79 19 = dt 79 19 := hF7 79 (by decide) 19
  have w41 : dt5 79 21 = dt 79 21 := hF7 79 (by decide) 21
  rcases h4 with ⟨v_h4, rfl, h4r, h4⟩
  have M242 : MW (dt5 81) := MW_frk hM2 hF7 (by decide)
  have C43 : ∀ j : Nat, dt5 2 j = dt 2 j := fun j => (hF7 2 (by decide) j).trans ((fun _ => rfl) j)
  have C44 : ∀ j : Nat, dt5 3 j = dt 3 j := fun j => (hF7 3 (by decide) j).trans ((fun _ => rfl) j)
  have C45 : ∀ j : Nat, dt5 4 j = dt 4 j := fun j => (hF7 4 (by decide) j).trans ((fun _ => rfl) j)
  have C46 : ∀ j : Nat, dt5 5 j = dt 5 j := fun j => (hF7 5 (by decide) j).trans ((fun _ => rfl) j)
  have C47 : ∀ j : Nat, dt5 6 j = dt 6 j := fun j => (hF7 6 (by decide) j).trans ((fun _ => rfl) j)
  have C48 : ∀ j : Nat, dt5 8 j = dt 8 j := fun j => (hF7 8 (by decide) j).trans ((fun _ => rfl) j)
  have C49 : ∀ j : Nat, dt5 9 j = dt 9 j := fun j => (hF7 9 (by decide) j).trans ((fun _ => rfl) j)
  have C50 : ∀ j : Nat, dt5 11 j = dt 11 j := fun j => (hF7 11 (by decide) j).trans ((fun _ => rfl) j)
  have C51 : ∀ j : Nat, dt5 19 j = dt 19 j := fun j => (hF7 19 (by decide) j).trans ((fun _ => rfl) j)
  have C52 : ∀ j : Nat, dt5 20 j = dt 20 j := fun j => (hF7 20 (by decide) j).trans ((fun _ => rfl) j)
  have C53 : ∀ j : Nat, dt5 21 j = dt 21 j := fun j => (hF7 21 (by decide) j).trans ((fun _ => rfl) j)
  have C54 : ∀ j : Nat, dt5 22 j = dt 22 j := fun j => (hF7 22 (by decide) j).trans ((fun _ => rfl) j)
  have C55 : ∀ j : Nat, dt5 23 j = dt 23 j := fun j => (hF7 23 (by decide) j).trans ((fun _ => rfl) j)
  have C56 : ∀ j : Nat, dt5 25 j = dt 25 j := fun j => (hF7 25 (by decide) j).trans ((fun _ => rfl) j)
  have C57 : ∀ j : Nat, dt5 26 j = dt 26 j := fun j => (hF7 26 (by decide) j).trans ((fun _ => rfl) j)
  have C58 : ∀ j : Nat, dt5 28 j = dt 28 j := fun j => (hF7 28 (by decide) j).trans ((fun _ => rfl) j)
  have C59 : ∀ j : Nat, dt5 13 j = dt 13 j := fun j => (hF7 13 (by decide) j).trans ((fun _ => rfl) j)
  have C60 : ∀ j : Nat, dt5 30 j = dt 30 j := fun j => (hF7 30 (by decide) j).trans ((fun _ => rfl) j)
  have C61 : ∀ j : Nat, dt5 36 j = dt 36 j := fun j => (hF7 36 (by decide) j).trans ((fun _ => rfl) j)
  have C62 : ∀ j : Nat, dt5 80 j = dt 80 j := fun j => (hF7 80 (by decide) j).trans ((fun _ => rfl) j)
  have C63 : ∀ j : Nat, dt5 81 j = dt 81 j := fun j => (hF7 81 (by decide) j).trans ((fun _ => rfl) j)
  have C64 : ∀ j : Nat, dt5 85 j = dt 85 j := fun j => (hF7 85 (by decide) j).trans ((fun _ => rfl) j)
  refine go_toq PM267 (k := 6) (pc' := 969) (L' := [some (.inr (.inr (some 3000))), some (.inr (.inr (some 0))), some (.inr (.inr (some 79))), some (.inl i)]) (st' := [.inl (i + 1), .inr (.inr (some 3000)), .inr (.inr (some 79))]) (w' := (SH, dt5)) rfl ?_
  have r65 := i32_R (xs ((i + 1).toNat))
  refine go_smpq PM267 (L' := [some (.inr (.inr (some 3000))), some (.inr (.inr (some 0))), some (.inr (.inr (some 79))), some (.inl i)]) (st' := [.inl ((xs ((i + 1).toNat)).toInt), .inr (.inr (some 79))]) (w' := (SH, dt5)) rfl rfl (s_iald (n := L) (f := fun j => (xs j).toInt) (am_scr hLL) ⟨by omega, by omega⟩) ?_
  refine go_toq PM267 (k := 4) (pc' := 974) (L' := [some (.inr (.inr (some 3000))), some (.inr (.inr (some 0))), some (.inr (.inr (some 79))), some (.inl i)]) (st' := [.inl (i + 2), .inr (.inr (some 3000)), .inl ((xs ((i + 1).toNat)).toInt), .inr (.inr (some 79))]) (w' := (SH, dt5)) rfl ?_
  have r66 := i32_R (xs ((i + 2).toNat))
  refine go_smpq PM267 (L' := [some (.inr (.inr (some 3000))), some (.inr (.inr (some 0))), some (.inr (.inr (some 79))), some (.inl i)]) (st' := [.inl ((xs ((i + 2).toNat)).toInt), .inl ((xs ((i + 1).toNat)).toInt), .inr (.inr (some 79))]) (w' := (SH, dt5)) rfl rfl (s_iald (n := L) (f := fun j => (xs j).toInt) (am_scr hLL) ⟨by omega, by omega⟩) ?_
  refine go_toq PM267 (k := 4) (pc' := 979) (L' := [some (.inr (.inr (some 3000))), some (.inr (.inr (some 0))), some (.inr (.inr (some 79))), some (.inl i)]) (st' := [.inl (i + 3), .inr (.inr (some 3000)), .inl ((xs ((i + 2).toNat)).toInt), .inl ((xs ((i + 1).toNat)).toInt), .inr (.inr (some 79))]) (w' := (SH, dt5)) rfl ?_
  have r67 := i32_R (xs ((i + 3).toNat))
  refine go_smpq PM267 (L' := [some (.inr (.inr (some 3000))), some (.inr (.inr (some 0))), some (.inr (.inr (some 79))), some (.inl i)]) (st' := [.inl ((xs ((i + 3).toNat)).toInt), .inl ((xs ((i + 2).toNat)).toInt), .inl ((xs ((i + 1).toNat)).toInt), .inr (.inr (some 79))]) (w' := (SH, dt5)) rfl rfl (s_iald (n := L) (f := fun j => (xs j).toInt) (am_scr hLL) ⟨by omega, by omega⟩) ?_
  refine go_callq PM267 PM223 (Q' := _) rfl rfl rfl rfl (sp_X6_make L xs sio (d + 32) dt5 hI6 hM9  ((xs ((i + 1).toNat)).toInt) ⟨by omega, by omega⟩ ((xs ((i + 2).toNat)).toInt) ⟨by omega, by omega⟩ ((xs ((i + 3).toNat)).toInt) ⟨by omega, by omega⟩ ) ?_
  rintro _ _ ⟨dt69, rfl, hI70, hF71, h68⟩
  refine ⟨rfl, ?_⟩
  have hF72 : Fr [0, 1, 2, 3, 4, 5, 6, 7, 8, 9, 10, 11, 12, 13, 14, 15, 16, 17, 18, 19, 20, 21, 22, 23, 24, 25, 26, 27, 28, 29, 30, 31, 32, 33, 34, 35, 36, 37, 38, 39, 40, 41, 42, 43, 44, 45, 46, 47, 48, 49, 50, 51, 52, 53, 54, 55, 56, 57, 58, 59, 60, 61, 62, 63, 64, 65, 66, 67, 68, 69, 70, 71, 72, 73, 74, 75, 76, 77, 78, 79, 80, 81, 82, 83, 84, 85, 86, 87, 88, 89, 90, 91, 92, 93, 94, 95, 96, 97, 98, 99, 100, 101, 102, 103, 104] dt dt69 := Fr_tr hF8 hF71 (by decide)
  have hM73 : MW (dt69 80) := MW_fr hM9 hF71 (by decide)
  have w74 : dt69 1 0 = dt 1 0 := (hF71 1 (by decide) 0).trans w10
  have w75 : dt69 7 3 = dt 7 3 := (hF71 7 (by decide) 3).trans w11
  have w76 : dt69 10 3 = dt 10 3 := (hF71 10 (by decide) 3).trans w12
  have w77 : dt69 12 3 = dt 12 3 := (hF71 12 (by decide) 3).trans w13
  have w78 : dt69 14 3 = dt 14 3 := (hF71 14 (by decide) 3).trans w14
  have w79 : dt69 16 3 = dt 16 3 := (hF71 16 (by decide) 3).trans w15
  have w80 : dt69 18 0 = dt 18 0 := (hF71 18 (by decide) 0).trans w16
  have w81 : dt69 24 3 = dt 24 3 := (hF71 24 (by decide) 3).trans w17
  have w82 : dt69 27 3 = dt 27 3 := (hF71 27 (by decide) 3).trans w18
  have w83 : dt69 29 3 = dt 29 3 := (hF71 29 (by decide) 3).trans w19
  have w84 : dt69 31 3 = dt 31 3 := (hF71 31 (by decide) 3).trans w20
  have w85 : dt69 33 3 = dt 33 3 := (hF71 33 (by decide) 3).trans w21
  have w86 : dt69 0 2 = dt 0 2 := (hF71 0 (by decide) 2).trans w22
  have w87 : dt69 35 1 = dt 35 1 := (hF71 35 (by decide) 1).trans w23
  have w88 : dt69 35 2 = dt 35 2 := (hF71 35 (by decide) 2).trans w24
  have w89 : dt69 35 3 = dt 35 3 := (hF71 35 (by decide) 3).trans w25
  have w90 : dt69 80 0 = dt 80 0 := (hF71 80 (by decide) 0).trans w26
  have w91 : dt69 80 1 = dt 80 1 := (hF71 80 (by decide) 1).trans w27
  have w92 : dt69 80 2 = dt 80 2 := (hF71 80 (by decide) 2).trans w28
  have w93 : dt69 80 3 = dt 80 3 := (hF71 80 (by decide) 3).trans w29
  have w94 : dt69 80 4 = dt 80 4 := (hF71 80 (by decide) 4).trans w30
  have w95 : dt69 80 5 = dt 80 5 := (hF71 80 (by decide) 5).trans w31
  have w96 : dt69 81 0 = dt 81 0 := (hF71 81 (by decide) 0).trans w32
  have w97 : dt69 81 1 = dt 81 1 := (hF71 81 (by decide) 1).trans w33
  have w98 : dt69 81 2 = dt 81 2 := (hF71 81 (by decide) 2).trans w34
  have w99 : dt69 81 3 = dt 81 3 := (hF71 81 (by decide) 3).trans w35
  have w100 : dt69 81 4 = dt 81 4 := (hF71 81 (by decide) 4).trans w36
  have w101 : dt69 81 5 = dt 81 5 := (hF71 81 (by decide) 5).trans w37
  have w102 : dt69 79 2 = dt 79 2 := (hF71 79 (by decide) 2).trans w38
  have w103 : dt69 79 12 = dt 79 12 := (hF71 79 (by decide) 12).trans w39
  have w104 : dt69 79 19 = dt 79 19 := (hF71 79 (by decide) 19).trans w40
  have w105 : dt69 79 21 = dt 79 21 := (hF71 79 (by decide) 21).trans w41
  rcases h68 with ⟨v_h68, rfl, h68r, h68⟩
  have M2106 : MW (dt69 81) := MW_frk M242 hF71 (by decide)
  have C107 : ∀ j : Nat, dt69 2 j = dt 2 j := fun j => (hF71 2 (by decide) j).trans (C43 j)
  have C108 : ∀ j : Nat, dt69 3 j = dt 3 j := fun j => (hF71 3 (by decide) j).trans (C44 j)
  have C109 : ∀ j : Nat, dt69 4 j = dt 4 j := fun j => (hF71 4 (by decide) j).trans (C45 j)
  have C110 : ∀ j : Nat, dt69 5 j = dt 5 j := fun j => (hF71 5 (by decide) j).trans (C46 j)
  have C111 : ∀ j : Nat, dt69 6 j = dt 6 j := fun j => (hF71 6 (by decide) j).trans (C47 j)
  have C112 : ∀ j : Nat, dt69 8 j = dt 8 j := fun j => (hF71 8 (by decide) j).trans (C48 j)
  have C113 : ∀ j : Nat, dt69 9 j = dt 9 j := fun j => (hF71 9 (by decide) j).trans (C49 j)
  have C114 : ∀ j : Nat, dt69 11 j = dt 11 j := fun j => (hF71 11 (by decide) j).trans (C50 j)
  have C115 : ∀ j : Nat, dt69 19 j = dt 19 j := fun j => (hF71 19 (by decide) j).trans (C51 j)
  have C116 : ∀ j : Nat, dt69 20 j = dt 20 j := fun j => (hF71 20 (by decide) j).trans (C52 j)
  have C117 : ∀ j : Nat, dt69 21 j = dt 21 j := fun j => (hF71 21 (by decide) j).trans (C53 j)
  have C118 : ∀ j : Nat, dt69 22 j = dt 22 j := fun j => (hF71 22 (by decide) j).trans (C54 j)
  have C119 : ∀ j : Nat, dt69 23 j = dt 23 j := fun j => (hF71 23 (by decide) j).trans (C55 j)
  have C120 : ∀ j : Nat, dt69 25 j = dt 25 j := fun j => (hF71 25 (by decide) j).trans (C56 j)
  have C121 : ∀ j : Nat, dt69 26 j = dt 26 j := fun j => (hF71 26 (by decide) j).trans (C57 j)
  have C122 : ∀ j : Nat, dt69 28 j = dt 28 j := fun j => (hF71 28 (by decide) j).trans (C58 j)
  have C123 : ∀ j : Nat, dt69 13 j = dt 13 j := fun j => (hF71 13 (by decide) j).trans (C59 j)
  have C124 : ∀ j : Nat, dt69 30 j = dt 30 j := fun j => (hF71 30 (by decide) j).trans (C60 j)
  have C125 : ∀ j : Nat, dt69 36 j = dt 36 j := fun j => (hF71 36 (by decide) j).trans (C61 j)
  have C126 : ∀ j : Nat, dt69 80 j = dt 80 j := fun j => (hF71 80 (by decide) j).trans (C62 j)
  have C127 : ∀ j : Nat, dt69 81 j = dt 81 j := fun j => (hF71 81 (by decide) j).trans (C63 j)
  have C128 : ∀ j : Nat, dt69 85 j = dt 85 j := fun j => (hF71 85 (by decide) j).trans (C64 j)
  refine go_toq PM267 (k := 2) (pc' := 1435) (L' := [some (.inr (.inr (some 3000))), some (.inr (.inr (some 0))), some (.inr (.inr (some 79))), some (.inl i)]) (st' := []) (w' := (SH, dt69)) rfl ?_
  exact K dt69 hI70 hM73 M2106 (w74.trans (hk0.trans w90.symm)) (w75.trans (hk1.trans w91.symm)) (w76.trans (hk2.trans w92.symm)) (w77.trans (hk3.trans w93.symm)) (w78.trans (hk4.trans w94.symm)) (w79.trans (hk5.trans w95.symm)) (w80.trans (hk6.trans w96.symm)) (w81.trans (hk7.trans w97.symm)) (w82.trans (hk8.trans w98.symm)) (w83.trans (hk9.trans w99.symm)) (w84.trans (hk10.trans w100.symm)) (w85.trans (hk11.trans w101.symm)) (w86.trans (hk12.trans w102.symm)) (w87.trans (hk13.trans w103.symm)) (w88.trans (hk14.trans w104.symm)) (w89.trans (hk15.trans w105.symm)) (by first | exact hI | exact TPL_k hd0 C125 C128 (by omega) | (exfalso; omega)) (by first | exact hI | exact SCL_k hd1 hM (fun j _ => C107 j) (fun j _ => C108 j) (fun j _ _ => C126 j) | (exfalso; omega)) (by first | exact hI | exact SCL_k hd2 hM2 (fun j _ => C115 j) (fun j _ => C116 j) (fun j _ _ => C127 j) | (exfalso; omega)) (by first | exact hI | exact QRL_k hd3 hM (fun j _ => C112 j) (C126 1) (fun j _ _ => C126 j) | (exfalso; omega)) (by first | exact hI | exact QRL_k hd4 hM2 (fun j _ => C120 j) (C127 1) (fun j _ _ => C127 j) | (exfalso; omega)) (by first | exact hI | exact SDL_k hd5 hM (fun j _ => C113 j) (C126 1) (fun j _ _ => C126 j) (fun j _ _ => C126 j) | (exfalso; omega)) (by first | exact hI | exact SDL_k hd6 hM2 (fun j _ => C121 j) (C127 1) (fun j _ _ => C127 j) (fun j _ _ => C127 j) | (exfalso; omega)) (by first | exact hI | exact LWL_k hd7 hM (fun j _ => C109 j) (fun j _ => C110 j) (fun j _ => C111 j) (fun j _ _ => C126 j) | (exfalso; omega)) (by first | exact hI | exact LWL_k hd8 hM2 (fun j _ => C117 j) (fun j _ => C118 j) (fun j _ => C119 j) (fun j _ _ => C127 j) | (exfalso; omega)) (by first | exact hI | exact CHL_k hd9 hM (fun j _ => C114 j) (by omega) (fun j _ _ => C126 j) | (exfalso; omega)) (by first | exact hI | exact CHL_k hd10 hM2 (fun j _ => C122 j) (by omega) (fun j _ _ => C127 j) | (exfalso; omega)) (by first | exact hI | exact ANL_k hd11 hM (fun j _ => C123 j) (by omega) (by omega) (by omega) (fun j _ _ => C126 j) | (exfalso; omega)) (by first | exact hI | exact ANL_k hd12 hM2 (fun j _ => C124 j) (by omega) (by omega) (by omega) (fun j _ _ => C127 j) | (exfalso; omega))
set_option maxRecDepth 20000 in
set_option maxHeartbeats 8000000 in
theorem sp_case19 (L : Nat) (xs : Nat → Int32) (sio : Option Nat) (d : Nat) (Q : Option AV → am_W → Prop) (hLL : L ≤ 3072) (i : Int) (hi : 0 ≤ i ∧ i ≤ 3066) (hil : i ≤ (L : Int) - 6) (dt : Nat → Nat → Int) (hI : InvC dt) (hM : MW (dt 80)) (hM2 : MW (dt 81)) (hk0 : dt 1 0 = dt 80 0) (hk1 : dt 7 3 = dt 80 1) (hk2 : dt 10 3 = dt 80 2) (hk3 : dt 12 3 = dt 80 3) (hk4 : dt 14 3 = dt 80 4) (hk5 : dt 16 3 = dt 80 5) (hk6 : dt 18 0 = dt 81 0) (hk7 : dt 24 3 = dt 81 1) (hk8 : dt 27 3 = dt 81 2) (hk9 : dt 29 3 = dt 81 3) (hk10 : dt 31 3 = dt 81 4) (hk11 : dt 33 3 = dt 81 5) (hk12 : dt 0 2 = dt 79 2) (hk13 : dt 35 1 = dt 79 12) (hk14 : dt 35 2 = dt 79 19) (hk15 : dt 35 3 = dt 79 21) (hd0 : TPL (dt 36) (dt 85) (dt 35 1)) (hd1 : SCL (dt 2) (dt 3) (dt 80)) (hd2 : SCL (dt 19) (dt 20) (dt 81)) (hd3 : QRL (dt 8) (dt 80)) (hd4 : QRL (dt 25) (dt 81)) (hd5 : SDL (dt 9) (dt 80)) (hd6 : SDL (dt 26) (dt 81)) (hd7 : LWL (dt 4) (dt 5) (dt 6) (dt 80)) (hd8 : LWL (dt 21) (dt 22) (dt 23) (dt 81)) (hd9 : CHL (dt 11) (dt 80)) (hd10 : CHL (dt 28) (dt 81)) (hd11 : ANL (dt 13) (dt 80)) (hd12 : ANL (dt 30) (dt 81)) (K : ∀ (dt : Nat → Nat → Int) (hI : InvC dt) (hM : MW (dt 80)) (hM2 : MW (dt 81)) (hk0 : dt 1 0 = dt 80 0) (hk1 : dt 7 3 = dt 80 1) (hk2 : dt 10 3 = dt 80 2) (hk3 : dt 12 3 = dt 80 3) (hk4 : dt 14 3 = dt 80 4) (hk5 : dt 16 3 = dt 80 5) (hk6 : dt 18 0 = dt 81 0) (hk7 : dt 24 3 = dt 81 1) (hk8 : dt 27 3 = dt 81 2) (hk9 : dt 29 3 = dt 81 3) (hk10 : dt 31 3 = dt 81 4) (hk11 : dt 33 3 = dt 81 5) (hk12 : dt 0 2 = dt 79 2) (hk13 : dt 35 1 = dt 79 12) (hk14 : dt 35 2 = dt 79 19) (hk15 : dt 35 3 = dt 79 21) (hd0 : TPL (dt 36) (dt 85) (dt 35 1)) (hd1 : SCL (dt 2) (dt 3) (dt 80)) (hd2 : SCL (dt 19) (dt 20) (dt 81)) (hd3 : QRL (dt 8) (dt 80)) (hd4 : QRL (dt 25) (dt 81)) (hd5 : SDL (dt 9) (dt 80)) (hd6 : SDL (dt 26) (dt 81)) (hd7 : LWL (dt 4) (dt 5) (dt 6) (dt 80)) (hd8 : LWL (dt 21) (dt 22) (dt 23) (dt 81)) (hd9 : CHL (dt 11) (dt 80)) (hd10 : CHL (dt 28) (dt 81)) (hd11 : ANL (dt 13) (dt 80)) (hd12 : ANL (dt 30) (dt 81)), GO (am_XX L xs sio) (d + 39) 267 1435 [some (.inr (.inr (some 3000))), some (.inr (.inr (some 0))), some (.inr (.inr (some 79))), some (.inl i)] [] (SH, dt) Q) : GO (am_XX L xs sio) (d + 39) 267 987 [some (.inr (.inr (some 3000))), some (.inr (.inr (some 0))), some (.inr (.inr (some 79))), some (.inl i)] [] (SH, dt) Q := by
  have hF : Fr [0, 1, 2, 3, 4, 5, 6, 7, 8, 9, 10, 11, 12, 13, 14, 15, 16, 17, 18, 19, 20, 21, 22, 23, 24, 25, 26, 27, 28, 29, 30, 31, 32, 33, 34, 35, 36, 37, 38, 39, 40, 41, 42, 43, 44, 45, 46, 47, 48, 49, 50, 51, 52, 53, 54, 55, 56, 57, 58, 59, 60, 61, 62, 63, 64, 65, 66, 67, 68, 69, 70, 71, 72, 73, 74, 75, 76, 77, 78, 79, 80, 81, 82, 83, 84, 85, 86, 87, 88, 89, 90, 91, 92, 93, 94, 95, 96, 97, 98, 99, 100, 101, 102, 103, 104] dt dt := Fr_refl
  have hqo := QOC_R hd3 hM hk1
  have hb1_ := hM.1.1
  have hb2_ := hM.1.2.1
  have hb3_ := hM.1.2.2.1
  have halk : ALK dt (dt 80) := ⟨hd7, hd3, hd5, hd9, hk1, hk2⟩
  have hav_ : ∀ i : Nat, (i : Int) < dt 12 3 → 0 ≤ dt 13 (6 * i + 1) ∧ dt 13 (6 * i + 1) < dt 7 3 := fun i hi => by have z := hd11 i (by omega); have y := z.2.2 1 (by decide); have w := z.2.1; omega
  have r1 : (-2147483648) ≤ dt 1 0 ∧ dt 1 0 ≤ 2147483647 := InvC_get hI 1 0 rfl rfl
  have r2 : 0 ≤ dt 7 3 ∧ dt 7 3 ≤ 12 := InvC_get hI 7 3 rfl rfl
  have r3 : 0 ≤ dt 10 3 ∧ dt 10 3 ≤ 40 := InvC_get hI 10 3 rfl rfl
  have r4 : 0 ≤ dt 12 3 ∧ dt 12 3 ≤ 300 := InvC_get hI 12 3 rfl rfl
  have r5 : 0 ≤ dt 14 3 ∧ dt 14 3 ≤ 40 := InvC_get hI 14 3 rfl rfl
  have r6 : 0 ≤ dt 16 3 ∧ dt 16 3 ≤ 20 := InvC_get hI 16 3 rfl rfl
  have r7 : (-2147483648) ≤ dt 18 0 ∧ dt 18 0 ≤ 2147483647 := InvC_get hI 18 0 rfl rfl
  have r8 : 0 ≤ dt 24 3 ∧ dt 24 3 ≤ 12 := InvC_get hI 24 3 rfl rfl
  have r9 : 0 ≤ dt 27 3 ∧ dt 27 3 ≤ 40 := InvC_get hI 27 3 rfl rfl
  have r10 : 0 ≤ dt 29 3 ∧ dt 29 3 ≤ 300 := InvC_get hI 29 3 rfl rfl
  have r11 : 0 ≤ dt 31 3 ∧ dt 31 3 ≤ 40 := InvC_get hI 31 3 rfl rfl
  have r12 : 0 ≤ dt 33 3 ∧ dt 33 3 ≤ 20 := InvC_get hI 33 3 rfl rfl
  have r13 : 0 ≤ dt 0 2 ∧ dt 0 2 ≤ 1 := InvC_get hI 0 2 rfl rfl
  have r14 : 0 ≤ dt 35 1 ∧ dt 35 1 ≤ 500 := InvC_get hI 35 1 rfl rfl
  have r15 : (-2147483648) ≤ dt 35 2 ∧ dt 35 2 ≤ 2147483647 := InvC_get hI 35 2 rfl rfl
  have r16 : (-2147483648) ≤ dt 35 3 ∧ dt 35 3 ≤ 2147483647 := InvC_get hI 35 3 rfl rfl
  have r17 : (-2147483648) ≤ dt 80 0 ∧ dt 80 0 ≤ 2147483647 := InvC_get hI 80 0 rfl rfl
  have r18 : (-2147483648) ≤ dt 80 1 ∧ dt 80 1 ≤ 2147483647 := InvC_get hI 80 1 rfl rfl
  have r19 := MW_n hM
  have r20 : (-2147483648) ≤ dt 80 2 ∧ dt 80 2 ≤ 2147483647 := InvC_get hI 80 2 rfl rfl
  have r21 : (-2147483648) ≤ dt 80 3 ∧ dt 80 3 ≤ 2147483647 := InvC_get hI 80 3 rfl rfl
  have r22 : (-2147483648) ≤ dt 80 4 ∧ dt 80 4 ≤ 2147483647 := InvC_get hI 80 4 rfl rfl
  have r23 : (-2147483648) ≤ dt 80 5 ∧ dt 80 5 ≤ 2147483647 := InvC_get hI 80 5 rfl rfl
  have r24 : (-2147483648) ≤ dt 81 0 ∧ dt 81 0 ≤ 2147483647 := InvC_get hI 81 0 rfl rfl
  have r25 : (-2147483648) ≤ dt 81 1 ∧ dt 81 1 ≤ 2147483647 := InvC_get hI 81 1 rfl rfl
  have r26 : (-2147483648) ≤ dt 81 2 ∧ dt 81 2 ≤ 2147483647 := InvC_get hI 81 2 rfl rfl
  have r27 : (-2147483648) ≤ dt 81 3 ∧ dt 81 3 ≤ 2147483647 := InvC_get hI 81 3 rfl rfl
  have r28 : (-2147483648) ≤ dt 81 4 ∧ dt 81 4 ≤ 2147483647 := InvC_get hI 81 4 rfl rfl
  have r29 : (-2147483648) ≤ dt 81 5 ∧ dt 81 5 ≤ 2147483647 := InvC_get hI 81 5 rfl rfl
  have r30 : 0 ≤ dt 79 2 ∧ dt 79 2 ≤ 1 := InvC_get hI 79 2 rfl rfl
  have r31 : 0 ≤ dt 79 12 ∧ dt 79 12 ≤ 500 := InvC_get hI 79 12 rfl rfl
  have r32 : (-2147483648) ≤ dt 79 19 ∧ dt 79 19 ≤ 2147483647 := InvC_get hI 79 19 rfl rfl
  have r33 : (-2147483648) ≤ dt 79 21 ∧ dt 79 21 ≤ 2147483647 := InvC_get hI 79 21 rfl rfl
  refine go_toq PM267 (k := 5) (pc' := 992) (L' := [some (.inr (.inr (some 3000))), some (.inr (.inr (some 0))), some (.inr (.inr (some 79))), some (.inl i)]) (st' := [.inl (i + 1), .inr (.inr (some 3000)), .inr (.inr (some 0))]) (w' := (SH, dt)) rfl ?_
  have r34 := i32_R (xs ((i + 1).toNat))
  refine go_smpq PM267 (L' := [some (.inr (.inr (some 3000))), some (.inr (.inr (some 0))), some (.inr (.inr (some 79))), some (.inl i)]) (st' := [.inl ((xs ((i + 1).toNat)).toInt), .inr (.inr (some 0))]) (w' := (SH, dt)) rfl rfl (s_iald (n := L) (f := fun j => (xs j).toInt) (am_scr hLL) ⟨by omega, by omega⟩) ?_
  refine go_toq PM267 (k := 4) (pc' := 997) (L' := [some (.inr (.inr (some 3000))), some (.inr (.inr (some 0))), some (.inr (.inr (some 79))), some (.inl i)]) (st' := [.inl (i + 2), .inr (.inr (some 3000)), .inl ((xs ((i + 1).toNat)).toInt), .inr (.inr (some 0))]) (w' := (SH, dt)) rfl ?_
  have r35 := i32_R (xs ((i + 2).toNat))
  refine go_smpq PM267 (L' := [some (.inr (.inr (some 3000))), some (.inr (.inr (some 0))), some (.inr (.inr (some 79))), some (.inl i)]) (st' := [.inl ((xs ((i + 2).toNat)).toInt), .inl ((xs ((i + 1).toNat)).toInt), .inr (.inr (some 0))]) (w' := (SH, dt)) rfl rfl (s_iald (n := L) (f := fun j => (xs j).toInt) (am_scr hLL) ⟨by omega, by omega⟩) ?_
  refine go_callq PM267 PM86 (Q' := _) rfl rfl rfl rfl (sp_X5_odds_f L xs sio (d + 34) dt hI  ((xs ((i + 1).toNat)).toInt) ⟨by omega, by omega⟩ ((xs ((i + 2).toNat)).toInt) ⟨by omega, by omega⟩ (by first | exact True.intro | with_reducible assumption | rfl | omega | trivial | exact hM2 | exact hd1 | exact hqo | exact halk | exact hav_)) ?_
  rintro _ _ ⟨dt37, rfl, hI38, hF39, h36⟩
  refine ⟨rfl, ?_⟩
  have hF40 : Fr [0, 1, 2, 3, 4, 5, 6, 7, 8, 9, 10, 11, 12, 13, 14, 15, 16, 17, 18, 19, 20, 21, 22, 23, 24, 25, 26, 27, 28, 29, 30, 31, 32, 33, 34, 35, 36, 37, 38, 39, 40, 41, 42, 43, 44, 45, 46, 47, 48, 49, 50, 51, 52, 53, 54, 55, 56, 57, 58, 59, 60, 61, 62, 63, 64, 65, 66, 67, 68, 69, 70, 71, 72, 73, 74, 75, 76, 77, 78, 79, 80, 81, 82, 83, 84, 85, 86, 87, 88, 89, 90, 91, 92, 93, 94, 95, 96, 97, 98, 99, 100, 101, 102, 103, 104] dt dt37 := Fr_tr hF hF39 (by decide)
  have hM41 : MW (dt37 80) := MW_fr hM hF39 (by decide)
  have w42 : dt37 1 0 = dt 1 0 := hF39 1 (by decide) 0
  have w43 : dt37 7 3 = dt 7 3 := hF39 7 (by decide) 3
  have w44 : dt37 10 3 = dt 10 3 := hF39 10 (by decide) 3
  have w45 : dt37 12 3 = dt 12 3 := hF39 12 (by decide) 3
  have w46 : dt37 14 3 = dt 14 3 := hF39 14 (by decide) 3
  have w47 : dt37 16 3 = dt 16 3 := hF39 16 (by decide) 3
  have w48 : dt37 18 0 = dt 18 0 := hF39 18 (by decide) 0
  have w49 : dt37 24 3 = dt 24 3 := hF39 24 (by decide) 3
  have w50 : dt37 27 3 = dt 27 3 := hF39 27 (by decide) 3
  have w51 : dt37 29 3 = dt 29 3 := hF39 29 (by decide) 3
  have w52 : dt37 31 3 = dt 31 3 := hF39 31 (by decide) 3
  have w53 : dt37 33 3 = dt 33 3 := hF39 33 (by decide) 3
  have w54 : dt37 0 2 = dt 0 2 := hF39 0 (by decide) 2
  have w55 : dt37 35 1 = dt 35 1 := hF39 35 (by decide) 1
  have w56 : dt37 35 2 = dt 35 2 := hF39 35 (by decide) 2
  have w57 : dt37 35 3 = dt 35 3 := hF39 35 (by decide) 3
  have w58 : dt37 80 0 = dt 80 0 := hF39 80 (by decide) 0
  have w59 : dt37 80 1 = dt 80 1 := hF39 80 (by decide) 1
  have w60 : dt37 80 2 = dt 80 2 := hF39 80 (by decide) 2
  have w61 : dt37 80 3 = dt 80 3 := hF39 80 (by decide) 3
  have w62 : dt37 80 4 = dt 80 4 := hF39 80 (by decide) 4
  have w63 : dt37 80 5 = dt 80 5 := hF39 80 (by decide) 5
  have w64 : dt37 81 0 = dt 81 0 := hF39 81 (by decide) 0
  have w65 : dt37 81 1 = dt 81 1 := hF39 81 (by decide) 1
  have w66 : dt37 81 2 = dt 81 2 := hF39 81 (by decide) 2
  have w67 : dt37 81 3 = dt 81 3 := hF39 81 (by decide) 3
  have w68 : dt37 81 4 = dt 81 4 := hF39 81 (by decide) 4
  have w69 : dt37 81 5 = dt 81 5 := hF39 81 (by decide) 5
  have w70 : dt37 79 2 = dt 79 2 := hF39 79 (by decide) 2
  have w71 : dt37 79 12 = dt 79 12 := hF39 79 (by decide) 12
  have w72 : dt37 79 19 = dt 79 19 := hF39 79 (by decide) 19
  have w73 : dt37 79 21 = dt 79 21 := hF39 79 (by decide) 21
  rcases h36 with ⟨rfl, h36⟩ | ⟨v_h36, rfl, h36r, h36⟩
  · skip
    have M274 : MW (dt37 81) := MW_frk hM2 hF39 (by decide)
    have C75 : ∀ j : Nat, dt37 2 j = dt 2 j := fun j => (hF39 2 (by decide) j).trans ((fun _ => rfl) j)
    have C76 : ∀ j : Nat, dt37 3 j = dt 3 j := fun j => (hF39 3 (by decide) j).trans ((fun _ => rfl) j)
    have C77 : ∀ j : Nat, dt37 4 j = dt 4 j := fun j => (hF39 4 (by decide) j).trans ((fun _ => rfl) j)
    have C78 : ∀ j : Nat, dt37 5 j = dt 5 j := fun j => (hF39 5 (by decide) j).trans ((fun _ => rfl) j)
    have C79 : ∀ j : Nat, dt37 6 j = dt 6 j := fun j => (hF39 6 (by decide) j).trans ((fun _ => rfl) j)
    have C80 : ∀ j : Nat, dt37 8 j = dt 8 j := fun j => (hF39 8 (by decide) j).trans ((fun _ => rfl) j)
    have C81 : ∀ j : Nat, dt37 9 j = dt 9 j := fun j => (hF39 9 (by decide) j).trans ((fun _ => rfl) j)
    have C82 : ∀ j : Nat, dt37 11 j = dt 11 j := fun j => (hF39 11 (by decide) j).trans ((fun _ => rfl) j)
    have C83 : ∀ j : Nat, dt37 19 j = dt 19 j := fun j => (hF39 19 (by decide) j).trans ((fun _ => rfl) j)
    have C84 : ∀ j : Nat, dt37 20 j = dt 20 j := fun j => (hF39 20 (by decide) j).trans ((fun _ => rfl) j)
    have C85 : ∀ j : Nat, dt37 21 j = dt 21 j := fun j => (hF39 21 (by decide) j).trans ((fun _ => rfl) j)
    have C86 : ∀ j : Nat, dt37 22 j = dt 22 j := fun j => (hF39 22 (by decide) j).trans ((fun _ => rfl) j)
    have C87 : ∀ j : Nat, dt37 23 j = dt 23 j := fun j => (hF39 23 (by decide) j).trans ((fun _ => rfl) j)
    have C88 : ∀ j : Nat, dt37 25 j = dt 25 j := fun j => (hF39 25 (by decide) j).trans ((fun _ => rfl) j)
    have C89 : ∀ j : Nat, dt37 26 j = dt 26 j := fun j => (hF39 26 (by decide) j).trans ((fun _ => rfl) j)
    have C90 : ∀ j : Nat, dt37 28 j = dt 28 j := fun j => (hF39 28 (by decide) j).trans ((fun _ => rfl) j)
    have C91 : ∀ j : Nat, dt37 13 j = dt 13 j := fun j => (hF39 13 (by decide) j).trans ((fun _ => rfl) j)
    have C92 : ∀ j : Nat, dt37 30 j = dt 30 j := fun j => (hF39 30 (by decide) j).trans ((fun _ => rfl) j)
    have C93 : ∀ j : Nat, dt37 36 j = dt 36 j := fun j => (hF39 36 (by decide) j).trans ((fun _ => rfl) j)
    have C94 : ∀ j : Nat, dt37 80 j = dt 80 j := fun j => (hF39 80 (by decide) j).trans ((fun _ => rfl) j)
    have C95 : ∀ j : Nat, dt37 81 j = dt 81 j := fun j => (hF39 81 (by decide) j).trans ((fun _ => rfl) j)
    have C96 : ∀ j : Nat, dt37 85 j = dt 85 j := fun j => (hF39 85 (by decide) j).trans ((fun _ => rfl) j)
    refine go_toq PM267 (k := 5) (pc' := 1006) (L' := [some (.inr (.inr (some 3000))), some (.inr (.inr (some 0))), some (.inr (.inr (some 79))), some (.inl i)]) (st' := [.inl (i + 1), .inr (.inr (some 3000)), .inr (.inr (some 79)), .inl (-1)]) (w' := (SH, dt37)) rfl ?_
    have r97 := i32_R (xs ((i + 1).toNat))
    refine go_smpq PM267 (L' := [some (.inr (.inr (some 3000))), some (.inr (.inr (some 0))), some (.inr (.inr (some 79))), some (.inl i)]) (st' := [.inl ((xs ((i + 1).toNat)).toInt), .inr (.inr (some 79)), .inl (-1)]) (w' := (SH, dt37)) rfl rfl (s_iald (n := L) (f := fun j => (xs j).toInt) (am_scr hLL) ⟨by omega, by omega⟩) ?_
    refine go_toq PM267 (k := 4) (pc' := 1011) (L' := [some (.inr (.inr (some 3000))), some (.inr (.inr (some 0))), some (.inr (.inr (some 79))), some (.inl i)]) (st' := [.inl (i + 2), .inr (.inr (some 3000)), .inl ((xs ((i + 1).toNat)).toInt), .inr (.inr (some 79)), .inl (-1)]) (w' := (SH, dt37)) rfl ?_
    have r98 := i32_R (xs ((i + 2).toNat))
    refine go_smpq PM267 (L' := [some (.inr (.inr (some 3000))), some (.inr (.inr (some 0))), some (.inr (.inr (some 79))), some (.inl i)]) (st' := [.inl ((xs ((i + 2).toNat)).toInt), .inl ((xs ((i + 1).toNat)).toInt), .inr (.inr (some 79)), .inl (-1)]) (w' := (SH, dt37)) rfl rfl (s_iald (n := L) (f := fun j => (xs j).toInt) (am_scr hLL) ⟨by omega, by omega⟩) ?_
    refine go_callq PM267 PM227 (Q' := _) rfl rfl rfl rfl (sp_X6_odds_f L xs sio (d + 31) dt37 hI38 hM41  ((xs ((i + 1).toNat)).toInt) ⟨by omega, by omega⟩ ((xs ((i + 2).toNat)).toInt) ⟨by omega, by omega⟩ ) ?_
    rintro _ _ ⟨dt100, rfl, hI101, hF102, h99⟩
    refine ⟨rfl, ?_⟩
    have hF103 : Fr [0, 1, 2, 3, 4, 5, 6, 7, 8, 9, 10, 11, 12, 13, 14, 15, 16, 17, 18, 19, 20, 21, 22, 23, 24, 25, 26, 27, 28, 29, 30, 31, 32, 33, 34, 35, 36, 37, 38, 39, 40, 41, 42, 43, 44, 45, 46, 47, 48, 49, 50, 51, 52, 53, 54, 55, 56, 57, 58, 59, 60, 61, 62, 63, 64, 65, 66, 67, 68, 69, 70, 71, 72, 73, 74, 75, 76, 77, 78, 79, 80, 81, 82, 83, 84, 85, 86, 87, 88, 89, 90, 91, 92, 93, 94, 95, 96, 97, 98, 99, 100, 101, 102, 103, 104] dt dt100 := Fr_tr hF40 hF102 (by decide)
    have hM104 : MW (dt100 80) := MW_fr hM41 hF102 (by decide)
    have w105 : dt100 1 0 = dt 1 0 := (hF102 1 (by decide) 0).trans w42
    have w106 : dt100 7 3 = dt 7 3 := (hF102 7 (by decide) 3).trans w43
    have w107 : dt100 10 3 = dt 10 3 := (hF102 10 (by decide) 3).trans w44
    have w108 : dt100 12 3 = dt 12 3 := (hF102 12 (by decide) 3).trans w45
    have w109 : dt100 14 3 = dt 14 3 := (hF102 14 (by decide) 3).trans w46
    have w110 : dt100 16 3 = dt 16 3 := (hF102 16 (by decide) 3).trans w47
    have w111 : dt100 18 0 = dt 18 0 := (hF102 18 (by decide) 0).trans w48
    have w112 : dt100 24 3 = dt 24 3 := (hF102 24 (by decide) 3).trans w49
    have w113 : dt100 27 3 = dt 27 3 := (hF102 27 (by decide) 3).trans w50
    have w114 : dt100 29 3 = dt 29 3 := (hF102 29 (by decide) 3).trans w51
    have w115 : dt100 31 3 = dt 31 3 := (hF102 31 (by decide) 3).trans w52
    have w116 : dt100 33 3 = dt 33 3 := (hF102 33 (by decide) 3).trans w53
    have w117 : dt100 0 2 = dt 0 2 := (hF102 0 (by decide) 2).trans w54
    have w118 : dt100 35 1 = dt 35 1 := (hF102 35 (by decide) 1).trans w55
    have w119 : dt100 35 2 = dt 35 2 := (hF102 35 (by decide) 2).trans w56
    have w120 : dt100 35 3 = dt 35 3 := (hF102 35 (by decide) 3).trans w57
    have w121 : dt100 80 0 = dt 80 0 := (hF102 80 (by decide) 0).trans w58
    have w122 : dt100 80 1 = dt 80 1 := (hF102 80 (by decide) 1).trans w59
    have w123 : dt100 80 2 = dt 80 2 := (hF102 80 (by decide) 2).trans w60
    have w124 : dt100 80 3 = dt 80 3 := (hF102 80 (by decide) 3).trans w61
    have w125 : dt100 80 4 = dt 80 4 := (hF102 80 (by decide) 4).trans w62
    have w126 : dt100 80 5 = dt 80 5 := (hF102 80 (by decide) 5).trans w63
    have w127 : dt100 81 0 = dt 81 0 := (hF102 81 (by decide) 0).trans w64
    have w128 : dt100 81 1 = dt 81 1 := (hF102 81 (by decide) 1).trans w65
    have w129 : dt100 81 2 = dt 81 2 := (hF102 81 (by decide) 2).trans w66
    have w130 : dt100 81 3 = dt 81 3 := (hF102 81 (by decide) 3).trans w67
    have w131 : dt100 81 4 = dt 81 4 := (hF102 81 (by decide) 4).trans w68
    have w132 : dt100 81 5 = dt 81 5 := (hF102 81 (by decide) 5).trans w69
    have w133 : dt100 79 2 = dt 79 2 := (hF102 79 (by decide) 2).trans w70
    have w134 : dt100 79 12 = dt 79 12 := (hF102 79 (by decide) 12).trans w71
    have w135 : dt100 79 19 = dt 79 19 := (hF102 79 (by decide) 19).trans w72
    have w136 : dt100 79 21 = dt 79 21 := (hF102 79 (by decide) 21).trans w73
    rcases h99 with ⟨rfl, h99⟩ | ⟨v_h99, rfl, h99r, h99⟩
    · skip
      have M2137 : MW (dt100 81) := MW_frk M274 hF102 (by decide)
      have C138 : ∀ j : Nat, dt100 2 j = dt 2 j := fun j => (hF102 2 (by decide) j).trans (C75 j)
      have C139 : ∀ j : Nat, dt100 3 j = dt 3 j := fun j => (hF102 3 (by decide) j).trans (C76 j)
      have C140 : ∀ j : Nat, dt100 4 j = dt 4 j := fun j => (hF102 4 (by decide) j).trans (C77 j)
      have C141 : ∀ j : Nat, dt100 5 j = dt 5 j := fun j => (hF102 5 (by decide) j).trans (C78 j)
      have C142 : ∀ j : Nat, dt100 6 j = dt 6 j := fun j => (hF102 6 (by decide) j).trans (C79 j)
      have C143 : ∀ j : Nat, dt100 8 j = dt 8 j := fun j => (hF102 8 (by decide) j).trans (C80 j)
      have C144 : ∀ j : Nat, dt100 9 j = dt 9 j := fun j => (hF102 9 (by decide) j).trans (C81 j)
      have C145 : ∀ j : Nat, dt100 11 j = dt 11 j := fun j => (hF102 11 (by decide) j).trans (C82 j)
      have C146 : ∀ j : Nat, dt100 19 j = dt 19 j := fun j => (hF102 19 (by decide) j).trans (C83 j)
      have C147 : ∀ j : Nat, dt100 20 j = dt 20 j := fun j => (hF102 20 (by decide) j).trans (C84 j)
      have C148 : ∀ j : Nat, dt100 21 j = dt 21 j := fun j => (hF102 21 (by decide) j).trans (C85 j)
      have C149 : ∀ j : Nat, dt100 22 j = dt 22 j := fun j => (hF102 22 (by decide) j).trans (C86 j)
      have C150 : ∀ j : Nat, dt100 23 j = dt 23 j := fun j => (hF102 23 (by decide) j).trans (C87 j)
      have C151 : ∀ j : Nat, dt100 25 j = dt 25 j := fun j => (hF102 25 (by decide) j).trans (C88 j)
      have C152 : ∀ j : Nat, dt100 26 j = dt 26 j := fun j => (hF102 26 (by decide) j).trans (C89 j)
      have C153 : ∀ j : Nat, dt100 28 j = dt 28 j := fun j => (hF102 28 (by decide) j).trans (C90 j)
      have C154 : ∀ j : Nat, dt100 13 j = dt 13 j := fun j => (hF102 13 (by decide) j).trans (C91 j)
      have C155 : ∀ j : Nat, dt100 30 j = dt 30 j := fun j => (hF102 30 (by decide) j).trans (C92 j)
      have C156 : ∀ j : Nat, dt100 36 j = dt 36 j := fun j => (hF102 36 (by decide) j).trans (C93 j)
      have C157 : ∀ j : Nat, dt100 80 j = dt 80 j := fun j => (hF102 80 (by decide) j).trans (C94 j)
      have C158 : ∀ j : Nat, dt100 81 j = dt 81 j := fun j => (hF102 81 (by decide) j).trans (C95 j)
      have C159 : ∀ j : Nat, dt100 85 j = dt 85 j := fun j => (hF102 85 (by decide) j).trans (C96 j)
      have y160 : (0 ≤ ((xs ((i + 2).toNat)).toInt) ∧ ((xs ((i + 2).toNat)).toInt) ≤ 8) → (if ((xs ((i + 2).toNat)).toInt) = 8 then ((BST (fun k => ((AGC (SDC (dt 9)) (fun i c => dt 13 (6 * i + c)) ((xs ((i + 1).toNat)).toInt) (k : Int) (dt 12 3).toNat : Nat) : Int)) 7 : Nat) : Int) else ODD (fun k => PW9 (AGC (SDC (dt 9)) (fun i c => dt 13 (6 * i + c)) ((xs ((i + 1).toNat)).toInt) (k : Int) (dt 12 3).toNat)) ((xs ((i + 2).toNat)).toInt)) = (if ((xs ((i + 2).toNat)).toInt) = 8 then ((BST (fun k => PW9 (AGC (SAID (dt 80)) (fun i c => dt 80 (5540 + 6 * i + c)) ((xs ((i + 1).toNat)).toInt) (k : Int) (dt 80 3).toNat)) 7 : Nat) : Int) else ODD (fun k => PW9 (AGC (SAID (dt 80)) (fun i c => dt 80 (5540 + 6 * i + c)) ((xs ((i + 1).toNat)).toInt) (k : Int) (dt 80 3).toNat)) ((xs ((i + 2).toNat)).toInt)) := fun h2_ => ODL_v hd11 hd5 (by omega) h2_
      replace y160 := hid y160
      refine go_toq PM267 (k := 1) (pc' := 1435) (L' := [some (.inr (.inr (some 3000))), some (.inr (.inr (some 0))), some (.inr (.inr (some 79))), some (.inl i)]) (st' := []) (w' := (SH, dt100)) rfl ?_
      exact K dt100 hI101 hM104 M2137 (w105.trans (hk0.trans w121.symm)) (w106.trans (hk1.trans w122.symm)) (w107.trans (hk2.trans w123.symm)) (w108.trans (hk3.trans w124.symm)) (w109.trans (hk4.trans w125.symm)) (w110.trans (hk5.trans w126.symm)) (w111.trans (hk6.trans w127.symm)) (w112.trans (hk7.trans w128.symm)) (w113.trans (hk8.trans w129.symm)) (w114.trans (hk9.trans w130.symm)) (w115.trans (hk10.trans w131.symm)) (w116.trans (hk11.trans w132.symm)) (w117.trans (hk12.trans w133.symm)) (w118.trans (hk13.trans w134.symm)) (w119.trans (hk14.trans w135.symm)) (w120.trans (hk15.trans w136.symm)) (by first | exact hI | exact TPL_k hd0 C156 C159 (by (first | omega | (have z0_ := unhid y160; omega))) | (exfalso; (first | omega | (have z0_ := unhid y160; omega)))) (by first | exact hI | exact SCL_k hd1 hM (fun j _ => C138 j) (fun j _ => C139 j) (fun j _ _ => C157 j) | (exfalso; (first | omega | (have z0_ := unhid y160; omega)))) (by first | exact hI | exact SCL_k hd2 hM2 (fun j _ => C146 j) (fun j _ => C147 j) (fun j _ _ => C158 j) | (exfalso; (first | omega | (have z0_ := unhid y160; omega)))) (by first | exact hI | exact QRL_k hd3 hM (fun j _ => C143 j) (C157 1) (fun j _ _ => C157 j) | (exfalso; (first | omega | (have z0_ := unhid y160; omega)))) (by first | exact hI | exact QRL_k hd4 hM2 (fun j _ => C151 j) (C158 1) (fun j _ _ => C158 j) | (exfalso; (first | omega | (have z0_ := unhid y160; omega)))) (by first | exact hI | exact SDL_k hd5 hM (fun j _ => C144 j) (C157 1) (fun j _ _ => C157 j) (fun j _ _ => C157 j) | (exfalso; (first | omega | (have z0_ := unhid y160; omega)))) (by first | exact hI | exact SDL_k hd6 hM2 (fun j _ => C152 j) (C158 1) (fun j _ _ => C158 j) (fun j _ _ => C158 j) | (exfalso; (first | omega | (have z0_ := unhid y160; omega)))) (by first | exact hI | exact LWL_k hd7 hM (fun j _ => C140 j) (fun j _ => C141 j) (fun j _ => C142 j) (fun j _ _ => C157 j) | (exfalso; (first | omega | (have z0_ := unhid y160; omega)))) (by first | exact hI | exact LWL_k hd8 hM2 (fun j _ => C148 j) (fun j _ => C149 j) (fun j _ => C150 j) (fun j _ _ => C158 j) | (exfalso; (first | omega | (have z0_ := unhid y160; omega)))) (by first | exact hI | exact CHL_k hd9 hM (fun j _ => C145 j) (by (first | omega | (have z0_ := unhid y160; omega))) (fun j _ _ => C157 j) | (exfalso; (first | omega | (have z0_ := unhid y160; omega)))) (by first | exact hI | exact CHL_k hd10 hM2 (fun j _ => C153 j) (by (first | omega | (have z0_ := unhid y160; omega))) (fun j _ _ => C158 j) | (exfalso; (first | omega | (have z0_ := unhid y160; omega)))) (by first | exact hI | exact ANL_k hd11 hM (fun j _ => C154 j) (by (first | omega | (have z0_ := unhid y160; omega))) (by (first | omega | (have z0_ := unhid y160; omega))) (by (first | omega | (have z0_ := unhid y160; omega))) (fun j _ _ => C157 j) | (exfalso; (first | omega | (have z0_ := unhid y160; omega)))) (by first | exact hI | exact ANL_k hd12 hM2 (fun j _ => C155 j) (by (first | omega | (have z0_ := unhid y160; omega))) (by (first | omega | (have z0_ := unhid y160; omega))) (by (first | omega | (have z0_ := unhid y160; omega))) (fun j _ _ => C158 j) | (exfalso; (first | omega | (have z0_ := unhid y160; omega))))
    · skip
      obtain ⟨h99_0, h99_1⟩ := h99
      have M2161 : MW (dt100 81) := MW_frk M274 hF102 (by decide)
      rw [show dt37 80 = dt 80 from funext C94] at h99_1
      have C162 : ∀ j : Nat, dt100 2 j = dt 2 j := fun j => (hF102 2 (by decide) j).trans (C75 j)
      have C163 : ∀ j : Nat, dt100 3 j = dt 3 j := fun j => (hF102 3 (by decide) j).trans (C76 j)
      have C164 : ∀ j : Nat, dt100 4 j = dt 4 j := fun j => (hF102 4 (by decide) j).trans (C77 j)
      have C165 : ∀ j : Nat, dt100 5 j = dt 5 j := fun j => (hF102 5 (by decide) j).trans (C78 j)
      have C166 : ∀ j : Nat, dt100 6 j = dt 6 j := fun j => (hF102 6 (by decide) j).trans (C79 j)
      have C167 : ∀ j : Nat, dt100 8 j = dt 8 j := fun j => (hF102 8 (by decide) j).trans (C80 j)
      have C168 : ∀ j : Nat, dt100 9 j = dt 9 j := fun j => (hF102 9 (by decide) j).trans (C81 j)
      have C169 : ∀ j : Nat, dt100 11 j = dt 11 j := fun j => (hF102 11 (by decide) j).trans (C82 j)
      have C170 : ∀ j : Nat, dt100 19 j = dt 19 j := fun j => (hF102 19 (by decide) j).trans (C83 j)
      have C171 : ∀ j : Nat, dt100 20 j = dt 20 j := fun j => (hF102 20 (by decide) j).trans (C84 j)
      have C172 : ∀ j : Nat, dt100 21 j = dt 21 j := fun j => (hF102 21 (by decide) j).trans (C85 j)
      have C173 : ∀ j : Nat, dt100 22 j = dt 22 j := fun j => (hF102 22 (by decide) j).trans (C86 j)
      have C174 : ∀ j : Nat, dt100 23 j = dt 23 j := fun j => (hF102 23 (by decide) j).trans (C87 j)
      have C175 : ∀ j : Nat, dt100 25 j = dt 25 j := fun j => (hF102 25 (by decide) j).trans (C88 j)
      have C176 : ∀ j : Nat, dt100 26 j = dt 26 j := fun j => (hF102 26 (by decide) j).trans (C89 j)
      have C177 : ∀ j : Nat, dt100 28 j = dt 28 j := fun j => (hF102 28 (by decide) j).trans (C90 j)
      have C178 : ∀ j : Nat, dt100 13 j = dt 13 j := fun j => (hF102 13 (by decide) j).trans (C91 j)
      have C179 : ∀ j : Nat, dt100 30 j = dt 30 j := fun j => (hF102 30 (by decide) j).trans (C92 j)
      have C180 : ∀ j : Nat, dt100 36 j = dt 36 j := fun j => (hF102 36 (by decide) j).trans (C93 j)
      have C181 : ∀ j : Nat, dt100 80 j = dt 80 j := fun j => (hF102 80 (by decide) j).trans (C94 j)
      have C182 : ∀ j : Nat, dt100 81 j = dt 81 j := fun j => (hF102 81 (by decide) j).trans (C95 j)
      have C183 : ∀ j : Nat, dt100 85 j = dt 85 j := fun j => (hF102 85 (by decide) j).trans (C96 j)
      have y184 : (0 ≤ ((xs ((i + 2).toNat)).toInt) ∧ ((xs ((i + 2).toNat)).toInt) ≤ 8) → (if ((xs ((i + 2).toNat)).toInt) = 8 then ((BST (fun k => ((AGC (SDC (dt 9)) (fun i c => dt 13 (6 * i + c)) ((xs ((i + 1).toNat)).toInt) (k : Int) (dt 12 3).toNat : Nat) : Int)) 7 : Nat) : Int) else ODD (fun k => PW9 (AGC (SDC (dt 9)) (fun i c => dt 13 (6 * i + c)) ((xs ((i + 1).toNat)).toInt) (k : Int) (dt 12 3).toNat)) ((xs ((i + 2).toNat)).toInt)) = (if ((xs ((i + 2).toNat)).toInt) = 8 then ((BST (fun k => PW9 (AGC (SAID (dt 80)) (fun i c => dt 80 (5540 + 6 * i + c)) ((xs ((i + 1).toNat)).toInt) (k : Int) (dt 80 3).toNat)) 7 : Nat) : Int) else ODD (fun k => PW9 (AGC (SAID (dt 80)) (fun i c => dt 80 (5540 + 6 * i + c)) ((xs ((i + 1).toNat)).toInt) (k : Int) (dt 80 3).toNat)) ((xs ((i + 2).toNat)).toInt)) := fun h2_ => ODL_v hd11 hd5 (by omega) h2_
      replace y184 := hid y184
      refine go_ifq PM267 (k := 0) (p1 := 1435) (p2 := 1018) (L' := [some (.inr (.inr (some 3000))), some (.inr (.inr (some 0))), some (.inr (.inr (some 79))), some (.inl i)]) (st' := []) (w' := (SH, dt100)) rfl (c_eq (a := (-1)) (b := v_h99) ⟨by decide, by decide⟩ (by first | exact bnd h99r (by decide) (by decide) | exact ⟨by (first | omega | (have z0_ := unhid y184; omega)), by (first | omega | (have z0_ := unhid y184; omega))⟩)) (fun c185 => ?_) (fun c185 => ?_)
      · exfalso; (first | omega | (have z0_ := unhid y184; omega))
      · skip
        replace c185 := hid c185
        exfalso; (first | omega | (have z0_ := unhid y184; have z1_ := unhid c185; omega))
  · skip
    obtain ⟨h36_0, h36_1⟩ := h36
    have M2186 : MW (dt37 81) := MW_frk hM2 hF39 (by decide)
    have C187 : ∀ j : Nat, dt37 2 j = dt 2 j := fun j => (hF39 2 (by decide) j).trans ((fun _ => rfl) j)
    have C188 : ∀ j : Nat, dt37 3 j = dt 3 j := fun j => (hF39 3 (by decide) j).trans ((fun _ => rfl) j)
    have C189 : ∀ j : Nat, dt37 4 j = dt 4 j := fun j => (hF39 4 (by decide) j).trans ((fun _ => rfl) j)
    have C190 : ∀ j : Nat, dt37 5 j = dt 5 j := fun j => (hF39 5 (by decide) j).trans ((fun _ => rfl) j)
    have C191 : ∀ j : Nat, dt37 6 j = dt 6 j := fun j => (hF39 6 (by decide) j).trans ((fun _ => rfl) j)
    have C192 : ∀ j : Nat, dt37 8 j = dt 8 j := fun j => (hF39 8 (by decide) j).trans ((fun _ => rfl) j)
    have C193 : ∀ j : Nat, dt37 9 j = dt 9 j := fun j => (hF39 9 (by decide) j).trans ((fun _ => rfl) j)
    have C194 : ∀ j : Nat, dt37 11 j = dt 11 j := fun j => (hF39 11 (by decide) j).trans ((fun _ => rfl) j)
    have C195 : ∀ j : Nat, dt37 19 j = dt 19 j := fun j => (hF39 19 (by decide) j).trans ((fun _ => rfl) j)
    have C196 : ∀ j : Nat, dt37 20 j = dt 20 j := fun j => (hF39 20 (by decide) j).trans ((fun _ => rfl) j)
    have C197 : ∀ j : Nat, dt37 21 j = dt 21 j := fun j => (hF39 21 (by decide) j).trans ((fun _ => rfl) j)
    have C198 : ∀ j : Nat, dt37 22 j = dt 22 j := fun j => (hF39 22 (by decide) j).trans ((fun _ => rfl) j)
    have C199 : ∀ j : Nat, dt37 23 j = dt 23 j := fun j => (hF39 23 (by decide) j).trans ((fun _ => rfl) j)
    have C200 : ∀ j : Nat, dt37 25 j = dt 25 j := fun j => (hF39 25 (by decide) j).trans ((fun _ => rfl) j)
    have C201 : ∀ j : Nat, dt37 26 j = dt 26 j := fun j => (hF39 26 (by decide) j).trans ((fun _ => rfl) j)
    have C202 : ∀ j : Nat, dt37 28 j = dt 28 j := fun j => (hF39 28 (by decide) j).trans ((fun _ => rfl) j)
    have C203 : ∀ j : Nat, dt37 13 j = dt 13 j := fun j => (hF39 13 (by decide) j).trans ((fun _ => rfl) j)
    have C204 : ∀ j : Nat, dt37 30 j = dt 30 j := fun j => (hF39 30 (by decide) j).trans ((fun _ => rfl) j)
    have C205 : ∀ j : Nat, dt37 36 j = dt 36 j := fun j => (hF39 36 (by decide) j).trans ((fun _ => rfl) j)
    have C206 : ∀ j : Nat, dt37 80 j = dt 80 j := fun j => (hF39 80 (by decide) j).trans ((fun _ => rfl) j)
    have C207 : ∀ j : Nat, dt37 81 j = dt 81 j := fun j => (hF39 81 (by decide) j).trans ((fun _ => rfl) j)
    have C208 : ∀ j : Nat, dt37 85 j = dt 85 j := fun j => (hF39 85 (by decide) j).trans ((fun _ => rfl) j)
    refine go_toq PM267 (k := 5) (pc' := 1006) (L' := [some (.inr (.inr (some 3000))), some (.inr (.inr (some 0))), some (.inr (.inr (some 79))), some (.inl i)]) (st' := [.inl (i + 1), .inr (.inr (some 3000)), .inr (.inr (some 79)), .inl v_h36]) (w' := (SH, dt37)) rfl ?_
    have r209 := i32_R (xs ((i + 1).toNat))
    refine go_smpq PM267 (L' := [some (.inr (.inr (some 3000))), some (.inr (.inr (some 0))), some (.inr (.inr (some 79))), some (.inl i)]) (st' := [.inl ((xs ((i + 1).toNat)).toInt), .inr (.inr (some 79)), .inl v_h36]) (w' := (SH, dt37)) rfl rfl (s_iald (n := L) (f := fun j => (xs j).toInt) (am_scr hLL) ⟨by omega, by omega⟩) ?_
    refine go_toq PM267 (k := 4) (pc' := 1011) (L' := [some (.inr (.inr (some 3000))), some (.inr (.inr (some 0))), some (.inr (.inr (some 79))), some (.inl i)]) (st' := [.inl (i + 2), .inr (.inr (some 3000)), .inl ((xs ((i + 1).toNat)).toInt), .inr (.inr (some 79)), .inl v_h36]) (w' := (SH, dt37)) rfl ?_
    have r210 := i32_R (xs ((i + 2).toNat))
    refine go_smpq PM267 (L' := [some (.inr (.inr (some 3000))), some (.inr (.inr (some 0))), some (.inr (.inr (some 79))), some (.inl i)]) (st' := [.inl ((xs ((i + 2).toNat)).toInt), .inl ((xs ((i + 1).toNat)).toInt), .inr (.inr (some 79)), .inl v_h36]) (w' := (SH, dt37)) rfl rfl (s_iald (n := L) (f := fun j => (xs j).toInt) (am_scr hLL) ⟨by omega, by omega⟩) ?_
    refine go_callq PM267 PM227 (Q' := _) rfl rfl rfl rfl (sp_X6_odds_f L xs sio (d + 31) dt37 hI38 hM41  ((xs ((i + 1).toNat)).toInt) ⟨by omega, by omega⟩ ((xs ((i + 2).toNat)).toInt) ⟨by omega, by omega⟩ ) ?_
    rintro _ _ ⟨dt212, rfl, hI213, hF214, h211⟩
    refine ⟨rfl, ?_⟩
    have hF215 : Fr [0, 1, 2, 3, 4, 5, 6, 7, 8, 9, 10, 11, 12, 13, 14, 15, 16, 17, 18, 19, 20, 21, 22, 23, 24, 25, 26, 27, 28, 29, 30, 31, 32, 33, 34, 35, 36, 37, 38, 39, 40, 41, 42, 43, 44, 45, 46, 47, 48, 49, 50, 51, 52, 53, 54, 55, 56, 57, 58, 59, 60, 61, 62, 63, 64, 65, 66, 67, 68, 69, 70, 71, 72, 73, 74, 75, 76, 77, 78, 79, 80, 81, 82, 83, 84, 85, 86, 87, 88, 89, 90, 91, 92, 93, 94, 95, 96, 97, 98, 99, 100, 101, 102, 103, 104] dt dt212 := Fr_tr hF40 hF214 (by decide)
    have hM216 : MW (dt212 80) := MW_fr hM41 hF214 (by decide)
    have w217 : dt212 1 0 = dt 1 0 := (hF214 1 (by decide) 0).trans w42
    have w218 : dt212 7 3 = dt 7 3 := (hF214 7 (by decide) 3).trans w43
    have w219 : dt212 10 3 = dt 10 3 := (hF214 10 (by decide) 3).trans w44
    have w220 : dt212 12 3 = dt 12 3 := (hF214 12 (by decide) 3).trans w45
    have w221 : dt212 14 3 = dt 14 3 := (hF214 14 (by decide) 3).trans w46
    have w222 : dt212 16 3 = dt 16 3 := (hF214 16 (by decide) 3).trans w47
    have w223 : dt212 18 0 = dt 18 0 := (hF214 18 (by decide) 0).trans w48
    have w224 : dt212 24 3 = dt 24 3 := (hF214 24 (by decide) 3).trans w49
    have w225 : dt212 27 3 = dt 27 3 := (hF214 27 (by decide) 3).trans w50
    have w226 : dt212 29 3 = dt 29 3 := (hF214 29 (by decide) 3).trans w51
    have w227 : dt212 31 3 = dt 31 3 := (hF214 31 (by decide) 3).trans w52
    have w228 : dt212 33 3 = dt 33 3 := (hF214 33 (by decide) 3).trans w53
    have w229 : dt212 0 2 = dt 0 2 := (hF214 0 (by decide) 2).trans w54
    have w230 : dt212 35 1 = dt 35 1 := (hF214 35 (by decide) 1).trans w55
    have w231 : dt212 35 2 = dt 35 2 := (hF214 35 (by decide) 2).trans w56
    have w232 : dt212 35 3 = dt 35 3 := (hF214 35 (by decide) 3).trans w57
    have w233 : dt212 80 0 = dt 80 0 := (hF214 80 (by decide) 0).trans w58
    have w234 : dt212 80 1 = dt 80 1 := (hF214 80 (by decide) 1).trans w59
    have w235 : dt212 80 2 = dt 80 2 := (hF214 80 (by decide) 2).trans w60
    have w236 : dt212 80 3 = dt 80 3 := (hF214 80 (by decide) 3).trans w61
    have w237 : dt212 80 4 = dt 80 4 := (hF214 80 (by decide) 4).trans w62
    have w238 : dt212 80 5 = dt 80 5 := (hF214 80 (by decide) 5).trans w63
    have w239 : dt212 81 0 = dt 81 0 := (hF214 81 (by decide) 0).trans w64
    have w240 : dt212 81 1 = dt 81 1 := (hF214 81 (by decide) 1).trans w65
    have w241 : dt212 81 2 = dt 81 2 := (hF214 81 (by decide) 2).trans w66
    have w242 : dt212 81 3 = dt 81 3 := (hF214 81 (by decide) 3).trans w67
    have w243 : dt212 81 4 = dt 81 4 := (hF214 81 (by decide) 4).trans w68
    have w244 : dt212 81 5 = dt 81 5 := (hF214 81 (by decide) 5).trans w69
    have w245 : dt212 79 2 = dt 79 2 := (hF214 79 (by decide) 2).trans w70
    have w246 : dt212 79 12 = dt 79 12 := (hF214 79 (by decide) 12).trans w71
    have w247 : dt212 79 19 = dt 79 19 := (hF214 79 (by decide) 19).trans w72
    have w248 : dt212 79 21 = dt 79 21 := (hF214 79 (by decide) 21).trans w73
    rcases h211 with ⟨rfl, h211⟩ | ⟨v_h211, rfl, h211r, h211⟩
    · skip
      have M2249 : MW (dt212 81) := MW_frk M2186 hF214 (by decide)
      have C250 : ∀ j : Nat, dt212 2 j = dt 2 j := fun j => (hF214 2 (by decide) j).trans (C187 j)
      have C251 : ∀ j : Nat, dt212 3 j = dt 3 j := fun j => (hF214 3 (by decide) j).trans (C188 j)
      have C252 : ∀ j : Nat, dt212 4 j = dt 4 j := fun j => (hF214 4 (by decide) j).trans (C189 j)
      have C253 : ∀ j : Nat, dt212 5 j = dt 5 j := fun j => (hF214 5 (by decide) j).trans (C190 j)
      have C254 : ∀ j : Nat, dt212 6 j = dt 6 j := fun j => (hF214 6 (by decide) j).trans (C191 j)
      have C255 : ∀ j : Nat, dt212 8 j = dt 8 j := fun j => (hF214 8 (by decide) j).trans (C192 j)
      have C256 : ∀ j : Nat, dt212 9 j = dt 9 j := fun j => (hF214 9 (by decide) j).trans (C193 j)
      have C257 : ∀ j : Nat, dt212 11 j = dt 11 j := fun j => (hF214 11 (by decide) j).trans (C194 j)
      have C258 : ∀ j : Nat, dt212 19 j = dt 19 j := fun j => (hF214 19 (by decide) j).trans (C195 j)
      have C259 : ∀ j : Nat, dt212 20 j = dt 20 j := fun j => (hF214 20 (by decide) j).trans (C196 j)
      have C260 : ∀ j : Nat, dt212 21 j = dt 21 j := fun j => (hF214 21 (by decide) j).trans (C197 j)
      have C261 : ∀ j : Nat, dt212 22 j = dt 22 j := fun j => (hF214 22 (by decide) j).trans (C198 j)
      have C262 : ∀ j : Nat, dt212 23 j = dt 23 j := fun j => (hF214 23 (by decide) j).trans (C199 j)
      have C263 : ∀ j : Nat, dt212 25 j = dt 25 j := fun j => (hF214 25 (by decide) j).trans (C200 j)
      have C264 : ∀ j : Nat, dt212 26 j = dt 26 j := fun j => (hF214 26 (by decide) j).trans (C201 j)
      have C265 : ∀ j : Nat, dt212 28 j = dt 28 j := fun j => (hF214 28 (by decide) j).trans (C202 j)
      have C266 : ∀ j : Nat, dt212 13 j = dt 13 j := fun j => (hF214 13 (by decide) j).trans (C203 j)
      have C267 : ∀ j : Nat, dt212 30 j = dt 30 j := fun j => (hF214 30 (by decide) j).trans (C204 j)
      have C268 : ∀ j : Nat, dt212 36 j = dt 36 j := fun j => (hF214 36 (by decide) j).trans (C205 j)
      have C269 : ∀ j : Nat, dt212 80 j = dt 80 j := fun j => (hF214 80 (by decide) j).trans (C206 j)
      have C270 : ∀ j : Nat, dt212 81 j = dt 81 j := fun j => (hF214 81 (by decide) j).trans (C207 j)
      have C271 : ∀ j : Nat, dt212 85 j = dt 85 j := fun j => (hF214 85 (by decide) j).trans (C208 j)
      have y272 : (0 ≤ ((xs ((i + 2).toNat)).toInt) ∧ ((xs ((i + 2).toNat)).toInt) ≤ 8) → (if ((xs ((i + 2).toNat)).toInt) = 8 then ((BST (fun k => ((AGC (SDC (dt 9)) (fun i c => dt 13 (6 * i + c)) ((xs ((i + 1).toNat)).toInt) (k : Int) (dt 12 3).toNat : Nat) : Int)) 7 : Nat) : Int) else ODD (fun k => PW9 (AGC (SDC (dt 9)) (fun i c => dt 13 (6 * i + c)) ((xs ((i + 1).toNat)).toInt) (k : Int) (dt 12 3).toNat)) ((xs ((i + 2).toNat)).toInt)) = (if ((xs ((i + 2).toNat)).toInt) = 8 then ((BST (fun k => PW9 (AGC (SAID (dt 80)) (fun i c => dt 80 (5540 + 6 * i + c)) ((xs ((i + 1).toNat)).toInt) (k : Int) (dt 80 3).toNat)) 7 : Nat) : Int) else ODD (fun k => PW9 (AGC (SAID (dt 80)) (fun i c => dt 80 (5540 + 6 * i + c)) ((xs ((i + 1).toNat)).toInt) (k : Int) (dt 80 3).toNat)) ((xs ((i + 2).toNat)).toInt)) := fun h2_ => ODL_v hd11 hd5 (by omega) h2_
      replace y272 := hid y272
      refine go_ifq PM267 (k := 0) (p1 := 1435) (p2 := 1018) (L' := [some (.inr (.inr (some 3000))), some (.inr (.inr (some 0))), some (.inr (.inr (some 79))), some (.inl i)]) (st' := []) (w' := (SH, dt212)) rfl (c_eq (a := v_h36) (b := (-1)) (by first | exact bnd h36r (by decide) (by decide) | exact ⟨by (first | omega | (have z0_ := unhid y272; omega)), by (first | omega | (have z0_ := unhid y272; omega))⟩) ⟨by decide, by decide⟩) (fun c273 => ?_) (fun c273 => ?_)
      · exfalso; (first | omega | (have z0_ := unhid y272; omega))
      · skip
        replace c273 := hid c273
        exfalso; (first | omega | (have z0_ := unhid y272; have z1_ := unhid c273; omega))
    · skip
      obtain ⟨h211_0, h211_1⟩ := h211
      have M2274 : MW (dt212 81) := MW_frk M2186 hF214 (by decide)
      rw [show dt37 80 = dt 80 from funext C206] at h211_1
      have C275 : ∀ j : Nat, dt212 2 j = dt 2 j := fun j => (hF214 2 (by decide) j).trans (C187 j)
      have C276 : ∀ j : Nat, dt212 3 j = dt 3 j := fun j => (hF214 3 (by decide) j).trans (C188 j)
      have C277 : ∀ j : Nat, dt212 4 j = dt 4 j := fun j => (hF214 4 (by decide) j).trans (C189 j)
      have C278 : ∀ j : Nat, dt212 5 j = dt 5 j := fun j => (hF214 5 (by decide) j).trans (C190 j)
      have C279 : ∀ j : Nat, dt212 6 j = dt 6 j := fun j => (hF214 6 (by decide) j).trans (C191 j)
      have C280 : ∀ j : Nat, dt212 8 j = dt 8 j := fun j => (hF214 8 (by decide) j).trans (C192 j)
      have C281 : ∀ j : Nat, dt212 9 j = dt 9 j := fun j => (hF214 9 (by decide) j).trans (C193 j)
      have C282 : ∀ j : Nat, dt212 11 j = dt 11 j := fun j => (hF214 11 (by decide) j).trans (C194 j)
      have C283 : ∀ j : Nat, dt212 19 j = dt 19 j := fun j => (hF214 19 (by decide) j).trans (C195 j)
      have C284 : ∀ j : Nat, dt212 20 j = dt 20 j := fun j => (hF214 20 (by decide) j).trans (C196 j)
      have C285 : ∀ j : Nat, dt212 21 j = dt 21 j := fun j => (hF214 21 (by decide) j).trans (C197 j)
      have C286 : ∀ j : Nat, dt212 22 j = dt 22 j := fun j => (hF214 22 (by decide) j).trans (C198 j)
      have C287 : ∀ j : Nat, dt212 23 j = dt 23 j := fun j => (hF214 23 (by decide) j).trans (C199 j)
      have C288 : ∀ j : Nat, dt212 25 j = dt 25 j := fun j => (hF214 25 (by decide) j).trans (C200 j)
      have C289 : ∀ j : Nat, dt212 26 j = dt 26 j := fun j => (hF214 26 (by decide) j).trans (C201 j)
      have C290 : ∀ j : Nat, dt212 28 j = dt 28 j := fun j => (hF214 28 (by decide) j).trans (C202 j)
      have C291 : ∀ j : Nat, dt212 13 j = dt 13 j := fun j => (hF214 13 (by decide) j).trans (C203 j)
      have C292 : ∀ j : Nat, dt212 30 j = dt 30 j := fun j => (hF214 30 (by decide) j).trans (C204 j)
      have C293 : ∀ j : Nat, dt212 36 j = dt 36 j := fun j => (hF214 36 (by decide) j).trans (C205 j)
      have C294 : ∀ j : Nat, dt212 80 j = dt 80 j := fun j => (hF214 80 (by decide) j).trans (C206 j)
      have C295 : ∀ j : Nat, dt212 81 j = dt 81 j := fun j => (hF214 81 (by decide) j).trans (C207 j)
      have C296 : ∀ j : Nat, dt212 85 j = dt 85 j := fun j => (hF214 85 (by decide) j).trans (C208 j)
      have y297 : (0 ≤ ((xs ((i + 2).toNat)).toInt) ∧ ((xs ((i + 2).toNat)).toInt) ≤ 8) → (if ((xs ((i + 2).toNat)).toInt) = 8 then ((BST (fun k => ((AGC (SDC (dt 9)) (fun i c => dt 13 (6 * i + c)) ((xs ((i + 1).toNat)).toInt) (k : Int) (dt 12 3).toNat : Nat) : Int)) 7 : Nat) : Int) else ODD (fun k => PW9 (AGC (SDC (dt 9)) (fun i c => dt 13 (6 * i + c)) ((xs ((i + 1).toNat)).toInt) (k : Int) (dt 12 3).toNat)) ((xs ((i + 2).toNat)).toInt)) = (if ((xs ((i + 2).toNat)).toInt) = 8 then ((BST (fun k => PW9 (AGC (SAID (dt 80)) (fun i c => dt 80 (5540 + 6 * i + c)) ((xs ((i + 1).toNat)).toInt) (k : Int) (dt 80 3).toNat)) 7 : Nat) : Int) else ODD (fun k => PW9 (AGC (SAID (dt 80)) (fun i c => dt 80 (5540 + 6 * i + c)) ((xs ((i + 1).toNat)).toInt) (k : Int) (dt 80 3).toNat)) ((xs ((i + 2).toNat)).toInt)) := fun h2_ => ODL_v hd11 hd5 (by omega) h2_
      replace y297 := hid y297
      refine go_ifq PM267 (k := 0) (p1 := 1435) (p2 := 1018) (L' := [some (.inr (.inr (some 3000))), some (.inr (.inr (some 0))), some (.inr (.inr (some 79))), some (.inl i)]) (st' := []) (w' := (SH, dt212)) rfl (c_eq (a := v_h36) (b := v_h211) (by first | exact bnd h36r (by decide) (by decide) | exact ⟨by (first | omega | (have z0_ := unhid y297; omega)), by (first | omega | (have z0_ := unhid y297; omega))⟩) (by first | exact bnd h211r (by decide) (by decide) | exact ⟨by (first | omega | (have z0_ := unhid y297; omega)), by (first | omega | (have z0_ := unhid y297; omega))⟩)) (fun c298 => ?_) (fun c298 => ?_)
      · skip
        exact K dt212 hI213 hM216 M2274 (w217.trans (hk0.trans w233.symm)) (w218.trans (hk1.trans w234.symm)) (w219.trans (hk2.trans w235.symm)) (w220.trans (hk3.trans w236.symm)) (w221.trans (hk4.trans w237.symm)) (w222.trans (hk5.trans w238.symm)) (w223.trans (hk6.trans w239.symm)) (w224.trans (hk7.trans w240.symm)) (w225.trans (hk8.trans w241.symm)) (w226.trans (hk9.trans w242.symm)) (w227.trans (hk10.trans w243.symm)) (w228.trans (hk11.trans w244.symm)) (w229.trans (hk12.trans w245.symm)) (w230.trans (hk13.trans w246.symm)) (w231.trans (hk14.trans w247.symm)) (w232.trans (hk15.trans w248.symm)) (by first | exact hI | exact TPL_k hd0 C293 C296 (by (first | omega | (have z0_ := unhid y297; omega))) | (exfalso; (first | omega | (have z0_ := unhid y297; omega)))) (by first | exact hI | exact SCL_k hd1 hM (fun j _ => C275 j) (fun j _ => C276 j) (fun j _ _ => C294 j) | (exfalso; (first | omega | (have z0_ := unhid y297; omega)))) (by first | exact hI | exact SCL_k hd2 hM2 (fun j _ => C283 j) (fun j _ => C284 j) (fun j _ _ => C295 j) | (exfalso; (first | omega | (have z0_ := unhid y297; omega)))) (by first | exact hI | exact QRL_k hd3 hM (fun j _ => C280 j) (C294 1) (fun j _ _ => C294 j) | (exfalso; (first | omega | (have z0_ := unhid y297; omega)))) (by first | exact hI | exact QRL_k hd4 hM2 (fun j _ => C288 j) (C295 1) (fun j _ _ => C295 j) | (exfalso; (first | omega | (have z0_ := unhid y297; omega)))) (by first | exact hI | exact SDL_k hd5 hM (fun j _ => C281 j) (C294 1) (fun j _ _ => C294 j) (fun j _ _ => C294 j) | (exfalso; (first | omega | (have z0_ := unhid y297; omega)))) (by first | exact hI | exact SDL_k hd6 hM2 (fun j _ => C289 j) (C295 1) (fun j _ _ => C295 j) (fun j _ _ => C295 j) | (exfalso; (first | omega | (have z0_ := unhid y297; omega)))) (by first | exact hI | exact LWL_k hd7 hM (fun j _ => C277 j) (fun j _ => C278 j) (fun j _ => C279 j) (fun j _ _ => C294 j) | (exfalso; (first | omega | (have z0_ := unhid y297; omega)))) (by first | exact hI | exact LWL_k hd8 hM2 (fun j _ => C285 j) (fun j _ => C286 j) (fun j _ => C287 j) (fun j _ _ => C295 j) | (exfalso; (first | omega | (have z0_ := unhid y297; omega)))) (by first | exact hI | exact CHL_k hd9 hM (fun j _ => C282 j) (by (first | omega | (have z0_ := unhid y297; omega))) (fun j _ _ => C294 j) | (exfalso; (first | omega | (have z0_ := unhid y297; omega)))) (by first | exact hI | exact CHL_k hd10 hM2 (fun j _ => C290 j) (by (first | omega | (have z0_ := unhid y297; omega))) (fun j _ _ => C295 j) | (exfalso; (first | omega | (have z0_ := unhid y297; omega)))) (by first | exact hI | exact ANL_k hd11 hM (fun j _ => C291 j) (by (first | omega | (have z0_ := unhid y297; omega))) (by (first | omega | (have z0_ := unhid y297; omega))) (by (first | omega | (have z0_ := unhid y297; omega))) (fun j _ _ => C294 j) | (exfalso; (first | omega | (have z0_ := unhid y297; omega)))) (by first | exact hI | exact ANL_k hd12 hM2 (fun j _ => C292 j) (by (first | omega | (have z0_ := unhid y297; omega))) (by (first | omega | (have z0_ := unhid y297; omega))) (by (first | omega | (have z0_ := unhid y297; omega))) (fun j _ _ => C295 j) | (exfalso; (first | omega | (have z0_ := unhid y297; omega))))
      · skip
        replace c298 := hid c298
        exfalso; (first | omega | (have z0_ := unhid y297; have z1_ := unhid c298; omega))
set_option maxRecDepth 20000 in
set_option maxHeartbeats 8000000 in
theorem sp_case20 (L : Nat) (xs : Nat → Int32) (sio : Option Nat) (d : Nat) (Q : Option AV → am_W → Prop) (hLL : L ≤ 3072) (i : Int) (hi : 0 ≤ i ∧ i ≤ 3066) (hil : i ≤ (L : Int) - 6) (dt : Nat → Nat → Int) (hI : InvC dt) (hM : MW (dt 80)) (hM2 : MW (dt 81)) (hk0 : dt 1 0 = dt 80 0) (hk1 : dt 7 3 = dt 80 1) (hk2 : dt 10 3 = dt 80 2) (hk3 : dt 12 3 = dt 80 3) (hk4 : dt 14 3 = dt 80 4) (hk5 : dt 16 3 = dt 80 5) (hk6 : dt 18 0 = dt 81 0) (hk7 : dt 24 3 = dt 81 1) (hk8 : dt 27 3 = dt 81 2) (hk9 : dt 29 3 = dt 81 3) (hk10 : dt 31 3 = dt 81 4) (hk11 : dt 33 3 = dt 81 5) (hk12 : dt 0 2 = dt 79 2) (hk13 : dt 35 1 = dt 79 12) (hk14 : dt 35 2 = dt 79 19) (hk15 : dt 35 3 = dt 79 21) (hd0 : TPL (dt 36) (dt 85) (dt 35 1)) (hd1 : SCL (dt 2) (dt 3) (dt 80)) (hd2 : SCL (dt 19) (dt 20) (dt 81)) (hd3 : QRL (dt 8) (dt 80)) (hd4 : QRL (dt 25) (dt 81)) (hd5 : SDL (dt 9) (dt 80)) (hd6 : SDL (dt 26) (dt 81)) (hd7 : LWL (dt 4) (dt 5) (dt 6) (dt 80)) (hd8 : LWL (dt 21) (dt 22) (dt 23) (dt 81)) (hd9 : CHL (dt 11) (dt 80)) (hd10 : CHL (dt 28) (dt 81)) (hd11 : ANL (dt 13) (dt 80)) (hd12 : ANL (dt 30) (dt 81)) (K : ∀ (dt : Nat → Nat → Int) (hI : InvC dt) (hM : MW (dt 80)) (hM2 : MW (dt 81)) (hk0 : dt 1 0 = dt 80 0) (hk1 : dt 7 3 = dt 80 1) (hk2 : dt 10 3 = dt 80 2) (hk3 : dt 12 3 = dt 80 3) (hk4 : dt 14 3 = dt 80 4) (hk5 : dt 16 3 = dt 80 5) (hk6 : dt 18 0 = dt 81 0) (hk7 : dt 24 3 = dt 81 1) (hk8 : dt 27 3 = dt 81 2) (hk9 : dt 29 3 = dt 81 3) (hk10 : dt 31 3 = dt 81 4) (hk11 : dt 33 3 = dt 81 5) (hk12 : dt 0 2 = dt 79 2) (hk13 : dt 35 1 = dt 79 12) (hk14 : dt 35 2 = dt 79 19) (hk15 : dt 35 3 = dt 79 21) (hd0 : TPL (dt 36) (dt 85) (dt 35 1)) (hd1 : SCL (dt 2) (dt 3) (dt 80)) (hd2 : SCL (dt 19) (dt 20) (dt 81)) (hd3 : QRL (dt 8) (dt 80)) (hd4 : QRL (dt 25) (dt 81)) (hd5 : SDL (dt 9) (dt 80)) (hd6 : SDL (dt 26) (dt 81)) (hd7 : LWL (dt 4) (dt 5) (dt 6) (dt 80)) (hd8 : LWL (dt 21) (dt 22) (dt 23) (dt 81)) (hd9 : CHL (dt 11) (dt 80)) (hd10 : CHL (dt 28) (dt 81)) (hd11 : ANL (dt 13) (dt 80)) (hd12 : ANL (dt 30) (dt 81)), GO (am_XX L xs sio) (d + 39) 267 1435 [some (.inr (.inr (some 3000))), some (.inr (.inr (some 0))), some (.inr (.inr (some 79))), some (.inl i)] [] (SH, dt) Q) : GO (am_XX L xs sio) (d + 39) 267 1020 [some (.inr (.inr (some 3000))), some (.inr (.inr (some 0))), some (.inr (.inr (some 79))), some (.inl i)] [] (SH, dt) Q := by
  have hF : Fr [0, 1, 2, 3, 4, 5, 6, 7, 8, 9, 10, 11, 12, 13, 14, 15, 16, 17, 18, 19, 20, 21, 22, 23, 24, 25, 26, 27, 28, 29, 30, 31, 32, 33, 34, 35, 36, 37, 38, 39, 40, 41, 42, 43, 44, 45, 46, 47, 48, 49, 50, 51, 52, 53, 54, 55, 56, 57, 58, 59, 60, 61, 62, 63, 64, 65, 66, 67, 68, 69, 70, 71, 72, 73, 74, 75, 76, 77, 78, 79, 80, 81, 82, 83, 84, 85, 86, 87, 88, 89, 90, 91, 92, 93, 94, 95, 96, 97, 98, 99, 100, 101, 102, 103, 104] dt dt := Fr_refl
  have hqo := QOC_R hd3 hM hk1
  have hb1_ := hM.1.1
  have hb2_ := hM.1.2.1
  have hb3_ := hM.1.2.2.1
  have halk : ALK dt (dt 80) := ⟨hd7, hd3, hd5, hd9, hk1, hk2⟩
  have hav_ : ∀ i : Nat, (i : Int) < dt 12 3 → 0 ≤ dt 13 (6 * i + 1) ∧ dt 13 (6 * i + 1) < dt 7 3 := fun i hi => by have z := hd11 i (by omega); have y := z.2.2 1 (by decide); have w := z.2.1; omega
  refine go_toq PM267 (k := 5) (pc' := 1025) (L' := [some (.inr (.inr (some 3000))), some (.inr (.inr (some 0))), some (.inr (.inr (some 79))), some (.inl i)]) (st' := [.inl (i + 1), .inr (.inr (some 3000)), .inr (.inr (some 0))]) (w' := (SH, dt)) rfl ?_
  have r1 := i32_R (xs ((i + 1).toNat))
  refine go_smpq PM267 (L' := [some (.inr (.inr (some 3000))), some (.inr (.inr (some 0))), some (.inr (.inr (some 79))), some (.inl i)]) (st' := [.inl ((xs ((i + 1).toNat)).toInt), .inr (.inr (some 0))]) (w' := (SH, dt)) rfl rfl (s_iald (n := L) (f := fun j => (xs j).toInt) (am_scr hLL) ⟨by omega, by omega⟩) ?_
  refine go_toq PM267 (k := 4) (pc' := 1030) (L' := [some (.inr (.inr (some 3000))), some (.inr (.inr (some 0))), some (.inr (.inr (some 79))), some (.inl i)]) (st' := [.inl (i + 2), .inr (.inr (some 3000)), .inl ((xs ((i + 1).toNat)).toInt), .inr (.inr (some 0))]) (w' := (SH, dt)) rfl ?_
  have r2 := i32_R (xs ((i + 2).toNat))
  refine go_smpq PM267 (L' := [some (.inr (.inr (some 3000))), some (.inr (.inr (some 0))), some (.inr (.inr (some 79))), some (.inl i)]) (st' := [.inl ((xs ((i + 2).toNat)).toInt), .inl ((xs ((i + 1).toNat)).toInt), .inr (.inr (some 0))]) (w' := (SH, dt)) rfl rfl (s_iald (n := L) (f := fun j => (xs j).toInt) (am_scr hLL) ⟨by omega, by omega⟩) ?_
  refine go_callq PM267 PM87 (Q' := _) rfl rfl rfl rfl (sp_X5_need L xs sio (d + 35) dt hI  ((xs ((i + 1).toNat)).toInt) ⟨by omega, by omega⟩ ((xs ((i + 2).toNat)).toInt) ⟨by omega, by omega⟩ ) ?_
  rintro _ _ ⟨dt4, rfl, hI5, hF6, h3⟩
  refine ⟨rfl, ?_⟩
  have hF7 : Fr [0, 1, 2, 3, 4, 5, 6, 7, 8, 9, 10, 11, 12, 13, 14, 15, 16, 17, 18, 19, 20, 21, 22, 23, 24, 25, 26, 27, 28, 29, 30, 31, 32, 33, 34, 35, 36, 37, 38, 39, 40, 41, 42, 43, 44, 45, 46, 47, 48, 49, 50, 51, 52, 53, 54, 55, 56, 57, 58, 59, 60, 61, 62, 63, 64, 65, 66, 67, 68, 69, 70, 71, 72, 73, 74, 75, 76, 77, 78, 79, 80, 81, 82, 83, 84, 85, 86, 87, 88, 89, 90, 91, 92, 93, 94, 95, 96, 97, 98, 99, 100, 101, 102, 103, 104] dt dt4 := Fr_tr hF hF6 (by decide)
  have hM8 : MW (dt4 80) := MW_fr hM hF6 (by decide)
  have w9 : dt4 1 0 = dt 1 0 := hF6 1 (by decide) 0
  have w10 : dt4 7 3 = dt 7 3 := hF6 7 (by decide) 3
  have w11 : dt4 10 3 = dt 10 3 := hF6 10 (by decide) 3
  have w12 : dt4 12 3 = dt 12 3 := hF6 12 (by decide) 3
  have w13 : dt4 14 3 = dt 14 3 := hF6 14 (by decide) 3
  have w14 : dt4 16 3 = dt 16 3 := hF6 16 (by decide) 3
  have w15 : dt4 18 0 = dt 18 0 := hF6 18 (by decide) 0
  have w16 : dt4 24 3 = dt 24 3 := hF6 24 (by decide) 3
  have w17 : dt4 27 3 = dt 27 3 := hF6 27 (by decide) 3
  have w18 : dt4 29 3 = dt 29 3 := hF6 29 (by decide) 3
  have w19 : dt4 31 3 = dt 31 3 := hF6 31 (by decide) 3
  have w20 : dt4 33 3 = dt 33 3 := hF6 33 (by decide) 3
  have w21 : dt4 0 2 = dt 0 2 := hF6 0 (by decide) 2
  have w22 : dt4 35 1 = dt 35 1 := hF6 35 (by decide) 1
  have w23 : dt4 35 2 = dt 35 2 := hF6 35 (by decide) 2
  have w24 : dt4 35 3 = dt 35 3 := hF6 35 (by decide) 3
  have w25 : dt4 80 0 = dt 80 0 := hF6 80 (by decide) 0
  have w26 : dt4 80 1 = dt 80 1 := hF6 80 (by decide) 1
  have w27 : dt4 80 2 = dt 80 2 := hF6 80 (by decide) 2
  have w28 : dt4 80 3 = dt 80 3 := hF6 80 (by decide) 3
  have w29 : dt4 80 4 = dt 80 4 := hF6 80 (by decide) 4
  have w30 : dt4 80 5 = dt 80 5 := hF6 80 (by decide) 5
  have w31 : dt4 81 0 = dt 81 0 := hF6 81 (by decide) 0
  have w32 : dt4 81 1 = dt 81 1 := hF6 81 (by decide) 1
  have w33 : dt4 81 2 = dt 81 2 := hF6 81 (by decide) 2
  have w34 : dt4 81 3 = dt 81 3 := hF6 81 (by decide) 3
  have w35 : dt4 81 4 = dt 81 4 := hF6 81 (by decide) 4
  have w36 : dt4 81 5 = dt 81 5 := hF6 81 (by decide) 5
  have w37 : dt4 79 2 = dt 79 2 := hF6 79 (by decide) 2
  have w38 : dt4 79 12 = dt 79 12 := hF6 79 (by decide) 12
  have w39 : dt4 79 19 = dt 79 19 := hF6 79 (by decide) 19
  have w40 : dt4 79 21 = dt 79 21 := hF6 79 (by decide) 21
  rcases h3 with ⟨v_h3, rfl, h3r, h3⟩
  have M241 : MW (dt4 81) := MW_frk hM2 hF6 (by decide)
  have C42 : ∀ j : Nat, dt4 2 j = dt 2 j := fun j => (hF6 2 (by decide) j).trans ((fun _ => rfl) j)
  have C43 : ∀ j : Nat, dt4 3 j = dt 3 j := fun j => (hF6 3 (by decide) j).trans ((fun _ => rfl) j)
  have C44 : ∀ j : Nat, dt4 4 j = dt 4 j := fun j => (hF6 4 (by decide) j).trans ((fun _ => rfl) j)
  have C45 : ∀ j : Nat, dt4 5 j = dt 5 j := fun j => (hF6 5 (by decide) j).trans ((fun _ => rfl) j)
  have C46 : ∀ j : Nat, dt4 6 j = dt 6 j := fun j => (hF6 6 (by decide) j).trans ((fun _ => rfl) j)
  have C47 : ∀ j : Nat, dt4 8 j = dt 8 j := fun j => (hF6 8 (by decide) j).trans ((fun _ => rfl) j)
  have C48 : ∀ j : Nat, dt4 9 j = dt 9 j := fun j => (hF6 9 (by decide) j).trans ((fun _ => rfl) j)
  have C49 : ∀ j : Nat, dt4 11 j = dt 11 j := fun j => (hF6 11 (by decide) j).trans ((fun _ => rfl) j)
  have C50 : ∀ j : Nat, dt4 19 j = dt 19 j := fun j => (hF6 19 (by decide) j).trans ((fun _ => rfl) j)
  have C51 : ∀ j : Nat, dt4 20 j = dt 20 j := fun j => (hF6 20 (by decide) j).trans ((fun _ => rfl) j)
  have C52 : ∀ j : Nat, dt4 21 j = dt 21 j := fun j => (hF6 21 (by decide) j).trans ((fun _ => rfl) j)
  have C53 : ∀ j : Nat, dt4 22 j = dt 22 j := fun j => (hF6 22 (by decide) j).trans ((fun _ => rfl) j)
  have C54 : ∀ j : Nat, dt4 23 j = dt 23 j := fun j => (hF6 23 (by decide) j).trans ((fun _ => rfl) j)
  have C55 : ∀ j : Nat, dt4 25 j = dt 25 j := fun j => (hF6 25 (by decide) j).trans ((fun _ => rfl) j)
  have C56 : ∀ j : Nat, dt4 26 j = dt 26 j := fun j => (hF6 26 (by decide) j).trans ((fun _ => rfl) j)
  have C57 : ∀ j : Nat, dt4 28 j = dt 28 j := fun j => (hF6 28 (by decide) j).trans ((fun _ => rfl) j)
  have C58 : ∀ j : Nat, dt4 13 j = dt 13 j := fun j => (hF6 13 (by decide) j).trans ((fun _ => rfl) j)
  have C59 : ∀ j : Nat, dt4 30 j = dt 30 j := fun j => (hF6 30 (by decide) j).trans ((fun _ => rfl) j)
  have C60 : ∀ j : Nat, dt4 36 j = dt 36 j := fun j => (hF6 36 (by decide) j).trans ((fun _ => rfl) j)
  have C61 : ∀ j : Nat, dt4 80 j = dt 80 j := fun j => (hF6 80 (by decide) j).trans ((fun _ => rfl) j)
  have C62 : ∀ j : Nat, dt4 81 j = dt 81 j := fun j => (hF6 81 (by decide) j).trans ((fun _ => rfl) j)
  have C63 : ∀ j : Nat, dt4 85 j = dt 85 j := fun j => (hF6 85 (by decide) j).trans ((fun _ => rfl) j)
  refine go_toq PM267 (k := 6) (pc' := 1040) (L' := [some (.inr (.inr (some 3000))), some (.inr (.inr (some 0))), some (.inr (.inr (some 79))), some (.inl i)]) (st' := [.inl (i + 1), .inr (.inr (some 3000)), .inr (.inr (some 79))]) (w' := (SH, dt4)) rfl ?_
  have r64 := i32_R (xs ((i + 1).toNat))
  refine go_smpq PM267 (L' := [some (.inr (.inr (some 3000))), some (.inr (.inr (some 0))), some (.inr (.inr (some 79))), some (.inl i)]) (st' := [.inl ((xs ((i + 1).toNat)).toInt), .inr (.inr (some 79))]) (w' := (SH, dt4)) rfl rfl (s_iald (n := L) (f := fun j => (xs j).toInt) (am_scr hLL) ⟨by omega, by omega⟩) ?_
  refine go_toq PM267 (k := 4) (pc' := 1045) (L' := [some (.inr (.inr (some 3000))), some (.inr (.inr (some 0))), some (.inr (.inr (some 79))), some (.inl i)]) (st' := [.inl (i + 2), .inr (.inr (some 3000)), .inl ((xs ((i + 1).toNat)).toInt), .inr (.inr (some 79))]) (w' := (SH, dt4)) rfl ?_
  have r65 := i32_R (xs ((i + 2).toNat))
  refine go_smpq PM267 (L' := [some (.inr (.inr (some 3000))), some (.inr (.inr (some 0))), some (.inr (.inr (some 79))), some (.inl i)]) (st' := [.inl ((xs ((i + 2).toNat)).toInt), .inl ((xs ((i + 1).toNat)).toInt), .inr (.inr (some 79))]) (w' := (SH, dt4)) rfl rfl (s_iald (n := L) (f := fun j => (xs j).toInt) (am_scr hLL) ⟨by omega, by omega⟩) ?_
  refine go_callq PM267 PM228 (Q' := _) rfl rfl rfl rfl (sp_X6_need L xs sio (d + 33) dt4 hI5 hM8  ((xs ((i + 1).toNat)).toInt) ⟨by omega, by omega⟩ ((xs ((i + 2).toNat)).toInt) ⟨by omega, by omega⟩ ) ?_
  rintro _ _ ⟨dt67, rfl, hI68, hF69, h66⟩
  refine ⟨rfl, ?_⟩
  have hF70 : Fr [0, 1, 2, 3, 4, 5, 6, 7, 8, 9, 10, 11, 12, 13, 14, 15, 16, 17, 18, 19, 20, 21, 22, 23, 24, 25, 26, 27, 28, 29, 30, 31, 32, 33, 34, 35, 36, 37, 38, 39, 40, 41, 42, 43, 44, 45, 46, 47, 48, 49, 50, 51, 52, 53, 54, 55, 56, 57, 58, 59, 60, 61, 62, 63, 64, 65, 66, 67, 68, 69, 70, 71, 72, 73, 74, 75, 76, 77, 78, 79, 80, 81, 82, 83, 84, 85, 86, 87, 88, 89, 90, 91, 92, 93, 94, 95, 96, 97, 98, 99, 100, 101, 102, 103, 104] dt dt67 := Fr_tr hF7 hF69 (by decide)
  have hM71 : MW (dt67 80) := MW_fr hM8 hF69 (by decide)
  have w72 : dt67 1 0 = dt 1 0 := (hF69 1 (by decide) 0).trans w9
  have w73 : dt67 7 3 = dt 7 3 := (hF69 7 (by decide) 3).trans w10
  have w74 : dt67 10 3 = dt 10 3 := (hF69 10 (by decide) 3).trans w11
  have w75 : dt67 12 3 = dt 12 3 := (hF69 12 (by decide) 3).trans w12
  have w76 : dt67 14 3 = dt 14 3 := (hF69 14 (by decide) 3).trans w13
  have w77 : dt67 16 3 = dt 16 3 := (hF69 16 (by decide) 3).trans w14
  have w78 : dt67 18 0 = dt 18 0 := (hF69 18 (by decide) 0).trans w15
  have w79 : dt67 24 3 = dt 24 3 := (hF69 24 (by decide) 3).trans w16
  have w80 : dt67 27 3 = dt 27 3 := (hF69 27 (by decide) 3).trans w17
  have w81 : dt67 29 3 = dt 29 3 := (hF69 29 (by decide) 3).trans w18
  have w82 : dt67 31 3 = dt 31 3 := (hF69 31 (by decide) 3).trans w19
  have w83 : dt67 33 3 = dt 33 3 := (hF69 33 (by decide) 3).trans w20
  have w84 : dt67 0 2 = dt 0 2 := (hF69 0 (by decide) 2).trans w21
  have w85 : dt67 35 1 = dt 35 1 := (hF69 35 (by decide) 1).trans w22
  have w86 : dt67 35 2 = dt 35 2 := (hF69 35 (by decide) 2).trans w23
  have w87 : dt67 35 3 = dt 35 3 := (hF69 35 (by decide) 3).trans w24
  have w88 : dt67 80 0 = dt 80 0 := (hF69 80 (by decide) 0).trans w25
  have w89 : dt67 80 1 = dt 80 1 := (hF69 80 (by decide) 1).trans w26
  have w90 : dt67 80 2 = dt 80 2 := (hF69 80 (by decide) 2).trans w27
  have w91 : dt67 80 3 = dt 80 3 := (hF69 80 (by decide) 3).trans w28
  have w92 : dt67 80 4 = dt 80 4 := (hF69 80 (by decide) 4).trans w29
  have w93 : dt67 80 5 = dt 80 5 := (hF69 80 (by decide) 5).trans w30
  have w94 : dt67 81 0 = dt 81 0 := (hF69 81 (by decide) 0).trans w31
  have w95 : dt67 81 1 = dt 81 1 := (hF69 81 (by decide) 1).trans w32
  have w96 : dt67 81 2 = dt 81 2 := (hF69 81 (by decide) 2).trans w33
  have w97 : dt67 81 3 = dt 81 3 := (hF69 81 (by decide) 3).trans w34
  have w98 : dt67 81 4 = dt 81 4 := (hF69 81 (by decide) 4).trans w35
  have w99 : dt67 81 5 = dt 81 5 := (hF69 81 (by decide) 5).trans w36
  have w100 : dt67 79 2 = dt 79 2 := (hF69 79 (by decide) 2).trans w37
  have w101 : dt67 79 12 = dt 79 12 := (hF69 79 (by decide) 12).trans w38
  have w102 : dt67 79 19 = dt 79 19 := (hF69 79 (by decide) 19).trans w39
  have w103 : dt67 79 21 = dt 79 21 := (hF69 79 (by decide) 21).trans w40
  rcases h66 with ⟨v_h66, rfl, h66r, h66⟩
  have M2104 : MW (dt67 81) := MW_frk M241 hF69 (by decide)
  have C105 : ∀ j : Nat, dt67 2 j = dt 2 j := fun j => (hF69 2 (by decide) j).trans (C42 j)
  have C106 : ∀ j : Nat, dt67 3 j = dt 3 j := fun j => (hF69 3 (by decide) j).trans (C43 j)
  have C107 : ∀ j : Nat, dt67 4 j = dt 4 j := fun j => (hF69 4 (by decide) j).trans (C44 j)
  have C108 : ∀ j : Nat, dt67 5 j = dt 5 j := fun j => (hF69 5 (by decide) j).trans (C45 j)
  have C109 : ∀ j : Nat, dt67 6 j = dt 6 j := fun j => (hF69 6 (by decide) j).trans (C46 j)
  have C110 : ∀ j : Nat, dt67 8 j = dt 8 j := fun j => (hF69 8 (by decide) j).trans (C47 j)
  have C111 : ∀ j : Nat, dt67 9 j = dt 9 j := fun j => (hF69 9 (by decide) j).trans (C48 j)
  have C112 : ∀ j : Nat, dt67 11 j = dt 11 j := fun j => (hF69 11 (by decide) j).trans (C49 j)
  have C113 : ∀ j : Nat, dt67 19 j = dt 19 j := fun j => (hF69 19 (by decide) j).trans (C50 j)
  have C114 : ∀ j : Nat, dt67 20 j = dt 20 j := fun j => (hF69 20 (by decide) j).trans (C51 j)
  have C115 : ∀ j : Nat, dt67 21 j = dt 21 j := fun j => (hF69 21 (by decide) j).trans (C52 j)
  have C116 : ∀ j : Nat, dt67 22 j = dt 22 j := fun j => (hF69 22 (by decide) j).trans (C53 j)
  have C117 : ∀ j : Nat, dt67 23 j = dt 23 j := fun j => (hF69 23 (by decide) j).trans (C54 j)
  have C118 : ∀ j : Nat, dt67 25 j = dt 25 j := fun j => (hF69 25 (by decide) j).trans (C55 j)
  have C119 : ∀ j : Nat, dt67 26 j = dt 26 j := fun j => (hF69 26 (by decide) j).trans (C56 j)
  have C120 : ∀ j : Nat, dt67 28 j = dt 28 j := fun j => (hF69 28 (by decide) j).trans (C57 j)
  have C121 : ∀ j : Nat, dt67 13 j = dt 13 j := fun j => (hF69 13 (by decide) j).trans (C58 j)
  have C122 : ∀ j : Nat, dt67 30 j = dt 30 j := fun j => (hF69 30 (by decide) j).trans (C59 j)
  have C123 : ∀ j : Nat, dt67 36 j = dt 36 j := fun j => (hF69 36 (by decide) j).trans (C60 j)
  have C124 : ∀ j : Nat, dt67 80 j = dt 80 j := fun j => (hF69 80 (by decide) j).trans (C61 j)
  have C125 : ∀ j : Nat, dt67 81 j = dt 81 j := fun j => (hF69 81 (by decide) j).trans (C62 j)
  have C126 : ∀ j : Nat, dt67 85 j = dt 85 j := fun j => (hF69 85 (by decide) j).trans (C63 j)
  refine go_toq PM267 (k := 2) (pc' := 1435) (L' := [some (.inr (.inr (some 3000))), some (.inr (.inr (some 0))), some (.inr (.inr (some 79))), some (.inl i)]) (st' := []) (w' := (SH, dt67)) rfl ?_
  exact K dt67 hI68 hM71 M2104 (w72.trans (hk0.trans w88.symm)) (w73.trans (hk1.trans w89.symm)) (w74.trans (hk2.trans w90.symm)) (w75.trans (hk3.trans w91.symm)) (w76.trans (hk4.trans w92.symm)) (w77.trans (hk5.trans w93.symm)) (w78.trans (hk6.trans w94.symm)) (w79.trans (hk7.trans w95.symm)) (w80.trans (hk8.trans w96.symm)) (w81.trans (hk9.trans w97.symm)) (w82.trans (hk10.trans w98.symm)) (w83.trans (hk11.trans w99.symm)) (w84.trans (hk12.trans w100.symm)) (w85.trans (hk13.trans w101.symm)) (w86.trans (hk14.trans w102.symm)) (w87.trans (hk15.trans w103.symm)) (by first | exact hI | exact TPL_k hd0 C123 C126 (by omega) | (exfalso; omega)) (by first | exact hI | exact SCL_k hd1 hM (fun j _ => C105 j) (fun j _ => C106 j) (fun j _ _ => C124 j) | (exfalso; omega)) (by first | exact hI | exact SCL_k hd2 hM2 (fun j _ => C113 j) (fun j _ => C114 j) (fun j _ _ => C125 j) | (exfalso; omega)) (by first | exact hI | exact QRL_k hd3 hM (fun j _ => C110 j) (C124 1) (fun j _ _ => C124 j) | (exfalso; omega)) (by first | exact hI | exact QRL_k hd4 hM2 (fun j _ => C118 j) (C125 1) (fun j _ _ => C125 j) | (exfalso; omega)) (by first | exact hI | exact SDL_k hd5 hM (fun j _ => C111 j) (C124 1) (fun j _ _ => C124 j) (fun j _ _ => C124 j) | (exfalso; omega)) (by first | exact hI | exact SDL_k hd6 hM2 (fun j _ => C119 j) (C125 1) (fun j _ _ => C125 j) (fun j _ _ => C125 j) | (exfalso; omega)) (by first | exact hI | exact LWL_k hd7 hM (fun j _ => C107 j) (fun j _ => C108 j) (fun j _ => C109 j) (fun j _ _ => C124 j) | (exfalso; omega)) (by first | exact hI | exact LWL_k hd8 hM2 (fun j _ => C115 j) (fun j _ => C116 j) (fun j _ => C117 j) (fun j _ _ => C125 j) | (exfalso; omega)) (by first | exact hI | exact CHL_k hd9 hM (fun j _ => C112 j) (by omega) (fun j _ _ => C124 j) | (exfalso; omega)) (by first | exact hI | exact CHL_k hd10 hM2 (fun j _ => C120 j) (by omega) (fun j _ _ => C125 j) | (exfalso; omega)) (by first | exact hI | exact ANL_k hd11 hM (fun j _ => C121 j) (by omega) (by omega) (by omega) (fun j _ _ => C124 j) | (exfalso; omega)) (by first | exact hI | exact ANL_k hd12 hM2 (fun j _ => C122 j) (by omega) (by omega) (by omega) (fun j _ _ => C125 j) | (exfalso; omega))
set_option maxRecDepth 20000 in
set_option maxHeartbeats 8000000 in
theorem sp_case21 (L : Nat) (xs : Nat → Int32) (sio : Option Nat) (d : Nat) (Q : Option AV → am_W → Prop) (hLL : L ≤ 3072) (i : Int) (hi : 0 ≤ i ∧ i ≤ 3066) (hil : i ≤ (L : Int) - 6) (dt : Nat → Nat → Int) (hI : InvC dt) (hM : MW (dt 80)) (hM2 : MW (dt 81)) (hk0 : dt 1 0 = dt 80 0) (hk1 : dt 7 3 = dt 80 1) (hk2 : dt 10 3 = dt 80 2) (hk3 : dt 12 3 = dt 80 3) (hk4 : dt 14 3 = dt 80 4) (hk5 : dt 16 3 = dt 80 5) (hk6 : dt 18 0 = dt 81 0) (hk7 : dt 24 3 = dt 81 1) (hk8 : dt 27 3 = dt 81 2) (hk9 : dt 29 3 = dt 81 3) (hk10 : dt 31 3 = dt 81 4) (hk11 : dt 33 3 = dt 81 5) (hk12 : dt 0 2 = dt 79 2) (hk13 : dt 35 1 = dt 79 12) (hk14 : dt 35 2 = dt 79 19) (hk15 : dt 35 3 = dt 79 21) (hd0 : TPL (dt 36) (dt 85) (dt 35 1)) (hd1 : SCL (dt 2) (dt 3) (dt 80)) (hd2 : SCL (dt 19) (dt 20) (dt 81)) (hd3 : QRL (dt 8) (dt 80)) (hd4 : QRL (dt 25) (dt 81)) (hd5 : SDL (dt 9) (dt 80)) (hd6 : SDL (dt 26) (dt 81)) (hd7 : LWL (dt 4) (dt 5) (dt 6) (dt 80)) (hd8 : LWL (dt 21) (dt 22) (dt 23) (dt 81)) (hd9 : CHL (dt 11) (dt 80)) (hd10 : CHL (dt 28) (dt 81)) (hd11 : ANL (dt 13) (dt 80)) (hd12 : ANL (dt 30) (dt 81)) (K : ∀ (dt : Nat → Nat → Int) (hI : InvC dt) (hM : MW (dt 80)) (hM2 : MW (dt 81)) (hk0 : dt 1 0 = dt 80 0) (hk1 : dt 7 3 = dt 80 1) (hk2 : dt 10 3 = dt 80 2) (hk3 : dt 12 3 = dt 80 3) (hk4 : dt 14 3 = dt 80 4) (hk5 : dt 16 3 = dt 80 5) (hk6 : dt 18 0 = dt 81 0) (hk7 : dt 24 3 = dt 81 1) (hk8 : dt 27 3 = dt 81 2) (hk9 : dt 29 3 = dt 81 3) (hk10 : dt 31 3 = dt 81 4) (hk11 : dt 33 3 = dt 81 5) (hk12 : dt 0 2 = dt 79 2) (hk13 : dt 35 1 = dt 79 12) (hk14 : dt 35 2 = dt 79 19) (hk15 : dt 35 3 = dt 79 21) (hd0 : TPL (dt 36) (dt 85) (dt 35 1)) (hd1 : SCL (dt 2) (dt 3) (dt 80)) (hd2 : SCL (dt 19) (dt 20) (dt 81)) (hd3 : QRL (dt 8) (dt 80)) (hd4 : QRL (dt 25) (dt 81)) (hd5 : SDL (dt 9) (dt 80)) (hd6 : SDL (dt 26) (dt 81)) (hd7 : LWL (dt 4) (dt 5) (dt 6) (dt 80)) (hd8 : LWL (dt 21) (dt 22) (dt 23) (dt 81)) (hd9 : CHL (dt 11) (dt 80)) (hd10 : CHL (dt 28) (dt 81)) (hd11 : ANL (dt 13) (dt 80)) (hd12 : ANL (dt 30) (dt 81)), GO (am_XX L xs sio) (d + 39) 267 1435 [some (.inr (.inr (some 3000))), some (.inr (.inr (some 0))), some (.inr (.inr (some 79))), some (.inl i)] [] (SH, dt) Q) : GO (am_XX L xs sio) (d + 39) 267 1053 [some (.inr (.inr (some 3000))), some (.inr (.inr (some 0))), some (.inr (.inr (some 79))), some (.inl i)] [] (SH, dt) Q := by
  have hF : Fr [0, 1, 2, 3, 4, 5, 6, 7, 8, 9, 10, 11, 12, 13, 14, 15, 16, 17, 18, 19, 20, 21, 22, 23, 24, 25, 26, 27, 28, 29, 30, 31, 32, 33, 34, 35, 36, 37, 38, 39, 40, 41, 42, 43, 44, 45, 46, 47, 48, 49, 50, 51, 52, 53, 54, 55, 56, 57, 58, 59, 60, 61, 62, 63, 64, 65, 66, 67, 68, 69, 70, 71, 72, 73, 74, 75, 76, 77, 78, 79, 80, 81, 82, 83, 84, 85, 86, 87, 88, 89, 90, 91, 92, 93, 94, 95, 96, 97, 98, 99, 100, 101, 102, 103, 104] dt dt := Fr_refl
  have hqo := QOC_R hd3 hM hk1
  have hb1_ := hM.1.1
  have hb2_ := hM.1.2.1
  have hb3_ := hM.1.2.2.1
  have halk : ALK dt (dt 80) := ⟨hd7, hd3, hd5, hd9, hk1, hk2⟩
  have hav_ : ∀ i : Nat, (i : Int) < dt 12 3 → 0 ≤ dt 13 (6 * i + 1) ∧ dt 13 (6 * i + 1) < dt 7 3 := fun i hi => by have z := hd11 i (by omega); have y := z.2.2 1 (by decide); have w := z.2.1; omega
  refine go_toq PM267 (k := 5) (pc' := 1058) (L' := [some (.inr (.inr (some 3000))), some (.inr (.inr (some 0))), some (.inr (.inr (some 79))), some (.inl i)]) (st' := [.inl (i + 1), .inr (.inr (some 3000)), .inr (.inr (some 0))]) (w' := (SH, dt)) rfl ?_
  have r1 := i32_R (xs ((i + 1).toNat))
  refine go_smpq PM267 (L' := [some (.inr (.inr (some 3000))), some (.inr (.inr (some 0))), some (.inr (.inr (some 79))), some (.inl i)]) (st' := [.inl ((xs ((i + 1).toNat)).toInt), .inr (.inr (some 0))]) (w' := (SH, dt)) rfl rfl (s_iald (n := L) (f := fun j => (xs j).toInt) (am_scr hLL) ⟨by omega, by omega⟩) ?_
  refine go_toq PM267 (k := 4) (pc' := 1063) (L' := [some (.inr (.inr (some 3000))), some (.inr (.inr (some 0))), some (.inr (.inr (some 79))), some (.inl i)]) (st' := [.inl (i + 2), .inr (.inr (some 3000)), .inl ((xs ((i + 1).toNat)).toInt), .inr (.inr (some 0))]) (w' := (SH, dt)) rfl ?_
  have r2 := i32_R (xs ((i + 2).toNat))
  refine go_smpq PM267 (L' := [some (.inr (.inr (some 3000))), some (.inr (.inr (some 0))), some (.inr (.inr (some 79))), some (.inl i)]) (st' := [.inl ((xs ((i + 2).toNat)).toInt), .inl ((xs ((i + 1).toNat)).toInt), .inr (.inr (some 0))]) (w' := (SH, dt)) rfl rfl (s_iald (n := L) (f := fun j => (xs j).toInt) (am_scr hLL) ⟨by omega, by omega⟩) ?_
  refine go_callq PM267 PM88 (Q' := _) rfl rfl rfl rfl (sp_X5_pulls L xs sio (d + 35) dt hI  ((xs ((i + 1).toNat)).toInt) ⟨by omega, by omega⟩ ((xs ((i + 2).toNat)).toInt) ⟨by omega, by omega⟩ ) ?_
  rintro _ _ ⟨rfl, h3⟩
  refine ⟨rfl, ?_⟩
  rcases h3 with ⟨v_h3, rfl, h3r, h3⟩
  refine go_toq PM267 (k := 6) (pc' := 1073) (L' := [some (.inr (.inr (some 3000))), some (.inr (.inr (some 0))), some (.inr (.inr (some 79))), some (.inl i)]) (st' := [.inl (i + 1), .inr (.inr (some 3000)), .inr (.inr (some 79))]) (w' := (SH, dt)) rfl ?_
  refine go_smpq PM267 (L' := [some (.inr (.inr (some 3000))), some (.inr (.inr (some 0))), some (.inr (.inr (some 79))), some (.inl i)]) (st' := [.inl ((xs ((i + 1).toNat)).toInt), .inr (.inr (some 79))]) (w' := (SH, dt)) rfl rfl (s_iald (n := L) (f := fun j => (xs j).toInt) (am_scr hLL) ⟨by omega, by omega⟩) ?_
  refine go_toq PM267 (k := 4) (pc' := 1078) (L' := [some (.inr (.inr (some 3000))), some (.inr (.inr (some 0))), some (.inr (.inr (some 79))), some (.inl i)]) (st' := [.inl (i + 2), .inr (.inr (some 3000)), .inl ((xs ((i + 1).toNat)).toInt), .inr (.inr (some 79))]) (w' := (SH, dt)) rfl ?_
  refine go_smpq PM267 (L' := [some (.inr (.inr (some 3000))), some (.inr (.inr (some 0))), some (.inr (.inr (some 79))), some (.inl i)]) (st' := [.inl ((xs ((i + 2).toNat)).toInt), .inl ((xs ((i + 1).toNat)).toInt), .inr (.inr (some 79))]) (w' := (SH, dt)) rfl rfl (s_iald (n := L) (f := fun j => (xs j).toInt) (am_scr hLL) ⟨by omega, by omega⟩) ?_
  refine go_callq PM267 PM230 (Q' := _) rfl rfl rfl rfl (sp_X6_pulls L xs sio (d + 31) dt hI hM  ((xs ((i + 1).toNat)).toInt) ⟨by omega, by omega⟩ ((xs ((i + 2).toNat)).toInt) ⟨by omega, by omega⟩ ) ?_
  rintro _ _ ⟨dt5, rfl, hI6, hF7, h4⟩
  refine ⟨rfl, ?_⟩
  have hF8 : Fr [0, 1, 2, 3, 4, 5, 6, 7, 8, 9, 10, 11, 12, 13, 14, 15, 16, 17, 18, 19, 20, 21, 22, 23, 24, 25, 26, 27, 28, 29, 30, 31, 32, 33, 34, 35, 36, 37, 38, 39, 40, 41, 42, 43, 44, 45, 46, 47, 48, 49, 50, 51, 52, 53, 54, 55, 56, 57, 58, 59, 60, 61, 62, 63, 64, 65, 66, 67, 68, 69, 70, 71, 72, 73, 74, 75, 76, 77, 78, 79, 80, 81, 82, 83, 84, 85, 86, 87, 88, 89, 90, 91, 92, 93, 94, 95, 96, 97, 98, 99, 100, 101, 102, 103, 104] dt dt5 := Fr_tr hF hF7 (by decide)
  have hM9 : MW (dt5 80) := MW_fr hM hF7 (by decide)
  have w10 : dt5 1 0 = dt 1 0 := hF7 1 (by decide) 0
  have w11 : dt5 7 3 = dt 7 3 := hF7 7 (by decide) 3
  have w12 : dt5 10 3 = dt 10 3 := hF7 10 (by decide) 3
  have w13 : dt5 12 3 = dt 12 3 := hF7 12 (by decide) 3
  have w14 : dt5 14 3 = dt 14 3 := hF7 14 (by decide) 3
  have w15 : dt5 16 3 = dt 16 3 := hF7 16 (by decide) 3
  have w16 : dt5 18 0 = dt 18 0 := hF7 18 (by decide) 0
  have w17 : dt5 24 3 = dt 24 3 := hF7 24 (by decide) 3
  have w18 : dt5 27 3 = dt 27 3 := hF7 27 (by decide) 3
  have w19 : dt5 29 3 = dt 29 3 := hF7 29 (by decide) 3
  have w20 : dt5 31 3 = dt 31 3 := hF7 31 (by decide) 3
  have w21 : dt5 33 3 = dt 33 3 := hF7 33 (by decide) 3
  have w22 : dt5 0 2 = dt 0 2 := hF7 0 (by decide) 2
  have w23 : dt5 35 1 = dt 35 1 := hF7 35 (by decide) 1
  have w24 : dt5 35 2 = dt 35 2 := hF7 35 (by decide) 2
  have w25 : dt5 35 3 = dt 35 3 := hF7 35 (by decide) 3
  have w26 : dt5 80 0 = dt 80 0 := hF7 80 (by decide) 0
  have w27 : dt5 80 1 = dt 80 1 := hF7 80 (by decide) 1
  have w28 : dt5 80 2 = dt 80 2 := hF7 80 (by decide) 2
  have w29 : dt5 80 3 = dt 80 3 := hF7 80 (by decide) 3
  have w30 : dt5 80 4 = dt 80 4 := hF7 80 (by decide) 4
  have w31 : dt5 80 5 = dt 80 5 := hF7 80 (by decide) 5
  have w32 : dt5 81 0 = dt 81 0 := hF7 81 (by decide) 0
  have w33 : dt5 81 1 = dt 81 1 := hF7 81 (by decide) 1
  have w34 : dt5 81 2 = dt 81 2 := hF7 81 (by decide) 2
  have w35 : dt5 81 3 = dt 81 3 := hF7 81 (by decide) 3
  have w36 : dt5 81 4 = dt 81 4 := hF7 81 (by decide) 4
  have w37 : dt5 81 5 = dt 81 5 := hF7 81 (by decide) 5
  have w38 : dt5 79 2 = dt 79 2 := hF7 79 (by decide) 2
  have w39 : dt5 79 12 = dt 79 12 := hF7 79 (by decide) 12
  have w40 : dt5 79 19 = dt 79 19 := hF7 79 (by decide) 19
  have w41 : dt5 79 21 = dt 79 21 := hF7 79 (by decide) 21
  rcases h4 with ⟨v_h4, rfl, h4r, h4⟩
  have M242 : MW (dt5 81) := MW_frk hM2 hF7 (by decide)
  have C43 : ∀ j : Nat, dt5 2 j = dt 2 j := fun j => (hF7 2 (by decide) j).trans ((fun _ => rfl) j)
  have C44 : ∀ j : Nat, dt5 3 j = dt 3 j := fun j => (hF7 3 (by decide) j).trans ((fun _ => rfl) j)
  have C45 : ∀ j : Nat, dt5 4 j = dt 4 j := fun j => (hF7 4 (by decide) j).trans ((fun _ => rfl) j)
  have C46 : ∀ j : Nat, dt5 5 j = dt 5 j := fun j => (hF7 5 (by decide) j).trans ((fun _ => rfl) j)
  have C47 : ∀ j : Nat, dt5 6 j = dt 6 j := fun j => (hF7 6 (by decide) j).trans ((fun _ => rfl) j)
  have C48 : ∀ j : Nat, dt5 8 j = dt 8 j := fun j => (hF7 8 (by decide) j).trans ((fun _ => rfl) j)
  have C49 : ∀ j : Nat, dt5 9 j = dt 9 j := fun j => (hF7 9 (by decide) j).trans ((fun _ => rfl) j)
  have C50 : ∀ j : Nat, dt5 11 j = dt 11 j := fun j => (hF7 11 (by decide) j).trans ((fun _ => rfl) j)
  have C51 : ∀ j : Nat, dt5 19 j = dt 19 j := fun j => (hF7 19 (by decide) j).trans ((fun _ => rfl) j)
  have C52 : ∀ j : Nat, dt5 20 j = dt 20 j := fun j => (hF7 20 (by decide) j).trans ((fun _ => rfl) j)
  have C53 : ∀ j : Nat, dt5 21 j = dt 21 j := fun j => (hF7 21 (by decide) j).trans ((fun _ => rfl) j)
  have C54 : ∀ j : Nat, dt5 22 j = dt 22 j := fun j => (hF7 22 (by decide) j).trans ((fun _ => rfl) j)
  have C55 : ∀ j : Nat, dt5 23 j = dt 23 j := fun j => (hF7 23 (by decide) j).trans ((fun _ => rfl) j)
  have C56 : ∀ j : Nat, dt5 25 j = dt 25 j := fun j => (hF7 25 (by decide) j).trans ((fun _ => rfl) j)
  have C57 : ∀ j : Nat, dt5 26 j = dt 26 j := fun j => (hF7 26 (by decide) j).trans ((fun _ => rfl) j)
  have C58 : ∀ j : Nat, dt5 28 j = dt 28 j := fun j => (hF7 28 (by decide) j).trans ((fun _ => rfl) j)
  have C59 : ∀ j : Nat, dt5 13 j = dt 13 j := fun j => (hF7 13 (by decide) j).trans ((fun _ => rfl) j)
  have C60 : ∀ j : Nat, dt5 30 j = dt 30 j := fun j => (hF7 30 (by decide) j).trans ((fun _ => rfl) j)
  have C61 : ∀ j : Nat, dt5 36 j = dt 36 j := fun j => (hF7 36 (by decide) j).trans ((fun _ => rfl) j)
  have C62 : ∀ j : Nat, dt5 80 j = dt 80 j := fun j => (hF7 80 (by decide) j).trans ((fun _ => rfl) j)
  have C63 : ∀ j : Nat, dt5 81 j = dt 81 j := fun j => (hF7 81 (by decide) j).trans ((fun _ => rfl) j)
  have C64 : ∀ j : Nat, dt5 85 j = dt 85 j := fun j => (hF7 85 (by decide) j).trans ((fun _ => rfl) j)
  refine go_toq PM267 (k := 2) (pc' := 1435) (L' := [some (.inr (.inr (some 3000))), some (.inr (.inr (some 0))), some (.inr (.inr (some 79))), some (.inl i)]) (st' := []) (w' := (SH, dt5)) rfl ?_
  exact K dt5 hI6 hM9 M242 (w10.trans (hk0.trans w26.symm)) (w11.trans (hk1.trans w27.symm)) (w12.trans (hk2.trans w28.symm)) (w13.trans (hk3.trans w29.symm)) (w14.trans (hk4.trans w30.symm)) (w15.trans (hk5.trans w31.symm)) (w16.trans (hk6.trans w32.symm)) (w17.trans (hk7.trans w33.symm)) (w18.trans (hk8.trans w34.symm)) (w19.trans (hk9.trans w35.symm)) (w20.trans (hk10.trans w36.symm)) (w21.trans (hk11.trans w37.symm)) (w22.trans (hk12.trans w38.symm)) (w23.trans (hk13.trans w39.symm)) (w24.trans (hk14.trans w40.symm)) (w25.trans (hk15.trans w41.symm)) (by first | exact hI | exact TPL_k hd0 C61 C64 (by omega) | (exfalso; omega)) (by first | exact hI | exact SCL_k hd1 hM (fun j _ => C43 j) (fun j _ => C44 j) (fun j _ _ => C62 j) | (exfalso; omega)) (by first | exact hI | exact SCL_k hd2 hM2 (fun j _ => C51 j) (fun j _ => C52 j) (fun j _ _ => C63 j) | (exfalso; omega)) (by first | exact hI | exact QRL_k hd3 hM (fun j _ => C48 j) (C62 1) (fun j _ _ => C62 j) | (exfalso; omega)) (by first | exact hI | exact QRL_k hd4 hM2 (fun j _ => C56 j) (C63 1) (fun j _ _ => C63 j) | (exfalso; omega)) (by first | exact hI | exact SDL_k hd5 hM (fun j _ => C49 j) (C62 1) (fun j _ _ => C62 j) (fun j _ _ => C62 j) | (exfalso; omega)) (by first | exact hI | exact SDL_k hd6 hM2 (fun j _ => C57 j) (C63 1) (fun j _ _ => C63 j) (fun j _ _ => C63 j) | (exfalso; omega)) (by first | exact hI | exact LWL_k hd7 hM (fun j _ => C45 j) (fun j _ => C46 j) (fun j _ => C47 j) (fun j _ _ => C62 j) | (exfalso; omega)) (by first | exact hI | exact LWL_k hd8 hM2 (fun j _ => C53 j) (fun j _ => C54 j) (fun j _ => C55 j) (fun j _ _ => C63 j) | (exfalso; omega)) (by first | exact hI | exact CHL_k hd9 hM (fun j _ => C50 j) (by omega) (fun j _ _ => C62 j) | (exfalso; omega)) (by first | exact hI | exact CHL_k hd10 hM2 (fun j _ => C58 j) (by omega) (fun j _ _ => C63 j) | (exfalso; omega)) (by first | exact hI | exact ANL_k hd11 hM (fun j _ => C59 j) (by omega) (by omega) (by omega) (fun j _ _ => C62 j) | (exfalso; omega)) (by first | exact hI | exact ANL_k hd12 hM2 (fun j _ => C60 j) (by omega) (by omega) (by omega) (fun j _ _ => C63 j) | (exfalso; omega))
