set_option maxRecDepth 20000 in
set_option maxHeartbeats 8000000 in
theorem sp_case11 (L : Nat) (xs : Nat → Int32) (sio : Option Nat) (d : Nat) (Q : Option AV → am_W → Prop) (hLL : L ≤ 3072) (i : Int) (hi : 0 ≤ i ∧ i ≤ 3066) (hil : i ≤ (L : Int) - 6) (dt : Nat → Nat → Int) (hI : InvC dt) (hM : MW (dt 80)) (hM2 : MW (dt 81)) (hk0 : dt 1 0 = dt 80 0) (hk1 : dt 7 3 = dt 80 1) (hk2 : dt 10 3 = dt 80 2) (hk3 : dt 12 3 = dt 80 3) (hk4 : dt 14 3 = dt 80 4) (hk5 : dt 16 3 = dt 80 5) (hk6 : dt 18 0 = dt 81 0) (hk7 : dt 24 3 = dt 81 1) (hk8 : dt 27 3 = dt 81 2) (hk9 : dt 29 3 = dt 81 3) (hk10 : dt 31 3 = dt 81 4) (hk11 : dt 33 3 = dt 81 5) (hk12 : dt 0 2 = dt 79 2) (hk13 : dt 35 1 = dt 79 12) (hk14 : dt 35 2 = dt 79 19) (hk15 : dt 35 3 = dt 79 21) (hd0 : TPL (dt 36) (dt 85) (dt 35 1)) (hd1 : SCL (dt 2) (dt 3) (dt 80)) (hd2 : SCL (dt 19) (dt 20) (dt 81)) (hd3 : QRL (dt 8) (dt 80)) (hd4 : QRL (dt 25) (dt 81)) (hd5 : SDL (dt 9) (dt 80)) (hd6 : SDL (dt 26) (dt 81)) (hd7 : LWL (dt 4) (dt 5) (dt 6) (dt 80)) (hd8 : LWL (dt 21) (dt 22) (dt 23) (dt 81)) (hd9 : CHL (dt 11) (dt 80)) (hd10 : CHL (dt 28) (dt 81)) (K : ∀ (dt : Nat → Nat → Int) (hI : InvC dt) (hM : MW (dt 80)) (hM2 : MW (dt 81)) (hk0 : dt 1 0 = dt 80 0) (hk1 : dt 7 3 = dt 80 1) (hk2 : dt 10 3 = dt 80 2) (hk3 : dt 12 3 = dt 80 3) (hk4 : dt 14 3 = dt 80 4) (hk5 : dt 16 3 = dt 80 5) (hk6 : dt 18 0 = dt 81 0) (hk7 : dt 24 3 = dt 81 1) (hk8 : dt 27 3 = dt 81 2) (hk9 : dt 29 3 = dt 81 3) (hk10 : dt 31 3 = dt 81 4) (hk11 : dt 33 3 = dt 81 5) (hk12 : dt 0 2 = dt 79 2) (hk13 : dt 35 1 = dt 79 12) (hk14 : dt 35 2 = dt 79 19) (hk15 : dt 35 3 = dt 79 21) (hd0 : TPL (dt 36) (dt 85) (dt 35 1)) (hd1 : SCL (dt 2) (dt 3) (dt 80)) (hd2 : SCL (dt 19) (dt 20) (dt 81)) (hd3 : QRL (dt 8) (dt 80)) (hd4 : QRL (dt 25) (dt 81)) (hd5 : SDL (dt 9) (dt 80)) (hd6 : SDL (dt 26) (dt 81)) (hd7 : LWL (dt 4) (dt 5) (dt 6) (dt 80)) (hd8 : LWL (dt 21) (dt 22) (dt 23) (dt 81)) (hd9 : CHL (dt 11) (dt 80)) (hd10 : CHL (dt 28) (dt 81)), GO (am_XX L xs sio) (d + 39) 267 1435 [some (.inr (.inr (some 3000))), some (.inr (.inr (some 0))), some (.inr (.inr (some 79))), some (.inl i)] [] (SH, dt) Q) : GO (am_XX L xs sio) (d + 39) 267 643 [some (.inr (.inr (some 3000))), some (.inr (.inr (some 0))), some (.inr (.inr (some 79))), some (.inl i)] [] (SH, dt) Q := by
  have hF : Fr [0, 1, 2, 3, 4, 5, 6, 7, 8, 9, 10, 11, 12, 13, 14, 15, 16, 17, 18, 19, 20, 21, 22, 23, 24, 25, 26, 27, 28, 29, 30, 31, 32, 33, 34, 35, 36, 37, 38, 39, 40, 41, 42, 43, 44, 45, 46, 47, 48, 49, 50, 51, 52, 53, 54, 55, 56, 57, 58, 59, 60, 61, 62, 63, 64, 65, 66, 67, 68, 69, 70, 71, 72, 73, 74, 75, 76, 77, 78, 79, 80, 81, 82, 83, 84, 85, 86, 87, 88, 89, 90, 91, 92, 93, 94, 95, 96, 97, 98, 99, 100, 101, 102, 103, 104] dt dt := Fr_refl
  have hqo := QOC_R hd3 hM hk1
  have hb1_ := hM.1.1
  have hb2_ := hM.1.2.1
  have hb3_ := hM.1.2.2.1
  have halk : ALK dt (dt 80) := ⟨hd7, hd3, hd5, hd9, hk1, hk2⟩
  refine go_toq PM267 (k := 5) (pc' := 648) (L' := [some (.inr (.inr (some 3000))), some (.inr (.inr (some 0))), some (.inr (.inr (some 79))), some (.inl i)]) (st' := [.inl (i + 1), .inr (.inr (some 3000)), .inr (.inr (some 0))]) (w' := (SH, dt)) rfl ?_
  have r1 := i32_R (xs ((i + 1).toNat))
  refine go_smpq PM267 (L' := [some (.inr (.inr (some 3000))), some (.inr (.inr (some 0))), some (.inr (.inr (some 79))), some (.inl i)]) (st' := [.inl ((xs ((i + 1).toNat)).toInt), .inr (.inr (some 0))]) (w' := (SH, dt)) rfl rfl (s_iald (n := L) (f := fun j => (xs j).toInt) (am_scr hLL) ⟨by omega, by omega⟩) ?_
  refine go_toq PM267 (k := 4) (pc' := 653) (L' := [some (.inr (.inr (some 3000))), some (.inr (.inr (some 0))), some (.inr (.inr (some 79))), some (.inl i)]) (st' := [.inl (i + 2), .inr (.inr (some 3000)), .inl ((xs ((i + 1).toNat)).toInt), .inr (.inr (some 0))]) (w' := (SH, dt)) rfl ?_
  have r2 := i32_R (xs ((i + 2).toNat))
  refine go_smpq PM267 (L' := [some (.inr (.inr (some 3000))), some (.inr (.inr (some 0))), some (.inr (.inr (some 79))), some (.inl i)]) (st' := [.inl ((xs ((i + 2).toNat)).toInt), .inl ((xs ((i + 1).toNat)).toInt), .inr (.inr (some 0))]) (w' := (SH, dt)) rfl rfl (s_iald (n := L) (f := fun j => (xs j).toInt) (am_scr hLL) ⟨by omega, by omega⟩) ?_
  refine go_toq PM267 (k := 4) (pc' := 658) (L' := [some (.inr (.inr (some 3000))), some (.inr (.inr (some 0))), some (.inr (.inr (some 79))), some (.inl i)]) (st' := [.inl (i + 3), .inr (.inr (some 3000)), .inl ((xs ((i + 2).toNat)).toInt), .inl ((xs ((i + 1).toNat)).toInt), .inr (.inr (some 0))]) (w' := (SH, dt)) rfl ?_
  have r3 := i32_R (xs ((i + 3).toNat))
  refine go_smpq PM267 (L' := [some (.inr (.inr (some 3000))), some (.inr (.inr (some 0))), some (.inr (.inr (some 79))), some (.inl i)]) (st' := [.inl ((xs ((i + 3).toNat)).toInt), .inl ((xs ((i + 2).toNat)).toInt), .inl ((xs ((i + 1).toNat)).toInt), .inr (.inr (some 0))]) (w' := (SH, dt)) rfl rfl (s_iald (n := L) (f := fun j => (xs j).toInt) (am_scr hLL) ⟨by omega, by omega⟩) ?_
  refine go_toq PM267 (k := 4) (pc' := 663) (L' := [some (.inr (.inr (some 3000))), some (.inr (.inr (some 0))), some (.inr (.inr (some 79))), some (.inl i)]) (st' := [.inl (i + 4), .inr (.inr (some 3000)), .inl ((xs ((i + 3).toNat)).toInt), .inl ((xs ((i + 2).toNat)).toInt), .inl ((xs ((i + 1).toNat)).toInt), .inr (.inr (some 0))]) (w' := (SH, dt)) rfl ?_
  have r4 := i32_R (xs ((i + 4).toNat))
  refine go_smpq PM267 (L' := [some (.inr (.inr (some 3000))), some (.inr (.inr (some 0))), some (.inr (.inr (some 79))), some (.inl i)]) (st' := [.inl ((xs ((i + 4).toNat)).toInt), .inl ((xs ((i + 3).toNat)).toInt), .inl ((xs ((i + 2).toNat)).toInt), .inl ((xs ((i + 1).toNat)).toInt), .inr (.inr (some 0))]) (w' := (SH, dt)) rfl rfl (s_iald (n := L) (f := fun j => (xs j).toInt) (am_scr hLL) ⟨by omega, by omega⟩) ?_
  refine go_callq PM267 PM78 (Q' := _) rfl rfl rfl rfl (sp_X5_weight_f L xs sio (d + 33) dt hI (dt 80) hM ((xs ((i + 1).toNat)).toInt) ⟨by omega, by omega⟩ ((xs ((i + 2).toNat)).toInt) ⟨by omega, by omega⟩ ((xs ((i + 3).toNat)).toInt) ⟨by omega, by omega⟩ ((xs ((i + 4).toNat)).toInt) ⟨by omega, by omega⟩ (by first | exact True.intro | with_reducible assumption | rfl | omega | trivial | exact hM2 | exact hd1 | exact hqo | exact halk)) ?_
  rintro _ _ ⟨dt6, rfl, hI7, hF8, h5⟩
  refine ⟨rfl, ?_⟩
  have hF9 : Fr [0, 1, 2, 3, 4, 5, 6, 7, 8, 9, 10, 11, 12, 13, 14, 15, 16, 17, 18, 19, 20, 21, 22, 23, 24, 25, 26, 27, 28, 29, 30, 31, 32, 33, 34, 35, 36, 37, 38, 39, 40, 41, 42, 43, 44, 45, 46, 47, 48, 49, 50, 51, 52, 53, 54, 55, 56, 57, 58, 59, 60, 61, 62, 63, 64, 65, 66, 67, 68, 69, 70, 71, 72, 73, 74, 75, 76, 77, 78, 79, 80, 81, 82, 83, 84, 85, 86, 87, 88, 89, 90, 91, 92, 93, 94, 95, 96, 97, 98, 99, 100, 101, 102, 103, 104] dt dt6 := Fr_tr hF hF8 (by decide)
  have hM10 : MW (dt6 80) := MW_fr hM hF8 (by decide)
  have w11 : dt6 1 0 = dt 1 0 := hF8 1 (by decide) 0
  have w12 : dt6 7 3 = dt 7 3 := hF8 7 (by decide) 3
  have w13 : dt6 10 3 = dt 10 3 := hF8 10 (by decide) 3
  have w14 : dt6 12 3 = dt 12 3 := hF8 12 (by decide) 3
  have w15 : dt6 14 3 = dt 14 3 := hF8 14 (by decide) 3
  have w16 : dt6 16 3 = dt 16 3 := hF8 16 (by decide) 3
  have w17 : dt6 18 0 = dt 18 0 := hF8 18 (by decide) 0
  have w18 : dt6 24 3 = dt 24 3 := hF8 24 (by decide) 3
  have w19 : dt6 27 3 = dt 27 3 := hF8 27 (by decide) 3
  have w20 : dt6 29 3 = dt 29 3 := hF8 29 (by decide) 3
  have w21 : dt6 31 3 = dt 31 3 := hF8 31 (by decide) 3
  have w22 : dt6 33 3 = dt 33 3 := hF8 33 (by decide) 3
  have w23 : dt6 0 2 = dt 0 2 := hF8 0 (by decide) 2
  have w24 : dt6 35 1 = dt 35 1 := hF8 35 (by decide) 1
  have w25 : dt6 35 2 = dt 35 2 := hF8 35 (by decide) 2
  have w26 : dt6 35 3 = dt 35 3 := hF8 35 (by decide) 3
  have w27 : dt6 80 0 = dt 80 0 := hF8 80 (by decide) 0
  have w28 : dt6 80 1 = dt 80 1 := hF8 80 (by decide) 1
  have w29 : dt6 80 2 = dt 80 2 := hF8 80 (by decide) 2
  have w30 : dt6 80 3 = dt 80 3 := hF8 80 (by decide) 3
  have w31 : dt6 80 4 = dt 80 4 := hF8 80 (by decide) 4
  have w32 : dt6 80 5 = dt 80 5 := hF8 80 (by decide) 5
  have w33 : dt6 81 0 = dt 81 0 := hF8 81 (by decide) 0
  have w34 : dt6 81 1 = dt 81 1 := hF8 81 (by decide) 1
  have w35 : dt6 81 2 = dt 81 2 := hF8 81 (by decide) 2
  have w36 : dt6 81 3 = dt 81 3 := hF8 81 (by decide) 3
  have w37 : dt6 81 4 = dt 81 4 := hF8 81 (by decide) 4
  have w38 : dt6 81 5 = dt 81 5 := hF8 81 (by decide) 5
  have w39 : dt6 79 2 = dt 79 2 := hF8 79 (by decide) 2
  have w40 : dt6 79 12 = dt 79 12 := hF8 79 (by decide) 12
  have w41 : dt6 79 19 = dt 79 19 := hF8 79 (by decide) 19
  have w42 : dt6 79 21 = dt 79 21 := hF8 79 (by decide) 21
  rcases h5 with ⟨rfl, h5⟩ | ⟨v_h5, rfl, h5r, h5⟩
  · skip
    have M243 : MW (dt6 81) := MW_frk hM2 hF8 (by decide)
    have C44 : ∀ j : Nat, dt6 2 j = dt 2 j := fun j => (hF8 2 (by decide) j).trans ((fun _ => rfl) j)
    have C45 : ∀ j : Nat, dt6 3 j = dt 3 j := fun j => (hF8 3 (by decide) j).trans ((fun _ => rfl) j)
    have C46 : ∀ j : Nat, dt6 4 j = dt 4 j := fun j => (hF8 4 (by decide) j).trans ((fun _ => rfl) j)
    have C47 : ∀ j : Nat, dt6 5 j = dt 5 j := fun j => (hF8 5 (by decide) j).trans ((fun _ => rfl) j)
    have C48 : ∀ j : Nat, dt6 6 j = dt 6 j := fun j => (hF8 6 (by decide) j).trans ((fun _ => rfl) j)
    have C49 : ∀ j : Nat, dt6 8 j = dt 8 j := fun j => (hF8 8 (by decide) j).trans ((fun _ => rfl) j)
    have C50 : ∀ j : Nat, dt6 9 j = dt 9 j := fun j => (hF8 9 (by decide) j).trans ((fun _ => rfl) j)
    have C51 : ∀ j : Nat, dt6 11 j = dt 11 j := fun j => (hF8 11 (by decide) j).trans ((fun _ => rfl) j)
    have C52 : ∀ j : Nat, dt6 19 j = dt 19 j := fun j => (hF8 19 (by decide) j).trans ((fun _ => rfl) j)
    have C53 : ∀ j : Nat, dt6 20 j = dt 20 j := fun j => (hF8 20 (by decide) j).trans ((fun _ => rfl) j)
    have C54 : ∀ j : Nat, dt6 21 j = dt 21 j := fun j => (hF8 21 (by decide) j).trans ((fun _ => rfl) j)
    have C55 : ∀ j : Nat, dt6 22 j = dt 22 j := fun j => (hF8 22 (by decide) j).trans ((fun _ => rfl) j)
    have C56 : ∀ j : Nat, dt6 23 j = dt 23 j := fun j => (hF8 23 (by decide) j).trans ((fun _ => rfl) j)
    have C57 : ∀ j : Nat, dt6 25 j = dt 25 j := fun j => (hF8 25 (by decide) j).trans ((fun _ => rfl) j)
    have C58 : ∀ j : Nat, dt6 26 j = dt 26 j := fun j => (hF8 26 (by decide) j).trans ((fun _ => rfl) j)
    have C59 : ∀ j : Nat, dt6 28 j = dt 28 j := fun j => (hF8 28 (by decide) j).trans ((fun _ => rfl) j)
    have C60 : ∀ j : Nat, dt6 36 j = dt 36 j := fun j => (hF8 36 (by decide) j).trans ((fun _ => rfl) j)
    have C61 : ∀ j : Nat, dt6 80 j = dt 80 j := fun j => (hF8 80 (by decide) j).trans ((fun _ => rfl) j)
    have C62 : ∀ j : Nat, dt6 81 j = dt 81 j := fun j => (hF8 81 (by decide) j).trans ((fun _ => rfl) j)
    have C63 : ∀ j : Nat, dt6 85 j = dt 85 j := fun j => (hF8 85 (by decide) j).trans ((fun _ => rfl) j)
    refine go_toq PM267 (k := 6) (pc' := 673) (L' := [some (.inr (.inr (some 3000))), some (.inr (.inr (some 0))), some (.inr (.inr (some 79))), some (.inl i)]) (st' := [.inl (i + 1), .inr (.inr (some 3000)), .inr (.inr (some 79))]) (w' := (SH, dt6)) rfl ?_
    have r64 := i32_R (xs ((i + 1).toNat))
    refine go_smpq PM267 (L' := [some (.inr (.inr (some 3000))), some (.inr (.inr (some 0))), some (.inr (.inr (some 79))), some (.inl i)]) (st' := [.inl ((xs ((i + 1).toNat)).toInt), .inr (.inr (some 79))]) (w' := (SH, dt6)) rfl rfl (s_iald (n := L) (f := fun j => (xs j).toInt) (am_scr hLL) ⟨by omega, by omega⟩) ?_
    refine go_toq PM267 (k := 4) (pc' := 678) (L' := [some (.inr (.inr (some 3000))), some (.inr (.inr (some 0))), some (.inr (.inr (some 79))), some (.inl i)]) (st' := [.inl (i + 2), .inr (.inr (some 3000)), .inl ((xs ((i + 1).toNat)).toInt), .inr (.inr (some 79))]) (w' := (SH, dt6)) rfl ?_
    have r65 := i32_R (xs ((i + 2).toNat))
    refine go_smpq PM267 (L' := [some (.inr (.inr (some 3000))), some (.inr (.inr (some 0))), some (.inr (.inr (some 79))), some (.inl i)]) (st' := [.inl ((xs ((i + 2).toNat)).toInt), .inl ((xs ((i + 1).toNat)).toInt), .inr (.inr (some 79))]) (w' := (SH, dt6)) rfl rfl (s_iald (n := L) (f := fun j => (xs j).toInt) (am_scr hLL) ⟨by omega, by omega⟩) ?_
    refine go_toq PM267 (k := 4) (pc' := 683) (L' := [some (.inr (.inr (some 3000))), some (.inr (.inr (some 0))), some (.inr (.inr (some 79))), some (.inl i)]) (st' := [.inl (i + 3), .inr (.inr (some 3000)), .inl ((xs ((i + 2).toNat)).toInt), .inl ((xs ((i + 1).toNat)).toInt), .inr (.inr (some 79))]) (w' := (SH, dt6)) rfl ?_
    have r66 := i32_R (xs ((i + 3).toNat))
    refine go_smpq PM267 (L' := [some (.inr (.inr (some 3000))), some (.inr (.inr (some 0))), some (.inr (.inr (some 79))), some (.inl i)]) (st' := [.inl ((xs ((i + 3).toNat)).toInt), .inl ((xs ((i + 2).toNat)).toInt), .inl ((xs ((i + 1).toNat)).toInt), .inr (.inr (some 79))]) (w' := (SH, dt6)) rfl rfl (s_iald (n := L) (f := fun j => (xs j).toInt) (am_scr hLL) ⟨by omega, by omega⟩) ?_
    refine go_toq PM267 (k := 4) (pc' := 688) (L' := [some (.inr (.inr (some 3000))), some (.inr (.inr (some 0))), some (.inr (.inr (some 79))), some (.inl i)]) (st' := [.inl (i + 4), .inr (.inr (some 3000)), .inl ((xs ((i + 3).toNat)).toInt), .inl ((xs ((i + 2).toNat)).toInt), .inl ((xs ((i + 1).toNat)).toInt), .inr (.inr (some 79))]) (w' := (SH, dt6)) rfl ?_
    have r67 := i32_R (xs ((i + 4).toNat))
    refine go_smpq PM267 (L' := [some (.inr (.inr (some 3000))), some (.inr (.inr (some 0))), some (.inr (.inr (some 79))), some (.inl i)]) (st' := [.inl ((xs ((i + 4).toNat)).toInt), .inl ((xs ((i + 3).toNat)).toInt), .inl ((xs ((i + 2).toNat)).toInt), .inl ((xs ((i + 1).toNat)).toInt), .inr (.inr (some 79))]) (w' := (SH, dt6)) rfl rfl (s_iald (n := L) (f := fun j => (xs j).toInt) (am_scr hLL) ⟨by omega, by omega⟩) ?_
    refine go_callq PM267 PM207 (Q' := _) rfl rfl rfl rfl (sp_X6_weight_f L xs sio (d + 32) dt6 hI7 hM10  ((xs ((i + 1).toNat)).toInt) ⟨by omega, by omega⟩ ((xs ((i + 2).toNat)).toInt) ⟨by omega, by omega⟩ ((xs ((i + 3).toNat)).toInt) ⟨by omega, by omega⟩ ((xs ((i + 4).toNat)).toInt) ⟨by omega, by omega⟩ ) ?_
    rintro _ _ ⟨dt69, rfl, hI70, hF71, h68⟩
    refine ⟨rfl, ?_⟩
    have hF72 : Fr [0, 1, 2, 3, 4, 5, 6, 7, 8, 9, 10, 11, 12, 13, 14, 15, 16, 17, 18, 19, 20, 21, 22, 23, 24, 25, 26, 27, 28, 29, 30, 31, 32, 33, 34, 35, 36, 37, 38, 39, 40, 41, 42, 43, 44, 45, 46, 47, 48, 49, 50, 51, 52, 53, 54, 55, 56, 57, 58, 59, 60, 61, 62, 63, 64, 65, 66, 67, 68, 69, 70, 71, 72, 73, 74, 75, 76, 77, 78, 79, 80, 81, 82, 83, 84, 85, 86, 87, 88, 89, 90, 91, 92, 93, 94, 95, 96, 97, 98, 99, 100, 101, 102, 103, 104] dt dt69 := Fr_tr hF9 hF71 (by decide)
    have hM73 : MW (dt69 80) := MW_fr hM10 hF71 (by decide)
    have w74 : dt69 1 0 = dt 1 0 := (hF71 1 (by decide) 0).trans w11
    have w75 : dt69 7 3 = dt 7 3 := (hF71 7 (by decide) 3).trans w12
    have w76 : dt69 10 3 = dt 10 3 := (hF71 10 (by decide) 3).trans w13
    have w77 : dt69 12 3 = dt 12 3 := (hF71 12 (by decide) 3).trans w14
    have w78 : dt69 14 3 = dt 14 3 := (hF71 14 (by decide) 3).trans w15
    have w79 : dt69 16 3 = dt 16 3 := (hF71 16 (by decide) 3).trans w16
    have w80 : dt69 18 0 = dt 18 0 := (hF71 18 (by decide) 0).trans w17
    have w81 : dt69 24 3 = dt 24 3 := (hF71 24 (by decide) 3).trans w18
    have w82 : dt69 27 3 = dt 27 3 := (hF71 27 (by decide) 3).trans w19
    have w83 : dt69 29 3 = dt 29 3 := (hF71 29 (by decide) 3).trans w20
    have w84 : dt69 31 3 = dt 31 3 := (hF71 31 (by decide) 3).trans w21
    have w85 : dt69 33 3 = dt 33 3 := (hF71 33 (by decide) 3).trans w22
    have w86 : dt69 0 2 = dt 0 2 := (hF71 0 (by decide) 2).trans w23
    have w87 : dt69 35 1 = dt 35 1 := (hF71 35 (by decide) 1).trans w24
    have w88 : dt69 35 2 = dt 35 2 := (hF71 35 (by decide) 2).trans w25
    have w89 : dt69 35 3 = dt 35 3 := (hF71 35 (by decide) 3).trans w26
    have w90 : dt69 80 0 = dt 80 0 := (hF71 80 (by decide) 0).trans w27
    have w91 : dt69 80 1 = dt 80 1 := (hF71 80 (by decide) 1).trans w28
    have w92 : dt69 80 2 = dt 80 2 := (hF71 80 (by decide) 2).trans w29
    have w93 : dt69 80 3 = dt 80 3 := (hF71 80 (by decide) 3).trans w30
    have w94 : dt69 80 4 = dt 80 4 := (hF71 80 (by decide) 4).trans w31
    have w95 : dt69 80 5 = dt 80 5 := (hF71 80 (by decide) 5).trans w32
    have w96 : dt69 81 0 = dt 81 0 := (hF71 81 (by decide) 0).trans w33
    have w97 : dt69 81 1 = dt 81 1 := (hF71 81 (by decide) 1).trans w34
    have w98 : dt69 81 2 = dt 81 2 := (hF71 81 (by decide) 2).trans w35
    have w99 : dt69 81 3 = dt 81 3 := (hF71 81 (by decide) 3).trans w36
    have w100 : dt69 81 4 = dt 81 4 := (hF71 81 (by decide) 4).trans w37
    have w101 : dt69 81 5 = dt 81 5 := (hF71 81 (by decide) 5).trans w38
    have w102 : dt69 79 2 = dt 79 2 := (hF71 79 (by decide) 2).trans w39
    have w103 : dt69 79 12 = dt 79 12 := (hF71 79 (by decide) 12).trans w40
    have w104 : dt69 79 19 = dt 79 19 := (hF71 79 (by decide) 19).trans w41
    have w105 : dt69 79 21 = dt 79 21 := (hF71 79 (by decide) 21).trans w42
    rcases h68 with ⟨rfl, h68⟩ | ⟨v_h68, rfl, h68r, h68⟩
    · skip
      have M2106 : MW (dt69 81) := MW_frk M243 hF71 (by decide)
      have C107 : ∀ j : Nat, dt69 2 j = dt 2 j := fun j => (hF71 2 (by decide) j).trans (C44 j)
      have C108 : ∀ j : Nat, dt69 3 j = dt 3 j := fun j => (hF71 3 (by decide) j).trans (C45 j)
      have C109 : ∀ j : Nat, dt69 4 j = dt 4 j := fun j => (hF71 4 (by decide) j).trans (C46 j)
      have C110 : ∀ j : Nat, dt69 5 j = dt 5 j := fun j => (hF71 5 (by decide) j).trans (C47 j)
      have C111 : ∀ j : Nat, dt69 6 j = dt 6 j := fun j => (hF71 6 (by decide) j).trans (C48 j)
      have C112 : ∀ j : Nat, dt69 8 j = dt 8 j := fun j => (hF71 8 (by decide) j).trans (C49 j)
      have C113 : ∀ j : Nat, dt69 9 j = dt 9 j := fun j => (hF71 9 (by decide) j).trans (C50 j)
      have C114 : ∀ j : Nat, dt69 11 j = dt 11 j := fun j => (hF71 11 (by decide) j).trans (C51 j)
      have C115 : ∀ j : Nat, dt69 19 j = dt 19 j := fun j => (hF71 19 (by decide) j).trans (C52 j)
      have C116 : ∀ j : Nat, dt69 20 j = dt 20 j := fun j => (hF71 20 (by decide) j).trans (C53 j)
      have C117 : ∀ j : Nat, dt69 21 j = dt 21 j := fun j => (hF71 21 (by decide) j).trans (C54 j)
      have C118 : ∀ j : Nat, dt69 22 j = dt 22 j := fun j => (hF71 22 (by decide) j).trans (C55 j)
      have C119 : ∀ j : Nat, dt69 23 j = dt 23 j := fun j => (hF71 23 (by decide) j).trans (C56 j)
      have C120 : ∀ j : Nat, dt69 25 j = dt 25 j := fun j => (hF71 25 (by decide) j).trans (C57 j)
      have C121 : ∀ j : Nat, dt69 26 j = dt 26 j := fun j => (hF71 26 (by decide) j).trans (C58 j)
      have C122 : ∀ j : Nat, dt69 28 j = dt 28 j := fun j => (hF71 28 (by decide) j).trans (C59 j)
      have C123 : ∀ j : Nat, dt69 36 j = dt 36 j := fun j => (hF71 36 (by decide) j).trans (C60 j)
      have C124 : ∀ j : Nat, dt69 80 j = dt 80 j := fun j => (hF71 80 (by decide) j).trans (C61 j)
      have C125 : ∀ j : Nat, dt69 81 j = dt 81 j := fun j => (hF71 81 (by decide) j).trans (C62 j)
      have C126 : ∀ j : Nat, dt69 85 j = dt 85 j := fun j => (hF71 85 (by decide) j).trans (C63 j)
      refine go_toq PM267 (k := 2) (pc' := 1435) (L' := [some (.inr (.inr (some 3000))), some (.inr (.inr (some 0))), some (.inr (.inr (some 79))), some (.inl i)]) (st' := []) (w' := (SH, dt69)) rfl ?_
      exact K dt69 hI70 hM73 M2106 (w74.trans (hk0.trans w90.symm)) (w75.trans (hk1.trans w91.symm)) (w76.trans (hk2.trans w92.symm)) (w77.trans (hk3.trans w93.symm)) (w78.trans (hk4.trans w94.symm)) (w79.trans (hk5.trans w95.symm)) (w80.trans (hk6.trans w96.symm)) (w81.trans (hk7.trans w97.symm)) (w82.trans (hk8.trans w98.symm)) (w83.trans (hk9.trans w99.symm)) (w84.trans (hk10.trans w100.symm)) (w85.trans (hk11.trans w101.symm)) (w86.trans (hk12.trans w102.symm)) (w87.trans (hk13.trans w103.symm)) (w88.trans (hk14.trans w104.symm)) (w89.trans (hk15.trans w105.symm)) (by first | exact hI | exact TPL_k hd0 C123 C126 (by omega) | (exfalso; omega)) (by first | exact hI | exact SCL_k hd1 hM (fun j _ => C107 j) (fun j _ => C108 j) (fun j _ _ => C124 j) | (exfalso; omega)) (by first | exact hI | exact SCL_k hd2 hM2 (fun j _ => C115 j) (fun j _ => C116 j) (fun j _ _ => C125 j) | (exfalso; omega)) (by first | exact hI | exact QRL_k hd3 hM (fun j _ => C112 j) (C124 1) (fun j _ _ => C124 j) | (exfalso; omega)) (by first | exact hI | exact QRL_k hd4 hM2 (fun j _ => C120 j) (C125 1) (fun j _ _ => C125 j) | (exfalso; omega)) (by first | exact hI | exact SDL_k hd5 hM (fun j _ => C113 j) (C124 1) (fun j _ _ => C124 j) (fun j _ _ => C124 j) | (exfalso; omega)) (by first | exact hI | exact SDL_k hd6 hM2 (fun j _ => C121 j) (C125 1) (fun j _ _ => C125 j) (fun j _ _ => C125 j) | (exfalso; omega)) (by first | exact hI | exact LWL_k hd7 hM (fun j _ => C109 j) (fun j _ => C110 j) (fun j _ => C111 j) (fun j _ _ => C124 j) | (exfalso; omega)) (by first | exact hI | exact LWL_k hd8 hM2 (fun j _ => C117 j) (fun j _ => C118 j) (fun j _ => C119 j) (fun j _ _ => C125 j) | (exfalso; omega)) (by first | exact hI | exact CHL_k hd9 hM (fun j _ => C114 j) (by omega) (fun j _ _ => C124 j) | (exfalso; omega)) (by first | exact hI | exact CHL_k hd10 hM2 (fun j _ => C122 j) (by omega) (fun j _ _ => C125 j) | (exfalso; omega))
    · skip
      obtain ⟨h68_0, h68_1⟩ := h68
      have M2127 : MW (dt69 81) := MW_frk M243 hF71 (by decide)
      rw [show dt6 80 = dt 80 from funext C61] at h68_1
      have C128 : ∀ j : Nat, dt69 2 j = dt 2 j := fun j => (hF71 2 (by decide) j).trans (C44 j)
      have C129 : ∀ j : Nat, dt69 3 j = dt 3 j := fun j => (hF71 3 (by decide) j).trans (C45 j)
      have C130 : ∀ j : Nat, dt69 4 j = dt 4 j := fun j => (hF71 4 (by decide) j).trans (C46 j)
      have C131 : ∀ j : Nat, dt69 5 j = dt 5 j := fun j => (hF71 5 (by decide) j).trans (C47 j)
      have C132 : ∀ j : Nat, dt69 6 j = dt 6 j := fun j => (hF71 6 (by decide) j).trans (C48 j)
      have C133 : ∀ j : Nat, dt69 8 j = dt 8 j := fun j => (hF71 8 (by decide) j).trans (C49 j)
      have C134 : ∀ j : Nat, dt69 9 j = dt 9 j := fun j => (hF71 9 (by decide) j).trans (C50 j)
      have C135 : ∀ j : Nat, dt69 11 j = dt 11 j := fun j => (hF71 11 (by decide) j).trans (C51 j)
      have C136 : ∀ j : Nat, dt69 19 j = dt 19 j := fun j => (hF71 19 (by decide) j).trans (C52 j)
      have C137 : ∀ j : Nat, dt69 20 j = dt 20 j := fun j => (hF71 20 (by decide) j).trans (C53 j)
      have C138 : ∀ j : Nat, dt69 21 j = dt 21 j := fun j => (hF71 21 (by decide) j).trans (C54 j)
      have C139 : ∀ j : Nat, dt69 22 j = dt 22 j := fun j => (hF71 22 (by decide) j).trans (C55 j)
      have C140 : ∀ j : Nat, dt69 23 j = dt 23 j := fun j => (hF71 23 (by decide) j).trans (C56 j)
      have C141 : ∀ j : Nat, dt69 25 j = dt 25 j := fun j => (hF71 25 (by decide) j).trans (C57 j)
      have C142 : ∀ j : Nat, dt69 26 j = dt 26 j := fun j => (hF71 26 (by decide) j).trans (C58 j)
      have C143 : ∀ j : Nat, dt69 28 j = dt 28 j := fun j => (hF71 28 (by decide) j).trans (C59 j)
      have C144 : ∀ j : Nat, dt69 36 j = dt 36 j := fun j => (hF71 36 (by decide) j).trans (C60 j)
      have C145 : ∀ j : Nat, dt69 80 j = dt 80 j := fun j => (hF71 80 (by decide) j).trans (C61 j)
      have C146 : ∀ j : Nat, dt69 81 j = dt 81 j := fun j => (hF71 81 (by decide) j).trans (C62 j)
      have C147 : ∀ j : Nat, dt69 85 j = dt 85 j := fun j => (hF71 85 (by decide) j).trans (C63 j)
      refine go_toq PM267 (k := 2) (pc' := 1435) (L' := [some (.inr (.inr (some 3000))), some (.inr (.inr (some 0))), some (.inr (.inr (some 79))), some (.inl i)]) (st' := []) (w' := (SH, dt69)) rfl ?_
      exact K dt69 hI70 hM73 M2127 (w74.trans (hk0.trans w90.symm)) (w75.trans (hk1.trans w91.symm)) (w76.trans (hk2.trans w92.symm)) (w77.trans (hk3.trans w93.symm)) (w78.trans (hk4.trans w94.symm)) (w79.trans (hk5.trans w95.symm)) (w80.trans (hk6.trans w96.symm)) (w81.trans (hk7.trans w97.symm)) (w82.trans (hk8.trans w98.symm)) (w83.trans (hk9.trans w99.symm)) (w84.trans (hk10.trans w100.symm)) (w85.trans (hk11.trans w101.symm)) (w86.trans (hk12.trans w102.symm)) (w87.trans (hk13.trans w103.symm)) (w88.trans (hk14.trans w104.symm)) (w89.trans (hk15.trans w105.symm)) (by first | exact hI | exact TPL_k hd0 C144 C147 (by omega) | (exfalso; omega)) (by first | exact hI | exact SCL_k hd1 hM (fun j _ => C128 j) (fun j _ => C129 j) (fun j _ _ => C145 j) | (exfalso; omega)) (by first | exact hI | exact SCL_k hd2 hM2 (fun j _ => C136 j) (fun j _ => C137 j) (fun j _ _ => C146 j) | (exfalso; omega)) (by first | exact hI | exact QRL_k hd3 hM (fun j _ => C133 j) (C145 1) (fun j _ _ => C145 j) | (exfalso; omega)) (by first | exact hI | exact QRL_k hd4 hM2 (fun j _ => C141 j) (C146 1) (fun j _ _ => C146 j) | (exfalso; omega)) (by first | exact hI | exact SDL_k hd5 hM (fun j _ => C134 j) (C145 1) (fun j _ _ => C145 j) (fun j _ _ => C145 j) | (exfalso; omega)) (by first | exact hI | exact SDL_k hd6 hM2 (fun j _ => C142 j) (C146 1) (fun j _ _ => C146 j) (fun j _ _ => C146 j) | (exfalso; omega)) (by first | exact hI | exact LWL_k hd7 hM (fun j _ => C130 j) (fun j _ => C131 j) (fun j _ => C132 j) (fun j _ _ => C145 j) | (exfalso; omega)) (by first | exact hI | exact LWL_k hd8 hM2 (fun j _ => C138 j) (fun j _ => C139 j) (fun j _ => C140 j) (fun j _ _ => C146 j) | (exfalso; omega)) (by first | exact hI | exact CHL_k hd9 hM (fun j _ => C135 j) (by omega) (fun j _ _ => C145 j) | (exfalso; omega)) (by first | exact hI | exact CHL_k hd10 hM2 (fun j _ => C143 j) (by omega) (fun j _ _ => C146 j) | (exfalso; omega))
  · skip
    obtain ⟨h5_0, h5_1⟩ := h5
    have M2148 : MW (dt6 81) := MW_frk hM2 hF8 (by decide)
    have C149 : ∀ j : Nat, dt6 2 j = dt 2 j := fun j => (hF8 2 (by decide) j).trans ((fun _ => rfl) j)
    have C150 : ∀ j : Nat, dt6 3 j = dt 3 j := fun j => (hF8 3 (by decide) j).trans ((fun _ => rfl) j)
    have C151 : ∀ j : Nat, dt6 4 j = dt 4 j := fun j => (hF8 4 (by decide) j).trans ((fun _ => rfl) j)
    have C152 : ∀ j : Nat, dt6 5 j = dt 5 j := fun j => (hF8 5 (by decide) j).trans ((fun _ => rfl) j)
    have C153 : ∀ j : Nat, dt6 6 j = dt 6 j := fun j => (hF8 6 (by decide) j).trans ((fun _ => rfl) j)
    have C154 : ∀ j : Nat, dt6 8 j = dt 8 j := fun j => (hF8 8 (by decide) j).trans ((fun _ => rfl) j)
    have C155 : ∀ j : Nat, dt6 9 j = dt 9 j := fun j => (hF8 9 (by decide) j).trans ((fun _ => rfl) j)
    have C156 : ∀ j : Nat, dt6 11 j = dt 11 j := fun j => (hF8 11 (by decide) j).trans ((fun _ => rfl) j)
    have C157 : ∀ j : Nat, dt6 19 j = dt 19 j := fun j => (hF8 19 (by decide) j).trans ((fun _ => rfl) j)
    have C158 : ∀ j : Nat, dt6 20 j = dt 20 j := fun j => (hF8 20 (by decide) j).trans ((fun _ => rfl) j)
    have C159 : ∀ j : Nat, dt6 21 j = dt 21 j := fun j => (hF8 21 (by decide) j).trans ((fun _ => rfl) j)
    have C160 : ∀ j : Nat, dt6 22 j = dt 22 j := fun j => (hF8 22 (by decide) j).trans ((fun _ => rfl) j)
    have C161 : ∀ j : Nat, dt6 23 j = dt 23 j := fun j => (hF8 23 (by decide) j).trans ((fun _ => rfl) j)
    have C162 : ∀ j : Nat, dt6 25 j = dt 25 j := fun j => (hF8 25 (by decide) j).trans ((fun _ => rfl) j)
    have C163 : ∀ j : Nat, dt6 26 j = dt 26 j := fun j => (hF8 26 (by decide) j).trans ((fun _ => rfl) j)
    have C164 : ∀ j : Nat, dt6 28 j = dt 28 j := fun j => (hF8 28 (by decide) j).trans ((fun _ => rfl) j)
    have C165 : ∀ j : Nat, dt6 36 j = dt 36 j := fun j => (hF8 36 (by decide) j).trans ((fun _ => rfl) j)
    have C166 : ∀ j : Nat, dt6 80 j = dt 80 j := fun j => (hF8 80 (by decide) j).trans ((fun _ => rfl) j)
    have C167 : ∀ j : Nat, dt6 81 j = dt 81 j := fun j => (hF8 81 (by decide) j).trans ((fun _ => rfl) j)
    have C168 : ∀ j : Nat, dt6 85 j = dt 85 j := fun j => (hF8 85 (by decide) j).trans ((fun _ => rfl) j)
    refine go_toq PM267 (k := 6) (pc' := 673) (L' := [some (.inr (.inr (some 3000))), some (.inr (.inr (some 0))), some (.inr (.inr (some 79))), some (.inl i)]) (st' := [.inl (i + 1), .inr (.inr (some 3000)), .inr (.inr (some 79))]) (w' := (SH, dt6)) rfl ?_
    have r169 := i32_R (xs ((i + 1).toNat))
    refine go_smpq PM267 (L' := [some (.inr (.inr (some 3000))), some (.inr (.inr (some 0))), some (.inr (.inr (some 79))), some (.inl i)]) (st' := [.inl ((xs ((i + 1).toNat)).toInt), .inr (.inr (some 79))]) (w' := (SH, dt6)) rfl rfl (s_iald (n := L) (f := fun j => (xs j).toInt) (am_scr hLL) ⟨by omega, by omega⟩) ?_
    refine go_toq PM267 (k := 4) (pc' := 678) (L' := [some (.inr (.inr (some 3000))), some (.inr (.inr (some 0))), some (.inr (.inr (some 79))), some (.inl i)]) (st' := [.inl (i + 2), .inr (.inr (some 3000)), .inl ((xs ((i + 1).toNat)).toInt), .inr (.inr (some 79))]) (w' := (SH, dt6)) rfl ?_
    have r170 := i32_R (xs ((i + 2).toNat))
    refine go_smpq PM267 (L' := [some (.inr (.inr (some 3000))), some (.inr (.inr (some 0))), some (.inr (.inr (some 79))), some (.inl i)]) (st' := [.inl ((xs ((i + 2).toNat)).toInt), .inl ((xs ((i + 1).toNat)).toInt), .inr (.inr (some 79))]) (w' := (SH, dt6)) rfl rfl (s_iald (n := L) (f := fun j => (xs j).toInt) (am_scr hLL) ⟨by omega, by omega⟩) ?_
    refine go_toq PM267 (k := 4) (pc' := 683) (L' := [some (.inr (.inr (some 3000))), some (.inr (.inr (some 0))), some (.inr (.inr (some 79))), some (.inl i)]) (st' := [.inl (i + 3), .inr (.inr (some 3000)), .inl ((xs ((i + 2).toNat)).toInt), .inl ((xs ((i + 1).toNat)).toInt), .inr (.inr (some 79))]) (w' := (SH, dt6)) rfl ?_
    have r171 := i32_R (xs ((i + 3).toNat))
    refine go_smpq PM267 (L' := [some (.inr (.inr (some 3000))), some (.inr (.inr (some 0))), some (.inr (.inr (some 79))), some (.inl i)]) (st' := [.inl ((xs ((i + 3).toNat)).toInt), .inl ((xs ((i + 2).toNat)).toInt), .inl ((xs ((i + 1).toNat)).toInt), .inr (.inr (some 79))]) (w' := (SH, dt6)) rfl rfl (s_iald (n := L) (f := fun j => (xs j).toInt) (am_scr hLL) ⟨by omega, by omega⟩) ?_
    refine go_toq PM267 (k := 4) (pc' := 688) (L' := [some (.inr (.inr (some 3000))), some (.inr (.inr (some 0))), some (.inr (.inr (some 79))), some (.inl i)]) (st' := [.inl (i + 4), .inr (.inr (some 3000)), .inl ((xs ((i + 3).toNat)).toInt), .inl ((xs ((i + 2).toNat)).toInt), .inl ((xs ((i + 1).toNat)).toInt), .inr (.inr (some 79))]) (w' := (SH, dt6)) rfl ?_
    have r172 := i32_R (xs ((i + 4).toNat))
    refine go_smpq PM267 (L' := [some (.inr (.inr (some 3000))), some (.inr (.inr (some 0))), some (.inr (.inr (some 79))), some (.inl i)]) (st' := [.inl ((xs ((i + 4).toNat)).toInt), .inl ((xs ((i + 3).toNat)).toInt), .inl ((xs ((i + 2).toNat)).toInt), .inl ((xs ((i + 1).toNat)).toInt), .inr (.inr (some 79))]) (w' := (SH, dt6)) rfl rfl (s_iald (n := L) (f := fun j => (xs j).toInt) (am_scr hLL) ⟨by omega, by omega⟩) ?_
    refine go_callq PM267 PM207 (Q' := _) rfl rfl rfl rfl (sp_X6_weight_f L xs sio (d + 32) dt6 hI7 hM10  ((xs ((i + 1).toNat)).toInt) ⟨by omega, by omega⟩ ((xs ((i + 2).toNat)).toInt) ⟨by omega, by omega⟩ ((xs ((i + 3).toNat)).toInt) ⟨by omega, by omega⟩ ((xs ((i + 4).toNat)).toInt) ⟨by omega, by omega⟩ ) ?_
    rintro _ _ ⟨dt174, rfl, hI175, hF176, h173⟩
    refine ⟨rfl, ?_⟩
    have hF177 : Fr [0, 1, 2, 3, 4, 5, 6, 7, 8, 9, 10, 11, 12, 13, 14, 15, 16, 17, 18, 19, 20, 21, 22, 23, 24, 25, 26, 27, 28, 29, 30, 31, 32, 33, 34, 35, 36, 37, 38, 39, 40, 41, 42, 43, 44, 45, 46, 47, 48, 49, 50, 51, 52, 53, 54, 55, 56, 57, 58, 59, 60, 61, 62, 63, 64, 65, 66, 67, 68, 69, 70, 71, 72, 73, 74, 75, 76, 77, 78, 79, 80, 81, 82, 83, 84, 85, 86, 87, 88, 89, 90, 91, 92, 93, 94, 95, 96, 97, 98, 99, 100, 101, 102, 103, 104] dt dt174 := Fr_tr hF9 hF176 (by decide)
    have hM178 : MW (dt174 80) := MW_fr hM10 hF176 (by decide)
    have w179 : dt174 1 0 = dt 1 0 := (hF176 1 (by decide) 0).trans w11
    have w180 : dt174 7 3 = dt 7 3 := (hF176 7 (by decide) 3).trans w12
    have w181 : dt174 10 3 = dt 10 3 := (hF176 10 (by decide) 3).trans w13
    have w182 : dt174 12 3 = dt 12 3 := (hF176 12 (by decide) 3).trans w14
    have w183 : dt174 14 3 = dt 14 3 := (hF176 14 (by decide) 3).trans w15
    have w184 : dt174 16 3 = dt 16 3 := (hF176 16 (by decide) 3).trans w16
    have w185 : dt174 18 0 = dt 18 0 := (hF176 18 (by decide) 0).trans w17
    have w186 : dt174 24 3 = dt 24 3 := (hF176 24 (by decide) 3).trans w18
    have w187 : dt174 27 3 = dt 27 3 := (hF176 27 (by decide) 3).trans w19
    have w188 : dt174 29 3 = dt 29 3 := (hF176 29 (by decide) 3).trans w20
    have w189 : dt174 31 3 = dt 31 3 := (hF176 31 (by decide) 3).trans w21
    have w190 : dt174 33 3 = dt 33 3 := (hF176 33 (by decide) 3).trans w22
    have w191 : dt174 0 2 = dt 0 2 := (hF176 0 (by decide) 2).trans w23
    have w192 : dt174 35 1 = dt 35 1 := (hF176 35 (by decide) 1).trans w24
    have w193 : dt174 35 2 = dt 35 2 := (hF176 35 (by decide) 2).trans w25
    have w194 : dt174 35 3 = dt 35 3 := (hF176 35 (by decide) 3).trans w26
    have w195 : dt174 80 0 = dt 80 0 := (hF176 80 (by decide) 0).trans w27
    have w196 : dt174 80 1 = dt 80 1 := (hF176 80 (by decide) 1).trans w28
    have w197 : dt174 80 2 = dt 80 2 := (hF176 80 (by decide) 2).trans w29
    have w198 : dt174 80 3 = dt 80 3 := (hF176 80 (by decide) 3).trans w30
    have w199 : dt174 80 4 = dt 80 4 := (hF176 80 (by decide) 4).trans w31
    have w200 : dt174 80 5 = dt 80 5 := (hF176 80 (by decide) 5).trans w32
    have w201 : dt174 81 0 = dt 81 0 := (hF176 81 (by decide) 0).trans w33
    have w202 : dt174 81 1 = dt 81 1 := (hF176 81 (by decide) 1).trans w34
    have w203 : dt174 81 2 = dt 81 2 := (hF176 81 (by decide) 2).trans w35
    have w204 : dt174 81 3 = dt 81 3 := (hF176 81 (by decide) 3).trans w36
    have w205 : dt174 81 4 = dt 81 4 := (hF176 81 (by decide) 4).trans w37
    have w206 : dt174 81 5 = dt 81 5 := (hF176 81 (by decide) 5).trans w38
    have w207 : dt174 79 2 = dt 79 2 := (hF176 79 (by decide) 2).trans w39
    have w208 : dt174 79 12 = dt 79 12 := (hF176 79 (by decide) 12).trans w40
    have w209 : dt174 79 19 = dt 79 19 := (hF176 79 (by decide) 19).trans w41
    have w210 : dt174 79 21 = dt 79 21 := (hF176 79 (by decide) 21).trans w42
    rcases h173 with ⟨rfl, h173⟩ | ⟨v_h173, rfl, h173r, h173⟩
    · skip
      have M2211 : MW (dt174 81) := MW_frk M2148 hF176 (by decide)
      have C212 : ∀ j : Nat, dt174 2 j = dt 2 j := fun j => (hF176 2 (by decide) j).trans (C149 j)
      have C213 : ∀ j : Nat, dt174 3 j = dt 3 j := fun j => (hF176 3 (by decide) j).trans (C150 j)
      have C214 : ∀ j : Nat, dt174 4 j = dt 4 j := fun j => (hF176 4 (by decide) j).trans (C151 j)
      have C215 : ∀ j : Nat, dt174 5 j = dt 5 j := fun j => (hF176 5 (by decide) j).trans (C152 j)
      have C216 : ∀ j : Nat, dt174 6 j = dt 6 j := fun j => (hF176 6 (by decide) j).trans (C153 j)
      have C217 : ∀ j : Nat, dt174 8 j = dt 8 j := fun j => (hF176 8 (by decide) j).trans (C154 j)
      have C218 : ∀ j : Nat, dt174 9 j = dt 9 j := fun j => (hF176 9 (by decide) j).trans (C155 j)
      have C219 : ∀ j : Nat, dt174 11 j = dt 11 j := fun j => (hF176 11 (by decide) j).trans (C156 j)
      have C220 : ∀ j : Nat, dt174 19 j = dt 19 j := fun j => (hF176 19 (by decide) j).trans (C157 j)
      have C221 : ∀ j : Nat, dt174 20 j = dt 20 j := fun j => (hF176 20 (by decide) j).trans (C158 j)
      have C222 : ∀ j : Nat, dt174 21 j = dt 21 j := fun j => (hF176 21 (by decide) j).trans (C159 j)
      have C223 : ∀ j : Nat, dt174 22 j = dt 22 j := fun j => (hF176 22 (by decide) j).trans (C160 j)
      have C224 : ∀ j : Nat, dt174 23 j = dt 23 j := fun j => (hF176 23 (by decide) j).trans (C161 j)
      have C225 : ∀ j : Nat, dt174 25 j = dt 25 j := fun j => (hF176 25 (by decide) j).trans (C162 j)
      have C226 : ∀ j : Nat, dt174 26 j = dt 26 j := fun j => (hF176 26 (by decide) j).trans (C163 j)
      have C227 : ∀ j : Nat, dt174 28 j = dt 28 j := fun j => (hF176 28 (by decide) j).trans (C164 j)
      have C228 : ∀ j : Nat, dt174 36 j = dt 36 j := fun j => (hF176 36 (by decide) j).trans (C165 j)
      have C229 : ∀ j : Nat, dt174 80 j = dt 80 j := fun j => (hF176 80 (by decide) j).trans (C166 j)
      have C230 : ∀ j : Nat, dt174 81 j = dt 81 j := fun j => (hF176 81 (by decide) j).trans (C167 j)
      have C231 : ∀ j : Nat, dt174 85 j = dt 85 j := fun j => (hF176 85 (by decide) j).trans (C168 j)
      refine go_toq PM267 (k := 2) (pc' := 1435) (L' := [some (.inr (.inr (some 3000))), some (.inr (.inr (some 0))), some (.inr (.inr (some 79))), some (.inl i)]) (st' := []) (w' := (SH, dt174)) rfl ?_
      exact K dt174 hI175 hM178 M2211 (w179.trans (hk0.trans w195.symm)) (w180.trans (hk1.trans w196.symm)) (w181.trans (hk2.trans w197.symm)) (w182.trans (hk3.trans w198.symm)) (w183.trans (hk4.trans w199.symm)) (w184.trans (hk5.trans w200.symm)) (w185.trans (hk6.trans w201.symm)) (w186.trans (hk7.trans w202.symm)) (w187.trans (hk8.trans w203.symm)) (w188.trans (hk9.trans w204.symm)) (w189.trans (hk10.trans w205.symm)) (w190.trans (hk11.trans w206.symm)) (w191.trans (hk12.trans w207.symm)) (w192.trans (hk13.trans w208.symm)) (w193.trans (hk14.trans w209.symm)) (w194.trans (hk15.trans w210.symm)) (by first | exact hI | exact TPL_k hd0 C228 C231 (by omega) | (exfalso; omega)) (by first | exact hI | exact SCL_k hd1 hM (fun j _ => C212 j) (fun j _ => C213 j) (fun j _ _ => C229 j) | (exfalso; omega)) (by first | exact hI | exact SCL_k hd2 hM2 (fun j _ => C220 j) (fun j _ => C221 j) (fun j _ _ => C230 j) | (exfalso; omega)) (by first | exact hI | exact QRL_k hd3 hM (fun j _ => C217 j) (C229 1) (fun j _ _ => C229 j) | (exfalso; omega)) (by first | exact hI | exact QRL_k hd4 hM2 (fun j _ => C225 j) (C230 1) (fun j _ _ => C230 j) | (exfalso; omega)) (by first | exact hI | exact SDL_k hd5 hM (fun j _ => C218 j) (C229 1) (fun j _ _ => C229 j) (fun j _ _ => C229 j) | (exfalso; omega)) (by first | exact hI | exact SDL_k hd6 hM2 (fun j _ => C226 j) (C230 1) (fun j _ _ => C230 j) (fun j _ _ => C230 j) | (exfalso; omega)) (by first | exact hI | exact LWL_k hd7 hM (fun j _ => C214 j) (fun j _ => C215 j) (fun j _ => C216 j) (fun j _ _ => C229 j) | (exfalso; omega)) (by first | exact hI | exact LWL_k hd8 hM2 (fun j _ => C222 j) (fun j _ => C223 j) (fun j _ => C224 j) (fun j _ _ => C230 j) | (exfalso; omega)) (by first | exact hI | exact CHL_k hd9 hM (fun j _ => C219 j) (by omega) (fun j _ _ => C229 j) | (exfalso; omega)) (by first | exact hI | exact CHL_k hd10 hM2 (fun j _ => C227 j) (by omega) (fun j _ _ => C230 j) | (exfalso; omega))
    · skip
      obtain ⟨h173_0, h173_1⟩ := h173
      have M2232 : MW (dt174 81) := MW_frk M2148 hF176 (by decide)
      rw [show dt6 80 = dt 80 from funext C166] at h173_1
      have C233 : ∀ j : Nat, dt174 2 j = dt 2 j := fun j => (hF176 2 (by decide) j).trans (C149 j)
      have C234 : ∀ j : Nat, dt174 3 j = dt 3 j := fun j => (hF176 3 (by decide) j).trans (C150 j)
      have C235 : ∀ j : Nat, dt174 4 j = dt 4 j := fun j => (hF176 4 (by decide) j).trans (C151 j)
      have C236 : ∀ j : Nat, dt174 5 j = dt 5 j := fun j => (hF176 5 (by decide) j).trans (C152 j)
      have C237 : ∀ j : Nat, dt174 6 j = dt 6 j := fun j => (hF176 6 (by decide) j).trans (C153 j)
      have C238 : ∀ j : Nat, dt174 8 j = dt 8 j := fun j => (hF176 8 (by decide) j).trans (C154 j)
      have C239 : ∀ j : Nat, dt174 9 j = dt 9 j := fun j => (hF176 9 (by decide) j).trans (C155 j)
      have C240 : ∀ j : Nat, dt174 11 j = dt 11 j := fun j => (hF176 11 (by decide) j).trans (C156 j)
      have C241 : ∀ j : Nat, dt174 19 j = dt 19 j := fun j => (hF176 19 (by decide) j).trans (C157 j)
      have C242 : ∀ j : Nat, dt174 20 j = dt 20 j := fun j => (hF176 20 (by decide) j).trans (C158 j)
      have C243 : ∀ j : Nat, dt174 21 j = dt 21 j := fun j => (hF176 21 (by decide) j).trans (C159 j)
      have C244 : ∀ j : Nat, dt174 22 j = dt 22 j := fun j => (hF176 22 (by decide) j).trans (C160 j)
      have C245 : ∀ j : Nat, dt174 23 j = dt 23 j := fun j => (hF176 23 (by decide) j).trans (C161 j)
      have C246 : ∀ j : Nat, dt174 25 j = dt 25 j := fun j => (hF176 25 (by decide) j).trans (C162 j)
      have C247 : ∀ j : Nat, dt174 26 j = dt 26 j := fun j => (hF176 26 (by decide) j).trans (C163 j)
      have C248 : ∀ j : Nat, dt174 28 j = dt 28 j := fun j => (hF176 28 (by decide) j).trans (C164 j)
      have C249 : ∀ j : Nat, dt174 36 j = dt 36 j := fun j => (hF176 36 (by decide) j).trans (C165 j)
      have C250 : ∀ j : Nat, dt174 80 j = dt 80 j := fun j => (hF176 80 (by decide) j).trans (C166 j)
      have C251 : ∀ j : Nat, dt174 81 j = dt 81 j := fun j => (hF176 81 (by decide) j).trans (C167 j)
      have C252 : ∀ j : Nat, dt174 85 j = dt 85 j := fun j => (hF176 85 (by decide) j).trans (C168 j)
      refine go_toq PM267 (k := 2) (pc' := 1435) (L' := [some (.inr (.inr (some 3000))), some (.inr (.inr (some 0))), some (.inr (.inr (some 79))), some (.inl i)]) (st' := []) (w' := (SH, dt174)) rfl ?_
      exact K dt174 hI175 hM178 M2232 (w179.trans (hk0.trans w195.symm)) (w180.trans (hk1.trans w196.symm)) (w181.trans (hk2.trans w197.symm)) (w182.trans (hk3.trans w198.symm)) (w183.trans (hk4.trans w199.symm)) (w184.trans (hk5.trans w200.symm)) (w185.trans (hk6.trans w201.symm)) (w186.trans (hk7.trans w202.symm)) (w187.trans (hk8.trans w203.symm)) (w188.trans (hk9.trans w204.symm)) (w189.trans (hk10.trans w205.symm)) (w190.trans (hk11.trans w206.symm)) (w191.trans (hk12.trans w207.symm)) (w192.trans (hk13.trans w208.symm)) (w193.trans (hk14.trans w209.symm)) (w194.trans (hk15.trans w210.symm)) (by first | exact hI | exact TPL_k hd0 C249 C252 (by omega) | (exfalso; omega)) (by first | exact hI | exact SCL_k hd1 hM (fun j _ => C233 j) (fun j _ => C234 j) (fun j _ _ => C250 j) | (exfalso; omega)) (by first | exact hI | exact SCL_k hd2 hM2 (fun j _ => C241 j) (fun j _ => C242 j) (fun j _ _ => C251 j) | (exfalso; omega)) (by first | exact hI | exact QRL_k hd3 hM (fun j _ => C238 j) (C250 1) (fun j _ _ => C250 j) | (exfalso; omega)) (by first | exact hI | exact QRL_k hd4 hM2 (fun j _ => C246 j) (C251 1) (fun j _ _ => C251 j) | (exfalso; omega)) (by first | exact hI | exact SDL_k hd5 hM (fun j _ => C239 j) (C250 1) (fun j _ _ => C250 j) (fun j _ _ => C250 j) | (exfalso; omega)) (by first | exact hI | exact SDL_k hd6 hM2 (fun j _ => C247 j) (C251 1) (fun j _ _ => C251 j) (fun j _ _ => C251 j) | (exfalso; omega)) (by first | exact hI | exact LWL_k hd7 hM (fun j _ => C235 j) (fun j _ => C236 j) (fun j _ => C237 j) (fun j _ _ => C250 j) | (exfalso; omega)) (by first | exact hI | exact LWL_k hd8 hM2 (fun j _ => C243 j) (fun j _ => C244 j) (fun j _ => C245 j) (fun j _ _ => C251 j) | (exfalso; omega)) (by first | exact hI | exact CHL_k hd9 hM (fun j _ => C240 j) (by omega) (fun j _ _ => C250 j) | (exfalso; omega)) (by first | exact hI | exact CHL_k hd10 hM2 (fun j _ => C248 j) (by omega) (fun j _ _ => C251 j) | (exfalso; omega))
set_option maxRecDepth 20000 in
set_option maxHeartbeats 8000000 in
theorem sp_case12 (L : Nat) (xs : Nat → Int32) (sio : Option Nat) (d : Nat) (Q : Option AV → am_W → Prop) (hLL : L ≤ 3072) (i : Int) (hi : 0 ≤ i ∧ i ≤ 3066) (hil : i ≤ (L : Int) - 6) (dt : Nat → Nat → Int) (hI : InvC dt) (hM : MW (dt 80)) (hM2 : MW (dt 81)) (hk0 : dt 1 0 = dt 80 0) (hk1 : dt 7 3 = dt 80 1) (hk2 : dt 10 3 = dt 80 2) (hk3 : dt 12 3 = dt 80 3) (hk4 : dt 14 3 = dt 80 4) (hk5 : dt 16 3 = dt 80 5) (hk6 : dt 18 0 = dt 81 0) (hk7 : dt 24 3 = dt 81 1) (hk8 : dt 27 3 = dt 81 2) (hk9 : dt 29 3 = dt 81 3) (hk10 : dt 31 3 = dt 81 4) (hk11 : dt 33 3 = dt 81 5) (hk12 : dt 0 2 = dt 79 2) (hk13 : dt 35 1 = dt 79 12) (hk14 : dt 35 2 = dt 79 19) (hk15 : dt 35 3 = dt 79 21) (hd0 : TPL (dt 36) (dt 85) (dt 35 1)) (hd1 : SCL (dt 2) (dt 3) (dt 80)) (hd2 : SCL (dt 19) (dt 20) (dt 81)) (hd3 : QRL (dt 8) (dt 80)) (hd4 : QRL (dt 25) (dt 81)) (hd5 : SDL (dt 9) (dt 80)) (hd6 : SDL (dt 26) (dt 81)) (hd7 : LWL (dt 4) (dt 5) (dt 6) (dt 80)) (hd8 : LWL (dt 21) (dt 22) (dt 23) (dt 81)) (hd9 : CHL (dt 11) (dt 80)) (hd10 : CHL (dt 28) (dt 81)) (K : ∀ (dt : Nat → Nat → Int) (hI : InvC dt) (hM : MW (dt 80)) (hM2 : MW (dt 81)) (hk0 : dt 1 0 = dt 80 0) (hk1 : dt 7 3 = dt 80 1) (hk2 : dt 10 3 = dt 80 2) (hk3 : dt 12 3 = dt 80 3) (hk4 : dt 14 3 = dt 80 4) (hk5 : dt 16 3 = dt 80 5) (hk6 : dt 18 0 = dt 81 0) (hk7 : dt 24 3 = dt 81 1) (hk8 : dt 27 3 = dt 81 2) (hk9 : dt 29 3 = dt 81 3) (hk10 : dt 31 3 = dt 81 4) (hk11 : dt 33 3 = dt 81 5) (hk12 : dt 0 2 = dt 79 2) (hk13 : dt 35 1 = dt 79 12) (hk14 : dt 35 2 = dt 79 19) (hk15 : dt 35 3 = dt 79 21) (hd0 : TPL (dt 36) (dt 85) (dt 35 1)) (hd1 : SCL (dt 2) (dt 3) (dt 80)) (hd2 : SCL (dt 19) (dt 20) (dt 81)) (hd3 : QRL (dt 8) (dt 80)) (hd4 : QRL (dt 25) (dt 81)) (hd5 : SDL (dt 9) (dt 80)) (hd6 : SDL (dt 26) (dt 81)) (hd7 : LWL (dt 4) (dt 5) (dt 6) (dt 80)) (hd8 : LWL (dt 21) (dt 22) (dt 23) (dt 81)) (hd9 : CHL (dt 11) (dt 80)) (hd10 : CHL (dt 28) (dt 81)), GO (am_XX L xs sio) (d + 39) 267 1435 [some (.inr (.inr (some 3000))), some (.inr (.inr (some 0))), some (.inr (.inr (some 79))), some (.inl i)] [] (SH, dt) Q) : GO (am_XX L xs sio) (d + 39) 267 696 [some (.inr (.inr (some 3000))), some (.inr (.inr (some 0))), some (.inr (.inr (some 79))), some (.inl i)] [] (SH, dt) Q := by
  have hF : Fr [0, 1, 2, 3, 4, 5, 6, 7, 8, 9, 10, 11, 12, 13, 14, 15, 16, 17, 18, 19, 20, 21, 22, 23, 24, 25, 26, 27, 28, 29, 30, 31, 32, 33, 34, 35, 36, 37, 38, 39, 40, 41, 42, 43, 44, 45, 46, 47, 48, 49, 50, 51, 52, 53, 54, 55, 56, 57, 58, 59, 60, 61, 62, 63, 64, 65, 66, 67, 68, 69, 70, 71, 72, 73, 74, 75, 76, 77, 78, 79, 80, 81, 82, 83, 84, 85, 86, 87, 88, 89, 90, 91, 92, 93, 94, 95, 96, 97, 98, 99, 100, 101, 102, 103, 104] dt dt := Fr_refl
  have hqo := QOC_R hd3 hM hk1
  have hb1_ := hM.1.1
  have hb2_ := hM.1.2.1
  have hb3_ := hM.1.2.2.1
  have halk : ALK dt (dt 80) := ⟨hd7, hd3, hd5, hd9, hk1, hk2⟩
  have r1 : (-2147483648) ≤ dt 1 0 ∧ dt 1 0 ≤ 2147483647 := InvC_get hI 1 0 rfl rfl
  have r2 : 0 ≤ dt 7 3 ∧ dt 7 3 ≤ 12 := InvC_get hI 7 3 rfl rfl
  have r3 : 0 ≤ dt 10 3 ∧ dt 10 3 ≤ 40 := InvC_get hI 10 3 rfl rfl
  have r4 : 0 ≤ dt 12 3 ∧ dt 12 3 ≤ 300 := InvC_get hI 12 3 rfl rfl
  have r5 : 0 ≤ dt 14 3 ∧ dt 14 3 ≤ 40 := InvC_get hI 14 3 rfl rfl
  have r6 : 0 ≤ dt 16 3 ∧ dt 16 3 ≤ 20 := InvC_get hI 16 3 rfl rfl
  have r7 : (-2147483648) ≤ dt 18 0 ∧ dt 18 0 ≤ 2147483647 := InvC_get hI 18 0 rfl rfl
  have r8 : 0 ≤ dt 24 3 ∧ dt 24 3 ≤ 12 := InvC_get hI 24 3 rfl rfl
  have r9 : 0 ≤ dt 27 3 ∧ dt 27 3 ≤ 40 := InvC_get hI 27 3 rfl rfl
  have r10 : 0 ≤ dt 29 3 ∧ dt 29 3 ≤ 300 := InvC_get hI 29 3 rfl rfl
  have r11 : 0 ≤ dt 31 3 ∧ dt 31 3 ≤ 40 := InvC_get hI 31 3 rfl rfl
  have r12 : 0 ≤ dt 33 3 ∧ dt 33 3 ≤ 20 := InvC_get hI 33 3 rfl rfl
  have r13 : 0 ≤ dt 0 2 ∧ dt 0 2 ≤ 1 := InvC_get hI 0 2 rfl rfl
  have r14 : 0 ≤ dt 35 1 ∧ dt 35 1 ≤ 500 := InvC_get hI 35 1 rfl rfl
  have r15 : (-2147483648) ≤ dt 35 2 ∧ dt 35 2 ≤ 2147483647 := InvC_get hI 35 2 rfl rfl
  have r16 : (-2147483648) ≤ dt 35 3 ∧ dt 35 3 ≤ 2147483647 := InvC_get hI 35 3 rfl rfl
  have r17 : (-2147483648) ≤ dt 80 0 ∧ dt 80 0 ≤ 2147483647 := InvC_get hI 80 0 rfl rfl
  have r18 : (-2147483648) ≤ dt 80 1 ∧ dt 80 1 ≤ 2147483647 := InvC_get hI 80 1 rfl rfl
  have r19 := MW_n hM
  have r20 : (-2147483648) ≤ dt 80 2 ∧ dt 80 2 ≤ 2147483647 := InvC_get hI 80 2 rfl rfl
  have r21 : (-2147483648) ≤ dt 80 3 ∧ dt 80 3 ≤ 2147483647 := InvC_get hI 80 3 rfl rfl
  have r22 : (-2147483648) ≤ dt 80 4 ∧ dt 80 4 ≤ 2147483647 := InvC_get hI 80 4 rfl rfl
  have r23 : (-2147483648) ≤ dt 80 5 ∧ dt 80 5 ≤ 2147483647 := InvC_get hI 80 5 rfl rfl
  have r24 : (-2147483648) ≤ dt 81 0 ∧ dt 81 0 ≤ 2147483647 := InvC_get hI 81 0 rfl rfl
  have r25 : (-2147483648) ≤ dt 81 1 ∧ dt 81 1 ≤ 2147483647 := InvC_get hI 81 1 rfl rfl
  have r26 : (-2147483648) ≤ dt 81 2 ∧ dt 81 2 ≤ 2147483647 := InvC_get hI 81 2 rfl rfl
  have r27 : (-2147483648) ≤ dt 81 3 ∧ dt 81 3 ≤ 2147483647 := InvC_get hI 81 3 rfl rfl
  have r28 : (-2147483648) ≤ dt 81 4 ∧ dt 81 4 ≤ 2147483647 := InvC_get hI 81 4 rfl rfl
  have r29 : (-2147483648) ≤ dt 81 5 ∧ dt 81 5 ≤ 2147483647 := InvC_get hI 81 5 rfl rfl
  have r30 : 0 ≤ dt 79 2 ∧ dt 79 2 ≤ 1 := InvC_get hI 79 2 rfl rfl
  have r31 : 0 ≤ dt 79 12 ∧ dt 79 12 ≤ 500 := InvC_get hI 79 12 rfl rfl
  have r32 : (-2147483648) ≤ dt 79 19 ∧ dt 79 19 ≤ 2147483647 := InvC_get hI 79 19 rfl rfl
  have r33 : (-2147483648) ≤ dt 79 21 ∧ dt 79 21 ≤ 2147483647 := InvC_get hI 79 21 rfl rfl
  refine go_toq PM267 (k := 5) (pc' := 701) (L' := [some (.inr (.inr (some 3000))), some (.inr (.inr (some 0))), some (.inr (.inr (some 79))), some (.inl i)]) (st' := [.inl (i + 1), .inr (.inr (some 3000)), .inr (.inr (some 0))]) (w' := (SH, dt)) rfl ?_
  have r34 := i32_R (xs ((i + 1).toNat))
  refine go_smpq PM267 (L' := [some (.inr (.inr (some 3000))), some (.inr (.inr (some 0))), some (.inr (.inr (some 79))), some (.inl i)]) (st' := [.inl ((xs ((i + 1).toNat)).toInt), .inr (.inr (some 0))]) (w' := (SH, dt)) rfl rfl (s_iald (n := L) (f := fun j => (xs j).toInt) (am_scr hLL) ⟨by omega, by omega⟩) ?_
  refine go_toq PM267 (k := 4) (pc' := 706) (L' := [some (.inr (.inr (some 3000))), some (.inr (.inr (some 0))), some (.inr (.inr (some 79))), some (.inl i)]) (st' := [.inl (i + 2), .inr (.inr (some 3000)), .inl ((xs ((i + 1).toNat)).toInt), .inr (.inr (some 0))]) (w' := (SH, dt)) rfl ?_
  have r35 := i32_R (xs ((i + 2).toNat))
  refine go_smpq PM267 (L' := [some (.inr (.inr (some 3000))), some (.inr (.inr (some 0))), some (.inr (.inr (some 79))), some (.inl i)]) (st' := [.inl ((xs ((i + 2).toNat)).toInt), .inl ((xs ((i + 1).toNat)).toInt), .inr (.inr (some 0))]) (w' := (SH, dt)) rfl rfl (s_iald (n := L) (f := fun j => (xs j).toInt) (am_scr hLL) ⟨by omega, by omega⟩) ?_
  refine go_toq PM267 (k := 4) (pc' := 711) (L' := [some (.inr (.inr (some 3000))), some (.inr (.inr (some 0))), some (.inr (.inr (some 79))), some (.inl i)]) (st' := [.inl (i + 3), .inr (.inr (some 3000)), .inl ((xs ((i + 2).toNat)).toInt), .inl ((xs ((i + 1).toNat)).toInt), .inr (.inr (some 0))]) (w' := (SH, dt)) rfl ?_
  have r36 := i32_R (xs ((i + 3).toNat))
  refine go_smpq PM267 (L' := [some (.inr (.inr (some 3000))), some (.inr (.inr (some 0))), some (.inr (.inr (some 79))), some (.inl i)]) (st' := [.inl ((xs ((i + 3).toNat)).toInt), .inl ((xs ((i + 2).toNat)).toInt), .inl ((xs ((i + 1).toNat)).toInt), .inr (.inr (some 0))]) (w' := (SH, dt)) rfl rfl (s_iald (n := L) (f := fun j => (xs j).toInt) (am_scr hLL) ⟨by omega, by omega⟩) ?_
  refine go_callq PM267 PM79 (Q' := _) rfl rfl rfl rfl (sp_X5_ask_f L xs sio (d + 33) dt hI (dt 80) hM ((xs ((i + 1).toNat)).toInt) ⟨by omega, by omega⟩ ((xs ((i + 2).toNat)).toInt) ⟨by omega, by omega⟩ ((xs ((i + 3).toNat)).toInt) ⟨by omega, by omega⟩ (by first | exact True.intro | with_reducible assumption | rfl | omega | trivial | exact hM2 | exact hd1 | exact hqo | exact halk)) ?_
  rintro _ _ ⟨dt38, rfl, hI39, hF40, h37⟩
  refine ⟨rfl, ?_⟩
  have hF41 : Fr [0, 1, 2, 3, 4, 5, 6, 7, 8, 9, 10, 11, 12, 13, 14, 15, 16, 17, 18, 19, 20, 21, 22, 23, 24, 25, 26, 27, 28, 29, 30, 31, 32, 33, 34, 35, 36, 37, 38, 39, 40, 41, 42, 43, 44, 45, 46, 47, 48, 49, 50, 51, 52, 53, 54, 55, 56, 57, 58, 59, 60, 61, 62, 63, 64, 65, 66, 67, 68, 69, 70, 71, 72, 73, 74, 75, 76, 77, 78, 79, 80, 81, 82, 83, 84, 85, 86, 87, 88, 89, 90, 91, 92, 93, 94, 95, 96, 97, 98, 99, 100, 101, 102, 103, 104] dt dt38 := Fr_tr hF hF40 (by decide)
  have hM42 : MW (dt38 80) := MW_fr hM hF40 (by decide)
  have w43 : dt38 7 3 = dt 7 3 := hF40 7 (by decide) 3
  have w44 : dt38 10 3 = dt 10 3 := hF40 10 (by decide) 3
  have w45 : dt38 14 3 = dt 14 3 := hF40 14 (by decide) 3
  have w46 : dt38 16 3 = dt 16 3 := hF40 16 (by decide) 3
  have w47 : dt38 18 0 = dt 18 0 := hF40 18 (by decide) 0
  have w48 : dt38 24 3 = dt 24 3 := hF40 24 (by decide) 3
  have w49 : dt38 27 3 = dt 27 3 := hF40 27 (by decide) 3
  have w50 : dt38 29 3 = dt 29 3 := hF40 29 (by decide) 3
  have w51 : dt38 31 3 = dt 31 3 := hF40 31 (by decide) 3
  have w52 : dt38 33 3 = dt 33 3 := hF40 33 (by decide) 3
  have w53 : dt38 0 2 = dt 0 2 := hF40 0 (by decide) 2
  have w54 : dt38 35 1 = dt 35 1 := hF40 35 (by decide) 1
  have w55 : dt38 35 2 = dt 35 2 := hF40 35 (by decide) 2
  have w56 : dt38 35 3 = dt 35 3 := hF40 35 (by decide) 3
  have w57 : dt38 80 0 = dt 80 0 := hF40 80 (by decide) 0
  have w58 : dt38 80 1 = dt 80 1 := hF40 80 (by decide) 1
  have w59 : dt38 80 2 = dt 80 2 := hF40 80 (by decide) 2
  have w60 : dt38 80 3 = dt 80 3 := hF40 80 (by decide) 3
  have w61 : dt38 80 4 = dt 80 4 := hF40 80 (by decide) 4
  have w62 : dt38 80 5 = dt 80 5 := hF40 80 (by decide) 5
  have w63 : dt38 81 0 = dt 81 0 := hF40 81 (by decide) 0
  have w64 : dt38 81 1 = dt 81 1 := hF40 81 (by decide) 1
  have w65 : dt38 81 2 = dt 81 2 := hF40 81 (by decide) 2
  have w66 : dt38 81 3 = dt 81 3 := hF40 81 (by decide) 3
  have w67 : dt38 81 4 = dt 81 4 := hF40 81 (by decide) 4
  have w68 : dt38 81 5 = dt 81 5 := hF40 81 (by decide) 5
  have w69 : dt38 79 2 = dt 79 2 := hF40 79 (by decide) 2
  have w70 : dt38 79 12 = dt 79 12 := hF40 79 (by decide) 12
  have w71 : dt38 79 19 = dt 79 19 := hF40 79 (by decide) 19
  have w72 : dt38 79 21 = dt 79 21 := hF40 79 (by decide) 21
  rcases h37 with ⟨rfl, h37⟩ | ⟨v_h37, rfl, h37r, h37⟩
  · skip
    obtain ⟨h37_0, h37_1, h37_2⟩ := h37
    replace h37_0 := hid h37_0
    have w73 : dt38 1 0 = dt 1 0 := h37_1
    have w74 : dt38 12 3 = dt 12 3 := h37_2
    have M275 : MW (dt38 81) := MW_frk hM2 hF40 (by decide)
    have C76 : ∀ j : Nat, dt38 2 j = dt 2 j := fun j => (hF40 2 (by decide) j).trans ((fun _ => rfl) j)
    have C77 : ∀ j : Nat, dt38 3 j = dt 3 j := fun j => (hF40 3 (by decide) j).trans ((fun _ => rfl) j)
    have C78 : ∀ j : Nat, dt38 4 j = dt 4 j := fun j => (hF40 4 (by decide) j).trans ((fun _ => rfl) j)
    have C79 : ∀ j : Nat, dt38 5 j = dt 5 j := fun j => (hF40 5 (by decide) j).trans ((fun _ => rfl) j)
    have C80 : ∀ j : Nat, dt38 6 j = dt 6 j := fun j => (hF40 6 (by decide) j).trans ((fun _ => rfl) j)
    have C81 : ∀ j : Nat, dt38 8 j = dt 8 j := fun j => (hF40 8 (by decide) j).trans ((fun _ => rfl) j)
    have C82 : ∀ j : Nat, dt38 9 j = dt 9 j := fun j => (hF40 9 (by decide) j).trans ((fun _ => rfl) j)
    have C83 : ∀ j : Nat, dt38 11 j = dt 11 j := fun j => (hF40 11 (by decide) j).trans ((fun _ => rfl) j)
    have C84 : ∀ j : Nat, dt38 19 j = dt 19 j := fun j => (hF40 19 (by decide) j).trans ((fun _ => rfl) j)
    have C85 : ∀ j : Nat, dt38 20 j = dt 20 j := fun j => (hF40 20 (by decide) j).trans ((fun _ => rfl) j)
    have C86 : ∀ j : Nat, dt38 21 j = dt 21 j := fun j => (hF40 21 (by decide) j).trans ((fun _ => rfl) j)
    have C87 : ∀ j : Nat, dt38 22 j = dt 22 j := fun j => (hF40 22 (by decide) j).trans ((fun _ => rfl) j)
    have C88 : ∀ j : Nat, dt38 23 j = dt 23 j := fun j => (hF40 23 (by decide) j).trans ((fun _ => rfl) j)
    have C89 : ∀ j : Nat, dt38 25 j = dt 25 j := fun j => (hF40 25 (by decide) j).trans ((fun _ => rfl) j)
    have C90 : ∀ j : Nat, dt38 26 j = dt 26 j := fun j => (hF40 26 (by decide) j).trans ((fun _ => rfl) j)
    have C91 : ∀ j : Nat, dt38 28 j = dt 28 j := fun j => (hF40 28 (by decide) j).trans ((fun _ => rfl) j)
    have C92 : ∀ j : Nat, dt38 36 j = dt 36 j := fun j => (hF40 36 (by decide) j).trans ((fun _ => rfl) j)
    have C93 : ∀ j : Nat, dt38 80 j = dt 80 j := fun j => (hF40 80 (by decide) j).trans ((fun _ => rfl) j)
    have C94 : ∀ j : Nat, dt38 81 j = dt 81 j := fun j => (hF40 81 (by decide) j).trans ((fun _ => rfl) j)
    have C95 : ∀ j : Nat, dt38 85 j = dt 85 j := fun j => (hF40 85 (by decide) j).trans ((fun _ => rfl) j)
    refine go_toq PM267 (k := 5) (pc' := 720) (L' := [some (.inr (.inr (some 3000))), some (.inr (.inr (some 0))), some (.inr (.inr (some 79))), some (.inl i)]) (st' := [.inl (i + 1), .inr (.inr (some 3000)), .inr (.inr (some 79)), .inl (-2)]) (w' := (SH, dt38)) rfl ?_
    have r96 := i32_R (xs ((i + 1).toNat))
    refine go_smpq PM267 (L' := [some (.inr (.inr (some 3000))), some (.inr (.inr (some 0))), some (.inr (.inr (some 79))), some (.inl i)]) (st' := [.inl ((xs ((i + 1).toNat)).toInt), .inr (.inr (some 79)), .inl (-2)]) (w' := (SH, dt38)) rfl rfl (s_iald (n := L) (f := fun j => (xs j).toInt) (am_scr hLL) ⟨by (first | omega | (have z0_ := unhid h37_0; omega)), by (first | omega | (have z0_ := unhid h37_0; omega))⟩) ?_
    refine go_toq PM267 (k := 4) (pc' := 725) (L' := [some (.inr (.inr (some 3000))), some (.inr (.inr (some 0))), some (.inr (.inr (some 79))), some (.inl i)]) (st' := [.inl (i + 2), .inr (.inr (some 3000)), .inl ((xs ((i + 1).toNat)).toInt), .inr (.inr (some 79)), .inl (-2)]) (w' := (SH, dt38)) rfl ?_
    have r97 := i32_R (xs ((i + 2).toNat))
    refine go_smpq PM267 (L' := [some (.inr (.inr (some 3000))), some (.inr (.inr (some 0))), some (.inr (.inr (some 79))), some (.inl i)]) (st' := [.inl ((xs ((i + 2).toNat)).toInt), .inl ((xs ((i + 1).toNat)).toInt), .inr (.inr (some 79)), .inl (-2)]) (w' := (SH, dt38)) rfl rfl (s_iald (n := L) (f := fun j => (xs j).toInt) (am_scr hLL) ⟨by (first | omega | (have z0_ := unhid h37_0; omega)), by (first | omega | (have z0_ := unhid h37_0; omega))⟩) ?_
    refine go_toq PM267 (k := 4) (pc' := 730) (L' := [some (.inr (.inr (some 3000))), some (.inr (.inr (some 0))), some (.inr (.inr (some 79))), some (.inl i)]) (st' := [.inl (i + 3), .inr (.inr (some 3000)), .inl ((xs ((i + 2).toNat)).toInt), .inl ((xs ((i + 1).toNat)).toInt), .inr (.inr (some 79)), .inl (-2)]) (w' := (SH, dt38)) rfl ?_
    have r98 := i32_R (xs ((i + 3).toNat))
    refine go_smpq PM267 (L' := [some (.inr (.inr (some 3000))), some (.inr (.inr (some 0))), some (.inr (.inr (some 79))), some (.inl i)]) (st' := [.inl ((xs ((i + 3).toNat)).toInt), .inl ((xs ((i + 2).toNat)).toInt), .inl ((xs ((i + 1).toNat)).toInt), .inr (.inr (some 79)), .inl (-2)]) (w' := (SH, dt38)) rfl rfl (s_iald (n := L) (f := fun j => (xs j).toInt) (am_scr hLL) ⟨by (first | omega | (have z0_ := unhid h37_0; omega)), by (first | omega | (have z0_ := unhid h37_0; omega))⟩) ?_
    refine go_callq PM267 PM211 (Q' := _) rfl rfl rfl rfl (sp_X6_ask_f L xs sio (d + 32) dt38 hI39 hM42  ((xs ((i + 1).toNat)).toInt) ⟨by (first | omega | (have z0_ := unhid h37_0; omega)), by (first | omega | (have z0_ := unhid h37_0; omega))⟩ ((xs ((i + 2).toNat)).toInt) ⟨by (first | omega | (have z0_ := unhid h37_0; omega)), by (first | omega | (have z0_ := unhid h37_0; omega))⟩ ((xs ((i + 3).toNat)).toInt) ⟨by (first | omega | (have z0_ := unhid h37_0; omega)), by (first | omega | (have z0_ := unhid h37_0; omega))⟩ ) ?_
    rintro _ _ ⟨dt100, rfl, hI101, hF102, h99⟩
    refine ⟨rfl, ?_⟩
    have hF103 : Fr [0, 1, 2, 3, 4, 5, 6, 7, 8, 9, 10, 11, 12, 13, 14, 15, 16, 17, 18, 19, 20, 21, 22, 23, 24, 25, 26, 27, 28, 29, 30, 31, 32, 33, 34, 35, 36, 37, 38, 39, 40, 41, 42, 43, 44, 45, 46, 47, 48, 49, 50, 51, 52, 53, 54, 55, 56, 57, 58, 59, 60, 61, 62, 63, 64, 65, 66, 67, 68, 69, 70, 71, 72, 73, 74, 75, 76, 77, 78, 79, 80, 81, 82, 83, 84, 85, 86, 87, 88, 89, 90, 91, 92, 93, 94, 95, 96, 97, 98, 99, 100, 101, 102, 103, 104] dt dt100 := Fr_tr hF41 hF102 (by decide)
    have w104 : dt100 1 0 = dt 1 0 := (hF102 1 (by decide) 0).trans w73
    have w105 : dt100 7 3 = dt 7 3 := (hF102 7 (by decide) 3).trans w43
    have w106 : dt100 10 3 = dt 10 3 := (hF102 10 (by decide) 3).trans w44
    have w107 : dt100 12 3 = dt 12 3 := (hF102 12 (by decide) 3).trans w74
    have w108 : dt100 14 3 = dt 14 3 := (hF102 14 (by decide) 3).trans w45
    have w109 : dt100 16 3 = dt 16 3 := (hF102 16 (by decide) 3).trans w46
    have w110 : dt100 18 0 = dt 18 0 := (hF102 18 (by decide) 0).trans w47
    have w111 : dt100 24 3 = dt 24 3 := (hF102 24 (by decide) 3).trans w48
    have w112 : dt100 27 3 = dt 27 3 := (hF102 27 (by decide) 3).trans w49
    have w113 : dt100 29 3 = dt 29 3 := (hF102 29 (by decide) 3).trans w50
    have w114 : dt100 31 3 = dt 31 3 := (hF102 31 (by decide) 3).trans w51
    have w115 : dt100 33 3 = dt 33 3 := (hF102 33 (by decide) 3).trans w52
    have w116 : dt100 0 2 = dt 0 2 := (hF102 0 (by decide) 2).trans w53
    have w117 : dt100 35 1 = dt 35 1 := (hF102 35 (by decide) 1).trans w54
    have w118 : dt100 35 2 = dt 35 2 := (hF102 35 (by decide) 2).trans w55
    have w119 : dt100 35 3 = dt 35 3 := (hF102 35 (by decide) 3).trans w56
    have w120 : dt100 81 0 = dt 81 0 := (hF102 81 (by decide) 0).trans w63
    have w121 : dt100 81 1 = dt 81 1 := (hF102 81 (by decide) 1).trans w64
    have w122 : dt100 81 2 = dt 81 2 := (hF102 81 (by decide) 2).trans w65
    have w123 : dt100 81 3 = dt 81 3 := (hF102 81 (by decide) 3).trans w66
    have w124 : dt100 81 4 = dt 81 4 := (hF102 81 (by decide) 4).trans w67
    have w125 : dt100 81 5 = dt 81 5 := (hF102 81 (by decide) 5).trans w68
    have w126 : dt100 79 2 = dt 79 2 := (hF102 79 (by decide) 2).trans w69
    have w127 : dt100 79 12 = dt 79 12 := (hF102 79 (by decide) 12).trans w70
    have w128 : dt100 79 19 = dt 79 19 := (hF102 79 (by decide) 19).trans w71
    have w129 : dt100 79 21 = dt 79 21 := (hF102 79 (by decide) 21).trans w72
    rcases h99 with ⟨rfl, h99⟩ | ⟨v_h99, rfl, h99r, h99⟩
    · skip
      have hM130 : MW (dt100 80) := h99.2.1
      obtain ⟨h99_0, h99_1, h99_2, h99_3, h99_4, h99_5, h99_6, h99_7, h99_8⟩ := h99
      replace h99_0 := hid h99_0
      have w131 : dt100 80 0 = dt 80 0 := h99_2.trans w57
      have w132 : dt100 80 1 = dt 80 1 := h99_3.trans w58
      have w133 : dt100 80 2 = dt 80 2 := h99_4.trans w59
      have w134 : dt100 80 3 = dt 80 3 := h99_5.trans w60
      have w135 : dt100 80 4 = dt 80 4 := h99_6.trans w61
      have w136 : dt100 80 5 = dt 80 5 := h99_7.trans w62
      have M2137 : MW (dt100 81) := MW_frk M275 hF102 (by decide)
      have C138 : ∀ j : Nat, dt100 2 j = dt 2 j := fun j => (hF102 2 (by decide) j).trans (C76 j)
      have C139 : ∀ j : Nat, dt100 3 j = dt 3 j := fun j => (hF102 3 (by decide) j).trans (C77 j)
      have C140 : ∀ j : Nat, dt100 4 j = dt 4 j := fun j => (hF102 4 (by decide) j).trans (C78 j)
      have C141 : ∀ j : Nat, dt100 5 j = dt 5 j := fun j => (hF102 5 (by decide) j).trans (C79 j)
      have C142 : ∀ j : Nat, dt100 6 j = dt 6 j := fun j => (hF102 6 (by decide) j).trans (C80 j)
      have C143 : ∀ j : Nat, dt100 8 j = dt 8 j := fun j => (hF102 8 (by decide) j).trans (C81 j)
      have C144 : ∀ j : Nat, dt100 9 j = dt 9 j := fun j => (hF102 9 (by decide) j).trans (C82 j)
      have C145 : ∀ j : Nat, dt100 11 j = dt 11 j := fun j => (hF102 11 (by decide) j).trans (C83 j)
      have C146 : ∀ j : Nat, dt100 19 j = dt 19 j := fun j => (hF102 19 (by decide) j).trans (C84 j)
      have C147 : ∀ j : Nat, dt100 20 j = dt 20 j := fun j => (hF102 20 (by decide) j).trans (C85 j)
      have C148 : ∀ j : Nat, dt100 21 j = dt 21 j := fun j => (hF102 21 (by decide) j).trans (C86 j)
      have C149 : ∀ j : Nat, dt100 22 j = dt 22 j := fun j => (hF102 22 (by decide) j).trans (C87 j)
      have C150 : ∀ j : Nat, dt100 23 j = dt 23 j := fun j => (hF102 23 (by decide) j).trans (C88 j)
      have C151 : ∀ j : Nat, dt100 25 j = dt 25 j := fun j => (hF102 25 (by decide) j).trans (C89 j)
      have C152 : ∀ j : Nat, dt100 26 j = dt 26 j := fun j => (hF102 26 (by decide) j).trans (C90 j)
      have C153 : ∀ j : Nat, dt100 28 j = dt 28 j := fun j => (hF102 28 (by decide) j).trans (C91 j)
      have C154 : ∀ j : Nat, dt100 36 j = dt 36 j := fun j => (hF102 36 (by decide) j).trans (C92 j)
      have C155 : ∀ j : Nat, dt100 80 j = dt 80 j := fun j => (h99_8 j).trans (C93 j)
      have C156 : ∀ j : Nat, dt100 81 j = dt 81 j := fun j => (hF102 81 (by decide) j).trans (C94 j)
      have C157 : ∀ j : Nat, dt100 85 j = dt 85 j := fun j => (hF102 85 (by decide) j).trans (C95 j)
      refine go_toq PM267 (k := 1) (pc' := 1435) (L' := [some (.inr (.inr (some 3000))), some (.inr (.inr (some 0))), some (.inr (.inr (some 79))), some (.inl i)]) (st' := []) (w' := (SH, dt100)) rfl ?_
      exact K dt100 hI101 hM130 M2137 (w104.trans (hk0.trans w131.symm)) (w105.trans (hk1.trans w132.symm)) (w106.trans (hk2.trans w133.symm)) (w107.trans (hk3.trans w134.symm)) (w108.trans (hk4.trans w135.symm)) (w109.trans (hk5.trans w136.symm)) (w110.trans (hk6.trans w120.symm)) (w111.trans (hk7.trans w121.symm)) (w112.trans (hk8.trans w122.symm)) (w113.trans (hk9.trans w123.symm)) (w114.trans (hk10.trans w124.symm)) (w115.trans (hk11.trans w125.symm)) (w116.trans (hk12.trans w126.symm)) (w117.trans (hk13.trans w127.symm)) (w118.trans (hk14.trans w128.symm)) (w119.trans (hk15.trans w129.symm)) (by first | exact hI | exact TPL_k hd0 C154 C157 (by (first | omega | (have z0_ := unhid h37_0; have z1_ := unhid h99_0; omega))) | (exfalso; (first | omega | (have z0_ := unhid h37_0; have z1_ := unhid h99_0; omega)))) (by first | exact hI | exact SCL_k hd1 hM (fun j _ => C138 j) (fun j _ => C139 j) (fun j _ _ => C155 j) | (exfalso; (first | omega | (have z0_ := unhid h37_0; have z1_ := unhid h99_0; omega)))) (by first | exact hI | exact SCL_k hd2 hM2 (fun j _ => C146 j) (fun j _ => C147 j) (fun j _ _ => C156 j) | (exfalso; (first | omega | (have z0_ := unhid h37_0; have z1_ := unhid h99_0; omega)))) (by first | exact hI | exact QRL_k hd3 hM (fun j _ => C143 j) (C155 1) (fun j _ _ => C155 j) | (exfalso; (first | omega | (have z0_ := unhid h37_0; have z1_ := unhid h99_0; omega)))) (by first | exact hI | exact QRL_k hd4 hM2 (fun j _ => C151 j) (C156 1) (fun j _ _ => C156 j) | (exfalso; (first | omega | (have z0_ := unhid h37_0; have z1_ := unhid h99_0; omega)))) (by first | exact hI | exact SDL_k hd5 hM (fun j _ => C144 j) (C155 1) (fun j _ _ => C155 j) (fun j _ _ => C155 j) | (exfalso; (first | omega | (have z0_ := unhid h37_0; have z1_ := unhid h99_0; omega)))) (by first | exact hI | exact SDL_k hd6 hM2 (fun j _ => C152 j) (C156 1) (fun j _ _ => C156 j) (fun j _ _ => C156 j) | (exfalso; (first | omega | (have z0_ := unhid h37_0; have z1_ := unhid h99_0; omega)))) (by first | exact hI | exact LWL_k hd7 hM (fun j _ => C140 j) (fun j _ => C141 j) (fun j _ => C142 j) (fun j _ _ => C155 j) | (exfalso; (first | omega | (have z0_ := unhid h37_0; have z1_ := unhid h99_0; omega)))) (by first | exact hI | exact LWL_k hd8 hM2 (fun j _ => C148 j) (fun j _ => C149 j) (fun j _ => C150 j) (fun j _ _ => C156 j) | (exfalso; (first | omega | (have z0_ := unhid h37_0; have z1_ := unhid h99_0; omega)))) (by first | exact hI | exact CHL_k hd9 hM (fun j _ => C145 j) (by (first | omega | (have z0_ := unhid h37_0; have z1_ := unhid h99_0; omega))) (fun j _ _ => C155 j) | (exfalso; (first | omega | (have z0_ := unhid h37_0; have z1_ := unhid h99_0; omega)))) (by first | exact hI | exact CHL_k hd10 hM2 (fun j _ => C153 j) (by (first | omega | (have z0_ := unhid h37_0; have z1_ := unhid h99_0; omega))) (fun j _ _ => C156 j) | (exfalso; (first | omega | (have z0_ := unhid h37_0; have z1_ := unhid h99_0; omega))))
    · skip
      have hM158 : MW (dt100 80) := h99.2.1
      obtain ⟨h99_0, h99_1, h99_2, h99_3, h99_4, h99_5, h99_6, h99_7, h99_8, h99_9⟩ := h99
      have w159 : dt100 80 1 = dt 80 1 := h99_4.trans w58
      have w160 : dt100 80 2 = dt 80 2 := h99_5.trans w59
      have w161 : dt100 80 4 = dt 80 4 := h99_6.trans w61
      have w162 : dt100 80 5 = dt 80 5 := h99_7.trans w62
      have M2163 : MW (dt100 81) := MW_frk M275 hF102 (by decide)
      rw [show dt38 80 = dt 80 from funext C93] at h99_9
      have C164 : ∀ j : Nat, dt100 2 j = dt 2 j := fun j => (hF102 2 (by decide) j).trans (C76 j)
      have C165 : ∀ j : Nat, dt100 3 j = dt 3 j := fun j => (hF102 3 (by decide) j).trans (C77 j)
      have C166 : ∀ j : Nat, dt100 4 j = dt 4 j := fun j => (hF102 4 (by decide) j).trans (C78 j)
      have C167 : ∀ j : Nat, dt100 5 j = dt 5 j := fun j => (hF102 5 (by decide) j).trans (C79 j)
      have C168 : ∀ j : Nat, dt100 6 j = dt 6 j := fun j => (hF102 6 (by decide) j).trans (C80 j)
      have C169 : ∀ j : Nat, dt100 8 j = dt 8 j := fun j => (hF102 8 (by decide) j).trans (C81 j)
      have C170 : ∀ j : Nat, dt100 9 j = dt 9 j := fun j => (hF102 9 (by decide) j).trans (C82 j)
      have C171 : ∀ j : Nat, dt100 11 j = dt 11 j := fun j => (hF102 11 (by decide) j).trans (C83 j)
      have C172 : ∀ j : Nat, dt100 19 j = dt 19 j := fun j => (hF102 19 (by decide) j).trans (C84 j)
      have C173 : ∀ j : Nat, dt100 20 j = dt 20 j := fun j => (hF102 20 (by decide) j).trans (C85 j)
      have C174 : ∀ j : Nat, dt100 21 j = dt 21 j := fun j => (hF102 21 (by decide) j).trans (C86 j)
      have C175 : ∀ j : Nat, dt100 22 j = dt 22 j := fun j => (hF102 22 (by decide) j).trans (C87 j)
      have C176 : ∀ j : Nat, dt100 23 j = dt 23 j := fun j => (hF102 23 (by decide) j).trans (C88 j)
      have C177 : ∀ j : Nat, dt100 25 j = dt 25 j := fun j => (hF102 25 (by decide) j).trans (C89 j)
      have C178 : ∀ j : Nat, dt100 26 j = dt 26 j := fun j => (hF102 26 (by decide) j).trans (C90 j)
      have C179 : ∀ j : Nat, dt100 28 j = dt 28 j := fun j => (hF102 28 (by decide) j).trans (C91 j)
      have C180 : ∀ j : Nat, dt100 36 j = dt 36 j := fun j => (hF102 36 (by decide) j).trans (C92 j)
      have C181 : ∀ j : Nat, dt100 81 j = dt 81 j := fun j => (hF102 81 (by decide) j).trans (C94 j)
      have C182 : ∀ j : Nat, dt100 85 j = dt 85 j := fun j => (hF102 85 (by decide) j).trans (C95 j)
      have F183 : ∀ j : Nat, 6 ≤ j → j < 974 → dt100 80 j = dt 80 j := fun j h1_ h2_ => (h99_8 j (by (first | omega | (have z0_ := unhid h37_0; omega))) (by (first | omega | (have z0_ := unhid h37_0; omega))) (by (first | omega | (have z0_ := unhid h37_0; omega)))).trans (C93 j)
      have F184 : ∀ j : Nat, 974 ≤ j → j < 5320 → dt100 80 j = dt 80 j := fun j h1_ h2_ => (h99_8 j (by (first | omega | (have z0_ := unhid h37_0; omega))) (by (first | omega | (have z0_ := unhid h37_0; omega))) (by (first | omega | (have z0_ := unhid h37_0; omega)))).trans (C93 j)
      have F185 : ∀ j : Nat, 5320 ≤ j → j < 5380 → dt100 80 j = dt 80 j := fun j h1_ h2_ => (h99_8 j (by (first | omega | (have z0_ := unhid h37_0; omega))) (by (first | omega | (have z0_ := unhid h37_0; omega))) (by (first | omega | (have z0_ := unhid h37_0; omega)))).trans (C93 j)
      have F186 : dt100 80 1 = dt 80 1 := (h99_8 1 (by (first | omega | (have z0_ := unhid h37_0; omega))) (by (first | omega | (have z0_ := unhid h37_0; omega))) (by (first | omega | (have z0_ := unhid h37_0; omega)))).trans (C93 1)
      have F187 : ∀ j : Nat, 5380 ≤ j → j < 5540 → dt100 80 j = dt 80 j := fun j h1_ h2_ => (h99_8 j (by (first | omega | (have z0_ := unhid h37_0; omega))) (by (first | omega | (have z0_ := unhid h37_0; omega))) (by (first | omega | (have z0_ := unhid h37_0; omega)))).trans (C93 j)
      refine go_ifq PM267 (k := 0) (p1 := 1435) (p2 := 737) (L' := [some (.inr (.inr (some 3000))), some (.inr (.inr (some 0))), some (.inr (.inr (some 79))), some (.inl i)]) (st' := []) (w' := (SH, dt100)) rfl (c_eq (a := (-2)) (b := v_h99) ⟨by decide, by decide⟩ (by first | exact bnd h99r (by decide) (by decide) | exact ⟨by (first | omega | (have z0_ := unhid h37_0; omega)), by (first | omega | (have z0_ := unhid h37_0; omega))⟩)) (fun c188 => ?_) (fun c188 => ?_)
      · skip
        exact K dt100 hI101 hM158 M2163 (by first | (first | omega | (have z0_ := unhid h37_0; omega)) | (simp only [*]; done) | simp only [*]) (w105.trans (hk1.trans w159.symm)) (w106.trans (hk2.trans w160.symm)) (by (first | omega | (have z0_ := unhid h37_0; omega))) (w108.trans (hk4.trans w161.symm)) (w109.trans (hk5.trans w162.symm)) (w110.trans (hk6.trans w120.symm)) (w111.trans (hk7.trans w121.symm)) (w112.trans (hk8.trans w122.symm)) (w113.trans (hk9.trans w123.symm)) (w114.trans (hk10.trans w124.symm)) (w115.trans (hk11.trans w125.symm)) (w116.trans (hk12.trans w126.symm)) (w117.trans (hk13.trans w127.symm)) (w118.trans (hk14.trans w128.symm)) (w119.trans (hk15.trans w129.symm)) (by first | exact hI | exact TPL_k hd0 C180 C182 (by (first | omega | (have z0_ := unhid h37_0; omega))) | (exfalso; (first | omega | (have z0_ := unhid h37_0; omega)))) (by first | exact hI | exact SCL_k hd1 hM (fun j _ => C164 j) (fun j _ => C165 j) F183 | (exfalso; (first | omega | (have z0_ := unhid h37_0; omega)))) (by first | exact hI | exact SCL_k hd2 hM2 (fun j _ => C172 j) (fun j _ => C173 j) (fun j _ _ => C181 j) | (exfalso; (first | omega | (have z0_ := unhid h37_0; omega)))) (by first | exact hI | exact QRL_k hd3 hM (fun j _ => C169 j) F186 F185 | (exfalso; (first | omega | (have z0_ := unhid h37_0; omega)))) (by first | exact hI | exact QRL_k hd4 hM2 (fun j _ => C177 j) (C181 1) (fun j _ _ => C181 j) | (exfalso; (first | omega | (have z0_ := unhid h37_0; omega)))) (by first | exact hI | exact SDL_k hd5 hM (fun j _ => C170 j) F186 F183 F185 | (exfalso; (first | omega | (have z0_ := unhid h37_0; omega)))) (by first | exact hI | exact SDL_k hd6 hM2 (fun j _ => C178 j) (C181 1) (fun j _ _ => C181 j) (fun j _ _ => C181 j) | (exfalso; (first | omega | (have z0_ := unhid h37_0; omega)))) (by first | exact hI | exact LWL_k hd7 hM (fun j _ => C166 j) (fun j _ => C167 j) (fun j _ => C168 j) F184 | (exfalso; (first | omega | (have z0_ := unhid h37_0; omega)))) (by first | exact hI | exact LWL_k hd8 hM2 (fun j _ => C174 j) (fun j _ => C175 j) (fun j _ => C176 j) (fun j _ _ => C181 j) | (exfalso; (first | omega | (have z0_ := unhid h37_0; omega)))) (by first | exact hI | exact CHL_k hd9 hM (fun j _ => C171 j) (by (first | omega | (have z0_ := unhid h37_0; omega))) F187 | (exfalso; (first | omega | (have z0_ := unhid h37_0; omega)))) (by first | exact hI | exact CHL_k hd10 hM2 (fun j _ => C179 j) (by (first | omega | (have z0_ := unhid h37_0; omega))) (fun j _ _ => C181 j) | (exfalso; (first | omega | (have z0_ := unhid h37_0; omega))))
      · skip
        replace c188 := hid c188
        exfalso; (first | omega | (have z0_ := unhid h37_0; have z1_ := unhid c188; omega))
  · skip
    obtain ⟨h37_0, h37_1, h37_2, h37_3⟩ := h37
    have M2189 : MW (dt38 81) := MW_frk hM2 hF40 (by decide)
    change dt38 1 0 = wr (1664525 * (wr (1664525 * (dt 1 0) + 1013904223)) + 1013904223) at h37_1
    rw [hk0] at h37_3
    have C190 : ∀ j : Nat, dt38 2 j = dt 2 j := fun j => (hF40 2 (by decide) j).trans ((fun _ => rfl) j)
    have C191 : ∀ j : Nat, dt38 3 j = dt 3 j := fun j => (hF40 3 (by decide) j).trans ((fun _ => rfl) j)
    have C192 : ∀ j : Nat, dt38 4 j = dt 4 j := fun j => (hF40 4 (by decide) j).trans ((fun _ => rfl) j)
    have C193 : ∀ j : Nat, dt38 5 j = dt 5 j := fun j => (hF40 5 (by decide) j).trans ((fun _ => rfl) j)
    have C194 : ∀ j : Nat, dt38 6 j = dt 6 j := fun j => (hF40 6 (by decide) j).trans ((fun _ => rfl) j)
    have C195 : ∀ j : Nat, dt38 8 j = dt 8 j := fun j => (hF40 8 (by decide) j).trans ((fun _ => rfl) j)
    have C196 : ∀ j : Nat, dt38 9 j = dt 9 j := fun j => (hF40 9 (by decide) j).trans ((fun _ => rfl) j)
    have C197 : ∀ j : Nat, dt38 11 j = dt 11 j := fun j => (hF40 11 (by decide) j).trans ((fun _ => rfl) j)
    have C198 : ∀ j : Nat, dt38 19 j = dt 19 j := fun j => (hF40 19 (by decide) j).trans ((fun _ => rfl) j)
    have C199 : ∀ j : Nat, dt38 20 j = dt 20 j := fun j => (hF40 20 (by decide) j).trans ((fun _ => rfl) j)
    have C200 : ∀ j : Nat, dt38 21 j = dt 21 j := fun j => (hF40 21 (by decide) j).trans ((fun _ => rfl) j)
    have C201 : ∀ j : Nat, dt38 22 j = dt 22 j := fun j => (hF40 22 (by decide) j).trans ((fun _ => rfl) j)
    have C202 : ∀ j : Nat, dt38 23 j = dt 23 j := fun j => (hF40 23 (by decide) j).trans ((fun _ => rfl) j)
    have C203 : ∀ j : Nat, dt38 25 j = dt 25 j := fun j => (hF40 25 (by decide) j).trans ((fun _ => rfl) j)
    have C204 : ∀ j : Nat, dt38 26 j = dt 26 j := fun j => (hF40 26 (by decide) j).trans ((fun _ => rfl) j)
    have C205 : ∀ j : Nat, dt38 28 j = dt 28 j := fun j => (hF40 28 (by decide) j).trans ((fun _ => rfl) j)
    have C206 : ∀ j : Nat, dt38 36 j = dt 36 j := fun j => (hF40 36 (by decide) j).trans ((fun _ => rfl) j)
    have C207 : ∀ j : Nat, dt38 80 j = dt 80 j := fun j => (hF40 80 (by decide) j).trans ((fun _ => rfl) j)
    have C208 : ∀ j : Nat, dt38 81 j = dt 81 j := fun j => (hF40 81 (by decide) j).trans ((fun _ => rfl) j)
    have C209 : ∀ j : Nat, dt38 85 j = dt 85 j := fun j => (hF40 85 (by decide) j).trans ((fun _ => rfl) j)
    refine go_toq PM267 (k := 5) (pc' := 720) (L' := [some (.inr (.inr (some 3000))), some (.inr (.inr (some 0))), some (.inr (.inr (some 79))), some (.inl i)]) (st' := [.inl (i + 1), .inr (.inr (some 3000)), .inr (.inr (some 79)), .inl v_h37]) (w' := (SH, dt38)) rfl ?_
    have r210 := i32_R (xs ((i + 1).toNat))
    refine go_smpq PM267 (L' := [some (.inr (.inr (some 3000))), some (.inr (.inr (some 0))), some (.inr (.inr (some 79))), some (.inl i)]) (st' := [.inl ((xs ((i + 1).toNat)).toInt), .inr (.inr (some 79)), .inl v_h37]) (w' := (SH, dt38)) rfl rfl (s_iald (n := L) (f := fun j => (xs j).toInt) (am_scr hLL) ⟨by omega, by omega⟩) ?_
    refine go_toq PM267 (k := 4) (pc' := 725) (L' := [some (.inr (.inr (some 3000))), some (.inr (.inr (some 0))), some (.inr (.inr (some 79))), some (.inl i)]) (st' := [.inl (i + 2), .inr (.inr (some 3000)), .inl ((xs ((i + 1).toNat)).toInt), .inr (.inr (some 79)), .inl v_h37]) (w' := (SH, dt38)) rfl ?_
    have r211 := i32_R (xs ((i + 2).toNat))
    refine go_smpq PM267 (L' := [some (.inr (.inr (some 3000))), some (.inr (.inr (some 0))), some (.inr (.inr (some 79))), some (.inl i)]) (st' := [.inl ((xs ((i + 2).toNat)).toInt), .inl ((xs ((i + 1).toNat)).toInt), .inr (.inr (some 79)), .inl v_h37]) (w' := (SH, dt38)) rfl rfl (s_iald (n := L) (f := fun j => (xs j).toInt) (am_scr hLL) ⟨by omega, by omega⟩) ?_
    refine go_toq PM267 (k := 4) (pc' := 730) (L' := [some (.inr (.inr (some 3000))), some (.inr (.inr (some 0))), some (.inr (.inr (some 79))), some (.inl i)]) (st' := [.inl (i + 3), .inr (.inr (some 3000)), .inl ((xs ((i + 2).toNat)).toInt), .inl ((xs ((i + 1).toNat)).toInt), .inr (.inr (some 79)), .inl v_h37]) (w' := (SH, dt38)) rfl ?_
    have r212 := i32_R (xs ((i + 3).toNat))
    refine go_smpq PM267 (L' := [some (.inr (.inr (some 3000))), some (.inr (.inr (some 0))), some (.inr (.inr (some 79))), some (.inl i)]) (st' := [.inl ((xs ((i + 3).toNat)).toInt), .inl ((xs ((i + 2).toNat)).toInt), .inl ((xs ((i + 1).toNat)).toInt), .inr (.inr (some 79)), .inl v_h37]) (w' := (SH, dt38)) rfl rfl (s_iald (n := L) (f := fun j => (xs j).toInt) (am_scr hLL) ⟨by omega, by omega⟩) ?_
    refine go_callq PM267 PM211 (Q' := _) rfl rfl rfl rfl (sp_X6_ask_f L xs sio (d + 32) dt38 hI39 hM42  ((xs ((i + 1).toNat)).toInt) ⟨by omega, by omega⟩ ((xs ((i + 2).toNat)).toInt) ⟨by omega, by omega⟩ ((xs ((i + 3).toNat)).toInt) ⟨by omega, by omega⟩ ) ?_
    rintro _ _ ⟨dt214, rfl, hI215, hF216, h213⟩
    refine ⟨rfl, ?_⟩
    have hF217 : Fr [0, 1, 2, 3, 4, 5, 6, 7, 8, 9, 10, 11, 12, 13, 14, 15, 16, 17, 18, 19, 20, 21, 22, 23, 24, 25, 26, 27, 28, 29, 30, 31, 32, 33, 34, 35, 36, 37, 38, 39, 40, 41, 42, 43, 44, 45, 46, 47, 48, 49, 50, 51, 52, 53, 54, 55, 56, 57, 58, 59, 60, 61, 62, 63, 64, 65, 66, 67, 68, 69, 70, 71, 72, 73, 74, 75, 76, 77, 78, 79, 80, 81, 82, 83, 84, 85, 86, 87, 88, 89, 90, 91, 92, 93, 94, 95, 96, 97, 98, 99, 100, 101, 102, 103, 104] dt dt214 := Fr_tr hF41 hF216 (by decide)
    have w218 : dt214 1 0 = dt38 1 0 := hF216 1 (by decide) 0
    have w219 : dt214 7 3 = dt 7 3 := (hF216 7 (by decide) 3).trans w43
    have w220 : dt214 10 3 = dt 10 3 := (hF216 10 (by decide) 3).trans w44
    have w221 : dt214 12 3 = dt38 12 3 := hF216 12 (by decide) 3
    have w222 : dt214 14 3 = dt 14 3 := (hF216 14 (by decide) 3).trans w45
    have w223 : dt214 16 3 = dt 16 3 := (hF216 16 (by decide) 3).trans w46
    have w224 : dt214 18 0 = dt 18 0 := (hF216 18 (by decide) 0).trans w47
    have w225 : dt214 24 3 = dt 24 3 := (hF216 24 (by decide) 3).trans w48
    have w226 : dt214 27 3 = dt 27 3 := (hF216 27 (by decide) 3).trans w49
    have w227 : dt214 29 3 = dt 29 3 := (hF216 29 (by decide) 3).trans w50
    have w228 : dt214 31 3 = dt 31 3 := (hF216 31 (by decide) 3).trans w51
    have w229 : dt214 33 3 = dt 33 3 := (hF216 33 (by decide) 3).trans w52
    have w230 : dt214 0 2 = dt 0 2 := (hF216 0 (by decide) 2).trans w53
    have w231 : dt214 35 1 = dt 35 1 := (hF216 35 (by decide) 1).trans w54
    have w232 : dt214 35 2 = dt 35 2 := (hF216 35 (by decide) 2).trans w55
    have w233 : dt214 35 3 = dt 35 3 := (hF216 35 (by decide) 3).trans w56
    have w234 : dt214 81 0 = dt 81 0 := (hF216 81 (by decide) 0).trans w63
    have w235 : dt214 81 1 = dt 81 1 := (hF216 81 (by decide) 1).trans w64
    have w236 : dt214 81 2 = dt 81 2 := (hF216 81 (by decide) 2).trans w65
    have w237 : dt214 81 3 = dt 81 3 := (hF216 81 (by decide) 3).trans w66
    have w238 : dt214 81 4 = dt 81 4 := (hF216 81 (by decide) 4).trans w67
    have w239 : dt214 81 5 = dt 81 5 := (hF216 81 (by decide) 5).trans w68
    have w240 : dt214 79 2 = dt 79 2 := (hF216 79 (by decide) 2).trans w69
    have w241 : dt214 79 12 = dt 79 12 := (hF216 79 (by decide) 12).trans w70
    have w242 : dt214 79 19 = dt 79 19 := (hF216 79 (by decide) 19).trans w71
    have w243 : dt214 79 21 = dt 79 21 := (hF216 79 (by decide) 21).trans w72
    rcases h213 with ⟨rfl, h213⟩ | ⟨v_h213, rfl, h213r, h213⟩
    · skip
      have hM244 : MW (dt214 80) := h213.2.1
      obtain ⟨h213_0, h213_1, h213_2, h213_3, h213_4, h213_5, h213_6, h213_7, h213_8⟩ := h213
      replace h213_0 := hid h213_0
      have w245 : dt214 80 0 = dt 80 0 := h213_2.trans w57
      have w246 : dt214 80 1 = dt 80 1 := h213_3.trans w58
      have w247 : dt214 80 2 = dt 80 2 := h213_4.trans w59
      have w248 : dt214 80 3 = dt 80 3 := h213_5.trans w60
      have w249 : dt214 80 4 = dt 80 4 := h213_6.trans w61
      have w250 : dt214 80 5 = dt 80 5 := h213_7.trans w62
      have M2251 : MW (dt214 81) := MW_frk M2189 hF216 (by decide)
      have C252 : ∀ j : Nat, dt214 2 j = dt 2 j := fun j => (hF216 2 (by decide) j).trans (C190 j)
      have C253 : ∀ j : Nat, dt214 3 j = dt 3 j := fun j => (hF216 3 (by decide) j).trans (C191 j)
      have C254 : ∀ j : Nat, dt214 4 j = dt 4 j := fun j => (hF216 4 (by decide) j).trans (C192 j)
      have C255 : ∀ j : Nat, dt214 5 j = dt 5 j := fun j => (hF216 5 (by decide) j).trans (C193 j)
      have C256 : ∀ j : Nat, dt214 6 j = dt 6 j := fun j => (hF216 6 (by decide) j).trans (C194 j)
      have C257 : ∀ j : Nat, dt214 8 j = dt 8 j := fun j => (hF216 8 (by decide) j).trans (C195 j)
      have C258 : ∀ j : Nat, dt214 9 j = dt 9 j := fun j => (hF216 9 (by decide) j).trans (C196 j)
      have C259 : ∀ j : Nat, dt214 11 j = dt 11 j := fun j => (hF216 11 (by decide) j).trans (C197 j)
      have C260 : ∀ j : Nat, dt214 19 j = dt 19 j := fun j => (hF216 19 (by decide) j).trans (C198 j)
      have C261 : ∀ j : Nat, dt214 20 j = dt 20 j := fun j => (hF216 20 (by decide) j).trans (C199 j)
      have C262 : ∀ j : Nat, dt214 21 j = dt 21 j := fun j => (hF216 21 (by decide) j).trans (C200 j)
      have C263 : ∀ j : Nat, dt214 22 j = dt 22 j := fun j => (hF216 22 (by decide) j).trans (C201 j)
      have C264 : ∀ j : Nat, dt214 23 j = dt 23 j := fun j => (hF216 23 (by decide) j).trans (C202 j)
      have C265 : ∀ j : Nat, dt214 25 j = dt 25 j := fun j => (hF216 25 (by decide) j).trans (C203 j)
      have C266 : ∀ j : Nat, dt214 26 j = dt 26 j := fun j => (hF216 26 (by decide) j).trans (C204 j)
      have C267 : ∀ j : Nat, dt214 28 j = dt 28 j := fun j => (hF216 28 (by decide) j).trans (C205 j)
      have C268 : ∀ j : Nat, dt214 36 j = dt 36 j := fun j => (hF216 36 (by decide) j).trans (C206 j)
      have C269 : ∀ j : Nat, dt214 80 j = dt 80 j := fun j => (h213_8 j).trans (C207 j)
      have C270 : ∀ j : Nat, dt214 81 j = dt 81 j := fun j => (hF216 81 (by decide) j).trans (C208 j)
      have C271 : ∀ j : Nat, dt214 85 j = dt 85 j := fun j => (hF216 85 (by decide) j).trans (C209 j)
      refine go_ifq PM267 (k := 0) (p1 := 1435) (p2 := 737) (L' := [some (.inr (.inr (some 3000))), some (.inr (.inr (some 0))), some (.inr (.inr (some 79))), some (.inl i)]) (st' := []) (w' := (SH, dt214)) rfl (c_eq (a := v_h37) (b := (-2)) (by first | exact bnd h37r (by decide) (by decide) | exact ⟨by (first | omega | (have z0_ := unhid h213_0; omega)), by (first | omega | (have z0_ := unhid h213_0; omega))⟩) ⟨by decide, by decide⟩) (fun c272 => ?_) (fun c272 => ?_)
      · skip
        exact K dt214 hI215 hM244 M2251 (by first | (first | omega | (have z0_ := unhid h213_0; omega)) | (simp only [*]; done) | simp only [*]) (w219.trans (hk1.trans w246.symm)) (w220.trans (hk2.trans w247.symm)) (by (first | omega | (have z0_ := unhid h213_0; omega))) (w222.trans (hk4.trans w249.symm)) (w223.trans (hk5.trans w250.symm)) (w224.trans (hk6.trans w234.symm)) (w225.trans (hk7.trans w235.symm)) (w226.trans (hk8.trans w236.symm)) (w227.trans (hk9.trans w237.symm)) (w228.trans (hk10.trans w238.symm)) (w229.trans (hk11.trans w239.symm)) (w230.trans (hk12.trans w240.symm)) (w231.trans (hk13.trans w241.symm)) (w232.trans (hk14.trans w242.symm)) (w233.trans (hk15.trans w243.symm)) (by first | exact hI | exact TPL_k hd0 C268 C271 (by (first | omega | (have z0_ := unhid h213_0; omega))) | (exfalso; (first | omega | (have z0_ := unhid h213_0; omega)))) (by first | exact hI | exact SCL_k hd1 hM (fun j _ => C252 j) (fun j _ => C253 j) (fun j _ _ => C269 j) | (exfalso; (first | omega | (have z0_ := unhid h213_0; omega)))) (by first | exact hI | exact SCL_k hd2 hM2 (fun j _ => C260 j) (fun j _ => C261 j) (fun j _ _ => C270 j) | (exfalso; (first | omega | (have z0_ := unhid h213_0; omega)))) (by first | exact hI | exact QRL_k hd3 hM (fun j _ => C257 j) (C269 1) (fun j _ _ => C269 j) | (exfalso; (first | omega | (have z0_ := unhid h213_0; omega)))) (by first | exact hI | exact QRL_k hd4 hM2 (fun j _ => C265 j) (C270 1) (fun j _ _ => C270 j) | (exfalso; (first | omega | (have z0_ := unhid h213_0; omega)))) (by first | exact hI | exact SDL_k hd5 hM (fun j _ => C258 j) (C269 1) (fun j _ _ => C269 j) (fun j _ _ => C269 j) | (exfalso; (first | omega | (have z0_ := unhid h213_0; omega)))) (by first | exact hI | exact SDL_k hd6 hM2 (fun j _ => C266 j) (C270 1) (fun j _ _ => C270 j) (fun j _ _ => C270 j) | (exfalso; (first | omega | (have z0_ := unhid h213_0; omega)))) (by first | exact hI | exact LWL_k hd7 hM (fun j _ => C254 j) (fun j _ => C255 j) (fun j _ => C256 j) (fun j _ _ => C269 j) | (exfalso; (first | omega | (have z0_ := unhid h213_0; omega)))) (by first | exact hI | exact LWL_k hd8 hM2 (fun j _ => C262 j) (fun j _ => C263 j) (fun j _ => C264 j) (fun j _ _ => C270 j) | (exfalso; (first | omega | (have z0_ := unhid h213_0; omega)))) (by first | exact hI | exact CHL_k hd9 hM (fun j _ => C259 j) (by (first | omega | (have z0_ := unhid h213_0; omega))) (fun j _ _ => C269 j) | (exfalso; (first | omega | (have z0_ := unhid h213_0; omega)))) (by first | exact hI | exact CHL_k hd10 hM2 (fun j _ => C267 j) (by (first | omega | (have z0_ := unhid h213_0; omega))) (fun j _ _ => C270 j) | (exfalso; (first | omega | (have z0_ := unhid h213_0; omega))))
      · skip
        replace c272 := hid c272
        exfalso; (first | omega | (have z0_ := unhid h213_0; have z1_ := unhid c272; omega))
    · skip
      have hM273 : MW (dt214 80) := h213.2.1
      obtain ⟨h213_0, h213_1, h213_2, h213_3, h213_4, h213_5, h213_6, h213_7, h213_8, h213_9⟩ := h213
      have w274 : dt214 80 1 = dt 80 1 := h213_4.trans w58
      have w275 : dt214 80 2 = dt 80 2 := h213_5.trans w59
      have w276 : dt214 80 4 = dt 80 4 := h213_6.trans w61
      have w277 : dt214 80 5 = dt 80 5 := h213_7.trans w62
      have M2278 : MW (dt214 81) := MW_frk M2189 hF216 (by decide)
      rw [show dt38 80 = dt 80 from funext C207] at h213_9
      have C279 : ∀ j : Nat, dt214 2 j = dt 2 j := fun j => (hF216 2 (by decide) j).trans (C190 j)
      have C280 : ∀ j : Nat, dt214 3 j = dt 3 j := fun j => (hF216 3 (by decide) j).trans (C191 j)
      have C281 : ∀ j : Nat, dt214 4 j = dt 4 j := fun j => (hF216 4 (by decide) j).trans (C192 j)
      have C282 : ∀ j : Nat, dt214 5 j = dt 5 j := fun j => (hF216 5 (by decide) j).trans (C193 j)
      have C283 : ∀ j : Nat, dt214 6 j = dt 6 j := fun j => (hF216 6 (by decide) j).trans (C194 j)
      have C284 : ∀ j : Nat, dt214 8 j = dt 8 j := fun j => (hF216 8 (by decide) j).trans (C195 j)
      have C285 : ∀ j : Nat, dt214 9 j = dt 9 j := fun j => (hF216 9 (by decide) j).trans (C196 j)
      have C286 : ∀ j : Nat, dt214 11 j = dt 11 j := fun j => (hF216 11 (by decide) j).trans (C197 j)
      have C287 : ∀ j : Nat, dt214 19 j = dt 19 j := fun j => (hF216 19 (by decide) j).trans (C198 j)
      have C288 : ∀ j : Nat, dt214 20 j = dt 20 j := fun j => (hF216 20 (by decide) j).trans (C199 j)
      have C289 : ∀ j : Nat, dt214 21 j = dt 21 j := fun j => (hF216 21 (by decide) j).trans (C200 j)
      have C290 : ∀ j : Nat, dt214 22 j = dt 22 j := fun j => (hF216 22 (by decide) j).trans (C201 j)
      have C291 : ∀ j : Nat, dt214 23 j = dt 23 j := fun j => (hF216 23 (by decide) j).trans (C202 j)
      have C292 : ∀ j : Nat, dt214 25 j = dt 25 j := fun j => (hF216 25 (by decide) j).trans (C203 j)
      have C293 : ∀ j : Nat, dt214 26 j = dt 26 j := fun j => (hF216 26 (by decide) j).trans (C204 j)
      have C294 : ∀ j : Nat, dt214 28 j = dt 28 j := fun j => (hF216 28 (by decide) j).trans (C205 j)
      have C295 : ∀ j : Nat, dt214 36 j = dt 36 j := fun j => (hF216 36 (by decide) j).trans (C206 j)
      have C296 : ∀ j : Nat, dt214 81 j = dt 81 j := fun j => (hF216 81 (by decide) j).trans (C208 j)
      have C297 : ∀ j : Nat, dt214 85 j = dt 85 j := fun j => (hF216 85 (by decide) j).trans (C209 j)
      have F298 : ∀ j : Nat, 6 ≤ j → j < 974 → dt214 80 j = dt 80 j := fun j h1_ h2_ => (h213_8 j (by omega) (by omega) (by omega)).trans (C207 j)
      have F299 : ∀ j : Nat, 974 ≤ j → j < 5320 → dt214 80 j = dt 80 j := fun j h1_ h2_ => (h213_8 j (by omega) (by omega) (by omega)).trans (C207 j)
      have F300 : ∀ j : Nat, 5320 ≤ j → j < 5380 → dt214 80 j = dt 80 j := fun j h1_ h2_ => (h213_8 j (by omega) (by omega) (by omega)).trans (C207 j)
      have F301 : dt214 80 1 = dt 80 1 := (h213_8 1 (by omega) (by omega) (by omega)).trans (C207 1)
      have F302 : ∀ j : Nat, 5380 ≤ j → j < 5540 → dt214 80 j = dt 80 j := fun j h1_ h2_ => (h213_8 j (by omega) (by omega) (by omega)).trans (C207 j)
      refine go_ifq PM267 (k := 0) (p1 := 1435) (p2 := 737) (L' := [some (.inr (.inr (some 3000))), some (.inr (.inr (some 0))), some (.inr (.inr (some 79))), some (.inl i)]) (st' := []) (w' := (SH, dt214)) rfl (c_eq (a := v_h37) (b := v_h213) (by first | exact bnd h37r (by decide) (by decide) | exact ⟨by omega, by omega⟩) (by first | exact bnd h213r (by decide) (by decide) | exact ⟨by omega, by omega⟩)) (fun c303 => ?_) (fun c303 => ?_)
      · skip
        exact K dt214 hI215 hM273 M2278 (by first | omega | (simp only [*]; done) | simp only [*]) (w219.trans (hk1.trans w274.symm)) (w220.trans (hk2.trans w275.symm)) (by omega) (w222.trans (hk4.trans w276.symm)) (w223.trans (hk5.trans w277.symm)) (w224.trans (hk6.trans w234.symm)) (w225.trans (hk7.trans w235.symm)) (w226.trans (hk8.trans w236.symm)) (w227.trans (hk9.trans w237.symm)) (w228.trans (hk10.trans w238.symm)) (w229.trans (hk11.trans w239.symm)) (w230.trans (hk12.trans w240.symm)) (w231.trans (hk13.trans w241.symm)) (w232.trans (hk14.trans w242.symm)) (w233.trans (hk15.trans w243.symm)) (by first | exact hI | exact TPL_k hd0 C295 C297 (by omega) | (exfalso; omega)) (by first | exact hI | exact SCL_k hd1 hM (fun j _ => C279 j) (fun j _ => C280 j) F298 | (exfalso; omega)) (by first | exact hI | exact SCL_k hd2 hM2 (fun j _ => C287 j) (fun j _ => C288 j) (fun j _ _ => C296 j) | (exfalso; omega)) (by first | exact hI | exact QRL_k hd3 hM (fun j _ => C284 j) F301 F300 | (exfalso; omega)) (by first | exact hI | exact QRL_k hd4 hM2 (fun j _ => C292 j) (C296 1) (fun j _ _ => C296 j) | (exfalso; omega)) (by first | exact hI | exact SDL_k hd5 hM (fun j _ => C285 j) F301 F298 F300 | (exfalso; omega)) (by first | exact hI | exact SDL_k hd6 hM2 (fun j _ => C293 j) (C296 1) (fun j _ _ => C296 j) (fun j _ _ => C296 j) | (exfalso; omega)) (by first | exact hI | exact LWL_k hd7 hM (fun j _ => C281 j) (fun j _ => C282 j) (fun j _ => C283 j) F299 | (exfalso; omega)) (by first | exact hI | exact LWL_k hd8 hM2 (fun j _ => C289 j) (fun j _ => C290 j) (fun j _ => C291 j) (fun j _ _ => C296 j) | (exfalso; omega)) (by first | exact hI | exact CHL_k hd9 hM (fun j _ => C286 j) (by omega) F302 | (exfalso; omega)) (by first | exact hI | exact CHL_k hd10 hM2 (fun j _ => C294 j) (by omega) (fun j _ _ => C296 j) | (exfalso; omega))
      · skip
        replace c303 := hid c303
        exfalso; (first | omega | (have z0_ := unhid c303; omega))
set_option maxRecDepth 20000 in
set_option maxHeartbeats 8000000 in
theorem sp_case13 (L : Nat) (xs : Nat → Int32) (sio : Option Nat) (d : Nat) (Q : Option AV → am_W → Prop) (hLL : L ≤ 3072) (i : Int) (hi : 0 ≤ i ∧ i ≤ 3066) (hil : i ≤ (L : Int) - 6) (dt : Nat → Nat → Int) (hI : InvC dt) (hM : MW (dt 80)) (hM2 : MW (dt 81)) (hk0 : dt 1 0 = dt 80 0) (hk1 : dt 7 3 = dt 80 1) (hk2 : dt 10 3 = dt 80 2) (hk3 : dt 12 3 = dt 80 3) (hk4 : dt 14 3 = dt 80 4) (hk5 : dt 16 3 = dt 80 5) (hk6 : dt 18 0 = dt 81 0) (hk7 : dt 24 3 = dt 81 1) (hk8 : dt 27 3 = dt 81 2) (hk9 : dt 29 3 = dt 81 3) (hk10 : dt 31 3 = dt 81 4) (hk11 : dt 33 3 = dt 81 5) (hk12 : dt 0 2 = dt 79 2) (hk13 : dt 35 1 = dt 79 12) (hk14 : dt 35 2 = dt 79 19) (hk15 : dt 35 3 = dt 79 21) (hd0 : TPL (dt 36) (dt 85) (dt 35 1)) (hd1 : SCL (dt 2) (dt 3) (dt 80)) (hd2 : SCL (dt 19) (dt 20) (dt 81)) (hd3 : QRL (dt 8) (dt 80)) (hd4 : QRL (dt 25) (dt 81)) (hd5 : SDL (dt 9) (dt 80)) (hd6 : SDL (dt 26) (dt 81)) (hd7 : LWL (dt 4) (dt 5) (dt 6) (dt 80)) (hd8 : LWL (dt 21) (dt 22) (dt 23) (dt 81)) (hd9 : CHL (dt 11) (dt 80)) (hd10 : CHL (dt 28) (dt 81)) (K : ∀ (dt : Nat → Nat → Int) (hI : InvC dt) (hM : MW (dt 80)) (hM2 : MW (dt 81)) (hk0 : dt 1 0 = dt 80 0) (hk1 : dt 7 3 = dt 80 1) (hk2 : dt 10 3 = dt 80 2) (hk3 : dt 12 3 = dt 80 3) (hk4 : dt 14 3 = dt 80 4) (hk5 : dt 16 3 = dt 80 5) (hk6 : dt 18 0 = dt 81 0) (hk7 : dt 24 3 = dt 81 1) (hk8 : dt 27 3 = dt 81 2) (hk9 : dt 29 3 = dt 81 3) (hk10 : dt 31 3 = dt 81 4) (hk11 : dt 33 3 = dt 81 5) (hk12 : dt 0 2 = dt 79 2) (hk13 : dt 35 1 = dt 79 12) (hk14 : dt 35 2 = dt 79 19) (hk15 : dt 35 3 = dt 79 21) (hd0 : TPL (dt 36) (dt 85) (dt 35 1)) (hd1 : SCL (dt 2) (dt 3) (dt 80)) (hd2 : SCL (dt 19) (dt 20) (dt 81)) (hd3 : QRL (dt 8) (dt 80)) (hd4 : QRL (dt 25) (dt 81)) (hd5 : SDL (dt 9) (dt 80)) (hd6 : SDL (dt 26) (dt 81)) (hd7 : LWL (dt 4) (dt 5) (dt 6) (dt 80)) (hd8 : LWL (dt 21) (dt 22) (dt 23) (dt 81)) (hd9 : CHL (dt 11) (dt 80)) (hd10 : CHL (dt 28) (dt 81)), GO (am_XX L xs sio) (d + 39) 267 1435 [some (.inr (.inr (some 3000))), some (.inr (.inr (some 0))), some (.inr (.inr (some 79))), some (.inl i)] [] (SH, dt) Q) : GO (am_XX L xs sio) (d + 39) 267 739 [some (.inr (.inr (some 3000))), some (.inr (.inr (some 0))), some (.inr (.inr (some 79))), some (.inl i)] [] (SH, dt) Q := by
  have hF : Fr [0, 1, 2, 3, 4, 5, 6, 7, 8, 9, 10, 11, 12, 13, 14, 15, 16, 17, 18, 19, 20, 21, 22, 23, 24, 25, 26, 27, 28, 29, 30, 31, 32, 33, 34, 35, 36, 37, 38, 39, 40, 41, 42, 43, 44, 45, 46, 47, 48, 49, 50, 51, 52, 53, 54, 55, 56, 57, 58, 59, 60, 61, 62, 63, 64, 65, 66, 67, 68, 69, 70, 71, 72, 73, 74, 75, 76, 77, 78, 79, 80, 81, 82, 83, 84, 85, 86, 87, 88, 89, 90, 91, 92, 93, 94, 95, 96, 97, 98, 99, 100, 101, 102, 103, 104] dt dt := Fr_refl
  have hqo := QOC_R hd3 hM hk1
  have hb1_ := hM.1.1
  have hb2_ := hM.1.2.1
  have hb3_ := hM.1.2.2.1
  have halk : ALK dt (dt 80) := ⟨hd7, hd3, hd5, hd9, hk1, hk2⟩
  refine go_toq PM267 (k := 5) (pc' := 744) (L' := [some (.inr (.inr (some 3000))), some (.inr (.inr (some 0))), some (.inr (.inr (some 79))), some (.inl i)]) (st' := [.inl (i + 1), .inr (.inr (some 3000)), .inr (.inr (some 0))]) (w' := (SH, dt)) rfl ?_
  have r1 := i32_R (xs ((i + 1).toNat))
  refine go_smpq PM267 (L' := [some (.inr (.inr (some 3000))), some (.inr (.inr (some 0))), some (.inr (.inr (some 79))), some (.inl i)]) (st' := [.inl ((xs ((i + 1).toNat)).toInt), .inr (.inr (some 0))]) (w' := (SH, dt)) rfl rfl (s_iald (n := L) (f := fun j => (xs j).toInt) (am_scr hLL) ⟨by omega, by omega⟩) ?_
  refine go_toq PM267 (k := 4) (pc' := 749) (L' := [some (.inr (.inr (some 3000))), some (.inr (.inr (some 0))), some (.inr (.inr (some 79))), some (.inl i)]) (st' := [.inl (i + 2), .inr (.inr (some 3000)), .inl ((xs ((i + 1).toNat)).toInt), .inr (.inr (some 0))]) (w' := (SH, dt)) rfl ?_
  have r2 := i32_R (xs ((i + 2).toNat))
  refine go_smpq PM267 (L' := [some (.inr (.inr (some 3000))), some (.inr (.inr (some 0))), some (.inr (.inr (some 79))), some (.inl i)]) (st' := [.inl ((xs ((i + 2).toNat)).toInt), .inl ((xs ((i + 1).toNat)).toInt), .inr (.inr (some 0))]) (w' := (SH, dt)) rfl rfl (s_iald (n := L) (f := fun j => (xs j).toInt) (am_scr hLL) ⟨by omega, by omega⟩) ?_
  refine go_toq PM267 (k := 4) (pc' := 754) (L' := [some (.inr (.inr (some 3000))), some (.inr (.inr (some 0))), some (.inr (.inr (some 79))), some (.inl i)]) (st' := [.inl (i + 3), .inr (.inr (some 3000)), .inl ((xs ((i + 2).toNat)).toInt), .inl ((xs ((i + 1).toNat)).toInt), .inr (.inr (some 0))]) (w' := (SH, dt)) rfl ?_
  have r3 := i32_R (xs ((i + 3).toNat))
  refine go_smpq PM267 (L' := [some (.inr (.inr (some 3000))), some (.inr (.inr (some 0))), some (.inr (.inr (some 79))), some (.inl i)]) (st' := [.inl ((xs ((i + 3).toNat)).toInt), .inl ((xs ((i + 2).toNat)).toInt), .inl ((xs ((i + 1).toNat)).toInt), .inr (.inr (some 0))]) (w' := (SH, dt)) rfl rfl (s_iald (n := L) (f := fun j => (xs j).toInt) (am_scr hLL) ⟨by omega, by omega⟩) ?_
  refine go_toq PM267 (k := 4) (pc' := 759) (L' := [some (.inr (.inr (some 3000))), some (.inr (.inr (some 0))), some (.inr (.inr (some 79))), some (.inl i)]) (st' := [.inl (i + 4), .inr (.inr (some 3000)), .inl ((xs ((i + 3).toNat)).toInt), .inl ((xs ((i + 2).toNat)).toInt), .inl ((xs ((i + 1).toNat)).toInt), .inr (.inr (some 0))]) (w' := (SH, dt)) rfl ?_
  have r4 := i32_R (xs ((i + 4).toNat))
  refine go_smpq PM267 (L' := [some (.inr (.inr (some 3000))), some (.inr (.inr (some 0))), some (.inr (.inr (some 79))), some (.inl i)]) (st' := [.inl ((xs ((i + 4).toNat)).toInt), .inl ((xs ((i + 3).toNat)).toInt), .inl ((xs ((i + 2).toNat)).toInt), .inl ((xs ((i + 1).toNat)).toInt), .inr (.inr (some 0))]) (w' := (SH, dt)) rfl rfl (s_iald (n := L) (f := fun j => (xs j).toInt) (am_scr hLL) ⟨by omega, by omega⟩) ?_
  refine go_callq PM267 PM80 (Q' := _) rfl rfl rfl rfl (sp_X5_told L xs sio (d + 36) dt hI  ((xs ((i + 1).toNat)).toInt) ⟨by omega, by omega⟩ ((xs ((i + 2).toNat)).toInt) ⟨by omega, by omega⟩ ((xs ((i + 3).toNat)).toInt) ⟨by omega, by omega⟩ ((xs ((i + 4).toNat)).toInt) ⟨by omega, by omega⟩ ) ?_
  rintro _ _ ⟨dt6, rfl, hI7, hF8, h5⟩
  refine ⟨rfl, ?_⟩
  have hF9 : Fr [0, 1, 2, 3, 4, 5, 6, 7, 8, 9, 10, 11, 12, 13, 14, 15, 16, 17, 18, 19, 20, 21, 22, 23, 24, 25, 26, 27, 28, 29, 30, 31, 32, 33, 34, 35, 36, 37, 38, 39, 40, 41, 42, 43, 44, 45, 46, 47, 48, 49, 50, 51, 52, 53, 54, 55, 56, 57, 58, 59, 60, 61, 62, 63, 64, 65, 66, 67, 68, 69, 70, 71, 72, 73, 74, 75, 76, 77, 78, 79, 80, 81, 82, 83, 84, 85, 86, 87, 88, 89, 90, 91, 92, 93, 94, 95, 96, 97, 98, 99, 100, 101, 102, 103, 104] dt dt6 := Fr_tr hF hF8 (by decide)
  have hM10 : MW (dt6 80) := MW_fr hM hF8 (by decide)
  have w11 : dt6 1 0 = dt 1 0 := hF8 1 (by decide) 0
  have w12 : dt6 7 3 = dt 7 3 := hF8 7 (by decide) 3
  have w13 : dt6 10 3 = dt 10 3 := hF8 10 (by decide) 3
  have w14 : dt6 14 3 = dt 14 3 := hF8 14 (by decide) 3
  have w15 : dt6 16 3 = dt 16 3 := hF8 16 (by decide) 3
  have w16 : dt6 18 0 = dt 18 0 := hF8 18 (by decide) 0
  have w17 : dt6 24 3 = dt 24 3 := hF8 24 (by decide) 3
  have w18 : dt6 27 3 = dt 27 3 := hF8 27 (by decide) 3
  have w19 : dt6 29 3 = dt 29 3 := hF8 29 (by decide) 3
  have w20 : dt6 31 3 = dt 31 3 := hF8 31 (by decide) 3
  have w21 : dt6 33 3 = dt 33 3 := hF8 33 (by decide) 3
  have w22 : dt6 0 2 = dt 0 2 := hF8 0 (by decide) 2
  have w23 : dt6 35 1 = dt 35 1 := hF8 35 (by decide) 1
  have w24 : dt6 35 2 = dt 35 2 := hF8 35 (by decide) 2
  have w25 : dt6 35 3 = dt 35 3 := hF8 35 (by decide) 3
  have w26 : dt6 80 0 = dt 80 0 := hF8 80 (by decide) 0
  have w27 : dt6 80 1 = dt 80 1 := hF8 80 (by decide) 1
  have w28 : dt6 80 2 = dt 80 2 := hF8 80 (by decide) 2
  have w29 : dt6 80 3 = dt 80 3 := hF8 80 (by decide) 3
  have w30 : dt6 80 4 = dt 80 4 := hF8 80 (by decide) 4
  have w31 : dt6 80 5 = dt 80 5 := hF8 80 (by decide) 5
  have w32 : dt6 81 0 = dt 81 0 := hF8 81 (by decide) 0
  have w33 : dt6 81 1 = dt 81 1 := hF8 81 (by decide) 1
  have w34 : dt6 81 2 = dt 81 2 := hF8 81 (by decide) 2
  have w35 : dt6 81 3 = dt 81 3 := hF8 81 (by decide) 3
  have w36 : dt6 81 4 = dt 81 4 := hF8 81 (by decide) 4
  have w37 : dt6 81 5 = dt 81 5 := hF8 81 (by decide) 5
  have w38 : dt6 79 2 = dt 79 2 := hF8 79 (by decide) 2
  have w39 : dt6 79 12 = dt 79 12 := hF8 79 (by decide) 12
  have w40 : dt6 79 19 = dt 79 19 := hF8 79 (by decide) 19
  have w41 : dt6 79 21 = dt 79 21 := hF8 79 (by decide) 21
  rcases h5 with ⟨rfl, h5⟩ | ⟨v_h5, rfl, h5r, h5⟩
  · skip
    obtain ⟨h5_0, h5_1⟩ := h5
    replace h5_0 := hid h5_0
    have w42 : dt6 12 3 = dt 12 3 := h5_1
    have M243 : MW (dt6 81) := MW_frk hM2 hF8 (by decide)
    have C44 : ∀ j : Nat, dt6 2 j = dt 2 j := fun j => (hF8 2 (by decide) j).trans ((fun _ => rfl) j)
    have C45 : ∀ j : Nat, dt6 3 j = dt 3 j := fun j => (hF8 3 (by decide) j).trans ((fun _ => rfl) j)
    have C46 : ∀ j : Nat, dt6 4 j = dt 4 j := fun j => (hF8 4 (by decide) j).trans ((fun _ => rfl) j)
    have C47 : ∀ j : Nat, dt6 5 j = dt 5 j := fun j => (hF8 5 (by decide) j).trans ((fun _ => rfl) j)
    have C48 : ∀ j : Nat, dt6 6 j = dt 6 j := fun j => (hF8 6 (by decide) j).trans ((fun _ => rfl) j)
    have C49 : ∀ j : Nat, dt6 8 j = dt 8 j := fun j => (hF8 8 (by decide) j).trans ((fun _ => rfl) j)
    have C50 : ∀ j : Nat, dt6 9 j = dt 9 j := fun j => (hF8 9 (by decide) j).trans ((fun _ => rfl) j)
    have C51 : ∀ j : Nat, dt6 11 j = dt 11 j := fun j => (hF8 11 (by decide) j).trans ((fun _ => rfl) j)
    have C52 : ∀ j : Nat, dt6 19 j = dt 19 j := fun j => (hF8 19 (by decide) j).trans ((fun _ => rfl) j)
    have C53 : ∀ j : Nat, dt6 20 j = dt 20 j := fun j => (hF8 20 (by decide) j).trans ((fun _ => rfl) j)
    have C54 : ∀ j : Nat, dt6 21 j = dt 21 j := fun j => (hF8 21 (by decide) j).trans ((fun _ => rfl) j)
    have C55 : ∀ j : Nat, dt6 22 j = dt 22 j := fun j => (hF8 22 (by decide) j).trans ((fun _ => rfl) j)
    have C56 : ∀ j : Nat, dt6 23 j = dt 23 j := fun j => (hF8 23 (by decide) j).trans ((fun _ => rfl) j)
    have C57 : ∀ j : Nat, dt6 25 j = dt 25 j := fun j => (hF8 25 (by decide) j).trans ((fun _ => rfl) j)
    have C58 : ∀ j : Nat, dt6 26 j = dt 26 j := fun j => (hF8 26 (by decide) j).trans ((fun _ => rfl) j)
    have C59 : ∀ j : Nat, dt6 28 j = dt 28 j := fun j => (hF8 28 (by decide) j).trans ((fun _ => rfl) j)
    have C60 : ∀ j : Nat, dt6 36 j = dt 36 j := fun j => (hF8 36 (by decide) j).trans ((fun _ => rfl) j)
    have C61 : ∀ j : Nat, dt6 80 j = dt 80 j := fun j => (hF8 80 (by decide) j).trans ((fun _ => rfl) j)
    have C62 : ∀ j : Nat, dt6 81 j = dt 81 j := fun j => (hF8 81 (by decide) j).trans ((fun _ => rfl) j)
    have C63 : ∀ j : Nat, dt6 85 j = dt 85 j := fun j => (hF8 85 (by decide) j).trans ((fun _ => rfl) j)
    refine go_toq PM267 (k := 6) (pc' := 769) (L' := [some (.inr (.inr (some 3000))), some (.inr (.inr (some 0))), some (.inr (.inr (some 79))), some (.inl i)]) (st' := [.inl (i + 1), .inr (.inr (some 3000)), .inr (.inr (some 79))]) (w' := (SH, dt6)) rfl ?_
    have r64 := i32_R (xs ((i + 1).toNat))
    refine go_smpq PM267 (L' := [some (.inr (.inr (some 3000))), some (.inr (.inr (some 0))), some (.inr (.inr (some 79))), some (.inl i)]) (st' := [.inl ((xs ((i + 1).toNat)).toInt), .inr (.inr (some 79))]) (w' := (SH, dt6)) rfl rfl (s_iald (n := L) (f := fun j => (xs j).toInt) (am_scr hLL) ⟨by (first | omega | (have z0_ := unhid h5_0; omega)), by (first | omega | (have z0_ := unhid h5_0; omega))⟩) ?_
    refine go_toq PM267 (k := 4) (pc' := 774) (L' := [some (.inr (.inr (some 3000))), some (.inr (.inr (some 0))), some (.inr (.inr (some 79))), some (.inl i)]) (st' := [.inl (i + 2), .inr (.inr (some 3000)), .inl ((xs ((i + 1).toNat)).toInt), .inr (.inr (some 79))]) (w' := (SH, dt6)) rfl ?_
    have r65 := i32_R (xs ((i + 2).toNat))
    refine go_smpq PM267 (L' := [some (.inr (.inr (some 3000))), some (.inr (.inr (some 0))), some (.inr (.inr (some 79))), some (.inl i)]) (st' := [.inl ((xs ((i + 2).toNat)).toInt), .inl ((xs ((i + 1).toNat)).toInt), .inr (.inr (some 79))]) (w' := (SH, dt6)) rfl rfl (s_iald (n := L) (f := fun j => (xs j).toInt) (am_scr hLL) ⟨by (first | omega | (have z0_ := unhid h5_0; omega)), by (first | omega | (have z0_ := unhid h5_0; omega))⟩) ?_
    refine go_toq PM267 (k := 4) (pc' := 779) (L' := [some (.inr (.inr (some 3000))), some (.inr (.inr (some 0))), some (.inr (.inr (some 79))), some (.inl i)]) (st' := [.inl (i + 3), .inr (.inr (some 3000)), .inl ((xs ((i + 2).toNat)).toInt), .inl ((xs ((i + 1).toNat)).toInt), .inr (.inr (some 79))]) (w' := (SH, dt6)) rfl ?_
    have r66 := i32_R (xs ((i + 3).toNat))
    refine go_smpq PM267 (L' := [some (.inr (.inr (some 3000))), some (.inr (.inr (some 0))), some (.inr (.inr (some 79))), some (.inl i)]) (st' := [.inl ((xs ((i + 3).toNat)).toInt), .inl ((xs ((i + 2).toNat)).toInt), .inl ((xs ((i + 1).toNat)).toInt), .inr (.inr (some 79))]) (w' := (SH, dt6)) rfl rfl (s_iald (n := L) (f := fun j => (xs j).toInt) (am_scr hLL) ⟨by (first | omega | (have z0_ := unhid h5_0; omega)), by (first | omega | (have z0_ := unhid h5_0; omega))⟩) ?_
    refine go_toq PM267 (k := 4) (pc' := 784) (L' := [some (.inr (.inr (some 3000))), some (.inr (.inr (some 0))), some (.inr (.inr (some 79))), some (.inl i)]) (st' := [.inl (i + 4), .inr (.inr (some 3000)), .inl ((xs ((i + 3).toNat)).toInt), .inl ((xs ((i + 2).toNat)).toInt), .inl ((xs ((i + 1).toNat)).toInt), .inr (.inr (some 79))]) (w' := (SH, dt6)) rfl ?_
    have r67 := i32_R (xs ((i + 4).toNat))
    refine go_smpq PM267 (L' := [some (.inr (.inr (some 3000))), some (.inr (.inr (some 0))), some (.inr (.inr (some 79))), some (.inl i)]) (st' := [.inl ((xs ((i + 4).toNat)).toInt), .inl ((xs ((i + 3).toNat)).toInt), .inl ((xs ((i + 2).toNat)).toInt), .inl ((xs ((i + 1).toNat)).toInt), .inr (.inr (some 79))]) (w' := (SH, dt6)) rfl rfl (s_iald (n := L) (f := fun j => (xs j).toInt) (am_scr hLL) ⟨by (first | omega | (have z0_ := unhid h5_0; omega)), by (first | omega | (have z0_ := unhid h5_0; omega))⟩) ?_
    refine go_callq PM267 PM213 (Q' := _) rfl rfl rfl rfl (sp_X6_told_v L xs sio (d + 36) dt6 hI7 hM10  ((xs ((i + 1).toNat)).toInt) ⟨by (first | omega | (have z0_ := unhid h5_0; omega)), by (first | omega | (have z0_ := unhid h5_0; omega))⟩ ((xs ((i + 2).toNat)).toInt) ⟨by (first | omega | (have z0_ := unhid h5_0; omega)), by (first | omega | (have z0_ := unhid h5_0; omega))⟩ ((xs ((i + 3).toNat)).toInt) ⟨by (first | omega | (have z0_ := unhid h5_0; omega)), by (first | omega | (have z0_ := unhid h5_0; omega))⟩ ((xs ((i + 4).toNat)).toInt) ⟨by (first | omega | (have z0_ := unhid h5_0; omega)), by (first | omega | (have z0_ := unhid h5_0; omega))⟩ ) ?_
    rintro _ _ ⟨dt69, rfl, hI70, hF71, h68⟩
    refine ⟨rfl, ?_⟩
    have hF72 : Fr [0, 1, 2, 3, 4, 5, 6, 7, 8, 9, 10, 11, 12, 13, 14, 15, 16, 17, 18, 19, 20, 21, 22, 23, 24, 25, 26, 27, 28, 29, 30, 31, 32, 33, 34, 35, 36, 37, 38, 39, 40, 41, 42, 43, 44, 45, 46, 47, 48, 49, 50, 51, 52, 53, 54, 55, 56, 57, 58, 59, 60, 61, 62, 63, 64, 65, 66, 67, 68, 69, 70, 71, 72, 73, 74, 75, 76, 77, 78, 79, 80, 81, 82, 83, 84, 85, 86, 87, 88, 89, 90, 91, 92, 93, 94, 95, 96, 97, 98, 99, 100, 101, 102, 103, 104] dt dt69 := Fr_tr hF9 hF71 (by decide)
    have w73 : dt69 1 0 = dt 1 0 := (hF71 1 (by decide) 0).trans w11
    have w74 : dt69 7 3 = dt 7 3 := (hF71 7 (by decide) 3).trans w12
    have w75 : dt69 10 3 = dt 10 3 := (hF71 10 (by decide) 3).trans w13
    have w76 : dt69 12 3 = dt 12 3 := (hF71 12 (by decide) 3).trans w42
    have w77 : dt69 14 3 = dt 14 3 := (hF71 14 (by decide) 3).trans w14
    have w78 : dt69 16 3 = dt 16 3 := (hF71 16 (by decide) 3).trans w15
    have w79 : dt69 18 0 = dt 18 0 := (hF71 18 (by decide) 0).trans w16
    have w80 : dt69 24 3 = dt 24 3 := (hF71 24 (by decide) 3).trans w17
    have w81 : dt69 27 3 = dt 27 3 := (hF71 27 (by decide) 3).trans w18
    have w82 : dt69 29 3 = dt 29 3 := (hF71 29 (by decide) 3).trans w19
    have w83 : dt69 31 3 = dt 31 3 := (hF71 31 (by decide) 3).trans w20
    have w84 : dt69 33 3 = dt 33 3 := (hF71 33 (by decide) 3).trans w21
    have w85 : dt69 0 2 = dt 0 2 := (hF71 0 (by decide) 2).trans w22
    have w86 : dt69 35 1 = dt 35 1 := (hF71 35 (by decide) 1).trans w23
    have w87 : dt69 35 2 = dt 35 2 := (hF71 35 (by decide) 2).trans w24
    have w88 : dt69 35 3 = dt 35 3 := (hF71 35 (by decide) 3).trans w25
    have w89 : dt69 81 0 = dt 81 0 := (hF71 81 (by decide) 0).trans w32
    have w90 : dt69 81 1 = dt 81 1 := (hF71 81 (by decide) 1).trans w33
    have w91 : dt69 81 2 = dt 81 2 := (hF71 81 (by decide) 2).trans w34
    have w92 : dt69 81 3 = dt 81 3 := (hF71 81 (by decide) 3).trans w35
    have w93 : dt69 81 4 = dt 81 4 := (hF71 81 (by decide) 4).trans w36
    have w94 : dt69 81 5 = dt 81 5 := (hF71 81 (by decide) 5).trans w37
    have w95 : dt69 79 2 = dt 79 2 := (hF71 79 (by decide) 2).trans w38
    have w96 : dt69 79 12 = dt 79 12 := (hF71 79 (by decide) 12).trans w39
    have w97 : dt69 79 19 = dt 79 19 := (hF71 79 (by decide) 19).trans w40
    have w98 : dt69 79 21 = dt 79 21 := (hF71 79 (by decide) 21).trans w41
    rcases h68 with ⟨rfl, h68⟩ | ⟨v_h68, rfl, h68r, h68⟩
    · skip
      have hM99 : MW (dt69 80) := h68.2.1
      obtain ⟨h68_0, h68_1, h68_2, h68_3, h68_4, h68_5, h68_6, h68_7, h68_8⟩ := h68
      replace h68_0 := hid h68_0
      have w100 : dt69 80 0 = dt 80 0 := h68_2.trans w26
      have w101 : dt69 80 1 = dt 80 1 := h68_3.trans w27
      have w102 : dt69 80 2 = dt 80 2 := h68_4.trans w28
      have w103 : dt69 80 3 = dt 80 3 := h68_5.trans w29
      have w104 : dt69 80 4 = dt 80 4 := h68_6.trans w30
      have w105 : dt69 80 5 = dt 80 5 := h68_7.trans w31
      have M2106 : MW (dt69 81) := MW_frk M243 hF71 (by decide)
      have C107 : ∀ j : Nat, dt69 2 j = dt 2 j := fun j => (hF71 2 (by decide) j).trans (C44 j)
      have C108 : ∀ j : Nat, dt69 3 j = dt 3 j := fun j => (hF71 3 (by decide) j).trans (C45 j)
      have C109 : ∀ j : Nat, dt69 4 j = dt 4 j := fun j => (hF71 4 (by decide) j).trans (C46 j)
      have C110 : ∀ j : Nat, dt69 5 j = dt 5 j := fun j => (hF71 5 (by decide) j).trans (C47 j)
      have C111 : ∀ j : Nat, dt69 6 j = dt 6 j := fun j => (hF71 6 (by decide) j).trans (C48 j)
      have C112 : ∀ j : Nat, dt69 8 j = dt 8 j := fun j => (hF71 8 (by decide) j).trans (C49 j)
      have C113 : ∀ j : Nat, dt69 9 j = dt 9 j := fun j => (hF71 9 (by decide) j).trans (C50 j)
      have C114 : ∀ j : Nat, dt69 11 j = dt 11 j := fun j => (hF71 11 (by decide) j).trans (C51 j)
      have C115 : ∀ j : Nat, dt69 19 j = dt 19 j := fun j => (hF71 19 (by decide) j).trans (C52 j)
      have C116 : ∀ j : Nat, dt69 20 j = dt 20 j := fun j => (hF71 20 (by decide) j).trans (C53 j)
      have C117 : ∀ j : Nat, dt69 21 j = dt 21 j := fun j => (hF71 21 (by decide) j).trans (C54 j)
      have C118 : ∀ j : Nat, dt69 22 j = dt 22 j := fun j => (hF71 22 (by decide) j).trans (C55 j)
      have C119 : ∀ j : Nat, dt69 23 j = dt 23 j := fun j => (hF71 23 (by decide) j).trans (C56 j)
      have C120 : ∀ j : Nat, dt69 25 j = dt 25 j := fun j => (hF71 25 (by decide) j).trans (C57 j)
      have C121 : ∀ j : Nat, dt69 26 j = dt 26 j := fun j => (hF71 26 (by decide) j).trans (C58 j)
      have C122 : ∀ j : Nat, dt69 28 j = dt 28 j := fun j => (hF71 28 (by decide) j).trans (C59 j)
      have C123 : ∀ j : Nat, dt69 36 j = dt 36 j := fun j => (hF71 36 (by decide) j).trans (C60 j)
      have C124 : ∀ j : Nat, dt69 80 j = dt 80 j := fun j => (h68_8 j).trans (C61 j)
      have C125 : ∀ j : Nat, dt69 81 j = dt 81 j := fun j => (hF71 81 (by decide) j).trans (C62 j)
      have C126 : ∀ j : Nat, dt69 85 j = dt 85 j := fun j => (hF71 85 (by decide) j).trans (C63 j)
      refine go_toq PM267 (k := 2) (pc' := 1435) (L' := [some (.inr (.inr (some 3000))), some (.inr (.inr (some 0))), some (.inr (.inr (some 79))), some (.inl i)]) (st' := []) (w' := (SH, dt69)) rfl ?_
      exact K dt69 hI70 hM99 M2106 (w73.trans (hk0.trans w100.symm)) (w74.trans (hk1.trans w101.symm)) (w75.trans (hk2.trans w102.symm)) (w76.trans (hk3.trans w103.symm)) (w77.trans (hk4.trans w104.symm)) (w78.trans (hk5.trans w105.symm)) (w79.trans (hk6.trans w89.symm)) (w80.trans (hk7.trans w90.symm)) (w81.trans (hk8.trans w91.symm)) (w82.trans (hk9.trans w92.symm)) (w83.trans (hk10.trans w93.symm)) (w84.trans (hk11.trans w94.symm)) (w85.trans (hk12.trans w95.symm)) (w86.trans (hk13.trans w96.symm)) (w87.trans (hk14.trans w97.symm)) (w88.trans (hk15.trans w98.symm)) (by first | exact hI | exact TPL_k hd0 C123 C126 (by (first | omega | (have z0_ := unhid h5_0; have z1_ := unhid h68_0; omega))) | (exfalso; (first | omega | (have z0_ := unhid h5_0; have z1_ := unhid h68_0; omega)))) (by first | exact hI | exact SCL_k hd1 hM (fun j _ => C107 j) (fun j _ => C108 j) (fun j _ _ => C124 j) | (exfalso; (first | omega | (have z0_ := unhid h5_0; have z1_ := unhid h68_0; omega)))) (by first | exact hI | exact SCL_k hd2 hM2 (fun j _ => C115 j) (fun j _ => C116 j) (fun j _ _ => C125 j) | (exfalso; (first | omega | (have z0_ := unhid h5_0; have z1_ := unhid h68_0; omega)))) (by first | exact hI | exact QRL_k hd3 hM (fun j _ => C112 j) (C124 1) (fun j _ _ => C124 j) | (exfalso; (first | omega | (have z0_ := unhid h5_0; have z1_ := unhid h68_0; omega)))) (by first | exact hI | exact QRL_k hd4 hM2 (fun j _ => C120 j) (C125 1) (fun j _ _ => C125 j) | (exfalso; (first | omega | (have z0_ := unhid h5_0; have z1_ := unhid h68_0; omega)))) (by first | exact hI | exact SDL_k hd5 hM (fun j _ => C113 j) (C124 1) (fun j _ _ => C124 j) (fun j _ _ => C124 j) | (exfalso; (first | omega | (have z0_ := unhid h5_0; have z1_ := unhid h68_0; omega)))) (by first | exact hI | exact SDL_k hd6 hM2 (fun j _ => C121 j) (C125 1) (fun j _ _ => C125 j) (fun j _ _ => C125 j) | (exfalso; (first | omega | (have z0_ := unhid h5_0; have z1_ := unhid h68_0; omega)))) (by first | exact hI | exact LWL_k hd7 hM (fun j _ => C109 j) (fun j _ => C110 j) (fun j _ => C111 j) (fun j _ _ => C124 j) | (exfalso; (first | omega | (have z0_ := unhid h5_0; have z1_ := unhid h68_0; omega)))) (by first | exact hI | exact LWL_k hd8 hM2 (fun j _ => C117 j) (fun j _ => C118 j) (fun j _ => C119 j) (fun j _ _ => C125 j) | (exfalso; (first | omega | (have z0_ := unhid h5_0; have z1_ := unhid h68_0; omega)))) (by first | exact hI | exact CHL_k hd9 hM (fun j _ => C114 j) (by (first | omega | (have z0_ := unhid h5_0; have z1_ := unhid h68_0; omega))) (fun j _ _ => C124 j) | (exfalso; (first | omega | (have z0_ := unhid h5_0; have z1_ := unhid h68_0; omega)))) (by first | exact hI | exact CHL_k hd10 hM2 (fun j _ => C122 j) (by (first | omega | (have z0_ := unhid h5_0; have z1_ := unhid h68_0; omega))) (fun j _ _ => C125 j) | (exfalso; (first | omega | (have z0_ := unhid h5_0; have z1_ := unhid h68_0; omega))))
    · skip
      have hM127 : MW (dt69 80) := h68.2.2.1
      obtain ⟨h68_0, h68_1, h68_2, h68_3, h68_4, h68_5, h68_6, h68_7, h68_8, h68_9, h68_10, h68_11, h68_12, h68_13, h68_14, h68_15⟩ := h68
      have w128 : dt69 80 0 = dt 80 0 := h68_4.trans w26
      have w129 : dt69 80 1 = dt 80 1 := h68_5.trans w27
      have w130 : dt69 80 2 = dt 80 2 := h68_6.trans w28
      have w131 : dt69 80 4 = dt 80 4 := h68_7.trans w30
      have w132 : dt69 80 5 = dt 80 5 := h68_8.trans w31
      have M2133 : MW (dt69 81) := MW_frk M243 hF71 (by decide)
      have C134 : ∀ j : Nat, dt69 2 j = dt 2 j := fun j => (hF71 2 (by decide) j).trans (C44 j)
      have C135 : ∀ j : Nat, dt69 3 j = dt 3 j := fun j => (hF71 3 (by decide) j).trans (C45 j)
      have C136 : ∀ j : Nat, dt69 4 j = dt 4 j := fun j => (hF71 4 (by decide) j).trans (C46 j)
      have C137 : ∀ j : Nat, dt69 5 j = dt 5 j := fun j => (hF71 5 (by decide) j).trans (C47 j)
      have C138 : ∀ j : Nat, dt69 6 j = dt 6 j := fun j => (hF71 6 (by decide) j).trans (C48 j)
      have C139 : ∀ j : Nat, dt69 8 j = dt 8 j := fun j => (hF71 8 (by decide) j).trans (C49 j)
      have C140 : ∀ j : Nat, dt69 9 j = dt 9 j := fun j => (hF71 9 (by decide) j).trans (C50 j)
      have C141 : ∀ j : Nat, dt69 11 j = dt 11 j := fun j => (hF71 11 (by decide) j).trans (C51 j)
      have C142 : ∀ j : Nat, dt69 19 j = dt 19 j := fun j => (hF71 19 (by decide) j).trans (C52 j)
      have C143 : ∀ j : Nat, dt69 20 j = dt 20 j := fun j => (hF71 20 (by decide) j).trans (C53 j)
      have C144 : ∀ j : Nat, dt69 21 j = dt 21 j := fun j => (hF71 21 (by decide) j).trans (C54 j)
      have C145 : ∀ j : Nat, dt69 22 j = dt 22 j := fun j => (hF71 22 (by decide) j).trans (C55 j)
      have C146 : ∀ j : Nat, dt69 23 j = dt 23 j := fun j => (hF71 23 (by decide) j).trans (C56 j)
      have C147 : ∀ j : Nat, dt69 25 j = dt 25 j := fun j => (hF71 25 (by decide) j).trans (C57 j)
      have C148 : ∀ j : Nat, dt69 26 j = dt 26 j := fun j => (hF71 26 (by decide) j).trans (C58 j)
      have C149 : ∀ j : Nat, dt69 28 j = dt 28 j := fun j => (hF71 28 (by decide) j).trans (C59 j)
      have C150 : ∀ j : Nat, dt69 36 j = dt 36 j := fun j => (hF71 36 (by decide) j).trans (C60 j)
      have C151 : ∀ j : Nat, dt69 81 j = dt 81 j := fun j => (hF71 81 (by decide) j).trans (C62 j)
      have C152 : ∀ j : Nat, dt69 85 j = dt 85 j := fun j => (hF71 85 (by decide) j).trans (C63 j)
      have F153 : ∀ j : Nat, 6 ≤ j → j < 974 → dt69 80 j = dt 80 j := fun j h1_ h2_ => (h68_9 j (by (first | omega | (have z0_ := unhid h5_0; omega))) (by (first | omega | (have z0_ := unhid h5_0; omega)))).trans (C61 j)
      have F154 : ∀ j : Nat, 974 ≤ j → j < 5320 → dt69 80 j = dt 80 j := fun j h1_ h2_ => (h68_9 j (by (first | omega | (have z0_ := unhid h5_0; omega))) (by (first | omega | (have z0_ := unhid h5_0; omega)))).trans (C61 j)
      have F155 : ∀ j : Nat, 5320 ≤ j → j < 5380 → dt69 80 j = dt 80 j := fun j h1_ h2_ => (h68_9 j (by (first | omega | (have z0_ := unhid h5_0; omega))) (by (first | omega | (have z0_ := unhid h5_0; omega)))).trans (C61 j)
      have F156 : dt69 80 1 = dt 80 1 := (h68_9 1 (by (first | omega | (have z0_ := unhid h5_0; omega))) (by (first | omega | (have z0_ := unhid h5_0; omega)))).trans (C61 1)
      have F157 : ∀ j : Nat, 5380 ≤ j → j < 5540 → dt69 80 j = dt 80 j := fun j h1_ h2_ => (h68_9 j (by (first | omega | (have z0_ := unhid h5_0; omega))) (by (first | omega | (have z0_ := unhid h5_0; omega)))).trans (C61 j)
      refine go_toq PM267 (k := 2) (pc' := 1435) (L' := [some (.inr (.inr (some 3000))), some (.inr (.inr (some 0))), some (.inr (.inr (some 79))), some (.inl i)]) (st' := []) (w' := (SH, dt69)) rfl ?_
      exact K dt69 hI70 hM127 M2133 (w73.trans (hk0.trans w128.symm)) (w74.trans (hk1.trans w129.symm)) (w75.trans (hk2.trans w130.symm)) (by (first | omega | (have z0_ := unhid h5_0; omega))) (w77.trans (hk4.trans w131.symm)) (w78.trans (hk5.trans w132.symm)) (w79.trans (hk6.trans w89.symm)) (w80.trans (hk7.trans w90.symm)) (w81.trans (hk8.trans w91.symm)) (w82.trans (hk9.trans w92.symm)) (w83.trans (hk10.trans w93.symm)) (w84.trans (hk11.trans w94.symm)) (w85.trans (hk12.trans w95.symm)) (w86.trans (hk13.trans w96.symm)) (w87.trans (hk14.trans w97.symm)) (w88.trans (hk15.trans w98.symm)) (by first | exact hI | exact TPL_k hd0 C150 C152 (by (first | omega | (have z0_ := unhid h5_0; omega))) | (exfalso; (first | omega | (have z0_ := unhid h5_0; omega)))) (by first | exact hI | exact SCL_k hd1 hM (fun j _ => C134 j) (fun j _ => C135 j) F153 | (exfalso; (first | omega | (have z0_ := unhid h5_0; omega)))) (by first | exact hI | exact SCL_k hd2 hM2 (fun j _ => C142 j) (fun j _ => C143 j) (fun j _ _ => C151 j) | (exfalso; (first | omega | (have z0_ := unhid h5_0; omega)))) (by first | exact hI | exact QRL_k hd3 hM (fun j _ => C139 j) F156 F155 | (exfalso; (first | omega | (have z0_ := unhid h5_0; omega)))) (by first | exact hI | exact QRL_k hd4 hM2 (fun j _ => C147 j) (C151 1) (fun j _ _ => C151 j) | (exfalso; (first | omega | (have z0_ := unhid h5_0; omega)))) (by first | exact hI | exact SDL_k hd5 hM (fun j _ => C140 j) F156 F153 F155 | (exfalso; (first | omega | (have z0_ := unhid h5_0; omega)))) (by first | exact hI | exact SDL_k hd6 hM2 (fun j _ => C148 j) (C151 1) (fun j _ _ => C151 j) (fun j _ _ => C151 j) | (exfalso; (first | omega | (have z0_ := unhid h5_0; omega)))) (by first | exact hI | exact LWL_k hd7 hM (fun j _ => C136 j) (fun j _ => C137 j) (fun j _ => C138 j) F154 | (exfalso; (first | omega | (have z0_ := unhid h5_0; omega)))) (by first | exact hI | exact LWL_k hd8 hM2 (fun j _ => C144 j) (fun j _ => C145 j) (fun j _ => C146 j) (fun j _ _ => C151 j) | (exfalso; (first | omega | (have z0_ := unhid h5_0; omega)))) (by first | exact hI | exact CHL_k hd9 hM (fun j _ => C141 j) (by (first | omega | (have z0_ := unhid h5_0; omega))) F157 | (exfalso; (first | omega | (have z0_ := unhid h5_0; omega)))) (by first | exact hI | exact CHL_k hd10 hM2 (fun j _ => C149 j) (by (first | omega | (have z0_ := unhid h5_0; omega))) (fun j _ _ => C151 j) | (exfalso; (first | omega | (have z0_ := unhid h5_0; omega))))
  · skip
    obtain ⟨h5_0, h5_1, h5_2⟩ := h5
    have M2158 : MW (dt6 81) := MW_frk hM2 hF8 (by decide)
    have C159 : ∀ j : Nat, dt6 2 j = dt 2 j := fun j => (hF8 2 (by decide) j).trans ((fun _ => rfl) j)
    have C160 : ∀ j : Nat, dt6 3 j = dt 3 j := fun j => (hF8 3 (by decide) j).trans ((fun _ => rfl) j)
    have C161 : ∀ j : Nat, dt6 4 j = dt 4 j := fun j => (hF8 4 (by decide) j).trans ((fun _ => rfl) j)
    have C162 : ∀ j : Nat, dt6 5 j = dt 5 j := fun j => (hF8 5 (by decide) j).trans ((fun _ => rfl) j)
    have C163 : ∀ j : Nat, dt6 6 j = dt 6 j := fun j => (hF8 6 (by decide) j).trans ((fun _ => rfl) j)
    have C164 : ∀ j : Nat, dt6 8 j = dt 8 j := fun j => (hF8 8 (by decide) j).trans ((fun _ => rfl) j)
    have C165 : ∀ j : Nat, dt6 9 j = dt 9 j := fun j => (hF8 9 (by decide) j).trans ((fun _ => rfl) j)
    have C166 : ∀ j : Nat, dt6 11 j = dt 11 j := fun j => (hF8 11 (by decide) j).trans ((fun _ => rfl) j)
    have C167 : ∀ j : Nat, dt6 19 j = dt 19 j := fun j => (hF8 19 (by decide) j).trans ((fun _ => rfl) j)
    have C168 : ∀ j : Nat, dt6 20 j = dt 20 j := fun j => (hF8 20 (by decide) j).trans ((fun _ => rfl) j)
    have C169 : ∀ j : Nat, dt6 21 j = dt 21 j := fun j => (hF8 21 (by decide) j).trans ((fun _ => rfl) j)
    have C170 : ∀ j : Nat, dt6 22 j = dt 22 j := fun j => (hF8 22 (by decide) j).trans ((fun _ => rfl) j)
    have C171 : ∀ j : Nat, dt6 23 j = dt 23 j := fun j => (hF8 23 (by decide) j).trans ((fun _ => rfl) j)
    have C172 : ∀ j : Nat, dt6 25 j = dt 25 j := fun j => (hF8 25 (by decide) j).trans ((fun _ => rfl) j)
    have C173 : ∀ j : Nat, dt6 26 j = dt 26 j := fun j => (hF8 26 (by decide) j).trans ((fun _ => rfl) j)
    have C174 : ∀ j : Nat, dt6 28 j = dt 28 j := fun j => (hF8 28 (by decide) j).trans ((fun _ => rfl) j)
    have C175 : ∀ j : Nat, dt6 36 j = dt 36 j := fun j => (hF8 36 (by decide) j).trans ((fun _ => rfl) j)
    have C176 : ∀ j : Nat, dt6 80 j = dt 80 j := fun j => (hF8 80 (by decide) j).trans ((fun _ => rfl) j)
    have C177 : ∀ j : Nat, dt6 81 j = dt 81 j := fun j => (hF8 81 (by decide) j).trans ((fun _ => rfl) j)
    have C178 : ∀ j : Nat, dt6 85 j = dt 85 j := fun j => (hF8 85 (by decide) j).trans ((fun _ => rfl) j)
    refine go_toq PM267 (k := 6) (pc' := 769) (L' := [some (.inr (.inr (some 3000))), some (.inr (.inr (some 0))), some (.inr (.inr (some 79))), some (.inl i)]) (st' := [.inl (i + 1), .inr (.inr (some 3000)), .inr (.inr (some 79))]) (w' := (SH, dt6)) rfl ?_
    have r179 := i32_R (xs ((i + 1).toNat))
    refine go_smpq PM267 (L' := [some (.inr (.inr (some 3000))), some (.inr (.inr (some 0))), some (.inr (.inr (some 79))), some (.inl i)]) (st' := [.inl ((xs ((i + 1).toNat)).toInt), .inr (.inr (some 79))]) (w' := (SH, dt6)) rfl rfl (s_iald (n := L) (f := fun j => (xs j).toInt) (am_scr hLL) ⟨by omega, by omega⟩) ?_
    refine go_toq PM267 (k := 4) (pc' := 774) (L' := [some (.inr (.inr (some 3000))), some (.inr (.inr (some 0))), some (.inr (.inr (some 79))), some (.inl i)]) (st' := [.inl (i + 2), .inr (.inr (some 3000)), .inl ((xs ((i + 1).toNat)).toInt), .inr (.inr (some 79))]) (w' := (SH, dt6)) rfl ?_
    have r180 := i32_R (xs ((i + 2).toNat))
    refine go_smpq PM267 (L' := [some (.inr (.inr (some 3000))), some (.inr (.inr (some 0))), some (.inr (.inr (some 79))), some (.inl i)]) (st' := [.inl ((xs ((i + 2).toNat)).toInt), .inl ((xs ((i + 1).toNat)).toInt), .inr (.inr (some 79))]) (w' := (SH, dt6)) rfl rfl (s_iald (n := L) (f := fun j => (xs j).toInt) (am_scr hLL) ⟨by omega, by omega⟩) ?_
    refine go_toq PM267 (k := 4) (pc' := 779) (L' := [some (.inr (.inr (some 3000))), some (.inr (.inr (some 0))), some (.inr (.inr (some 79))), some (.inl i)]) (st' := [.inl (i + 3), .inr (.inr (some 3000)), .inl ((xs ((i + 2).toNat)).toInt), .inl ((xs ((i + 1).toNat)).toInt), .inr (.inr (some 79))]) (w' := (SH, dt6)) rfl ?_
    have r181 := i32_R (xs ((i + 3).toNat))
    refine go_smpq PM267 (L' := [some (.inr (.inr (some 3000))), some (.inr (.inr (some 0))), some (.inr (.inr (some 79))), some (.inl i)]) (st' := [.inl ((xs ((i + 3).toNat)).toInt), .inl ((xs ((i + 2).toNat)).toInt), .inl ((xs ((i + 1).toNat)).toInt), .inr (.inr (some 79))]) (w' := (SH, dt6)) rfl rfl (s_iald (n := L) (f := fun j => (xs j).toInt) (am_scr hLL) ⟨by omega, by omega⟩) ?_
    refine go_toq PM267 (k := 4) (pc' := 784) (L' := [some (.inr (.inr (some 3000))), some (.inr (.inr (some 0))), some (.inr (.inr (some 79))), some (.inl i)]) (st' := [.inl (i + 4), .inr (.inr (some 3000)), .inl ((xs ((i + 3).toNat)).toInt), .inl ((xs ((i + 2).toNat)).toInt), .inl ((xs ((i + 1).toNat)).toInt), .inr (.inr (some 79))]) (w' := (SH, dt6)) rfl ?_
    have r182 := i32_R (xs ((i + 4).toNat))
    refine go_smpq PM267 (L' := [some (.inr (.inr (some 3000))), some (.inr (.inr (some 0))), some (.inr (.inr (some 79))), some (.inl i)]) (st' := [.inl ((xs ((i + 4).toNat)).toInt), .inl ((xs ((i + 3).toNat)).toInt), .inl ((xs ((i + 2).toNat)).toInt), .inl ((xs ((i + 1).toNat)).toInt), .inr (.inr (some 79))]) (w' := (SH, dt6)) rfl rfl (s_iald (n := L) (f := fun j => (xs j).toInt) (am_scr hLL) ⟨by omega, by omega⟩) ?_
    refine go_callq PM267 PM213 (Q' := _) rfl rfl rfl rfl (sp_X6_told_v L xs sio (d + 36) dt6 hI7 hM10  ((xs ((i + 1).toNat)).toInt) ⟨by omega, by omega⟩ ((xs ((i + 2).toNat)).toInt) ⟨by omega, by omega⟩ ((xs ((i + 3).toNat)).toInt) ⟨by omega, by omega⟩ ((xs ((i + 4).toNat)).toInt) ⟨by omega, by omega⟩ ) ?_
    rintro _ _ ⟨dt184, rfl, hI185, hF186, h183⟩
    refine ⟨rfl, ?_⟩
    have hF187 : Fr [0, 1, 2, 3, 4, 5, 6, 7, 8, 9, 10, 11, 12, 13, 14, 15, 16, 17, 18, 19, 20, 21, 22, 23, 24, 25, 26, 27, 28, 29, 30, 31, 32, 33, 34, 35, 36, 37, 38, 39, 40, 41, 42, 43, 44, 45, 46, 47, 48, 49, 50, 51, 52, 53, 54, 55, 56, 57, 58, 59, 60, 61, 62, 63, 64, 65, 66, 67, 68, 69, 70, 71, 72, 73, 74, 75, 76, 77, 78, 79, 80, 81, 82, 83, 84, 85, 86, 87, 88, 89, 90, 91, 92, 93, 94, 95, 96, 97, 98, 99, 100, 101, 102, 103, 104] dt dt184 := Fr_tr hF9 hF186 (by decide)
    have w188 : dt184 1 0 = dt 1 0 := (hF186 1 (by decide) 0).trans w11
    have w189 : dt184 7 3 = dt 7 3 := (hF186 7 (by decide) 3).trans w12
    have w190 : dt184 10 3 = dt 10 3 := (hF186 10 (by decide) 3).trans w13
    have w191 : dt184 12 3 = dt6 12 3 := hF186 12 (by decide) 3
    have w192 : dt184 14 3 = dt 14 3 := (hF186 14 (by decide) 3).trans w14
    have w193 : dt184 16 3 = dt 16 3 := (hF186 16 (by decide) 3).trans w15
    have w194 : dt184 18 0 = dt 18 0 := (hF186 18 (by decide) 0).trans w16
    have w195 : dt184 24 3 = dt 24 3 := (hF186 24 (by decide) 3).trans w17
    have w196 : dt184 27 3 = dt 27 3 := (hF186 27 (by decide) 3).trans w18
    have w197 : dt184 29 3 = dt 29 3 := (hF186 29 (by decide) 3).trans w19
    have w198 : dt184 31 3 = dt 31 3 := (hF186 31 (by decide) 3).trans w20
    have w199 : dt184 33 3 = dt 33 3 := (hF186 33 (by decide) 3).trans w21
    have w200 : dt184 0 2 = dt 0 2 := (hF186 0 (by decide) 2).trans w22
    have w201 : dt184 35 1 = dt 35 1 := (hF186 35 (by decide) 1).trans w23
    have w202 : dt184 35 2 = dt 35 2 := (hF186 35 (by decide) 2).trans w24
    have w203 : dt184 35 3 = dt 35 3 := (hF186 35 (by decide) 3).trans w25
    have w204 : dt184 81 0 = dt 81 0 := (hF186 81 (by decide) 0).trans w32
    have w205 : dt184 81 1 = dt 81 1 := (hF186 81 (by decide) 1).trans w33
    have w206 : dt184 81 2 = dt 81 2 := (hF186 81 (by decide) 2).trans w34
    have w207 : dt184 81 3 = dt 81 3 := (hF186 81 (by decide) 3).trans w35
    have w208 : dt184 81 4 = dt 81 4 := (hF186 81 (by decide) 4).trans w36
    have w209 : dt184 81 5 = dt 81 5 := (hF186 81 (by decide) 5).trans w37
    have w210 : dt184 79 2 = dt 79 2 := (hF186 79 (by decide) 2).trans w38
    have w211 : dt184 79 12 = dt 79 12 := (hF186 79 (by decide) 12).trans w39
    have w212 : dt184 79 19 = dt 79 19 := (hF186 79 (by decide) 19).trans w40
    have w213 : dt184 79 21 = dt 79 21 := (hF186 79 (by decide) 21).trans w41
    rcases h183 with ⟨rfl, h183⟩ | ⟨v_h183, rfl, h183r, h183⟩
    · skip
      have hM214 : MW (dt184 80) := h183.2.1
      obtain ⟨h183_0, h183_1, h183_2, h183_3, h183_4, h183_5, h183_6, h183_7, h183_8⟩ := h183
      replace h183_0 := hid h183_0
      have w215 : dt184 80 0 = dt 80 0 := h183_2.trans w26
      have w216 : dt184 80 1 = dt 80 1 := h183_3.trans w27
      have w217 : dt184 80 2 = dt 80 2 := h183_4.trans w28
      have w218 : dt184 80 3 = dt 80 3 := h183_5.trans w29
      have w219 : dt184 80 4 = dt 80 4 := h183_6.trans w30
      have w220 : dt184 80 5 = dt 80 5 := h183_7.trans w31
      have M2221 : MW (dt184 81) := MW_frk M2158 hF186 (by decide)
      have C222 : ∀ j : Nat, dt184 2 j = dt 2 j := fun j => (hF186 2 (by decide) j).trans (C159 j)
      have C223 : ∀ j : Nat, dt184 3 j = dt 3 j := fun j => (hF186 3 (by decide) j).trans (C160 j)
      have C224 : ∀ j : Nat, dt184 4 j = dt 4 j := fun j => (hF186 4 (by decide) j).trans (C161 j)
      have C225 : ∀ j : Nat, dt184 5 j = dt 5 j := fun j => (hF186 5 (by decide) j).trans (C162 j)
      have C226 : ∀ j : Nat, dt184 6 j = dt 6 j := fun j => (hF186 6 (by decide) j).trans (C163 j)
      have C227 : ∀ j : Nat, dt184 8 j = dt 8 j := fun j => (hF186 8 (by decide) j).trans (C164 j)
      have C228 : ∀ j : Nat, dt184 9 j = dt 9 j := fun j => (hF186 9 (by decide) j).trans (C165 j)
      have C229 : ∀ j : Nat, dt184 11 j = dt 11 j := fun j => (hF186 11 (by decide) j).trans (C166 j)
      have C230 : ∀ j : Nat, dt184 19 j = dt 19 j := fun j => (hF186 19 (by decide) j).trans (C167 j)
      have C231 : ∀ j : Nat, dt184 20 j = dt 20 j := fun j => (hF186 20 (by decide) j).trans (C168 j)
      have C232 : ∀ j : Nat, dt184 21 j = dt 21 j := fun j => (hF186 21 (by decide) j).trans (C169 j)
      have C233 : ∀ j : Nat, dt184 22 j = dt 22 j := fun j => (hF186 22 (by decide) j).trans (C170 j)
      have C234 : ∀ j : Nat, dt184 23 j = dt 23 j := fun j => (hF186 23 (by decide) j).trans (C171 j)
      have C235 : ∀ j : Nat, dt184 25 j = dt 25 j := fun j => (hF186 25 (by decide) j).trans (C172 j)
      have C236 : ∀ j : Nat, dt184 26 j = dt 26 j := fun j => (hF186 26 (by decide) j).trans (C173 j)
      have C237 : ∀ j : Nat, dt184 28 j = dt 28 j := fun j => (hF186 28 (by decide) j).trans (C174 j)
      have C238 : ∀ j : Nat, dt184 36 j = dt 36 j := fun j => (hF186 36 (by decide) j).trans (C175 j)
      have C239 : ∀ j : Nat, dt184 80 j = dt 80 j := fun j => (h183_8 j).trans (C176 j)
      have C240 : ∀ j : Nat, dt184 81 j = dt 81 j := fun j => (hF186 81 (by decide) j).trans (C177 j)
      have C241 : ∀ j : Nat, dt184 85 j = dt 85 j := fun j => (hF186 85 (by decide) j).trans (C178 j)
      refine go_toq PM267 (k := 2) (pc' := 1435) (L' := [some (.inr (.inr (some 3000))), some (.inr (.inr (some 0))), some (.inr (.inr (some 79))), some (.inl i)]) (st' := []) (w' := (SH, dt184)) rfl ?_
      exact K dt184 hI185 hM214 M2221 (w188.trans (hk0.trans w215.symm)) (w189.trans (hk1.trans w216.symm)) (w190.trans (hk2.trans w217.symm)) (by (first | omega | (have z0_ := unhid h183_0; omega))) (w192.trans (hk4.trans w219.symm)) (w193.trans (hk5.trans w220.symm)) (w194.trans (hk6.trans w204.symm)) (w195.trans (hk7.trans w205.symm)) (w196.trans (hk8.trans w206.symm)) (w197.trans (hk9.trans w207.symm)) (w198.trans (hk10.trans w208.symm)) (w199.trans (hk11.trans w209.symm)) (w200.trans (hk12.trans w210.symm)) (w201.trans (hk13.trans w211.symm)) (w202.trans (hk14.trans w212.symm)) (w203.trans (hk15.trans w213.symm)) (by first | exact hI | exact TPL_k hd0 C238 C241 (by (first | omega | (have z0_ := unhid h183_0; omega))) | (exfalso; (first | omega | (have z0_ := unhid h183_0; omega)))) (by first | exact hI | exact SCL_k hd1 hM (fun j _ => C222 j) (fun j _ => C223 j) (fun j _ _ => C239 j) | (exfalso; (first | omega | (have z0_ := unhid h183_0; omega)))) (by first | exact hI | exact SCL_k hd2 hM2 (fun j _ => C230 j) (fun j _ => C231 j) (fun j _ _ => C240 j) | (exfalso; (first | omega | (have z0_ := unhid h183_0; omega)))) (by first | exact hI | exact QRL_k hd3 hM (fun j _ => C227 j) (C239 1) (fun j _ _ => C239 j) | (exfalso; (first | omega | (have z0_ := unhid h183_0; omega)))) (by first | exact hI | exact QRL_k hd4 hM2 (fun j _ => C235 j) (C240 1) (fun j _ _ => C240 j) | (exfalso; (first | omega | (have z0_ := unhid h183_0; omega)))) (by first | exact hI | exact SDL_k hd5 hM (fun j _ => C228 j) (C239 1) (fun j _ _ => C239 j) (fun j _ _ => C239 j) | (exfalso; (first | omega | (have z0_ := unhid h183_0; omega)))) (by first | exact hI | exact SDL_k hd6 hM2 (fun j _ => C236 j) (C240 1) (fun j _ _ => C240 j) (fun j _ _ => C240 j) | (exfalso; (first | omega | (have z0_ := unhid h183_0; omega)))) (by first | exact hI | exact LWL_k hd7 hM (fun j _ => C224 j) (fun j _ => C225 j) (fun j _ => C226 j) (fun j _ _ => C239 j) | (exfalso; (first | omega | (have z0_ := unhid h183_0; omega)))) (by first | exact hI | exact LWL_k hd8 hM2 (fun j _ => C232 j) (fun j _ => C233 j) (fun j _ => C234 j) (fun j _ _ => C240 j) | (exfalso; (first | omega | (have z0_ := unhid h183_0; omega)))) (by first | exact hI | exact CHL_k hd9 hM (fun j _ => C229 j) (by (first | omega | (have z0_ := unhid h183_0; omega))) (fun j _ _ => C239 j) | (exfalso; (first | omega | (have z0_ := unhid h183_0; omega)))) (by first | exact hI | exact CHL_k hd10 hM2 (fun j _ => C237 j) (by (first | omega | (have z0_ := unhid h183_0; omega))) (fun j _ _ => C240 j) | (exfalso; (first | omega | (have z0_ := unhid h183_0; omega))))
    · skip
      have hM242 : MW (dt184 80) := h183.2.2.1
      obtain ⟨h183_0, h183_1, h183_2, h183_3, h183_4, h183_5, h183_6, h183_7, h183_8, h183_9, h183_10, h183_11, h183_12, h183_13, h183_14, h183_15⟩ := h183
      have w243 : dt184 80 0 = dt 80 0 := h183_4.trans w26
      have w244 : dt184 80 1 = dt 80 1 := h183_5.trans w27
      have w245 : dt184 80 2 = dt 80 2 := h183_6.trans w28
      have w246 : dt184 80 4 = dt 80 4 := h183_7.trans w30
      have w247 : dt184 80 5 = dt 80 5 := h183_8.trans w31
      have M2248 : MW (dt184 81) := MW_frk M2158 hF186 (by decide)
      have C249 : ∀ j : Nat, dt184 2 j = dt 2 j := fun j => (hF186 2 (by decide) j).trans (C159 j)
      have C250 : ∀ j : Nat, dt184 3 j = dt 3 j := fun j => (hF186 3 (by decide) j).trans (C160 j)
      have C251 : ∀ j : Nat, dt184 4 j = dt 4 j := fun j => (hF186 4 (by decide) j).trans (C161 j)
      have C252 : ∀ j : Nat, dt184 5 j = dt 5 j := fun j => (hF186 5 (by decide) j).trans (C162 j)
      have C253 : ∀ j : Nat, dt184 6 j = dt 6 j := fun j => (hF186 6 (by decide) j).trans (C163 j)
      have C254 : ∀ j : Nat, dt184 8 j = dt 8 j := fun j => (hF186 8 (by decide) j).trans (C164 j)
      have C255 : ∀ j : Nat, dt184 9 j = dt 9 j := fun j => (hF186 9 (by decide) j).trans (C165 j)
      have C256 : ∀ j : Nat, dt184 11 j = dt 11 j := fun j => (hF186 11 (by decide) j).trans (C166 j)
      have C257 : ∀ j : Nat, dt184 19 j = dt 19 j := fun j => (hF186 19 (by decide) j).trans (C167 j)
      have C258 : ∀ j : Nat, dt184 20 j = dt 20 j := fun j => (hF186 20 (by decide) j).trans (C168 j)
      have C259 : ∀ j : Nat, dt184 21 j = dt 21 j := fun j => (hF186 21 (by decide) j).trans (C169 j)
      have C260 : ∀ j : Nat, dt184 22 j = dt 22 j := fun j => (hF186 22 (by decide) j).trans (C170 j)
      have C261 : ∀ j : Nat, dt184 23 j = dt 23 j := fun j => (hF186 23 (by decide) j).trans (C171 j)
      have C262 : ∀ j : Nat, dt184 25 j = dt 25 j := fun j => (hF186 25 (by decide) j).trans (C172 j)
      have C263 : ∀ j : Nat, dt184 26 j = dt 26 j := fun j => (hF186 26 (by decide) j).trans (C173 j)
      have C264 : ∀ j : Nat, dt184 28 j = dt 28 j := fun j => (hF186 28 (by decide) j).trans (C174 j)
      have C265 : ∀ j : Nat, dt184 36 j = dt 36 j := fun j => (hF186 36 (by decide) j).trans (C175 j)
      have C266 : ∀ j : Nat, dt184 81 j = dt 81 j := fun j => (hF186 81 (by decide) j).trans (C177 j)
      have C267 : ∀ j : Nat, dt184 85 j = dt 85 j := fun j => (hF186 85 (by decide) j).trans (C178 j)
      have F268 : ∀ j : Nat, 6 ≤ j → j < 974 → dt184 80 j = dt 80 j := fun j h1_ h2_ => (h183_9 j (by omega) (by omega)).trans (C176 j)
      have F269 : ∀ j : Nat, 974 ≤ j → j < 5320 → dt184 80 j = dt 80 j := fun j h1_ h2_ => (h183_9 j (by omega) (by omega)).trans (C176 j)
      have F270 : ∀ j : Nat, 5320 ≤ j → j < 5380 → dt184 80 j = dt 80 j := fun j h1_ h2_ => (h183_9 j (by omega) (by omega)).trans (C176 j)
      have F271 : dt184 80 1 = dt 80 1 := (h183_9 1 (by omega) (by omega)).trans (C176 1)
      have F272 : ∀ j : Nat, 5380 ≤ j → j < 5540 → dt184 80 j = dt 80 j := fun j h1_ h2_ => (h183_9 j (by omega) (by omega)).trans (C176 j)
      refine go_toq PM267 (k := 2) (pc' := 1435) (L' := [some (.inr (.inr (some 3000))), some (.inr (.inr (some 0))), some (.inr (.inr (some 79))), some (.inl i)]) (st' := []) (w' := (SH, dt184)) rfl ?_
      exact K dt184 hI185 hM242 M2248 (w188.trans (hk0.trans w243.symm)) (w189.trans (hk1.trans w244.symm)) (w190.trans (hk2.trans w245.symm)) (by omega) (w192.trans (hk4.trans w246.symm)) (w193.trans (hk5.trans w247.symm)) (w194.trans (hk6.trans w204.symm)) (w195.trans (hk7.trans w205.symm)) (w196.trans (hk8.trans w206.symm)) (w197.trans (hk9.trans w207.symm)) (w198.trans (hk10.trans w208.symm)) (w199.trans (hk11.trans w209.symm)) (w200.trans (hk12.trans w210.symm)) (w201.trans (hk13.trans w211.symm)) (w202.trans (hk14.trans w212.symm)) (w203.trans (hk15.trans w213.symm)) (by first | exact hI | exact TPL_k hd0 C265 C267 (by omega) | (exfalso; omega)) (by first | exact hI | exact SCL_k hd1 hM (fun j _ => C249 j) (fun j _ => C250 j) F268 | (exfalso; omega)) (by first | exact hI | exact SCL_k hd2 hM2 (fun j _ => C257 j) (fun j _ => C258 j) (fun j _ _ => C266 j) | (exfalso; omega)) (by first | exact hI | exact QRL_k hd3 hM (fun j _ => C254 j) F271 F270 | (exfalso; omega)) (by first | exact hI | exact QRL_k hd4 hM2 (fun j _ => C262 j) (C266 1) (fun j _ _ => C266 j) | (exfalso; omega)) (by first | exact hI | exact SDL_k hd5 hM (fun j _ => C255 j) F271 F268 F270 | (exfalso; omega)) (by first | exact hI | exact SDL_k hd6 hM2 (fun j _ => C263 j) (C266 1) (fun j _ _ => C266 j) (fun j _ _ => C266 j) | (exfalso; omega)) (by first | exact hI | exact LWL_k hd7 hM (fun j _ => C251 j) (fun j _ => C252 j) (fun j _ => C253 j) F269 | (exfalso; omega)) (by first | exact hI | exact LWL_k hd8 hM2 (fun j _ => C259 j) (fun j _ => C260 j) (fun j _ => C261 j) (fun j _ _ => C266 j) | (exfalso; omega)) (by first | exact hI | exact CHL_k hd9 hM (fun j _ => C256 j) (by omega) F272 | (exfalso; omega)) (by first | exact hI | exact CHL_k hd10 hM2 (fun j _ => C264 j) (by omega) (fun j _ _ => C266 j) | (exfalso; omega))
set_option maxRecDepth 20000 in
set_option maxHeartbeats 8000000 in
theorem sp_case14 (L : Nat) (xs : Nat → Int32) (sio : Option Nat) (d : Nat) (Q : Option AV → am_W → Prop) (hLL : L ≤ 3072) (i : Int) (hi : 0 ≤ i ∧ i ≤ 3066) (hil : i ≤ (L : Int) - 6) (dt : Nat → Nat → Int) (hI : InvC dt) (hM : MW (dt 80)) (hM2 : MW (dt 81)) (hk0 : dt 1 0 = dt 80 0) (hk1 : dt 7 3 = dt 80 1) (hk2 : dt 10 3 = dt 80 2) (hk3 : dt 12 3 = dt 80 3) (hk4 : dt 14 3 = dt 80 4) (hk5 : dt 16 3 = dt 80 5) (hk6 : dt 18 0 = dt 81 0) (hk7 : dt 24 3 = dt 81 1) (hk8 : dt 27 3 = dt 81 2) (hk9 : dt 29 3 = dt 81 3) (hk10 : dt 31 3 = dt 81 4) (hk11 : dt 33 3 = dt 81 5) (hk12 : dt 0 2 = dt 79 2) (hk13 : dt 35 1 = dt 79 12) (hk14 : dt 35 2 = dt 79 19) (hk15 : dt 35 3 = dt 79 21) (hd0 : TPL (dt 36) (dt 85) (dt 35 1)) (hd1 : SCL (dt 2) (dt 3) (dt 80)) (hd2 : SCL (dt 19) (dt 20) (dt 81)) (hd3 : QRL (dt 8) (dt 80)) (hd4 : QRL (dt 25) (dt 81)) (hd5 : SDL (dt 9) (dt 80)) (hd6 : SDL (dt 26) (dt 81)) (hd7 : LWL (dt 4) (dt 5) (dt 6) (dt 80)) (hd8 : LWL (dt 21) (dt 22) (dt 23) (dt 81)) (hd9 : CHL (dt 11) (dt 80)) (hd10 : CHL (dt 28) (dt 81)) (K : ∀ (dt : Nat → Nat → Int) (hI : InvC dt) (hM : MW (dt 80)) (hM2 : MW (dt 81)) (hk0 : dt 1 0 = dt 80 0) (hk1 : dt 7 3 = dt 80 1) (hk2 : dt 10 3 = dt 80 2) (hk3 : dt 12 3 = dt 80 3) (hk4 : dt 14 3 = dt 80 4) (hk5 : dt 16 3 = dt 80 5) (hk6 : dt 18 0 = dt 81 0) (hk7 : dt 24 3 = dt 81 1) (hk8 : dt 27 3 = dt 81 2) (hk9 : dt 29 3 = dt 81 3) (hk10 : dt 31 3 = dt 81 4) (hk11 : dt 33 3 = dt 81 5) (hk12 : dt 0 2 = dt 79 2) (hk13 : dt 35 1 = dt 79 12) (hk14 : dt 35 2 = dt 79 19) (hk15 : dt 35 3 = dt 79 21) (hd0 : TPL (dt 36) (dt 85) (dt 35 1)) (hd1 : SCL (dt 2) (dt 3) (dt 80)) (hd2 : SCL (dt 19) (dt 20) (dt 81)) (hd3 : QRL (dt 8) (dt 80)) (hd4 : QRL (dt 25) (dt 81)) (hd5 : SDL (dt 9) (dt 80)) (hd6 : SDL (dt 26) (dt 81)) (hd7 : LWL (dt 4) (dt 5) (dt 6) (dt 80)) (hd8 : LWL (dt 21) (dt 22) (dt 23) (dt 81)) (hd9 : CHL (dt 11) (dt 80)) (hd10 : CHL (dt 28) (dt 81)), GO (am_XX L xs sio) (d + 39) 267 1435 [some (.inr (.inr (some 3000))), some (.inr (.inr (some 0))), some (.inr (.inr (some 79))), some (.inl i)] [] (SH, dt) Q) : GO (am_XX L xs sio) (d + 39) 267 792 [some (.inr (.inr (some 3000))), some (.inr (.inr (some 0))), some (.inr (.inr (some 79))), some (.inl i)] [] (SH, dt) Q := by
  have hF : Fr [0, 1, 2, 3, 4, 5, 6, 7, 8, 9, 10, 11, 12, 13, 14, 15, 16, 17, 18, 19, 20, 21, 22, 23, 24, 25, 26, 27, 28, 29, 30, 31, 32, 33, 34, 35, 36, 37, 38, 39, 40, 41, 42, 43, 44, 45, 46, 47, 48, 49, 50, 51, 52, 53, 54, 55, 56, 57, 58, 59, 60, 61, 62, 63, 64, 65, 66, 67, 68, 69, 70, 71, 72, 73, 74, 75, 76, 77, 78, 79, 80, 81, 82, 83, 84, 85, 86, 87, 88, 89, 90, 91, 92, 93, 94, 95, 96, 97, 98, 99, 100, 101, 102, 103, 104] dt dt := Fr_refl
  have hqo := QOC_R hd3 hM hk1
  have hb1_ := hM.1.1
  have hb2_ := hM.1.2.1
  have hb3_ := hM.1.2.2.1
  have halk : ALK dt (dt 80) := ⟨hd7, hd3, hd5, hd9, hk1, hk2⟩
  refine go_toq PM267 (k := 5) (pc' := 797) (L' := [some (.inr (.inr (some 3000))), some (.inr (.inr (some 0))), some (.inr (.inr (some 79))), some (.inl i)]) (st' := [.inl (i + 1), .inr (.inr (some 3000)), .inr (.inr (some 0))]) (w' := (SH, dt)) rfl ?_
  have r1 := i32_R (xs ((i + 1).toNat))
  refine go_smpq PM267 (L' := [some (.inr (.inr (some 3000))), some (.inr (.inr (some 0))), some (.inr (.inr (some 79))), some (.inl i)]) (st' := [.inl ((xs ((i + 1).toNat)).toInt), .inr (.inr (some 0))]) (w' := (SH, dt)) rfl rfl (s_iald (n := L) (f := fun j => (xs j).toInt) (am_scr hLL) ⟨by omega, by omega⟩) ?_
  refine go_toq PM267 (k := 4) (pc' := 802) (L' := [some (.inr (.inr (some 3000))), some (.inr (.inr (some 0))), some (.inr (.inr (some 79))), some (.inl i)]) (st' := [.inl (i + 2), .inr (.inr (some 3000)), .inl ((xs ((i + 1).toNat)).toInt), .inr (.inr (some 0))]) (w' := (SH, dt)) rfl ?_
  have r2 := i32_R (xs ((i + 2).toNat))
  refine go_smpq PM267 (L' := [some (.inr (.inr (some 3000))), some (.inr (.inr (some 0))), some (.inr (.inr (some 79))), some (.inl i)]) (st' := [.inl ((xs ((i + 2).toNat)).toInt), .inl ((xs ((i + 1).toNat)).toInt), .inr (.inr (some 0))]) (w' := (SH, dt)) rfl rfl (s_iald (n := L) (f := fun j => (xs j).toInt) (am_scr hLL) ⟨by omega, by omega⟩) ?_
  refine go_callq PM267 PM81 (Q' := _) rfl rfl rfl rfl (sp_X5_answer L xs sio (d + 36) dt hI  ((xs ((i + 1).toNat)).toInt) ⟨by omega, by omega⟩ ((xs ((i + 2).toNat)).toInt) ⟨by omega, by omega⟩ ) ?_
  rintro _ _ ⟨rfl, h3⟩
  refine ⟨rfl, ?_⟩
  rcases h3 with ⟨v_h3, rfl, h3r, h3⟩
  refine go_toq PM267 (k := 6) (pc' := 812) (L' := [some (.inr (.inr (some 3000))), some (.inr (.inr (some 0))), some (.inr (.inr (some 79))), some (.inl i)]) (st' := [.inl (i + 1), .inr (.inr (some 3000)), .inr (.inr (some 79))]) (w' := (SH, dt)) rfl ?_
  refine go_smpq PM267 (L' := [some (.inr (.inr (some 3000))), some (.inr (.inr (some 0))), some (.inr (.inr (some 79))), some (.inl i)]) (st' := [.inl ((xs ((i + 1).toNat)).toInt), .inr (.inr (some 79))]) (w' := (SH, dt)) rfl rfl (s_iald (n := L) (f := fun j => (xs j).toInt) (am_scr hLL) ⟨by omega, by omega⟩) ?_
  refine go_toq PM267 (k := 4) (pc' := 817) (L' := [some (.inr (.inr (some 3000))), some (.inr (.inr (some 0))), some (.inr (.inr (some 79))), some (.inl i)]) (st' := [.inl (i + 2), .inr (.inr (some 3000)), .inl ((xs ((i + 1).toNat)).toInt), .inr (.inr (some 79))]) (w' := (SH, dt)) rfl ?_
  refine go_smpq PM267 (L' := [some (.inr (.inr (some 3000))), some (.inr (.inr (some 0))), some (.inr (.inr (some 79))), some (.inl i)]) (st' := [.inl ((xs ((i + 2).toNat)).toInt), .inl ((xs ((i + 1).toNat)).toInt), .inr (.inr (some 79))]) (w' := (SH, dt)) rfl rfl (s_iald (n := L) (f := fun j => (xs j).toInt) (am_scr hLL) ⟨by omega, by omega⟩) ?_
  refine go_callq PM267 PM214 (Q' := _) rfl rfl rfl rfl (sp_X6_answer L xs sio (d + 37) dt hI hM  ((xs ((i + 1).toNat)).toInt) ⟨by omega, by omega⟩ ((xs ((i + 2).toNat)).toInt) ⟨by omega, by omega⟩ ) ?_
  rintro _ _ ⟨rfl, h4⟩
  refine ⟨rfl, ?_⟩
  rcases h4 with ⟨v_h4, rfl, h4r, h4⟩
  refine go_toq PM267 (k := 2) (pc' := 1435) (L' := [some (.inr (.inr (some 3000))), some (.inr (.inr (some 0))), some (.inr (.inr (some 79))), some (.inl i)]) (st' := []) (w' := (SH, dt)) rfl ?_
  exact K dt hI hM hM2 hk0 hk1 hk2 hk3 hk4 hk5 hk6 hk7 hk8 hk9 hk10 hk11 hk12 hk13 hk14 hk15 (by first | exact hI | exact TPL_k hd0 (fun _ => rfl) (fun _ => rfl) (by omega) | (exfalso; omega)) (by first | exact hI | exact SCL_k hd1 hM (fun j _ => (fun _ => rfl) j) (fun j _ => (fun _ => rfl) j) (fun j _ _ => (fun _ => rfl) j) | (exfalso; omega)) (by first | exact hI | exact SCL_k hd2 hM2 (fun j _ => (fun _ => rfl) j) (fun j _ => (fun _ => rfl) j) (fun j _ _ => (fun _ => rfl) j) | (exfalso; omega)) (by first | exact hI | exact QRL_k hd3 hM (fun j _ => (fun _ => rfl) j) ((fun _ => rfl) 1) (fun j _ _ => (fun _ => rfl) j) | (exfalso; omega)) (by first | exact hI | exact QRL_k hd4 hM2 (fun j _ => (fun _ => rfl) j) ((fun _ => rfl) 1) (fun j _ _ => (fun _ => rfl) j) | (exfalso; omega)) (by first | exact hI | exact SDL_k hd5 hM (fun j _ => (fun _ => rfl) j) ((fun _ => rfl) 1) (fun j _ _ => (fun _ => rfl) j) (fun j _ _ => (fun _ => rfl) j) | (exfalso; omega)) (by first | exact hI | exact SDL_k hd6 hM2 (fun j _ => (fun _ => rfl) j) ((fun _ => rfl) 1) (fun j _ _ => (fun _ => rfl) j) (fun j _ _ => (fun _ => rfl) j) | (exfalso; omega)) (by first | exact hI | exact LWL_k hd7 hM (fun j _ => (fun _ => rfl) j) (fun j _ => (fun _ => rfl) j) (fun j _ => (fun _ => rfl) j) (fun j _ _ => (fun _ => rfl) j) | (exfalso; omega)) (by first | exact hI | exact LWL_k hd8 hM2 (fun j _ => (fun _ => rfl) j) (fun j _ => (fun _ => rfl) j) (fun j _ => (fun _ => rfl) j) (fun j _ _ => (fun _ => rfl) j) | (exfalso; omega)) (by first | exact hI | exact CHL_k hd9 hM (fun j _ => (fun _ => rfl) j) (by omega) (fun j _ _ => (fun _ => rfl) j) | (exfalso; omega)) (by first | exact hI | exact CHL_k hd10 hM2 (fun j _ => (fun _ => rfl) j) (by omega) (fun j _ _ => (fun _ => rfl) j) | (exfalso; omega))
set_option maxRecDepth 20000 in
set_option maxHeartbeats 8000000 in
theorem sp_case15 (L : Nat) (xs : Nat → Int32) (sio : Option Nat) (d : Nat) (Q : Option AV → am_W → Prop) (hLL : L ≤ 3072) (i : Int) (hi : 0 ≤ i ∧ i ≤ 3066) (hil : i ≤ (L : Int) - 6) (dt : Nat → Nat → Int) (hI : InvC dt) (hM : MW (dt 80)) (hM2 : MW (dt 81)) (hk0 : dt 1 0 = dt 80 0) (hk1 : dt 7 3 = dt 80 1) (hk2 : dt 10 3 = dt 80 2) (hk3 : dt 12 3 = dt 80 3) (hk4 : dt 14 3 = dt 80 4) (hk5 : dt 16 3 = dt 80 5) (hk6 : dt 18 0 = dt 81 0) (hk7 : dt 24 3 = dt 81 1) (hk8 : dt 27 3 = dt 81 2) (hk9 : dt 29 3 = dt 81 3) (hk10 : dt 31 3 = dt 81 4) (hk11 : dt 33 3 = dt 81 5) (hk12 : dt 0 2 = dt 79 2) (hk13 : dt 35 1 = dt 79 12) (hk14 : dt 35 2 = dt 79 19) (hk15 : dt 35 3 = dt 79 21) (hd0 : TPL (dt 36) (dt 85) (dt 35 1)) (hd1 : SCL (dt 2) (dt 3) (dt 80)) (hd2 : SCL (dt 19) (dt 20) (dt 81)) (hd3 : QRL (dt 8) (dt 80)) (hd4 : QRL (dt 25) (dt 81)) (hd5 : SDL (dt 9) (dt 80)) (hd6 : SDL (dt 26) (dt 81)) (hd7 : LWL (dt 4) (dt 5) (dt 6) (dt 80)) (hd8 : LWL (dt 21) (dt 22) (dt 23) (dt 81)) (hd9 : CHL (dt 11) (dt 80)) (hd10 : CHL (dt 28) (dt 81)) (K : ∀ (dt : Nat → Nat → Int) (hI : InvC dt) (hM : MW (dt 80)) (hM2 : MW (dt 81)) (hk0 : dt 1 0 = dt 80 0) (hk1 : dt 7 3 = dt 80 1) (hk2 : dt 10 3 = dt 80 2) (hk3 : dt 12 3 = dt 80 3) (hk4 : dt 14 3 = dt 80 4) (hk5 : dt 16 3 = dt 80 5) (hk6 : dt 18 0 = dt 81 0) (hk7 : dt 24 3 = dt 81 1) (hk8 : dt 27 3 = dt 81 2) (hk9 : dt 29 3 = dt 81 3) (hk10 : dt 31 3 = dt 81 4) (hk11 : dt 33 3 = dt 81 5) (hk12 : dt 0 2 = dt 79 2) (hk13 : dt 35 1 = dt 79 12) (hk14 : dt 35 2 = dt 79 19) (hk15 : dt 35 3 = dt 79 21) (hd0 : TPL (dt 36) (dt 85) (dt 35 1)) (hd1 : SCL (dt 2) (dt 3) (dt 80)) (hd2 : SCL (dt 19) (dt 20) (dt 81)) (hd3 : QRL (dt 8) (dt 80)) (hd4 : QRL (dt 25) (dt 81)) (hd5 : SDL (dt 9) (dt 80)) (hd6 : SDL (dt 26) (dt 81)) (hd7 : LWL (dt 4) (dt 5) (dt 6) (dt 80)) (hd8 : LWL (dt 21) (dt 22) (dt 23) (dt 81)) (hd9 : CHL (dt 11) (dt 80)) (hd10 : CHL (dt 28) (dt 81)), GO (am_XX L xs sio) (d + 39) 267 1435 [some (.inr (.inr (some 3000))), some (.inr (.inr (some 0))), some (.inr (.inr (some 79))), some (.inl i)] [] (SH, dt) Q) : GO (am_XX L xs sio) (d + 39) 267 825 [some (.inr (.inr (some 3000))), some (.inr (.inr (some 0))), some (.inr (.inr (some 79))), some (.inl i)] [] (SH, dt) Q := by
  have hF : Fr [0, 1, 2, 3, 4, 5, 6, 7, 8, 9, 10, 11, 12, 13, 14, 15, 16, 17, 18, 19, 20, 21, 22, 23, 24, 25, 26, 27, 28, 29, 30, 31, 32, 33, 34, 35, 36, 37, 38, 39, 40, 41, 42, 43, 44, 45, 46, 47, 48, 49, 50, 51, 52, 53, 54, 55, 56, 57, 58, 59, 60, 61, 62, 63, 64, 65, 66, 67, 68, 69, 70, 71, 72, 73, 74, 75, 76, 77, 78, 79, 80, 81, 82, 83, 84, 85, 86, 87, 88, 89, 90, 91, 92, 93, 94, 95, 96, 97, 98, 99, 100, 101, 102, 103, 104] dt dt := Fr_refl
  have hqo := QOC_R hd3 hM hk1
  have hb1_ := hM.1.1
  have hb2_ := hM.1.2.1
  have hb3_ := hM.1.2.2.1
  have halk : ALK dt (dt 80) := ⟨hd7, hd3, hd5, hd9, hk1, hk2⟩
  refine go_toq PM267 (k := 5) (pc' := 830) (L' := [some (.inr (.inr (some 3000))), some (.inr (.inr (some 0))), some (.inr (.inr (some 79))), some (.inl i)]) (st' := [.inl (i + 1), .inr (.inr (some 3000)), .inr (.inr (some 0))]) (w' := (SH, dt)) rfl ?_
  have r1 := i32_R (xs ((i + 1).toNat))
  refine go_smpq PM267 (L' := [some (.inr (.inr (some 3000))), some (.inr (.inr (some 0))), some (.inr (.inr (some 79))), some (.inl i)]) (st' := [.inl ((xs ((i + 1).toNat)).toInt), .inr (.inr (some 0))]) (w' := (SH, dt)) rfl rfl (s_iald (n := L) (f := fun j => (xs j).toInt) (am_scr hLL) ⟨by omega, by omega⟩) ?_
  refine go_toq PM267 (k := 4) (pc' := 835) (L' := [some (.inr (.inr (some 3000))), some (.inr (.inr (some 0))), some (.inr (.inr (some 79))), some (.inl i)]) (st' := [.inl (i + 2), .inr (.inr (some 3000)), .inl ((xs ((i + 1).toNat)).toInt), .inr (.inr (some 0))]) (w' := (SH, dt)) rfl ?_
  have r2 := i32_R (xs ((i + 2).toNat))
  refine go_smpq PM267 (L' := [some (.inr (.inr (some 3000))), some (.inr (.inr (some 0))), some (.inr (.inr (some 79))), some (.inl i)]) (st' := [.inl ((xs ((i + 2).toNat)).toInt), .inl ((xs ((i + 1).toNat)).toInt), .inr (.inr (some 0))]) (w' := (SH, dt)) rfl rfl (s_iald (n := L) (f := fun j => (xs j).toInt) (am_scr hLL) ⟨by omega, by omega⟩) ?_
  refine go_toq PM267 (k := 4) (pc' := 840) (L' := [some (.inr (.inr (some 3000))), some (.inr (.inr (some 0))), some (.inr (.inr (some 79))), some (.inl i)]) (st' := [.inl (i + 3), .inr (.inr (some 3000)), .inl ((xs ((i + 2).toNat)).toInt), .inl ((xs ((i + 1).toNat)).toInt), .inr (.inr (some 0))]) (w' := (SH, dt)) rfl ?_
  have r3 := i32_R (xs ((i + 3).toNat))
  refine go_smpq PM267 (L' := [some (.inr (.inr (some 3000))), some (.inr (.inr (some 0))), some (.inr (.inr (some 79))), some (.inl i)]) (st' := [.inl ((xs ((i + 3).toNat)).toInt), .inl ((xs ((i + 2).toNat)).toInt), .inl ((xs ((i + 1).toNat)).toInt), .inr (.inr (some 0))]) (w' := (SH, dt)) rfl rfl (s_iald (n := L) (f := fun j => (xs j).toInt) (am_scr hLL) ⟨by omega, by omega⟩) ?_
  refine go_toq PM267 (k := 4) (pc' := 845) (L' := [some (.inr (.inr (some 3000))), some (.inr (.inr (some 0))), some (.inr (.inr (some 79))), some (.inl i)]) (st' := [.inl (i + 4), .inr (.inr (some 3000)), .inl ((xs ((i + 3).toNat)).toInt), .inl ((xs ((i + 2).toNat)).toInt), .inl ((xs ((i + 1).toNat)).toInt), .inr (.inr (some 0))]) (w' := (SH, dt)) rfl ?_
  have r4 := i32_R (xs ((i + 4).toNat))
  refine go_smpq PM267 (L' := [some (.inr (.inr (some 3000))), some (.inr (.inr (some 0))), some (.inr (.inr (some 79))), some (.inl i)]) (st' := [.inl ((xs ((i + 4).toNat)).toInt), .inl ((xs ((i + 3).toNat)).toInt), .inl ((xs ((i + 2).toNat)).toInt), .inl ((xs ((i + 1).toNat)).toInt), .inr (.inr (some 0))]) (w' := (SH, dt)) rfl rfl (s_iald (n := L) (f := fun j => (xs j).toInt) (am_scr hLL) ⟨by omega, by omega⟩) ?_
  refine go_toq PM267 (k := 4) (pc' := 850) (L' := [some (.inr (.inr (some 3000))), some (.inr (.inr (some 0))), some (.inr (.inr (some 79))), some (.inl i)]) (st' := [.inl (i + 5), .inr (.inr (some 3000)), .inl ((xs ((i + 4).toNat)).toInt), .inl ((xs ((i + 3).toNat)).toInt), .inl ((xs ((i + 2).toNat)).toInt), .inl ((xs ((i + 1).toNat)).toInt), .inr (.inr (some 0))]) (w' := (SH, dt)) rfl ?_
  have r5 := i32_R (xs ((i + 5).toNat))
  refine go_smpq PM267 (L' := [some (.inr (.inr (some 3000))), some (.inr (.inr (some 0))), some (.inr (.inr (some 79))), some (.inl i)]) (st' := [.inl ((xs ((i + 5).toNat)).toInt), .inl ((xs ((i + 4).toNat)).toInt), .inl ((xs ((i + 3).toNat)).toInt), .inl ((xs ((i + 2).toNat)).toInt), .inl ((xs ((i + 1).toNat)).toInt), .inr (.inr (some 0))]) (w' := (SH, dt)) rfl rfl (s_iald (n := L) (f := fun j => (xs j).toInt) (am_scr hLL) ⟨by omega, by omega⟩) ?_
  refine go_callq PM267 PM82 (Q' := _) rfl rfl rfl rfl (sp_X5_chance_f L xs sio (d + 33) dt hI (dt 80) hM ((xs ((i + 1).toNat)).toInt) ⟨by omega, by omega⟩ ((xs ((i + 2).toNat)).toInt) ⟨by omega, by omega⟩ ((xs ((i + 3).toNat)).toInt) ⟨by omega, by omega⟩ ((xs ((i + 4).toNat)).toInt) ⟨by omega, by omega⟩ ((xs ((i + 5).toNat)).toInt) ⟨by omega, by omega⟩ (by first | exact True.intro | with_reducible assumption | rfl | omega | trivial | exact hM2 | exact hd1 | exact hqo | exact halk)) ?_
  rintro _ _ ⟨dt7, rfl, hI8, hF9, h6⟩
  refine ⟨rfl, ?_⟩
  have hF10 : Fr [0, 1, 2, 3, 4, 5, 6, 7, 8, 9, 10, 11, 12, 13, 14, 15, 16, 17, 18, 19, 20, 21, 22, 23, 24, 25, 26, 27, 28, 29, 30, 31, 32, 33, 34, 35, 36, 37, 38, 39, 40, 41, 42, 43, 44, 45, 46, 47, 48, 49, 50, 51, 52, 53, 54, 55, 56, 57, 58, 59, 60, 61, 62, 63, 64, 65, 66, 67, 68, 69, 70, 71, 72, 73, 74, 75, 76, 77, 78, 79, 80, 81, 82, 83, 84, 85, 86, 87, 88, 89, 90, 91, 92, 93, 94, 95, 96, 97, 98, 99, 100, 101, 102, 103, 104] dt dt7 := Fr_tr hF hF9 (by decide)
  have hM11 : MW (dt7 80) := MW_fr hM hF9 (by decide)
  have w12 : dt7 1 0 = dt 1 0 := hF9 1 (by decide) 0
  have w13 : dt7 7 3 = dt 7 3 := hF9 7 (by decide) 3
  have w14 : dt7 10 3 = dt 10 3 := hF9 10 (by decide) 3
  have w15 : dt7 12 3 = dt 12 3 := hF9 12 (by decide) 3
  have w16 : dt7 14 3 = dt 14 3 := hF9 14 (by decide) 3
  have w17 : dt7 16 3 = dt 16 3 := hF9 16 (by decide) 3
  have w18 : dt7 18 0 = dt 18 0 := hF9 18 (by decide) 0
  have w19 : dt7 24 3 = dt 24 3 := hF9 24 (by decide) 3
  have w20 : dt7 27 3 = dt 27 3 := hF9 27 (by decide) 3
  have w21 : dt7 29 3 = dt 29 3 := hF9 29 (by decide) 3
  have w22 : dt7 31 3 = dt 31 3 := hF9 31 (by decide) 3
  have w23 : dt7 33 3 = dt 33 3 := hF9 33 (by decide) 3
  have w24 : dt7 0 2 = dt 0 2 := hF9 0 (by decide) 2
  have w25 : dt7 35 1 = dt 35 1 := hF9 35 (by decide) 1
  have w26 : dt7 35 2 = dt 35 2 := hF9 35 (by decide) 2
  have w27 : dt7 35 3 = dt 35 3 := hF9 35 (by decide) 3
  have w28 : dt7 80 0 = dt 80 0 := hF9 80 (by decide) 0
  have w29 : dt7 80 1 = dt 80 1 := hF9 80 (by decide) 1
  have w30 : dt7 80 2 = dt 80 2 := hF9 80 (by decide) 2
  have w31 : dt7 80 3 = dt 80 3 := hF9 80 (by decide) 3
  have w32 : dt7 80 4 = dt 80 4 := hF9 80 (by decide) 4
  have w33 : dt7 80 5 = dt 80 5 := hF9 80 (by decide) 5
  have w34 : dt7 81 0 = dt 81 0 := hF9 81 (by decide) 0
  have w35 : dt7 81 1 = dt 81 1 := hF9 81 (by decide) 1
  have w36 : dt7 81 2 = dt 81 2 := hF9 81 (by decide) 2
  have w37 : dt7 81 3 = dt 81 3 := hF9 81 (by decide) 3
  have w38 : dt7 81 4 = dt 81 4 := hF9 81 (by decide) 4
  have w39 : dt7 81 5 = dt 81 5 := hF9 81 (by decide) 5
  have w40 : dt7 79 2 = dt 79 2 := hF9 79 (by decide) 2
  have w41 : dt7 79 12 = dt 79 12 := hF9 79 (by decide) 12
  have w42 : dt7 79 19 = dt 79 19 := hF9 79 (by decide) 19
  have w43 : dt7 79 21 = dt 79 21 := hF9 79 (by decide) 21
  rcases h6 with ⟨rfl, h6⟩ | ⟨v_h6, rfl, h6r, h6⟩
  · skip
    have M244 : MW (dt7 81) := MW_frk hM2 hF9 (by decide)
    have C45 : ∀ j : Nat, dt7 2 j = dt 2 j := fun j => (hF9 2 (by decide) j).trans ((fun _ => rfl) j)
    have C46 : ∀ j : Nat, dt7 3 j = dt 3 j := fun j => (hF9 3 (by decide) j).trans ((fun _ => rfl) j)
    have C47 : ∀ j : Nat, dt7 4 j = dt 4 j := fun j => (hF9 4 (by decide) j).trans ((fun _ => rfl) j)
    have C48 : ∀ j : Nat, dt7 5 j = dt 5 j := fun j => (hF9 5 (by decide) j).trans ((fun _ => rfl) j)
    have C49 : ∀ j : Nat, dt7 6 j = dt 6 j := fun j => (hF9 6 (by decide) j).trans ((fun _ => rfl) j)
    have C50 : ∀ j : Nat, dt7 8 j = dt 8 j := fun j => (hF9 8 (by decide) j).trans ((fun _ => rfl) j)
    have C51 : ∀ j : Nat, dt7 9 j = dt 9 j := fun j => (hF9 9 (by decide) j).trans ((fun _ => rfl) j)
    have C52 : ∀ j : Nat, dt7 11 j = dt 11 j := fun j => (hF9 11 (by decide) j).trans ((fun _ => rfl) j)
    have C53 : ∀ j : Nat, dt7 19 j = dt 19 j := fun j => (hF9 19 (by decide) j).trans ((fun _ => rfl) j)
    have C54 : ∀ j : Nat, dt7 20 j = dt 20 j := fun j => (hF9 20 (by decide) j).trans ((fun _ => rfl) j)
    have C55 : ∀ j : Nat, dt7 21 j = dt 21 j := fun j => (hF9 21 (by decide) j).trans ((fun _ => rfl) j)
    have C56 : ∀ j : Nat, dt7 22 j = dt 22 j := fun j => (hF9 22 (by decide) j).trans ((fun _ => rfl) j)
    have C57 : ∀ j : Nat, dt7 23 j = dt 23 j := fun j => (hF9 23 (by decide) j).trans ((fun _ => rfl) j)
    have C58 : ∀ j : Nat, dt7 25 j = dt 25 j := fun j => (hF9 25 (by decide) j).trans ((fun _ => rfl) j)
    have C59 : ∀ j : Nat, dt7 26 j = dt 26 j := fun j => (hF9 26 (by decide) j).trans ((fun _ => rfl) j)
    have C60 : ∀ j : Nat, dt7 28 j = dt 28 j := fun j => (hF9 28 (by decide) j).trans ((fun _ => rfl) j)
    have C61 : ∀ j : Nat, dt7 36 j = dt 36 j := fun j => (hF9 36 (by decide) j).trans ((fun _ => rfl) j)
    have C62 : ∀ j : Nat, dt7 80 j = dt 80 j := fun j => (hF9 80 (by decide) j).trans ((fun _ => rfl) j)
    have C63 : ∀ j : Nat, dt7 81 j = dt 81 j := fun j => (hF9 81 (by decide) j).trans ((fun _ => rfl) j)
    have C64 : ∀ j : Nat, dt7 85 j = dt 85 j := fun j => (hF9 85 (by decide) j).trans ((fun _ => rfl) j)
    refine go_toq PM267 (k := 6) (pc' := 860) (L' := [some (.inr (.inr (some 3000))), some (.inr (.inr (some 0))), some (.inr (.inr (some 79))), some (.inl i)]) (st' := [.inl (i + 1), .inr (.inr (some 3000)), .inr (.inr (some 79))]) (w' := (SH, dt7)) rfl ?_
    have r65 := i32_R (xs ((i + 1).toNat))
    refine go_smpq PM267 (L' := [some (.inr (.inr (some 3000))), some (.inr (.inr (some 0))), some (.inr (.inr (some 79))), some (.inl i)]) (st' := [.inl ((xs ((i + 1).toNat)).toInt), .inr (.inr (some 79))]) (w' := (SH, dt7)) rfl rfl (s_iald (n := L) (f := fun j => (xs j).toInt) (am_scr hLL) ⟨by omega, by omega⟩) ?_
    refine go_toq PM267 (k := 4) (pc' := 865) (L' := [some (.inr (.inr (some 3000))), some (.inr (.inr (some 0))), some (.inr (.inr (some 79))), some (.inl i)]) (st' := [.inl (i + 2), .inr (.inr (some 3000)), .inl ((xs ((i + 1).toNat)).toInt), .inr (.inr (some 79))]) (w' := (SH, dt7)) rfl ?_
    have r66 := i32_R (xs ((i + 2).toNat))
    refine go_smpq PM267 (L' := [some (.inr (.inr (some 3000))), some (.inr (.inr (some 0))), some (.inr (.inr (some 79))), some (.inl i)]) (st' := [.inl ((xs ((i + 2).toNat)).toInt), .inl ((xs ((i + 1).toNat)).toInt), .inr (.inr (some 79))]) (w' := (SH, dt7)) rfl rfl (s_iald (n := L) (f := fun j => (xs j).toInt) (am_scr hLL) ⟨by omega, by omega⟩) ?_
    refine go_toq PM267 (k := 4) (pc' := 870) (L' := [some (.inr (.inr (some 3000))), some (.inr (.inr (some 0))), some (.inr (.inr (some 79))), some (.inl i)]) (st' := [.inl (i + 3), .inr (.inr (some 3000)), .inl ((xs ((i + 2).toNat)).toInt), .inl ((xs ((i + 1).toNat)).toInt), .inr (.inr (some 79))]) (w' := (SH, dt7)) rfl ?_
    have r67 := i32_R (xs ((i + 3).toNat))
    refine go_smpq PM267 (L' := [some (.inr (.inr (some 3000))), some (.inr (.inr (some 0))), some (.inr (.inr (some 79))), some (.inl i)]) (st' := [.inl ((xs ((i + 3).toNat)).toInt), .inl ((xs ((i + 2).toNat)).toInt), .inl ((xs ((i + 1).toNat)).toInt), .inr (.inr (some 79))]) (w' := (SH, dt7)) rfl rfl (s_iald (n := L) (f := fun j => (xs j).toInt) (am_scr hLL) ⟨by omega, by omega⟩) ?_
    refine go_toq PM267 (k := 4) (pc' := 875) (L' := [some (.inr (.inr (some 3000))), some (.inr (.inr (some 0))), some (.inr (.inr (some 79))), some (.inl i)]) (st' := [.inl (i + 4), .inr (.inr (some 3000)), .inl ((xs ((i + 3).toNat)).toInt), .inl ((xs ((i + 2).toNat)).toInt), .inl ((xs ((i + 1).toNat)).toInt), .inr (.inr (some 79))]) (w' := (SH, dt7)) rfl ?_
    have r68 := i32_R (xs ((i + 4).toNat))
    refine go_smpq PM267 (L' := [some (.inr (.inr (some 3000))), some (.inr (.inr (some 0))), some (.inr (.inr (some 79))), some (.inl i)]) (st' := [.inl ((xs ((i + 4).toNat)).toInt), .inl ((xs ((i + 3).toNat)).toInt), .inl ((xs ((i + 2).toNat)).toInt), .inl ((xs ((i + 1).toNat)).toInt), .inr (.inr (some 79))]) (w' := (SH, dt7)) rfl rfl (s_iald (n := L) (f := fun j => (xs j).toInt) (am_scr hLL) ⟨by omega, by omega⟩) ?_
    refine go_toq PM267 (k := 4) (pc' := 880) (L' := [some (.inr (.inr (some 3000))), some (.inr (.inr (some 0))), some (.inr (.inr (some 79))), some (.inl i)]) (st' := [.inl (i + 5), .inr (.inr (some 3000)), .inl ((xs ((i + 4).toNat)).toInt), .inl ((xs ((i + 3).toNat)).toInt), .inl ((xs ((i + 2).toNat)).toInt), .inl ((xs ((i + 1).toNat)).toInt), .inr (.inr (some 79))]) (w' := (SH, dt7)) rfl ?_
    have r69 := i32_R (xs ((i + 5).toNat))
    refine go_smpq PM267 (L' := [some (.inr (.inr (some 3000))), some (.inr (.inr (some 0))), some (.inr (.inr (some 79))), some (.inl i)]) (st' := [.inl ((xs ((i + 5).toNat)).toInt), .inl ((xs ((i + 4).toNat)).toInt), .inl ((xs ((i + 3).toNat)).toInt), .inl ((xs ((i + 2).toNat)).toInt), .inl ((xs ((i + 1).toNat)).toInt), .inr (.inr (some 79))]) (w' := (SH, dt7)) rfl rfl (s_iald (n := L) (f := fun j => (xs j).toInt) (am_scr hLL) ⟨by omega, by omega⟩) ?_
    refine go_callq PM267 PM216 (Q' := _) rfl rfl rfl rfl (sp_X6_chance_f L xs sio (d + 31) dt7 hI8 hM11  ((xs ((i + 1).toNat)).toInt) ⟨by omega, by omega⟩ ((xs ((i + 2).toNat)).toInt) ⟨by omega, by omega⟩ ((xs ((i + 3).toNat)).toInt) ⟨by omega, by omega⟩ ((xs ((i + 4).toNat)).toInt) ⟨by omega, by omega⟩ ((xs ((i + 5).toNat)).toInt) ⟨by omega, by omega⟩ ) ?_
    rintro _ _ ⟨dt71, rfl, hI72, hF73, h70⟩
    refine ⟨rfl, ?_⟩
    have hF74 : Fr [0, 1, 2, 3, 4, 5, 6, 7, 8, 9, 10, 11, 12, 13, 14, 15, 16, 17, 18, 19, 20, 21, 22, 23, 24, 25, 26, 27, 28, 29, 30, 31, 32, 33, 34, 35, 36, 37, 38, 39, 40, 41, 42, 43, 44, 45, 46, 47, 48, 49, 50, 51, 52, 53, 54, 55, 56, 57, 58, 59, 60, 61, 62, 63, 64, 65, 66, 67, 68, 69, 70, 71, 72, 73, 74, 75, 76, 77, 78, 79, 80, 81, 82, 83, 84, 85, 86, 87, 88, 89, 90, 91, 92, 93, 94, 95, 96, 97, 98, 99, 100, 101, 102, 103, 104] dt dt71 := Fr_tr hF10 hF73 (by decide)
    have hM75 : MW (dt71 80) := MW_fr hM11 hF73 (by decide)
    have w76 : dt71 1 0 = dt 1 0 := (hF73 1 (by decide) 0).trans w12
    have w77 : dt71 7 3 = dt 7 3 := (hF73 7 (by decide) 3).trans w13
    have w78 : dt71 10 3 = dt 10 3 := (hF73 10 (by decide) 3).trans w14
    have w79 : dt71 12 3 = dt 12 3 := (hF73 12 (by decide) 3).trans w15
    have w80 : dt71 14 3 = dt 14 3 := (hF73 14 (by decide) 3).trans w16
    have w81 : dt71 16 3 = dt 16 3 := (hF73 16 (by decide) 3).trans w17
    have w82 : dt71 18 0 = dt 18 0 := (hF73 18 (by decide) 0).trans w18
    have w83 : dt71 24 3 = dt 24 3 := (hF73 24 (by decide) 3).trans w19
    have w84 : dt71 27 3 = dt 27 3 := (hF73 27 (by decide) 3).trans w20
    have w85 : dt71 29 3 = dt 29 3 := (hF73 29 (by decide) 3).trans w21
    have w86 : dt71 31 3 = dt 31 3 := (hF73 31 (by decide) 3).trans w22
    have w87 : dt71 33 3 = dt 33 3 := (hF73 33 (by decide) 3).trans w23
    have w88 : dt71 0 2 = dt 0 2 := (hF73 0 (by decide) 2).trans w24
    have w89 : dt71 35 1 = dt 35 1 := (hF73 35 (by decide) 1).trans w25
    have w90 : dt71 35 2 = dt 35 2 := (hF73 35 (by decide) 2).trans w26
    have w91 : dt71 35 3 = dt 35 3 := (hF73 35 (by decide) 3).trans w27
    have w92 : dt71 80 0 = dt 80 0 := (hF73 80 (by decide) 0).trans w28
    have w93 : dt71 80 1 = dt 80 1 := (hF73 80 (by decide) 1).trans w29
    have w94 : dt71 80 2 = dt 80 2 := (hF73 80 (by decide) 2).trans w30
    have w95 : dt71 80 3 = dt 80 3 := (hF73 80 (by decide) 3).trans w31
    have w96 : dt71 80 4 = dt 80 4 := (hF73 80 (by decide) 4).trans w32
    have w97 : dt71 80 5 = dt 80 5 := (hF73 80 (by decide) 5).trans w33
    have w98 : dt71 81 0 = dt 81 0 := (hF73 81 (by decide) 0).trans w34
    have w99 : dt71 81 1 = dt 81 1 := (hF73 81 (by decide) 1).trans w35
    have w100 : dt71 81 2 = dt 81 2 := (hF73 81 (by decide) 2).trans w36
    have w101 : dt71 81 3 = dt 81 3 := (hF73 81 (by decide) 3).trans w37
    have w102 : dt71 81 4 = dt 81 4 := (hF73 81 (by decide) 4).trans w38
    have w103 : dt71 81 5 = dt 81 5 := (hF73 81 (by decide) 5).trans w39
    have w104 : dt71 79 2 = dt 79 2 := (hF73 79 (by decide) 2).trans w40
    have w105 : dt71 79 12 = dt 79 12 := (hF73 79 (by decide) 12).trans w41
    have w106 : dt71 79 19 = dt 79 19 := (hF73 79 (by decide) 19).trans w42
    have w107 : dt71 79 21 = dt 79 21 := (hF73 79 (by decide) 21).trans w43
    rcases h70 with ⟨rfl, h70⟩ | ⟨v_h70, rfl, h70r, h70⟩
    · skip
      have M2108 : MW (dt71 81) := MW_frk M244 hF73 (by decide)
      have C109 : ∀ j : Nat, dt71 2 j = dt 2 j := fun j => (hF73 2 (by decide) j).trans (C45 j)
      have C110 : ∀ j : Nat, dt71 3 j = dt 3 j := fun j => (hF73 3 (by decide) j).trans (C46 j)
      have C111 : ∀ j : Nat, dt71 4 j = dt 4 j := fun j => (hF73 4 (by decide) j).trans (C47 j)
      have C112 : ∀ j : Nat, dt71 5 j = dt 5 j := fun j => (hF73 5 (by decide) j).trans (C48 j)
      have C113 : ∀ j : Nat, dt71 6 j = dt 6 j := fun j => (hF73 6 (by decide) j).trans (C49 j)
      have C114 : ∀ j : Nat, dt71 8 j = dt 8 j := fun j => (hF73 8 (by decide) j).trans (C50 j)
      have C115 : ∀ j : Nat, dt71 9 j = dt 9 j := fun j => (hF73 9 (by decide) j).trans (C51 j)
      have C116 : ∀ j : Nat, dt71 11 j = dt 11 j := fun j => (hF73 11 (by decide) j).trans (C52 j)
      have C117 : ∀ j : Nat, dt71 19 j = dt 19 j := fun j => (hF73 19 (by decide) j).trans (C53 j)
      have C118 : ∀ j : Nat, dt71 20 j = dt 20 j := fun j => (hF73 20 (by decide) j).trans (C54 j)
      have C119 : ∀ j : Nat, dt71 21 j = dt 21 j := fun j => (hF73 21 (by decide) j).trans (C55 j)
      have C120 : ∀ j : Nat, dt71 22 j = dt 22 j := fun j => (hF73 22 (by decide) j).trans (C56 j)
      have C121 : ∀ j : Nat, dt71 23 j = dt 23 j := fun j => (hF73 23 (by decide) j).trans (C57 j)
      have C122 : ∀ j : Nat, dt71 25 j = dt 25 j := fun j => (hF73 25 (by decide) j).trans (C58 j)
      have C123 : ∀ j : Nat, dt71 26 j = dt 26 j := fun j => (hF73 26 (by decide) j).trans (C59 j)
      have C124 : ∀ j : Nat, dt71 28 j = dt 28 j := fun j => (hF73 28 (by decide) j).trans (C60 j)
      have C125 : ∀ j : Nat, dt71 36 j = dt 36 j := fun j => (hF73 36 (by decide) j).trans (C61 j)
      have C126 : ∀ j : Nat, dt71 80 j = dt 80 j := fun j => (hF73 80 (by decide) j).trans (C62 j)
      have C127 : ∀ j : Nat, dt71 81 j = dt 81 j := fun j => (hF73 81 (by decide) j).trans (C63 j)
      have C128 : ∀ j : Nat, dt71 85 j = dt 85 j := fun j => (hF73 85 (by decide) j).trans (C64 j)
      refine go_toq PM267 (k := 2) (pc' := 1435) (L' := [some (.inr (.inr (some 3000))), some (.inr (.inr (some 0))), some (.inr (.inr (some 79))), some (.inl i)]) (st' := []) (w' := (SH, dt71)) rfl ?_
      exact K dt71 hI72 hM75 M2108 (w76.trans (hk0.trans w92.symm)) (w77.trans (hk1.trans w93.symm)) (w78.trans (hk2.trans w94.symm)) (w79.trans (hk3.trans w95.symm)) (w80.trans (hk4.trans w96.symm)) (w81.trans (hk5.trans w97.symm)) (w82.trans (hk6.trans w98.symm)) (w83.trans (hk7.trans w99.symm)) (w84.trans (hk8.trans w100.symm)) (w85.trans (hk9.trans w101.symm)) (w86.trans (hk10.trans w102.symm)) (w87.trans (hk11.trans w103.symm)) (w88.trans (hk12.trans w104.symm)) (w89.trans (hk13.trans w105.symm)) (w90.trans (hk14.trans w106.symm)) (w91.trans (hk15.trans w107.symm)) (by first | exact hI | exact TPL_k hd0 C125 C128 (by omega) | (exfalso; omega)) (by first | exact hI | exact SCL_k hd1 hM (fun j _ => C109 j) (fun j _ => C110 j) (fun j _ _ => C126 j) | (exfalso; omega)) (by first | exact hI | exact SCL_k hd2 hM2 (fun j _ => C117 j) (fun j _ => C118 j) (fun j _ _ => C127 j) | (exfalso; omega)) (by first | exact hI | exact QRL_k hd3 hM (fun j _ => C114 j) (C126 1) (fun j _ _ => C126 j) | (exfalso; omega)) (by first | exact hI | exact QRL_k hd4 hM2 (fun j _ => C122 j) (C127 1) (fun j _ _ => C127 j) | (exfalso; omega)) (by first | exact hI | exact SDL_k hd5 hM (fun j _ => C115 j) (C126 1) (fun j _ _ => C126 j) (fun j _ _ => C126 j) | (exfalso; omega)) (by first | exact hI | exact SDL_k hd6 hM2 (fun j _ => C123 j) (C127 1) (fun j _ _ => C127 j) (fun j _ _ => C127 j) | (exfalso; omega)) (by first | exact hI | exact LWL_k hd7 hM (fun j _ => C111 j) (fun j _ => C112 j) (fun j _ => C113 j) (fun j _ _ => C126 j) | (exfalso; omega)) (by first | exact hI | exact LWL_k hd8 hM2 (fun j _ => C119 j) (fun j _ => C120 j) (fun j _ => C121 j) (fun j _ _ => C127 j) | (exfalso; omega)) (by first | exact hI | exact CHL_k hd9 hM (fun j _ => C116 j) (by omega) (fun j _ _ => C126 j) | (exfalso; omega)) (by first | exact hI | exact CHL_k hd10 hM2 (fun j _ => C124 j) (by omega) (fun j _ _ => C127 j) | (exfalso; omega))
    · skip
      obtain ⟨h70_0, h70_1⟩ := h70
      have M2129 : MW (dt71 81) := MW_frk M244 hF73 (by decide)
      rw [show dt7 80 = dt 80 from funext C62] at h70_1
      have C130 : ∀ j : Nat, dt71 2 j = dt 2 j := fun j => (hF73 2 (by decide) j).trans (C45 j)
      have C131 : ∀ j : Nat, dt71 3 j = dt 3 j := fun j => (hF73 3 (by decide) j).trans (C46 j)
      have C132 : ∀ j : Nat, dt71 4 j = dt 4 j := fun j => (hF73 4 (by decide) j).trans (C47 j)
      have C133 : ∀ j : Nat, dt71 5 j = dt 5 j := fun j => (hF73 5 (by decide) j).trans (C48 j)
      have C134 : ∀ j : Nat, dt71 6 j = dt 6 j := fun j => (hF73 6 (by decide) j).trans (C49 j)
      have C135 : ∀ j : Nat, dt71 8 j = dt 8 j := fun j => (hF73 8 (by decide) j).trans (C50 j)
      have C136 : ∀ j : Nat, dt71 9 j = dt 9 j := fun j => (hF73 9 (by decide) j).trans (C51 j)
      have C137 : ∀ j : Nat, dt71 11 j = dt 11 j := fun j => (hF73 11 (by decide) j).trans (C52 j)
      have C138 : ∀ j : Nat, dt71 19 j = dt 19 j := fun j => (hF73 19 (by decide) j).trans (C53 j)
      have C139 : ∀ j : Nat, dt71 20 j = dt 20 j := fun j => (hF73 20 (by decide) j).trans (C54 j)
      have C140 : ∀ j : Nat, dt71 21 j = dt 21 j := fun j => (hF73 21 (by decide) j).trans (C55 j)
      have C141 : ∀ j : Nat, dt71 22 j = dt 22 j := fun j => (hF73 22 (by decide) j).trans (C56 j)
      have C142 : ∀ j : Nat, dt71 23 j = dt 23 j := fun j => (hF73 23 (by decide) j).trans (C57 j)
      have C143 : ∀ j : Nat, dt71 25 j = dt 25 j := fun j => (hF73 25 (by decide) j).trans (C58 j)
      have C144 : ∀ j : Nat, dt71 26 j = dt 26 j := fun j => (hF73 26 (by decide) j).trans (C59 j)
      have C145 : ∀ j : Nat, dt71 28 j = dt 28 j := fun j => (hF73 28 (by decide) j).trans (C60 j)
      have C146 : ∀ j : Nat, dt71 36 j = dt 36 j := fun j => (hF73 36 (by decide) j).trans (C61 j)
      have C147 : ∀ j : Nat, dt71 80 j = dt 80 j := fun j => (hF73 80 (by decide) j).trans (C62 j)
      have C148 : ∀ j : Nat, dt71 81 j = dt 81 j := fun j => (hF73 81 (by decide) j).trans (C63 j)
      have C149 : ∀ j : Nat, dt71 85 j = dt 85 j := fun j => (hF73 85 (by decide) j).trans (C64 j)
      refine go_toq PM267 (k := 2) (pc' := 1435) (L' := [some (.inr (.inr (some 3000))), some (.inr (.inr (some 0))), some (.inr (.inr (some 79))), some (.inl i)]) (st' := []) (w' := (SH, dt71)) rfl ?_
      exact K dt71 hI72 hM75 M2129 (w76.trans (hk0.trans w92.symm)) (w77.trans (hk1.trans w93.symm)) (w78.trans (hk2.trans w94.symm)) (w79.trans (hk3.trans w95.symm)) (w80.trans (hk4.trans w96.symm)) (w81.trans (hk5.trans w97.symm)) (w82.trans (hk6.trans w98.symm)) (w83.trans (hk7.trans w99.symm)) (w84.trans (hk8.trans w100.symm)) (w85.trans (hk9.trans w101.symm)) (w86.trans (hk10.trans w102.symm)) (w87.trans (hk11.trans w103.symm)) (w88.trans (hk12.trans w104.symm)) (w89.trans (hk13.trans w105.symm)) (w90.trans (hk14.trans w106.symm)) (w91.trans (hk15.trans w107.symm)) (by first | exact hI | exact TPL_k hd0 C146 C149 (by omega) | (exfalso; omega)) (by first | exact hI | exact SCL_k hd1 hM (fun j _ => C130 j) (fun j _ => C131 j) (fun j _ _ => C147 j) | (exfalso; omega)) (by first | exact hI | exact SCL_k hd2 hM2 (fun j _ => C138 j) (fun j _ => C139 j) (fun j _ _ => C148 j) | (exfalso; omega)) (by first | exact hI | exact QRL_k hd3 hM (fun j _ => C135 j) (C147 1) (fun j _ _ => C147 j) | (exfalso; omega)) (by first | exact hI | exact QRL_k hd4 hM2 (fun j _ => C143 j) (C148 1) (fun j _ _ => C148 j) | (exfalso; omega)) (by first | exact hI | exact SDL_k hd5 hM (fun j _ => C136 j) (C147 1) (fun j _ _ => C147 j) (fun j _ _ => C147 j) | (exfalso; omega)) (by first | exact hI | exact SDL_k hd6 hM2 (fun j _ => C144 j) (C148 1) (fun j _ _ => C148 j) (fun j _ _ => C148 j) | (exfalso; omega)) (by first | exact hI | exact LWL_k hd7 hM (fun j _ => C132 j) (fun j _ => C133 j) (fun j _ => C134 j) (fun j _ _ => C147 j) | (exfalso; omega)) (by first | exact hI | exact LWL_k hd8 hM2 (fun j _ => C140 j) (fun j _ => C141 j) (fun j _ => C142 j) (fun j _ _ => C148 j) | (exfalso; omega)) (by first | exact hI | exact CHL_k hd9 hM (fun j _ => C137 j) (by omega) (fun j _ _ => C147 j) | (exfalso; omega)) (by first | exact hI | exact CHL_k hd10 hM2 (fun j _ => C145 j) (by omega) (fun j _ _ => C148 j) | (exfalso; omega))
  · skip
    obtain ⟨h6_0, h6_1⟩ := h6
    have M2150 : MW (dt7 81) := MW_frk hM2 hF9 (by decide)
    have C151 : ∀ j : Nat, dt7 2 j = dt 2 j := fun j => (hF9 2 (by decide) j).trans ((fun _ => rfl) j)
    have C152 : ∀ j : Nat, dt7 3 j = dt 3 j := fun j => (hF9 3 (by decide) j).trans ((fun _ => rfl) j)
    have C153 : ∀ j : Nat, dt7 4 j = dt 4 j := fun j => (hF9 4 (by decide) j).trans ((fun _ => rfl) j)
    have C154 : ∀ j : Nat, dt7 5 j = dt 5 j := fun j => (hF9 5 (by decide) j).trans ((fun _ => rfl) j)
    have C155 : ∀ j : Nat, dt7 6 j = dt 6 j := fun j => (hF9 6 (by decide) j).trans ((fun _ => rfl) j)
    have C156 : ∀ j : Nat, dt7 8 j = dt 8 j := fun j => (hF9 8 (by decide) j).trans ((fun _ => rfl) j)
    have C157 : ∀ j : Nat, dt7 9 j = dt 9 j := fun j => (hF9 9 (by decide) j).trans ((fun _ => rfl) j)
    have C158 : ∀ j : Nat, dt7 11 j = dt 11 j := fun j => (hF9 11 (by decide) j).trans ((fun _ => rfl) j)
    have C159 : ∀ j : Nat, dt7 19 j = dt 19 j := fun j => (hF9 19 (by decide) j).trans ((fun _ => rfl) j)
    have C160 : ∀ j : Nat, dt7 20 j = dt 20 j := fun j => (hF9 20 (by decide) j).trans ((fun _ => rfl) j)
    have C161 : ∀ j : Nat, dt7 21 j = dt 21 j := fun j => (hF9 21 (by decide) j).trans ((fun _ => rfl) j)
    have C162 : ∀ j : Nat, dt7 22 j = dt 22 j := fun j => (hF9 22 (by decide) j).trans ((fun _ => rfl) j)
    have C163 : ∀ j : Nat, dt7 23 j = dt 23 j := fun j => (hF9 23 (by decide) j).trans ((fun _ => rfl) j)
    have C164 : ∀ j : Nat, dt7 25 j = dt 25 j := fun j => (hF9 25 (by decide) j).trans ((fun _ => rfl) j)
    have C165 : ∀ j : Nat, dt7 26 j = dt 26 j := fun j => (hF9 26 (by decide) j).trans ((fun _ => rfl) j)
    have C166 : ∀ j : Nat, dt7 28 j = dt 28 j := fun j => (hF9 28 (by decide) j).trans ((fun _ => rfl) j)
    have C167 : ∀ j : Nat, dt7 36 j = dt 36 j := fun j => (hF9 36 (by decide) j).trans ((fun _ => rfl) j)
    have C168 : ∀ j : Nat, dt7 80 j = dt 80 j := fun j => (hF9 80 (by decide) j).trans ((fun _ => rfl) j)
    have C169 : ∀ j : Nat, dt7 81 j = dt 81 j := fun j => (hF9 81 (by decide) j).trans ((fun _ => rfl) j)
    have C170 : ∀ j : Nat, dt7 85 j = dt 85 j := fun j => (hF9 85 (by decide) j).trans ((fun _ => rfl) j)
    refine go_toq PM267 (k := 6) (pc' := 860) (L' := [some (.inr (.inr (some 3000))), some (.inr (.inr (some 0))), some (.inr (.inr (some 79))), some (.inl i)]) (st' := [.inl (i + 1), .inr (.inr (some 3000)), .inr (.inr (some 79))]) (w' := (SH, dt7)) rfl ?_
    have r171 := i32_R (xs ((i + 1).toNat))
    refine go_smpq PM267 (L' := [some (.inr (.inr (some 3000))), some (.inr (.inr (some 0))), some (.inr (.inr (some 79))), some (.inl i)]) (st' := [.inl ((xs ((i + 1).toNat)).toInt), .inr (.inr (some 79))]) (w' := (SH, dt7)) rfl rfl (s_iald (n := L) (f := fun j => (xs j).toInt) (am_scr hLL) ⟨by omega, by omega⟩) ?_
    refine go_toq PM267 (k := 4) (pc' := 865) (L' := [some (.inr (.inr (some 3000))), some (.inr (.inr (some 0))), some (.inr (.inr (some 79))), some (.inl i)]) (st' := [.inl (i + 2), .inr (.inr (some 3000)), .inl ((xs ((i + 1).toNat)).toInt), .inr (.inr (some 79))]) (w' := (SH, dt7)) rfl ?_
    have r172 := i32_R (xs ((i + 2).toNat))
    refine go_smpq PM267 (L' := [some (.inr (.inr (some 3000))), some (.inr (.inr (some 0))), some (.inr (.inr (some 79))), some (.inl i)]) (st' := [.inl ((xs ((i + 2).toNat)).toInt), .inl ((xs ((i + 1).toNat)).toInt), .inr (.inr (some 79))]) (w' := (SH, dt7)) rfl rfl (s_iald (n := L) (f := fun j => (xs j).toInt) (am_scr hLL) ⟨by omega, by omega⟩) ?_
    refine go_toq PM267 (k := 4) (pc' := 870) (L' := [some (.inr (.inr (some 3000))), some (.inr (.inr (some 0))), some (.inr (.inr (some 79))), some (.inl i)]) (st' := [.inl (i + 3), .inr (.inr (some 3000)), .inl ((xs ((i + 2).toNat)).toInt), .inl ((xs ((i + 1).toNat)).toInt), .inr (.inr (some 79))]) (w' := (SH, dt7)) rfl ?_
    have r173 := i32_R (xs ((i + 3).toNat))
    refine go_smpq PM267 (L' := [some (.inr (.inr (some 3000))), some (.inr (.inr (some 0))), some (.inr (.inr (some 79))), some (.inl i)]) (st' := [.inl ((xs ((i + 3).toNat)).toInt), .inl ((xs ((i + 2).toNat)).toInt), .inl ((xs ((i + 1).toNat)).toInt), .inr (.inr (some 79))]) (w' := (SH, dt7)) rfl rfl (s_iald (n := L) (f := fun j => (xs j).toInt) (am_scr hLL) ⟨by omega, by omega⟩) ?_
    refine go_toq PM267 (k := 4) (pc' := 875) (L' := [some (.inr (.inr (some 3000))), some (.inr (.inr (some 0))), some (.inr (.inr (some 79))), some (.inl i)]) (st' := [.inl (i + 4), .inr (.inr (some 3000)), .inl ((xs ((i + 3).toNat)).toInt), .inl ((xs ((i + 2).toNat)).toInt), .inl ((xs ((i + 1).toNat)).toInt), .inr (.inr (some 79))]) (w' := (SH, dt7)) rfl ?_
    have r174 := i32_R (xs ((i + 4).toNat))
    refine go_smpq PM267 (L' := [some (.inr (.inr (some 3000))), some (.inr (.inr (some 0))), some (.inr (.inr (some 79))), some (.inl i)]) (st' := [.inl ((xs ((i + 4).toNat)).toInt), .inl ((xs ((i + 3).toNat)).toInt), .inl ((xs ((i + 2).toNat)).toInt), .inl ((xs ((i + 1).toNat)).toInt), .inr (.inr (some 79))]) (w' := (SH, dt7)) rfl rfl (s_iald (n := L) (f := fun j => (xs j).toInt) (am_scr hLL) ⟨by omega, by omega⟩) ?_
    refine go_toq PM267 (k := 4) (pc' := 880) (L' := [some (.inr (.inr (some 3000))), some (.inr (.inr (some 0))), some (.inr (.inr (some 79))), some (.inl i)]) (st' := [.inl (i + 5), .inr (.inr (some 3000)), .inl ((xs ((i + 4).toNat)).toInt), .inl ((xs ((i + 3).toNat)).toInt), .inl ((xs ((i + 2).toNat)).toInt), .inl ((xs ((i + 1).toNat)).toInt), .inr (.inr (some 79))]) (w' := (SH, dt7)) rfl ?_
    have r175 := i32_R (xs ((i + 5).toNat))
    refine go_smpq PM267 (L' := [some (.inr (.inr (some 3000))), some (.inr (.inr (some 0))), some (.inr (.inr (some 79))), some (.inl i)]) (st' := [.inl ((xs ((i + 5).toNat)).toInt), .inl ((xs ((i + 4).toNat)).toInt), .inl ((xs ((i + 3).toNat)).toInt), .inl ((xs ((i + 2).toNat)).toInt), .inl ((xs ((i + 1).toNat)).toInt), .inr (.inr (some 79))]) (w' := (SH, dt7)) rfl rfl (s_iald (n := L) (f := fun j => (xs j).toInt) (am_scr hLL) ⟨by omega, by omega⟩) ?_
    refine go_callq PM267 PM216 (Q' := _) rfl rfl rfl rfl (sp_X6_chance_f L xs sio (d + 31) dt7 hI8 hM11  ((xs ((i + 1).toNat)).toInt) ⟨by omega, by omega⟩ ((xs ((i + 2).toNat)).toInt) ⟨by omega, by omega⟩ ((xs ((i + 3).toNat)).toInt) ⟨by omega, by omega⟩ ((xs ((i + 4).toNat)).toInt) ⟨by omega, by omega⟩ ((xs ((i + 5).toNat)).toInt) ⟨by omega, by omega⟩ ) ?_
    rintro _ _ ⟨dt177, rfl, hI178, hF179, h176⟩
    refine ⟨rfl, ?_⟩
    have hF180 : Fr [0, 1, 2, 3, 4, 5, 6, 7, 8, 9, 10, 11, 12, 13, 14, 15, 16, 17, 18, 19, 20, 21, 22, 23, 24, 25, 26, 27, 28, 29, 30, 31, 32, 33, 34, 35, 36, 37, 38, 39, 40, 41, 42, 43, 44, 45, 46, 47, 48, 49, 50, 51, 52, 53, 54, 55, 56, 57, 58, 59, 60, 61, 62, 63, 64, 65, 66, 67, 68, 69, 70, 71, 72, 73, 74, 75, 76, 77, 78, 79, 80, 81, 82, 83, 84, 85, 86, 87, 88, 89, 90, 91, 92, 93, 94, 95, 96, 97, 98, 99, 100, 101, 102, 103, 104] dt dt177 := Fr_tr hF10 hF179 (by decide)
    have hM181 : MW (dt177 80) := MW_fr hM11 hF179 (by decide)
    have w182 : dt177 1 0 = dt 1 0 := (hF179 1 (by decide) 0).trans w12
    have w183 : dt177 7 3 = dt 7 3 := (hF179 7 (by decide) 3).trans w13
    have w184 : dt177 10 3 = dt 10 3 := (hF179 10 (by decide) 3).trans w14
    have w185 : dt177 12 3 = dt 12 3 := (hF179 12 (by decide) 3).trans w15
    have w186 : dt177 14 3 = dt 14 3 := (hF179 14 (by decide) 3).trans w16
    have w187 : dt177 16 3 = dt 16 3 := (hF179 16 (by decide) 3).trans w17
    have w188 : dt177 18 0 = dt 18 0 := (hF179 18 (by decide) 0).trans w18
    have w189 : dt177 24 3 = dt 24 3 := (hF179 24 (by decide) 3).trans w19
    have w190 : dt177 27 3 = dt 27 3 := (hF179 27 (by decide) 3).trans w20
    have w191 : dt177 29 3 = dt 29 3 := (hF179 29 (by decide) 3).trans w21
    have w192 : dt177 31 3 = dt 31 3 := (hF179 31 (by decide) 3).trans w22
    have w193 : dt177 33 3 = dt 33 3 := (hF179 33 (by decide) 3).trans w23
    have w194 : dt177 0 2 = dt 0 2 := (hF179 0 (by decide) 2).trans w24
    have w195 : dt177 35 1 = dt 35 1 := (hF179 35 (by decide) 1).trans w25
    have w196 : dt177 35 2 = dt 35 2 := (hF179 35 (by decide) 2).trans w26
    have w197 : dt177 35 3 = dt 35 3 := (hF179 35 (by decide) 3).trans w27
    have w198 : dt177 80 0 = dt 80 0 := (hF179 80 (by decide) 0).trans w28
    have w199 : dt177 80 1 = dt 80 1 := (hF179 80 (by decide) 1).trans w29
    have w200 : dt177 80 2 = dt 80 2 := (hF179 80 (by decide) 2).trans w30
    have w201 : dt177 80 3 = dt 80 3 := (hF179 80 (by decide) 3).trans w31
    have w202 : dt177 80 4 = dt 80 4 := (hF179 80 (by decide) 4).trans w32
    have w203 : dt177 80 5 = dt 80 5 := (hF179 80 (by decide) 5).trans w33
    have w204 : dt177 81 0 = dt 81 0 := (hF179 81 (by decide) 0).trans w34
    have w205 : dt177 81 1 = dt 81 1 := (hF179 81 (by decide) 1).trans w35
    have w206 : dt177 81 2 = dt 81 2 := (hF179 81 (by decide) 2).trans w36
    have w207 : dt177 81 3 = dt 81 3 := (hF179 81 (by decide) 3).trans w37
    have w208 : dt177 81 4 = dt 81 4 := (hF179 81 (by decide) 4).trans w38
    have w209 : dt177 81 5 = dt 81 5 := (hF179 81 (by decide) 5).trans w39
    have w210 : dt177 79 2 = dt 79 2 := (hF179 79 (by decide) 2).trans w40
    have w211 : dt177 79 12 = dt 79 12 := (hF179 79 (by decide) 12).trans w41
    have w212 : dt177 79 19 = dt 79 19 := (hF179 79 (by decide) 19).trans w42
    have w213 : dt177 79 21 = dt 79 21 := (hF179 79 (by decide) 21).trans w43
    rcases h176 with ⟨rfl, h176⟩ | ⟨v_h176, rfl, h176r, h176⟩
    · skip
      have M2214 : MW (dt177 81) := MW_frk M2150 hF179 (by decide)
      have C215 : ∀ j : Nat, dt177 2 j = dt 2 j := fun j => (hF179 2 (by decide) j).trans (C151 j)
      have C216 : ∀ j : Nat, dt177 3 j = dt 3 j := fun j => (hF179 3 (by decide) j).trans (C152 j)
      have C217 : ∀ j : Nat, dt177 4 j = dt 4 j := fun j => (hF179 4 (by decide) j).trans (C153 j)
      have C218 : ∀ j : Nat, dt177 5 j = dt 5 j := fun j => (hF179 5 (by decide) j).trans (C154 j)
      have C219 : ∀ j : Nat, dt177 6 j = dt 6 j := fun j => (hF179 6 (by decide) j).trans (C155 j)
      have C220 : ∀ j : Nat, dt177 8 j = dt 8 j := fun j => (hF179 8 (by decide) j).trans (C156 j)
      have C221 : ∀ j : Nat, dt177 9 j = dt 9 j := fun j => (hF179 9 (by decide) j).trans (C157 j)
      have C222 : ∀ j : Nat, dt177 11 j = dt 11 j := fun j => (hF179 11 (by decide) j).trans (C158 j)
      have C223 : ∀ j : Nat, dt177 19 j = dt 19 j := fun j => (hF179 19 (by decide) j).trans (C159 j)
      have C224 : ∀ j : Nat, dt177 20 j = dt 20 j := fun j => (hF179 20 (by decide) j).trans (C160 j)
      have C225 : ∀ j : Nat, dt177 21 j = dt 21 j := fun j => (hF179 21 (by decide) j).trans (C161 j)
      have C226 : ∀ j : Nat, dt177 22 j = dt 22 j := fun j => (hF179 22 (by decide) j).trans (C162 j)
      have C227 : ∀ j : Nat, dt177 23 j = dt 23 j := fun j => (hF179 23 (by decide) j).trans (C163 j)
      have C228 : ∀ j : Nat, dt177 25 j = dt 25 j := fun j => (hF179 25 (by decide) j).trans (C164 j)
      have C229 : ∀ j : Nat, dt177 26 j = dt 26 j := fun j => (hF179 26 (by decide) j).trans (C165 j)
      have C230 : ∀ j : Nat, dt177 28 j = dt 28 j := fun j => (hF179 28 (by decide) j).trans (C166 j)
      have C231 : ∀ j : Nat, dt177 36 j = dt 36 j := fun j => (hF179 36 (by decide) j).trans (C167 j)
      have C232 : ∀ j : Nat, dt177 80 j = dt 80 j := fun j => (hF179 80 (by decide) j).trans (C168 j)
      have C233 : ∀ j : Nat, dt177 81 j = dt 81 j := fun j => (hF179 81 (by decide) j).trans (C169 j)
      have C234 : ∀ j : Nat, dt177 85 j = dt 85 j := fun j => (hF179 85 (by decide) j).trans (C170 j)
      refine go_toq PM267 (k := 2) (pc' := 1435) (L' := [some (.inr (.inr (some 3000))), some (.inr (.inr (some 0))), some (.inr (.inr (some 79))), some (.inl i)]) (st' := []) (w' := (SH, dt177)) rfl ?_
      exact K dt177 hI178 hM181 M2214 (w182.trans (hk0.trans w198.symm)) (w183.trans (hk1.trans w199.symm)) (w184.trans (hk2.trans w200.symm)) (w185.trans (hk3.trans w201.symm)) (w186.trans (hk4.trans w202.symm)) (w187.trans (hk5.trans w203.symm)) (w188.trans (hk6.trans w204.symm)) (w189.trans (hk7.trans w205.symm)) (w190.trans (hk8.trans w206.symm)) (w191.trans (hk9.trans w207.symm)) (w192.trans (hk10.trans w208.symm)) (w193.trans (hk11.trans w209.symm)) (w194.trans (hk12.trans w210.symm)) (w195.trans (hk13.trans w211.symm)) (w196.trans (hk14.trans w212.symm)) (w197.trans (hk15.trans w213.symm)) (by first | exact hI | exact TPL_k hd0 C231 C234 (by omega) | (exfalso; omega)) (by first | exact hI | exact SCL_k hd1 hM (fun j _ => C215 j) (fun j _ => C216 j) (fun j _ _ => C232 j) | (exfalso; omega)) (by first | exact hI | exact SCL_k hd2 hM2 (fun j _ => C223 j) (fun j _ => C224 j) (fun j _ _ => C233 j) | (exfalso; omega)) (by first | exact hI | exact QRL_k hd3 hM (fun j _ => C220 j) (C232 1) (fun j _ _ => C232 j) | (exfalso; omega)) (by first | exact hI | exact QRL_k hd4 hM2 (fun j _ => C228 j) (C233 1) (fun j _ _ => C233 j) | (exfalso; omega)) (by first | exact hI | exact SDL_k hd5 hM (fun j _ => C221 j) (C232 1) (fun j _ _ => C232 j) (fun j _ _ => C232 j) | (exfalso; omega)) (by first | exact hI | exact SDL_k hd6 hM2 (fun j _ => C229 j) (C233 1) (fun j _ _ => C233 j) (fun j _ _ => C233 j) | (exfalso; omega)) (by first | exact hI | exact LWL_k hd7 hM (fun j _ => C217 j) (fun j _ => C218 j) (fun j _ => C219 j) (fun j _ _ => C232 j) | (exfalso; omega)) (by first | exact hI | exact LWL_k hd8 hM2 (fun j _ => C225 j) (fun j _ => C226 j) (fun j _ => C227 j) (fun j _ _ => C233 j) | (exfalso; omega)) (by first | exact hI | exact CHL_k hd9 hM (fun j _ => C222 j) (by omega) (fun j _ _ => C232 j) | (exfalso; omega)) (by first | exact hI | exact CHL_k hd10 hM2 (fun j _ => C230 j) (by omega) (fun j _ _ => C233 j) | (exfalso; omega))
    · skip
      obtain ⟨h176_0, h176_1⟩ := h176
      have M2235 : MW (dt177 81) := MW_frk M2150 hF179 (by decide)
      rw [show dt7 80 = dt 80 from funext C168] at h176_1
      have C236 : ∀ j : Nat, dt177 2 j = dt 2 j := fun j => (hF179 2 (by decide) j).trans (C151 j)
      have C237 : ∀ j : Nat, dt177 3 j = dt 3 j := fun j => (hF179 3 (by decide) j).trans (C152 j)
      have C238 : ∀ j : Nat, dt177 4 j = dt 4 j := fun j => (hF179 4 (by decide) j).trans (C153 j)
      have C239 : ∀ j : Nat, dt177 5 j = dt 5 j := fun j => (hF179 5 (by decide) j).trans (C154 j)
      have C240 : ∀ j : Nat, dt177 6 j = dt 6 j := fun j => (hF179 6 (by decide) j).trans (C155 j)
      have C241 : ∀ j : Nat, dt177 8 j = dt 8 j := fun j => (hF179 8 (by decide) j).trans (C156 j)
      have C242 : ∀ j : Nat, dt177 9 j = dt 9 j := fun j => (hF179 9 (by decide) j).trans (C157 j)
      have C243 : ∀ j : Nat, dt177 11 j = dt 11 j := fun j => (hF179 11 (by decide) j).trans (C158 j)
      have C244 : ∀ j : Nat, dt177 19 j = dt 19 j := fun j => (hF179 19 (by decide) j).trans (C159 j)
      have C245 : ∀ j : Nat, dt177 20 j = dt 20 j := fun j => (hF179 20 (by decide) j).trans (C160 j)
      have C246 : ∀ j : Nat, dt177 21 j = dt 21 j := fun j => (hF179 21 (by decide) j).trans (C161 j)
      have C247 : ∀ j : Nat, dt177 22 j = dt 22 j := fun j => (hF179 22 (by decide) j).trans (C162 j)
      have C248 : ∀ j : Nat, dt177 23 j = dt 23 j := fun j => (hF179 23 (by decide) j).trans (C163 j)
      have C249 : ∀ j : Nat, dt177 25 j = dt 25 j := fun j => (hF179 25 (by decide) j).trans (C164 j)
      have C250 : ∀ j : Nat, dt177 26 j = dt 26 j := fun j => (hF179 26 (by decide) j).trans (C165 j)
      have C251 : ∀ j : Nat, dt177 28 j = dt 28 j := fun j => (hF179 28 (by decide) j).trans (C166 j)
      have C252 : ∀ j : Nat, dt177 36 j = dt 36 j := fun j => (hF179 36 (by decide) j).trans (C167 j)
      have C253 : ∀ j : Nat, dt177 80 j = dt 80 j := fun j => (hF179 80 (by decide) j).trans (C168 j)
      have C254 : ∀ j : Nat, dt177 81 j = dt 81 j := fun j => (hF179 81 (by decide) j).trans (C169 j)
      have C255 : ∀ j : Nat, dt177 85 j = dt 85 j := fun j => (hF179 85 (by decide) j).trans (C170 j)
      refine go_toq PM267 (k := 2) (pc' := 1435) (L' := [some (.inr (.inr (some 3000))), some (.inr (.inr (some 0))), some (.inr (.inr (some 79))), some (.inl i)]) (st' := []) (w' := (SH, dt177)) rfl ?_
      exact K dt177 hI178 hM181 M2235 (w182.trans (hk0.trans w198.symm)) (w183.trans (hk1.trans w199.symm)) (w184.trans (hk2.trans w200.symm)) (w185.trans (hk3.trans w201.symm)) (w186.trans (hk4.trans w202.symm)) (w187.trans (hk5.trans w203.symm)) (w188.trans (hk6.trans w204.symm)) (w189.trans (hk7.trans w205.symm)) (w190.trans (hk8.trans w206.symm)) (w191.trans (hk9.trans w207.symm)) (w192.trans (hk10.trans w208.symm)) (w193.trans (hk11.trans w209.symm)) (w194.trans (hk12.trans w210.symm)) (w195.trans (hk13.trans w211.symm)) (w196.trans (hk14.trans w212.symm)) (w197.trans (hk15.trans w213.symm)) (by first | exact hI | exact TPL_k hd0 C252 C255 (by omega) | (exfalso; omega)) (by first | exact hI | exact SCL_k hd1 hM (fun j _ => C236 j) (fun j _ => C237 j) (fun j _ _ => C253 j) | (exfalso; omega)) (by first | exact hI | exact SCL_k hd2 hM2 (fun j _ => C244 j) (fun j _ => C245 j) (fun j _ _ => C254 j) | (exfalso; omega)) (by first | exact hI | exact QRL_k hd3 hM (fun j _ => C241 j) (C253 1) (fun j _ _ => C253 j) | (exfalso; omega)) (by first | exact hI | exact QRL_k hd4 hM2 (fun j _ => C249 j) (C254 1) (fun j _ _ => C254 j) | (exfalso; omega)) (by first | exact hI | exact SDL_k hd5 hM (fun j _ => C242 j) (C253 1) (fun j _ _ => C253 j) (fun j _ _ => C253 j) | (exfalso; omega)) (by first | exact hI | exact SDL_k hd6 hM2 (fun j _ => C250 j) (C254 1) (fun j _ _ => C254 j) (fun j _ _ => C254 j) | (exfalso; omega)) (by first | exact hI | exact LWL_k hd7 hM (fun j _ => C238 j) (fun j _ => C239 j) (fun j _ => C240 j) (fun j _ _ => C253 j) | (exfalso; omega)) (by first | exact hI | exact LWL_k hd8 hM2 (fun j _ => C246 j) (fun j _ => C247 j) (fun j _ => C248 j) (fun j _ _ => C254 j) | (exfalso; omega)) (by first | exact hI | exact CHL_k hd9 hM (fun j _ => C243 j) (by omega) (fun j _ _ => C253 j) | (exfalso; omega)) (by first | exact hI | exact CHL_k hd10 hM2 (fun j _ => C251 j) (by omega) (fun j _ _ => C254 j) | (exfalso; omega))
set_option maxRecDepth 20000 in
set_option maxHeartbeats 8000000 in
theorem sp_case16 (L : Nat) (xs : Nat → Int32) (sio : Option Nat) (d : Nat) (Q : Option AV → am_W → Prop) (hLL : L ≤ 3072) (i : Int) (hi : 0 ≤ i ∧ i ≤ 3066) (hil : i ≤ (L : Int) - 6) (dt : Nat → Nat → Int) (hI : InvC dt) (hM : MW (dt 80)) (hM2 : MW (dt 81)) (hk0 : dt 1 0 = dt 80 0) (hk1 : dt 7 3 = dt 80 1) (hk2 : dt 10 3 = dt 80 2) (hk3 : dt 12 3 = dt 80 3) (hk4 : dt 14 3 = dt 80 4) (hk5 : dt 16 3 = dt 80 5) (hk6 : dt 18 0 = dt 81 0) (hk7 : dt 24 3 = dt 81 1) (hk8 : dt 27 3 = dt 81 2) (hk9 : dt 29 3 = dt 81 3) (hk10 : dt 31 3 = dt 81 4) (hk11 : dt 33 3 = dt 81 5) (hk12 : dt 0 2 = dt 79 2) (hk13 : dt 35 1 = dt 79 12) (hk14 : dt 35 2 = dt 79 19) (hk15 : dt 35 3 = dt 79 21) (hd0 : TPL (dt 36) (dt 85) (dt 35 1)) (hd1 : SCL (dt 2) (dt 3) (dt 80)) (hd2 : SCL (dt 19) (dt 20) (dt 81)) (hd3 : QRL (dt 8) (dt 80)) (hd4 : QRL (dt 25) (dt 81)) (hd5 : SDL (dt 9) (dt 80)) (hd6 : SDL (dt 26) (dt 81)) (hd7 : LWL (dt 4) (dt 5) (dt 6) (dt 80)) (hd8 : LWL (dt 21) (dt 22) (dt 23) (dt 81)) (hd9 : CHL (dt 11) (dt 80)) (hd10 : CHL (dt 28) (dt 81)) (K : ∀ (dt : Nat → Nat → Int) (hI : InvC dt) (hM : MW (dt 80)) (hM2 : MW (dt 81)) (hk0 : dt 1 0 = dt 80 0) (hk1 : dt 7 3 = dt 80 1) (hk2 : dt 10 3 = dt 80 2) (hk3 : dt 12 3 = dt 80 3) (hk4 : dt 14 3 = dt 80 4) (hk5 : dt 16 3 = dt 80 5) (hk6 : dt 18 0 = dt 81 0) (hk7 : dt 24 3 = dt 81 1) (hk8 : dt 27 3 = dt 81 2) (hk9 : dt 29 3 = dt 81 3) (hk10 : dt 31 3 = dt 81 4) (hk11 : dt 33 3 = dt 81 5) (hk12 : dt 0 2 = dt 79 2) (hk13 : dt 35 1 = dt 79 12) (hk14 : dt 35 2 = dt 79 19) (hk15 : dt 35 3 = dt 79 21) (hd0 : TPL (dt 36) (dt 85) (dt 35 1)) (hd1 : SCL (dt 2) (dt 3) (dt 80)) (hd2 : SCL (dt 19) (dt 20) (dt 81)) (hd3 : QRL (dt 8) (dt 80)) (hd4 : QRL (dt 25) (dt 81)) (hd5 : SDL (dt 9) (dt 80)) (hd6 : SDL (dt 26) (dt 81)) (hd7 : LWL (dt 4) (dt 5) (dt 6) (dt 80)) (hd8 : LWL (dt 21) (dt 22) (dt 23) (dt 81)) (hd9 : CHL (dt 11) (dt 80)) (hd10 : CHL (dt 28) (dt 81)), GO (am_XX L xs sio) (d + 39) 267 1435 [some (.inr (.inr (some 3000))), some (.inr (.inr (some 0))), some (.inr (.inr (some 79))), some (.inl i)] [] (SH, dt) Q) : GO (am_XX L xs sio) (d + 39) 267 888 [some (.inr (.inr (some 3000))), some (.inr (.inr (some 0))), some (.inr (.inr (some 79))), some (.inl i)] [] (SH, dt) Q := by
  have hF : Fr [0, 1, 2, 3, 4, 5, 6, 7, 8, 9, 10, 11, 12, 13, 14, 15, 16, 17, 18, 19, 20, 21, 22, 23, 24, 25, 26, 27, 28, 29, 30, 31, 32, 33, 34, 35, 36, 37, 38, 39, 40, 41, 42, 43, 44, 45, 46, 47, 48, 49, 50, 51, 52, 53, 54, 55, 56, 57, 58, 59, 60, 61, 62, 63, 64, 65, 66, 67, 68, 69, 70, 71, 72, 73, 74, 75, 76, 77, 78, 79, 80, 81, 82, 83, 84, 85, 86, 87, 88, 89, 90, 91, 92, 93, 94, 95, 96, 97, 98, 99, 100, 101, 102, 103, 104] dt dt := Fr_refl
  have hqo := QOC_R hd3 hM hk1
  have hb1_ := hM.1.1
  have hb2_ := hM.1.2.1
  have hb3_ := hM.1.2.2.1
  have halk : ALK dt (dt 80) := ⟨hd7, hd3, hd5, hd9, hk1, hk2⟩
  refine go_toq PM267 (k := 5) (pc' := 893) (L' := [some (.inr (.inr (some 3000))), some (.inr (.inr (some 0))), some (.inr (.inr (some 79))), some (.inl i)]) (st' := [.inl (i + 1), .inr (.inr (some 3000)), .inr (.inr (some 0))]) (w' := (SH, dt)) rfl ?_
  have r1 := i32_R (xs ((i + 1).toNat))
  refine go_smpq PM267 (L' := [some (.inr (.inr (some 3000))), some (.inr (.inr (some 0))), some (.inr (.inr (some 79))), some (.inl i)]) (st' := [.inl ((xs ((i + 1).toNat)).toInt), .inr (.inr (some 0))]) (w' := (SH, dt)) rfl rfl (s_iald (n := L) (f := fun j => (xs j).toInt) (am_scr hLL) ⟨by omega, by omega⟩) ?_
  refine go_toq PM267 (k := 4) (pc' := 898) (L' := [some (.inr (.inr (some 3000))), some (.inr (.inr (some 0))), some (.inr (.inr (some 79))), some (.inl i)]) (st' := [.inl (i + 2), .inr (.inr (some 3000)), .inl ((xs ((i + 1).toNat)).toInt), .inr (.inr (some 0))]) (w' := (SH, dt)) rfl ?_
  have r2 := i32_R (xs ((i + 2).toNat))
  refine go_smpq PM267 (L' := [some (.inr (.inr (some 3000))), some (.inr (.inr (some 0))), some (.inr (.inr (some 79))), some (.inl i)]) (st' := [.inl ((xs ((i + 2).toNat)).toInt), .inl ((xs ((i + 1).toNat)).toInt), .inr (.inr (some 0))]) (w' := (SH, dt)) rfl rfl (s_iald (n := L) (f := fun j => (xs j).toInt) (am_scr hLL) ⟨by omega, by omega⟩) ?_
  refine go_callq PM267 PM83 (Q' := _) rfl rfl rfl rfl (sp_X5_parted_f L xs sio (d + 35) dt hI  ((xs ((i + 1).toNat)).toInt) ⟨by omega, by omega⟩ ((xs ((i + 2).toNat)).toInt) ⟨by omega, by omega⟩ ) ?_
  rintro _ _ ⟨rfl, h3⟩
  refine ⟨rfl, ?_⟩
  rcases h3 with ⟨rfl, h3⟩ | ⟨v_h3, rfl, h3r, h3⟩
  · skip
    refine go_toq PM267 (k := 6) (pc' := 908) (L' := [some (.inr (.inr (some 3000))), some (.inr (.inr (some 0))), some (.inr (.inr (some 79))), some (.inl i)]) (st' := [.inl (i + 1), .inr (.inr (some 3000)), .inr (.inr (some 79))]) (w' := (SH, dt)) rfl ?_
    refine go_smpq PM267 (L' := [some (.inr (.inr (some 3000))), some (.inr (.inr (some 0))), some (.inr (.inr (some 79))), some (.inl i)]) (st' := [.inl ((xs ((i + 1).toNat)).toInt), .inr (.inr (some 79))]) (w' := (SH, dt)) rfl rfl (s_iald (n := L) (f := fun j => (xs j).toInt) (am_scr hLL) ⟨by omega, by omega⟩) ?_
    refine go_toq PM267 (k := 4) (pc' := 913) (L' := [some (.inr (.inr (some 3000))), some (.inr (.inr (some 0))), some (.inr (.inr (some 79))), some (.inl i)]) (st' := [.inl (i + 2), .inr (.inr (some 3000)), .inl ((xs ((i + 1).toNat)).toInt), .inr (.inr (some 79))]) (w' := (SH, dt)) rfl ?_
    refine go_smpq PM267 (L' := [some (.inr (.inr (some 3000))), some (.inr (.inr (some 0))), some (.inr (.inr (some 79))), some (.inl i)]) (st' := [.inl ((xs ((i + 2).toNat)).toInt), .inl ((xs ((i + 1).toNat)).toInt), .inr (.inr (some 79))]) (w' := (SH, dt)) rfl rfl (s_iald (n := L) (f := fun j => (xs j).toInt) (am_scr hLL) ⟨by omega, by omega⟩) ?_
    refine go_callq PM267 PM219 (Q' := _) rfl rfl rfl rfl (sp_X6_parted_f L xs sio (d + 32) dt hI hM  ((xs ((i + 1).toNat)).toInt) ⟨by omega, by omega⟩ ((xs ((i + 2).toNat)).toInt) ⟨by omega, by omega⟩ ) ?_
    rintro _ _ ⟨dt5, rfl, hI6, hF7, h4⟩
    refine ⟨rfl, ?_⟩
    have hF8 : Fr [0, 1, 2, 3, 4, 5, 6, 7, 8, 9, 10, 11, 12, 13, 14, 15, 16, 17, 18, 19, 20, 21, 22, 23, 24, 25, 26, 27, 28, 29, 30, 31, 32, 33, 34, 35, 36, 37, 38, 39, 40, 41, 42, 43, 44, 45, 46, 47, 48, 49, 50, 51, 52, 53, 54, 55, 56, 57, 58, 59, 60, 61, 62, 63, 64, 65, 66, 67, 68, 69, 70, 71, 72, 73, 74, 75, 76, 77, 78, 79, 80, 81, 82, 83, 84, 85, 86, 87, 88, 89, 90, 91, 92, 93, 94, 95, 96, 97, 98, 99, 100, 101, 102, 103, 104] dt dt5 := Fr_tr hF hF7 (by decide)
    have hM9 : MW (dt5 80) := MW_fr hM hF7 (by decide)
    have w10 : dt5 1 0 = dt 1 0 := hF7 1 (by decide) 0
    have w11 : dt5 7 3 = dt 7 3 := hF7 7 (by decide) 3
    have w12 : dt5 10 3 = dt 10 3 := hF7 10 (by decide) 3
    have w13 : dt5 12 3 = dt 12 3 := hF7 12 (by decide) 3
    have w14 : dt5 14 3 = dt 14 3 := hF7 14 (by decide) 3
    have w15 : dt5 16 3 = dt 16 3 := hF7 16 (by decide) 3
    have w16 : dt5 18 0 = dt 18 0 := hF7 18 (by decide) 0
    have w17 : dt5 24 3 = dt 24 3 := hF7 24 (by decide) 3
    have w18 : dt5 27 3 = dt 27 3 := hF7 27 (by decide) 3
    have w19 : dt5 29 3 = dt 29 3 := hF7 29 (by decide) 3
    have w20 : dt5 31 3 = dt 31 3 := hF7 31 (by decide) 3
    have w21 : dt5 33 3 = dt 33 3 := hF7 33 (by decide) 3
    have w22 : dt5 0 2 = dt 0 2 := hF7 0 (by decide) 2
    have w23 : dt5 35 1 = dt 35 1 := hF7 35 (by decide) 1
    have w24 : dt5 35 2 = dt 35 2 := hF7 35 (by decide) 2
    have w25 : dt5 35 3 = dt 35 3 := hF7 35 (by decide) 3
    have w26 : dt5 80 0 = dt 80 0 := hF7 80 (by decide) 0
    have w27 : dt5 80 1 = dt 80 1 := hF7 80 (by decide) 1
    have w28 : dt5 80 2 = dt 80 2 := hF7 80 (by decide) 2
    have w29 : dt5 80 3 = dt 80 3 := hF7 80 (by decide) 3
    have w30 : dt5 80 4 = dt 80 4 := hF7 80 (by decide) 4
    have w31 : dt5 80 5 = dt 80 5 := hF7 80 (by decide) 5
    have w32 : dt5 81 0 = dt 81 0 := hF7 81 (by decide) 0
    have w33 : dt5 81 1 = dt 81 1 := hF7 81 (by decide) 1
    have w34 : dt5 81 2 = dt 81 2 := hF7 81 (by decide) 2
    have w35 : dt5 81 3 = dt 81 3 := hF7 81 (by decide) 3
    have w36 : dt5 81 4 = dt 81 4 := hF7 81 (by decide) 4
    have w37 : dt5 81 5 = dt 81 5 := hF7 81 (by decide) 5
    have w38 : dt5 79 2 = dt 79 2 := hF7 79 (by decide) 2
    have w39 : dt5 79 12 = dt 79 12 := hF7 79 (by decide) 12
    have w40 : dt5 79 19 = dt 79 19 := hF7 79 (by decide) 19
    have w41 : dt5 79 21 = dt 79 21 := hF7 79 (by decide) 21
    rcases h4 with ⟨rfl, h4⟩ | ⟨v_h4, rfl, h4r, h4⟩
    · skip
      have M242 : MW (dt5 81) := MW_frk hM2 hF7 (by decide)
      have y43 : (0 ≤ ((xs ((i + 1).toNat)).toInt) ∧ ((xs ((i + 1).toNat)).toInt) ≤ 7) → (0 ≤ ((xs ((i + 2).toNat)).toInt) ∧ ((xs ((i + 2).toNat)).toInt) ≤ 7) → PTB (SDC (dt 9)) ((xs ((i + 1).toNat)).toInt) ((xs ((i + 2).toNat)).toInt) (dt 7 3).toNat = PTB (SAID (dt 80)) ((xs ((i + 1).toNat)).toInt) ((xs ((i + 2).toNat)).toInt) (dt 80 1).toNat := fun h1_ h2_ => by rw [PTB_L hd5 h1_ h2_ hk1, hk1]
      replace y43 := hid y43
      have C44 : ∀ j : Nat, dt5 2 j = dt 2 j := fun j => (hF7 2 (by decide) j).trans ((fun _ => rfl) j)
      have C45 : ∀ j : Nat, dt5 3 j = dt 3 j := fun j => (hF7 3 (by decide) j).trans ((fun _ => rfl) j)
      have C46 : ∀ j : Nat, dt5 4 j = dt 4 j := fun j => (hF7 4 (by decide) j).trans ((fun _ => rfl) j)
      have C47 : ∀ j : Nat, dt5 5 j = dt 5 j := fun j => (hF7 5 (by decide) j).trans ((fun _ => rfl) j)
      have C48 : ∀ j : Nat, dt5 6 j = dt 6 j := fun j => (hF7 6 (by decide) j).trans ((fun _ => rfl) j)
      have C49 : ∀ j : Nat, dt5 8 j = dt 8 j := fun j => (hF7 8 (by decide) j).trans ((fun _ => rfl) j)
      have C50 : ∀ j : Nat, dt5 9 j = dt 9 j := fun j => (hF7 9 (by decide) j).trans ((fun _ => rfl) j)
      have C51 : ∀ j : Nat, dt5 11 j = dt 11 j := fun j => (hF7 11 (by decide) j).trans ((fun _ => rfl) j)
      have C52 : ∀ j : Nat, dt5 19 j = dt 19 j := fun j => (hF7 19 (by decide) j).trans ((fun _ => rfl) j)
      have C53 : ∀ j : Nat, dt5 20 j = dt 20 j := fun j => (hF7 20 (by decide) j).trans ((fun _ => rfl) j)
      have C54 : ∀ j : Nat, dt5 21 j = dt 21 j := fun j => (hF7 21 (by decide) j).trans ((fun _ => rfl) j)
      have C55 : ∀ j : Nat, dt5 22 j = dt 22 j := fun j => (hF7 22 (by decide) j).trans ((fun _ => rfl) j)
      have C56 : ∀ j : Nat, dt5 23 j = dt 23 j := fun j => (hF7 23 (by decide) j).trans ((fun _ => rfl) j)
      have C57 : ∀ j : Nat, dt5 25 j = dt 25 j := fun j => (hF7 25 (by decide) j).trans ((fun _ => rfl) j)
      have C58 : ∀ j : Nat, dt5 26 j = dt 26 j := fun j => (hF7 26 (by decide) j).trans ((fun _ => rfl) j)
      have C59 : ∀ j : Nat, dt5 28 j = dt 28 j := fun j => (hF7 28 (by decide) j).trans ((fun _ => rfl) j)
      have C60 : ∀ j : Nat, dt5 36 j = dt 36 j := fun j => (hF7 36 (by decide) j).trans ((fun _ => rfl) j)
      have C61 : ∀ j : Nat, dt5 80 j = dt 80 j := fun j => (hF7 80 (by decide) j).trans ((fun _ => rfl) j)
      have C62 : ∀ j : Nat, dt5 81 j = dt 81 j := fun j => (hF7 81 (by decide) j).trans ((fun _ => rfl) j)
      have C63 : ∀ j : Nat, dt5 85 j = dt 85 j := fun j => (hF7 85 (by decide) j).trans ((fun _ => rfl) j)
      refine go_toq PM267 (k := 2) (pc' := 1435) (L' := [some (.inr (.inr (some 3000))), some (.inr (.inr (some 0))), some (.inr (.inr (some 79))), some (.inl i)]) (st' := []) (w' := (SH, dt5)) rfl ?_
      exact K dt5 hI6 hM9 M242 (w10.trans (hk0.trans w26.symm)) (w11.trans (hk1.trans w27.symm)) (w12.trans (hk2.trans w28.symm)) (w13.trans (hk3.trans w29.symm)) (w14.trans (hk4.trans w30.symm)) (w15.trans (hk5.trans w31.symm)) (w16.trans (hk6.trans w32.symm)) (w17.trans (hk7.trans w33.symm)) (w18.trans (hk8.trans w34.symm)) (w19.trans (hk9.trans w35.symm)) (w20.trans (hk10.trans w36.symm)) (w21.trans (hk11.trans w37.symm)) (w22.trans (hk12.trans w38.symm)) (w23.trans (hk13.trans w39.symm)) (w24.trans (hk14.trans w40.symm)) (w25.trans (hk15.trans w41.symm)) (by first | exact hI | exact TPL_k hd0 C60 C63 (by (first | omega | (have z0_ := unhid y43; omega))) | (exfalso; (first | omega | (have z0_ := unhid y43; omega)))) (by first | exact hI | exact SCL_k hd1 hM (fun j _ => C44 j) (fun j _ => C45 j) (fun j _ _ => C61 j) | (exfalso; (first | omega | (have z0_ := unhid y43; omega)))) (by first | exact hI | exact SCL_k hd2 hM2 (fun j _ => C52 j) (fun j _ => C53 j) (fun j _ _ => C62 j) | (exfalso; (first | omega | (have z0_ := unhid y43; omega)))) (by first | exact hI | exact QRL_k hd3 hM (fun j _ => C49 j) (C61 1) (fun j _ _ => C61 j) | (exfalso; (first | omega | (have z0_ := unhid y43; omega)))) (by first | exact hI | exact QRL_k hd4 hM2 (fun j _ => C57 j) (C62 1) (fun j _ _ => C62 j) | (exfalso; (first | omega | (have z0_ := unhid y43; omega)))) (by first | exact hI | exact SDL_k hd5 hM (fun j _ => C50 j) (C61 1) (fun j _ _ => C61 j) (fun j _ _ => C61 j) | (exfalso; (first | omega | (have z0_ := unhid y43; omega)))) (by first | exact hI | exact SDL_k hd6 hM2 (fun j _ => C58 j) (C62 1) (fun j _ _ => C62 j) (fun j _ _ => C62 j) | (exfalso; (first | omega | (have z0_ := unhid y43; omega)))) (by first | exact hI | exact LWL_k hd7 hM (fun j _ => C46 j) (fun j _ => C47 j) (fun j _ => C48 j) (fun j _ _ => C61 j) | (exfalso; (first | omega | (have z0_ := unhid y43; omega)))) (by first | exact hI | exact LWL_k hd8 hM2 (fun j _ => C54 j) (fun j _ => C55 j) (fun j _ => C56 j) (fun j _ _ => C62 j) | (exfalso; (first | omega | (have z0_ := unhid y43; omega)))) (by first | exact hI | exact CHL_k hd9 hM (fun j _ => C51 j) (by (first | omega | (have z0_ := unhid y43; omega))) (fun j _ _ => C61 j) | (exfalso; (first | omega | (have z0_ := unhid y43; omega)))) (by first | exact hI | exact CHL_k hd10 hM2 (fun j _ => C59 j) (by (first | omega | (have z0_ := unhid y43; omega))) (fun j _ _ => C62 j) | (exfalso; (first | omega | (have z0_ := unhid y43; omega))))
    · skip
      obtain ⟨h4_0, h4_1⟩ := h4
      have M264 : MW (dt5 81) := MW_frk hM2 hF7 (by decide)
      have y65 : (0 ≤ ((xs ((i + 1).toNat)).toInt) ∧ ((xs ((i + 1).toNat)).toInt) ≤ 7) → (0 ≤ ((xs ((i + 2).toNat)).toInt) ∧ ((xs ((i + 2).toNat)).toInt) ≤ 7) → PTB (SDC (dt 9)) ((xs ((i + 1).toNat)).toInt) ((xs ((i + 2).toNat)).toInt) (dt 7 3).toNat = PTB (SAID (dt 80)) ((xs ((i + 1).toNat)).toInt) ((xs ((i + 2).toNat)).toInt) (dt 80 1).toNat := fun h1_ h2_ => by rw [PTB_L hd5 h1_ h2_ hk1, hk1]
      replace y65 := hid y65
      have C66 : ∀ j : Nat, dt5 2 j = dt 2 j := fun j => (hF7 2 (by decide) j).trans ((fun _ => rfl) j)
      have C67 : ∀ j : Nat, dt5 3 j = dt 3 j := fun j => (hF7 3 (by decide) j).trans ((fun _ => rfl) j)
      have C68 : ∀ j : Nat, dt5 4 j = dt 4 j := fun j => (hF7 4 (by decide) j).trans ((fun _ => rfl) j)
      have C69 : ∀ j : Nat, dt5 5 j = dt 5 j := fun j => (hF7 5 (by decide) j).trans ((fun _ => rfl) j)
      have C70 : ∀ j : Nat, dt5 6 j = dt 6 j := fun j => (hF7 6 (by decide) j).trans ((fun _ => rfl) j)
      have C71 : ∀ j : Nat, dt5 8 j = dt 8 j := fun j => (hF7 8 (by decide) j).trans ((fun _ => rfl) j)
      have C72 : ∀ j : Nat, dt5 9 j = dt 9 j := fun j => (hF7 9 (by decide) j).trans ((fun _ => rfl) j)
      have C73 : ∀ j : Nat, dt5 11 j = dt 11 j := fun j => (hF7 11 (by decide) j).trans ((fun _ => rfl) j)
      have C74 : ∀ j : Nat, dt5 19 j = dt 19 j := fun j => (hF7 19 (by decide) j).trans ((fun _ => rfl) j)
      have C75 : ∀ j : Nat, dt5 20 j = dt 20 j := fun j => (hF7 20 (by decide) j).trans ((fun _ => rfl) j)
      have C76 : ∀ j : Nat, dt5 21 j = dt 21 j := fun j => (hF7 21 (by decide) j).trans ((fun _ => rfl) j)
      have C77 : ∀ j : Nat, dt5 22 j = dt 22 j := fun j => (hF7 22 (by decide) j).trans ((fun _ => rfl) j)
      have C78 : ∀ j : Nat, dt5 23 j = dt 23 j := fun j => (hF7 23 (by decide) j).trans ((fun _ => rfl) j)
      have C79 : ∀ j : Nat, dt5 25 j = dt 25 j := fun j => (hF7 25 (by decide) j).trans ((fun _ => rfl) j)
      have C80 : ∀ j : Nat, dt5 26 j = dt 26 j := fun j => (hF7 26 (by decide) j).trans ((fun _ => rfl) j)
      have C81 : ∀ j : Nat, dt5 28 j = dt 28 j := fun j => (hF7 28 (by decide) j).trans ((fun _ => rfl) j)
      have C82 : ∀ j : Nat, dt5 36 j = dt 36 j := fun j => (hF7 36 (by decide) j).trans ((fun _ => rfl) j)
      have C83 : ∀ j : Nat, dt5 80 j = dt 80 j := fun j => (hF7 80 (by decide) j).trans ((fun _ => rfl) j)
      have C84 : ∀ j : Nat, dt5 81 j = dt 81 j := fun j => (hF7 81 (by decide) j).trans ((fun _ => rfl) j)
      have C85 : ∀ j : Nat, dt5 85 j = dt 85 j := fun j => (hF7 85 (by decide) j).trans ((fun _ => rfl) j)
      refine go_toq PM267 (k := 2) (pc' := 1435) (L' := [some (.inr (.inr (some 3000))), some (.inr (.inr (some 0))), some (.inr (.inr (some 79))), some (.inl i)]) (st' := []) (w' := (SH, dt5)) rfl ?_
      exact K dt5 hI6 hM9 M264 (w10.trans (hk0.trans w26.symm)) (w11.trans (hk1.trans w27.symm)) (w12.trans (hk2.trans w28.symm)) (w13.trans (hk3.trans w29.symm)) (w14.trans (hk4.trans w30.symm)) (w15.trans (hk5.trans w31.symm)) (w16.trans (hk6.trans w32.symm)) (w17.trans (hk7.trans w33.symm)) (w18.trans (hk8.trans w34.symm)) (w19.trans (hk9.trans w35.symm)) (w20.trans (hk10.trans w36.symm)) (w21.trans (hk11.trans w37.symm)) (w22.trans (hk12.trans w38.symm)) (w23.trans (hk13.trans w39.symm)) (w24.trans (hk14.trans w40.symm)) (w25.trans (hk15.trans w41.symm)) (by first | exact hI | exact TPL_k hd0 C82 C85 (by (first | omega | (have z0_ := unhid y65; omega))) | (exfalso; (first | omega | (have z0_ := unhid y65; omega)))) (by first | exact hI | exact SCL_k hd1 hM (fun j _ => C66 j) (fun j _ => C67 j) (fun j _ _ => C83 j) | (exfalso; (first | omega | (have z0_ := unhid y65; omega)))) (by first | exact hI | exact SCL_k hd2 hM2 (fun j _ => C74 j) (fun j _ => C75 j) (fun j _ _ => C84 j) | (exfalso; (first | omega | (have z0_ := unhid y65; omega)))) (by first | exact hI | exact QRL_k hd3 hM (fun j _ => C71 j) (C83 1) (fun j _ _ => C83 j) | (exfalso; (first | omega | (have z0_ := unhid y65; omega)))) (by first | exact hI | exact QRL_k hd4 hM2 (fun j _ => C79 j) (C84 1) (fun j _ _ => C84 j) | (exfalso; (first | omega | (have z0_ := unhid y65; omega)))) (by first | exact hI | exact SDL_k hd5 hM (fun j _ => C72 j) (C83 1) (fun j _ _ => C83 j) (fun j _ _ => C83 j) | (exfalso; (first | omega | (have z0_ := unhid y65; omega)))) (by first | exact hI | exact SDL_k hd6 hM2 (fun j _ => C80 j) (C84 1) (fun j _ _ => C84 j) (fun j _ _ => C84 j) | (exfalso; (first | omega | (have z0_ := unhid y65; omega)))) (by first | exact hI | exact LWL_k hd7 hM (fun j _ => C68 j) (fun j _ => C69 j) (fun j _ => C70 j) (fun j _ _ => C83 j) | (exfalso; (first | omega | (have z0_ := unhid y65; omega)))) (by first | exact hI | exact LWL_k hd8 hM2 (fun j _ => C76 j) (fun j _ => C77 j) (fun j _ => C78 j) (fun j _ _ => C84 j) | (exfalso; (first | omega | (have z0_ := unhid y65; omega)))) (by first | exact hI | exact CHL_k hd9 hM (fun j _ => C73 j) (by (first | omega | (have z0_ := unhid y65; omega))) (fun j _ _ => C83 j) | (exfalso; (first | omega | (have z0_ := unhid y65; omega)))) (by first | exact hI | exact CHL_k hd10 hM2 (fun j _ => C81 j) (by (first | omega | (have z0_ := unhid y65; omega))) (fun j _ _ => C84 j) | (exfalso; (first | omega | (have z0_ := unhid y65; omega))))
  · skip
    obtain ⟨h3_0, h3_1⟩ := h3
    refine go_toq PM267 (k := 6) (pc' := 908) (L' := [some (.inr (.inr (some 3000))), some (.inr (.inr (some 0))), some (.inr (.inr (some 79))), some (.inl i)]) (st' := [.inl (i + 1), .inr (.inr (some 3000)), .inr (.inr (some 79))]) (w' := (SH, dt)) rfl ?_
    refine go_smpq PM267 (L' := [some (.inr (.inr (some 3000))), some (.inr (.inr (some 0))), some (.inr (.inr (some 79))), some (.inl i)]) (st' := [.inl ((xs ((i + 1).toNat)).toInt), .inr (.inr (some 79))]) (w' := (SH, dt)) rfl rfl (s_iald (n := L) (f := fun j => (xs j).toInt) (am_scr hLL) ⟨by omega, by omega⟩) ?_
    refine go_toq PM267 (k := 4) (pc' := 913) (L' := [some (.inr (.inr (some 3000))), some (.inr (.inr (some 0))), some (.inr (.inr (some 79))), some (.inl i)]) (st' := [.inl (i + 2), .inr (.inr (some 3000)), .inl ((xs ((i + 1).toNat)).toInt), .inr (.inr (some 79))]) (w' := (SH, dt)) rfl ?_
    refine go_smpq PM267 (L' := [some (.inr (.inr (some 3000))), some (.inr (.inr (some 0))), some (.inr (.inr (some 79))), some (.inl i)]) (st' := [.inl ((xs ((i + 2).toNat)).toInt), .inl ((xs ((i + 1).toNat)).toInt), .inr (.inr (some 79))]) (w' := (SH, dt)) rfl rfl (s_iald (n := L) (f := fun j => (xs j).toInt) (am_scr hLL) ⟨by omega, by omega⟩) ?_
    refine go_callq PM267 PM219 (Q' := _) rfl rfl rfl rfl (sp_X6_parted_f L xs sio (d + 32) dt hI hM  ((xs ((i + 1).toNat)).toInt) ⟨by omega, by omega⟩ ((xs ((i + 2).toNat)).toInt) ⟨by omega, by omega⟩ ) ?_
    rintro _ _ ⟨dt87, rfl, hI88, hF89, h86⟩
    refine ⟨rfl, ?_⟩
    have hF90 : Fr [0, 1, 2, 3, 4, 5, 6, 7, 8, 9, 10, 11, 12, 13, 14, 15, 16, 17, 18, 19, 20, 21, 22, 23, 24, 25, 26, 27, 28, 29, 30, 31, 32, 33, 34, 35, 36, 37, 38, 39, 40, 41, 42, 43, 44, 45, 46, 47, 48, 49, 50, 51, 52, 53, 54, 55, 56, 57, 58, 59, 60, 61, 62, 63, 64, 65, 66, 67, 68, 69, 70, 71, 72, 73, 74, 75, 76, 77, 78, 79, 80, 81, 82, 83, 84, 85, 86, 87, 88, 89, 90, 91, 92, 93, 94, 95, 96, 97, 98, 99, 100, 101, 102, 103, 104] dt dt87 := Fr_tr hF hF89 (by decide)
    have hM91 : MW (dt87 80) := MW_fr hM hF89 (by decide)
    have w92 : dt87 1 0 = dt 1 0 := hF89 1 (by decide) 0
    have w93 : dt87 7 3 = dt 7 3 := hF89 7 (by decide) 3
    have w94 : dt87 10 3 = dt 10 3 := hF89 10 (by decide) 3
    have w95 : dt87 12 3 = dt 12 3 := hF89 12 (by decide) 3
    have w96 : dt87 14 3 = dt 14 3 := hF89 14 (by decide) 3
    have w97 : dt87 16 3 = dt 16 3 := hF89 16 (by decide) 3
    have w98 : dt87 18 0 = dt 18 0 := hF89 18 (by decide) 0
    have w99 : dt87 24 3 = dt 24 3 := hF89 24 (by decide) 3
    have w100 : dt87 27 3 = dt 27 3 := hF89 27 (by decide) 3
    have w101 : dt87 29 3 = dt 29 3 := hF89 29 (by decide) 3
    have w102 : dt87 31 3 = dt 31 3 := hF89 31 (by decide) 3
    have w103 : dt87 33 3 = dt 33 3 := hF89 33 (by decide) 3
    have w104 : dt87 0 2 = dt 0 2 := hF89 0 (by decide) 2
    have w105 : dt87 35 1 = dt 35 1 := hF89 35 (by decide) 1
    have w106 : dt87 35 2 = dt 35 2 := hF89 35 (by decide) 2
    have w107 : dt87 35 3 = dt 35 3 := hF89 35 (by decide) 3
    have w108 : dt87 80 0 = dt 80 0 := hF89 80 (by decide) 0
    have w109 : dt87 80 1 = dt 80 1 := hF89 80 (by decide) 1
    have w110 : dt87 80 2 = dt 80 2 := hF89 80 (by decide) 2
    have w111 : dt87 80 3 = dt 80 3 := hF89 80 (by decide) 3
    have w112 : dt87 80 4 = dt 80 4 := hF89 80 (by decide) 4
    have w113 : dt87 80 5 = dt 80 5 := hF89 80 (by decide) 5
    have w114 : dt87 81 0 = dt 81 0 := hF89 81 (by decide) 0
    have w115 : dt87 81 1 = dt 81 1 := hF89 81 (by decide) 1
    have w116 : dt87 81 2 = dt 81 2 := hF89 81 (by decide) 2
    have w117 : dt87 81 3 = dt 81 3 := hF89 81 (by decide) 3
    have w118 : dt87 81 4 = dt 81 4 := hF89 81 (by decide) 4
    have w119 : dt87 81 5 = dt 81 5 := hF89 81 (by decide) 5
    have w120 : dt87 79 2 = dt 79 2 := hF89 79 (by decide) 2
    have w121 : dt87 79 12 = dt 79 12 := hF89 79 (by decide) 12
    have w122 : dt87 79 19 = dt 79 19 := hF89 79 (by decide) 19
    have w123 : dt87 79 21 = dt 79 21 := hF89 79 (by decide) 21
    rcases h86 with ⟨rfl, h86⟩ | ⟨v_h86, rfl, h86r, h86⟩
    · skip
      have M2124 : MW (dt87 81) := MW_frk hM2 hF89 (by decide)
      have y125 : (0 ≤ ((xs ((i + 1).toNat)).toInt) ∧ ((xs ((i + 1).toNat)).toInt) ≤ 7) → (0 ≤ ((xs ((i + 2).toNat)).toInt) ∧ ((xs ((i + 2).toNat)).toInt) ≤ 7) → PTB (SDC (dt 9)) ((xs ((i + 1).toNat)).toInt) ((xs ((i + 2).toNat)).toInt) (dt 7 3).toNat = PTB (SAID (dt 80)) ((xs ((i + 1).toNat)).toInt) ((xs ((i + 2).toNat)).toInt) (dt 80 1).toNat := fun h1_ h2_ => by rw [PTB_L hd5 h1_ h2_ hk1, hk1]
      replace y125 := hid y125
      have C126 : ∀ j : Nat, dt87 2 j = dt 2 j := fun j => (hF89 2 (by decide) j).trans ((fun _ => rfl) j)
      have C127 : ∀ j : Nat, dt87 3 j = dt 3 j := fun j => (hF89 3 (by decide) j).trans ((fun _ => rfl) j)
      have C128 : ∀ j : Nat, dt87 4 j = dt 4 j := fun j => (hF89 4 (by decide) j).trans ((fun _ => rfl) j)
      have C129 : ∀ j : Nat, dt87 5 j = dt 5 j := fun j => (hF89 5 (by decide) j).trans ((fun _ => rfl) j)
      have C130 : ∀ j : Nat, dt87 6 j = dt 6 j := fun j => (hF89 6 (by decide) j).trans ((fun _ => rfl) j)
      have C131 : ∀ j : Nat, dt87 8 j = dt 8 j := fun j => (hF89 8 (by decide) j).trans ((fun _ => rfl) j)
      have C132 : ∀ j : Nat, dt87 9 j = dt 9 j := fun j => (hF89 9 (by decide) j).trans ((fun _ => rfl) j)
      have C133 : ∀ j : Nat, dt87 11 j = dt 11 j := fun j => (hF89 11 (by decide) j).trans ((fun _ => rfl) j)
      have C134 : ∀ j : Nat, dt87 19 j = dt 19 j := fun j => (hF89 19 (by decide) j).trans ((fun _ => rfl) j)
      have C135 : ∀ j : Nat, dt87 20 j = dt 20 j := fun j => (hF89 20 (by decide) j).trans ((fun _ => rfl) j)
      have C136 : ∀ j : Nat, dt87 21 j = dt 21 j := fun j => (hF89 21 (by decide) j).trans ((fun _ => rfl) j)
      have C137 : ∀ j : Nat, dt87 22 j = dt 22 j := fun j => (hF89 22 (by decide) j).trans ((fun _ => rfl) j)
      have C138 : ∀ j : Nat, dt87 23 j = dt 23 j := fun j => (hF89 23 (by decide) j).trans ((fun _ => rfl) j)
      have C139 : ∀ j : Nat, dt87 25 j = dt 25 j := fun j => (hF89 25 (by decide) j).trans ((fun _ => rfl) j)
      have C140 : ∀ j : Nat, dt87 26 j = dt 26 j := fun j => (hF89 26 (by decide) j).trans ((fun _ => rfl) j)
      have C141 : ∀ j : Nat, dt87 28 j = dt 28 j := fun j => (hF89 28 (by decide) j).trans ((fun _ => rfl) j)
      have C142 : ∀ j : Nat, dt87 36 j = dt 36 j := fun j => (hF89 36 (by decide) j).trans ((fun _ => rfl) j)
      have C143 : ∀ j : Nat, dt87 80 j = dt 80 j := fun j => (hF89 80 (by decide) j).trans ((fun _ => rfl) j)
      have C144 : ∀ j : Nat, dt87 81 j = dt 81 j := fun j => (hF89 81 (by decide) j).trans ((fun _ => rfl) j)
      have C145 : ∀ j : Nat, dt87 85 j = dt 85 j := fun j => (hF89 85 (by decide) j).trans ((fun _ => rfl) j)
      refine go_toq PM267 (k := 2) (pc' := 1435) (L' := [some (.inr (.inr (some 3000))), some (.inr (.inr (some 0))), some (.inr (.inr (some 79))), some (.inl i)]) (st' := []) (w' := (SH, dt87)) rfl ?_
      exact K dt87 hI88 hM91 M2124 (w92.trans (hk0.trans w108.symm)) (w93.trans (hk1.trans w109.symm)) (w94.trans (hk2.trans w110.symm)) (w95.trans (hk3.trans w111.symm)) (w96.trans (hk4.trans w112.symm)) (w97.trans (hk5.trans w113.symm)) (w98.trans (hk6.trans w114.symm)) (w99.trans (hk7.trans w115.symm)) (w100.trans (hk8.trans w116.symm)) (w101.trans (hk9.trans w117.symm)) (w102.trans (hk10.trans w118.symm)) (w103.trans (hk11.trans w119.symm)) (w104.trans (hk12.trans w120.symm)) (w105.trans (hk13.trans w121.symm)) (w106.trans (hk14.trans w122.symm)) (w107.trans (hk15.trans w123.symm)) (by first | exact hI | exact TPL_k hd0 C142 C145 (by (first | omega | (have z0_ := unhid y125; omega))) | (exfalso; (first | omega | (have z0_ := unhid y125; omega)))) (by first | exact hI | exact SCL_k hd1 hM (fun j _ => C126 j) (fun j _ => C127 j) (fun j _ _ => C143 j) | (exfalso; (first | omega | (have z0_ := unhid y125; omega)))) (by first | exact hI | exact SCL_k hd2 hM2 (fun j _ => C134 j) (fun j _ => C135 j) (fun j _ _ => C144 j) | (exfalso; (first | omega | (have z0_ := unhid y125; omega)))) (by first | exact hI | exact QRL_k hd3 hM (fun j _ => C131 j) (C143 1) (fun j _ _ => C143 j) | (exfalso; (first | omega | (have z0_ := unhid y125; omega)))) (by first | exact hI | exact QRL_k hd4 hM2 (fun j _ => C139 j) (C144 1) (fun j _ _ => C144 j) | (exfalso; (first | omega | (have z0_ := unhid y125; omega)))) (by first | exact hI | exact SDL_k hd5 hM (fun j _ => C132 j) (C143 1) (fun j _ _ => C143 j) (fun j _ _ => C143 j) | (exfalso; (first | omega | (have z0_ := unhid y125; omega)))) (by first | exact hI | exact SDL_k hd6 hM2 (fun j _ => C140 j) (C144 1) (fun j _ _ => C144 j) (fun j _ _ => C144 j) | (exfalso; (first | omega | (have z0_ := unhid y125; omega)))) (by first | exact hI | exact LWL_k hd7 hM (fun j _ => C128 j) (fun j _ => C129 j) (fun j _ => C130 j) (fun j _ _ => C143 j) | (exfalso; (first | omega | (have z0_ := unhid y125; omega)))) (by first | exact hI | exact LWL_k hd8 hM2 (fun j _ => C136 j) (fun j _ => C137 j) (fun j _ => C138 j) (fun j _ _ => C144 j) | (exfalso; (first | omega | (have z0_ := unhid y125; omega)))) (by first | exact hI | exact CHL_k hd9 hM (fun j _ => C133 j) (by (first | omega | (have z0_ := unhid y125; omega))) (fun j _ _ => C143 j) | (exfalso; (first | omega | (have z0_ := unhid y125; omega)))) (by first | exact hI | exact CHL_k hd10 hM2 (fun j _ => C141 j) (by (first | omega | (have z0_ := unhid y125; omega))) (fun j _ _ => C144 j) | (exfalso; (first | omega | (have z0_ := unhid y125; omega))))
    · skip
      obtain ⟨h86_0, h86_1⟩ := h86
      have M2146 : MW (dt87 81) := MW_frk hM2 hF89 (by decide)
      have y147 : (0 ≤ ((xs ((i + 1).toNat)).toInt) ∧ ((xs ((i + 1).toNat)).toInt) ≤ 7) → (0 ≤ ((xs ((i + 2).toNat)).toInt) ∧ ((xs ((i + 2).toNat)).toInt) ≤ 7) → PTB (SDC (dt 9)) ((xs ((i + 1).toNat)).toInt) ((xs ((i + 2).toNat)).toInt) (dt 7 3).toNat = PTB (SAID (dt 80)) ((xs ((i + 1).toNat)).toInt) ((xs ((i + 2).toNat)).toInt) (dt 80 1).toNat := fun h1_ h2_ => by rw [PTB_L hd5 h1_ h2_ hk1, hk1]
      replace y147 := hid y147
      have C148 : ∀ j : Nat, dt87 2 j = dt 2 j := fun j => (hF89 2 (by decide) j).trans ((fun _ => rfl) j)
      have C149 : ∀ j : Nat, dt87 3 j = dt 3 j := fun j => (hF89 3 (by decide) j).trans ((fun _ => rfl) j)
      have C150 : ∀ j : Nat, dt87 4 j = dt 4 j := fun j => (hF89 4 (by decide) j).trans ((fun _ => rfl) j)
      have C151 : ∀ j : Nat, dt87 5 j = dt 5 j := fun j => (hF89 5 (by decide) j).trans ((fun _ => rfl) j)
      have C152 : ∀ j : Nat, dt87 6 j = dt 6 j := fun j => (hF89 6 (by decide) j).trans ((fun _ => rfl) j)
      have C153 : ∀ j : Nat, dt87 8 j = dt 8 j := fun j => (hF89 8 (by decide) j).trans ((fun _ => rfl) j)
      have C154 : ∀ j : Nat, dt87 9 j = dt 9 j := fun j => (hF89 9 (by decide) j).trans ((fun _ => rfl) j)
      have C155 : ∀ j : Nat, dt87 11 j = dt 11 j := fun j => (hF89 11 (by decide) j).trans ((fun _ => rfl) j)
      have C156 : ∀ j : Nat, dt87 19 j = dt 19 j := fun j => (hF89 19 (by decide) j).trans ((fun _ => rfl) j)
      have C157 : ∀ j : Nat, dt87 20 j = dt 20 j := fun j => (hF89 20 (by decide) j).trans ((fun _ => rfl) j)
      have C158 : ∀ j : Nat, dt87 21 j = dt 21 j := fun j => (hF89 21 (by decide) j).trans ((fun _ => rfl) j)
      have C159 : ∀ j : Nat, dt87 22 j = dt 22 j := fun j => (hF89 22 (by decide) j).trans ((fun _ => rfl) j)
      have C160 : ∀ j : Nat, dt87 23 j = dt 23 j := fun j => (hF89 23 (by decide) j).trans ((fun _ => rfl) j)
      have C161 : ∀ j : Nat, dt87 25 j = dt 25 j := fun j => (hF89 25 (by decide) j).trans ((fun _ => rfl) j)
      have C162 : ∀ j : Nat, dt87 26 j = dt 26 j := fun j => (hF89 26 (by decide) j).trans ((fun _ => rfl) j)
      have C163 : ∀ j : Nat, dt87 28 j = dt 28 j := fun j => (hF89 28 (by decide) j).trans ((fun _ => rfl) j)
      have C164 : ∀ j : Nat, dt87 36 j = dt 36 j := fun j => (hF89 36 (by decide) j).trans ((fun _ => rfl) j)
      have C165 : ∀ j : Nat, dt87 80 j = dt 80 j := fun j => (hF89 80 (by decide) j).trans ((fun _ => rfl) j)
      have C166 : ∀ j : Nat, dt87 81 j = dt 81 j := fun j => (hF89 81 (by decide) j).trans ((fun _ => rfl) j)
      have C167 : ∀ j : Nat, dt87 85 j = dt 85 j := fun j => (hF89 85 (by decide) j).trans ((fun _ => rfl) j)
      refine go_toq PM267 (k := 2) (pc' := 1435) (L' := [some (.inr (.inr (some 3000))), some (.inr (.inr (some 0))), some (.inr (.inr (some 79))), some (.inl i)]) (st' := []) (w' := (SH, dt87)) rfl ?_
      exact K dt87 hI88 hM91 M2146 (w92.trans (hk0.trans w108.symm)) (w93.trans (hk1.trans w109.symm)) (w94.trans (hk2.trans w110.symm)) (w95.trans (hk3.trans w111.symm)) (w96.trans (hk4.trans w112.symm)) (w97.trans (hk5.trans w113.symm)) (w98.trans (hk6.trans w114.symm)) (w99.trans (hk7.trans w115.symm)) (w100.trans (hk8.trans w116.symm)) (w101.trans (hk9.trans w117.symm)) (w102.trans (hk10.trans w118.symm)) (w103.trans (hk11.trans w119.symm)) (w104.trans (hk12.trans w120.symm)) (w105.trans (hk13.trans w121.symm)) (w106.trans (hk14.trans w122.symm)) (w107.trans (hk15.trans w123.symm)) (by first | exact hI | exact TPL_k hd0 C164 C167 (by (first | omega | (have z0_ := unhid y147; omega))) | (exfalso; (first | omega | (have z0_ := unhid y147; omega)))) (by first | exact hI | exact SCL_k hd1 hM (fun j _ => C148 j) (fun j _ => C149 j) (fun j _ _ => C165 j) | (exfalso; (first | omega | (have z0_ := unhid y147; omega)))) (by first | exact hI | exact SCL_k hd2 hM2 (fun j _ => C156 j) (fun j _ => C157 j) (fun j _ _ => C166 j) | (exfalso; (first | omega | (have z0_ := unhid y147; omega)))) (by first | exact hI | exact QRL_k hd3 hM (fun j _ => C153 j) (C165 1) (fun j _ _ => C165 j) | (exfalso; (first | omega | (have z0_ := unhid y147; omega)))) (by first | exact hI | exact QRL_k hd4 hM2 (fun j _ => C161 j) (C166 1) (fun j _ _ => C166 j) | (exfalso; (first | omega | (have z0_ := unhid y147; omega)))) (by first | exact hI | exact SDL_k hd5 hM (fun j _ => C154 j) (C165 1) (fun j _ _ => C165 j) (fun j _ _ => C165 j) | (exfalso; (first | omega | (have z0_ := unhid y147; omega)))) (by first | exact hI | exact SDL_k hd6 hM2 (fun j _ => C162 j) (C166 1) (fun j _ _ => C166 j) (fun j _ _ => C166 j) | (exfalso; (first | omega | (have z0_ := unhid y147; omega)))) (by first | exact hI | exact LWL_k hd7 hM (fun j _ => C150 j) (fun j _ => C151 j) (fun j _ => C152 j) (fun j _ _ => C165 j) | (exfalso; (first | omega | (have z0_ := unhid y147; omega)))) (by first | exact hI | exact LWL_k hd8 hM2 (fun j _ => C158 j) (fun j _ => C159 j) (fun j _ => C160 j) (fun j _ _ => C166 j) | (exfalso; (first | omega | (have z0_ := unhid y147; omega)))) (by first | exact hI | exact CHL_k hd9 hM (fun j _ => C155 j) (by (first | omega | (have z0_ := unhid y147; omega))) (fun j _ _ => C165 j) | (exfalso; (first | omega | (have z0_ := unhid y147; omega)))) (by first | exact hI | exact CHL_k hd10 hM2 (fun j _ => C163 j) (by (first | omega | (have z0_ := unhid y147; omega))) (fun j _ _ => C166 j) | (exfalso; (first | omega | (have z0_ := unhid y147; omega))))
set_option maxRecDepth 20000 in
set_option maxHeartbeats 8000000 in
theorem sp_case17 (L : Nat) (xs : Nat → Int32) (sio : Option Nat) (d : Nat) (Q : Option AV → am_W → Prop) (hLL : L ≤ 3072) (i : Int) (hi : 0 ≤ i ∧ i ≤ 3066) (hil : i ≤ (L : Int) - 6) (dt : Nat → Nat → Int) (hI : InvC dt) (hM : MW (dt 80)) (hM2 : MW (dt 81)) (hk0 : dt 1 0 = dt 80 0) (hk1 : dt 7 3 = dt 80 1) (hk2 : dt 10 3 = dt 80 2) (hk3 : dt 12 3 = dt 80 3) (hk4 : dt 14 3 = dt 80 4) (hk5 : dt 16 3 = dt 80 5) (hk6 : dt 18 0 = dt 81 0) (hk7 : dt 24 3 = dt 81 1) (hk8 : dt 27 3 = dt 81 2) (hk9 : dt 29 3 = dt 81 3) (hk10 : dt 31 3 = dt 81 4) (hk11 : dt 33 3 = dt 81 5) (hk12 : dt 0 2 = dt 79 2) (hk13 : dt 35 1 = dt 79 12) (hk14 : dt 35 2 = dt 79 19) (hk15 : dt 35 3 = dt 79 21) (hd0 : TPL (dt 36) (dt 85) (dt 35 1)) (hd1 : SCL (dt 2) (dt 3) (dt 80)) (hd2 : SCL (dt 19) (dt 20) (dt 81)) (hd3 : QRL (dt 8) (dt 80)) (hd4 : QRL (dt 25) (dt 81)) (hd5 : SDL (dt 9) (dt 80)) (hd6 : SDL (dt 26) (dt 81)) (hd7 : LWL (dt 4) (dt 5) (dt 6) (dt 80)) (hd8 : LWL (dt 21) (dt 22) (dt 23) (dt 81)) (hd9 : CHL (dt 11) (dt 80)) (hd10 : CHL (dt 28) (dt 81)) (K : ∀ (dt : Nat → Nat → Int) (hI : InvC dt) (hM : MW (dt 80)) (hM2 : MW (dt 81)) (hk0 : dt 1 0 = dt 80 0) (hk1 : dt 7 3 = dt 80 1) (hk2 : dt 10 3 = dt 80 2) (hk3 : dt 12 3 = dt 80 3) (hk4 : dt 14 3 = dt 80 4) (hk5 : dt 16 3 = dt 80 5) (hk6 : dt 18 0 = dt 81 0) (hk7 : dt 24 3 = dt 81 1) (hk8 : dt 27 3 = dt 81 2) (hk9 : dt 29 3 = dt 81 3) (hk10 : dt 31 3 = dt 81 4) (hk11 : dt 33 3 = dt 81 5) (hk12 : dt 0 2 = dt 79 2) (hk13 : dt 35 1 = dt 79 12) (hk14 : dt 35 2 = dt 79 19) (hk15 : dt 35 3 = dt 79 21) (hd0 : TPL (dt 36) (dt 85) (dt 35 1)) (hd1 : SCL (dt 2) (dt 3) (dt 80)) (hd2 : SCL (dt 19) (dt 20) (dt 81)) (hd3 : QRL (dt 8) (dt 80)) (hd4 : QRL (dt 25) (dt 81)) (hd5 : SDL (dt 9) (dt 80)) (hd6 : SDL (dt 26) (dt 81)) (hd7 : LWL (dt 4) (dt 5) (dt 6) (dt 80)) (hd8 : LWL (dt 21) (dt 22) (dt 23) (dt 81)) (hd9 : CHL (dt 11) (dt 80)) (hd10 : CHL (dt 28) (dt 81)), GO (am_XX L xs sio) (d + 39) 267 1435 [some (.inr (.inr (some 3000))), some (.inr (.inr (some 0))), some (.inr (.inr (some 79))), some (.inl i)] [] (SH, dt) Q) : GO (am_XX L xs sio) (d + 39) 267 921 [some (.inr (.inr (some 3000))), some (.inr (.inr (some 0))), some (.inr (.inr (some 79))), some (.inl i)] [] (SH, dt) Q := by
  have hF : Fr [0, 1, 2, 3, 4, 5, 6, 7, 8, 9, 10, 11, 12, 13, 14, 15, 16, 17, 18, 19, 20, 21, 22, 23, 24, 25, 26, 27, 28, 29, 30, 31, 32, 33, 34, 35, 36, 37, 38, 39, 40, 41, 42, 43, 44, 45, 46, 47, 48, 49, 50, 51, 52, 53, 54, 55, 56, 57, 58, 59, 60, 61, 62, 63, 64, 65, 66, 67, 68, 69, 70, 71, 72, 73, 74, 75, 76, 77, 78, 79, 80, 81, 82, 83, 84, 85, 86, 87, 88, 89, 90, 91, 92, 93, 94, 95, 96, 97, 98, 99, 100, 101, 102, 103, 104] dt dt := Fr_refl
  have hqo := QOC_R hd3 hM hk1
  have hb1_ := hM.1.1
  have hb2_ := hM.1.2.1
  have hb3_ := hM.1.2.2.1
  have halk : ALK dt (dt 80) := ⟨hd7, hd3, hd5, hd9, hk1, hk2⟩
  refine go_toq PM267 (k := 5) (pc' := 926) (L' := [some (.inr (.inr (some 3000))), some (.inr (.inr (some 0))), some (.inr (.inr (some 79))), some (.inl i)]) (st' := [.inl (i + 1), .inr (.inr (some 3000)), .inr (.inr (some 0))]) (w' := (SH, dt)) rfl ?_
  have r1 := i32_R (xs ((i + 1).toNat))
  refine go_smpq PM267 (L' := [some (.inr (.inr (some 3000))), some (.inr (.inr (some 0))), some (.inr (.inr (some 79))), some (.inl i)]) (st' := [.inl ((xs ((i + 1).toNat)).toInt), .inr (.inr (some 0))]) (w' := (SH, dt)) rfl rfl (s_iald (n := L) (f := fun j => (xs j).toInt) (am_scr hLL) ⟨by omega, by omega⟩) ?_
  refine go_callq PM267 PM84 (Q' := _) rfl rfl rfl rfl (sp_X5_fewest L xs sio (d + 34) dt hI  ((xs ((i + 1).toNat)).toInt) ⟨by omega, by omega⟩ ) ?_
  rintro _ _ ⟨dt3, rfl, hI4, hF5, h2⟩
  refine ⟨rfl, ?_⟩
  have hF6 : Fr [0, 1, 2, 3, 4, 5, 6, 7, 8, 9, 10, 11, 12, 13, 14, 15, 16, 17, 18, 19, 20, 21, 22, 23, 24, 25, 26, 27, 28, 29, 30, 31, 32, 33, 34, 35, 36, 37, 38, 39, 40, 41, 42, 43, 44, 45, 46, 47, 48, 49, 50, 51, 52, 53, 54, 55, 56, 57, 58, 59, 60, 61, 62, 63, 64, 65, 66, 67, 68, 69, 70, 71, 72, 73, 74, 75, 76, 77, 78, 79, 80, 81, 82, 83, 84, 85, 86, 87, 88, 89, 90, 91, 92, 93, 94, 95, 96, 97, 98, 99, 100, 101, 102, 103, 104] dt dt3 := Fr_tr hF hF5 (by decide)
  have hM7 : MW (dt3 80) := MW_fr hM hF5 (by decide)
  have w8 : dt3 1 0 = dt 1 0 := hF5 1 (by decide) 0
  have w9 : dt3 7 3 = dt 7 3 := hF5 7 (by decide) 3
  have w10 : dt3 10 3 = dt 10 3 := hF5 10 (by decide) 3
  have w11 : dt3 12 3 = dt 12 3 := hF5 12 (by decide) 3
  have w12 : dt3 14 3 = dt 14 3 := hF5 14 (by decide) 3
  have w13 : dt3 16 3 = dt 16 3 := hF5 16 (by decide) 3
  have w14 : dt3 18 0 = dt 18 0 := hF5 18 (by decide) 0
  have w15 : dt3 24 3 = dt 24 3 := hF5 24 (by decide) 3
  have w16 : dt3 27 3 = dt 27 3 := hF5 27 (by decide) 3
  have w17 : dt3 29 3 = dt 29 3 := hF5 29 (by decide) 3
  have w18 : dt3 31 3 = dt 31 3 := hF5 31 (by decide) 3
  have w19 : dt3 33 3 = dt 33 3 := hF5 33 (by decide) 3
  have w20 : dt3 0 2 = dt 0 2 := hF5 0 (by decide) 2
  have w21 : dt3 35 1 = dt 35 1 := hF5 35 (by decide) 1
  have w22 : dt3 35 2 = dt 35 2 := hF5 35 (by decide) 2
  have w23 : dt3 35 3 = dt 35 3 := hF5 35 (by decide) 3
  have w24 : dt3 80 0 = dt 80 0 := hF5 80 (by decide) 0
  have w25 : dt3 80 1 = dt 80 1 := hF5 80 (by decide) 1
  have w26 : dt3 80 2 = dt 80 2 := hF5 80 (by decide) 2
  have w27 : dt3 80 3 = dt 80 3 := hF5 80 (by decide) 3
  have w28 : dt3 80 4 = dt 80 4 := hF5 80 (by decide) 4
  have w29 : dt3 80 5 = dt 80 5 := hF5 80 (by decide) 5
  have w30 : dt3 81 0 = dt 81 0 := hF5 81 (by decide) 0
  have w31 : dt3 81 1 = dt 81 1 := hF5 81 (by decide) 1
  have w32 : dt3 81 2 = dt 81 2 := hF5 81 (by decide) 2
  have w33 : dt3 81 3 = dt 81 3 := hF5 81 (by decide) 3
  have w34 : dt3 81 4 = dt 81 4 := hF5 81 (by decide) 4
  have w35 : dt3 81 5 = dt 81 5 := hF5 81 (by decide) 5
  have w36 : dt3 79 2 = dt 79 2 := hF5 79 (by decide) 2
  have w37 : dt3 79 12 = dt 79 12 := hF5 79 (by decide) 12
  have w38 : dt3 79 19 = dt 79 19 := hF5 79 (by decide) 19
  have w39 : dt3 79 21 = dt 79 21 := hF5 79 (by decide) 21
  rcases h2 with ⟨v_h2, rfl, h2r, h2⟩
  have M240 : MW (dt3 81) := MW_frk hM2 hF5 (by decide)
  have C41 : ∀ j : Nat, dt3 2 j = dt 2 j := fun j => (hF5 2 (by decide) j).trans ((fun _ => rfl) j)
  have C42 : ∀ j : Nat, dt3 3 j = dt 3 j := fun j => (hF5 3 (by decide) j).trans ((fun _ => rfl) j)
  have C43 : ∀ j : Nat, dt3 4 j = dt 4 j := fun j => (hF5 4 (by decide) j).trans ((fun _ => rfl) j)
  have C44 : ∀ j : Nat, dt3 5 j = dt 5 j := fun j => (hF5 5 (by decide) j).trans ((fun _ => rfl) j)
  have C45 : ∀ j : Nat, dt3 6 j = dt 6 j := fun j => (hF5 6 (by decide) j).trans ((fun _ => rfl) j)
  have C46 : ∀ j : Nat, dt3 8 j = dt 8 j := fun j => (hF5 8 (by decide) j).trans ((fun _ => rfl) j)
  have C47 : ∀ j : Nat, dt3 9 j = dt 9 j := fun j => (hF5 9 (by decide) j).trans ((fun _ => rfl) j)
  have C48 : ∀ j : Nat, dt3 11 j = dt 11 j := fun j => (hF5 11 (by decide) j).trans ((fun _ => rfl) j)
  have C49 : ∀ j : Nat, dt3 19 j = dt 19 j := fun j => (hF5 19 (by decide) j).trans ((fun _ => rfl) j)
  have C50 : ∀ j : Nat, dt3 20 j = dt 20 j := fun j => (hF5 20 (by decide) j).trans ((fun _ => rfl) j)
  have C51 : ∀ j : Nat, dt3 21 j = dt 21 j := fun j => (hF5 21 (by decide) j).trans ((fun _ => rfl) j)
  have C52 : ∀ j : Nat, dt3 22 j = dt 22 j := fun j => (hF5 22 (by decide) j).trans ((fun _ => rfl) j)
  have C53 : ∀ j : Nat, dt3 23 j = dt 23 j := fun j => (hF5 23 (by decide) j).trans ((fun _ => rfl) j)
  have C54 : ∀ j : Nat, dt3 25 j = dt 25 j := fun j => (hF5 25 (by decide) j).trans ((fun _ => rfl) j)
  have C55 : ∀ j : Nat, dt3 26 j = dt 26 j := fun j => (hF5 26 (by decide) j).trans ((fun _ => rfl) j)
  have C56 : ∀ j : Nat, dt3 28 j = dt 28 j := fun j => (hF5 28 (by decide) j).trans ((fun _ => rfl) j)
  have C57 : ∀ j : Nat, dt3 36 j = dt 36 j := fun j => (hF5 36 (by decide) j).trans ((fun _ => rfl) j)
  have C58 : ∀ j : Nat, dt3 80 j = dt 80 j := fun j => (hF5 80 (by decide) j).trans ((fun _ => rfl) j)
  have C59 : ∀ j : Nat, dt3 81 j = dt 81 j := fun j => (hF5 81 (by decide) j).trans ((fun _ => rfl) j)
  have C60 : ∀ j : Nat, dt3 85 j = dt 85 j := fun j => (hF5 85 (by decide) j).trans ((fun _ => rfl) j)
  refine go_toq PM267 (k := 6) (pc' := 936) (L' := [some (.inr (.inr (some 3000))), some (.inr (.inr (some 0))), some (.inr (.inr (some 79))), some (.inl i)]) (st' := [.inl (i + 1), .inr (.inr (some 3000)), .inr (.inr (some 79))]) (w' := (SH, dt3)) rfl ?_
  have r61 := i32_R (xs ((i + 1).toNat))
  refine go_smpq PM267 (L' := [some (.inr (.inr (some 3000))), some (.inr (.inr (some 0))), some (.inr (.inr (some 79))), some (.inl i)]) (st' := [.inl ((xs ((i + 1).toNat)).toInt), .inr (.inr (some 79))]) (w' := (SH, dt3)) rfl rfl (s_iald (n := L) (f := fun j => (xs j).toInt) (am_scr hLL) ⟨by omega, by omega⟩) ?_
  refine go_callq PM267 PM221 (Q' := _) rfl rfl rfl rfl (sp_X6_fewest L xs sio (d + 32) dt3 hI4 hM7  ((xs ((i + 1).toNat)).toInt) ⟨by omega, by omega⟩ ) ?_
  rintro _ _ ⟨dt63, rfl, hI64, hF65, h62⟩
  refine ⟨rfl, ?_⟩
  have hF66 : Fr [0, 1, 2, 3, 4, 5, 6, 7, 8, 9, 10, 11, 12, 13, 14, 15, 16, 17, 18, 19, 20, 21, 22, 23, 24, 25, 26, 27, 28, 29, 30, 31, 32, 33, 34, 35, 36, 37, 38, 39, 40, 41, 42, 43, 44, 45, 46, 47, 48, 49, 50, 51, 52, 53, 54, 55, 56, 57, 58, 59, 60, 61, 62, 63, 64, 65, 66, 67, 68, 69, 70, 71, 72, 73, 74, 75, 76, 77, 78, 79, 80, 81, 82, 83, 84, 85, 86, 87, 88, 89, 90, 91, 92, 93, 94, 95, 96, 97, 98, 99, 100, 101, 102, 103, 104] dt dt63 := Fr_tr hF6 hF65 (by decide)
  have hM67 : MW (dt63 80) := MW_fr hM7 hF65 (by decide)
  have w68 : dt63 1 0 = dt 1 0 := (hF65 1 (by decide) 0).trans w8
  have w69 : dt63 7 3 = dt 7 3 := (hF65 7 (by decide) 3).trans w9
  have w70 : dt63 10 3 = dt 10 3 := (hF65 10 (by decide) 3).trans w10
  have w71 : dt63 12 3 = dt 12 3 := (hF65 12 (by decide) 3).trans w11
  have w72 : dt63 14 3 = dt 14 3 := (hF65 14 (by decide) 3).trans w12
  have w73 : dt63 16 3 = dt 16 3 := (hF65 16 (by decide) 3).trans w13
  have w74 : dt63 18 0 = dt 18 0 := (hF65 18 (by decide) 0).trans w14
  have w75 : dt63 24 3 = dt 24 3 := (hF65 24 (by decide) 3).trans w15
  have w76 : dt63 27 3 = dt 27 3 := (hF65 27 (by decide) 3).trans w16
  have w77 : dt63 29 3 = dt 29 3 := (hF65 29 (by decide) 3).trans w17
  have w78 : dt63 31 3 = dt 31 3 := (hF65 31 (by decide) 3).trans w18
  have w79 : dt63 33 3 = dt 33 3 := (hF65 33 (by decide) 3).trans w19
  have w80 : dt63 0 2 = dt 0 2 := (hF65 0 (by decide) 2).trans w20
  have w81 : dt63 35 1 = dt 35 1 := (hF65 35 (by decide) 1).trans w21
  have w82 : dt63 35 2 = dt 35 2 := (hF65 35 (by decide) 2).trans w22
  have w83 : dt63 35 3 = dt 35 3 := (hF65 35 (by decide) 3).trans w23
  have w84 : dt63 80 0 = dt 80 0 := (hF65 80 (by decide) 0).trans w24
  have w85 : dt63 80 1 = dt 80 1 := (hF65 80 (by decide) 1).trans w25
  have w86 : dt63 80 2 = dt 80 2 := (hF65 80 (by decide) 2).trans w26
  have w87 : dt63 80 3 = dt 80 3 := (hF65 80 (by decide) 3).trans w27
  have w88 : dt63 80 4 = dt 80 4 := (hF65 80 (by decide) 4).trans w28
  have w89 : dt63 80 5 = dt 80 5 := (hF65 80 (by decide) 5).trans w29
  have w90 : dt63 81 0 = dt 81 0 := (hF65 81 (by decide) 0).trans w30
  have w91 : dt63 81 1 = dt 81 1 := (hF65 81 (by decide) 1).trans w31
  have w92 : dt63 81 2 = dt 81 2 := (hF65 81 (by decide) 2).trans w32
  have w93 : dt63 81 3 = dt 81 3 := (hF65 81 (by decide) 3).trans w33
  have w94 : dt63 81 4 = dt 81 4 := (hF65 81 (by decide) 4).trans w34
  have w95 : dt63 81 5 = dt 81 5 := (hF65 81 (by decide) 5).trans w35
  have w96 : dt63 79 2 = dt 79 2 := (hF65 79 (by decide) 2).trans w36
  have w97 : dt63 79 12 = dt 79 12 := (hF65 79 (by decide) 12).trans w37
  have w98 : dt63 79 19 = dt 79 19 := (hF65 79 (by decide) 19).trans w38
  have w99 : dt63 79 21 = dt 79 21 := (hF65 79 (by decide) 21).trans w39
  rcases h62 with ⟨v_h62, rfl, h62r, h62⟩
  have M2100 : MW (dt63 81) := MW_frk M240 hF65 (by decide)
  have C101 : ∀ j : Nat, dt63 2 j = dt 2 j := fun j => (hF65 2 (by decide) j).trans (C41 j)
  have C102 : ∀ j : Nat, dt63 3 j = dt 3 j := fun j => (hF65 3 (by decide) j).trans (C42 j)
  have C103 : ∀ j : Nat, dt63 4 j = dt 4 j := fun j => (hF65 4 (by decide) j).trans (C43 j)
  have C104 : ∀ j : Nat, dt63 5 j = dt 5 j := fun j => (hF65 5 (by decide) j).trans (C44 j)
  have C105 : ∀ j : Nat, dt63 6 j = dt 6 j := fun j => (hF65 6 (by decide) j).trans (C45 j)
  have C106 : ∀ j : Nat, dt63 8 j = dt 8 j := fun j => (hF65 8 (by decide) j).trans (C46 j)
  have C107 : ∀ j : Nat, dt63 9 j = dt 9 j := fun j => (hF65 9 (by decide) j).trans (C47 j)
  have C108 : ∀ j : Nat, dt63 11 j = dt 11 j := fun j => (hF65 11 (by decide) j).trans (C48 j)
  have C109 : ∀ j : Nat, dt63 19 j = dt 19 j := fun j => (hF65 19 (by decide) j).trans (C49 j)
  have C110 : ∀ j : Nat, dt63 20 j = dt 20 j := fun j => (hF65 20 (by decide) j).trans (C50 j)
  have C111 : ∀ j : Nat, dt63 21 j = dt 21 j := fun j => (hF65 21 (by decide) j).trans (C51 j)
  have C112 : ∀ j : Nat, dt63 22 j = dt 22 j := fun j => (hF65 22 (by decide) j).trans (C52 j)
  have C113 : ∀ j : Nat, dt63 23 j = dt 23 j := fun j => (hF65 23 (by decide) j).trans (C53 j)
  have C114 : ∀ j : Nat, dt63 25 j = dt 25 j := fun j => (hF65 25 (by decide) j).trans (C54 j)
  have C115 : ∀ j : Nat, dt63 26 j = dt 26 j := fun j => (hF65 26 (by decide) j).trans (C55 j)
  have C116 : ∀ j : Nat, dt63 28 j = dt 28 j := fun j => (hF65 28 (by decide) j).trans (C56 j)
  have C117 : ∀ j : Nat, dt63 36 j = dt 36 j := fun j => (hF65 36 (by decide) j).trans (C57 j)
  have C118 : ∀ j : Nat, dt63 80 j = dt 80 j := fun j => (hF65 80 (by decide) j).trans (C58 j)
  have C119 : ∀ j : Nat, dt63 81 j = dt 81 j := fun j => (hF65 81 (by decide) j).trans (C59 j)
  have C120 : ∀ j : Nat, dt63 85 j = dt 85 j := fun j => (hF65 85 (by decide) j).trans (C60 j)
  refine go_toq PM267 (k := 2) (pc' := 1435) (L' := [some (.inr (.inr (some 3000))), some (.inr (.inr (some 0))), some (.inr (.inr (some 79))), some (.inl i)]) (st' := []) (w' := (SH, dt63)) rfl ?_
  exact K dt63 hI64 hM67 M2100 (w68.trans (hk0.trans w84.symm)) (w69.trans (hk1.trans w85.symm)) (w70.trans (hk2.trans w86.symm)) (w71.trans (hk3.trans w87.symm)) (w72.trans (hk4.trans w88.symm)) (w73.trans (hk5.trans w89.symm)) (w74.trans (hk6.trans w90.symm)) (w75.trans (hk7.trans w91.symm)) (w76.trans (hk8.trans w92.symm)) (w77.trans (hk9.trans w93.symm)) (w78.trans (hk10.trans w94.symm)) (w79.trans (hk11.trans w95.symm)) (w80.trans (hk12.trans w96.symm)) (w81.trans (hk13.trans w97.symm)) (w82.trans (hk14.trans w98.symm)) (w83.trans (hk15.trans w99.symm)) (by first | exact hI | exact TPL_k hd0 C117 C120 (by omega) | (exfalso; omega)) (by first | exact hI | exact SCL_k hd1 hM (fun j _ => C101 j) (fun j _ => C102 j) (fun j _ _ => C118 j) | (exfalso; omega)) (by first | exact hI | exact SCL_k hd2 hM2 (fun j _ => C109 j) (fun j _ => C110 j) (fun j _ _ => C119 j) | (exfalso; omega)) (by first | exact hI | exact QRL_k hd3 hM (fun j _ => C106 j) (C118 1) (fun j _ _ => C118 j) | (exfalso; omega)) (by first | exact hI | exact QRL_k hd4 hM2 (fun j _ => C114 j) (C119 1) (fun j _ _ => C119 j) | (exfalso; omega)) (by first | exact hI | exact SDL_k hd5 hM (fun j _ => C107 j) (C118 1) (fun j _ _ => C118 j) (fun j _ _ => C118 j) | (exfalso; omega)) (by first | exact hI | exact SDL_k hd6 hM2 (fun j _ => C115 j) (C119 1) (fun j _ _ => C119 j) (fun j _ _ => C119 j) | (exfalso; omega)) (by first | exact hI | exact LWL_k hd7 hM (fun j _ => C103 j) (fun j _ => C104 j) (fun j _ => C105 j) (fun j _ _ => C118 j) | (exfalso; omega)) (by first | exact hI | exact LWL_k hd8 hM2 (fun j _ => C111 j) (fun j _ => C112 j) (fun j _ => C113 j) (fun j _ _ => C119 j) | (exfalso; omega)) (by first | exact hI | exact CHL_k hd9 hM (fun j _ => C108 j) (by omega) (fun j _ _ => C118 j) | (exfalso; omega)) (by first | exact hI | exact CHL_k hd10 hM2 (fun j _ => C116 j) (by omega) (fun j _ _ => C119 j) | (exfalso; omega))
set_option maxRecDepth 20000 in
set_option maxHeartbeats 8000000 in
theorem sp_case18 (L : Nat) (xs : Nat → Int32) (sio : Option Nat) (d : Nat) (Q : Option AV → am_W → Prop) (hLL : L ≤ 3072) (i : Int) (hi : 0 ≤ i ∧ i ≤ 3066) (hil : i ≤ (L : Int) - 6) (dt : Nat → Nat → Int) (hI : InvC dt) (hM : MW (dt 80)) (hM2 : MW (dt 81)) (hk0 : dt 1 0 = dt 80 0) (hk1 : dt 7 3 = dt 80 1) (hk2 : dt 10 3 = dt 80 2) (hk3 : dt 12 3 = dt 80 3) (hk4 : dt 14 3 = dt 80 4) (hk5 : dt 16 3 = dt 80 5) (hk6 : dt 18 0 = dt 81 0) (hk7 : dt 24 3 = dt 81 1) (hk8 : dt 27 3 = dt 81 2) (hk9 : dt 29 3 = dt 81 3) (hk10 : dt 31 3 = dt 81 4) (hk11 : dt 33 3 = dt 81 5) (hk12 : dt 0 2 = dt 79 2) (hk13 : dt 35 1 = dt 79 12) (hk14 : dt 35 2 = dt 79 19) (hk15 : dt 35 3 = dt 79 21) (hd0 : TPL (dt 36) (dt 85) (dt 35 1)) (hd1 : SCL (dt 2) (dt 3) (dt 80)) (hd2 : SCL (dt 19) (dt 20) (dt 81)) (hd3 : QRL (dt 8) (dt 80)) (hd4 : QRL (dt 25) (dt 81)) (hd5 : SDL (dt 9) (dt 80)) (hd6 : SDL (dt 26) (dt 81)) (hd7 : LWL (dt 4) (dt 5) (dt 6) (dt 80)) (hd8 : LWL (dt 21) (dt 22) (dt 23) (dt 81)) (hd9 : CHL (dt 11) (dt 80)) (hd10 : CHL (dt 28) (dt 81)) (K : ∀ (dt : Nat → Nat → Int) (hI : InvC dt) (hM : MW (dt 80)) (hM2 : MW (dt 81)) (hk0 : dt 1 0 = dt 80 0) (hk1 : dt 7 3 = dt 80 1) (hk2 : dt 10 3 = dt 80 2) (hk3 : dt 12 3 = dt 80 3) (hk4 : dt 14 3 = dt 80 4) (hk5 : dt 16 3 = dt 80 5) (hk6 : dt 18 0 = dt 81 0) (hk7 : dt 24 3 = dt 81 1) (hk8 : dt 27 3 = dt 81 2) (hk9 : dt 29 3 = dt 81 3) (hk10 : dt 31 3 = dt 81 4) (hk11 : dt 33 3 = dt 81 5) (hk12 : dt 0 2 = dt 79 2) (hk13 : dt 35 1 = dt 79 12) (hk14 : dt 35 2 = dt 79 19) (hk15 : dt 35 3 = dt 79 21) (hd0 : TPL (dt 36) (dt 85) (dt 35 1)) (hd1 : SCL (dt 2) (dt 3) (dt 80)) (hd2 : SCL (dt 19) (dt 20) (dt 81)) (hd3 : QRL (dt 8) (dt 80)) (hd4 : QRL (dt 25) (dt 81)) (hd5 : SDL (dt 9) (dt 80)) (hd6 : SDL (dt 26) (dt 81)) (hd7 : LWL (dt 4) (dt 5) (dt 6) (dt 80)) (hd8 : LWL (dt 21) (dt 22) (dt 23) (dt 81)) (hd9 : CHL (dt 11) (dt 80)) (hd10 : CHL (dt 28) (dt 81)), GO (am_XX L xs sio) (d + 39) 267 1435 [some (.inr (.inr (some 3000))), some (.inr (.inr (some 0))), some (.inr (.inr (some 79))), some (.inl i)] [] (SH, dt) Q) : GO (am_XX L xs sio) (d + 39) 267 944 [some (.inr (.inr (some 3000))), some (.inr (.inr (some 0))), some (.inr (.inr (some 79))), some (.inl i)] [] (SH, dt) Q := by
  have hF : Fr [0, 1, 2, 3, 4, 5, 6, 7, 8, 9, 10, 11, 12, 13, 14, 15, 16, 17, 18, 19, 20, 21, 22, 23, 24, 25, 26, 27, 28, 29, 30, 31, 32, 33, 34, 35, 36, 37, 38, 39, 40, 41, 42, 43, 44, 45, 46, 47, 48, 49, 50, 51, 52, 53, 54, 55, 56, 57, 58, 59, 60, 61, 62, 63, 64, 65, 66, 67, 68, 69, 70, 71, 72, 73, 74, 75, 76, 77, 78, 79, 80, 81, 82, 83, 84, 85, 86, 87, 88, 89, 90, 91, 92, 93, 94, 95, 96, 97, 98, 99, 100, 101, 102, 103, 104] dt dt := Fr_refl
  have hqo := QOC_R hd3 hM hk1
  have hb1_ := hM.1.1
  have hb2_ := hM.1.2.1
  have hb3_ := hM.1.2.2.1
  have halk : ALK dt (dt 80) := ⟨hd7, hd3, hd5, hd9, hk1, hk2⟩
  refine go_toq PM267 (k := 5) (pc' := 949) (L' := [some (.inr (.inr (some 3000))), some (.inr (.inr (some 0))), some (.inr (.inr (some 79))), some (.inl i)]) (st' := [.inl (i + 1), .inr (.inr (some 3000)), .inr (.inr (some 0))]) (w' := (SH, dt)) rfl ?_
  have r1 := i32_R (xs ((i + 1).toNat))
  refine go_smpq PM267 (L' := [some (.inr (.inr (some 3000))), some (.inr (.inr (some 0))), some (.inr (.inr (some 79))), some (.inl i)]) (st' := [.inl ((xs ((i + 1).toNat)).toInt), .inr (.inr (some 0))]) (w' := (SH, dt)) rfl rfl (s_iald (n := L) (f := fun j => (xs j).toInt) (am_scr hLL) ⟨by omega, by omega⟩) ?_
  refine go_toq PM267 (k := 4) (pc' := 954) (L' := [some (.inr (.inr (some 3000))), some (.inr (.inr (some 0))), some (.inr (.inr (some 79))), some (.inl i)]) (st' := [.inl (i + 2), .inr (.inr (some 3000)), .inl ((xs ((i + 1).toNat)).toInt), .inr (.inr (some 0))]) (w' := (SH, dt)) rfl ?_
  have r2 := i32_R (xs ((i + 2).toNat))
  refine go_smpq PM267 (L' := [some (.inr (.inr (some 3000))), some (.inr (.inr (some 0))), some (.inr (.inr (some 79))), some (.inl i)]) (st' := [.inl ((xs ((i + 2).toNat)).toInt), .inl ((xs ((i + 1).toNat)).toInt), .inr (.inr (some 0))]) (w' := (SH, dt)) rfl rfl (s_iald (n := L) (f := fun j => (xs j).toInt) (am_scr hLL) ⟨by omega, by omega⟩) ?_
  refine go_toq PM267 (k := 4) (pc' := 959) (L' := [some (.inr (.inr (some 3000))), some (.inr (.inr (some 0))), some (.inr (.inr (some 79))), some (.inl i)]) (st' := [.inl (i + 3), .inr (.inr (some 3000)), .inl ((xs ((i + 2).toNat)).toInt), .inl ((xs ((i + 1).toNat)).toInt), .inr (.inr (some 0))]) (w' := (SH, dt)) rfl ?_
  have r3 := i32_R (xs ((i + 3).toNat))
  refine go_smpq PM267 (L' := [some (.inr (.inr (some 3000))), some (.inr (.inr (some 0))), some (.inr (.inr (some 79))), some (.inl i)]) (st' := [.inl ((xs ((i + 3).toNat)).toInt), .inl ((xs ((i + 2).toNat)).toInt), .inl ((xs ((i + 1).toNat)).toInt), .inr (.inr (some 0))]) (w' := (SH, dt)) rfl rfl (s_iald (n := L) (f := fun j => (xs j).toInt) (am_scr hLL) ⟨by omega, by omega⟩) ?_
  refine go_callq PM267 PM85 (Q' := _) rfl rfl rfl rfl (sp_X5_make L xs sio (d + 32) dt hI  ((xs ((i + 1).toNat)).toInt) ⟨by omega, by omega⟩ ((xs ((i + 2).toNat)).toInt) ⟨by omega, by omega⟩ ((xs ((i + 3).toNat)).toInt) ⟨by omega, by omega⟩ ) ?_
  rintro _ _ ⟨dt5, rfl, hI6, hF7, h4⟩
  refine ⟨rfl, ?_⟩
  have hF8 : Fr [0, 1, 2, 3, 4, 5, 6, 7, 8, 9, 10, 11, 12, 13, 14, 15, 16, 17, 18, 19, 20, 21, 22, 23, 24, 25, 26, 27, 28, 29, 30, 31, 32, 33, 34, 35, 36, 37, 38, 39, 40, 41, 42, 43, 44, 45, 46, 47, 48, 49, 50, 51, 52, 53, 54, 55, 56, 57, 58, 59, 60, 61, 62, 63, 64, 65, 66, 67, 68, 69, 70, 71, 72, 73, 74, 75, 76, 77, 78, 79, 80, 81, 82, 83, 84, 85, 86, 87, 88, 89, 90, 91, 92, 93, 94, 95, 96, 97, 98, 99, 100, 101, 102, 103, 104] dt dt5 := Fr_tr hF hF7 (by decide)
  have hM9 : MW (dt5 80) := MW_fr hM hF7 (by decide)
  have w10 : dt5 1 0 = dt 1 0 := hF7 1 (by decide) 0
  have w11 : dt5 7 3 = dt 7 3 := hF7 7 (by decide) 3
  have w12 : dt5 10 3 = dt 10 3 := hF7 10 (by decide) 3
  have w13 : dt5 12 3 = dt 12 3 := hF7 12 (by decide) 3
  have w14 : dt5 14 3 = dt 14 3 := hF7 14 (by decide) 3
  have w15 : dt5 16 3 = dt 16 3 := hF7 16 (by decide) 3
  have w16 : dt5 18 0 = dt 18 0 := hF7 18 (by decide) 0
  have w17 : dt5 24 3 = dt 24 3 := hF7 24 (by decide) 3
  have w18 : dt5 27 3 = dt 27 3 := hF7 27 (by decide) 3
  have w19 : dt5 29 3 = dt 29 3 := hF7 29 (by decide) 3
  have w20 : dt5 31 3 = dt 31 3 := hF7 31 (by decide) 3
  have w21 : dt5 33 3 = dt 33 3 := hF7 33 (by decide) 3
  have w22 : dt5 0 2 = dt 0 2 := hF7 0 (by decide) 2
  have w23 : dt5 35 1 = dt 35 1 := hF7 35 (by decide) 1
  have w24 : dt5 35 2 = dt 35 2 := hF7 35 (by decide) 2
  have w25 : dt5 35 3 = dt 35 3 := hF7 35 (by decide) 3
  have w26 : dt5 80 0 = dt 80 0 := hF7 80 (by decide) 0
  have w27 : dt5 80 1 = dt 80 1 := hF7 80 (by decide) 1
  have w28 : dt5 80 2 = dt 80 2 := hF7 80 (by decide) 2
  have w29 : dt5 80 3 = dt 80 3 := hF7 80 (by decide) 3
  have w30 : dt5 80 4 = dt 80 4 := hF7 80 (by decide) 4
  have w31 : dt5 80 5 = dt 80 5 := hF7 80 (by decide) 5
  have w32 : dt5 81 0 = dt 81 0 := hF7 81 (by decide) 0
  have w33 : dt5 81 1 = dt 81 1 := hF7 81 (by decide) 1
  have w34 : dt5 81 2 = dt 81 2 := hF7 81 (by decide) 2
  have w35 : dt5 81 3 = dt 81 3 := hF7 81 (by decide) 3
  have w36 : dt5 81 4 = dt 81 4 := hF7 81 (by decide) 4
  have w37 : dt5 81 5 = dt 81 5 := hF7 81 (by decide) 5
  have w38 : dt5 79 2 = dt 79 2 := hF7 79 (by decide) 2
  have w39 : dt5 79 12 = dt 79 12 := hF7 79 (by decide) 12
  have w40 : dt5 79 19 = dt 79 19 := hF7 79 (by decide) 19
  have w41 : dt5 79 21 = dt 79 21 := hF7 79 (by decide) 21
  rcases h4 with ⟨v_h4, rfl, h4r, h4⟩
  have M242 : MW (dt5 81) := MW_frk hM2 hF7 (by decide)
  have C43 : ∀ j : Nat, dt5 2 j = dt 2 j := fun j => (hF7 2 (by decide) j).trans ((fun _ => rfl) j)
  have C44 : ∀ j : Nat, dt5 3 j = dt 3 j := fun j => (hF7 3 (by decide) j).trans ((fun _ => rfl) j)
  have C45 : ∀ j : Nat, dt5 4 j = dt 4 j := fun j => (hF7 4 (by decide) j).trans ((fun _ => rfl) j)
  have C46 : ∀ j : Nat, dt5 5 j = dt 5 j := fun j => (hF7 5 (by decide) j).trans ((fun _ => rfl) j)
  have C47 : ∀ j : Nat, dt5 6 j = dt 6 j := fun j => (hF7 6 (by decide) j).trans ((fun _ => rfl) j)
  have C48 : ∀ j : Nat, dt5 8 j = dt 8 j := fun j => (hF7 8 (by decide) j).trans ((fun _ => rfl) j)
  have C49 : ∀ j : Nat, dt5 9 j = dt 9 j := fun j => (hF7 9 (by decide) j).trans ((fun _ => rfl) j)
  have C50 : ∀ j : Nat, dt5 11 j = dt 11 j := fun j => (hF7 11 (by decide) j).trans ((fun _ => rfl) j)
  have C51 : ∀ j : Nat, dt5 19 j = dt 19 j := fun j => (hF7 19 (by decide) j).trans ((fun _ => rfl) j)
  have C52 : ∀ j : Nat, dt5 20 j = dt 20 j := fun j => (hF7 20 (by decide) j).trans ((fun _ => rfl) j)
  have C53 : ∀ j : Nat, dt5 21 j = dt 21 j := fun j => (hF7 21 (by decide) j).trans ((fun _ => rfl) j)
  have C54 : ∀ j : Nat, dt5 22 j = dt 22 j := fun j => (hF7 22 (by decide) j).trans ((fun _ => rfl) j)
  have C55 : ∀ j : Nat, dt5 23 j = dt 23 j := fun j => (hF7 23 (by decide) j).trans ((fun _ => rfl) j)
  have C56 : ∀ j : Nat, dt5 25 j = dt 25 j := fun j => (hF7 25 (by decide) j).trans ((fun _ => rfl) j)
  have C57 : ∀ j : Nat, dt5 26 j = dt 26 j := fun j => (hF7 26 (by decide) j).trans ((fun _ => rfl) j)
  have C58 : ∀ j : Nat, dt5 28 j = dt 28 j := fun j => (hF7 28 (by decide) j).trans ((fun _ => rfl) j)
  have C59 : ∀ j : Nat, dt5 36 j = dt 36 j := fun j => (hF7 36 (by decide) j).trans ((fun _ => rfl) j)
  have C60 : ∀ j : Nat, dt5 80 j = dt 80 j := fun j => (hF7 80 (by decide) j).trans ((fun _ => rfl) j)
  have C61 : ∀ j : Nat, dt5 81 j = dt 81 j := fun j => (hF7 81 (by decide) j).trans ((fun _ => rfl) j)
  have C62 : ∀ j : Nat, dt5 85 j = dt 85 j := fun j => (hF7 85 (by decide) j).trans ((fun _ => rfl) j)
  refine go_toq PM267 (k := 6) (pc' := 969) (L' := [some (.inr (.inr (some 3000))), some (.inr (.inr (some 0))), some (.inr (.inr (some 79))), some (.inl i)]) (st' := [.inl (i + 1), .inr (.inr (some 3000)), .inr (.inr (some 79))]) (w' := (SH, dt5)) rfl ?_
  have r63 := i32_R (xs ((i + 1).toNat))
  refine go_smpq PM267 (L' := [some (.inr (.inr (some 3000))), some (.inr (.inr (some 0))), some (.inr (.inr (some 79))), some (.inl i)]) (st' := [.inl ((xs ((i + 1).toNat)).toInt), .inr (.inr (some 79))]) (w' := (SH, dt5)) rfl rfl (s_iald (n := L) (f := fun j => (xs j).toInt) (am_scr hLL) ⟨by omega, by omega⟩) ?_
  refine go_toq PM267 (k := 4) (pc' := 974) (L' := [some (.inr (.inr (some 3000))), some (.inr (.inr (some 0))), some (.inr (.inr (some 79))), some (.inl i)]) (st' := [.inl (i + 2), .inr (.inr (some 3000)), .inl ((xs ((i + 1).toNat)).toInt), .inr (.inr (some 79))]) (w' := (SH, dt5)) rfl ?_
  have r64 := i32_R (xs ((i + 2).toNat))
  refine go_smpq PM267 (L' := [some (.inr (.inr (some 3000))), some (.inr (.inr (some 0))), some (.inr (.inr (some 79))), some (.inl i)]) (st' := [.inl ((xs ((i + 2).toNat)).toInt), .inl ((xs ((i + 1).toNat)).toInt), .inr (.inr (some 79))]) (w' := (SH, dt5)) rfl rfl (s_iald (n := L) (f := fun j => (xs j).toInt) (am_scr hLL) ⟨by omega, by omega⟩) ?_
  refine go_toq PM267 (k := 4) (pc' := 979) (L' := [some (.inr (.inr (some 3000))), some (.inr (.inr (some 0))), some (.inr (.inr (some 79))), some (.inl i)]) (st' := [.inl (i + 3), .inr (.inr (some 3000)), .inl ((xs ((i + 2).toNat)).toInt), .inl ((xs ((i + 1).toNat)).toInt), .inr (.inr (some 79))]) (w' := (SH, dt5)) rfl ?_
  have r65 := i32_R (xs ((i + 3).toNat))
  refine go_smpq PM267 (L' := [some (.inr (.inr (some 3000))), some (.inr (.inr (some 0))), some (.inr (.inr (some 79))), some (.inl i)]) (st' := [.inl ((xs ((i + 3).toNat)).toInt), .inl ((xs ((i + 2).toNat)).toInt), .inl ((xs ((i + 1).toNat)).toInt), .inr (.inr (some 79))]) (w' := (SH, dt5)) rfl rfl (s_iald (n := L) (f := fun j => (xs j).toInt) (am_scr hLL) ⟨by omega, by omega⟩) ?_
  refine go_callq PM267 PM223 (Q' := _) rfl rfl rfl rfl (sp_X6_make L xs sio (d + 32) dt5 hI6 hM9  ((xs ((i + 1).toNat)).toInt) ⟨by omega, by omega⟩ ((xs ((i + 2).toNat)).toInt) ⟨by omega, by omega⟩ ((xs ((i + 3).toNat)).toInt) ⟨by omega, by omega⟩ ) ?_
  rintro _ _ ⟨dt67, rfl, hI68, hF69, h66⟩
  refine ⟨rfl, ?_⟩
  have hF70 : Fr [0, 1, 2, 3, 4, 5, 6, 7, 8, 9, 10, 11, 12, 13, 14, 15, 16, 17, 18, 19, 20, 21, 22, 23, 24, 25, 26, 27, 28, 29, 30, 31, 32, 33, 34, 35, 36, 37, 38, 39, 40, 41, 42, 43, 44, 45, 46, 47, 48, 49, 50, 51, 52, 53, 54, 55, 56, 57, 58, 59, 60, 61, 62, 63, 64, 65, 66, 67, 68, 69, 70, 71, 72, 73, 74, 75, 76, 77, 78, 79, 80, 81, 82, 83, 84, 85, 86, 87, 88, 89, 90, 91, 92, 93, 94, 95, 96, 97, 98, 99, 100, 101, 102, 103, 104] dt dt67 := Fr_tr hF8 hF69 (by decide)
  have hM71 : MW (dt67 80) := MW_fr hM9 hF69 (by decide)
  have w72 : dt67 1 0 = dt 1 0 := (hF69 1 (by decide) 0).trans w10
  have w73 : dt67 7 3 = dt 7 3 := (hF69 7 (by decide) 3).trans w11
  have w74 : dt67 10 3 = dt 10 3 := (hF69 10 (by decide) 3).trans w12
  have w75 : dt67 12 3 = dt 12 3 := (hF69 12 (by decide) 3).trans w13
  have w76 : dt67 14 3 = dt 14 3 := (hF69 14 (by decide) 3).trans w14
  have w77 : dt67 16 3 = dt 16 3 := (hF69 16 (by decide) 3).trans w15
  have w78 : dt67 18 0 = dt 18 0 := (hF69 18 (by decide) 0).trans w16
  have w79 : dt67 24 3 = dt 24 3 := (hF69 24 (by decide) 3).trans w17
  have w80 : dt67 27 3 = dt 27 3 := (hF69 27 (by decide) 3).trans w18
  have w81 : dt67 29 3 = dt 29 3 := (hF69 29 (by decide) 3).trans w19
  have w82 : dt67 31 3 = dt 31 3 := (hF69 31 (by decide) 3).trans w20
  have w83 : dt67 33 3 = dt 33 3 := (hF69 33 (by decide) 3).trans w21
  have w84 : dt67 0 2 = dt 0 2 := (hF69 0 (by decide) 2).trans w22
  have w85 : dt67 35 1 = dt 35 1 := (hF69 35 (by decide) 1).trans w23
  have w86 : dt67 35 2 = dt 35 2 := (hF69 35 (by decide) 2).trans w24
  have w87 : dt67 35 3 = dt 35 3 := (hF69 35 (by decide) 3).trans w25
  have w88 : dt67 80 0 = dt 80 0 := (hF69 80 (by decide) 0).trans w26
  have w89 : dt67 80 1 = dt 80 1 := (hF69 80 (by decide) 1).trans w27
  have w90 : dt67 80 2 = dt 80 2 := (hF69 80 (by decide) 2).trans w28
  have w91 : dt67 80 3 = dt 80 3 := (hF69 80 (by decide) 3).trans w29
  have w92 : dt67 80 4 = dt 80 4 := (hF69 80 (by decide) 4).trans w30
  have w93 : dt67 80 5 = dt 80 5 := (hF69 80 (by decide) 5).trans w31
  have w94 : dt67 81 0 = dt 81 0 := (hF69 81 (by decide) 0).trans w32
  have w95 : dt67 81 1 = dt 81 1 := (hF69 81 (by decide) 1).trans w33
  have w96 : dt67 81 2 = dt 81 2 := (hF69 81 (by decide) 2).trans w34
  have w97 : dt67 81 3 = dt 81 3 := (hF69 81 (by decide) 3).trans w35
  have w98 : dt67 81 4 = dt 81 4 := (hF69 81 (by decide) 4).trans w36
  have w99 : dt67 81 5 = dt 81 5 := (hF69 81 (by decide) 5).trans w37
  have w100 : dt67 79 2 = dt 79 2 := (hF69 79 (by decide) 2).trans w38
  have w101 : dt67 79 12 = dt 79 12 := (hF69 79 (by decide) 12).trans w39
  have w102 : dt67 79 19 = dt 79 19 := (hF69 79 (by decide) 19).trans w40
  have w103 : dt67 79 21 = dt 79 21 := (hF69 79 (by decide) 21).trans w41
  rcases h66 with ⟨v_h66, rfl, h66r, h66⟩
  have M2104 : MW (dt67 81) := MW_frk M242 hF69 (by decide)
  have C105 : ∀ j : Nat, dt67 2 j = dt 2 j := fun j => (hF69 2 (by decide) j).trans (C43 j)
  have C106 : ∀ j : Nat, dt67 3 j = dt 3 j := fun j => (hF69 3 (by decide) j).trans (C44 j)
  have C107 : ∀ j : Nat, dt67 4 j = dt 4 j := fun j => (hF69 4 (by decide) j).trans (C45 j)
  have C108 : ∀ j : Nat, dt67 5 j = dt 5 j := fun j => (hF69 5 (by decide) j).trans (C46 j)
  have C109 : ∀ j : Nat, dt67 6 j = dt 6 j := fun j => (hF69 6 (by decide) j).trans (C47 j)
  have C110 : ∀ j : Nat, dt67 8 j = dt 8 j := fun j => (hF69 8 (by decide) j).trans (C48 j)
  have C111 : ∀ j : Nat, dt67 9 j = dt 9 j := fun j => (hF69 9 (by decide) j).trans (C49 j)
  have C112 : ∀ j : Nat, dt67 11 j = dt 11 j := fun j => (hF69 11 (by decide) j).trans (C50 j)
  have C113 : ∀ j : Nat, dt67 19 j = dt 19 j := fun j => (hF69 19 (by decide) j).trans (C51 j)
  have C114 : ∀ j : Nat, dt67 20 j = dt 20 j := fun j => (hF69 20 (by decide) j).trans (C52 j)
  have C115 : ∀ j : Nat, dt67 21 j = dt 21 j := fun j => (hF69 21 (by decide) j).trans (C53 j)
  have C116 : ∀ j : Nat, dt67 22 j = dt 22 j := fun j => (hF69 22 (by decide) j).trans (C54 j)
  have C117 : ∀ j : Nat, dt67 23 j = dt 23 j := fun j => (hF69 23 (by decide) j).trans (C55 j)
  have C118 : ∀ j : Nat, dt67 25 j = dt 25 j := fun j => (hF69 25 (by decide) j).trans (C56 j)
  have C119 : ∀ j : Nat, dt67 26 j = dt 26 j := fun j => (hF69 26 (by decide) j).trans (C57 j)
  have C120 : ∀ j : Nat, dt67 28 j = dt 28 j := fun j => (hF69 28 (by decide) j).trans (C58 j)
  have C121 : ∀ j : Nat, dt67 36 j = dt 36 j := fun j => (hF69 36 (by decide) j).trans (C59 j)
  have C122 : ∀ j : Nat, dt67 80 j = dt 80 j := fun j => (hF69 80 (by decide) j).trans (C60 j)
  have C123 : ∀ j : Nat, dt67 81 j = dt 81 j := fun j => (hF69 81 (by decide) j).trans (C61 j)
  have C124 : ∀ j : Nat, dt67 85 j = dt 85 j := fun j => (hF69 85 (by decide) j).trans (C62 j)
  refine go_toq PM267 (k := 2) (pc' := 1435) (L' := [some (.inr (.inr (some 3000))), some (.inr (.inr (some 0))), some (.inr (.inr (some 79))), some (.inl i)]) (st' := []) (w' := (SH, dt67)) rfl ?_
  exact K dt67 hI68 hM71 M2104 (w72.trans (hk0.trans w88.symm)) (w73.trans (hk1.trans w89.symm)) (w74.trans (hk2.trans w90.symm)) (w75.trans (hk3.trans w91.symm)) (w76.trans (hk4.trans w92.symm)) (w77.trans (hk5.trans w93.symm)) (w78.trans (hk6.trans w94.symm)) (w79.trans (hk7.trans w95.symm)) (w80.trans (hk8.trans w96.symm)) (w81.trans (hk9.trans w97.symm)) (w82.trans (hk10.trans w98.symm)) (w83.trans (hk11.trans w99.symm)) (w84.trans (hk12.trans w100.symm)) (w85.trans (hk13.trans w101.symm)) (w86.trans (hk14.trans w102.symm)) (w87.trans (hk15.trans w103.symm)) (by first | exact hI | exact TPL_k hd0 C121 C124 (by omega) | (exfalso; omega)) (by first | exact hI | exact SCL_k hd1 hM (fun j _ => C105 j) (fun j _ => C106 j) (fun j _ _ => C122 j) | (exfalso; omega)) (by first | exact hI | exact SCL_k hd2 hM2 (fun j _ => C113 j) (fun j _ => C114 j) (fun j _ _ => C123 j) | (exfalso; omega)) (by first | exact hI | exact QRL_k hd3 hM (fun j _ => C110 j) (C122 1) (fun j _ _ => C122 j) | (exfalso; omega)) (by first | exact hI | exact QRL_k hd4 hM2 (fun j _ => C118 j) (C123 1) (fun j _ _ => C123 j) | (exfalso; omega)) (by first | exact hI | exact SDL_k hd5 hM (fun j _ => C111 j) (C122 1) (fun j _ _ => C122 j) (fun j _ _ => C122 j) | (exfalso; omega)) (by first | exact hI | exact SDL_k hd6 hM2 (fun j _ => C119 j) (C123 1) (fun j _ _ => C123 j) (fun j _ _ => C123 j) | (exfalso; omega)) (by first | exact hI | exact LWL_k hd7 hM (fun j _ => C107 j) (fun j _ => C108 j) (fun j _ => C109 j) (fun j _ _ => C122 j) | (exfalso; omega)) (by first | exact hI | exact LWL_k hd8 hM2 (fun j _ => C115 j) (fun j _ => C116 j) (fun j _ => C117 j) (fun j _ _ => C123 j) | (exfalso; omega)) (by first | exact hI | exact CHL_k hd9 hM (fun j _ => C112 j) (by omega) (fun j _ _ => C122 j) | (exfalso; omega)) (by first | exact hI | exact CHL_k hd10 hM2 (fun j _ => C120 j) (by omega) (fun j _ _ => C123 j) | (exfalso; omega))
set_option maxRecDepth 20000 in
set_option maxHeartbeats 8000000 in
theorem sp_case19 (L : Nat) (xs : Nat → Int32) (sio : Option Nat) (d : Nat) (Q : Option AV → am_W → Prop) (hLL : L ≤ 3072) (i : Int) (hi : 0 ≤ i ∧ i ≤ 3066) (hil : i ≤ (L : Int) - 6) (dt : Nat → Nat → Int) (hI : InvC dt) (hM : MW (dt 80)) (hM2 : MW (dt 81)) (hk0 : dt 1 0 = dt 80 0) (hk1 : dt 7 3 = dt 80 1) (hk2 : dt 10 3 = dt 80 2) (hk3 : dt 12 3 = dt 80 3) (hk4 : dt 14 3 = dt 80 4) (hk5 : dt 16 3 = dt 80 5) (hk6 : dt 18 0 = dt 81 0) (hk7 : dt 24 3 = dt 81 1) (hk8 : dt 27 3 = dt 81 2) (hk9 : dt 29 3 = dt 81 3) (hk10 : dt 31 3 = dt 81 4) (hk11 : dt 33 3 = dt 81 5) (hk12 : dt 0 2 = dt 79 2) (hk13 : dt 35 1 = dt 79 12) (hk14 : dt 35 2 = dt 79 19) (hk15 : dt 35 3 = dt 79 21) (hd0 : TPL (dt 36) (dt 85) (dt 35 1)) (hd1 : SCL (dt 2) (dt 3) (dt 80)) (hd2 : SCL (dt 19) (dt 20) (dt 81)) (hd3 : QRL (dt 8) (dt 80)) (hd4 : QRL (dt 25) (dt 81)) (hd5 : SDL (dt 9) (dt 80)) (hd6 : SDL (dt 26) (dt 81)) (hd7 : LWL (dt 4) (dt 5) (dt 6) (dt 80)) (hd8 : LWL (dt 21) (dt 22) (dt 23) (dt 81)) (hd9 : CHL (dt 11) (dt 80)) (hd10 : CHL (dt 28) (dt 81)) (K : ∀ (dt : Nat → Nat → Int) (hI : InvC dt) (hM : MW (dt 80)) (hM2 : MW (dt 81)) (hk0 : dt 1 0 = dt 80 0) (hk1 : dt 7 3 = dt 80 1) (hk2 : dt 10 3 = dt 80 2) (hk3 : dt 12 3 = dt 80 3) (hk4 : dt 14 3 = dt 80 4) (hk5 : dt 16 3 = dt 80 5) (hk6 : dt 18 0 = dt 81 0) (hk7 : dt 24 3 = dt 81 1) (hk8 : dt 27 3 = dt 81 2) (hk9 : dt 29 3 = dt 81 3) (hk10 : dt 31 3 = dt 81 4) (hk11 : dt 33 3 = dt 81 5) (hk12 : dt 0 2 = dt 79 2) (hk13 : dt 35 1 = dt 79 12) (hk14 : dt 35 2 = dt 79 19) (hk15 : dt 35 3 = dt 79 21) (hd0 : TPL (dt 36) (dt 85) (dt 35 1)) (hd1 : SCL (dt 2) (dt 3) (dt 80)) (hd2 : SCL (dt 19) (dt 20) (dt 81)) (hd3 : QRL (dt 8) (dt 80)) (hd4 : QRL (dt 25) (dt 81)) (hd5 : SDL (dt 9) (dt 80)) (hd6 : SDL (dt 26) (dt 81)) (hd7 : LWL (dt 4) (dt 5) (dt 6) (dt 80)) (hd8 : LWL (dt 21) (dt 22) (dt 23) (dt 81)) (hd9 : CHL (dt 11) (dt 80)) (hd10 : CHL (dt 28) (dt 81)), GO (am_XX L xs sio) (d + 39) 267 1435 [some (.inr (.inr (some 3000))), some (.inr (.inr (some 0))), some (.inr (.inr (some 79))), some (.inl i)] [] (SH, dt) Q) : GO (am_XX L xs sio) (d + 39) 267 987 [some (.inr (.inr (some 3000))), some (.inr (.inr (some 0))), some (.inr (.inr (some 79))), some (.inl i)] [] (SH, dt) Q := by
  have hF : Fr [0, 1, 2, 3, 4, 5, 6, 7, 8, 9, 10, 11, 12, 13, 14, 15, 16, 17, 18, 19, 20, 21, 22, 23, 24, 25, 26, 27, 28, 29, 30, 31, 32, 33, 34, 35, 36, 37, 38, 39, 40, 41, 42, 43, 44, 45, 46, 47, 48, 49, 50, 51, 52, 53, 54, 55, 56, 57, 58, 59, 60, 61, 62, 63, 64, 65, 66, 67, 68, 69, 70, 71, 72, 73, 74, 75, 76, 77, 78, 79, 80, 81, 82, 83, 84, 85, 86, 87, 88, 89, 90, 91, 92, 93, 94, 95, 96, 97, 98, 99, 100, 101, 102, 103, 104] dt dt := Fr_refl
  have hqo := QOC_R hd3 hM hk1
  have hb1_ := hM.1.1
  have hb2_ := hM.1.2.1
  have hb3_ := hM.1.2.2.1
  have halk : ALK dt (dt 80) := ⟨hd7, hd3, hd5, hd9, hk1, hk2⟩
  refine go_toq PM267 (k := 5) (pc' := 992) (L' := [some (.inr (.inr (some 3000))), some (.inr (.inr (some 0))), some (.inr (.inr (some 79))), some (.inl i)]) (st' := [.inl (i + 1), .inr (.inr (some 3000)), .inr (.inr (some 0))]) (w' := (SH, dt)) rfl ?_
  have r1 := i32_R (xs ((i + 1).toNat))
  refine go_smpq PM267 (L' := [some (.inr (.inr (some 3000))), some (.inr (.inr (some 0))), some (.inr (.inr (some 79))), some (.inl i)]) (st' := [.inl ((xs ((i + 1).toNat)).toInt), .inr (.inr (some 0))]) (w' := (SH, dt)) rfl rfl (s_iald (n := L) (f := fun j => (xs j).toInt) (am_scr hLL) ⟨by omega, by omega⟩) ?_
  refine go_toq PM267 (k := 4) (pc' := 997) (L' := [some (.inr (.inr (some 3000))), some (.inr (.inr (some 0))), some (.inr (.inr (some 79))), some (.inl i)]) (st' := [.inl (i + 2), .inr (.inr (some 3000)), .inl ((xs ((i + 1).toNat)).toInt), .inr (.inr (some 0))]) (w' := (SH, dt)) rfl ?_
  have r2 := i32_R (xs ((i + 2).toNat))
  refine go_smpq PM267 (L' := [some (.inr (.inr (some 3000))), some (.inr (.inr (some 0))), some (.inr (.inr (some 79))), some (.inl i)]) (st' := [.inl ((xs ((i + 2).toNat)).toInt), .inl ((xs ((i + 1).toNat)).toInt), .inr (.inr (some 0))]) (w' := (SH, dt)) rfl rfl (s_iald (n := L) (f := fun j => (xs j).toInt) (am_scr hLL) ⟨by omega, by omega⟩) ?_
  refine go_callq PM267 PM86 (Q' := _) rfl rfl rfl rfl (sp_X5_odds L xs sio (d + 34) dt hI  ((xs ((i + 1).toNat)).toInt) ⟨by omega, by omega⟩ ((xs ((i + 2).toNat)).toInt) ⟨by omega, by omega⟩ ) ?_
  rintro _ _ ⟨dt4, rfl, hI5, hF6, h3⟩
  refine ⟨rfl, ?_⟩
  have hF7 : Fr [0, 1, 2, 3, 4, 5, 6, 7, 8, 9, 10, 11, 12, 13, 14, 15, 16, 17, 18, 19, 20, 21, 22, 23, 24, 25, 26, 27, 28, 29, 30, 31, 32, 33, 34, 35, 36, 37, 38, 39, 40, 41, 42, 43, 44, 45, 46, 47, 48, 49, 50, 51, 52, 53, 54, 55, 56, 57, 58, 59, 60, 61, 62, 63, 64, 65, 66, 67, 68, 69, 70, 71, 72, 73, 74, 75, 76, 77, 78, 79, 80, 81, 82, 83, 84, 85, 86, 87, 88, 89, 90, 91, 92, 93, 94, 95, 96, 97, 98, 99, 100, 101, 102, 103, 104] dt dt4 := Fr_tr hF hF6 (by decide)
  have hM8 : MW (dt4 80) := MW_fr hM hF6 (by decide)
  have w9 : dt4 1 0 = dt 1 0 := hF6 1 (by decide) 0
  have w10 : dt4 7 3 = dt 7 3 := hF6 7 (by decide) 3
  have w11 : dt4 10 3 = dt 10 3 := hF6 10 (by decide) 3
  have w12 : dt4 12 3 = dt 12 3 := hF6 12 (by decide) 3
  have w13 : dt4 14 3 = dt 14 3 := hF6 14 (by decide) 3
  have w14 : dt4 16 3 = dt 16 3 := hF6 16 (by decide) 3
  have w15 : dt4 18 0 = dt 18 0 := hF6 18 (by decide) 0
  have w16 : dt4 24 3 = dt 24 3 := hF6 24 (by decide) 3
  have w17 : dt4 27 3 = dt 27 3 := hF6 27 (by decide) 3
  have w18 : dt4 29 3 = dt 29 3 := hF6 29 (by decide) 3
  have w19 : dt4 31 3 = dt 31 3 := hF6 31 (by decide) 3
  have w20 : dt4 33 3 = dt 33 3 := hF6 33 (by decide) 3
  have w21 : dt4 0 2 = dt 0 2 := hF6 0 (by decide) 2
  have w22 : dt4 35 1 = dt 35 1 := hF6 35 (by decide) 1
  have w23 : dt4 35 2 = dt 35 2 := hF6 35 (by decide) 2
  have w24 : dt4 35 3 = dt 35 3 := hF6 35 (by decide) 3
  have w25 : dt4 80 0 = dt 80 0 := hF6 80 (by decide) 0
  have w26 : dt4 80 1 = dt 80 1 := hF6 80 (by decide) 1
  have w27 : dt4 80 2 = dt 80 2 := hF6 80 (by decide) 2
  have w28 : dt4 80 3 = dt 80 3 := hF6 80 (by decide) 3
  have w29 : dt4 80 4 = dt 80 4 := hF6 80 (by decide) 4
  have w30 : dt4 80 5 = dt 80 5 := hF6 80 (by decide) 5
  have w31 : dt4 81 0 = dt 81 0 := hF6 81 (by decide) 0
  have w32 : dt4 81 1 = dt 81 1 := hF6 81 (by decide) 1
  have w33 : dt4 81 2 = dt 81 2 := hF6 81 (by decide) 2
  have w34 : dt4 81 3 = dt 81 3 := hF6 81 (by decide) 3
  have w35 : dt4 81 4 = dt 81 4 := hF6 81 (by decide) 4
  have w36 : dt4 81 5 = dt 81 5 := hF6 81 (by decide) 5
  have w37 : dt4 79 2 = dt 79 2 := hF6 79 (by decide) 2
  have w38 : dt4 79 12 = dt 79 12 := hF6 79 (by decide) 12
  have w39 : dt4 79 19 = dt 79 19 := hF6 79 (by decide) 19
  have w40 : dt4 79 21 = dt 79 21 := hF6 79 (by decide) 21
  rcases h3 with ⟨v_h3, rfl, h3r, h3⟩
  have M241 : MW (dt4 81) := MW_frk hM2 hF6 (by decide)
  have C42 : ∀ j : Nat, dt4 2 j = dt 2 j := fun j => (hF6 2 (by decide) j).trans ((fun _ => rfl) j)
  have C43 : ∀ j : Nat, dt4 3 j = dt 3 j := fun j => (hF6 3 (by decide) j).trans ((fun _ => rfl) j)
  have C44 : ∀ j : Nat, dt4 4 j = dt 4 j := fun j => (hF6 4 (by decide) j).trans ((fun _ => rfl) j)
  have C45 : ∀ j : Nat, dt4 5 j = dt 5 j := fun j => (hF6 5 (by decide) j).trans ((fun _ => rfl) j)
  have C46 : ∀ j : Nat, dt4 6 j = dt 6 j := fun j => (hF6 6 (by decide) j).trans ((fun _ => rfl) j)
  have C47 : ∀ j : Nat, dt4 8 j = dt 8 j := fun j => (hF6 8 (by decide) j).trans ((fun _ => rfl) j)
  have C48 : ∀ j : Nat, dt4 9 j = dt 9 j := fun j => (hF6 9 (by decide) j).trans ((fun _ => rfl) j)
  have C49 : ∀ j : Nat, dt4 11 j = dt 11 j := fun j => (hF6 11 (by decide) j).trans ((fun _ => rfl) j)
  have C50 : ∀ j : Nat, dt4 19 j = dt 19 j := fun j => (hF6 19 (by decide) j).trans ((fun _ => rfl) j)
  have C51 : ∀ j : Nat, dt4 20 j = dt 20 j := fun j => (hF6 20 (by decide) j).trans ((fun _ => rfl) j)
  have C52 : ∀ j : Nat, dt4 21 j = dt 21 j := fun j => (hF6 21 (by decide) j).trans ((fun _ => rfl) j)
  have C53 : ∀ j : Nat, dt4 22 j = dt 22 j := fun j => (hF6 22 (by decide) j).trans ((fun _ => rfl) j)
  have C54 : ∀ j : Nat, dt4 23 j = dt 23 j := fun j => (hF6 23 (by decide) j).trans ((fun _ => rfl) j)
  have C55 : ∀ j : Nat, dt4 25 j = dt 25 j := fun j => (hF6 25 (by decide) j).trans ((fun _ => rfl) j)
  have C56 : ∀ j : Nat, dt4 26 j = dt 26 j := fun j => (hF6 26 (by decide) j).trans ((fun _ => rfl) j)
  have C57 : ∀ j : Nat, dt4 28 j = dt 28 j := fun j => (hF6 28 (by decide) j).trans ((fun _ => rfl) j)
  have C58 : ∀ j : Nat, dt4 36 j = dt 36 j := fun j => (hF6 36 (by decide) j).trans ((fun _ => rfl) j)
  have C59 : ∀ j : Nat, dt4 80 j = dt 80 j := fun j => (hF6 80 (by decide) j).trans ((fun _ => rfl) j)
  have C60 : ∀ j : Nat, dt4 81 j = dt 81 j := fun j => (hF6 81 (by decide) j).trans ((fun _ => rfl) j)
  have C61 : ∀ j : Nat, dt4 85 j = dt 85 j := fun j => (hF6 85 (by decide) j).trans ((fun _ => rfl) j)
  refine go_toq PM267 (k := 6) (pc' := 1007) (L' := [some (.inr (.inr (some 3000))), some (.inr (.inr (some 0))), some (.inr (.inr (some 79))), some (.inl i)]) (st' := [.inl (i + 1), .inr (.inr (some 3000)), .inr (.inr (some 79))]) (w' := (SH, dt4)) rfl ?_
  have r62 := i32_R (xs ((i + 1).toNat))
  refine go_smpq PM267 (L' := [some (.inr (.inr (some 3000))), some (.inr (.inr (some 0))), some (.inr (.inr (some 79))), some (.inl i)]) (st' := [.inl ((xs ((i + 1).toNat)).toInt), .inr (.inr (some 79))]) (w' := (SH, dt4)) rfl rfl (s_iald (n := L) (f := fun j => (xs j).toInt) (am_scr hLL) ⟨by omega, by omega⟩) ?_
  refine go_toq PM267 (k := 4) (pc' := 1012) (L' := [some (.inr (.inr (some 3000))), some (.inr (.inr (some 0))), some (.inr (.inr (some 79))), some (.inl i)]) (st' := [.inl (i + 2), .inr (.inr (some 3000)), .inl ((xs ((i + 1).toNat)).toInt), .inr (.inr (some 79))]) (w' := (SH, dt4)) rfl ?_
  have r63 := i32_R (xs ((i + 2).toNat))
  refine go_smpq PM267 (L' := [some (.inr (.inr (some 3000))), some (.inr (.inr (some 0))), some (.inr (.inr (some 79))), some (.inl i)]) (st' := [.inl ((xs ((i + 2).toNat)).toInt), .inl ((xs ((i + 1).toNat)).toInt), .inr (.inr (some 79))]) (w' := (SH, dt4)) rfl rfl (s_iald (n := L) (f := fun j => (xs j).toInt) (am_scr hLL) ⟨by omega, by omega⟩) ?_
  refine go_callq PM267 PM227 (Q' := _) rfl rfl rfl rfl (sp_X6_odds L xs sio (d + 31) dt4 hI5 hM8  ((xs ((i + 1).toNat)).toInt) ⟨by omega, by omega⟩ ((xs ((i + 2).toNat)).toInt) ⟨by omega, by omega⟩ ) ?_
  rintro _ _ ⟨dt65, rfl, hI66, hF67, h64⟩
  refine ⟨rfl, ?_⟩
  have hF68 : Fr [0, 1, 2, 3, 4, 5, 6, 7, 8, 9, 10, 11, 12, 13, 14, 15, 16, 17, 18, 19, 20, 21, 22, 23, 24, 25, 26, 27, 28, 29, 30, 31, 32, 33, 34, 35, 36, 37, 38, 39, 40, 41, 42, 43, 44, 45, 46, 47, 48, 49, 50, 51, 52, 53, 54, 55, 56, 57, 58, 59, 60, 61, 62, 63, 64, 65, 66, 67, 68, 69, 70, 71, 72, 73, 74, 75, 76, 77, 78, 79, 80, 81, 82, 83, 84, 85, 86, 87, 88, 89, 90, 91, 92, 93, 94, 95, 96, 97, 98, 99, 100, 101, 102, 103, 104] dt dt65 := Fr_tr hF7 hF67 (by decide)
  have hM69 : MW (dt65 80) := MW_fr hM8 hF67 (by decide)
  have w70 : dt65 1 0 = dt 1 0 := (hF67 1 (by decide) 0).trans w9
  have w71 : dt65 7 3 = dt 7 3 := (hF67 7 (by decide) 3).trans w10
  have w72 : dt65 10 3 = dt 10 3 := (hF67 10 (by decide) 3).trans w11
  have w73 : dt65 12 3 = dt 12 3 := (hF67 12 (by decide) 3).trans w12
  have w74 : dt65 14 3 = dt 14 3 := (hF67 14 (by decide) 3).trans w13
  have w75 : dt65 16 3 = dt 16 3 := (hF67 16 (by decide) 3).trans w14
  have w76 : dt65 18 0 = dt 18 0 := (hF67 18 (by decide) 0).trans w15
  have w77 : dt65 24 3 = dt 24 3 := (hF67 24 (by decide) 3).trans w16
  have w78 : dt65 27 3 = dt 27 3 := (hF67 27 (by decide) 3).trans w17
  have w79 : dt65 29 3 = dt 29 3 := (hF67 29 (by decide) 3).trans w18
  have w80 : dt65 31 3 = dt 31 3 := (hF67 31 (by decide) 3).trans w19
  have w81 : dt65 33 3 = dt 33 3 := (hF67 33 (by decide) 3).trans w20
  have w82 : dt65 0 2 = dt 0 2 := (hF67 0 (by decide) 2).trans w21
  have w83 : dt65 35 1 = dt 35 1 := (hF67 35 (by decide) 1).trans w22
  have w84 : dt65 35 2 = dt 35 2 := (hF67 35 (by decide) 2).trans w23
  have w85 : dt65 35 3 = dt 35 3 := (hF67 35 (by decide) 3).trans w24
  have w86 : dt65 80 0 = dt 80 0 := (hF67 80 (by decide) 0).trans w25
  have w87 : dt65 80 1 = dt 80 1 := (hF67 80 (by decide) 1).trans w26
  have w88 : dt65 80 2 = dt 80 2 := (hF67 80 (by decide) 2).trans w27
  have w89 : dt65 80 3 = dt 80 3 := (hF67 80 (by decide) 3).trans w28
  have w90 : dt65 80 4 = dt 80 4 := (hF67 80 (by decide) 4).trans w29
  have w91 : dt65 80 5 = dt 80 5 := (hF67 80 (by decide) 5).trans w30
  have w92 : dt65 81 0 = dt 81 0 := (hF67 81 (by decide) 0).trans w31
  have w93 : dt65 81 1 = dt 81 1 := (hF67 81 (by decide) 1).trans w32
  have w94 : dt65 81 2 = dt 81 2 := (hF67 81 (by decide) 2).trans w33
  have w95 : dt65 81 3 = dt 81 3 := (hF67 81 (by decide) 3).trans w34
  have w96 : dt65 81 4 = dt 81 4 := (hF67 81 (by decide) 4).trans w35
  have w97 : dt65 81 5 = dt 81 5 := (hF67 81 (by decide) 5).trans w36
  have w98 : dt65 79 2 = dt 79 2 := (hF67 79 (by decide) 2).trans w37
  have w99 : dt65 79 12 = dt 79 12 := (hF67 79 (by decide) 12).trans w38
  have w100 : dt65 79 19 = dt 79 19 := (hF67 79 (by decide) 19).trans w39
  have w101 : dt65 79 21 = dt 79 21 := (hF67 79 (by decide) 21).trans w40
  rcases h64 with ⟨v_h64, rfl, h64r, h64⟩
  have M2102 : MW (dt65 81) := MW_frk M241 hF67 (by decide)
  have C103 : ∀ j : Nat, dt65 2 j = dt 2 j := fun j => (hF67 2 (by decide) j).trans (C42 j)
  have C104 : ∀ j : Nat, dt65 3 j = dt 3 j := fun j => (hF67 3 (by decide) j).trans (C43 j)
  have C105 : ∀ j : Nat, dt65 4 j = dt 4 j := fun j => (hF67 4 (by decide) j).trans (C44 j)
  have C106 : ∀ j : Nat, dt65 5 j = dt 5 j := fun j => (hF67 5 (by decide) j).trans (C45 j)
  have C107 : ∀ j : Nat, dt65 6 j = dt 6 j := fun j => (hF67 6 (by decide) j).trans (C46 j)
  have C108 : ∀ j : Nat, dt65 8 j = dt 8 j := fun j => (hF67 8 (by decide) j).trans (C47 j)
  have C109 : ∀ j : Nat, dt65 9 j = dt 9 j := fun j => (hF67 9 (by decide) j).trans (C48 j)
  have C110 : ∀ j : Nat, dt65 11 j = dt 11 j := fun j => (hF67 11 (by decide) j).trans (C49 j)
  have C111 : ∀ j : Nat, dt65 19 j = dt 19 j := fun j => (hF67 19 (by decide) j).trans (C50 j)
  have C112 : ∀ j : Nat, dt65 20 j = dt 20 j := fun j => (hF67 20 (by decide) j).trans (C51 j)
  have C113 : ∀ j : Nat, dt65 21 j = dt 21 j := fun j => (hF67 21 (by decide) j).trans (C52 j)
  have C114 : ∀ j : Nat, dt65 22 j = dt 22 j := fun j => (hF67 22 (by decide) j).trans (C53 j)
  have C115 : ∀ j : Nat, dt65 23 j = dt 23 j := fun j => (hF67 23 (by decide) j).trans (C54 j)
  have C116 : ∀ j : Nat, dt65 25 j = dt 25 j := fun j => (hF67 25 (by decide) j).trans (C55 j)
  have C117 : ∀ j : Nat, dt65 26 j = dt 26 j := fun j => (hF67 26 (by decide) j).trans (C56 j)
  have C118 : ∀ j : Nat, dt65 28 j = dt 28 j := fun j => (hF67 28 (by decide) j).trans (C57 j)
  have C119 : ∀ j : Nat, dt65 36 j = dt 36 j := fun j => (hF67 36 (by decide) j).trans (C58 j)
  have C120 : ∀ j : Nat, dt65 80 j = dt 80 j := fun j => (hF67 80 (by decide) j).trans (C59 j)
  have C121 : ∀ j : Nat, dt65 81 j = dt 81 j := fun j => (hF67 81 (by decide) j).trans (C60 j)
  have C122 : ∀ j : Nat, dt65 85 j = dt 85 j := fun j => (hF67 85 (by decide) j).trans (C61 j)
  refine go_toq PM267 (k := 2) (pc' := 1435) (L' := [some (.inr (.inr (some 3000))), some (.inr (.inr (some 0))), some (.inr (.inr (some 79))), some (.inl i)]) (st' := []) (w' := (SH, dt65)) rfl ?_
  exact K dt65 hI66 hM69 M2102 (w70.trans (hk0.trans w86.symm)) (w71.trans (hk1.trans w87.symm)) (w72.trans (hk2.trans w88.symm)) (w73.trans (hk3.trans w89.symm)) (w74.trans (hk4.trans w90.symm)) (w75.trans (hk5.trans w91.symm)) (w76.trans (hk6.trans w92.symm)) (w77.trans (hk7.trans w93.symm)) (w78.trans (hk8.trans w94.symm)) (w79.trans (hk9.trans w95.symm)) (w80.trans (hk10.trans w96.symm)) (w81.trans (hk11.trans w97.symm)) (w82.trans (hk12.trans w98.symm)) (w83.trans (hk13.trans w99.symm)) (w84.trans (hk14.trans w100.symm)) (w85.trans (hk15.trans w101.symm)) (by first | exact hI | exact TPL_k hd0 C119 C122 (by omega) | (exfalso; omega)) (by first | exact hI | exact SCL_k hd1 hM (fun j _ => C103 j) (fun j _ => C104 j) (fun j _ _ => C120 j) | (exfalso; omega)) (by first | exact hI | exact SCL_k hd2 hM2 (fun j _ => C111 j) (fun j _ => C112 j) (fun j _ _ => C121 j) | (exfalso; omega)) (by first | exact hI | exact QRL_k hd3 hM (fun j _ => C108 j) (C120 1) (fun j _ _ => C120 j) | (exfalso; omega)) (by first | exact hI | exact QRL_k hd4 hM2 (fun j _ => C116 j) (C121 1) (fun j _ _ => C121 j) | (exfalso; omega)) (by first | exact hI | exact SDL_k hd5 hM (fun j _ => C109 j) (C120 1) (fun j _ _ => C120 j) (fun j _ _ => C120 j) | (exfalso; omega)) (by first | exact hI | exact SDL_k hd6 hM2 (fun j _ => C117 j) (C121 1) (fun j _ _ => C121 j) (fun j _ _ => C121 j) | (exfalso; omega)) (by first | exact hI | exact LWL_k hd7 hM (fun j _ => C105 j) (fun j _ => C106 j) (fun j _ => C107 j) (fun j _ _ => C120 j) | (exfalso; omega)) (by first | exact hI | exact LWL_k hd8 hM2 (fun j _ => C113 j) (fun j _ => C114 j) (fun j _ => C115 j) (fun j _ _ => C121 j) | (exfalso; omega)) (by first | exact hI | exact CHL_k hd9 hM (fun j _ => C110 j) (by omega) (fun j _ _ => C120 j) | (exfalso; omega)) (by first | exact hI | exact CHL_k hd10 hM2 (fun j _ => C118 j) (by omega) (fun j _ _ => C121 j) | (exfalso; omega))
set_option maxRecDepth 20000 in
set_option maxHeartbeats 8000000 in
theorem sp_case20 (L : Nat) (xs : Nat → Int32) (sio : Option Nat) (d : Nat) (Q : Option AV → am_W → Prop) (hLL : L ≤ 3072) (i : Int) (hi : 0 ≤ i ∧ i ≤ 3066) (hil : i ≤ (L : Int) - 6) (dt : Nat → Nat → Int) (hI : InvC dt) (hM : MW (dt 80)) (hM2 : MW (dt 81)) (hk0 : dt 1 0 = dt 80 0) (hk1 : dt 7 3 = dt 80 1) (hk2 : dt 10 3 = dt 80 2) (hk3 : dt 12 3 = dt 80 3) (hk4 : dt 14 3 = dt 80 4) (hk5 : dt 16 3 = dt 80 5) (hk6 : dt 18 0 = dt 81 0) (hk7 : dt 24 3 = dt 81 1) (hk8 : dt 27 3 = dt 81 2) (hk9 : dt 29 3 = dt 81 3) (hk10 : dt 31 3 = dt 81 4) (hk11 : dt 33 3 = dt 81 5) (hk12 : dt 0 2 = dt 79 2) (hk13 : dt 35 1 = dt 79 12) (hk14 : dt 35 2 = dt 79 19) (hk15 : dt 35 3 = dt 79 21) (hd0 : TPL (dt 36) (dt 85) (dt 35 1)) (hd1 : SCL (dt 2) (dt 3) (dt 80)) (hd2 : SCL (dt 19) (dt 20) (dt 81)) (hd3 : QRL (dt 8) (dt 80)) (hd4 : QRL (dt 25) (dt 81)) (hd5 : SDL (dt 9) (dt 80)) (hd6 : SDL (dt 26) (dt 81)) (hd7 : LWL (dt 4) (dt 5) (dt 6) (dt 80)) (hd8 : LWL (dt 21) (dt 22) (dt 23) (dt 81)) (hd9 : CHL (dt 11) (dt 80)) (hd10 : CHL (dt 28) (dt 81)) (K : ∀ (dt : Nat → Nat → Int) (hI : InvC dt) (hM : MW (dt 80)) (hM2 : MW (dt 81)) (hk0 : dt 1 0 = dt 80 0) (hk1 : dt 7 3 = dt 80 1) (hk2 : dt 10 3 = dt 80 2) (hk3 : dt 12 3 = dt 80 3) (hk4 : dt 14 3 = dt 80 4) (hk5 : dt 16 3 = dt 80 5) (hk6 : dt 18 0 = dt 81 0) (hk7 : dt 24 3 = dt 81 1) (hk8 : dt 27 3 = dt 81 2) (hk9 : dt 29 3 = dt 81 3) (hk10 : dt 31 3 = dt 81 4) (hk11 : dt 33 3 = dt 81 5) (hk12 : dt 0 2 = dt 79 2) (hk13 : dt 35 1 = dt 79 12) (hk14 : dt 35 2 = dt 79 19) (hk15 : dt 35 3 = dt 79 21) (hd0 : TPL (dt 36) (dt 85) (dt 35 1)) (hd1 : SCL (dt 2) (dt 3) (dt 80)) (hd2 : SCL (dt 19) (dt 20) (dt 81)) (hd3 : QRL (dt 8) (dt 80)) (hd4 : QRL (dt 25) (dt 81)) (hd5 : SDL (dt 9) (dt 80)) (hd6 : SDL (dt 26) (dt 81)) (hd7 : LWL (dt 4) (dt 5) (dt 6) (dt 80)) (hd8 : LWL (dt 21) (dt 22) (dt 23) (dt 81)) (hd9 : CHL (dt 11) (dt 80)) (hd10 : CHL (dt 28) (dt 81)), GO (am_XX L xs sio) (d + 39) 267 1435 [some (.inr (.inr (some 3000))), some (.inr (.inr (some 0))), some (.inr (.inr (some 79))), some (.inl i)] [] (SH, dt) Q) : GO (am_XX L xs sio) (d + 39) 267 1020 [some (.inr (.inr (some 3000))), some (.inr (.inr (some 0))), some (.inr (.inr (some 79))), some (.inl i)] [] (SH, dt) Q := by
  have hF : Fr [0, 1, 2, 3, 4, 5, 6, 7, 8, 9, 10, 11, 12, 13, 14, 15, 16, 17, 18, 19, 20, 21, 22, 23, 24, 25, 26, 27, 28, 29, 30, 31, 32, 33, 34, 35, 36, 37, 38, 39, 40, 41, 42, 43, 44, 45, 46, 47, 48, 49, 50, 51, 52, 53, 54, 55, 56, 57, 58, 59, 60, 61, 62, 63, 64, 65, 66, 67, 68, 69, 70, 71, 72, 73, 74, 75, 76, 77, 78, 79, 80, 81, 82, 83, 84, 85, 86, 87, 88, 89, 90, 91, 92, 93, 94, 95, 96, 97, 98, 99, 100, 101, 102, 103, 104] dt dt := Fr_refl
  have hqo := QOC_R hd3 hM hk1
  have hb1_ := hM.1.1
  have hb2_ := hM.1.2.1
  have hb3_ := hM.1.2.2.1
  have halk : ALK dt (dt 80) := ⟨hd7, hd3, hd5, hd9, hk1, hk2⟩
  refine go_toq PM267 (k := 5) (pc' := 1025) (L' := [some (.inr (.inr (some 3000))), some (.inr (.inr (some 0))), some (.inr (.inr (some 79))), some (.inl i)]) (st' := [.inl (i + 1), .inr (.inr (some 3000)), .inr (.inr (some 0))]) (w' := (SH, dt)) rfl ?_
  have r1 := i32_R (xs ((i + 1).toNat))
  refine go_smpq PM267 (L' := [some (.inr (.inr (some 3000))), some (.inr (.inr (some 0))), some (.inr (.inr (some 79))), some (.inl i)]) (st' := [.inl ((xs ((i + 1).toNat)).toInt), .inr (.inr (some 0))]) (w' := (SH, dt)) rfl rfl (s_iald (n := L) (f := fun j => (xs j).toInt) (am_scr hLL) ⟨by omega, by omega⟩) ?_
  refine go_toq PM267 (k := 4) (pc' := 1030) (L' := [some (.inr (.inr (some 3000))), some (.inr (.inr (some 0))), some (.inr (.inr (some 79))), some (.inl i)]) (st' := [.inl (i + 2), .inr (.inr (some 3000)), .inl ((xs ((i + 1).toNat)).toInt), .inr (.inr (some 0))]) (w' := (SH, dt)) rfl ?_
  have r2 := i32_R (xs ((i + 2).toNat))
  refine go_smpq PM267 (L' := [some (.inr (.inr (some 3000))), some (.inr (.inr (some 0))), some (.inr (.inr (some 79))), some (.inl i)]) (st' := [.inl ((xs ((i + 2).toNat)).toInt), .inl ((xs ((i + 1).toNat)).toInt), .inr (.inr (some 0))]) (w' := (SH, dt)) rfl rfl (s_iald (n := L) (f := fun j => (xs j).toInt) (am_scr hLL) ⟨by omega, by omega⟩) ?_
  refine go_callq PM267 PM87 (Q' := _) rfl rfl rfl rfl (sp_X5_need L xs sio (d + 35) dt hI  ((xs ((i + 1).toNat)).toInt) ⟨by omega, by omega⟩ ((xs ((i + 2).toNat)).toInt) ⟨by omega, by omega⟩ ) ?_
  rintro _ _ ⟨dt4, rfl, hI5, hF6, h3⟩
  refine ⟨rfl, ?_⟩
  have hF7 : Fr [0, 1, 2, 3, 4, 5, 6, 7, 8, 9, 10, 11, 12, 13, 14, 15, 16, 17, 18, 19, 20, 21, 22, 23, 24, 25, 26, 27, 28, 29, 30, 31, 32, 33, 34, 35, 36, 37, 38, 39, 40, 41, 42, 43, 44, 45, 46, 47, 48, 49, 50, 51, 52, 53, 54, 55, 56, 57, 58, 59, 60, 61, 62, 63, 64, 65, 66, 67, 68, 69, 70, 71, 72, 73, 74, 75, 76, 77, 78, 79, 80, 81, 82, 83, 84, 85, 86, 87, 88, 89, 90, 91, 92, 93, 94, 95, 96, 97, 98, 99, 100, 101, 102, 103, 104] dt dt4 := Fr_tr hF hF6 (by decide)
  have hM8 : MW (dt4 80) := MW_fr hM hF6 (by decide)
  have w9 : dt4 1 0 = dt 1 0 := hF6 1 (by decide) 0
  have w10 : dt4 7 3 = dt 7 3 := hF6 7 (by decide) 3
  have w11 : dt4 10 3 = dt 10 3 := hF6 10 (by decide) 3
  have w12 : dt4 12 3 = dt 12 3 := hF6 12 (by decide) 3
  have w13 : dt4 14 3 = dt 14 3 := hF6 14 (by decide) 3
  have w14 : dt4 16 3 = dt 16 3 := hF6 16 (by decide) 3
  have w15 : dt4 18 0 = dt 18 0 := hF6 18 (by decide) 0
  have w16 : dt4 24 3 = dt 24 3 := hF6 24 (by decide) 3
  have w17 : dt4 27 3 = dt 27 3 := hF6 27 (by decide) 3
  have w18 : dt4 29 3 = dt 29 3 := hF6 29 (by decide) 3
  have w19 : dt4 31 3 = dt 31 3 := hF6 31 (by decide) 3
  have w20 : dt4 33 3 = dt 33 3 := hF6 33 (by decide) 3
  have w21 : dt4 0 2 = dt 0 2 := hF6 0 (by decide) 2
  have w22 : dt4 35 1 = dt 35 1 := hF6 35 (by decide) 1
  have w23 : dt4 35 2 = dt 35 2 := hF6 35 (by decide) 2
  have w24 : dt4 35 3 = dt 35 3 := hF6 35 (by decide) 3
  have w25 : dt4 80 0 = dt 80 0 := hF6 80 (by decide) 0
  have w26 : dt4 80 1 = dt 80 1 := hF6 80 (by decide) 1
  have w27 : dt4 80 2 = dt 80 2 := hF6 80 (by decide) 2
  have w28 : dt4 80 3 = dt 80 3 := hF6 80 (by decide) 3
  have w29 : dt4 80 4 = dt 80 4 := hF6 80 (by decide) 4
  have w30 : dt4 80 5 = dt 80 5 := hF6 80 (by decide) 5
  have w31 : dt4 81 0 = dt 81 0 := hF6 81 (by decide) 0
  have w32 : dt4 81 1 = dt 81 1 := hF6 81 (by decide) 1
  have w33 : dt4 81 2 = dt 81 2 := hF6 81 (by decide) 2
  have w34 : dt4 81 3 = dt 81 3 := hF6 81 (by decide) 3
  have w35 : dt4 81 4 = dt 81 4 := hF6 81 (by decide) 4
  have w36 : dt4 81 5 = dt 81 5 := hF6 81 (by decide) 5
  have w37 : dt4 79 2 = dt 79 2 := hF6 79 (by decide) 2
  have w38 : dt4 79 12 = dt 79 12 := hF6 79 (by decide) 12
  have w39 : dt4 79 19 = dt 79 19 := hF6 79 (by decide) 19
  have w40 : dt4 79 21 = dt 79 21 := hF6 79 (by decide) 21
  rcases h3 with ⟨v_h3, rfl, h3r, h3⟩
  have M241 : MW (dt4 81) := MW_frk hM2 hF6 (by decide)
  have C42 : ∀ j : Nat, dt4 2 j = dt 2 j := fun j => (hF6 2 (by decide) j).trans ((fun _ => rfl) j)
  have C43 : ∀ j : Nat, dt4 3 j = dt 3 j := fun j => (hF6 3 (by decide) j).trans ((fun _ => rfl) j)
  have C44 : ∀ j : Nat, dt4 4 j = dt 4 j := fun j => (hF6 4 (by decide) j).trans ((fun _ => rfl) j)
  have C45 : ∀ j : Nat, dt4 5 j = dt 5 j := fun j => (hF6 5 (by decide) j).trans ((fun _ => rfl) j)
  have C46 : ∀ j : Nat, dt4 6 j = dt 6 j := fun j => (hF6 6 (by decide) j).trans ((fun _ => rfl) j)
  have C47 : ∀ j : Nat, dt4 8 j = dt 8 j := fun j => (hF6 8 (by decide) j).trans ((fun _ => rfl) j)
  have C48 : ∀ j : Nat, dt4 9 j = dt 9 j := fun j => (hF6 9 (by decide) j).trans ((fun _ => rfl) j)
  have C49 : ∀ j : Nat, dt4 11 j = dt 11 j := fun j => (hF6 11 (by decide) j).trans ((fun _ => rfl) j)
  have C50 : ∀ j : Nat, dt4 19 j = dt 19 j := fun j => (hF6 19 (by decide) j).trans ((fun _ => rfl) j)
  have C51 : ∀ j : Nat, dt4 20 j = dt 20 j := fun j => (hF6 20 (by decide) j).trans ((fun _ => rfl) j)
  have C52 : ∀ j : Nat, dt4 21 j = dt 21 j := fun j => (hF6 21 (by decide) j).trans ((fun _ => rfl) j)
  have C53 : ∀ j : Nat, dt4 22 j = dt 22 j := fun j => (hF6 22 (by decide) j).trans ((fun _ => rfl) j)
  have C54 : ∀ j : Nat, dt4 23 j = dt 23 j := fun j => (hF6 23 (by decide) j).trans ((fun _ => rfl) j)
  have C55 : ∀ j : Nat, dt4 25 j = dt 25 j := fun j => (hF6 25 (by decide) j).trans ((fun _ => rfl) j)
  have C56 : ∀ j : Nat, dt4 26 j = dt 26 j := fun j => (hF6 26 (by decide) j).trans ((fun _ => rfl) j)
  have C57 : ∀ j : Nat, dt4 28 j = dt 28 j := fun j => (hF6 28 (by decide) j).trans ((fun _ => rfl) j)
  have C58 : ∀ j : Nat, dt4 36 j = dt 36 j := fun j => (hF6 36 (by decide) j).trans ((fun _ => rfl) j)
  have C59 : ∀ j : Nat, dt4 80 j = dt 80 j := fun j => (hF6 80 (by decide) j).trans ((fun _ => rfl) j)
  have C60 : ∀ j : Nat, dt4 81 j = dt 81 j := fun j => (hF6 81 (by decide) j).trans ((fun _ => rfl) j)
  have C61 : ∀ j : Nat, dt4 85 j = dt 85 j := fun j => (hF6 85 (by decide) j).trans ((fun _ => rfl) j)
  refine go_toq PM267 (k := 6) (pc' := 1040) (L' := [some (.inr (.inr (some 3000))), some (.inr (.inr (some 0))), some (.inr (.inr (some 79))), some (.inl i)]) (st' := [.inl (i + 1), .inr (.inr (some 3000)), .inr (.inr (some 79))]) (w' := (SH, dt4)) rfl ?_
  have r62 := i32_R (xs ((i + 1).toNat))
  refine go_smpq PM267 (L' := [some (.inr (.inr (some 3000))), some (.inr (.inr (some 0))), some (.inr (.inr (some 79))), some (.inl i)]) (st' := [.inl ((xs ((i + 1).toNat)).toInt), .inr (.inr (some 79))]) (w' := (SH, dt4)) rfl rfl (s_iald (n := L) (f := fun j => (xs j).toInt) (am_scr hLL) ⟨by omega, by omega⟩) ?_
  refine go_toq PM267 (k := 4) (pc' := 1045) (L' := [some (.inr (.inr (some 3000))), some (.inr (.inr (some 0))), some (.inr (.inr (some 79))), some (.inl i)]) (st' := [.inl (i + 2), .inr (.inr (some 3000)), .inl ((xs ((i + 1).toNat)).toInt), .inr (.inr (some 79))]) (w' := (SH, dt4)) rfl ?_
  have r63 := i32_R (xs ((i + 2).toNat))
  refine go_smpq PM267 (L' := [some (.inr (.inr (some 3000))), some (.inr (.inr (some 0))), some (.inr (.inr (some 79))), some (.inl i)]) (st' := [.inl ((xs ((i + 2).toNat)).toInt), .inl ((xs ((i + 1).toNat)).toInt), .inr (.inr (some 79))]) (w' := (SH, dt4)) rfl rfl (s_iald (n := L) (f := fun j => (xs j).toInt) (am_scr hLL) ⟨by omega, by omega⟩) ?_
  refine go_callq PM267 PM228 (Q' := _) rfl rfl rfl rfl (sp_X6_need L xs sio (d + 33) dt4 hI5 hM8  ((xs ((i + 1).toNat)).toInt) ⟨by omega, by omega⟩ ((xs ((i + 2).toNat)).toInt) ⟨by omega, by omega⟩ ) ?_
  rintro _ _ ⟨dt65, rfl, hI66, hF67, h64⟩
  refine ⟨rfl, ?_⟩
  have hF68 : Fr [0, 1, 2, 3, 4, 5, 6, 7, 8, 9, 10, 11, 12, 13, 14, 15, 16, 17, 18, 19, 20, 21, 22, 23, 24, 25, 26, 27, 28, 29, 30, 31, 32, 33, 34, 35, 36, 37, 38, 39, 40, 41, 42, 43, 44, 45, 46, 47, 48, 49, 50, 51, 52, 53, 54, 55, 56, 57, 58, 59, 60, 61, 62, 63, 64, 65, 66, 67, 68, 69, 70, 71, 72, 73, 74, 75, 76, 77, 78, 79, 80, 81, 82, 83, 84, 85, 86, 87, 88, 89, 90, 91, 92, 93, 94, 95, 96, 97, 98, 99, 100, 101, 102, 103, 104] dt dt65 := Fr_tr hF7 hF67 (by decide)
  have hM69 : MW (dt65 80) := MW_fr hM8 hF67 (by decide)
  have w70 : dt65 1 0 = dt 1 0 := (hF67 1 (by decide) 0).trans w9
  have w71 : dt65 7 3 = dt 7 3 := (hF67 7 (by decide) 3).trans w10
  have w72 : dt65 10 3 = dt 10 3 := (hF67 10 (by decide) 3).trans w11
  have w73 : dt65 12 3 = dt 12 3 := (hF67 12 (by decide) 3).trans w12
  have w74 : dt65 14 3 = dt 14 3 := (hF67 14 (by decide) 3).trans w13
  have w75 : dt65 16 3 = dt 16 3 := (hF67 16 (by decide) 3).trans w14
  have w76 : dt65 18 0 = dt 18 0 := (hF67 18 (by decide) 0).trans w15
  have w77 : dt65 24 3 = dt 24 3 := (hF67 24 (by decide) 3).trans w16
  have w78 : dt65 27 3 = dt 27 3 := (hF67 27 (by decide) 3).trans w17
  have w79 : dt65 29 3 = dt 29 3 := (hF67 29 (by decide) 3).trans w18
  have w80 : dt65 31 3 = dt 31 3 := (hF67 31 (by decide) 3).trans w19
  have w81 : dt65 33 3 = dt 33 3 := (hF67 33 (by decide) 3).trans w20
  have w82 : dt65 0 2 = dt 0 2 := (hF67 0 (by decide) 2).trans w21
  have w83 : dt65 35 1 = dt 35 1 := (hF67 35 (by decide) 1).trans w22
  have w84 : dt65 35 2 = dt 35 2 := (hF67 35 (by decide) 2).trans w23
  have w85 : dt65 35 3 = dt 35 3 := (hF67 35 (by decide) 3).trans w24
  have w86 : dt65 80 0 = dt 80 0 := (hF67 80 (by decide) 0).trans w25
  have w87 : dt65 80 1 = dt 80 1 := (hF67 80 (by decide) 1).trans w26
  have w88 : dt65 80 2 = dt 80 2 := (hF67 80 (by decide) 2).trans w27
  have w89 : dt65 80 3 = dt 80 3 := (hF67 80 (by decide) 3).trans w28
  have w90 : dt65 80 4 = dt 80 4 := (hF67 80 (by decide) 4).trans w29
  have w91 : dt65 80 5 = dt 80 5 := (hF67 80 (by decide) 5).trans w30
  have w92 : dt65 81 0 = dt 81 0 := (hF67 81 (by decide) 0).trans w31
  have w93 : dt65 81 1 = dt 81 1 := (hF67 81 (by decide) 1).trans w32
  have w94 : dt65 81 2 = dt 81 2 := (hF67 81 (by decide) 2).trans w33
  have w95 : dt65 81 3 = dt 81 3 := (hF67 81 (by decide) 3).trans w34
  have w96 : dt65 81 4 = dt 81 4 := (hF67 81 (by decide) 4).trans w35
  have w97 : dt65 81 5 = dt 81 5 := (hF67 81 (by decide) 5).trans w36
  have w98 : dt65 79 2 = dt 79 2 := (hF67 79 (by decide) 2).trans w37
  have w99 : dt65 79 12 = dt 79 12 := (hF67 79 (by decide) 12).trans w38
  have w100 : dt65 79 19 = dt 79 19 := (hF67 79 (by decide) 19).trans w39
  have w101 : dt65 79 21 = dt 79 21 := (hF67 79 (by decide) 21).trans w40
  rcases h64 with ⟨v_h64, rfl, h64r, h64⟩
  have M2102 : MW (dt65 81) := MW_frk M241 hF67 (by decide)
  have C103 : ∀ j : Nat, dt65 2 j = dt 2 j := fun j => (hF67 2 (by decide) j).trans (C42 j)
  have C104 : ∀ j : Nat, dt65 3 j = dt 3 j := fun j => (hF67 3 (by decide) j).trans (C43 j)
  have C105 : ∀ j : Nat, dt65 4 j = dt 4 j := fun j => (hF67 4 (by decide) j).trans (C44 j)
  have C106 : ∀ j : Nat, dt65 5 j = dt 5 j := fun j => (hF67 5 (by decide) j).trans (C45 j)
  have C107 : ∀ j : Nat, dt65 6 j = dt 6 j := fun j => (hF67 6 (by decide) j).trans (C46 j)
  have C108 : ∀ j : Nat, dt65 8 j = dt 8 j := fun j => (hF67 8 (by decide) j).trans (C47 j)
  have C109 : ∀ j : Nat, dt65 9 j = dt 9 j := fun j => (hF67 9 (by decide) j).trans (C48 j)
  have C110 : ∀ j : Nat, dt65 11 j = dt 11 j := fun j => (hF67 11 (by decide) j).trans (C49 j)
  have C111 : ∀ j : Nat, dt65 19 j = dt 19 j := fun j => (hF67 19 (by decide) j).trans (C50 j)
  have C112 : ∀ j : Nat, dt65 20 j = dt 20 j := fun j => (hF67 20 (by decide) j).trans (C51 j)
  have C113 : ∀ j : Nat, dt65 21 j = dt 21 j := fun j => (hF67 21 (by decide) j).trans (C52 j)
  have C114 : ∀ j : Nat, dt65 22 j = dt 22 j := fun j => (hF67 22 (by decide) j).trans (C53 j)
  have C115 : ∀ j : Nat, dt65 23 j = dt 23 j := fun j => (hF67 23 (by decide) j).trans (C54 j)
  have C116 : ∀ j : Nat, dt65 25 j = dt 25 j := fun j => (hF67 25 (by decide) j).trans (C55 j)
  have C117 : ∀ j : Nat, dt65 26 j = dt 26 j := fun j => (hF67 26 (by decide) j).trans (C56 j)
  have C118 : ∀ j : Nat, dt65 28 j = dt 28 j := fun j => (hF67 28 (by decide) j).trans (C57 j)
  have C119 : ∀ j : Nat, dt65 36 j = dt 36 j := fun j => (hF67 36 (by decide) j).trans (C58 j)
  have C120 : ∀ j : Nat, dt65 80 j = dt 80 j := fun j => (hF67 80 (by decide) j).trans (C59 j)
  have C121 : ∀ j : Nat, dt65 81 j = dt 81 j := fun j => (hF67 81 (by decide) j).trans (C60 j)
  have C122 : ∀ j : Nat, dt65 85 j = dt 85 j := fun j => (hF67 85 (by decide) j).trans (C61 j)
  refine go_toq PM267 (k := 2) (pc' := 1435) (L' := [some (.inr (.inr (some 3000))), some (.inr (.inr (some 0))), some (.inr (.inr (some 79))), some (.inl i)]) (st' := []) (w' := (SH, dt65)) rfl ?_
  exact K dt65 hI66 hM69 M2102 (w70.trans (hk0.trans w86.symm)) (w71.trans (hk1.trans w87.symm)) (w72.trans (hk2.trans w88.symm)) (w73.trans (hk3.trans w89.symm)) (w74.trans (hk4.trans w90.symm)) (w75.trans (hk5.trans w91.symm)) (w76.trans (hk6.trans w92.symm)) (w77.trans (hk7.trans w93.symm)) (w78.trans (hk8.trans w94.symm)) (w79.trans (hk9.trans w95.symm)) (w80.trans (hk10.trans w96.symm)) (w81.trans (hk11.trans w97.symm)) (w82.trans (hk12.trans w98.symm)) (w83.trans (hk13.trans w99.symm)) (w84.trans (hk14.trans w100.symm)) (w85.trans (hk15.trans w101.symm)) (by first | exact hI | exact TPL_k hd0 C119 C122 (by omega) | (exfalso; omega)) (by first | exact hI | exact SCL_k hd1 hM (fun j _ => C103 j) (fun j _ => C104 j) (fun j _ _ => C120 j) | (exfalso; omega)) (by first | exact hI | exact SCL_k hd2 hM2 (fun j _ => C111 j) (fun j _ => C112 j) (fun j _ _ => C121 j) | (exfalso; omega)) (by first | exact hI | exact QRL_k hd3 hM (fun j _ => C108 j) (C120 1) (fun j _ _ => C120 j) | (exfalso; omega)) (by first | exact hI | exact QRL_k hd4 hM2 (fun j _ => C116 j) (C121 1) (fun j _ _ => C121 j) | (exfalso; omega)) (by first | exact hI | exact SDL_k hd5 hM (fun j _ => C109 j) (C120 1) (fun j _ _ => C120 j) (fun j _ _ => C120 j) | (exfalso; omega)) (by first | exact hI | exact SDL_k hd6 hM2 (fun j _ => C117 j) (C121 1) (fun j _ _ => C121 j) (fun j _ _ => C121 j) | (exfalso; omega)) (by first | exact hI | exact LWL_k hd7 hM (fun j _ => C105 j) (fun j _ => C106 j) (fun j _ => C107 j) (fun j _ _ => C120 j) | (exfalso; omega)) (by first | exact hI | exact LWL_k hd8 hM2 (fun j _ => C113 j) (fun j _ => C114 j) (fun j _ => C115 j) (fun j _ _ => C121 j) | (exfalso; omega)) (by first | exact hI | exact CHL_k hd9 hM (fun j _ => C110 j) (by omega) (fun j _ _ => C120 j) | (exfalso; omega)) (by first | exact hI | exact CHL_k hd10 hM2 (fun j _ => C118 j) (by omega) (fun j _ _ => C121 j) | (exfalso; omega))
set_option maxRecDepth 20000 in
set_option maxHeartbeats 8000000 in
theorem sp_case21 (L : Nat) (xs : Nat → Int32) (sio : Option Nat) (d : Nat) (Q : Option AV → am_W → Prop) (hLL : L ≤ 3072) (i : Int) (hi : 0 ≤ i ∧ i ≤ 3066) (hil : i ≤ (L : Int) - 6) (dt : Nat → Nat → Int) (hI : InvC dt) (hM : MW (dt 80)) (hM2 : MW (dt 81)) (hk0 : dt 1 0 = dt 80 0) (hk1 : dt 7 3 = dt 80 1) (hk2 : dt 10 3 = dt 80 2) (hk3 : dt 12 3 = dt 80 3) (hk4 : dt 14 3 = dt 80 4) (hk5 : dt 16 3 = dt 80 5) (hk6 : dt 18 0 = dt 81 0) (hk7 : dt 24 3 = dt 81 1) (hk8 : dt 27 3 = dt 81 2) (hk9 : dt 29 3 = dt 81 3) (hk10 : dt 31 3 = dt 81 4) (hk11 : dt 33 3 = dt 81 5) (hk12 : dt 0 2 = dt 79 2) (hk13 : dt 35 1 = dt 79 12) (hk14 : dt 35 2 = dt 79 19) (hk15 : dt 35 3 = dt 79 21) (hd0 : TPL (dt 36) (dt 85) (dt 35 1)) (hd1 : SCL (dt 2) (dt 3) (dt 80)) (hd2 : SCL (dt 19) (dt 20) (dt 81)) (hd3 : QRL (dt 8) (dt 80)) (hd4 : QRL (dt 25) (dt 81)) (hd5 : SDL (dt 9) (dt 80)) (hd6 : SDL (dt 26) (dt 81)) (hd7 : LWL (dt 4) (dt 5) (dt 6) (dt 80)) (hd8 : LWL (dt 21) (dt 22) (dt 23) (dt 81)) (hd9 : CHL (dt 11) (dt 80)) (hd10 : CHL (dt 28) (dt 81)) (K : ∀ (dt : Nat → Nat → Int) (hI : InvC dt) (hM : MW (dt 80)) (hM2 : MW (dt 81)) (hk0 : dt 1 0 = dt 80 0) (hk1 : dt 7 3 = dt 80 1) (hk2 : dt 10 3 = dt 80 2) (hk3 : dt 12 3 = dt 80 3) (hk4 : dt 14 3 = dt 80 4) (hk5 : dt 16 3 = dt 80 5) (hk6 : dt 18 0 = dt 81 0) (hk7 : dt 24 3 = dt 81 1) (hk8 : dt 27 3 = dt 81 2) (hk9 : dt 29 3 = dt 81 3) (hk10 : dt 31 3 = dt 81 4) (hk11 : dt 33 3 = dt 81 5) (hk12 : dt 0 2 = dt 79 2) (hk13 : dt 35 1 = dt 79 12) (hk14 : dt 35 2 = dt 79 19) (hk15 : dt 35 3 = dt 79 21) (hd0 : TPL (dt 36) (dt 85) (dt 35 1)) (hd1 : SCL (dt 2) (dt 3) (dt 80)) (hd2 : SCL (dt 19) (dt 20) (dt 81)) (hd3 : QRL (dt 8) (dt 80)) (hd4 : QRL (dt 25) (dt 81)) (hd5 : SDL (dt 9) (dt 80)) (hd6 : SDL (dt 26) (dt 81)) (hd7 : LWL (dt 4) (dt 5) (dt 6) (dt 80)) (hd8 : LWL (dt 21) (dt 22) (dt 23) (dt 81)) (hd9 : CHL (dt 11) (dt 80)) (hd10 : CHL (dt 28) (dt 81)), GO (am_XX L xs sio) (d + 39) 267 1435 [some (.inr (.inr (some 3000))), some (.inr (.inr (some 0))), some (.inr (.inr (some 79))), some (.inl i)] [] (SH, dt) Q) : GO (am_XX L xs sio) (d + 39) 267 1053 [some (.inr (.inr (some 3000))), some (.inr (.inr (some 0))), some (.inr (.inr (some 79))), some (.inl i)] [] (SH, dt) Q := by
  have hF : Fr [0, 1, 2, 3, 4, 5, 6, 7, 8, 9, 10, 11, 12, 13, 14, 15, 16, 17, 18, 19, 20, 21, 22, 23, 24, 25, 26, 27, 28, 29, 30, 31, 32, 33, 34, 35, 36, 37, 38, 39, 40, 41, 42, 43, 44, 45, 46, 47, 48, 49, 50, 51, 52, 53, 54, 55, 56, 57, 58, 59, 60, 61, 62, 63, 64, 65, 66, 67, 68, 69, 70, 71, 72, 73, 74, 75, 76, 77, 78, 79, 80, 81, 82, 83, 84, 85, 86, 87, 88, 89, 90, 91, 92, 93, 94, 95, 96, 97, 98, 99, 100, 101, 102, 103, 104] dt dt := Fr_refl
  have hqo := QOC_R hd3 hM hk1
  have hb1_ := hM.1.1
  have hb2_ := hM.1.2.1
  have hb3_ := hM.1.2.2.1
  have halk : ALK dt (dt 80) := ⟨hd7, hd3, hd5, hd9, hk1, hk2⟩
  refine go_toq PM267 (k := 5) (pc' := 1058) (L' := [some (.inr (.inr (some 3000))), some (.inr (.inr (some 0))), some (.inr (.inr (some 79))), some (.inl i)]) (st' := [.inl (i + 1), .inr (.inr (some 3000)), .inr (.inr (some 0))]) (w' := (SH, dt)) rfl ?_
  have r1 := i32_R (xs ((i + 1).toNat))
  refine go_smpq PM267 (L' := [some (.inr (.inr (some 3000))), some (.inr (.inr (some 0))), some (.inr (.inr (some 79))), some (.inl i)]) (st' := [.inl ((xs ((i + 1).toNat)).toInt), .inr (.inr (some 0))]) (w' := (SH, dt)) rfl rfl (s_iald (n := L) (f := fun j => (xs j).toInt) (am_scr hLL) ⟨by omega, by omega⟩) ?_
  refine go_toq PM267 (k := 4) (pc' := 1063) (L' := [some (.inr (.inr (some 3000))), some (.inr (.inr (some 0))), some (.inr (.inr (some 79))), some (.inl i)]) (st' := [.inl (i + 2), .inr (.inr (some 3000)), .inl ((xs ((i + 1).toNat)).toInt), .inr (.inr (some 0))]) (w' := (SH, dt)) rfl ?_
  have r2 := i32_R (xs ((i + 2).toNat))
  refine go_smpq PM267 (L' := [some (.inr (.inr (some 3000))), some (.inr (.inr (some 0))), some (.inr (.inr (some 79))), some (.inl i)]) (st' := [.inl ((xs ((i + 2).toNat)).toInt), .inl ((xs ((i + 1).toNat)).toInt), .inr (.inr (some 0))]) (w' := (SH, dt)) rfl rfl (s_iald (n := L) (f := fun j => (xs j).toInt) (am_scr hLL) ⟨by omega, by omega⟩) ?_
  refine go_callq PM267 PM88 (Q' := _) rfl rfl rfl rfl (sp_X5_pulls L xs sio (d + 35) dt hI  ((xs ((i + 1).toNat)).toInt) ⟨by omega, by omega⟩ ((xs ((i + 2).toNat)).toInt) ⟨by omega, by omega⟩ ) ?_
  rintro _ _ ⟨rfl, h3⟩
  refine ⟨rfl, ?_⟩
  rcases h3 with ⟨v_h3, rfl, h3r, h3⟩
  refine go_toq PM267 (k := 6) (pc' := 1073) (L' := [some (.inr (.inr (some 3000))), some (.inr (.inr (some 0))), some (.inr (.inr (some 79))), some (.inl i)]) (st' := [.inl (i + 1), .inr (.inr (some 3000)), .inr (.inr (some 79))]) (w' := (SH, dt)) rfl ?_
  refine go_smpq PM267 (L' := [some (.inr (.inr (some 3000))), some (.inr (.inr (some 0))), some (.inr (.inr (some 79))), some (.inl i)]) (st' := [.inl ((xs ((i + 1).toNat)).toInt), .inr (.inr (some 79))]) (w' := (SH, dt)) rfl rfl (s_iald (n := L) (f := fun j => (xs j).toInt) (am_scr hLL) ⟨by omega, by omega⟩) ?_
  refine go_toq PM267 (k := 4) (pc' := 1078) (L' := [some (.inr (.inr (some 3000))), some (.inr (.inr (some 0))), some (.inr (.inr (some 79))), some (.inl i)]) (st' := [.inl (i + 2), .inr (.inr (some 3000)), .inl ((xs ((i + 1).toNat)).toInt), .inr (.inr (some 79))]) (w' := (SH, dt)) rfl ?_
  refine go_smpq PM267 (L' := [some (.inr (.inr (some 3000))), some (.inr (.inr (some 0))), some (.inr (.inr (some 79))), some (.inl i)]) (st' := [.inl ((xs ((i + 2).toNat)).toInt), .inl ((xs ((i + 1).toNat)).toInt), .inr (.inr (some 79))]) (w' := (SH, dt)) rfl rfl (s_iald (n := L) (f := fun j => (xs j).toInt) (am_scr hLL) ⟨by omega, by omega⟩) ?_
  refine go_callq PM267 PM230 (Q' := _) rfl rfl rfl rfl (sp_X6_pulls L xs sio (d + 31) dt hI hM  ((xs ((i + 1).toNat)).toInt) ⟨by omega, by omega⟩ ((xs ((i + 2).toNat)).toInt) ⟨by omega, by omega⟩ ) ?_
  rintro _ _ ⟨dt5, rfl, hI6, hF7, h4⟩
  refine ⟨rfl, ?_⟩
  have hF8 : Fr [0, 1, 2, 3, 4, 5, 6, 7, 8, 9, 10, 11, 12, 13, 14, 15, 16, 17, 18, 19, 20, 21, 22, 23, 24, 25, 26, 27, 28, 29, 30, 31, 32, 33, 34, 35, 36, 37, 38, 39, 40, 41, 42, 43, 44, 45, 46, 47, 48, 49, 50, 51, 52, 53, 54, 55, 56, 57, 58, 59, 60, 61, 62, 63, 64, 65, 66, 67, 68, 69, 70, 71, 72, 73, 74, 75, 76, 77, 78, 79, 80, 81, 82, 83, 84, 85, 86, 87, 88, 89, 90, 91, 92, 93, 94, 95, 96, 97, 98, 99, 100, 101, 102, 103, 104] dt dt5 := Fr_tr hF hF7 (by decide)
  have hM9 : MW (dt5 80) := MW_fr hM hF7 (by decide)
  have w10 : dt5 1 0 = dt 1 0 := hF7 1 (by decide) 0
  have w11 : dt5 7 3 = dt 7 3 := hF7 7 (by decide) 3
  have w12 : dt5 10 3 = dt 10 3 := hF7 10 (by decide) 3
  have w13 : dt5 12 3 = dt 12 3 := hF7 12 (by decide) 3
  have w14 : dt5 14 3 = dt 14 3 := hF7 14 (by decide) 3
  have w15 : dt5 16 3 = dt 16 3 := hF7 16 (by decide) 3
  have w16 : dt5 18 0 = dt 18 0 := hF7 18 (by decide) 0
  have w17 : dt5 24 3 = dt 24 3 := hF7 24 (by decide) 3
  have w18 : dt5 27 3 = dt 27 3 := hF7 27 (by decide) 3
  have w19 : dt5 29 3 = dt 29 3 := hF7 29 (by decide) 3
  have w20 : dt5 31 3 = dt 31 3 := hF7 31 (by decide) 3
  have w21 : dt5 33 3 = dt 33 3 := hF7 33 (by decide) 3
  have w22 : dt5 0 2 = dt 0 2 := hF7 0 (by decide) 2
  have w23 : dt5 35 1 = dt 35 1 := hF7 35 (by decide) 1
  have w24 : dt5 35 2 = dt 35 2 := hF7 35 (by decide) 2
  have w25 : dt5 35 3 = dt 35 3 := hF7 35 (by decide) 3
  have w26 : dt5 80 0 = dt 80 0 := hF7 80 (by decide) 0
  have w27 : dt5 80 1 = dt 80 1 := hF7 80 (by decide) 1
  have w28 : dt5 80 2 = dt 80 2 := hF7 80 (by decide) 2
  have w29 : dt5 80 3 = dt 80 3 := hF7 80 (by decide) 3
  have w30 : dt5 80 4 = dt 80 4 := hF7 80 (by decide) 4
  have w31 : dt5 80 5 = dt 80 5 := hF7 80 (by decide) 5
  have w32 : dt5 81 0 = dt 81 0 := hF7 81 (by decide) 0
  have w33 : dt5 81 1 = dt 81 1 := hF7 81 (by decide) 1
  have w34 : dt5 81 2 = dt 81 2 := hF7 81 (by decide) 2
  have w35 : dt5 81 3 = dt 81 3 := hF7 81 (by decide) 3
  have w36 : dt5 81 4 = dt 81 4 := hF7 81 (by decide) 4
  have w37 : dt5 81 5 = dt 81 5 := hF7 81 (by decide) 5
  have w38 : dt5 79 2 = dt 79 2 := hF7 79 (by decide) 2
  have w39 : dt5 79 12 = dt 79 12 := hF7 79 (by decide) 12
  have w40 : dt5 79 19 = dt 79 19 := hF7 79 (by decide) 19
  have w41 : dt5 79 21 = dt 79 21 := hF7 79 (by decide) 21
  rcases h4 with ⟨v_h4, rfl, h4r, h4⟩
  have M242 : MW (dt5 81) := MW_frk hM2 hF7 (by decide)
  have C43 : ∀ j : Nat, dt5 2 j = dt 2 j := fun j => (hF7 2 (by decide) j).trans ((fun _ => rfl) j)
  have C44 : ∀ j : Nat, dt5 3 j = dt 3 j := fun j => (hF7 3 (by decide) j).trans ((fun _ => rfl) j)
  have C45 : ∀ j : Nat, dt5 4 j = dt 4 j := fun j => (hF7 4 (by decide) j).trans ((fun _ => rfl) j)
  have C46 : ∀ j : Nat, dt5 5 j = dt 5 j := fun j => (hF7 5 (by decide) j).trans ((fun _ => rfl) j)
  have C47 : ∀ j : Nat, dt5 6 j = dt 6 j := fun j => (hF7 6 (by decide) j).trans ((fun _ => rfl) j)
  have C48 : ∀ j : Nat, dt5 8 j = dt 8 j := fun j => (hF7 8 (by decide) j).trans ((fun _ => rfl) j)
  have C49 : ∀ j : Nat, dt5 9 j = dt 9 j := fun j => (hF7 9 (by decide) j).trans ((fun _ => rfl) j)
  have C50 : ∀ j : Nat, dt5 11 j = dt 11 j := fun j => (hF7 11 (by decide) j).trans ((fun _ => rfl) j)
  have C51 : ∀ j : Nat, dt5 19 j = dt 19 j := fun j => (hF7 19 (by decide) j).trans ((fun _ => rfl) j)
  have C52 : ∀ j : Nat, dt5 20 j = dt 20 j := fun j => (hF7 20 (by decide) j).trans ((fun _ => rfl) j)
  have C53 : ∀ j : Nat, dt5 21 j = dt 21 j := fun j => (hF7 21 (by decide) j).trans ((fun _ => rfl) j)
  have C54 : ∀ j : Nat, dt5 22 j = dt 22 j := fun j => (hF7 22 (by decide) j).trans ((fun _ => rfl) j)
  have C55 : ∀ j : Nat, dt5 23 j = dt 23 j := fun j => (hF7 23 (by decide) j).trans ((fun _ => rfl) j)
  have C56 : ∀ j : Nat, dt5 25 j = dt 25 j := fun j => (hF7 25 (by decide) j).trans ((fun _ => rfl) j)
  have C57 : ∀ j : Nat, dt5 26 j = dt 26 j := fun j => (hF7 26 (by decide) j).trans ((fun _ => rfl) j)
  have C58 : ∀ j : Nat, dt5 28 j = dt 28 j := fun j => (hF7 28 (by decide) j).trans ((fun _ => rfl) j)
  have C59 : ∀ j : Nat, dt5 36 j = dt 36 j := fun j => (hF7 36 (by decide) j).trans ((fun _ => rfl) j)
  have C60 : ∀ j : Nat, dt5 80 j = dt 80 j := fun j => (hF7 80 (by decide) j).trans ((fun _ => rfl) j)
  have C61 : ∀ j : Nat, dt5 81 j = dt 81 j := fun j => (hF7 81 (by decide) j).trans ((fun _ => rfl) j)
  have C62 : ∀ j : Nat, dt5 85 j = dt 85 j := fun j => (hF7 85 (by decide) j).trans ((fun _ => rfl) j)
  refine go_toq PM267 (k := 2) (pc' := 1435) (L' := [some (.inr (.inr (some 3000))), some (.inr (.inr (some 0))), some (.inr (.inr (some 79))), some (.inl i)]) (st' := []) (w' := (SH, dt5)) rfl ?_
  exact K dt5 hI6 hM9 M242 (w10.trans (hk0.trans w26.symm)) (w11.trans (hk1.trans w27.symm)) (w12.trans (hk2.trans w28.symm)) (w13.trans (hk3.trans w29.symm)) (w14.trans (hk4.trans w30.symm)) (w15.trans (hk5.trans w31.symm)) (w16.trans (hk6.trans w32.symm)) (w17.trans (hk7.trans w33.symm)) (w18.trans (hk8.trans w34.symm)) (w19.trans (hk9.trans w35.symm)) (w20.trans (hk10.trans w36.symm)) (w21.trans (hk11.trans w37.symm)) (w22.trans (hk12.trans w38.symm)) (w23.trans (hk13.trans w39.symm)) (w24.trans (hk14.trans w40.symm)) (w25.trans (hk15.trans w41.symm)) (by first | exact hI | exact TPL_k hd0 C59 C62 (by omega) | (exfalso; omega)) (by first | exact hI | exact SCL_k hd1 hM (fun j _ => C43 j) (fun j _ => C44 j) (fun j _ _ => C60 j) | (exfalso; omega)) (by first | exact hI | exact SCL_k hd2 hM2 (fun j _ => C51 j) (fun j _ => C52 j) (fun j _ _ => C61 j) | (exfalso; omega)) (by first | exact hI | exact QRL_k hd3 hM (fun j _ => C48 j) (C60 1) (fun j _ _ => C60 j) | (exfalso; omega)) (by first | exact hI | exact QRL_k hd4 hM2 (fun j _ => C56 j) (C61 1) (fun j _ _ => C61 j) | (exfalso; omega)) (by first | exact hI | exact SDL_k hd5 hM (fun j _ => C49 j) (C60 1) (fun j _ _ => C60 j) (fun j _ _ => C60 j) | (exfalso; omega)) (by first | exact hI | exact SDL_k hd6 hM2 (fun j _ => C57 j) (C61 1) (fun j _ _ => C61 j) (fun j _ _ => C61 j) | (exfalso; omega)) (by first | exact hI | exact LWL_k hd7 hM (fun j _ => C45 j) (fun j _ => C46 j) (fun j _ => C47 j) (fun j _ _ => C60 j) | (exfalso; omega)) (by first | exact hI | exact LWL_k hd8 hM2 (fun j _ => C53 j) (fun j _ => C54 j) (fun j _ => C55 j) (fun j _ _ => C61 j) | (exfalso; omega)) (by first | exact hI | exact CHL_k hd9 hM (fun j _ => C50 j) (by omega) (fun j _ _ => C60 j) | (exfalso; omega)) (by first | exact hI | exact CHL_k hd10 hM2 (fun j _ => C58 j) (by omega) (fun j _ _ => C61 j) | (exfalso; omega))
