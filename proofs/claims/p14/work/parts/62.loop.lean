theorem am_scr {L : Nat} {xs : Nat → Int32} {sio : Option Nat} {dt : Nat → Nat → Int} (h : L ≤ 3072) : am_arr (am_XX L xs sio) (SH, dt) 3000 = some (0, L, fun j => (xs j).toInt) := by
  have e : SH[3000]? = none := by decide +kernel
  unfold am_arr
  rw [show (SH, dt).1[3000]? = none from e]
  dsimp only [am_XX]
  rw [if_pos rfl]
  dsimp only
  have : Nat.blt L 2147483648 = true := Nat.blt_eq.mpr (by omega)
  rw [this]
  rfl
theorem s_alen {X : am_X} {L : am_L} {w : am_W} {tg : List Nat} {cv : Int} {r n ty : Nat} {f : Nat → Int} {rest : List AV} (hw : am_arr X w r = some (ty, n, f)) (h : Nat.blt ty 4 = true) : am_smp X .arraylength tg cv L (.inr (.inr (some r)) :: rest) w = some (L, .inl (n : Int) :: rest, w) := by
  simp only [am_smp, hw, h, cond_true]

set_option maxRecDepth 20000 in
set_option maxHeartbeats 8000000 in
theorem sp_case0 (L : Nat) (xs : Nat → Int32) (sio : Option Nat) (d : Nat) (Q : Option AV → am_W → Prop) (hLL : L ≤ 3072) (i : Int) (hi : 0 ≤ i ∧ i ≤ 3066) (hil : i ≤ (L : Int) - 6) (dt : Nat → Nat → Int) (hI : InvC dt) (hM : MW (dt 80)) (hM2 : MW (dt 81)) (hk0 : dt 1 0 = dt 80 0) (hk1 : dt 7 3 = dt 80 1) (hk2 : dt 10 3 = dt 80 2) (hk3 : dt 12 3 = dt 80 3) (hk4 : dt 14 3 = dt 80 4) (hk5 : dt 16 3 = dt 80 5) (hk6 : dt 18 0 = dt 81 0) (hk7 : dt 24 3 = dt 81 1) (hk8 : dt 27 3 = dt 81 2) (hk9 : dt 29 3 = dt 81 3) (hk10 : dt 31 3 = dt 81 4) (hk11 : dt 33 3 = dt 81 5) (hk12 : dt 0 2 = dt 79 2) (hk13 : dt 35 1 = dt 79 12) (hk14 : dt 35 2 = dt 79 19) (hk15 : dt 35 3 = dt 79 21) (hd0 : TPL (dt 36) (dt 85) (dt 35 1)) (hd1 : SCL (dt 2) (dt 3) (dt 80)) (hd2 : SCL (dt 19) (dt 20) (dt 81)) (hd3 : QRL (dt 8) (dt 80)) (hd4 : QRL (dt 25) (dt 81)) (hd5 : SDL (dt 9) (dt 80)) (hd6 : SDL (dt 26) (dt 81)) (hd7 : LWL (dt 4) (dt 5) (dt 6) (dt 80)) (hd8 : LWL (dt 21) (dt 22) (dt 23) (dt 81)) (hd9 : CHL (dt 11) (dt 80)) (hd10 : CHL (dt 28) (dt 81)) (K : ∀ (dt : Nat → Nat → Int) (hI : InvC dt) (hM : MW (dt 80)) (hM2 : MW (dt 81)) (hk0 : dt 1 0 = dt 80 0) (hk1 : dt 7 3 = dt 80 1) (hk2 : dt 10 3 = dt 80 2) (hk3 : dt 12 3 = dt 80 3) (hk4 : dt 14 3 = dt 80 4) (hk5 : dt 16 3 = dt 80 5) (hk6 : dt 18 0 = dt 81 0) (hk7 : dt 24 3 = dt 81 1) (hk8 : dt 27 3 = dt 81 2) (hk9 : dt 29 3 = dt 81 3) (hk10 : dt 31 3 = dt 81 4) (hk11 : dt 33 3 = dt 81 5) (hk12 : dt 0 2 = dt 79 2) (hk13 : dt 35 1 = dt 79 12) (hk14 : dt 35 2 = dt 79 19) (hk15 : dt 35 3 = dt 79 21) (hd0 : TPL (dt 36) (dt 85) (dt 35 1)) (hd1 : SCL (dt 2) (dt 3) (dt 80)) (hd2 : SCL (dt 19) (dt 20) (dt 81)) (hd3 : QRL (dt 8) (dt 80)) (hd4 : QRL (dt 25) (dt 81)) (hd5 : SDL (dt 9) (dt 80)) (hd6 : SDL (dt 26) (dt 81)) (hd7 : LWL (dt 4) (dt 5) (dt 6) (dt 80)) (hd8 : LWL (dt 21) (dt 22) (dt 23) (dt 81)) (hd9 : CHL (dt 11) (dt 80)) (hd10 : CHL (dt 28) (dt 81)), GO (am_XX L xs sio) (d + 39) 267 1435 [some (.inr (.inr (some 3000))), some (.inr (.inr (some 0))), some (.inr (.inr (some 79))), some (.inl i)] [] (SH, dt) Q) : GO (am_XX L xs sio) (d + 39) 267 180 [some (.inr (.inr (some 3000))), some (.inr (.inr (some 0))), some (.inr (.inr (some 79))), some (.inl i)] [] (SH, dt) Q := by
  have hF : Fr [0, 1, 2, 3, 4, 5, 6, 7, 8, 9, 10, 11, 12, 13, 14, 15, 16, 17, 18, 19, 20, 21, 22, 23, 24, 25, 26, 27, 28, 29, 30, 31, 32, 33, 34, 35, 36, 37, 38, 39, 40, 41, 42, 43, 44, 45, 46, 47, 48, 49, 50, 51, 52, 53, 54, 55, 56, 57, 58, 59, 60, 61, 62, 63, 64, 65, 66, 67, 68, 69, 70, 71, 72, 73, 74, 75, 76, 77, 78, 79, 80, 81, 82, 83, 84, 85, 86, 87, 88, 89, 90, 91, 92, 93, 94, 95, 96, 97, 98, 99, 100, 101, 102, 103, 104] dt dt := Fr_refl
  have hqo := QOC_R hd3 hM hk1
  have hb1_ := hM.1.1
  have hb2_ := hM.1.2.1
  have hb3_ := hM.1.2.2.1
  have halk : ALK dt (dt 80) := ⟨hd7, hd3, hd5, hd9, hk1, hk2⟩
  refine go_toq PM267 (k := 5) (pc' := 185) (L' := [some (.inr (.inr (some 3000))), some (.inr (.inr (some 0))), some (.inr (.inr (some 79))), some (.inl i)]) (st' := [.inl (i + 1), .inr (.inr (some 3000)), .inr (.inr (some 0))]) (w' := (SH, dt)) rfl ?_
  have r1 := i32_R (xs ((i + 1).toNat))
  refine go_smpq PM267 (L' := [some (.inr (.inr (some 3000))), some (.inr (.inr (some 0))), some (.inr (.inr (some 79))), some (.inl i)]) (st' := [.inl ((xs ((i + 1).toNat)).toInt), .inr (.inr (some 0))]) (w' := (SH, dt)) rfl rfl (s_iald (n := L) (f := fun j => (xs j).toInt) (am_scr hLL) ⟨by omega, by omega⟩) ?_
  refine go_callq PM267 PM67 (Q' := _) rfl rfl rfl rfl (sp_X5_state L xs sio (d + 38) dt hI  ((xs ((i + 1).toNat)).toInt) ⟨by omega, by omega⟩ ) ?_
  rintro _ _ ⟨dt3, rfl, hI4, hF5, h2⟩
  refine ⟨rfl, ?_⟩
  have hF6 : Fr [0, 1, 2, 3, 4, 5, 6, 7, 8, 9, 10, 11, 12, 13, 14, 15, 16, 17, 18, 19, 20, 21, 22, 23, 24, 25, 26, 27, 28, 29, 30, 31, 32, 33, 34, 35, 36, 37, 38, 39, 40, 41, 42, 43, 44, 45, 46, 47, 48, 49, 50, 51, 52, 53, 54, 55, 56, 57, 58, 59, 60, 61, 62, 63, 64, 65, 66, 67, 68, 69, 70, 71, 72, 73, 74, 75, 76, 77, 78, 79, 80, 81, 82, 83, 84, 85, 86, 87, 88, 89, 90, 91, 92, 93, 94, 95, 96, 97, 98, 99, 100, 101, 102, 103, 104] dt dt3 := Fr_tr hF hF5 (by decide)
  have hM7 : MW (dt3 80) := MW_fr hM hF5 (by decide)
  have w8 : dt3 7 3 = dt 7 3 := hF5 7 (by decide) 3
  have w9 : dt3 10 3 = dt 10 3 := hF5 10 (by decide) 3
  have w10 : dt3 12 3 = dt 12 3 := hF5 12 (by decide) 3
  have w11 : dt3 14 3 = dt 14 3 := hF5 14 (by decide) 3
  have w12 : dt3 16 3 = dt 16 3 := hF5 16 (by decide) 3
  have w13 : dt3 18 0 = dt 18 0 := hF5 18 (by decide) 0
  have w14 : dt3 24 3 = dt 24 3 := hF5 24 (by decide) 3
  have w15 : dt3 27 3 = dt 27 3 := hF5 27 (by decide) 3
  have w16 : dt3 29 3 = dt 29 3 := hF5 29 (by decide) 3
  have w17 : dt3 31 3 = dt 31 3 := hF5 31 (by decide) 3
  have w18 : dt3 33 3 = dt 33 3 := hF5 33 (by decide) 3
  have w19 : dt3 0 2 = dt 0 2 := hF5 0 (by decide) 2
  have w20 : dt3 35 1 = dt 35 1 := hF5 35 (by decide) 1
  have w21 : dt3 35 2 = dt 35 2 := hF5 35 (by decide) 2
  have w22 : dt3 35 3 = dt 35 3 := hF5 35 (by decide) 3
  have w23 : dt3 80 0 = dt 80 0 := hF5 80 (by decide) 0
  have w24 : dt3 80 1 = dt 80 1 := hF5 80 (by decide) 1
  have w25 : dt3 80 2 = dt 80 2 := hF5 80 (by decide) 2
  have w26 : dt3 80 3 = dt 80 3 := hF5 80 (by decide) 3
  have w27 : dt3 80 4 = dt 80 4 := hF5 80 (by decide) 4
  have w28 : dt3 80 5 = dt 80 5 := hF5 80 (by decide) 5
  have w29 : dt3 81 0 = dt 81 0 := hF5 81 (by decide) 0
  have w30 : dt3 81 1 = dt 81 1 := hF5 81 (by decide) 1
  have w31 : dt3 81 2 = dt 81 2 := hF5 81 (by decide) 2
  have w32 : dt3 81 3 = dt 81 3 := hF5 81 (by decide) 3
  have w33 : dt3 81 4 = dt 81 4 := hF5 81 (by decide) 4
  have w34 : dt3 81 5 = dt 81 5 := hF5 81 (by decide) 5
  have w35 : dt3 79 2 = dt 79 2 := hF5 79 (by decide) 2
  have w36 : dt3 79 12 = dt 79 12 := hF5 79 (by decide) 12
  have w37 : dt3 79 19 = dt 79 19 := hF5 79 (by decide) 19
  have w38 : dt3 79 21 = dt 79 21 := hF5 79 (by decide) 21
  rcases h2 with ⟨rfl, h2⟩
  have M239 : MW (dt3 81) := MW_frk hM2 hF5 (by decide)
  have C40 : ∀ j : Nat, dt3 2 j = dt 2 j := fun j => (hF5 2 (by decide) j).trans ((fun _ => rfl) j)
  have C41 : ∀ j : Nat, dt3 3 j = dt 3 j := fun j => (hF5 3 (by decide) j).trans ((fun _ => rfl) j)
  have C42 : ∀ j : Nat, dt3 4 j = dt 4 j := fun j => (hF5 4 (by decide) j).trans ((fun _ => rfl) j)
  have C43 : ∀ j : Nat, dt3 5 j = dt 5 j := fun j => (hF5 5 (by decide) j).trans ((fun _ => rfl) j)
  have C44 : ∀ j : Nat, dt3 6 j = dt 6 j := fun j => (hF5 6 (by decide) j).trans ((fun _ => rfl) j)
  have C45 : ∀ j : Nat, dt3 8 j = dt 8 j := fun j => (hF5 8 (by decide) j).trans ((fun _ => rfl) j)
  have C46 : ∀ j : Nat, dt3 9 j = dt 9 j := fun j => (hF5 9 (by decide) j).trans ((fun _ => rfl) j)
  have C47 : ∀ j : Nat, dt3 11 j = dt 11 j := fun j => (hF5 11 (by decide) j).trans ((fun _ => rfl) j)
  have C48 : ∀ j : Nat, dt3 19 j = dt 19 j := fun j => (hF5 19 (by decide) j).trans ((fun _ => rfl) j)
  have C49 : ∀ j : Nat, dt3 20 j = dt 20 j := fun j => (hF5 20 (by decide) j).trans ((fun _ => rfl) j)
  have C50 : ∀ j : Nat, dt3 21 j = dt 21 j := fun j => (hF5 21 (by decide) j).trans ((fun _ => rfl) j)
  have C51 : ∀ j : Nat, dt3 22 j = dt 22 j := fun j => (hF5 22 (by decide) j).trans ((fun _ => rfl) j)
  have C52 : ∀ j : Nat, dt3 23 j = dt 23 j := fun j => (hF5 23 (by decide) j).trans ((fun _ => rfl) j)
  have C53 : ∀ j : Nat, dt3 25 j = dt 25 j := fun j => (hF5 25 (by decide) j).trans ((fun _ => rfl) j)
  have C54 : ∀ j : Nat, dt3 26 j = dt 26 j := fun j => (hF5 26 (by decide) j).trans ((fun _ => rfl) j)
  have C55 : ∀ j : Nat, dt3 28 j = dt 28 j := fun j => (hF5 28 (by decide) j).trans ((fun _ => rfl) j)
  have C56 : ∀ j : Nat, dt3 36 j = dt 36 j := fun j => (hF5 36 (by decide) j).trans ((fun _ => rfl) j)
  have C57 : ∀ j : Nat, dt3 80 j = dt 80 j := fun j => (hF5 80 (by decide) j).trans ((fun _ => rfl) j)
  have C58 : ∀ j : Nat, dt3 81 j = dt 81 j := fun j => (hF5 81 (by decide) j).trans ((fun _ => rfl) j)
  have C59 : ∀ j : Nat, dt3 85 j = dt 85 j := fun j => (hF5 85 (by decide) j).trans ((fun _ => rfl) j)
  refine go_toq PM267 (k := 6) (pc' := 195) (L' := [some (.inr (.inr (some 3000))), some (.inr (.inr (some 0))), some (.inr (.inr (some 79))), some (.inl i)]) (st' := [.inl (i + 1), .inr (.inr (some 3000)), .inr (.inr (some 79))]) (w' := (SH, dt3)) rfl ?_
  have r60 := i32_R (xs ((i + 1).toNat))
  refine go_smpq PM267 (L' := [some (.inr (.inr (some 3000))), some (.inr (.inr (some 0))), some (.inr (.inr (some 79))), some (.inl i)]) (st' := [.inl ((xs ((i + 1).toNat)).toInt), .inr (.inr (some 79))]) (w' := (SH, dt3)) rfl rfl (s_iald (n := L) (f := fun j => (xs j).toInt) (am_scr hLL) ⟨by omega, by omega⟩) ?_
  refine go_callq PM267 PM149 (Q' := _) rfl rfl rfl rfl (sp_X6_state_v L xs sio (d + 38) dt3 hI4 hM7  ((xs ((i + 1).toNat)).toInt) ⟨by omega, by omega⟩ ) ?_
  rintro _ _ ⟨dt62, rfl, hI63, hF64, h61⟩
  refine ⟨rfl, ?_⟩
  have hF65 : Fr [0, 1, 2, 3, 4, 5, 6, 7, 8, 9, 10, 11, 12, 13, 14, 15, 16, 17, 18, 19, 20, 21, 22, 23, 24, 25, 26, 27, 28, 29, 30, 31, 32, 33, 34, 35, 36, 37, 38, 39, 40, 41, 42, 43, 44, 45, 46, 47, 48, 49, 50, 51, 52, 53, 54, 55, 56, 57, 58, 59, 60, 61, 62, 63, 64, 65, 66, 67, 68, 69, 70, 71, 72, 73, 74, 75, 76, 77, 78, 79, 80, 81, 82, 83, 84, 85, 86, 87, 88, 89, 90, 91, 92, 93, 94, 95, 96, 97, 98, 99, 100, 101, 102, 103, 104] dt dt62 := Fr_tr hF6 hF64 (by decide)
  have w66 : dt62 1 0 = dt3 1 0 := hF64 1 (by decide) 0
  have w67 : dt62 7 3 = dt 7 3 := (hF64 7 (by decide) 3).trans w8
  have w68 : dt62 10 3 = dt 10 3 := (hF64 10 (by decide) 3).trans w9
  have w69 : dt62 12 3 = dt 12 3 := (hF64 12 (by decide) 3).trans w10
  have w70 : dt62 14 3 = dt 14 3 := (hF64 14 (by decide) 3).trans w11
  have w71 : dt62 16 3 = dt 16 3 := (hF64 16 (by decide) 3).trans w12
  have w72 : dt62 18 0 = dt 18 0 := (hF64 18 (by decide) 0).trans w13
  have w73 : dt62 24 3 = dt 24 3 := (hF64 24 (by decide) 3).trans w14
  have w74 : dt62 27 3 = dt 27 3 := (hF64 27 (by decide) 3).trans w15
  have w75 : dt62 29 3 = dt 29 3 := (hF64 29 (by decide) 3).trans w16
  have w76 : dt62 31 3 = dt 31 3 := (hF64 31 (by decide) 3).trans w17
  have w77 : dt62 33 3 = dt 33 3 := (hF64 33 (by decide) 3).trans w18
  have w78 : dt62 0 2 = dt 0 2 := (hF64 0 (by decide) 2).trans w19
  have w79 : dt62 35 1 = dt 35 1 := (hF64 35 (by decide) 1).trans w20
  have w80 : dt62 35 2 = dt 35 2 := (hF64 35 (by decide) 2).trans w21
  have w81 : dt62 35 3 = dt 35 3 := (hF64 35 (by decide) 3).trans w22
  have w82 : dt62 81 0 = dt 81 0 := (hF64 81 (by decide) 0).trans w29
  have w83 : dt62 81 1 = dt 81 1 := (hF64 81 (by decide) 1).trans w30
  have w84 : dt62 81 2 = dt 81 2 := (hF64 81 (by decide) 2).trans w31
  have w85 : dt62 81 3 = dt 81 3 := (hF64 81 (by decide) 3).trans w32
  have w86 : dt62 81 4 = dt 81 4 := (hF64 81 (by decide) 4).trans w33
  have w87 : dt62 81 5 = dt 81 5 := (hF64 81 (by decide) 5).trans w34
  have w88 : dt62 79 2 = dt 79 2 := (hF64 79 (by decide) 2).trans w35
  have w89 : dt62 79 12 = dt 79 12 := (hF64 79 (by decide) 12).trans w36
  have w90 : dt62 79 19 = dt 79 19 := (hF64 79 (by decide) 19).trans w37
  have w91 : dt62 79 21 = dt 79 21 := (hF64 79 (by decide) 21).trans w38
  rcases h61 with ⟨rfl, h61⟩
  have hM92 : MW (dt62 80) := h61.2.1
  obtain ⟨h61_0, h61_1, h61_2, h61_3, h61_4, h61_5, h61_6, h61_7⟩ := h61
  have w93 : dt62 80 1 = dt 80 1 := h61_2.trans w24
  have w94 : dt62 80 2 = dt 80 2 := h61_3.trans w25
  have w95 : dt62 80 3 = dt 80 3 := h61_4.trans w26
  have w96 : dt62 80 4 = dt 80 4 := h61_5.trans w27
  have w97 : dt62 80 5 = dt 80 5 := h61_6.trans w28
  have M298 : MW (dt62 81) := MW_frk M239 hF64 (by decide)
  have C99 : ∀ j : Nat, dt62 2 j = dt 2 j := fun j => (hF64 2 (by decide) j).trans (C40 j)
  have C100 : ∀ j : Nat, dt62 3 j = dt 3 j := fun j => (hF64 3 (by decide) j).trans (C41 j)
  have C101 : ∀ j : Nat, dt62 4 j = dt 4 j := fun j => (hF64 4 (by decide) j).trans (C42 j)
  have C102 : ∀ j : Nat, dt62 5 j = dt 5 j := fun j => (hF64 5 (by decide) j).trans (C43 j)
  have C103 : ∀ j : Nat, dt62 6 j = dt 6 j := fun j => (hF64 6 (by decide) j).trans (C44 j)
  have C104 : ∀ j : Nat, dt62 8 j = dt 8 j := fun j => (hF64 8 (by decide) j).trans (C45 j)
  have C105 : ∀ j : Nat, dt62 9 j = dt 9 j := fun j => (hF64 9 (by decide) j).trans (C46 j)
  have C106 : ∀ j : Nat, dt62 11 j = dt 11 j := fun j => (hF64 11 (by decide) j).trans (C47 j)
  have C107 : ∀ j : Nat, dt62 19 j = dt 19 j := fun j => (hF64 19 (by decide) j).trans (C48 j)
  have C108 : ∀ j : Nat, dt62 20 j = dt 20 j := fun j => (hF64 20 (by decide) j).trans (C49 j)
  have C109 : ∀ j : Nat, dt62 21 j = dt 21 j := fun j => (hF64 21 (by decide) j).trans (C50 j)
  have C110 : ∀ j : Nat, dt62 22 j = dt 22 j := fun j => (hF64 22 (by decide) j).trans (C51 j)
  have C111 : ∀ j : Nat, dt62 23 j = dt 23 j := fun j => (hF64 23 (by decide) j).trans (C52 j)
  have C112 : ∀ j : Nat, dt62 25 j = dt 25 j := fun j => (hF64 25 (by decide) j).trans (C53 j)
  have C113 : ∀ j : Nat, dt62 26 j = dt 26 j := fun j => (hF64 26 (by decide) j).trans (C54 j)
  have C114 : ∀ j : Nat, dt62 28 j = dt 28 j := fun j => (hF64 28 (by decide) j).trans (C55 j)
  have C115 : ∀ j : Nat, dt62 36 j = dt 36 j := fun j => (hF64 36 (by decide) j).trans (C56 j)
  have C116 : ∀ j : Nat, dt62 81 j = dt 81 j := fun j => (hF64 81 (by decide) j).trans (C58 j)
  have C117 : ∀ j : Nat, dt62 85 j = dt 85 j := fun j => (hF64 85 (by decide) j).trans (C59 j)
  have F118 : ∀ j : Nat, 6 ≤ j → j < 974 → dt62 80 j = dt 80 j := fun j h1_ h2_ => (h61_7 j (by omega)).trans (C57 j)
  have F119 : ∀ j : Nat, 974 ≤ j → j < 5320 → dt62 80 j = dt 80 j := fun j h1_ h2_ => (h61_7 j (by omega)).trans (C57 j)
  have F120 : ∀ j : Nat, 5320 ≤ j → j < 5380 → dt62 80 j = dt 80 j := fun j h1_ h2_ => (h61_7 j (by omega)).trans (C57 j)
  have F121 : dt62 80 1 = dt 80 1 := (h61_7 1 (by omega)).trans (C57 1)
  have F122 : ∀ j : Nat, 5380 ≤ j → j < 5540 → dt62 80 j = dt 80 j := fun j h1_ h2_ => (h61_7 j (by omega)).trans (C57 j)
  refine go_toq PM267 (k := 2) (pc' := 1435) (L' := [some (.inr (.inr (some 3000))), some (.inr (.inr (some 0))), some (.inr (.inr (some 79))), some (.inl i)]) (st' := []) (w' := (SH, dt62)) rfl ?_
  exact K dt62 hI63 hM92 M298 (by first | omega | (simp only [*]; done) | simp only [*]) (w67.trans (hk1.trans w93.symm)) (w68.trans (hk2.trans w94.symm)) (w69.trans (hk3.trans w95.symm)) (w70.trans (hk4.trans w96.symm)) (w71.trans (hk5.trans w97.symm)) (w72.trans (hk6.trans w82.symm)) (w73.trans (hk7.trans w83.symm)) (w74.trans (hk8.trans w84.symm)) (w75.trans (hk9.trans w85.symm)) (w76.trans (hk10.trans w86.symm)) (w77.trans (hk11.trans w87.symm)) (w78.trans (hk12.trans w88.symm)) (w79.trans (hk13.trans w89.symm)) (w80.trans (hk14.trans w90.symm)) (w81.trans (hk15.trans w91.symm)) (by first | exact hI | exact TPL_k hd0 C115 C117 (by omega) | (exfalso; omega)) (by first | exact hI | exact SCL_k hd1 hM (fun j _ => C99 j) (fun j _ => C100 j) F118 | (exfalso; omega)) (by first | exact hI | exact SCL_k hd2 hM2 (fun j _ => C107 j) (fun j _ => C108 j) (fun j _ _ => C116 j) | (exfalso; omega)) (by first | exact hI | exact QRL_k hd3 hM (fun j _ => C104 j) F121 F120 | (exfalso; omega)) (by first | exact hI | exact QRL_k hd4 hM2 (fun j _ => C112 j) (C116 1) (fun j _ _ => C116 j) | (exfalso; omega)) (by first | exact hI | exact SDL_k hd5 hM (fun j _ => C105 j) F121 F118 F120 | (exfalso; omega)) (by first | exact hI | exact SDL_k hd6 hM2 (fun j _ => C113 j) (C116 1) (fun j _ _ => C116 j) (fun j _ _ => C116 j) | (exfalso; omega)) (by first | exact hI | exact LWL_k hd7 hM (fun j _ => C101 j) (fun j _ => C102 j) (fun j _ => C103 j) F119 | (exfalso; omega)) (by first | exact hI | exact LWL_k hd8 hM2 (fun j _ => C109 j) (fun j _ => C110 j) (fun j _ => C111 j) (fun j _ _ => C116 j) | (exfalso; omega)) (by first | exact hI | exact CHL_k hd9 hM (fun j _ => C106 j) (by omega) F122 | (exfalso; omega)) (by first | exact hI | exact CHL_k hd10 hM2 (fun j _ => C114 j) (by omega) (fun j _ _ => C116 j) | (exfalso; omega))
set_option maxRecDepth 20000 in
set_option maxHeartbeats 8000000 in
theorem sp_case1 (L : Nat) (xs : Nat → Int32) (sio : Option Nat) (d : Nat) (Q : Option AV → am_W → Prop) (hLL : L ≤ 3072) (i : Int) (hi : 0 ≤ i ∧ i ≤ 3066) (hil : i ≤ (L : Int) - 6) (dt : Nat → Nat → Int) (hI : InvC dt) (hM : MW (dt 80)) (hM2 : MW (dt 81)) (hk0 : dt 1 0 = dt 80 0) (hk1 : dt 7 3 = dt 80 1) (hk2 : dt 10 3 = dt 80 2) (hk3 : dt 12 3 = dt 80 3) (hk4 : dt 14 3 = dt 80 4) (hk5 : dt 16 3 = dt 80 5) (hk6 : dt 18 0 = dt 81 0) (hk7 : dt 24 3 = dt 81 1) (hk8 : dt 27 3 = dt 81 2) (hk9 : dt 29 3 = dt 81 3) (hk10 : dt 31 3 = dt 81 4) (hk11 : dt 33 3 = dt 81 5) (hk12 : dt 0 2 = dt 79 2) (hk13 : dt 35 1 = dt 79 12) (hk14 : dt 35 2 = dt 79 19) (hk15 : dt 35 3 = dt 79 21) (hd0 : TPL (dt 36) (dt 85) (dt 35 1)) (hd1 : SCL (dt 2) (dt 3) (dt 80)) (hd2 : SCL (dt 19) (dt 20) (dt 81)) (hd3 : QRL (dt 8) (dt 80)) (hd4 : QRL (dt 25) (dt 81)) (hd5 : SDL (dt 9) (dt 80)) (hd6 : SDL (dt 26) (dt 81)) (hd7 : LWL (dt 4) (dt 5) (dt 6) (dt 80)) (hd8 : LWL (dt 21) (dt 22) (dt 23) (dt 81)) (hd9 : CHL (dt 11) (dt 80)) (hd10 : CHL (dt 28) (dt 81)) (K : ∀ (dt : Nat → Nat → Int) (hI : InvC dt) (hM : MW (dt 80)) (hM2 : MW (dt 81)) (hk0 : dt 1 0 = dt 80 0) (hk1 : dt 7 3 = dt 80 1) (hk2 : dt 10 3 = dt 80 2) (hk3 : dt 12 3 = dt 80 3) (hk4 : dt 14 3 = dt 80 4) (hk5 : dt 16 3 = dt 80 5) (hk6 : dt 18 0 = dt 81 0) (hk7 : dt 24 3 = dt 81 1) (hk8 : dt 27 3 = dt 81 2) (hk9 : dt 29 3 = dt 81 3) (hk10 : dt 31 3 = dt 81 4) (hk11 : dt 33 3 = dt 81 5) (hk12 : dt 0 2 = dt 79 2) (hk13 : dt 35 1 = dt 79 12) (hk14 : dt 35 2 = dt 79 19) (hk15 : dt 35 3 = dt 79 21) (hd0 : TPL (dt 36) (dt 85) (dt 35 1)) (hd1 : SCL (dt 2) (dt 3) (dt 80)) (hd2 : SCL (dt 19) (dt 20) (dt 81)) (hd3 : QRL (dt 8) (dt 80)) (hd4 : QRL (dt 25) (dt 81)) (hd5 : SDL (dt 9) (dt 80)) (hd6 : SDL (dt 26) (dt 81)) (hd7 : LWL (dt 4) (dt 5) (dt 6) (dt 80)) (hd8 : LWL (dt 21) (dt 22) (dt 23) (dt 81)) (hd9 : CHL (dt 11) (dt 80)) (hd10 : CHL (dt 28) (dt 81)), GO (am_XX L xs sio) (d + 39) 267 1435 [some (.inr (.inr (some 3000))), some (.inr (.inr (some 0))), some (.inr (.inr (some 79))), some (.inl i)] [] (SH, dt) Q) : GO (am_XX L xs sio) (d + 39) 267 203 [some (.inr (.inr (some 3000))), some (.inr (.inr (some 0))), some (.inr (.inr (some 79))), some (.inl i)] [] (SH, dt) Q := by
  have hF : Fr [0, 1, 2, 3, 4, 5, 6, 7, 8, 9, 10, 11, 12, 13, 14, 15, 16, 17, 18, 19, 20, 21, 22, 23, 24, 25, 26, 27, 28, 29, 30, 31, 32, 33, 34, 35, 36, 37, 38, 39, 40, 41, 42, 43, 44, 45, 46, 47, 48, 49, 50, 51, 52, 53, 54, 55, 56, 57, 58, 59, 60, 61, 62, 63, 64, 65, 66, 67, 68, 69, 70, 71, 72, 73, 74, 75, 76, 77, 78, 79, 80, 81, 82, 83, 84, 85, 86, 87, 88, 89, 90, 91, 92, 93, 94, 95, 96, 97, 98, 99, 100, 101, 102, 103, 104] dt dt := Fr_refl
  have hqo := QOC_R hd3 hM hk1
  have hb1_ := hM.1.1
  have hb2_ := hM.1.2.1
  have hb3_ := hM.1.2.2.1
  have halk : ALK dt (dt 80) := ⟨hd7, hd3, hd5, hd9, hk1, hk2⟩
  refine go_toq PM267 (k := 5) (pc' := 208) (L' := [some (.inr (.inr (some 3000))), some (.inr (.inr (some 0))), some (.inr (.inr (some 79))), some (.inl i)]) (st' := [.inl (i + 1), .inr (.inr (some 3000)), .inr (.inr (some 0))]) (w' := (SH, dt)) rfl ?_
  have r1 := i32_R (xs ((i + 1).toNat))
  refine go_smpq PM267 (L' := [some (.inr (.inr (some 3000))), some (.inr (.inr (some 0))), some (.inr (.inr (some 79))), some (.inl i)]) (st' := [.inl ((xs ((i + 1).toNat)).toInt), .inr (.inr (some 0))]) (w' := (SH, dt)) rfl rfl (s_iald (n := L) (f := fun j => (xs j).toInt) (am_scr hLL) ⟨by omega, by omega⟩) ?_
  refine go_toq PM267 (k := 4) (pc' := 213) (L' := [some (.inr (.inr (some 3000))), some (.inr (.inr (some 0))), some (.inr (.inr (some 79))), some (.inl i)]) (st' := [.inl (i + 2), .inr (.inr (some 3000)), .inl ((xs ((i + 1).toNat)).toInt), .inr (.inr (some 0))]) (w' := (SH, dt)) rfl ?_
  have r2 := i32_R (xs ((i + 2).toNat))
  refine go_smpq PM267 (L' := [some (.inr (.inr (some 3000))), some (.inr (.inr (some 0))), some (.inr (.inr (some 79))), some (.inl i)]) (st' := [.inl ((xs ((i + 2).toNat)).toInt), .inl ((xs ((i + 1).toNat)).toInt), .inr (.inr (some 0))]) (w' := (SH, dt)) rfl rfl (s_iald (n := L) (f := fun j => (xs j).toInt) (am_scr hLL) ⟨by omega, by omega⟩) ?_
  refine go_toq PM267 (k := 4) (pc' := 218) (L' := [some (.inr (.inr (some 3000))), some (.inr (.inr (some 0))), some (.inr (.inr (some 79))), some (.inl i)]) (st' := [.inl (i + 3), .inr (.inr (some 3000)), .inl ((xs ((i + 2).toNat)).toInt), .inl ((xs ((i + 1).toNat)).toInt), .inr (.inr (some 0))]) (w' := (SH, dt)) rfl ?_
  have r3 := i32_R (xs ((i + 3).toNat))
  refine go_smpq PM267 (L' := [some (.inr (.inr (some 3000))), some (.inr (.inr (some 0))), some (.inr (.inr (some 79))), some (.inl i)]) (st' := [.inl ((xs ((i + 3).toNat)).toInt), .inl ((xs ((i + 2).toNat)).toInt), .inl ((xs ((i + 1).toNat)).toInt), .inr (.inr (some 0))]) (w' := (SH, dt)) rfl rfl (s_iald (n := L) (f := fun j => (xs j).toInt) (am_scr hLL) ⟨by omega, by omega⟩) ?_
  refine go_toq PM267 (k := 4) (pc' := 223) (L' := [some (.inr (.inr (some 3000))), some (.inr (.inr (some 0))), some (.inr (.inr (some 79))), some (.inl i)]) (st' := [.inl (i + 4), .inr (.inr (some 3000)), .inl ((xs ((i + 3).toNat)).toInt), .inl ((xs ((i + 2).toNat)).toInt), .inl ((xs ((i + 1).toNat)).toInt), .inr (.inr (some 0))]) (w' := (SH, dt)) rfl ?_
  have r4 := i32_R (xs ((i + 4).toNat))
  refine go_smpq PM267 (L' := [some (.inr (.inr (some 3000))), some (.inr (.inr (some 0))), some (.inr (.inr (some 79))), some (.inl i)]) (st' := [.inl ((xs ((i + 4).toNat)).toInt), .inl ((xs ((i + 3).toNat)).toInt), .inl ((xs ((i + 2).toNat)).toInt), .inl ((xs ((i + 1).toNat)).toInt), .inr (.inr (some 0))]) (w' := (SH, dt)) rfl rfl (s_iald (n := L) (f := fun j => (xs j).toInt) (am_scr hLL) ⟨by omega, by omega⟩) ?_
  refine go_toq PM267 (k := 4) (pc' := 228) (L' := [some (.inr (.inr (some 3000))), some (.inr (.inr (some 0))), some (.inr (.inr (some 79))), some (.inl i)]) (st' := [.inl (i + 5), .inr (.inr (some 3000)), .inl ((xs ((i + 4).toNat)).toInt), .inl ((xs ((i + 3).toNat)).toInt), .inl ((xs ((i + 2).toNat)).toInt), .inl ((xs ((i + 1).toNat)).toInt), .inr (.inr (some 0))]) (w' := (SH, dt)) rfl ?_
  have r5 := i32_R (xs ((i + 5).toNat))
  refine go_smpq PM267 (L' := [some (.inr (.inr (some 3000))), some (.inr (.inr (some 0))), some (.inr (.inr (some 79))), some (.inl i)]) (st' := [.inl ((xs ((i + 5).toNat)).toInt), .inl ((xs ((i + 4).toNat)).toInt), .inl ((xs ((i + 3).toNat)).toInt), .inl ((xs ((i + 2).toNat)).toInt), .inl ((xs ((i + 1).toNat)).toInt), .inr (.inr (some 0))]) (w' := (SH, dt)) rfl rfl (s_iald (n := L) (f := fun j => (xs j).toInt) (am_scr hLL) ⟨by omega, by omega⟩) ?_
  refine go_callq PM267 PM68 (Q' := _) rfl rfl rfl rfl (sp_X5_feed_f L xs sio (d + 37) dt hI  ((xs ((i + 1).toNat)).toInt) ⟨by omega, by omega⟩ ((xs ((i + 2).toNat)).toInt) ⟨by omega, by omega⟩ ((xs ((i + 3).toNat)).toInt) ⟨by omega, by omega⟩ ((xs ((i + 4).toNat)).toInt) ⟨by omega, by omega⟩ ((xs ((i + 5).toNat)).toInt) ⟨by omega, by omega⟩ ) ?_
  rintro _ _ ⟨dt7, rfl, hI8, hF9, h6⟩
  refine ⟨rfl, ?_⟩
  have hF10 : Fr [0, 1, 2, 3, 4, 5, 6, 7, 8, 9, 10, 11, 12, 13, 14, 15, 16, 17, 18, 19, 20, 21, 22, 23, 24, 25, 26, 27, 28, 29, 30, 31, 32, 33, 34, 35, 36, 37, 38, 39, 40, 41, 42, 43, 44, 45, 46, 47, 48, 49, 50, 51, 52, 53, 54, 55, 56, 57, 58, 59, 60, 61, 62, 63, 64, 65, 66, 67, 68, 69, 70, 71, 72, 73, 74, 75, 76, 77, 78, 79, 80, 81, 82, 83, 84, 85, 86, 87, 88, 89, 90, 91, 92, 93, 94, 95, 96, 97, 98, 99, 100, 101, 102, 103, 104] dt dt7 := Fr_tr hF hF9 (by decide)
  have hM11 : MW (dt7 80) := MW_fr hM hF9 (by decide)
  have w12 : dt7 1 0 = dt 1 0 := hF9 1 (by decide) 0
  have w13 : dt7 7 3 = dt 7 3 := hF9 7 (by decide) 3
  have w14 : dt7 10 3 = dt 10 3 := hF9 10 (by decide) 3
  have w15 : dt7 12 3 = dt 12 3 := hF9 12 (by decide) 3
  have w16 : dt7 14 3 = dt 14 3 := hF9 14 (by decide) 3
  have w17 : dt7 16 3 = dt 16 3 := hF9 16 (by decide) 3
  have w18 : dt7 18 0 = dt 18 0 := hF9 18 (by decide) 0
  have w19 : dt7 24 3 = dt 24 3 := hF9 24 (by decide) 3
  have w20 : dt7 27 3 = dt 27 3 := hF9 27 (by decide) 3
  have w21 : dt7 29 3 = dt 29 3 := hF9 29 (by decide) 3
  have w22 : dt7 31 3 = dt 31 3 := hF9 31 (by decide) 3
  have w23 : dt7 33 3 = dt 33 3 := hF9 33 (by decide) 3
  have w24 : dt7 0 2 = dt 0 2 := hF9 0 (by decide) 2
  have w25 : dt7 80 0 = dt 80 0 := hF9 80 (by decide) 0
  have w26 : dt7 80 1 = dt 80 1 := hF9 80 (by decide) 1
  have w27 : dt7 80 2 = dt 80 2 := hF9 80 (by decide) 2
  have w28 : dt7 80 3 = dt 80 3 := hF9 80 (by decide) 3
  have w29 : dt7 80 4 = dt 80 4 := hF9 80 (by decide) 4
  have w30 : dt7 80 5 = dt 80 5 := hF9 80 (by decide) 5
  have w31 : dt7 81 0 = dt 81 0 := hF9 81 (by decide) 0
  have w32 : dt7 81 1 = dt 81 1 := hF9 81 (by decide) 1
  have w33 : dt7 81 2 = dt 81 2 := hF9 81 (by decide) 2
  have w34 : dt7 81 3 = dt 81 3 := hF9 81 (by decide) 3
  have w35 : dt7 81 4 = dt 81 4 := hF9 81 (by decide) 4
  have w36 : dt7 81 5 = dt 81 5 := hF9 81 (by decide) 5
  have w37 : dt7 79 2 = dt 79 2 := hF9 79 (by decide) 2
  have w38 : dt7 79 12 = dt 79 12 := hF9 79 (by decide) 12
  have w39 : dt7 79 19 = dt 79 19 := hF9 79 (by decide) 19
  have w40 : dt7 79 21 = dt 79 21 := hF9 79 (by decide) 21
  rcases h6 with ⟨rfl, h6⟩ | ⟨v_h6, rfl, h6r, h6⟩
  · skip
    obtain ⟨h6_0, h6_1, h6_2, h6_3, h6_4⟩ := h6
    have w41 : dt7 35 1 = dt 35 1 := h6_1
    have w42 : dt7 35 2 = dt 35 2 := h6_3
    have w43 : dt7 35 3 = dt 35 3 := h6_4
    have M244 : MW (dt7 81) := MW_frk hM2 hF9 (by decide)
    have C45 : ∀ j : Nat, dt7 2 j = dt 2 j := fun j => (hF9 2 (by decide) j).trans ((fun _ => rfl) j)
    have C46 : ∀ j : Nat, dt7 3 j = dt 3 j := fun j => (hF9 3 (by decide) j).trans ((fun _ => rfl) j)
    have C47 : ∀ j : Nat, dt7 4 j = dt 4 j := fun j => (hF9 4 (by decide) j).trans ((fun _ => rfl) j)
    have C48 : ∀ j : Nat, dt7 5 j = dt 5 j := fun j => (hF9 5 (by decide) j).trans ((fun _ => rfl) j)
    have C49 : ∀ j : Nat, dt7 6 j = dt 6 j := fun j => (hF9 6 (by decide) j).trans ((fun _ => rfl) j)
    have C50 : ∀ j : Nat, dt7 8 j = dt 8 j := fun j => (hF9 8 (by decide) j).trans ((fun _ => rfl) j)
    have C51 : ∀ j : Nat, dt7 9 j = dt 9 j := fun j => (hF9 9 (by decide) j).trans ((fun _ => rfl) j)
    have C52 : ∀ j : Nat, dt7 11 j = dt 11 j := fun j => (hF9 11 (by decide) j).trans ((fun _ => rfl) j)
    have C53 : ∀ j : Nat, dt7 19 j = dt 19 j := fun j => (hF9 19 (by decide) j).trans ((fun _ => rfl) j)
    have C54 : ∀ j : Nat, dt7 20 j = dt 20 j := fun j => (hF9 20 (by decide) j).trans ((fun _ => rfl) j)
    have C55 : ∀ j : Nat, dt7 21 j = dt 21 j := fun j => (hF9 21 (by decide) j).trans ((fun _ => rfl) j)
    have C56 : ∀ j : Nat, dt7 22 j = dt 22 j := fun j => (hF9 22 (by decide) j).trans ((fun _ => rfl) j)
    have C57 : ∀ j : Nat, dt7 23 j = dt 23 j := fun j => (hF9 23 (by decide) j).trans ((fun _ => rfl) j)
    have C58 : ∀ j : Nat, dt7 25 j = dt 25 j := fun j => (hF9 25 (by decide) j).trans ((fun _ => rfl) j)
    have C59 : ∀ j : Nat, dt7 26 j = dt 26 j := fun j => (hF9 26 (by decide) j).trans ((fun _ => rfl) j)
    have C60 : ∀ j : Nat, dt7 28 j = dt 28 j := fun j => (hF9 28 (by decide) j).trans ((fun _ => rfl) j)
    have C61 : ∀ j : Nat, dt7 36 j = dt 36 j := fun j => (h6_2 j).trans ((fun _ => rfl) j)
    have C62 : ∀ j : Nat, dt7 80 j = dt 80 j := fun j => (hF9 80 (by decide) j).trans ((fun _ => rfl) j)
    have C63 : ∀ j : Nat, dt7 81 j = dt 81 j := fun j => (hF9 81 (by decide) j).trans ((fun _ => rfl) j)
    have C64 : ∀ j : Nat, dt7 85 j = dt 85 j := fun j => (hF9 85 (by decide) j).trans ((fun _ => rfl) j)
    refine go_toq PM267 (k := 6) (pc' := 238) (L' := [some (.inr (.inr (some 3000))), some (.inr (.inr (some 0))), some (.inr (.inr (some 79))), some (.inl i)]) (st' := [.inl (i + 1), .inr (.inr (some 3000)), .inr (.inr (some 79))]) (w' := (SH, dt7)) rfl ?_
    have r65 := i32_R (xs ((i + 1).toNat))
    refine go_smpq PM267 (L' := [some (.inr (.inr (some 3000))), some (.inr (.inr (some 0))), some (.inr (.inr (some 79))), some (.inl i)]) (st' := [.inl ((xs ((i + 1).toNat)).toInt), .inr (.inr (some 79))]) (w' := (SH, dt7)) rfl rfl (s_iald (n := L) (f := fun j => (xs j).toInt) (am_scr hLL) ⟨by omega, by omega⟩) ?_
    refine go_toq PM267 (k := 4) (pc' := 243) (L' := [some (.inr (.inr (some 3000))), some (.inr (.inr (some 0))), some (.inr (.inr (some 79))), some (.inl i)]) (st' := [.inl (i + 2), .inr (.inr (some 3000)), .inl ((xs ((i + 1).toNat)).toInt), .inr (.inr (some 79))]) (w' := (SH, dt7)) rfl ?_
    have r66 := i32_R (xs ((i + 2).toNat))
    refine go_smpq PM267 (L' := [some (.inr (.inr (some 3000))), some (.inr (.inr (some 0))), some (.inr (.inr (some 79))), some (.inl i)]) (st' := [.inl ((xs ((i + 2).toNat)).toInt), .inl ((xs ((i + 1).toNat)).toInt), .inr (.inr (some 79))]) (w' := (SH, dt7)) rfl rfl (s_iald (n := L) (f := fun j => (xs j).toInt) (am_scr hLL) ⟨by omega, by omega⟩) ?_
    refine go_toq PM267 (k := 4) (pc' := 248) (L' := [some (.inr (.inr (some 3000))), some (.inr (.inr (some 0))), some (.inr (.inr (some 79))), some (.inl i)]) (st' := [.inl (i + 3), .inr (.inr (some 3000)), .inl ((xs ((i + 2).toNat)).toInt), .inl ((xs ((i + 1).toNat)).toInt), .inr (.inr (some 79))]) (w' := (SH, dt7)) rfl ?_
    have r67 := i32_R (xs ((i + 3).toNat))
    refine go_smpq PM267 (L' := [some (.inr (.inr (some 3000))), some (.inr (.inr (some 0))), some (.inr (.inr (some 79))), some (.inl i)]) (st' := [.inl ((xs ((i + 3).toNat)).toInt), .inl ((xs ((i + 2).toNat)).toInt), .inl ((xs ((i + 1).toNat)).toInt), .inr (.inr (some 79))]) (w' := (SH, dt7)) rfl rfl (s_iald (n := L) (f := fun j => (xs j).toInt) (am_scr hLL) ⟨by omega, by omega⟩) ?_
    refine go_toq PM267 (k := 4) (pc' := 253) (L' := [some (.inr (.inr (some 3000))), some (.inr (.inr (some 0))), some (.inr (.inr (some 79))), some (.inl i)]) (st' := [.inl (i + 4), .inr (.inr (some 3000)), .inl ((xs ((i + 3).toNat)).toInt), .inl ((xs ((i + 2).toNat)).toInt), .inl ((xs ((i + 1).toNat)).toInt), .inr (.inr (some 79))]) (w' := (SH, dt7)) rfl ?_
    have r68 := i32_R (xs ((i + 4).toNat))
    refine go_smpq PM267 (L' := [some (.inr (.inr (some 3000))), some (.inr (.inr (some 0))), some (.inr (.inr (some 79))), some (.inl i)]) (st' := [.inl ((xs ((i + 4).toNat)).toInt), .inl ((xs ((i + 3).toNat)).toInt), .inl ((xs ((i + 2).toNat)).toInt), .inl ((xs ((i + 1).toNat)).toInt), .inr (.inr (some 79))]) (w' := (SH, dt7)) rfl rfl (s_iald (n := L) (f := fun j => (xs j).toInt) (am_scr hLL) ⟨by omega, by omega⟩) ?_
    refine go_toq PM267 (k := 4) (pc' := 258) (L' := [some (.inr (.inr (some 3000))), some (.inr (.inr (some 0))), some (.inr (.inr (some 79))), some (.inl i)]) (st' := [.inl (i + 5), .inr (.inr (some 3000)), .inl ((xs ((i + 4).toNat)).toInt), .inl ((xs ((i + 3).toNat)).toInt), .inl ((xs ((i + 2).toNat)).toInt), .inl ((xs ((i + 1).toNat)).toInt), .inr (.inr (some 79))]) (w' := (SH, dt7)) rfl ?_
    have r69 := i32_R (xs ((i + 5).toNat))
    refine go_smpq PM267 (L' := [some (.inr (.inr (some 3000))), some (.inr (.inr (some 0))), some (.inr (.inr (some 79))), some (.inl i)]) (st' := [.inl ((xs ((i + 5).toNat)).toInt), .inl ((xs ((i + 4).toNat)).toInt), .inl ((xs ((i + 3).toNat)).toInt), .inl ((xs ((i + 2).toNat)).toInt), .inl ((xs ((i + 1).toNat)).toInt), .inr (.inr (some 79))]) (w' := (SH, dt7)) rfl rfl (s_iald (n := L) (f := fun j => (xs j).toInt) (am_scr hLL) ⟨by omega, by omega⟩) ?_
    refine go_callq PM267 PM151 (Q' := _) rfl rfl rfl rfl (sp_X6_feed_f L xs sio (d + 38) dt7 hI8  ((xs ((i + 1).toNat)).toInt) ⟨by omega, by omega⟩ ((xs ((i + 2).toNat)).toInt) ⟨by omega, by omega⟩ ((xs ((i + 3).toNat)).toInt) ⟨by omega, by omega⟩ ((xs ((i + 4).toNat)).toInt) ⟨by omega, by omega⟩ ((xs ((i + 5).toNat)).toInt) ⟨by omega, by omega⟩ ) ?_
    rintro _ _ ⟨dt71, rfl, hI72, hF73, h70⟩
    refine ⟨rfl, ?_⟩
    have hF74 : Fr [0, 1, 2, 3, 4, 5, 6, 7, 8, 9, 10, 11, 12, 13, 14, 15, 16, 17, 18, 19, 20, 21, 22, 23, 24, 25, 26, 27, 28, 29, 30, 31, 32, 33, 34, 35, 36, 37, 38, 39, 40, 41, 42, 43, 44, 45, 46, 47, 48, 49, 50, 51, 52, 53, 54, 55, 56, 57, 58, 59, 60, 61, 62, 63, 64, 65, 66, 67, 68, 69, 70, 71, 72, 73, 74, 75, 76, 77, 78, 79, 80, 81, 82, 83, 84, 85, 86, 87, 88, 89, 90, 91, 92, 93, 94, 95, 96, 97, 98, 99, 100, 101, 102, 103, 104] dt dt71 := Fr_tr hF10 hF73 (by decide)
    have hM75 : MW (dt71 80) := MW_fr hM11 hF73 (by decide)
    have w76 : dt71 1 0 = dt 1 0 := (hF73 1 (by decide) 0).trans w12
    have w77 : dt71 7 3 = dt 7 3 := (hF73 7 (by decide) 3).trans w13
    have w78 : dt71 10 3 = dt 10 3 := (hF73 10 (by decide) 3).trans w14
    have w79 : dt71 12 3 = dt 12 3 := (hF73 12 (by decide) 3).trans w15
    have w80 : dt71 14 3 = dt 14 3 := (hF73 14 (by decide) 3).trans w16
    have w81 : dt71 16 3 = dt 16 3 := (hF73 16 (by decide) 3).trans w17
    have w82 : dt71 18 0 = dt 18 0 := (hF73 18 (by decide) 0).trans w18
    have w83 : dt71 24 3 = dt 24 3 := (hF73 24 (by decide) 3).trans w19
    have w84 : dt71 27 3 = dt 27 3 := (hF73 27 (by decide) 3).trans w20
    have w85 : dt71 29 3 = dt 29 3 := (hF73 29 (by decide) 3).trans w21
    have w86 : dt71 31 3 = dt 31 3 := (hF73 31 (by decide) 3).trans w22
    have w87 : dt71 33 3 = dt 33 3 := (hF73 33 (by decide) 3).trans w23
    have w88 : dt71 0 2 = dt 0 2 := (hF73 0 (by decide) 2).trans w24
    have w89 : dt71 35 1 = dt 35 1 := (hF73 35 (by decide) 1).trans w41
    have w90 : dt71 35 2 = dt 35 2 := (hF73 35 (by decide) 2).trans w42
    have w91 : dt71 35 3 = dt 35 3 := (hF73 35 (by decide) 3).trans w43
    have w92 : dt71 80 0 = dt 80 0 := (hF73 80 (by decide) 0).trans w25
    have w93 : dt71 80 1 = dt 80 1 := (hF73 80 (by decide) 1).trans w26
    have w94 : dt71 80 2 = dt 80 2 := (hF73 80 (by decide) 2).trans w27
    have w95 : dt71 80 3 = dt 80 3 := (hF73 80 (by decide) 3).trans w28
    have w96 : dt71 80 4 = dt 80 4 := (hF73 80 (by decide) 4).trans w29
    have w97 : dt71 80 5 = dt 80 5 := (hF73 80 (by decide) 5).trans w30
    have w98 : dt71 81 0 = dt 81 0 := (hF73 81 (by decide) 0).trans w31
    have w99 : dt71 81 1 = dt 81 1 := (hF73 81 (by decide) 1).trans w32
    have w100 : dt71 81 2 = dt 81 2 := (hF73 81 (by decide) 2).trans w33
    have w101 : dt71 81 3 = dt 81 3 := (hF73 81 (by decide) 3).trans w34
    have w102 : dt71 81 4 = dt 81 4 := (hF73 81 (by decide) 4).trans w35
    have w103 : dt71 81 5 = dt 81 5 := (hF73 81 (by decide) 5).trans w36
    rcases h70 with ⟨rfl, h70⟩ | ⟨v_h70, rfl, h70r, h70⟩
    · skip
      obtain ⟨h70_0, h70_1, h70_2, h70_3, h70_4, h70_5⟩ := h70
      have w104 : dt71 79 12 = dt 79 12 := h70_1.trans w38
      have w105 : dt71 79 2 = dt 79 2 := h70_3.trans w37
      have w106 : dt71 79 19 = dt 79 19 := h70_4.trans w39
      have w107 : dt71 79 21 = dt 79 21 := h70_5.trans w40
      have M2108 : MW (dt71 81) := MW_frk M244 hF73 (by decide)
      have C109 : ∀ j : Nat, dt71 2 j = dt 2 j := fun j => (hF73 2 (by decide) j).trans (C45 j)
      have C110 : ∀ j : Nat, dt71 3 j = dt 3 j := fun j => (hF73 3 (by decide) j).trans (C46 j)
      have C111 : ∀ j : Nat, dt71 4 j = dt 4 j := fun j => (hF73 4 (by decide) j).trans (C47 j)
      have C112 : ∀ j : Nat, dt71 5 j = dt 5 j := fun j => (hF73 5 (by decide) j).trans (C48 j)
      have C113 : ∀ j : Nat, dt71 6 j = dt 6 j := fun j => (hF73 6 (by decide) j).trans (C49 j)
      have C114 : ∀ j : Nat, dt71 8 j = dt 8 j := fun j => (hF73 8 (by decide) j).trans (C50 j)
      have C115 : ∀ j : Nat, dt71 9 j = dt 9 j := fun j => (hF73 9 (by decide) j).trans (C51 j)
      have C116 : ∀ j : Nat, dt71 11 j = dt 11 j := fun j => (hF73 11 (by decide) j).trans (C52 j)
      have C117 : ∀ j : Nat, dt71 19 j = dt 19 j := fun j => (hF73 19 (by decide) j).trans (C53 j)
      have C118 : ∀ j : Nat, dt71 20 j = dt 20 j := fun j => (hF73 20 (by decide) j).trans (C54 j)
      have C119 : ∀ j : Nat, dt71 21 j = dt 21 j := fun j => (hF73 21 (by decide) j).trans (C55 j)
      have C120 : ∀ j : Nat, dt71 22 j = dt 22 j := fun j => (hF73 22 (by decide) j).trans (C56 j)
      have C121 : ∀ j : Nat, dt71 23 j = dt 23 j := fun j => (hF73 23 (by decide) j).trans (C57 j)
      have C122 : ∀ j : Nat, dt71 25 j = dt 25 j := fun j => (hF73 25 (by decide) j).trans (C58 j)
      have C123 : ∀ j : Nat, dt71 26 j = dt 26 j := fun j => (hF73 26 (by decide) j).trans (C59 j)
      have C124 : ∀ j : Nat, dt71 28 j = dt 28 j := fun j => (hF73 28 (by decide) j).trans (C60 j)
      have C125 : ∀ j : Nat, dt71 36 j = dt 36 j := fun j => (hF73 36 (by decide) j).trans (C61 j)
      have C126 : ∀ j : Nat, dt71 80 j = dt 80 j := fun j => (hF73 80 (by decide) j).trans (C62 j)
      have C127 : ∀ j : Nat, dt71 81 j = dt 81 j := fun j => (hF73 81 (by decide) j).trans (C63 j)
      have C128 : ∀ j : Nat, dt71 85 j = dt 85 j := fun j => (h70_2 j).trans (C64 j)
      refine go_toq PM267 (k := 2) (pc' := 1435) (L' := [some (.inr (.inr (some 3000))), some (.inr (.inr (some 0))), some (.inr (.inr (some 79))), some (.inl i)]) (st' := []) (w' := (SH, dt71)) rfl ?_
      exact K dt71 hI72 hM75 M2108 (w76.trans (hk0.trans w92.symm)) (w77.trans (hk1.trans w93.symm)) (w78.trans (hk2.trans w94.symm)) (w79.trans (hk3.trans w95.symm)) (w80.trans (hk4.trans w96.symm)) (w81.trans (hk5.trans w97.symm)) (w82.trans (hk6.trans w98.symm)) (w83.trans (hk7.trans w99.symm)) (w84.trans (hk8.trans w100.symm)) (w85.trans (hk9.trans w101.symm)) (w86.trans (hk10.trans w102.symm)) (w87.trans (hk11.trans w103.symm)) (w88.trans (hk12.trans w105.symm)) (w89.trans (hk13.trans w104.symm)) (w90.trans (hk14.trans w106.symm)) (w91.trans (hk15.trans w107.symm)) (by first | exact hI | exact TPL_k hd0 C125 C128 (by omega) | (exfalso; omega)) (by first | exact hI | exact SCL_k hd1 hM (fun j _ => C109 j) (fun j _ => C110 j) (fun j _ _ => C126 j) | (exfalso; omega)) (by first | exact hI | exact SCL_k hd2 hM2 (fun j _ => C117 j) (fun j _ => C118 j) (fun j _ _ => C127 j) | (exfalso; omega)) (by first | exact hI | exact QRL_k hd3 hM (fun j _ => C114 j) (C126 1) (fun j _ _ => C126 j) | (exfalso; omega)) (by first | exact hI | exact QRL_k hd4 hM2 (fun j _ => C122 j) (C127 1) (fun j _ _ => C127 j) | (exfalso; omega)) (by first | exact hI | exact SDL_k hd5 hM (fun j _ => C115 j) (C126 1) (fun j _ _ => C126 j) (fun j _ _ => C126 j) | (exfalso; omega)) (by first | exact hI | exact SDL_k hd6 hM2 (fun j _ => C123 j) (C127 1) (fun j _ _ => C127 j) (fun j _ _ => C127 j) | (exfalso; omega)) (by first | exact hI | exact LWL_k hd7 hM (fun j _ => C111 j) (fun j _ => C112 j) (fun j _ => C113 j) (fun j _ _ => C126 j) | (exfalso; omega)) (by first | exact hI | exact LWL_k hd8 hM2 (fun j _ => C119 j) (fun j _ => C120 j) (fun j _ => C121 j) (fun j _ _ => C127 j) | (exfalso; omega)) (by first | exact hI | exact CHL_k hd9 hM (fun j _ => C116 j) (by omega) (fun j _ _ => C126 j) | (exfalso; omega)) (by first | exact hI | exact CHL_k hd10 hM2 (fun j _ => C124 j) (by omega) (fun j _ _ => C127 j) | (exfalso; omega))
    · skip
      obtain ⟨h70_0, h70_1, h70_2, h70_3, h70_4, h70_5, h70_6⟩ := h70
      have w129 : dt71 79 2 = dt 79 2 := h70_4.trans w37
      have w130 : dt71 79 19 = dt 79 19 := h70_5.trans w39
      have w131 : dt71 79 21 = dt 79 21 := h70_6.trans w40
      have M2132 : MW (dt71 81) := MW_frk M244 hF73 (by decide)
      have C133 : ∀ j : Nat, dt71 2 j = dt 2 j := fun j => (hF73 2 (by decide) j).trans (C45 j)
      have C134 : ∀ j : Nat, dt71 3 j = dt 3 j := fun j => (hF73 3 (by decide) j).trans (C46 j)
      have C135 : ∀ j : Nat, dt71 4 j = dt 4 j := fun j => (hF73 4 (by decide) j).trans (C47 j)
      have C136 : ∀ j : Nat, dt71 5 j = dt 5 j := fun j => (hF73 5 (by decide) j).trans (C48 j)
      have C137 : ∀ j : Nat, dt71 6 j = dt 6 j := fun j => (hF73 6 (by decide) j).trans (C49 j)
      have C138 : ∀ j : Nat, dt71 8 j = dt 8 j := fun j => (hF73 8 (by decide) j).trans (C50 j)
      have C139 : ∀ j : Nat, dt71 9 j = dt 9 j := fun j => (hF73 9 (by decide) j).trans (C51 j)
      have C140 : ∀ j : Nat, dt71 11 j = dt 11 j := fun j => (hF73 11 (by decide) j).trans (C52 j)
      have C141 : ∀ j : Nat, dt71 19 j = dt 19 j := fun j => (hF73 19 (by decide) j).trans (C53 j)
      have C142 : ∀ j : Nat, dt71 20 j = dt 20 j := fun j => (hF73 20 (by decide) j).trans (C54 j)
      have C143 : ∀ j : Nat, dt71 21 j = dt 21 j := fun j => (hF73 21 (by decide) j).trans (C55 j)
      have C144 : ∀ j : Nat, dt71 22 j = dt 22 j := fun j => (hF73 22 (by decide) j).trans (C56 j)
      have C145 : ∀ j : Nat, dt71 23 j = dt 23 j := fun j => (hF73 23 (by decide) j).trans (C57 j)
      have C146 : ∀ j : Nat, dt71 25 j = dt 25 j := fun j => (hF73 25 (by decide) j).trans (C58 j)
      have C147 : ∀ j : Nat, dt71 26 j = dt 26 j := fun j => (hF73 26 (by decide) j).trans (C59 j)
      have C148 : ∀ j : Nat, dt71 28 j = dt 28 j := fun j => (hF73 28 (by decide) j).trans (C60 j)
      have C149 : ∀ j : Nat, dt71 36 j = dt 36 j := fun j => (hF73 36 (by decide) j).trans (C61 j)
      have C150 : ∀ j : Nat, dt71 80 j = dt 80 j := fun j => (hF73 80 (by decide) j).trans (C62 j)
      have C151 : ∀ j : Nat, dt71 81 j = dt 81 j := fun j => (hF73 81 (by decide) j).trans (C63 j)
      have E152 : TPL (dt7 36) (dt71 85) (dt7 35 1) := by first | exact TPL_f hd0 hI (show FDX (dt 85) (dt71 85) (dt 35 1) (dt7 35 1) _ from by have z_ := h70_3; rw [show dt7 79 12 = dt 35 1 by first | with_reducible assumption | omega, show dt71 79 12 = dt7 35 1 by first | with_reducible assumption | omega, show dt7 85 = dt 85 from funext C64] at z_; exact z_) rfl rfl | (exfalso; omega)
      have E153 : TPL (dt71 36) (dt71 85) (dt71 35 1) := by have z_ := E152; rw [show dt71 36 = dt7 36 from (funext (hF73 36 (by decide))), show dt71 35 1 = dt7 35 1 by first | with_reducible assumption | omega]; exact z_
      refine go_toq PM267 (k := 2) (pc' := 1435) (L' := [some (.inr (.inr (some 3000))), some (.inr (.inr (some 0))), some (.inr (.inr (some 79))), some (.inl i)]) (st' := []) (w' := (SH, dt71)) rfl ?_
      exact K dt71 hI72 hM75 M2132 (w76.trans (hk0.trans w92.symm)) (w77.trans (hk1.trans w93.symm)) (w78.trans (hk2.trans w94.symm)) (w79.trans (hk3.trans w95.symm)) (w80.trans (hk4.trans w96.symm)) (w81.trans (hk5.trans w97.symm)) (w82.trans (hk6.trans w98.symm)) (w83.trans (hk7.trans w99.symm)) (w84.trans (hk8.trans w100.symm)) (w85.trans (hk9.trans w101.symm)) (w86.trans (hk10.trans w102.symm)) (w87.trans (hk11.trans w103.symm)) (w88.trans (hk12.trans w129.symm)) (by omega) (w90.trans (hk14.trans w130.symm)) (w91.trans (hk15.trans w131.symm)) (by first | exact E153 | exact TPL_k hd0 C149 hI (by omega) | (exfalso; omega)) (by first | exact hI | exact SCL_k hd1 hM (fun j _ => C133 j) (fun j _ => C134 j) (fun j _ _ => C150 j) | (exfalso; omega)) (by first | exact hI | exact SCL_k hd2 hM2 (fun j _ => C141 j) (fun j _ => C142 j) (fun j _ _ => C151 j) | (exfalso; omega)) (by first | exact hI | exact QRL_k hd3 hM (fun j _ => C138 j) (C150 1) (fun j _ _ => C150 j) | (exfalso; omega)) (by first | exact hI | exact QRL_k hd4 hM2 (fun j _ => C146 j) (C151 1) (fun j _ _ => C151 j) | (exfalso; omega)) (by first | exact hI | exact SDL_k hd5 hM (fun j _ => C139 j) (C150 1) (fun j _ _ => C150 j) (fun j _ _ => C150 j) | (exfalso; omega)) (by first | exact hI | exact SDL_k hd6 hM2 (fun j _ => C147 j) (C151 1) (fun j _ _ => C151 j) (fun j _ _ => C151 j) | (exfalso; omega)) (by first | exact hI | exact LWL_k hd7 hM (fun j _ => C135 j) (fun j _ => C136 j) (fun j _ => C137 j) (fun j _ _ => C150 j) | (exfalso; omega)) (by first | exact hI | exact LWL_k hd8 hM2 (fun j _ => C143 j) (fun j _ => C144 j) (fun j _ => C145 j) (fun j _ _ => C151 j) | (exfalso; omega)) (by first | exact hI | exact CHL_k hd9 hM (fun j _ => C140 j) (by omega) (fun j _ _ => C150 j) | (exfalso; omega)) (by first | exact hI | exact CHL_k hd10 hM2 (fun j _ => C148 j) (by omega) (fun j _ _ => C151 j) | (exfalso; omega))
  · skip
    obtain ⟨h6_0, h6_1, h6_2, h6_3, h6_4, h6_5⟩ := h6
    have w154 : dt7 35 2 = dt 35 2 := h6_4
    have w155 : dt7 35 3 = dt 35 3 := h6_5
    have M2156 : MW (dt7 81) := MW_frk hM2 hF9 (by decide)
    have C157 : ∀ j : Nat, dt7 2 j = dt 2 j := fun j => (hF9 2 (by decide) j).trans ((fun _ => rfl) j)
    have C158 : ∀ j : Nat, dt7 3 j = dt 3 j := fun j => (hF9 3 (by decide) j).trans ((fun _ => rfl) j)
    have C159 : ∀ j : Nat, dt7 4 j = dt 4 j := fun j => (hF9 4 (by decide) j).trans ((fun _ => rfl) j)
    have C160 : ∀ j : Nat, dt7 5 j = dt 5 j := fun j => (hF9 5 (by decide) j).trans ((fun _ => rfl) j)
    have C161 : ∀ j : Nat, dt7 6 j = dt 6 j := fun j => (hF9 6 (by decide) j).trans ((fun _ => rfl) j)
    have C162 : ∀ j : Nat, dt7 8 j = dt 8 j := fun j => (hF9 8 (by decide) j).trans ((fun _ => rfl) j)
    have C163 : ∀ j : Nat, dt7 9 j = dt 9 j := fun j => (hF9 9 (by decide) j).trans ((fun _ => rfl) j)
    have C164 : ∀ j : Nat, dt7 11 j = dt 11 j := fun j => (hF9 11 (by decide) j).trans ((fun _ => rfl) j)
    have C165 : ∀ j : Nat, dt7 19 j = dt 19 j := fun j => (hF9 19 (by decide) j).trans ((fun _ => rfl) j)
    have C166 : ∀ j : Nat, dt7 20 j = dt 20 j := fun j => (hF9 20 (by decide) j).trans ((fun _ => rfl) j)
    have C167 : ∀ j : Nat, dt7 21 j = dt 21 j := fun j => (hF9 21 (by decide) j).trans ((fun _ => rfl) j)
    have C168 : ∀ j : Nat, dt7 22 j = dt 22 j := fun j => (hF9 22 (by decide) j).trans ((fun _ => rfl) j)
    have C169 : ∀ j : Nat, dt7 23 j = dt 23 j := fun j => (hF9 23 (by decide) j).trans ((fun _ => rfl) j)
    have C170 : ∀ j : Nat, dt7 25 j = dt 25 j := fun j => (hF9 25 (by decide) j).trans ((fun _ => rfl) j)
    have C171 : ∀ j : Nat, dt7 26 j = dt 26 j := fun j => (hF9 26 (by decide) j).trans ((fun _ => rfl) j)
    have C172 : ∀ j : Nat, dt7 28 j = dt 28 j := fun j => (hF9 28 (by decide) j).trans ((fun _ => rfl) j)
    have C173 : ∀ j : Nat, dt7 80 j = dt 80 j := fun j => (hF9 80 (by decide) j).trans ((fun _ => rfl) j)
    have C174 : ∀ j : Nat, dt7 81 j = dt 81 j := fun j => (hF9 81 (by decide) j).trans ((fun _ => rfl) j)
    have C175 : ∀ j : Nat, dt7 85 j = dt 85 j := fun j => (hF9 85 (by decide) j).trans ((fun _ => rfl) j)
    refine go_toq PM267 (k := 6) (pc' := 238) (L' := [some (.inr (.inr (some 3000))), some (.inr (.inr (some 0))), some (.inr (.inr (some 79))), some (.inl i)]) (st' := [.inl (i + 1), .inr (.inr (some 3000)), .inr (.inr (some 79))]) (w' := (SH, dt7)) rfl ?_
    have r176 := i32_R (xs ((i + 1).toNat))
    refine go_smpq PM267 (L' := [some (.inr (.inr (some 3000))), some (.inr (.inr (some 0))), some (.inr (.inr (some 79))), some (.inl i)]) (st' := [.inl ((xs ((i + 1).toNat)).toInt), .inr (.inr (some 79))]) (w' := (SH, dt7)) rfl rfl (s_iald (n := L) (f := fun j => (xs j).toInt) (am_scr hLL) ⟨by omega, by omega⟩) ?_
    refine go_toq PM267 (k := 4) (pc' := 243) (L' := [some (.inr (.inr (some 3000))), some (.inr (.inr (some 0))), some (.inr (.inr (some 79))), some (.inl i)]) (st' := [.inl (i + 2), .inr (.inr (some 3000)), .inl ((xs ((i + 1).toNat)).toInt), .inr (.inr (some 79))]) (w' := (SH, dt7)) rfl ?_
    have r177 := i32_R (xs ((i + 2).toNat))
    refine go_smpq PM267 (L' := [some (.inr (.inr (some 3000))), some (.inr (.inr (some 0))), some (.inr (.inr (some 79))), some (.inl i)]) (st' := [.inl ((xs ((i + 2).toNat)).toInt), .inl ((xs ((i + 1).toNat)).toInt), .inr (.inr (some 79))]) (w' := (SH, dt7)) rfl rfl (s_iald (n := L) (f := fun j => (xs j).toInt) (am_scr hLL) ⟨by omega, by omega⟩) ?_
    refine go_toq PM267 (k := 4) (pc' := 248) (L' := [some (.inr (.inr (some 3000))), some (.inr (.inr (some 0))), some (.inr (.inr (some 79))), some (.inl i)]) (st' := [.inl (i + 3), .inr (.inr (some 3000)), .inl ((xs ((i + 2).toNat)).toInt), .inl ((xs ((i + 1).toNat)).toInt), .inr (.inr (some 79))]) (w' := (SH, dt7)) rfl ?_
    have r178 := i32_R (xs ((i + 3).toNat))
    refine go_smpq PM267 (L' := [some (.inr (.inr (some 3000))), some (.inr (.inr (some 0))), some (.inr (.inr (some 79))), some (.inl i)]) (st' := [.inl ((xs ((i + 3).toNat)).toInt), .inl ((xs ((i + 2).toNat)).toInt), .inl ((xs ((i + 1).toNat)).toInt), .inr (.inr (some 79))]) (w' := (SH, dt7)) rfl rfl (s_iald (n := L) (f := fun j => (xs j).toInt) (am_scr hLL) ⟨by omega, by omega⟩) ?_
    refine go_toq PM267 (k := 4) (pc' := 253) (L' := [some (.inr (.inr (some 3000))), some (.inr (.inr (some 0))), some (.inr (.inr (some 79))), some (.inl i)]) (st' := [.inl (i + 4), .inr (.inr (some 3000)), .inl ((xs ((i + 3).toNat)).toInt), .inl ((xs ((i + 2).toNat)).toInt), .inl ((xs ((i + 1).toNat)).toInt), .inr (.inr (some 79))]) (w' := (SH, dt7)) rfl ?_
    have r179 := i32_R (xs ((i + 4).toNat))
    refine go_smpq PM267 (L' := [some (.inr (.inr (some 3000))), some (.inr (.inr (some 0))), some (.inr (.inr (some 79))), some (.inl i)]) (st' := [.inl ((xs ((i + 4).toNat)).toInt), .inl ((xs ((i + 3).toNat)).toInt), .inl ((xs ((i + 2).toNat)).toInt), .inl ((xs ((i + 1).toNat)).toInt), .inr (.inr (some 79))]) (w' := (SH, dt7)) rfl rfl (s_iald (n := L) (f := fun j => (xs j).toInt) (am_scr hLL) ⟨by omega, by omega⟩) ?_
    refine go_toq PM267 (k := 4) (pc' := 258) (L' := [some (.inr (.inr (some 3000))), some (.inr (.inr (some 0))), some (.inr (.inr (some 79))), some (.inl i)]) (st' := [.inl (i + 5), .inr (.inr (some 3000)), .inl ((xs ((i + 4).toNat)).toInt), .inl ((xs ((i + 3).toNat)).toInt), .inl ((xs ((i + 2).toNat)).toInt), .inl ((xs ((i + 1).toNat)).toInt), .inr (.inr (some 79))]) (w' := (SH, dt7)) rfl ?_
    have r180 := i32_R (xs ((i + 5).toNat))
    refine go_smpq PM267 (L' := [some (.inr (.inr (some 3000))), some (.inr (.inr (some 0))), some (.inr (.inr (some 79))), some (.inl i)]) (st' := [.inl ((xs ((i + 5).toNat)).toInt), .inl ((xs ((i + 4).toNat)).toInt), .inl ((xs ((i + 3).toNat)).toInt), .inl ((xs ((i + 2).toNat)).toInt), .inl ((xs ((i + 1).toNat)).toInt), .inr (.inr (some 79))]) (w' := (SH, dt7)) rfl rfl (s_iald (n := L) (f := fun j => (xs j).toInt) (am_scr hLL) ⟨by omega, by omega⟩) ?_
    refine go_callq PM267 PM151 (Q' := _) rfl rfl rfl rfl (sp_X6_feed_f L xs sio (d + 38) dt7 hI8  ((xs ((i + 1).toNat)).toInt) ⟨by omega, by omega⟩ ((xs ((i + 2).toNat)).toInt) ⟨by omega, by omega⟩ ((xs ((i + 3).toNat)).toInt) ⟨by omega, by omega⟩ ((xs ((i + 4).toNat)).toInt) ⟨by omega, by omega⟩ ((xs ((i + 5).toNat)).toInt) ⟨by omega, by omega⟩ ) ?_
    rintro _ _ ⟨dt182, rfl, hI183, hF184, h181⟩
    refine ⟨rfl, ?_⟩
    have hF185 : Fr [0, 1, 2, 3, 4, 5, 6, 7, 8, 9, 10, 11, 12, 13, 14, 15, 16, 17, 18, 19, 20, 21, 22, 23, 24, 25, 26, 27, 28, 29, 30, 31, 32, 33, 34, 35, 36, 37, 38, 39, 40, 41, 42, 43, 44, 45, 46, 47, 48, 49, 50, 51, 52, 53, 54, 55, 56, 57, 58, 59, 60, 61, 62, 63, 64, 65, 66, 67, 68, 69, 70, 71, 72, 73, 74, 75, 76, 77, 78, 79, 80, 81, 82, 83, 84, 85, 86, 87, 88, 89, 90, 91, 92, 93, 94, 95, 96, 97, 98, 99, 100, 101, 102, 103, 104] dt dt182 := Fr_tr hF10 hF184 (by decide)
    have hM186 : MW (dt182 80) := MW_fr hM11 hF184 (by decide)
    have w187 : dt182 1 0 = dt 1 0 := (hF184 1 (by decide) 0).trans w12
    have w188 : dt182 7 3 = dt 7 3 := (hF184 7 (by decide) 3).trans w13
    have w189 : dt182 10 3 = dt 10 3 := (hF184 10 (by decide) 3).trans w14
    have w190 : dt182 12 3 = dt 12 3 := (hF184 12 (by decide) 3).trans w15
    have w191 : dt182 14 3 = dt 14 3 := (hF184 14 (by decide) 3).trans w16
    have w192 : dt182 16 3 = dt 16 3 := (hF184 16 (by decide) 3).trans w17
    have w193 : dt182 18 0 = dt 18 0 := (hF184 18 (by decide) 0).trans w18
    have w194 : dt182 24 3 = dt 24 3 := (hF184 24 (by decide) 3).trans w19
    have w195 : dt182 27 3 = dt 27 3 := (hF184 27 (by decide) 3).trans w20
    have w196 : dt182 29 3 = dt 29 3 := (hF184 29 (by decide) 3).trans w21
    have w197 : dt182 31 3 = dt 31 3 := (hF184 31 (by decide) 3).trans w22
    have w198 : dt182 33 3 = dt 33 3 := (hF184 33 (by decide) 3).trans w23
    have w199 : dt182 0 2 = dt 0 2 := (hF184 0 (by decide) 2).trans w24
    have w200 : dt182 35 1 = dt7 35 1 := hF184 35 (by decide) 1
    have w201 : dt182 35 2 = dt 35 2 := (hF184 35 (by decide) 2).trans w154
    have w202 : dt182 35 3 = dt 35 3 := (hF184 35 (by decide) 3).trans w155
    have w203 : dt182 80 0 = dt 80 0 := (hF184 80 (by decide) 0).trans w25
    have w204 : dt182 80 1 = dt 80 1 := (hF184 80 (by decide) 1).trans w26
    have w205 : dt182 80 2 = dt 80 2 := (hF184 80 (by decide) 2).trans w27
    have w206 : dt182 80 3 = dt 80 3 := (hF184 80 (by decide) 3).trans w28
    have w207 : dt182 80 4 = dt 80 4 := (hF184 80 (by decide) 4).trans w29
    have w208 : dt182 80 5 = dt 80 5 := (hF184 80 (by decide) 5).trans w30
    have w209 : dt182 81 0 = dt 81 0 := (hF184 81 (by decide) 0).trans w31
    have w210 : dt182 81 1 = dt 81 1 := (hF184 81 (by decide) 1).trans w32
    have w211 : dt182 81 2 = dt 81 2 := (hF184 81 (by decide) 2).trans w33
    have w212 : dt182 81 3 = dt 81 3 := (hF184 81 (by decide) 3).trans w34
    have w213 : dt182 81 4 = dt 81 4 := (hF184 81 (by decide) 4).trans w35
    have w214 : dt182 81 5 = dt 81 5 := (hF184 81 (by decide) 5).trans w36
    rcases h181 with ⟨rfl, h181⟩ | ⟨v_h181, rfl, h181r, h181⟩
    · skip
      obtain ⟨h181_0, h181_1, h181_2, h181_3, h181_4, h181_5⟩ := h181
      have w215 : dt182 79 12 = dt 79 12 := h181_1.trans w38
      have w216 : dt182 79 2 = dt 79 2 := h181_3.trans w37
      have w217 : dt182 79 19 = dt 79 19 := h181_4.trans w39
      have w218 : dt182 79 21 = dt 79 21 := h181_5.trans w40
      have M2219 : MW (dt182 81) := MW_frk M2156 hF184 (by decide)
      have C220 : ∀ j : Nat, dt182 2 j = dt 2 j := fun j => (hF184 2 (by decide) j).trans (C157 j)
      have C221 : ∀ j : Nat, dt182 3 j = dt 3 j := fun j => (hF184 3 (by decide) j).trans (C158 j)
      have C222 : ∀ j : Nat, dt182 4 j = dt 4 j := fun j => (hF184 4 (by decide) j).trans (C159 j)
      have C223 : ∀ j : Nat, dt182 5 j = dt 5 j := fun j => (hF184 5 (by decide) j).trans (C160 j)
      have C224 : ∀ j : Nat, dt182 6 j = dt 6 j := fun j => (hF184 6 (by decide) j).trans (C161 j)
      have C225 : ∀ j : Nat, dt182 8 j = dt 8 j := fun j => (hF184 8 (by decide) j).trans (C162 j)
      have C226 : ∀ j : Nat, dt182 9 j = dt 9 j := fun j => (hF184 9 (by decide) j).trans (C163 j)
      have C227 : ∀ j : Nat, dt182 11 j = dt 11 j := fun j => (hF184 11 (by decide) j).trans (C164 j)
      have C228 : ∀ j : Nat, dt182 19 j = dt 19 j := fun j => (hF184 19 (by decide) j).trans (C165 j)
      have C229 : ∀ j : Nat, dt182 20 j = dt 20 j := fun j => (hF184 20 (by decide) j).trans (C166 j)
      have C230 : ∀ j : Nat, dt182 21 j = dt 21 j := fun j => (hF184 21 (by decide) j).trans (C167 j)
      have C231 : ∀ j : Nat, dt182 22 j = dt 22 j := fun j => (hF184 22 (by decide) j).trans (C168 j)
      have C232 : ∀ j : Nat, dt182 23 j = dt 23 j := fun j => (hF184 23 (by decide) j).trans (C169 j)
      have C233 : ∀ j : Nat, dt182 25 j = dt 25 j := fun j => (hF184 25 (by decide) j).trans (C170 j)
      have C234 : ∀ j : Nat, dt182 26 j = dt 26 j := fun j => (hF184 26 (by decide) j).trans (C171 j)
      have C235 : ∀ j : Nat, dt182 28 j = dt 28 j := fun j => (hF184 28 (by decide) j).trans (C172 j)
      have C236 : ∀ j : Nat, dt182 80 j = dt 80 j := fun j => (hF184 80 (by decide) j).trans (C173 j)
      have C237 : ∀ j : Nat, dt182 81 j = dt 81 j := fun j => (hF184 81 (by decide) j).trans (C174 j)
      have C238 : ∀ j : Nat, dt182 85 j = dt 85 j := fun j => (h181_2 j).trans (C175 j)
      refine go_toq PM267 (k := 2) (pc' := 1435) (L' := [some (.inr (.inr (some 3000))), some (.inr (.inr (some 0))), some (.inr (.inr (some 79))), some (.inl i)]) (st' := []) (w' := (SH, dt182)) rfl ?_
      exact K dt182 hI183 hM186 M2219 (w187.trans (hk0.trans w203.symm)) (w188.trans (hk1.trans w204.symm)) (w189.trans (hk2.trans w205.symm)) (w190.trans (hk3.trans w206.symm)) (w191.trans (hk4.trans w207.symm)) (w192.trans (hk5.trans w208.symm)) (w193.trans (hk6.trans w209.symm)) (w194.trans (hk7.trans w210.symm)) (w195.trans (hk8.trans w211.symm)) (w196.trans (hk9.trans w212.symm)) (w197.trans (hk10.trans w213.symm)) (w198.trans (hk11.trans w214.symm)) (w199.trans (hk12.trans w216.symm)) (by omega) (w201.trans (hk14.trans w217.symm)) (w202.trans (hk15.trans w218.symm)) (by first | exact hI | exact TPL_k hd0 hI C238 (by omega) | (exfalso; omega)) (by first | exact hI | exact SCL_k hd1 hM (fun j _ => C220 j) (fun j _ => C221 j) (fun j _ _ => C236 j) | (exfalso; omega)) (by first | exact hI | exact SCL_k hd2 hM2 (fun j _ => C228 j) (fun j _ => C229 j) (fun j _ _ => C237 j) | (exfalso; omega)) (by first | exact hI | exact QRL_k hd3 hM (fun j _ => C225 j) (C236 1) (fun j _ _ => C236 j) | (exfalso; omega)) (by first | exact hI | exact QRL_k hd4 hM2 (fun j _ => C233 j) (C237 1) (fun j _ _ => C237 j) | (exfalso; omega)) (by first | exact hI | exact SDL_k hd5 hM (fun j _ => C226 j) (C236 1) (fun j _ _ => C236 j) (fun j _ _ => C236 j) | (exfalso; omega)) (by first | exact hI | exact SDL_k hd6 hM2 (fun j _ => C234 j) (C237 1) (fun j _ _ => C237 j) (fun j _ _ => C237 j) | (exfalso; omega)) (by first | exact hI | exact LWL_k hd7 hM (fun j _ => C222 j) (fun j _ => C223 j) (fun j _ => C224 j) (fun j _ _ => C236 j) | (exfalso; omega)) (by first | exact hI | exact LWL_k hd8 hM2 (fun j _ => C230 j) (fun j _ => C231 j) (fun j _ => C232 j) (fun j _ _ => C237 j) | (exfalso; omega)) (by first | exact hI | exact CHL_k hd9 hM (fun j _ => C227 j) (by omega) (fun j _ _ => C236 j) | (exfalso; omega)) (by first | exact hI | exact CHL_k hd10 hM2 (fun j _ => C235 j) (by omega) (fun j _ _ => C237 j) | (exfalso; omega))
    · skip
      obtain ⟨h181_0, h181_1, h181_2, h181_3, h181_4, h181_5, h181_6⟩ := h181
      have w239 : dt182 79 2 = dt 79 2 := h181_4.trans w37
      have w240 : dt182 79 19 = dt 79 19 := h181_5.trans w39
      have w241 : dt182 79 21 = dt 79 21 := h181_6.trans w40
      have M2242 : MW (dt182 81) := MW_frk M2156 hF184 (by decide)
      have C243 : ∀ j : Nat, dt182 2 j = dt 2 j := fun j => (hF184 2 (by decide) j).trans (C157 j)
      have C244 : ∀ j : Nat, dt182 3 j = dt 3 j := fun j => (hF184 3 (by decide) j).trans (C158 j)
      have C245 : ∀ j : Nat, dt182 4 j = dt 4 j := fun j => (hF184 4 (by decide) j).trans (C159 j)
      have C246 : ∀ j : Nat, dt182 5 j = dt 5 j := fun j => (hF184 5 (by decide) j).trans (C160 j)
      have C247 : ∀ j : Nat, dt182 6 j = dt 6 j := fun j => (hF184 6 (by decide) j).trans (C161 j)
      have C248 : ∀ j : Nat, dt182 8 j = dt 8 j := fun j => (hF184 8 (by decide) j).trans (C162 j)
      have C249 : ∀ j : Nat, dt182 9 j = dt 9 j := fun j => (hF184 9 (by decide) j).trans (C163 j)
      have C250 : ∀ j : Nat, dt182 11 j = dt 11 j := fun j => (hF184 11 (by decide) j).trans (C164 j)
      have C251 : ∀ j : Nat, dt182 19 j = dt 19 j := fun j => (hF184 19 (by decide) j).trans (C165 j)
      have C252 : ∀ j : Nat, dt182 20 j = dt 20 j := fun j => (hF184 20 (by decide) j).trans (C166 j)
      have C253 : ∀ j : Nat, dt182 21 j = dt 21 j := fun j => (hF184 21 (by decide) j).trans (C167 j)
      have C254 : ∀ j : Nat, dt182 22 j = dt 22 j := fun j => (hF184 22 (by decide) j).trans (C168 j)
      have C255 : ∀ j : Nat, dt182 23 j = dt 23 j := fun j => (hF184 23 (by decide) j).trans (C169 j)
      have C256 : ∀ j : Nat, dt182 25 j = dt 25 j := fun j => (hF184 25 (by decide) j).trans (C170 j)
      have C257 : ∀ j : Nat, dt182 26 j = dt 26 j := fun j => (hF184 26 (by decide) j).trans (C171 j)
      have C258 : ∀ j : Nat, dt182 28 j = dt 28 j := fun j => (hF184 28 (by decide) j).trans (C172 j)
      have C259 : ∀ j : Nat, dt182 80 j = dt 80 j := fun j => (hF184 80 (by decide) j).trans (C173 j)
      have C260 : ∀ j : Nat, dt182 81 j = dt 81 j := fun j => (hF184 81 (by decide) j).trans (C174 j)
      have E261 : TPL (dt7 36) (dt182 85) (dt7 35 1) := by first | exact TPL_f hd0 h6_3 (show FDX (dt 85) (dt182 85) (dt 35 1) (dt7 35 1) _ from by have z_ := h181_3; rw [show dt7 79 12 = dt 35 1 by first | with_reducible assumption | omega, show dt182 79 12 = dt7 35 1 by first | with_reducible assumption | omega, show dt7 85 = dt 85 from funext C175] at z_; exact z_) rfl rfl | (exfalso; omega)
      have E262 : TPL (dt182 36) (dt182 85) (dt182 35 1) := by have z_ := E261; rw [show dt182 36 = dt7 36 from (funext (hF184 36 (by decide))), show dt182 35 1 = dt7 35 1 by first | with_reducible assumption | omega]; exact z_
      refine go_toq PM267 (k := 2) (pc' := 1435) (L' := [some (.inr (.inr (some 3000))), some (.inr (.inr (some 0))), some (.inr (.inr (some 79))), some (.inl i)]) (st' := []) (w' := (SH, dt182)) rfl ?_
      exact K dt182 hI183 hM186 M2242 (w187.trans (hk0.trans w203.symm)) (w188.trans (hk1.trans w204.symm)) (w189.trans (hk2.trans w205.symm)) (w190.trans (hk3.trans w206.symm)) (w191.trans (hk4.trans w207.symm)) (w192.trans (hk5.trans w208.symm)) (w193.trans (hk6.trans w209.symm)) (w194.trans (hk7.trans w210.symm)) (w195.trans (hk8.trans w211.symm)) (w196.trans (hk9.trans w212.symm)) (w197.trans (hk10.trans w213.symm)) (w198.trans (hk11.trans w214.symm)) (w199.trans (hk12.trans w239.symm)) (by omega) (w201.trans (hk14.trans w240.symm)) (w202.trans (hk15.trans w241.symm)) (by first | exact E262 | exact TPL_k hd0 hI hI (by omega) | (exfalso; omega)) (by first | exact hI | exact SCL_k hd1 hM (fun j _ => C243 j) (fun j _ => C244 j) (fun j _ _ => C259 j) | (exfalso; omega)) (by first | exact hI | exact SCL_k hd2 hM2 (fun j _ => C251 j) (fun j _ => C252 j) (fun j _ _ => C260 j) | (exfalso; omega)) (by first | exact hI | exact QRL_k hd3 hM (fun j _ => C248 j) (C259 1) (fun j _ _ => C259 j) | (exfalso; omega)) (by first | exact hI | exact QRL_k hd4 hM2 (fun j _ => C256 j) (C260 1) (fun j _ _ => C260 j) | (exfalso; omega)) (by first | exact hI | exact SDL_k hd5 hM (fun j _ => C249 j) (C259 1) (fun j _ _ => C259 j) (fun j _ _ => C259 j) | (exfalso; omega)) (by first | exact hI | exact SDL_k hd6 hM2 (fun j _ => C257 j) (C260 1) (fun j _ _ => C260 j) (fun j _ _ => C260 j) | (exfalso; omega)) (by first | exact hI | exact LWL_k hd7 hM (fun j _ => C245 j) (fun j _ => C246 j) (fun j _ => C247 j) (fun j _ _ => C259 j) | (exfalso; omega)) (by first | exact hI | exact LWL_k hd8 hM2 (fun j _ => C253 j) (fun j _ => C254 j) (fun j _ => C255 j) (fun j _ _ => C260 j) | (exfalso; omega)) (by first | exact hI | exact CHL_k hd9 hM (fun j _ => C250 j) (by omega) (fun j _ _ => C259 j) | (exfalso; omega)) (by first | exact hI | exact CHL_k hd10 hM2 (fun j _ => C258 j) (by omega) (fun j _ _ => C260 j) | (exfalso; omega))
set_option maxRecDepth 20000 in
set_option maxHeartbeats 8000000 in
theorem sp_case2 (L : Nat) (xs : Nat → Int32) (sio : Option Nat) (d : Nat) (Q : Option AV → am_W → Prop) (hLL : L ≤ 3072) (i : Int) (hi : 0 ≤ i ∧ i ≤ 3066) (hil : i ≤ (L : Int) - 6) (dt : Nat → Nat → Int) (hI : InvC dt) (hM : MW (dt 80)) (hM2 : MW (dt 81)) (hk0 : dt 1 0 = dt 80 0) (hk1 : dt 7 3 = dt 80 1) (hk2 : dt 10 3 = dt 80 2) (hk3 : dt 12 3 = dt 80 3) (hk4 : dt 14 3 = dt 80 4) (hk5 : dt 16 3 = dt 80 5) (hk6 : dt 18 0 = dt 81 0) (hk7 : dt 24 3 = dt 81 1) (hk8 : dt 27 3 = dt 81 2) (hk9 : dt 29 3 = dt 81 3) (hk10 : dt 31 3 = dt 81 4) (hk11 : dt 33 3 = dt 81 5) (hk12 : dt 0 2 = dt 79 2) (hk13 : dt 35 1 = dt 79 12) (hk14 : dt 35 2 = dt 79 19) (hk15 : dt 35 3 = dt 79 21) (hd0 : TPL (dt 36) (dt 85) (dt 35 1)) (hd1 : SCL (dt 2) (dt 3) (dt 80)) (hd2 : SCL (dt 19) (dt 20) (dt 81)) (hd3 : QRL (dt 8) (dt 80)) (hd4 : QRL (dt 25) (dt 81)) (hd5 : SDL (dt 9) (dt 80)) (hd6 : SDL (dt 26) (dt 81)) (hd7 : LWL (dt 4) (dt 5) (dt 6) (dt 80)) (hd8 : LWL (dt 21) (dt 22) (dt 23) (dt 81)) (hd9 : CHL (dt 11) (dt 80)) (hd10 : CHL (dt 28) (dt 81)) (K : ∀ (dt : Nat → Nat → Int) (hI : InvC dt) (hM : MW (dt 80)) (hM2 : MW (dt 81)) (hk0 : dt 1 0 = dt 80 0) (hk1 : dt 7 3 = dt 80 1) (hk2 : dt 10 3 = dt 80 2) (hk3 : dt 12 3 = dt 80 3) (hk4 : dt 14 3 = dt 80 4) (hk5 : dt 16 3 = dt 80 5) (hk6 : dt 18 0 = dt 81 0) (hk7 : dt 24 3 = dt 81 1) (hk8 : dt 27 3 = dt 81 2) (hk9 : dt 29 3 = dt 81 3) (hk10 : dt 31 3 = dt 81 4) (hk11 : dt 33 3 = dt 81 5) (hk12 : dt 0 2 = dt 79 2) (hk13 : dt 35 1 = dt 79 12) (hk14 : dt 35 2 = dt 79 19) (hk15 : dt 35 3 = dt 79 21) (hd0 : TPL (dt 36) (dt 85) (dt 35 1)) (hd1 : SCL (dt 2) (dt 3) (dt 80)) (hd2 : SCL (dt 19) (dt 20) (dt 81)) (hd3 : QRL (dt 8) (dt 80)) (hd4 : QRL (dt 25) (dt 81)) (hd5 : SDL (dt 9) (dt 80)) (hd6 : SDL (dt 26) (dt 81)) (hd7 : LWL (dt 4) (dt 5) (dt 6) (dt 80)) (hd8 : LWL (dt 21) (dt 22) (dt 23) (dt 81)) (hd9 : CHL (dt 11) (dt 80)) (hd10 : CHL (dt 28) (dt 81)), GO (am_XX L xs sio) (d + 39) 267 1435 [some (.inr (.inr (some 3000))), some (.inr (.inr (some 0))), some (.inr (.inr (some 79))), some (.inl i)] [] (SH, dt) Q) : GO (am_XX L xs sio) (d + 39) 267 266 [some (.inr (.inr (some 3000))), some (.inr (.inr (some 0))), some (.inr (.inr (some 79))), some (.inl i)] [] (SH, dt) Q := by
  have hF : Fr [0, 1, 2, 3, 4, 5, 6, 7, 8, 9, 10, 11, 12, 13, 14, 15, 16, 17, 18, 19, 20, 21, 22, 23, 24, 25, 26, 27, 28, 29, 30, 31, 32, 33, 34, 35, 36, 37, 38, 39, 40, 41, 42, 43, 44, 45, 46, 47, 48, 49, 50, 51, 52, 53, 54, 55, 56, 57, 58, 59, 60, 61, 62, 63, 64, 65, 66, 67, 68, 69, 70, 71, 72, 73, 74, 75, 76, 77, 78, 79, 80, 81, 82, 83, 84, 85, 86, 87, 88, 89, 90, 91, 92, 93, 94, 95, 96, 97, 98, 99, 100, 101, 102, 103, 104] dt dt := Fr_refl
  have hqo := QOC_R hd3 hM hk1
  have hb1_ := hM.1.1
  have hb2_ := hM.1.2.1
  have hb3_ := hM.1.2.2.1
  have halk : ALK dt (dt 80) := ⟨hd7, hd3, hd5, hd9, hk1, hk2⟩
  refine go_toq PM267 (k := 5) (pc' := 271) (L' := [some (.inr (.inr (some 3000))), some (.inr (.inr (some 0))), some (.inr (.inr (some 79))), some (.inl i)]) (st' := [.inl (i + 1), .inr (.inr (some 3000)), .inr (.inr (some 0))]) (w' := (SH, dt)) rfl ?_
  have r1 := i32_R (xs ((i + 1).toNat))
  refine go_smpq PM267 (L' := [some (.inr (.inr (some 3000))), some (.inr (.inr (some 0))), some (.inr (.inr (some 79))), some (.inl i)]) (st' := [.inl ((xs ((i + 1).toNat)).toInt), .inr (.inr (some 0))]) (w' := (SH, dt)) rfl rfl (s_iald (n := L) (f := fun j => (xs j).toInt) (am_scr hLL) ⟨by omega, by omega⟩) ?_
  refine go_callq PM267 PM69 (Q' := _) rfl rfl rfl rfl (sp_X5_end_f L xs sio (d + 37) dt hI  ((xs ((i + 1).toNat)).toInt) ⟨by omega, by omega⟩ ) ?_
  rintro _ _ ⟨dt3, rfl, hI4, hF5, h2⟩
  refine ⟨rfl, ?_⟩
  have hF6 : Fr [0, 1, 2, 3, 4, 5, 6, 7, 8, 9, 10, 11, 12, 13, 14, 15, 16, 17, 18, 19, 20, 21, 22, 23, 24, 25, 26, 27, 28, 29, 30, 31, 32, 33, 34, 35, 36, 37, 38, 39, 40, 41, 42, 43, 44, 45, 46, 47, 48, 49, 50, 51, 52, 53, 54, 55, 56, 57, 58, 59, 60, 61, 62, 63, 64, 65, 66, 67, 68, 69, 70, 71, 72, 73, 74, 75, 76, 77, 78, 79, 80, 81, 82, 83, 84, 85, 86, 87, 88, 89, 90, 91, 92, 93, 94, 95, 96, 97, 98, 99, 100, 101, 102, 103, 104] dt dt3 := Fr_tr hF hF5 (by decide)
  have hM7 : MW (dt3 80) := MW_fr hM hF5 (by decide)
  have w8 : dt3 1 0 = dt 1 0 := hF5 1 (by decide) 0
  have w9 : dt3 7 3 = dt 7 3 := hF5 7 (by decide) 3
  have w10 : dt3 10 3 = dt 10 3 := hF5 10 (by decide) 3
  have w11 : dt3 12 3 = dt 12 3 := hF5 12 (by decide) 3
  have w12 : dt3 14 3 = dt 14 3 := hF5 14 (by decide) 3
  have w13 : dt3 16 3 = dt 16 3 := hF5 16 (by decide) 3
  have w14 : dt3 18 0 = dt 18 0 := hF5 18 (by decide) 0
  have w15 : dt3 24 3 = dt 24 3 := hF5 24 (by decide) 3
  have w16 : dt3 27 3 = dt 27 3 := hF5 27 (by decide) 3
  have w17 : dt3 29 3 = dt 29 3 := hF5 29 (by decide) 3
  have w18 : dt3 31 3 = dt 31 3 := hF5 31 (by decide) 3
  have w19 : dt3 33 3 = dt 33 3 := hF5 33 (by decide) 3
  have w20 : dt3 0 2 = dt 0 2 := hF5 0 (by decide) 2
  have w21 : dt3 80 0 = dt 80 0 := hF5 80 (by decide) 0
  have w22 : dt3 80 1 = dt 80 1 := hF5 80 (by decide) 1
  have w23 : dt3 80 2 = dt 80 2 := hF5 80 (by decide) 2
  have w24 : dt3 80 3 = dt 80 3 := hF5 80 (by decide) 3
  have w25 : dt3 80 4 = dt 80 4 := hF5 80 (by decide) 4
  have w26 : dt3 80 5 = dt 80 5 := hF5 80 (by decide) 5
  have w27 : dt3 81 0 = dt 81 0 := hF5 81 (by decide) 0
  have w28 : dt3 81 1 = dt 81 1 := hF5 81 (by decide) 1
  have w29 : dt3 81 2 = dt 81 2 := hF5 81 (by decide) 2
  have w30 : dt3 81 3 = dt 81 3 := hF5 81 (by decide) 3
  have w31 : dt3 81 4 = dt 81 4 := hF5 81 (by decide) 4
  have w32 : dt3 81 5 = dt 81 5 := hF5 81 (by decide) 5
  have w33 : dt3 79 2 = dt 79 2 := hF5 79 (by decide) 2
  have w34 : dt3 79 12 = dt 79 12 := hF5 79 (by decide) 12
  have w35 : dt3 79 19 = dt 79 19 := hF5 79 (by decide) 19
  have w36 : dt3 79 21 = dt 79 21 := hF5 79 (by decide) 21
  rcases h2 with ⟨rfl, h2⟩ | ⟨rfl, h2⟩
  · skip
    obtain ⟨h2_0, h2_1, h2_2, h2_3⟩ := h2
    have w37 : dt3 35 2 = dt 35 2 := h2_2
    have w38 : dt3 35 3 = dt 35 3 := h2_3
    have M239 : MW (dt3 81) := MW_frk hM2 hF5 (by decide)
    have C40 : ∀ j : Nat, dt3 2 j = dt 2 j := fun j => (hF5 2 (by decide) j).trans ((fun _ => rfl) j)
    have C41 : ∀ j : Nat, dt3 3 j = dt 3 j := fun j => (hF5 3 (by decide) j).trans ((fun _ => rfl) j)
    have C42 : ∀ j : Nat, dt3 4 j = dt 4 j := fun j => (hF5 4 (by decide) j).trans ((fun _ => rfl) j)
    have C43 : ∀ j : Nat, dt3 5 j = dt 5 j := fun j => (hF5 5 (by decide) j).trans ((fun _ => rfl) j)
    have C44 : ∀ j : Nat, dt3 6 j = dt 6 j := fun j => (hF5 6 (by decide) j).trans ((fun _ => rfl) j)
    have C45 : ∀ j : Nat, dt3 8 j = dt 8 j := fun j => (hF5 8 (by decide) j).trans ((fun _ => rfl) j)
    have C46 : ∀ j : Nat, dt3 9 j = dt 9 j := fun j => (hF5 9 (by decide) j).trans ((fun _ => rfl) j)
    have C47 : ∀ j : Nat, dt3 11 j = dt 11 j := fun j => (hF5 11 (by decide) j).trans ((fun _ => rfl) j)
    have C48 : ∀ j : Nat, dt3 19 j = dt 19 j := fun j => (hF5 19 (by decide) j).trans ((fun _ => rfl) j)
    have C49 : ∀ j : Nat, dt3 20 j = dt 20 j := fun j => (hF5 20 (by decide) j).trans ((fun _ => rfl) j)
    have C50 : ∀ j : Nat, dt3 21 j = dt 21 j := fun j => (hF5 21 (by decide) j).trans ((fun _ => rfl) j)
    have C51 : ∀ j : Nat, dt3 22 j = dt 22 j := fun j => (hF5 22 (by decide) j).trans ((fun _ => rfl) j)
    have C52 : ∀ j : Nat, dt3 23 j = dt 23 j := fun j => (hF5 23 (by decide) j).trans ((fun _ => rfl) j)
    have C53 : ∀ j : Nat, dt3 25 j = dt 25 j := fun j => (hF5 25 (by decide) j).trans ((fun _ => rfl) j)
    have C54 : ∀ j : Nat, dt3 26 j = dt 26 j := fun j => (hF5 26 (by decide) j).trans ((fun _ => rfl) j)
    have C55 : ∀ j : Nat, dt3 28 j = dt 28 j := fun j => (hF5 28 (by decide) j).trans ((fun _ => rfl) j)
    have C56 : ∀ j : Nat, dt3 36 j = dt 36 j := fun j => (hF5 36 (by decide) j).trans ((fun _ => rfl) j)
    have C57 : ∀ j : Nat, dt3 80 j = dt 80 j := fun j => (hF5 80 (by decide) j).trans ((fun _ => rfl) j)
    have C58 : ∀ j : Nat, dt3 81 j = dt 81 j := fun j => (hF5 81 (by decide) j).trans ((fun _ => rfl) j)
    have C59 : ∀ j : Nat, dt3 85 j = dt 85 j := fun j => (hF5 85 (by decide) j).trans ((fun _ => rfl) j)
    refine go_toq PM267 (k := 6) (pc' := 281) (L' := [some (.inr (.inr (some 3000))), some (.inr (.inr (some 0))), some (.inr (.inr (some 79))), some (.inl i)]) (st' := [.inl (i + 1), .inr (.inr (some 3000)), .inr (.inr (some 79))]) (w' := (SH, dt3)) rfl ?_
    have r60 := i32_R (xs ((i + 1).toNat))
    refine go_smpq PM267 (L' := [some (.inr (.inr (some 3000))), some (.inr (.inr (some 0))), some (.inr (.inr (some 79))), some (.inl i)]) (st' := [.inl ((xs ((i + 1).toNat)).toInt), .inr (.inr (some 79))]) (w' := (SH, dt3)) rfl rfl (s_iald (n := L) (f := fun j => (xs j).toInt) (am_scr hLL) ⟨by omega, by omega⟩) ?_
    refine go_callq PM267 PM152 (Q' := _) rfl rfl rfl rfl (sp_X6_end_f L xs sio (d + 37) dt3 hI4  ((xs ((i + 1).toNat)).toInt) ⟨by omega, by omega⟩ ) ?_
    rintro _ _ ⟨dt62, rfl, hI63, hF64, h61⟩
    refine ⟨rfl, ?_⟩
    have hF65 : Fr [0, 1, 2, 3, 4, 5, 6, 7, 8, 9, 10, 11, 12, 13, 14, 15, 16, 17, 18, 19, 20, 21, 22, 23, 24, 25, 26, 27, 28, 29, 30, 31, 32, 33, 34, 35, 36, 37, 38, 39, 40, 41, 42, 43, 44, 45, 46, 47, 48, 49, 50, 51, 52, 53, 54, 55, 56, 57, 58, 59, 60, 61, 62, 63, 64, 65, 66, 67, 68, 69, 70, 71, 72, 73, 74, 75, 76, 77, 78, 79, 80, 81, 82, 83, 84, 85, 86, 87, 88, 89, 90, 91, 92, 93, 94, 95, 96, 97, 98, 99, 100, 101, 102, 103, 104] dt dt62 := Fr_tr hF6 hF64 (by decide)
    have hM66 : MW (dt62 80) := MW_fr hM7 hF64 (by decide)
    have w67 : dt62 1 0 = dt 1 0 := (hF64 1 (by decide) 0).trans w8
    have w68 : dt62 7 3 = dt 7 3 := (hF64 7 (by decide) 3).trans w9
    have w69 : dt62 10 3 = dt 10 3 := (hF64 10 (by decide) 3).trans w10
    have w70 : dt62 12 3 = dt 12 3 := (hF64 12 (by decide) 3).trans w11
    have w71 : dt62 14 3 = dt 14 3 := (hF64 14 (by decide) 3).trans w12
    have w72 : dt62 16 3 = dt 16 3 := (hF64 16 (by decide) 3).trans w13
    have w73 : dt62 18 0 = dt 18 0 := (hF64 18 (by decide) 0).trans w14
    have w74 : dt62 24 3 = dt 24 3 := (hF64 24 (by decide) 3).trans w15
    have w75 : dt62 27 3 = dt 27 3 := (hF64 27 (by decide) 3).trans w16
    have w76 : dt62 29 3 = dt 29 3 := (hF64 29 (by decide) 3).trans w17
    have w77 : dt62 31 3 = dt 31 3 := (hF64 31 (by decide) 3).trans w18
    have w78 : dt62 33 3 = dt 33 3 := (hF64 33 (by decide) 3).trans w19
    have w79 : dt62 0 2 = dt 0 2 := (hF64 0 (by decide) 2).trans w20
    have w80 : dt62 35 1 = dt3 35 1 := hF64 35 (by decide) 1
    have w81 : dt62 35 2 = dt 35 2 := (hF64 35 (by decide) 2).trans w37
    have w82 : dt62 35 3 = dt 35 3 := (hF64 35 (by decide) 3).trans w38
    have w83 : dt62 80 0 = dt 80 0 := (hF64 80 (by decide) 0).trans w21
    have w84 : dt62 80 1 = dt 80 1 := (hF64 80 (by decide) 1).trans w22
    have w85 : dt62 80 2 = dt 80 2 := (hF64 80 (by decide) 2).trans w23
    have w86 : dt62 80 3 = dt 80 3 := (hF64 80 (by decide) 3).trans w24
    have w87 : dt62 80 4 = dt 80 4 := (hF64 80 (by decide) 4).trans w25
    have w88 : dt62 80 5 = dt 80 5 := (hF64 80 (by decide) 5).trans w26
    have w89 : dt62 81 0 = dt 81 0 := (hF64 81 (by decide) 0).trans w27
    have w90 : dt62 81 1 = dt 81 1 := (hF64 81 (by decide) 1).trans w28
    have w91 : dt62 81 2 = dt 81 2 := (hF64 81 (by decide) 2).trans w29
    have w92 : dt62 81 3 = dt 81 3 := (hF64 81 (by decide) 3).trans w30
    have w93 : dt62 81 4 = dt 81 4 := (hF64 81 (by decide) 4).trans w31
    have w94 : dt62 81 5 = dt 81 5 := (hF64 81 (by decide) 5).trans w32
    rcases h61 with ⟨rfl, h61⟩ | ⟨rfl, h61⟩
    · skip
      obtain ⟨h61_0, h61_1, h61_2, h61_3, h61_4⟩ := h61
      have w95 : dt62 79 2 = dt 79 2 := h61_2.trans w33
      have w96 : dt62 79 19 = dt 79 19 := h61_3.trans w35
      have w97 : dt62 79 21 = dt 79 21 := h61_4.trans w36
      have M298 : MW (dt62 81) := MW_frk M239 hF64 (by decide)
      have C99 : ∀ j : Nat, dt62 2 j = dt 2 j := fun j => (hF64 2 (by decide) j).trans (C40 j)
      have C100 : ∀ j : Nat, dt62 3 j = dt 3 j := fun j => (hF64 3 (by decide) j).trans (C41 j)
      have C101 : ∀ j : Nat, dt62 4 j = dt 4 j := fun j => (hF64 4 (by decide) j).trans (C42 j)
      have C102 : ∀ j : Nat, dt62 5 j = dt 5 j := fun j => (hF64 5 (by decide) j).trans (C43 j)
      have C103 : ∀ j : Nat, dt62 6 j = dt 6 j := fun j => (hF64 6 (by decide) j).trans (C44 j)
      have C104 : ∀ j : Nat, dt62 8 j = dt 8 j := fun j => (hF64 8 (by decide) j).trans (C45 j)
      have C105 : ∀ j : Nat, dt62 9 j = dt 9 j := fun j => (hF64 9 (by decide) j).trans (C46 j)
      have C106 : ∀ j : Nat, dt62 11 j = dt 11 j := fun j => (hF64 11 (by decide) j).trans (C47 j)
      have C107 : ∀ j : Nat, dt62 19 j = dt 19 j := fun j => (hF64 19 (by decide) j).trans (C48 j)
      have C108 : ∀ j : Nat, dt62 20 j = dt 20 j := fun j => (hF64 20 (by decide) j).trans (C49 j)
      have C109 : ∀ j : Nat, dt62 21 j = dt 21 j := fun j => (hF64 21 (by decide) j).trans (C50 j)
      have C110 : ∀ j : Nat, dt62 22 j = dt 22 j := fun j => (hF64 22 (by decide) j).trans (C51 j)
      have C111 : ∀ j : Nat, dt62 23 j = dt 23 j := fun j => (hF64 23 (by decide) j).trans (C52 j)
      have C112 : ∀ j : Nat, dt62 25 j = dt 25 j := fun j => (hF64 25 (by decide) j).trans (C53 j)
      have C113 : ∀ j : Nat, dt62 26 j = dt 26 j := fun j => (hF64 26 (by decide) j).trans (C54 j)
      have C114 : ∀ j : Nat, dt62 28 j = dt 28 j := fun j => (hF64 28 (by decide) j).trans (C55 j)
      have C115 : ∀ j : Nat, dt62 36 j = dt 36 j := fun j => (hF64 36 (by decide) j).trans (C56 j)
      have C116 : ∀ j : Nat, dt62 80 j = dt 80 j := fun j => (hF64 80 (by decide) j).trans (C57 j)
      have C117 : ∀ j : Nat, dt62 81 j = dt 81 j := fun j => (hF64 81 (by decide) j).trans (C58 j)
      have C118 : ∀ j : Nat, dt62 85 j = dt 85 j := fun j => (hF64 85 (by decide) j).trans (C59 j)
      refine go_toq PM267 (k := 2) (pc' := 1435) (L' := [some (.inr (.inr (some 3000))), some (.inr (.inr (some 0))), some (.inr (.inr (some 79))), some (.inl i)]) (st' := []) (w' := (SH, dt62)) rfl ?_
      exact K dt62 hI63 hM66 M298 (w67.trans (hk0.trans w83.symm)) (w68.trans (hk1.trans w84.symm)) (w69.trans (hk2.trans w85.symm)) (w70.trans (hk3.trans w86.symm)) (w71.trans (hk4.trans w87.symm)) (w72.trans (hk5.trans w88.symm)) (w73.trans (hk6.trans w89.symm)) (w74.trans (hk7.trans w90.symm)) (w75.trans (hk8.trans w91.symm)) (w76.trans (hk9.trans w92.symm)) (w77.trans (hk10.trans w93.symm)) (w78.trans (hk11.trans w94.symm)) (w79.trans (hk12.trans w95.symm)) (by omega) (w81.trans (hk14.trans w96.symm)) (w82.trans (hk15.trans w97.symm)) (by first | exact hI | exact TPL_k hd0 C115 C118 (by omega) | (exfalso; omega)) (by first | exact hI | exact SCL_k hd1 hM (fun j _ => C99 j) (fun j _ => C100 j) (fun j _ _ => C116 j) | (exfalso; omega)) (by first | exact hI | exact SCL_k hd2 hM2 (fun j _ => C107 j) (fun j _ => C108 j) (fun j _ _ => C117 j) | (exfalso; omega)) (by first | exact hI | exact QRL_k hd3 hM (fun j _ => C104 j) (C116 1) (fun j _ _ => C116 j) | (exfalso; omega)) (by first | exact hI | exact QRL_k hd4 hM2 (fun j _ => C112 j) (C117 1) (fun j _ _ => C117 j) | (exfalso; omega)) (by first | exact hI | exact SDL_k hd5 hM (fun j _ => C105 j) (C116 1) (fun j _ _ => C116 j) (fun j _ _ => C116 j) | (exfalso; omega)) (by first | exact hI | exact SDL_k hd6 hM2 (fun j _ => C113 j) (C117 1) (fun j _ _ => C117 j) (fun j _ _ => C117 j) | (exfalso; omega)) (by first | exact hI | exact LWL_k hd7 hM (fun j _ => C101 j) (fun j _ => C102 j) (fun j _ => C103 j) (fun j _ _ => C116 j) | (exfalso; omega)) (by first | exact hI | exact LWL_k hd8 hM2 (fun j _ => C109 j) (fun j _ => C110 j) (fun j _ => C111 j) (fun j _ _ => C117 j) | (exfalso; omega)) (by first | exact hI | exact CHL_k hd9 hM (fun j _ => C106 j) (by omega) (fun j _ _ => C116 j) | (exfalso; omega)) (by first | exact hI | exact CHL_k hd10 hM2 (fun j _ => C114 j) (by omega) (fun j _ _ => C117 j) | (exfalso; omega))
    · skip
      obtain ⟨h61_0, h61_1, h61_2, h61_3, h61_4⟩ := h61
      replace h61_0 := hid h61_0
      have w119 : dt62 79 12 = dt 79 12 := h61_1.trans w34
      have w120 : dt62 79 2 = dt 79 2 := h61_2.trans w33
      have w121 : dt62 79 19 = dt 79 19 := h61_3.trans w35
      have w122 : dt62 79 21 = dt 79 21 := h61_4.trans w36
      have M2123 : MW (dt62 81) := MW_frk M239 hF64 (by decide)
      have C124 : ∀ j : Nat, dt62 2 j = dt 2 j := fun j => (hF64 2 (by decide) j).trans (C40 j)
      have C125 : ∀ j : Nat, dt62 3 j = dt 3 j := fun j => (hF64 3 (by decide) j).trans (C41 j)
      have C126 : ∀ j : Nat, dt62 4 j = dt 4 j := fun j => (hF64 4 (by decide) j).trans (C42 j)
      have C127 : ∀ j : Nat, dt62 5 j = dt 5 j := fun j => (hF64 5 (by decide) j).trans (C43 j)
      have C128 : ∀ j : Nat, dt62 6 j = dt 6 j := fun j => (hF64 6 (by decide) j).trans (C44 j)
      have C129 : ∀ j : Nat, dt62 8 j = dt 8 j := fun j => (hF64 8 (by decide) j).trans (C45 j)
      have C130 : ∀ j : Nat, dt62 9 j = dt 9 j := fun j => (hF64 9 (by decide) j).trans (C46 j)
      have C131 : ∀ j : Nat, dt62 11 j = dt 11 j := fun j => (hF64 11 (by decide) j).trans (C47 j)
      have C132 : ∀ j : Nat, dt62 19 j = dt 19 j := fun j => (hF64 19 (by decide) j).trans (C48 j)
      have C133 : ∀ j : Nat, dt62 20 j = dt 20 j := fun j => (hF64 20 (by decide) j).trans (C49 j)
      have C134 : ∀ j : Nat, dt62 21 j = dt 21 j := fun j => (hF64 21 (by decide) j).trans (C50 j)
      have C135 : ∀ j : Nat, dt62 22 j = dt 22 j := fun j => (hF64 22 (by decide) j).trans (C51 j)
      have C136 : ∀ j : Nat, dt62 23 j = dt 23 j := fun j => (hF64 23 (by decide) j).trans (C52 j)
      have C137 : ∀ j : Nat, dt62 25 j = dt 25 j := fun j => (hF64 25 (by decide) j).trans (C53 j)
      have C138 : ∀ j : Nat, dt62 26 j = dt 26 j := fun j => (hF64 26 (by decide) j).trans (C54 j)
      have C139 : ∀ j : Nat, dt62 28 j = dt 28 j := fun j => (hF64 28 (by decide) j).trans (C55 j)
      have C140 : ∀ j : Nat, dt62 36 j = dt 36 j := fun j => (hF64 36 (by decide) j).trans (C56 j)
      have C141 : ∀ j : Nat, dt62 80 j = dt 80 j := fun j => (hF64 80 (by decide) j).trans (C57 j)
      have C142 : ∀ j : Nat, dt62 81 j = dt 81 j := fun j => (hF64 81 (by decide) j).trans (C58 j)
      have C143 : ∀ j : Nat, dt62 85 j = dt 85 j := fun j => (hF64 85 (by decide) j).trans (C59 j)
      refine go_toq PM267 (k := 2) (pc' := 1435) (L' := [some (.inr (.inr (some 3000))), some (.inr (.inr (some 0))), some (.inr (.inr (some 79))), some (.inl i)]) (st' := []) (w' := (SH, dt62)) rfl ?_
      exact K dt62 hI63 hM66 M2123 (w67.trans (hk0.trans w83.symm)) (w68.trans (hk1.trans w84.symm)) (w69.trans (hk2.trans w85.symm)) (w70.trans (hk3.trans w86.symm)) (w71.trans (hk4.trans w87.symm)) (w72.trans (hk5.trans w88.symm)) (w73.trans (hk6.trans w89.symm)) (w74.trans (hk7.trans w90.symm)) (w75.trans (hk8.trans w91.symm)) (w76.trans (hk9.trans w92.symm)) (w77.trans (hk10.trans w93.symm)) (w78.trans (hk11.trans w94.symm)) (w79.trans (hk12.trans w120.symm)) (by (first | omega | (have z0_ := unhid h61_0; omega))) (w81.trans (hk14.trans w121.symm)) (w82.trans (hk15.trans w122.symm)) (by first | exact hI | exact TPL_k hd0 C140 C143 (by (first | omega | (have z0_ := unhid h61_0; omega))) | (exfalso; (first | omega | (have z0_ := unhid h61_0; omega)))) (by first | exact hI | exact SCL_k hd1 hM (fun j _ => C124 j) (fun j _ => C125 j) (fun j _ _ => C141 j) | (exfalso; (first | omega | (have z0_ := unhid h61_0; omega)))) (by first | exact hI | exact SCL_k hd2 hM2 (fun j _ => C132 j) (fun j _ => C133 j) (fun j _ _ => C142 j) | (exfalso; (first | omega | (have z0_ := unhid h61_0; omega)))) (by first | exact hI | exact QRL_k hd3 hM (fun j _ => C129 j) (C141 1) (fun j _ _ => C141 j) | (exfalso; (first | omega | (have z0_ := unhid h61_0; omega)))) (by first | exact hI | exact QRL_k hd4 hM2 (fun j _ => C137 j) (C142 1) (fun j _ _ => C142 j) | (exfalso; (first | omega | (have z0_ := unhid h61_0; omega)))) (by first | exact hI | exact SDL_k hd5 hM (fun j _ => C130 j) (C141 1) (fun j _ _ => C141 j) (fun j _ _ => C141 j) | (exfalso; (first | omega | (have z0_ := unhid h61_0; omega)))) (by first | exact hI | exact SDL_k hd6 hM2 (fun j _ => C138 j) (C142 1) (fun j _ _ => C142 j) (fun j _ _ => C142 j) | (exfalso; (first | omega | (have z0_ := unhid h61_0; omega)))) (by first | exact hI | exact LWL_k hd7 hM (fun j _ => C126 j) (fun j _ => C127 j) (fun j _ => C128 j) (fun j _ _ => C141 j) | (exfalso; (first | omega | (have z0_ := unhid h61_0; omega)))) (by first | exact hI | exact LWL_k hd8 hM2 (fun j _ => C134 j) (fun j _ => C135 j) (fun j _ => C136 j) (fun j _ _ => C142 j) | (exfalso; (first | omega | (have z0_ := unhid h61_0; omega)))) (by first | exact hI | exact CHL_k hd9 hM (fun j _ => C131 j) (by (first | omega | (have z0_ := unhid h61_0; omega))) (fun j _ _ => C141 j) | (exfalso; (first | omega | (have z0_ := unhid h61_0; omega)))) (by first | exact hI | exact CHL_k hd10 hM2 (fun j _ => C139 j) (by (first | omega | (have z0_ := unhid h61_0; omega))) (fun j _ _ => C142 j) | (exfalso; (first | omega | (have z0_ := unhid h61_0; omega))))
  · skip
    obtain ⟨h2_0, h2_1, h2_2, h2_3⟩ := h2
    replace h2_0 := hid h2_0
    have w144 : dt3 35 1 = dt 35 1 := h2_1
    have w145 : dt3 35 2 = dt 35 2 := h2_2
    have w146 : dt3 35 3 = dt 35 3 := h2_3
    have M2147 : MW (dt3 81) := MW_frk hM2 hF5 (by decide)
    have C148 : ∀ j : Nat, dt3 2 j = dt 2 j := fun j => (hF5 2 (by decide) j).trans ((fun _ => rfl) j)
    have C149 : ∀ j : Nat, dt3 3 j = dt 3 j := fun j => (hF5 3 (by decide) j).trans ((fun _ => rfl) j)
    have C150 : ∀ j : Nat, dt3 4 j = dt 4 j := fun j => (hF5 4 (by decide) j).trans ((fun _ => rfl) j)
    have C151 : ∀ j : Nat, dt3 5 j = dt 5 j := fun j => (hF5 5 (by decide) j).trans ((fun _ => rfl) j)
    have C152 : ∀ j : Nat, dt3 6 j = dt 6 j := fun j => (hF5 6 (by decide) j).trans ((fun _ => rfl) j)
    have C153 : ∀ j : Nat, dt3 8 j = dt 8 j := fun j => (hF5 8 (by decide) j).trans ((fun _ => rfl) j)
    have C154 : ∀ j : Nat, dt3 9 j = dt 9 j := fun j => (hF5 9 (by decide) j).trans ((fun _ => rfl) j)
    have C155 : ∀ j : Nat, dt3 11 j = dt 11 j := fun j => (hF5 11 (by decide) j).trans ((fun _ => rfl) j)
    have C156 : ∀ j : Nat, dt3 19 j = dt 19 j := fun j => (hF5 19 (by decide) j).trans ((fun _ => rfl) j)
    have C157 : ∀ j : Nat, dt3 20 j = dt 20 j := fun j => (hF5 20 (by decide) j).trans ((fun _ => rfl) j)
    have C158 : ∀ j : Nat, dt3 21 j = dt 21 j := fun j => (hF5 21 (by decide) j).trans ((fun _ => rfl) j)
    have C159 : ∀ j : Nat, dt3 22 j = dt 22 j := fun j => (hF5 22 (by decide) j).trans ((fun _ => rfl) j)
    have C160 : ∀ j : Nat, dt3 23 j = dt 23 j := fun j => (hF5 23 (by decide) j).trans ((fun _ => rfl) j)
    have C161 : ∀ j : Nat, dt3 25 j = dt 25 j := fun j => (hF5 25 (by decide) j).trans ((fun _ => rfl) j)
    have C162 : ∀ j : Nat, dt3 26 j = dt 26 j := fun j => (hF5 26 (by decide) j).trans ((fun _ => rfl) j)
    have C163 : ∀ j : Nat, dt3 28 j = dt 28 j := fun j => (hF5 28 (by decide) j).trans ((fun _ => rfl) j)
    have C164 : ∀ j : Nat, dt3 36 j = dt 36 j := fun j => (hF5 36 (by decide) j).trans ((fun _ => rfl) j)
    have C165 : ∀ j : Nat, dt3 80 j = dt 80 j := fun j => (hF5 80 (by decide) j).trans ((fun _ => rfl) j)
    have C166 : ∀ j : Nat, dt3 81 j = dt 81 j := fun j => (hF5 81 (by decide) j).trans ((fun _ => rfl) j)
    have C167 : ∀ j : Nat, dt3 85 j = dt 85 j := fun j => (hF5 85 (by decide) j).trans ((fun _ => rfl) j)
    refine go_toq PM267 (k := 6) (pc' := 281) (L' := [some (.inr (.inr (some 3000))), some (.inr (.inr (some 0))), some (.inr (.inr (some 79))), some (.inl i)]) (st' := [.inl (i + 1), .inr (.inr (some 3000)), .inr (.inr (some 79))]) (w' := (SH, dt3)) rfl ?_
    have r168 := i32_R (xs ((i + 1).toNat))
    refine go_smpq PM267 (L' := [some (.inr (.inr (some 3000))), some (.inr (.inr (some 0))), some (.inr (.inr (some 79))), some (.inl i)]) (st' := [.inl ((xs ((i + 1).toNat)).toInt), .inr (.inr (some 79))]) (w' := (SH, dt3)) rfl rfl (s_iald (n := L) (f := fun j => (xs j).toInt) (am_scr hLL) ⟨by (first | omega | (have z0_ := unhid h2_0; omega)), by (first | omega | (have z0_ := unhid h2_0; omega))⟩) ?_
    refine go_callq PM267 PM152 (Q' := _) rfl rfl rfl rfl (sp_X6_end_f L xs sio (d + 37) dt3 hI4  ((xs ((i + 1).toNat)).toInt) ⟨by (first | omega | (have z0_ := unhid h2_0; omega)), by (first | omega | (have z0_ := unhid h2_0; omega))⟩ ) ?_
    rintro _ _ ⟨dt170, rfl, hI171, hF172, h169⟩
    refine ⟨rfl, ?_⟩
    have hF173 : Fr [0, 1, 2, 3, 4, 5, 6, 7, 8, 9, 10, 11, 12, 13, 14, 15, 16, 17, 18, 19, 20, 21, 22, 23, 24, 25, 26, 27, 28, 29, 30, 31, 32, 33, 34, 35, 36, 37, 38, 39, 40, 41, 42, 43, 44, 45, 46, 47, 48, 49, 50, 51, 52, 53, 54, 55, 56, 57, 58, 59, 60, 61, 62, 63, 64, 65, 66, 67, 68, 69, 70, 71, 72, 73, 74, 75, 76, 77, 78, 79, 80, 81, 82, 83, 84, 85, 86, 87, 88, 89, 90, 91, 92, 93, 94, 95, 96, 97, 98, 99, 100, 101, 102, 103, 104] dt dt170 := Fr_tr hF6 hF172 (by decide)
    have hM174 : MW (dt170 80) := MW_fr hM7 hF172 (by decide)
    have w175 : dt170 1 0 = dt 1 0 := (hF172 1 (by decide) 0).trans w8
    have w176 : dt170 7 3 = dt 7 3 := (hF172 7 (by decide) 3).trans w9
    have w177 : dt170 10 3 = dt 10 3 := (hF172 10 (by decide) 3).trans w10
    have w178 : dt170 12 3 = dt 12 3 := (hF172 12 (by decide) 3).trans w11
    have w179 : dt170 14 3 = dt 14 3 := (hF172 14 (by decide) 3).trans w12
    have w180 : dt170 16 3 = dt 16 3 := (hF172 16 (by decide) 3).trans w13
    have w181 : dt170 18 0 = dt 18 0 := (hF172 18 (by decide) 0).trans w14
    have w182 : dt170 24 3 = dt 24 3 := (hF172 24 (by decide) 3).trans w15
    have w183 : dt170 27 3 = dt 27 3 := (hF172 27 (by decide) 3).trans w16
    have w184 : dt170 29 3 = dt 29 3 := (hF172 29 (by decide) 3).trans w17
    have w185 : dt170 31 3 = dt 31 3 := (hF172 31 (by decide) 3).trans w18
    have w186 : dt170 33 3 = dt 33 3 := (hF172 33 (by decide) 3).trans w19
    have w187 : dt170 0 2 = dt 0 2 := (hF172 0 (by decide) 2).trans w20
    have w188 : dt170 35 1 = dt 35 1 := (hF172 35 (by decide) 1).trans w144
    have w189 : dt170 35 2 = dt 35 2 := (hF172 35 (by decide) 2).trans w145
    have w190 : dt170 35 3 = dt 35 3 := (hF172 35 (by decide) 3).trans w146
    have w191 : dt170 80 0 = dt 80 0 := (hF172 80 (by decide) 0).trans w21
    have w192 : dt170 80 1 = dt 80 1 := (hF172 80 (by decide) 1).trans w22
    have w193 : dt170 80 2 = dt 80 2 := (hF172 80 (by decide) 2).trans w23
    have w194 : dt170 80 3 = dt 80 3 := (hF172 80 (by decide) 3).trans w24
    have w195 : dt170 80 4 = dt 80 4 := (hF172 80 (by decide) 4).trans w25
    have w196 : dt170 80 5 = dt 80 5 := (hF172 80 (by decide) 5).trans w26
    have w197 : dt170 81 0 = dt 81 0 := (hF172 81 (by decide) 0).trans w27
    have w198 : dt170 81 1 = dt 81 1 := (hF172 81 (by decide) 1).trans w28
    have w199 : dt170 81 2 = dt 81 2 := (hF172 81 (by decide) 2).trans w29
    have w200 : dt170 81 3 = dt 81 3 := (hF172 81 (by decide) 3).trans w30
    have w201 : dt170 81 4 = dt 81 4 := (hF172 81 (by decide) 4).trans w31
    have w202 : dt170 81 5 = dt 81 5 := (hF172 81 (by decide) 5).trans w32
    rcases h169 with ⟨rfl, h169⟩ | ⟨rfl, h169⟩
    · skip
      obtain ⟨h169_0, h169_1, h169_2, h169_3, h169_4⟩ := h169
      have w203 : dt170 79 2 = dt 79 2 := h169_2.trans w33
      have w204 : dt170 79 19 = dt 79 19 := h169_3.trans w35
      have w205 : dt170 79 21 = dt 79 21 := h169_4.trans w36
      have M2206 : MW (dt170 81) := MW_frk M2147 hF172 (by decide)
      have C207 : ∀ j : Nat, dt170 2 j = dt 2 j := fun j => (hF172 2 (by decide) j).trans (C148 j)
      have C208 : ∀ j : Nat, dt170 3 j = dt 3 j := fun j => (hF172 3 (by decide) j).trans (C149 j)
      have C209 : ∀ j : Nat, dt170 4 j = dt 4 j := fun j => (hF172 4 (by decide) j).trans (C150 j)
      have C210 : ∀ j : Nat, dt170 5 j = dt 5 j := fun j => (hF172 5 (by decide) j).trans (C151 j)
      have C211 : ∀ j : Nat, dt170 6 j = dt 6 j := fun j => (hF172 6 (by decide) j).trans (C152 j)
      have C212 : ∀ j : Nat, dt170 8 j = dt 8 j := fun j => (hF172 8 (by decide) j).trans (C153 j)
      have C213 : ∀ j : Nat, dt170 9 j = dt 9 j := fun j => (hF172 9 (by decide) j).trans (C154 j)
      have C214 : ∀ j : Nat, dt170 11 j = dt 11 j := fun j => (hF172 11 (by decide) j).trans (C155 j)
      have C215 : ∀ j : Nat, dt170 19 j = dt 19 j := fun j => (hF172 19 (by decide) j).trans (C156 j)
      have C216 : ∀ j : Nat, dt170 20 j = dt 20 j := fun j => (hF172 20 (by decide) j).trans (C157 j)
      have C217 : ∀ j : Nat, dt170 21 j = dt 21 j := fun j => (hF172 21 (by decide) j).trans (C158 j)
      have C218 : ∀ j : Nat, dt170 22 j = dt 22 j := fun j => (hF172 22 (by decide) j).trans (C159 j)
      have C219 : ∀ j : Nat, dt170 23 j = dt 23 j := fun j => (hF172 23 (by decide) j).trans (C160 j)
      have C220 : ∀ j : Nat, dt170 25 j = dt 25 j := fun j => (hF172 25 (by decide) j).trans (C161 j)
      have C221 : ∀ j : Nat, dt170 26 j = dt 26 j := fun j => (hF172 26 (by decide) j).trans (C162 j)
      have C222 : ∀ j : Nat, dt170 28 j = dt 28 j := fun j => (hF172 28 (by decide) j).trans (C163 j)
      have C223 : ∀ j : Nat, dt170 36 j = dt 36 j := fun j => (hF172 36 (by decide) j).trans (C164 j)
      have C224 : ∀ j : Nat, dt170 80 j = dt 80 j := fun j => (hF172 80 (by decide) j).trans (C165 j)
      have C225 : ∀ j : Nat, dt170 81 j = dt 81 j := fun j => (hF172 81 (by decide) j).trans (C166 j)
      have C226 : ∀ j : Nat, dt170 85 j = dt 85 j := fun j => (hF172 85 (by decide) j).trans (C167 j)
      refine go_toq PM267 (k := 2) (pc' := 1435) (L' := [some (.inr (.inr (some 3000))), some (.inr (.inr (some 0))), some (.inr (.inr (some 79))), some (.inl i)]) (st' := []) (w' := (SH, dt170)) rfl ?_
      exact K dt170 hI171 hM174 M2206 (w175.trans (hk0.trans w191.symm)) (w176.trans (hk1.trans w192.symm)) (w177.trans (hk2.trans w193.symm)) (w178.trans (hk3.trans w194.symm)) (w179.trans (hk4.trans w195.symm)) (w180.trans (hk5.trans w196.symm)) (w181.trans (hk6.trans w197.symm)) (w182.trans (hk7.trans w198.symm)) (w183.trans (hk8.trans w199.symm)) (w184.trans (hk9.trans w200.symm)) (w185.trans (hk10.trans w201.symm)) (w186.trans (hk11.trans w202.symm)) (w187.trans (hk12.trans w203.symm)) (by (first | omega | (have z0_ := unhid h2_0; omega))) (w189.trans (hk14.trans w204.symm)) (w190.trans (hk15.trans w205.symm)) (by first | exact hI | exact TPL_k hd0 C223 C226 (by (first | omega | (have z0_ := unhid h2_0; omega))) | (exfalso; (first | omega | (have z0_ := unhid h2_0; omega)))) (by first | exact hI | exact SCL_k hd1 hM (fun j _ => C207 j) (fun j _ => C208 j) (fun j _ _ => C224 j) | (exfalso; (first | omega | (have z0_ := unhid h2_0; omega)))) (by first | exact hI | exact SCL_k hd2 hM2 (fun j _ => C215 j) (fun j _ => C216 j) (fun j _ _ => C225 j) | (exfalso; (first | omega | (have z0_ := unhid h2_0; omega)))) (by first | exact hI | exact QRL_k hd3 hM (fun j _ => C212 j) (C224 1) (fun j _ _ => C224 j) | (exfalso; (first | omega | (have z0_ := unhid h2_0; omega)))) (by first | exact hI | exact QRL_k hd4 hM2 (fun j _ => C220 j) (C225 1) (fun j _ _ => C225 j) | (exfalso; (first | omega | (have z0_ := unhid h2_0; omega)))) (by first | exact hI | exact SDL_k hd5 hM (fun j _ => C213 j) (C224 1) (fun j _ _ => C224 j) (fun j _ _ => C224 j) | (exfalso; (first | omega | (have z0_ := unhid h2_0; omega)))) (by first | exact hI | exact SDL_k hd6 hM2 (fun j _ => C221 j) (C225 1) (fun j _ _ => C225 j) (fun j _ _ => C225 j) | (exfalso; (first | omega | (have z0_ := unhid h2_0; omega)))) (by first | exact hI | exact LWL_k hd7 hM (fun j _ => C209 j) (fun j _ => C210 j) (fun j _ => C211 j) (fun j _ _ => C224 j) | (exfalso; (first | omega | (have z0_ := unhid h2_0; omega)))) (by first | exact hI | exact LWL_k hd8 hM2 (fun j _ => C217 j) (fun j _ => C218 j) (fun j _ => C219 j) (fun j _ _ => C225 j) | (exfalso; (first | omega | (have z0_ := unhid h2_0; omega)))) (by first | exact hI | exact CHL_k hd9 hM (fun j _ => C214 j) (by (first | omega | (have z0_ := unhid h2_0; omega))) (fun j _ _ => C224 j) | (exfalso; (first | omega | (have z0_ := unhid h2_0; omega)))) (by first | exact hI | exact CHL_k hd10 hM2 (fun j _ => C222 j) (by (first | omega | (have z0_ := unhid h2_0; omega))) (fun j _ _ => C225 j) | (exfalso; (first | omega | (have z0_ := unhid h2_0; omega))))
    · skip
      obtain ⟨h169_0, h169_1, h169_2, h169_3, h169_4⟩ := h169
      replace h169_0 := hid h169_0
      have w227 : dt170 79 12 = dt 79 12 := h169_1.trans w34
      have w228 : dt170 79 2 = dt 79 2 := h169_2.trans w33
      have w229 : dt170 79 19 = dt 79 19 := h169_3.trans w35
      have w230 : dt170 79 21 = dt 79 21 := h169_4.trans w36
      have M2231 : MW (dt170 81) := MW_frk M2147 hF172 (by decide)
      have C232 : ∀ j : Nat, dt170 2 j = dt 2 j := fun j => (hF172 2 (by decide) j).trans (C148 j)
      have C233 : ∀ j : Nat, dt170 3 j = dt 3 j := fun j => (hF172 3 (by decide) j).trans (C149 j)
      have C234 : ∀ j : Nat, dt170 4 j = dt 4 j := fun j => (hF172 4 (by decide) j).trans (C150 j)
      have C235 : ∀ j : Nat, dt170 5 j = dt 5 j := fun j => (hF172 5 (by decide) j).trans (C151 j)
      have C236 : ∀ j : Nat, dt170 6 j = dt 6 j := fun j => (hF172 6 (by decide) j).trans (C152 j)
      have C237 : ∀ j : Nat, dt170 8 j = dt 8 j := fun j => (hF172 8 (by decide) j).trans (C153 j)
      have C238 : ∀ j : Nat, dt170 9 j = dt 9 j := fun j => (hF172 9 (by decide) j).trans (C154 j)
      have C239 : ∀ j : Nat, dt170 11 j = dt 11 j := fun j => (hF172 11 (by decide) j).trans (C155 j)
      have C240 : ∀ j : Nat, dt170 19 j = dt 19 j := fun j => (hF172 19 (by decide) j).trans (C156 j)
      have C241 : ∀ j : Nat, dt170 20 j = dt 20 j := fun j => (hF172 20 (by decide) j).trans (C157 j)
      have C242 : ∀ j : Nat, dt170 21 j = dt 21 j := fun j => (hF172 21 (by decide) j).trans (C158 j)
      have C243 : ∀ j : Nat, dt170 22 j = dt 22 j := fun j => (hF172 22 (by decide) j).trans (C159 j)
      have C244 : ∀ j : Nat, dt170 23 j = dt 23 j := fun j => (hF172 23 (by decide) j).trans (C160 j)
      have C245 : ∀ j : Nat, dt170 25 j = dt 25 j := fun j => (hF172 25 (by decide) j).trans (C161 j)
      have C246 : ∀ j : Nat, dt170 26 j = dt 26 j := fun j => (hF172 26 (by decide) j).trans (C162 j)
      have C247 : ∀ j : Nat, dt170 28 j = dt 28 j := fun j => (hF172 28 (by decide) j).trans (C163 j)
      have C248 : ∀ j : Nat, dt170 36 j = dt 36 j := fun j => (hF172 36 (by decide) j).trans (C164 j)
      have C249 : ∀ j : Nat, dt170 80 j = dt 80 j := fun j => (hF172 80 (by decide) j).trans (C165 j)
      have C250 : ∀ j : Nat, dt170 81 j = dt 81 j := fun j => (hF172 81 (by decide) j).trans (C166 j)
      have C251 : ∀ j : Nat, dt170 85 j = dt 85 j := fun j => (hF172 85 (by decide) j).trans (C167 j)
      refine go_toq PM267 (k := 2) (pc' := 1435) (L' := [some (.inr (.inr (some 3000))), some (.inr (.inr (some 0))), some (.inr (.inr (some 79))), some (.inl i)]) (st' := []) (w' := (SH, dt170)) rfl ?_
      exact K dt170 hI171 hM174 M2231 (w175.trans (hk0.trans w191.symm)) (w176.trans (hk1.trans w192.symm)) (w177.trans (hk2.trans w193.symm)) (w178.trans (hk3.trans w194.symm)) (w179.trans (hk4.trans w195.symm)) (w180.trans (hk5.trans w196.symm)) (w181.trans (hk6.trans w197.symm)) (w182.trans (hk7.trans w198.symm)) (w183.trans (hk8.trans w199.symm)) (w184.trans (hk9.trans w200.symm)) (w185.trans (hk10.trans w201.symm)) (w186.trans (hk11.trans w202.symm)) (w187.trans (hk12.trans w228.symm)) (w188.trans (hk13.trans w227.symm)) (w189.trans (hk14.trans w229.symm)) (w190.trans (hk15.trans w230.symm)) (by first | exact hI | exact TPL_k hd0 C248 C251 (by (first | omega | (have z0_ := unhid h2_0; have z1_ := unhid h169_0; omega))) | (exfalso; (first | omega | (have z0_ := unhid h2_0; have z1_ := unhid h169_0; omega)))) (by first | exact hI | exact SCL_k hd1 hM (fun j _ => C232 j) (fun j _ => C233 j) (fun j _ _ => C249 j) | (exfalso; (first | omega | (have z0_ := unhid h2_0; have z1_ := unhid h169_0; omega)))) (by first | exact hI | exact SCL_k hd2 hM2 (fun j _ => C240 j) (fun j _ => C241 j) (fun j _ _ => C250 j) | (exfalso; (first | omega | (have z0_ := unhid h2_0; have z1_ := unhid h169_0; omega)))) (by first | exact hI | exact QRL_k hd3 hM (fun j _ => C237 j) (C249 1) (fun j _ _ => C249 j) | (exfalso; (first | omega | (have z0_ := unhid h2_0; have z1_ := unhid h169_0; omega)))) (by first | exact hI | exact QRL_k hd4 hM2 (fun j _ => C245 j) (C250 1) (fun j _ _ => C250 j) | (exfalso; (first | omega | (have z0_ := unhid h2_0; have z1_ := unhid h169_0; omega)))) (by first | exact hI | exact SDL_k hd5 hM (fun j _ => C238 j) (C249 1) (fun j _ _ => C249 j) (fun j _ _ => C249 j) | (exfalso; (first | omega | (have z0_ := unhid h2_0; have z1_ := unhid h169_0; omega)))) (by first | exact hI | exact SDL_k hd6 hM2 (fun j _ => C246 j) (C250 1) (fun j _ _ => C250 j) (fun j _ _ => C250 j) | (exfalso; (first | omega | (have z0_ := unhid h2_0; have z1_ := unhid h169_0; omega)))) (by first | exact hI | exact LWL_k hd7 hM (fun j _ => C234 j) (fun j _ => C235 j) (fun j _ => C236 j) (fun j _ _ => C249 j) | (exfalso; (first | omega | (have z0_ := unhid h2_0; have z1_ := unhid h169_0; omega)))) (by first | exact hI | exact LWL_k hd8 hM2 (fun j _ => C242 j) (fun j _ => C243 j) (fun j _ => C244 j) (fun j _ _ => C250 j) | (exfalso; (first | omega | (have z0_ := unhid h2_0; have z1_ := unhid h169_0; omega)))) (by first | exact hI | exact CHL_k hd9 hM (fun j _ => C239 j) (by (first | omega | (have z0_ := unhid h2_0; have z1_ := unhid h169_0; omega))) (fun j _ _ => C249 j) | (exfalso; (first | omega | (have z0_ := unhid h2_0; have z1_ := unhid h169_0; omega)))) (by first | exact hI | exact CHL_k hd10 hM2 (fun j _ => C247 j) (by (first | omega | (have z0_ := unhid h2_0; have z1_ := unhid h169_0; omega))) (fun j _ _ => C250 j) | (exfalso; (first | omega | (have z0_ := unhid h2_0; have z1_ := unhid h169_0; omega))))
set_option maxRecDepth 20000 in
set_option maxHeartbeats 8000000 in
theorem sp_case3 (L : Nat) (xs : Nat → Int32) (sio : Option Nat) (d : Nat) (Q : Option AV → am_W → Prop) (hLL : L ≤ 3072) (i : Int) (hi : 0 ≤ i ∧ i ≤ 3066) (hil : i ≤ (L : Int) - 6) (dt : Nat → Nat → Int) (hI : InvC dt) (hM : MW (dt 80)) (hM2 : MW (dt 81)) (hk0 : dt 1 0 = dt 80 0) (hk1 : dt 7 3 = dt 80 1) (hk2 : dt 10 3 = dt 80 2) (hk3 : dt 12 3 = dt 80 3) (hk4 : dt 14 3 = dt 80 4) (hk5 : dt 16 3 = dt 80 5) (hk6 : dt 18 0 = dt 81 0) (hk7 : dt 24 3 = dt 81 1) (hk8 : dt 27 3 = dt 81 2) (hk9 : dt 29 3 = dt 81 3) (hk10 : dt 31 3 = dt 81 4) (hk11 : dt 33 3 = dt 81 5) (hk12 : dt 0 2 = dt 79 2) (hk13 : dt 35 1 = dt 79 12) (hk14 : dt 35 2 = dt 79 19) (hk15 : dt 35 3 = dt 79 21) (hd0 : TPL (dt 36) (dt 85) (dt 35 1)) (hd1 : SCL (dt 2) (dt 3) (dt 80)) (hd2 : SCL (dt 19) (dt 20) (dt 81)) (hd3 : QRL (dt 8) (dt 80)) (hd4 : QRL (dt 25) (dt 81)) (hd5 : SDL (dt 9) (dt 80)) (hd6 : SDL (dt 26) (dt 81)) (hd7 : LWL (dt 4) (dt 5) (dt 6) (dt 80)) (hd8 : LWL (dt 21) (dt 22) (dt 23) (dt 81)) (hd9 : CHL (dt 11) (dt 80)) (hd10 : CHL (dt 28) (dt 81)) (K : ∀ (dt : Nat → Nat → Int) (hI : InvC dt) (hM : MW (dt 80)) (hM2 : MW (dt 81)) (hk0 : dt 1 0 = dt 80 0) (hk1 : dt 7 3 = dt 80 1) (hk2 : dt 10 3 = dt 80 2) (hk3 : dt 12 3 = dt 80 3) (hk4 : dt 14 3 = dt 80 4) (hk5 : dt 16 3 = dt 80 5) (hk6 : dt 18 0 = dt 81 0) (hk7 : dt 24 3 = dt 81 1) (hk8 : dt 27 3 = dt 81 2) (hk9 : dt 29 3 = dt 81 3) (hk10 : dt 31 3 = dt 81 4) (hk11 : dt 33 3 = dt 81 5) (hk12 : dt 0 2 = dt 79 2) (hk13 : dt 35 1 = dt 79 12) (hk14 : dt 35 2 = dt 79 19) (hk15 : dt 35 3 = dt 79 21) (hd0 : TPL (dt 36) (dt 85) (dt 35 1)) (hd1 : SCL (dt 2) (dt 3) (dt 80)) (hd2 : SCL (dt 19) (dt 20) (dt 81)) (hd3 : QRL (dt 8) (dt 80)) (hd4 : QRL (dt 25) (dt 81)) (hd5 : SDL (dt 9) (dt 80)) (hd6 : SDL (dt 26) (dt 81)) (hd7 : LWL (dt 4) (dt 5) (dt 6) (dt 80)) (hd8 : LWL (dt 21) (dt 22) (dt 23) (dt 81)) (hd9 : CHL (dt 11) (dt 80)) (hd10 : CHL (dt 28) (dt 81)), GO (am_XX L xs sio) (d + 39) 267 1435 [some (.inr (.inr (some 3000))), some (.inr (.inr (some 0))), some (.inr (.inr (some 79))), some (.inl i)] [] (SH, dt) Q) : GO (am_XX L xs sio) (d + 39) 267 289 [some (.inr (.inr (some 3000))), some (.inr (.inr (some 0))), some (.inr (.inr (some 79))), some (.inl i)] [] (SH, dt) Q := by
  have hF : Fr [0, 1, 2, 3, 4, 5, 6, 7, 8, 9, 10, 11, 12, 13, 14, 15, 16, 17, 18, 19, 20, 21, 22, 23, 24, 25, 26, 27, 28, 29, 30, 31, 32, 33, 34, 35, 36, 37, 38, 39, 40, 41, 42, 43, 44, 45, 46, 47, 48, 49, 50, 51, 52, 53, 54, 55, 56, 57, 58, 59, 60, 61, 62, 63, 64, 65, 66, 67, 68, 69, 70, 71, 72, 73, 74, 75, 76, 77, 78, 79, 80, 81, 82, 83, 84, 85, 86, 87, 88, 89, 90, 91, 92, 93, 94, 95, 96, 97, 98, 99, 100, 101, 102, 103, 104] dt dt := Fr_refl
  have hqo := QOC_R hd3 hM hk1
  have hb1_ := hM.1.1
  have hb2_ := hM.1.2.1
  have hb3_ := hM.1.2.2.1
  have halk : ALK dt (dt 80) := ⟨hd7, hd3, hd5, hd9, hk1, hk2⟩
  have r1 : (-2147483648) ≤ dt 1 0 ∧ dt 1 0 ≤ 2147483647 := InvC_get hI 1 0 rfl rfl
  have r2 : 0 ≤ dt 7 3 ∧ dt 7 3 ≤ 12 := InvC_get hI 7 3 rfl rfl
  have r3 : 0 ≤ dt 10 3 ∧ dt 10 3 ≤ 40 := InvC_get hI 10 3 rfl rfl
  have r4 : 0 ≤ dt 12 3 ∧ dt 12 3 ≤ 300 := InvC_get hI 12 3 rfl rfl
  have r5 : 0 ≤ dt 14 3 ∧ dt 14 3 ≤ 40 := InvC_get hI 14 3 rfl rfl
  have r6 : 0 ≤ dt 16 3 ∧ dt 16 3 ≤ 20 := InvC_get hI 16 3 rfl rfl
  have r7 : (-2147483648) ≤ dt 18 0 ∧ dt 18 0 ≤ 2147483647 := InvC_get hI 18 0 rfl rfl
  have r8 : 0 ≤ dt 24 3 ∧ dt 24 3 ≤ 12 := InvC_get hI 24 3 rfl rfl
  have r9 : 0 ≤ dt 27 3 ∧ dt 27 3 ≤ 40 := InvC_get hI 27 3 rfl rfl
  have r10 : 0 ≤ dt 29 3 ∧ dt 29 3 ≤ 300 := InvC_get hI 29 3 rfl rfl
  have r11 : 0 ≤ dt 31 3 ∧ dt 31 3 ≤ 40 := InvC_get hI 31 3 rfl rfl
  have r12 : 0 ≤ dt 33 3 ∧ dt 33 3 ≤ 20 := InvC_get hI 33 3 rfl rfl
  have r13 : 0 ≤ dt 0 2 ∧ dt 0 2 ≤ 1 := InvC_get hI 0 2 rfl rfl
  have r14 : 0 ≤ dt 35 1 ∧ dt 35 1 ≤ 500 := InvC_get hI 35 1 rfl rfl
  have r15 : (-2147483648) ≤ dt 35 2 ∧ dt 35 2 ≤ 2147483647 := InvC_get hI 35 2 rfl rfl
  have r16 : (-2147483648) ≤ dt 35 3 ∧ dt 35 3 ≤ 2147483647 := InvC_get hI 35 3 rfl rfl
  have r17 : (-2147483648) ≤ dt 80 0 ∧ dt 80 0 ≤ 2147483647 := InvC_get hI 80 0 rfl rfl
  have r18 : (-2147483648) ≤ dt 80 1 ∧ dt 80 1 ≤ 2147483647 := InvC_get hI 80 1 rfl rfl
  have r19 := MW_n hM
  have r20 : (-2147483648) ≤ dt 80 2 ∧ dt 80 2 ≤ 2147483647 := InvC_get hI 80 2 rfl rfl
  have r21 : (-2147483648) ≤ dt 80 3 ∧ dt 80 3 ≤ 2147483647 := InvC_get hI 80 3 rfl rfl
  have r22 : (-2147483648) ≤ dt 80 4 ∧ dt 80 4 ≤ 2147483647 := InvC_get hI 80 4 rfl rfl
  have r23 : (-2147483648) ≤ dt 80 5 ∧ dt 80 5 ≤ 2147483647 := InvC_get hI 80 5 rfl rfl
  have r24 : (-2147483648) ≤ dt 81 0 ∧ dt 81 0 ≤ 2147483647 := InvC_get hI 81 0 rfl rfl
  have r25 : (-2147483648) ≤ dt 81 1 ∧ dt 81 1 ≤ 2147483647 := InvC_get hI 81 1 rfl rfl
  have r26 : (-2147483648) ≤ dt 81 2 ∧ dt 81 2 ≤ 2147483647 := InvC_get hI 81 2 rfl rfl
  have r27 : (-2147483648) ≤ dt 81 3 ∧ dt 81 3 ≤ 2147483647 := InvC_get hI 81 3 rfl rfl
  have r28 : (-2147483648) ≤ dt 81 4 ∧ dt 81 4 ≤ 2147483647 := InvC_get hI 81 4 rfl rfl
  have r29 : (-2147483648) ≤ dt 81 5 ∧ dt 81 5 ≤ 2147483647 := InvC_get hI 81 5 rfl rfl
  have r30 : 0 ≤ dt 79 2 ∧ dt 79 2 ≤ 1 := InvC_get hI 79 2 rfl rfl
  have r31 : 0 ≤ dt 79 12 ∧ dt 79 12 ≤ 500 := InvC_get hI 79 12 rfl rfl
  have r32 : (-2147483648) ≤ dt 79 19 ∧ dt 79 19 ≤ 2147483647 := InvC_get hI 79 19 rfl rfl
  have r33 : (-2147483648) ≤ dt 79 21 ∧ dt 79 21 ≤ 2147483647 := InvC_get hI 79 21 rfl rfl
  refine go_toq PM267 (k := 5) (pc' := 294) (L' := [some (.inr (.inr (some 3000))), some (.inr (.inr (some 0))), some (.inr (.inr (some 79))), some (.inl i)]) (st' := [.inl (i + 1), .inr (.inr (some 3000)), .inr (.inr (some 0))]) (w' := (SH, dt)) rfl ?_
  have r34 := i32_R (xs ((i + 1).toNat))
  refine go_smpq PM267 (L' := [some (.inr (.inr (some 3000))), some (.inr (.inr (some 0))), some (.inr (.inr (some 79))), some (.inl i)]) (st' := [.inl ((xs ((i + 1).toNat)).toInt), .inr (.inr (some 0))]) (w' := (SH, dt)) rfl rfl (s_iald (n := L) (f := fun j => (xs j).toInt) (am_scr hLL) ⟨by omega, by omega⟩) ?_
  refine go_toq PM267 (k := 4) (pc' := 299) (L' := [some (.inr (.inr (some 3000))), some (.inr (.inr (some 0))), some (.inr (.inr (some 79))), some (.inl i)]) (st' := [.inl (i + 2), .inr (.inr (some 3000)), .inl ((xs ((i + 1).toNat)).toInt), .inr (.inr (some 0))]) (w' := (SH, dt)) rfl ?_
  have r35 := i32_R (xs ((i + 2).toNat))
  refine go_smpq PM267 (L' := [some (.inr (.inr (some 3000))), some (.inr (.inr (some 0))), some (.inr (.inr (some 79))), some (.inl i)]) (st' := [.inl ((xs ((i + 2).toNat)).toInt), .inl ((xs ((i + 1).toNat)).toInt), .inr (.inr (some 0))]) (w' := (SH, dt)) rfl rfl (s_iald (n := L) (f := fun j => (xs j).toInt) (am_scr hLL) ⟨by omega, by omega⟩) ?_
  refine go_callq PM267 PM70 (Q' := _) rfl rfl rfl rfl (sp_X5_text_h L xs sio (d + 15) dt hI hM  ((xs ((i + 1).toNat)).toInt) ⟨by omega, by omega⟩ ((xs ((i + 2).toNat)).toInt) ⟨by omega, by omega⟩ (by first | exact True.intro | with_reducible assumption | rfl | omega | trivial | exact hM2 | exact hd1 | exact hqo | exact halk) (by first | exact True.intro | with_reducible assumption | rfl | omega | trivial | exact hM2 | exact hd1 | exact hqo | exact halk)) ?_
  rintro _ _ ⟨dt37, rfl, hI38, hF39, h36⟩
  refine ⟨rfl, ?_⟩
  have hF40 : Fr [0, 1, 2, 3, 4, 5, 6, 7, 8, 9, 10, 11, 12, 13, 14, 15, 16, 17, 18, 19, 20, 21, 22, 23, 24, 25, 26, 27, 28, 29, 30, 31, 32, 33, 34, 35, 36, 37, 38, 39, 40, 41, 42, 43, 44, 45, 46, 47, 48, 49, 50, 51, 52, 53, 54, 55, 56, 57, 58, 59, 60, 61, 62, 63, 64, 65, 66, 67, 68, 69, 70, 71, 72, 73, 74, 75, 76, 77, 78, 79, 80, 81, 82, 83, 84, 85, 86, 87, 88, 89, 90, 91, 92, 93, 94, 95, 96, 97, 98, 99, 100, 101, 102, 103, 104] dt dt37 := Fr_tr hF hF39 (by decide)
  have hM41 : MW (dt37 80) := MW_fr hM hF39 (by decide)
  have w42 : dt37 1 0 = dt 1 0 := hF39 1 (by decide) 0
  have w43 : dt37 7 3 = dt 7 3 := hF39 7 (by decide) 3
  have w44 : dt37 10 3 = dt 10 3 := hF39 10 (by decide) 3
  have w45 : dt37 12 3 = dt 12 3 := hF39 12 (by decide) 3
  have w46 : dt37 14 3 = dt 14 3 := hF39 14 (by decide) 3
  have w47 : dt37 16 3 = dt 16 3 := hF39 16 (by decide) 3
  have w48 : dt37 18 0 = dt 18 0 := hF39 18 (by decide) 0
  have w49 : dt37 24 3 = dt 24 3 := hF39 24 (by decide) 3
  have w50 : dt37 27 3 = dt 27 3 := hF39 27 (by decide) 3
  have w51 : dt37 29 3 = dt 29 3 := hF39 29 (by decide) 3
  have w52 : dt37 31 3 = dt 31 3 := hF39 31 (by decide) 3
  have w53 : dt37 33 3 = dt 33 3 := hF39 33 (by decide) 3
  have w54 : dt37 0 2 = dt 0 2 := hF39 0 (by decide) 2
  have w55 : dt37 80 0 = dt 80 0 := hF39 80 (by decide) 0
  have w56 : dt37 80 1 = dt 80 1 := hF39 80 (by decide) 1
  have w57 : dt37 80 2 = dt 80 2 := hF39 80 (by decide) 2
  have w58 : dt37 80 3 = dt 80 3 := hF39 80 (by decide) 3
  have w59 : dt37 80 4 = dt 80 4 := hF39 80 (by decide) 4
  have w60 : dt37 80 5 = dt 80 5 := hF39 80 (by decide) 5
  have w61 : dt37 81 0 = dt 81 0 := hF39 81 (by decide) 0
  have w62 : dt37 81 1 = dt 81 1 := hF39 81 (by decide) 1
  have w63 : dt37 81 2 = dt 81 2 := hF39 81 (by decide) 2
  have w64 : dt37 81 3 = dt 81 3 := hF39 81 (by decide) 3
  have w65 : dt37 81 4 = dt 81 4 := hF39 81 (by decide) 4
  have w66 : dt37 81 5 = dt 81 5 := hF39 81 (by decide) 5
  have w67 : dt37 79 2 = dt 79 2 := hF39 79 (by decide) 2
  have w68 : dt37 79 12 = dt 79 12 := hF39 79 (by decide) 12
  have w69 : dt37 79 19 = dt 79 19 := hF39 79 (by decide) 19
  have w70 : dt37 79 21 = dt 79 21 := hF39 79 (by decide) 21
  rcases h36 with ⟨v_h36, rfl, h36r, h36⟩
  obtain ⟨h36_0, h36_1, h36_2, h36_3, h36_4, h36_5, h36_6⟩ := h36
  have w71 : dt37 7 3 = dt 7 3 := h36_4
  have M272 : MW (dt37 81) := MW_frk hM2 hF39 (by decide)
  have C73 : ∀ j : Nat, dt37 8 j = dt 8 j := fun j => (hF39 8 (by decide) j).trans ((fun _ => rfl) j)
  have C74 : ∀ j : Nat, dt37 11 j = dt 11 j := fun j => (hF39 11 (by decide) j).trans ((fun _ => rfl) j)
  have C75 : ∀ j : Nat, dt37 19 j = dt 19 j := fun j => (hF39 19 (by decide) j).trans ((fun _ => rfl) j)
  have C76 : ∀ j : Nat, dt37 20 j = dt 20 j := fun j => (hF39 20 (by decide) j).trans ((fun _ => rfl) j)
  have C77 : ∀ j : Nat, dt37 21 j = dt 21 j := fun j => (hF39 21 (by decide) j).trans ((fun _ => rfl) j)
  have C78 : ∀ j : Nat, dt37 22 j = dt 22 j := fun j => (hF39 22 (by decide) j).trans ((fun _ => rfl) j)
  have C79 : ∀ j : Nat, dt37 23 j = dt 23 j := fun j => (hF39 23 (by decide) j).trans ((fun _ => rfl) j)
  have C80 : ∀ j : Nat, dt37 25 j = dt 25 j := fun j => (hF39 25 (by decide) j).trans ((fun _ => rfl) j)
  have C81 : ∀ j : Nat, dt37 26 j = dt 26 j := fun j => (hF39 26 (by decide) j).trans ((fun _ => rfl) j)
  have C82 : ∀ j : Nat, dt37 28 j = dt 28 j := fun j => (hF39 28 (by decide) j).trans ((fun _ => rfl) j)
  have C83 : ∀ j : Nat, dt37 36 j = dt 36 j := fun j => (hF39 36 (by decide) j).trans ((fun _ => rfl) j)
  have C84 : ∀ j : Nat, dt37 80 j = dt 80 j := fun j => (hF39 80 (by decide) j).trans ((fun _ => rfl) j)
  have C85 : ∀ j : Nat, dt37 81 j = dt 81 j := fun j => (hF39 81 (by decide) j).trans ((fun _ => rfl) j)
  have C86 : ∀ j : Nat, dt37 85 j = dt 85 j := fun j => (hF39 85 (by decide) j).trans ((fun _ => rfl) j)
  refine go_toq PM267 (k := 6) (pc' := 309) (L' := [some (.inr (.inr (some 3000))), some (.inr (.inr (some 0))), some (.inr (.inr (some 79))), some (.inl i)]) (st' := [.inl (i + 1), .inr (.inr (some 3000)), .inr (.inr (some 79))]) (w' := (SH, dt37)) rfl ?_
  have r87 := i32_R (xs ((i + 1).toNat))
  refine go_smpq PM267 (L' := [some (.inr (.inr (some 3000))), some (.inr (.inr (some 0))), some (.inr (.inr (some 79))), some (.inl i)]) (st' := [.inl ((xs ((i + 1).toNat)).toInt), .inr (.inr (some 79))]) (w' := (SH, dt37)) rfl rfl (s_iald (n := L) (f := fun j => (xs j).toInt) (am_scr hLL) ⟨by omega, by omega⟩) ?_
  refine go_toq PM267 (k := 4) (pc' := 314) (L' := [some (.inr (.inr (some 3000))), some (.inr (.inr (some 0))), some (.inr (.inr (some 79))), some (.inl i)]) (st' := [.inl (i + 2), .inr (.inr (some 3000)), .inl ((xs ((i + 1).toNat)).toInt), .inr (.inr (some 79))]) (w' := (SH, dt37)) rfl ?_
  have r88 := i32_R (xs ((i + 2).toNat))
  refine go_smpq PM267 (L' := [some (.inr (.inr (some 3000))), some (.inr (.inr (some 0))), some (.inr (.inr (some 79))), some (.inl i)]) (st' := [.inl ((xs ((i + 2).toNat)).toInt), .inl ((xs ((i + 1).toNat)).toInt), .inr (.inr (some 79))]) (w' := (SH, dt37)) rfl rfl (s_iald (n := L) (f := fun j => (xs j).toInt) (am_scr hLL) ⟨by omega, by omega⟩) ?_
  refine go_callq PM267 PM174 (Q' := _) rfl rfl rfl rfl (sp_X6_text_qg L xs sio (d + 0) dt37 hI38 hM41  ((xs ((i + 1).toNat)).toInt) ⟨by omega, by omega⟩ ((xs ((i + 2).toNat)).toInt) ⟨by omega, by omega⟩ ) ?_
  rintro _ _ ⟨dt90, rfl, hI91, hF92, h89⟩
  refine ⟨rfl, ?_⟩
  have hF93 : Fr [0, 1, 2, 3, 4, 5, 6, 7, 8, 9, 10, 11, 12, 13, 14, 15, 16, 17, 18, 19, 20, 21, 22, 23, 24, 25, 26, 27, 28, 29, 30, 31, 32, 33, 34, 35, 36, 37, 38, 39, 40, 41, 42, 43, 44, 45, 46, 47, 48, 49, 50, 51, 52, 53, 54, 55, 56, 57, 58, 59, 60, 61, 62, 63, 64, 65, 66, 67, 68, 69, 70, 71, 72, 73, 74, 75, 76, 77, 78, 79, 80, 81, 82, 83, 84, 85, 86, 87, 88, 89, 90, 91, 92, 93, 94, 95, 96, 97, 98, 99, 100, 101, 102, 103, 104] dt dt90 := Fr_tr hF40 hF92 (by decide)
  have w94 : dt90 1 0 = dt 1 0 := (hF92 1 (by decide) 0).trans w42
  have w95 : dt90 7 3 = dt 7 3 := (hF92 7 (by decide) 3).trans w71
  have w96 : dt90 10 3 = dt 10 3 := (hF92 10 (by decide) 3).trans w44
  have w97 : dt90 12 3 = dt 12 3 := (hF92 12 (by decide) 3).trans w45
  have w98 : dt90 14 3 = dt 14 3 := (hF92 14 (by decide) 3).trans w46
  have w99 : dt90 16 3 = dt 16 3 := (hF92 16 (by decide) 3).trans w47
  have w100 : dt90 18 0 = dt 18 0 := (hF92 18 (by decide) 0).trans w48
  have w101 : dt90 24 3 = dt 24 3 := (hF92 24 (by decide) 3).trans w49
  have w102 : dt90 27 3 = dt 27 3 := (hF92 27 (by decide) 3).trans w50
  have w103 : dt90 29 3 = dt 29 3 := (hF92 29 (by decide) 3).trans w51
  have w104 : dt90 31 3 = dt 31 3 := (hF92 31 (by decide) 3).trans w52
  have w105 : dt90 33 3 = dt 33 3 := (hF92 33 (by decide) 3).trans w53
  have w106 : dt90 0 2 = dt 0 2 := (hF92 0 (by decide) 2).trans w54
  have w107 : dt90 35 1 = dt37 35 1 := hF92 35 (by decide) 1
  have w108 : dt90 35 2 = dt37 35 2 := hF92 35 (by decide) 2
  have w109 : dt90 35 3 = dt37 35 3 := hF92 35 (by decide) 3
  have w110 : dt90 81 0 = dt 81 0 := (hF92 81 (by decide) 0).trans w61
  have w111 : dt90 81 1 = dt 81 1 := (hF92 81 (by decide) 1).trans w62
  have w112 : dt90 81 2 = dt 81 2 := (hF92 81 (by decide) 2).trans w63
  have w113 : dt90 81 3 = dt 81 3 := (hF92 81 (by decide) 3).trans w64
  have w114 : dt90 81 4 = dt 81 4 := (hF92 81 (by decide) 4).trans w65
  have w115 : dt90 81 5 = dt 81 5 := (hF92 81 (by decide) 5).trans w66
  rcases h89 with ⟨v_h89, rfl, h89r, h89⟩
  have hM116 : MW (dt90 80) := h89.2.2.1
  obtain ⟨h89_0, h89_1, h89_2, h89_3, h89_4, h89_5, h89_6, h89_7, h89_8, h89_9, h89_10, h89_11, h89_12, h89_13, h89_14⟩ := h89
  have w117 : dt90 79 2 = dt 79 2 := h89_1.trans w67
  have w118 : dt90 80 0 = dt 80 0 := h89_3.trans w55
  have w119 : dt90 80 1 = dt 80 1 := h89_4.trans w56
  have w120 : dt90 80 2 = dt 80 2 := h89_5.trans w57
  have w121 : dt90 80 3 = dt 80 3 := h89_6.trans w58
  have w122 : dt90 80 4 = dt 80 4 := h89_7.trans w59
  have w123 : dt90 80 5 = dt 80 5 := h89_8.trans w60
  have w124 : dt90 79 2 = dt 79 2 := h89_11.trans w67
  have M2125 : MW (dt90 81) := MW_frk M272 hF92 (by decide)
  have C126 : ∀ j : Nat, dt90 8 j = dt 8 j := fun j => (hF92 8 (by decide) j).trans (C73 j)
  have C127 : ∀ j : Nat, dt90 11 j = dt 11 j := fun j => (hF92 11 (by decide) j).trans (C74 j)
  have C128 : ∀ j : Nat, dt90 19 j = dt 19 j := fun j => (hF92 19 (by decide) j).trans (C75 j)
  have C129 : ∀ j : Nat, dt90 20 j = dt 20 j := fun j => (hF92 20 (by decide) j).trans (C76 j)
  have C130 : ∀ j : Nat, dt90 21 j = dt 21 j := fun j => (hF92 21 (by decide) j).trans (C77 j)
  have C131 : ∀ j : Nat, dt90 22 j = dt 22 j := fun j => (hF92 22 (by decide) j).trans (C78 j)
  have C132 : ∀ j : Nat, dt90 23 j = dt 23 j := fun j => (hF92 23 (by decide) j).trans (C79 j)
  have C133 : ∀ j : Nat, dt90 25 j = dt 25 j := fun j => (hF92 25 (by decide) j).trans (C80 j)
  have C134 : ∀ j : Nat, dt90 26 j = dt 26 j := fun j => (hF92 26 (by decide) j).trans (C81 j)
  have C135 : ∀ j : Nat, dt90 28 j = dt 28 j := fun j => (hF92 28 (by decide) j).trans (C82 j)
  have C136 : ∀ j : Nat, dt90 36 j = dt 36 j := fun j => (hF92 36 (by decide) j).trans (C83 j)
  have C137 : ∀ j : Nat, dt90 81 j = dt 81 j := fun j => (hF92 81 (by decide) j).trans (C85 j)
  have C138 : ∀ j : Nat, dt90 85 j = dt 85 j := fun j => (hF92 85 (by decide) j).trans (C86 j)
  have ts139 : _ := TSA_k h36_2 (hF92 2 (by decide)) (hF92 3 (by decide))
  have tl140 : _ := TLC_k h36_3 (hF92 4 (by decide)) (hF92 5 (by decide)) (hF92 6 (by decide))
  have z141 := h89_12
  rw [show dt37 85 = dt 85 from funext C86, show dt37 79 12 = dt 79 12 by first | with_reducible assumption | omega, ← mB_con (g := fun j => am_and (dt 36 j) 255) (g' := dt 85) hd0 (show dt 79 12 = dt 35 1 by omega), show dt 79 12 = dt 35 1 by first | with_reducible assumption | omega] at z141
  have y142 := TRS_u h36_1 z141
  have z143 := h89_13
  rw [show dt37 85 = dt 85 from funext C86, show dt37 79 12 = dt 79 12 by first | with_reducible assumption | omega, ← mB_con (g := fun j => am_and (dt 36 j) 255) (g' := dt 85) hd0 (show dt 79 12 = dt 35 1 by omega), show dt 79 12 = dt 35 1 by first | with_reducible assumption | omega, show dt37 80 = dt 80 from funext C84] at z143
  have z144 := h89_14
  rw [show dt37 85 = dt 85 from funext C86, show dt37 79 12 = dt 79 12 by first | with_reducible assumption | omega, ← mB_con (g := fun j => am_and (dt 36 j) 255) (g' := dt 85) hd0 (show dt 79 12 = dt 35 1 by omega), show dt 79 12 = dt 35 1 by first | with_reducible assumption | omega, show dt37 80 = dt 80 from funext C84] at z144
  have S145 : SCL (dt90 2) (dt90 3) (dt90 80) := SCL_t hd1 hM ts139 z143 (by omega) (by omega)
  have S146 : LWL (dt90 4) (dt90 5) (dt90 6) (dt90 80) := LWL_t hd7 hM tl140 z144 (by omega) (by omega) (KF_z TP_n) (by omega) (fun i_ hi_ => (VL_R hi_).1) (TRS_1 h36_1)
  have F147 : dt90 80 1 = dt 80 1 := (h89_9 1 (.inl rfl)).trans (C84 1)
  have F148 : ∀ j : Nat, 5320 ≤ j → j < 5380 → dt90 80 j = dt 80 j := fun j h1_ _ => (h89_9 j (.inr h1_)).trans (C84 j)
  have F149 : ∀ j : Nat, 5380 ≤ j → j < 5540 → dt90 80 j = dt 80 j := fun j h1_ _ => (h89_9 j (.inr (by omega))).trans (C84 j)
  have S150 : SDL (dt90 9) (dt90 80) := by by_cases z_ : (((xs ((i + 1).toNat)).toInt) = 0 ∧ (0 ≤ ((xs ((i + 2).toNat)).toInt) ∧ ((xs ((i + 2).toNat)).toInt) ≤ 7) ∧ dt37 35 2 = 0); (obtain ⟨F_, _, hSF_, hSA_⟩ := h36_6.1 z_; obtain ⟨_, y2_, _⟩ := z143.1 ⟨z_.1, z_.2.1, by omega⟩; rw [show dt37 2 = dt90 2 from (funext (hF92 2 (by decide))).symm, show dt37 3 = dt90 3 from (funext (hF92 3 (by decide))).symm] at hSF_; rw [show dt90 9 = dt37 9 from funext (hF92 9 (by decide))]; exact SDL_t (A2' := dt 0) (A3' := dt 0) hd5 hd3 hM hSA_ hSF_ S145 z_.2.1 hk1 F147 (fun j _ b_ c_ d_ => y2_ j b_ c_ d_) F148); exact SDL_k hd5 hM (fun j _ => (hF92 9 (by decide) j).trans (h36_6.2 z_ j)) F147 (fun j _ b_ => z143.2 (fun w_ => z_ ⟨w_.1, w_.2.1, by omega⟩) j b_) F148
  refine go_toq PM267 (k := 2) (pc' := 1435) (L' := [some (.inr (.inr (some 3000))), some (.inr (.inr (some 0))), some (.inr (.inr (some 79))), some (.inl i)]) (st' := []) (w' := (SH, dt90)) rfl ?_
  exact K dt90 hI91 hM116 M2125 (w94.trans (hk0.trans w118.symm)) (w95.trans (hk1.trans w119.symm)) (w96.trans (hk2.trans w120.symm)) (w97.trans (hk3.trans w121.symm)) (w98.trans (hk4.trans w122.symm)) (w99.trans (hk5.trans w123.symm)) (w100.trans (hk6.trans w110.symm)) (w101.trans (hk7.trans w111.symm)) (w102.trans (hk8.trans w112.symm)) (w103.trans (hk9.trans w113.symm)) (w104.trans (hk10.trans w114.symm)) (w105.trans (hk11.trans w115.symm)) (w106.trans (hk12.trans w124.symm)) (by omega) (by omega) (by omega) (by first | exact hI | exact TPL_k hd0 C136 C138 (by omega) | (exfalso; omega)) (by first | exact S145 | exact SCL_k hd1 hM hI hI hI | (exfalso; omega)) (by first | exact hI | exact SCL_k hd2 hM2 (fun j _ => C128 j) (fun j _ => C129 j) (fun j _ _ => C137 j) | (exfalso; omega)) (by first | exact hI | exact QRL_k hd3 hM (fun j _ => C126 j) F147 F148 | (exfalso; omega)) (by first | exact hI | exact QRL_k hd4 hM2 (fun j _ => C133 j) (C137 1) (fun j _ _ => C137 j) | (exfalso; omega)) (by first | exact S150 | exact SDL_k hd5 hM hI F147 hI F148 | (exfalso; omega)) (by first | exact hI | exact SDL_k hd6 hM2 (fun j _ => C134 j) (C137 1) (fun j _ _ => C137 j) (fun j _ _ => C137 j) | (exfalso; omega)) (by first | exact S146 | exact LWL_k hd7 hM hI hI hI hI | (exfalso; omega)) (by first | exact hI | exact LWL_k hd8 hM2 (fun j _ => C130 j) (fun j _ => C131 j) (fun j _ => C132 j) (fun j _ _ => C137 j) | (exfalso; omega)) (by first | exact hI | exact CHL_k hd9 hM (fun j _ => C127 j) (by omega) F149 | (exfalso; omega)) (by first | exact hI | exact CHL_k hd10 hM2 (fun j _ => C135 j) (by omega) (fun j _ _ => C137 j) | (exfalso; omega))
set_option maxRecDepth 20000 in
set_option maxHeartbeats 8000000 in
theorem sp_case4 (L : Nat) (xs : Nat → Int32) (sio : Option Nat) (d : Nat) (Q : Option AV → am_W → Prop) (hLL : L ≤ 3072) (i : Int) (hi : 0 ≤ i ∧ i ≤ 3066) (hil : i ≤ (L : Int) - 6) (dt : Nat → Nat → Int) (hI : InvC dt) (hM : MW (dt 80)) (hM2 : MW (dt 81)) (hk0 : dt 1 0 = dt 80 0) (hk1 : dt 7 3 = dt 80 1) (hk2 : dt 10 3 = dt 80 2) (hk3 : dt 12 3 = dt 80 3) (hk4 : dt 14 3 = dt 80 4) (hk5 : dt 16 3 = dt 80 5) (hk6 : dt 18 0 = dt 81 0) (hk7 : dt 24 3 = dt 81 1) (hk8 : dt 27 3 = dt 81 2) (hk9 : dt 29 3 = dt 81 3) (hk10 : dt 31 3 = dt 81 4) (hk11 : dt 33 3 = dt 81 5) (hk12 : dt 0 2 = dt 79 2) (hk13 : dt 35 1 = dt 79 12) (hk14 : dt 35 2 = dt 79 19) (hk15 : dt 35 3 = dt 79 21) (hd0 : TPL (dt 36) (dt 85) (dt 35 1)) (hd1 : SCL (dt 2) (dt 3) (dt 80)) (hd2 : SCL (dt 19) (dt 20) (dt 81)) (hd3 : QRL (dt 8) (dt 80)) (hd4 : QRL (dt 25) (dt 81)) (hd5 : SDL (dt 9) (dt 80)) (hd6 : SDL (dt 26) (dt 81)) (hd7 : LWL (dt 4) (dt 5) (dt 6) (dt 80)) (hd8 : LWL (dt 21) (dt 22) (dt 23) (dt 81)) (hd9 : CHL (dt 11) (dt 80)) (hd10 : CHL (dt 28) (dt 81)) (K : ∀ (dt : Nat → Nat → Int) (hI : InvC dt) (hM : MW (dt 80)) (hM2 : MW (dt 81)) (hk0 : dt 1 0 = dt 80 0) (hk1 : dt 7 3 = dt 80 1) (hk2 : dt 10 3 = dt 80 2) (hk3 : dt 12 3 = dt 80 3) (hk4 : dt 14 3 = dt 80 4) (hk5 : dt 16 3 = dt 80 5) (hk6 : dt 18 0 = dt 81 0) (hk7 : dt 24 3 = dt 81 1) (hk8 : dt 27 3 = dt 81 2) (hk9 : dt 29 3 = dt 81 3) (hk10 : dt 31 3 = dt 81 4) (hk11 : dt 33 3 = dt 81 5) (hk12 : dt 0 2 = dt 79 2) (hk13 : dt 35 1 = dt 79 12) (hk14 : dt 35 2 = dt 79 19) (hk15 : dt 35 3 = dt 79 21) (hd0 : TPL (dt 36) (dt 85) (dt 35 1)) (hd1 : SCL (dt 2) (dt 3) (dt 80)) (hd2 : SCL (dt 19) (dt 20) (dt 81)) (hd3 : QRL (dt 8) (dt 80)) (hd4 : QRL (dt 25) (dt 81)) (hd5 : SDL (dt 9) (dt 80)) (hd6 : SDL (dt 26) (dt 81)) (hd7 : LWL (dt 4) (dt 5) (dt 6) (dt 80)) (hd8 : LWL (dt 21) (dt 22) (dt 23) (dt 81)) (hd9 : CHL (dt 11) (dt 80)) (hd10 : CHL (dt 28) (dt 81)), GO (am_XX L xs sio) (d + 39) 267 1435 [some (.inr (.inr (some 3000))), some (.inr (.inr (some 0))), some (.inr (.inr (some 79))), some (.inl i)] [] (SH, dt) Q) : GO (am_XX L xs sio) (d + 39) 267 322 [some (.inr (.inr (some 3000))), some (.inr (.inr (some 0))), some (.inr (.inr (some 79))), some (.inl i)] [] (SH, dt) Q := by
  have hF : Fr [0, 1, 2, 3, 4, 5, 6, 7, 8, 9, 10, 11, 12, 13, 14, 15, 16, 17, 18, 19, 20, 21, 22, 23, 24, 25, 26, 27, 28, 29, 30, 31, 32, 33, 34, 35, 36, 37, 38, 39, 40, 41, 42, 43, 44, 45, 46, 47, 48, 49, 50, 51, 52, 53, 54, 55, 56, 57, 58, 59, 60, 61, 62, 63, 64, 65, 66, 67, 68, 69, 70, 71, 72, 73, 74, 75, 76, 77, 78, 79, 80, 81, 82, 83, 84, 85, 86, 87, 88, 89, 90, 91, 92, 93, 94, 95, 96, 97, 98, 99, 100, 101, 102, 103, 104] dt dt := Fr_refl
  have hqo := QOC_R hd3 hM hk1
  have hb1_ := hM.1.1
  have hb2_ := hM.1.2.1
  have hb3_ := hM.1.2.2.1
  have halk : ALK dt (dt 80) := ⟨hd7, hd3, hd5, hd9, hk1, hk2⟩
  refine go_toq PM267 (k := 5) (pc' := 327) (L' := [some (.inr (.inr (some 3000))), some (.inr (.inr (some 0))), some (.inr (.inr (some 79))), some (.inl i)]) (st' := [.inl (i + 1), .inr (.inr (some 3000)), .inr (.inr (some 0))]) (w' := (SH, dt)) rfl ?_
  have r1 := i32_R (xs ((i + 1).toNat))
  refine go_smpq PM267 (L' := [some (.inr (.inr (some 3000))), some (.inr (.inr (some 0))), some (.inr (.inr (some 79))), some (.inl i)]) (st' := [.inl ((xs ((i + 1).toNat)).toInt), .inr (.inr (some 0))]) (w' := (SH, dt)) rfl rfl (s_iald (n := L) (f := fun j => (xs j).toInt) (am_scr hLL) ⟨by omega, by omega⟩) ?_
  refine go_callq PM267 PM71 (Q' := _) rfl rfl rfl rfl (sp_X5_fault_f L xs sio (d + 38) dt hI  ((xs ((i + 1).toNat)).toInt) ⟨by omega, by omega⟩ ) ?_
  rintro _ _ ⟨rfl, h2⟩
  refine ⟨rfl, ?_⟩
  rcases h2 with ⟨v_h2, rfl, h2r, h2⟩
  refine go_toq PM267 (k := 6) (pc' := 337) (L' := [some (.inr (.inr (some 3000))), some (.inr (.inr (some 0))), some (.inr (.inr (some 79))), some (.inl i)]) (st' := [.inl (i + 1), .inr (.inr (some 3000)), .inr (.inr (some 79))]) (w' := (SH, dt)) rfl ?_
  refine go_smpq PM267 (L' := [some (.inr (.inr (some 3000))), some (.inr (.inr (some 0))), some (.inr (.inr (some 79))), some (.inl i)]) (st' := [.inl ((xs ((i + 1).toNat)).toInt), .inr (.inr (some 79))]) (w' := (SH, dt)) rfl rfl (s_iald (n := L) (f := fun j => (xs j).toInt) (am_scr hLL) ⟨by omega, by omega⟩) ?_
  refine go_callq PM267 PM176 (Q' := _) rfl rfl rfl rfl (sp_X6_fault_f L xs sio (d + 38) dt hI  ((xs ((i + 1).toNat)).toInt) ⟨by omega, by omega⟩ ) ?_
  rintro _ _ ⟨rfl, h3⟩
  refine ⟨rfl, ?_⟩
  rcases h3 with ⟨v_h3, rfl, h3r, h3⟩
  refine go_toq PM267 (k := 2) (pc' := 1435) (L' := [some (.inr (.inr (some 3000))), some (.inr (.inr (some 0))), some (.inr (.inr (some 79))), some (.inl i)]) (st' := []) (w' := (SH, dt)) rfl ?_
  exact K dt hI hM hM2 hk0 hk1 hk2 hk3 hk4 hk5 hk6 hk7 hk8 hk9 hk10 hk11 hk12 hk13 hk14 hk15 (by first | exact hI | exact TPL_k hd0 (fun _ => rfl) (fun _ => rfl) (by omega) | (exfalso; omega)) (by first | exact hI | exact SCL_k hd1 hM (fun j _ => (fun _ => rfl) j) (fun j _ => (fun _ => rfl) j) (fun j _ _ => (fun _ => rfl) j) | (exfalso; omega)) (by first | exact hI | exact SCL_k hd2 hM2 (fun j _ => (fun _ => rfl) j) (fun j _ => (fun _ => rfl) j) (fun j _ _ => (fun _ => rfl) j) | (exfalso; omega)) (by first | exact hI | exact QRL_k hd3 hM (fun j _ => (fun _ => rfl) j) ((fun _ => rfl) 1) (fun j _ _ => (fun _ => rfl) j) | (exfalso; omega)) (by first | exact hI | exact QRL_k hd4 hM2 (fun j _ => (fun _ => rfl) j) ((fun _ => rfl) 1) (fun j _ _ => (fun _ => rfl) j) | (exfalso; omega)) (by first | exact hI | exact SDL_k hd5 hM (fun j _ => (fun _ => rfl) j) ((fun _ => rfl) 1) (fun j _ _ => (fun _ => rfl) j) (fun j _ _ => (fun _ => rfl) j) | (exfalso; omega)) (by first | exact hI | exact SDL_k hd6 hM2 (fun j _ => (fun _ => rfl) j) ((fun _ => rfl) 1) (fun j _ _ => (fun _ => rfl) j) (fun j _ _ => (fun _ => rfl) j) | (exfalso; omega)) (by first | exact hI | exact LWL_k hd7 hM (fun j _ => (fun _ => rfl) j) (fun j _ => (fun _ => rfl) j) (fun j _ => (fun _ => rfl) j) (fun j _ _ => (fun _ => rfl) j) | (exfalso; omega)) (by first | exact hI | exact LWL_k hd8 hM2 (fun j _ => (fun _ => rfl) j) (fun j _ => (fun _ => rfl) j) (fun j _ => (fun _ => rfl) j) (fun j _ _ => (fun _ => rfl) j) | (exfalso; omega)) (by first | exact hI | exact CHL_k hd9 hM (fun j _ => (fun _ => rfl) j) (by omega) (fun j _ _ => (fun _ => rfl) j) | (exfalso; omega)) (by first | exact hI | exact CHL_k hd10 hM2 (fun j _ => (fun _ => rfl) j) (by omega) (fun j _ _ => (fun _ => rfl) j) | (exfalso; omega))
set_option maxRecDepth 20000 in
set_option maxHeartbeats 8000000 in
theorem sp_case5 (L : Nat) (xs : Nat → Int32) (sio : Option Nat) (d : Nat) (Q : Option AV → am_W → Prop) (hLL : L ≤ 3072) (i : Int) (hi : 0 ≤ i ∧ i ≤ 3066) (hil : i ≤ (L : Int) - 6) (dt : Nat → Nat → Int) (hI : InvC dt) (hM : MW (dt 80)) (hM2 : MW (dt 81)) (hk0 : dt 1 0 = dt 80 0) (hk1 : dt 7 3 = dt 80 1) (hk2 : dt 10 3 = dt 80 2) (hk3 : dt 12 3 = dt 80 3) (hk4 : dt 14 3 = dt 80 4) (hk5 : dt 16 3 = dt 80 5) (hk6 : dt 18 0 = dt 81 0) (hk7 : dt 24 3 = dt 81 1) (hk8 : dt 27 3 = dt 81 2) (hk9 : dt 29 3 = dt 81 3) (hk10 : dt 31 3 = dt 81 4) (hk11 : dt 33 3 = dt 81 5) (hk12 : dt 0 2 = dt 79 2) (hk13 : dt 35 1 = dt 79 12) (hk14 : dt 35 2 = dt 79 19) (hk15 : dt 35 3 = dt 79 21) (hd0 : TPL (dt 36) (dt 85) (dt 35 1)) (hd1 : SCL (dt 2) (dt 3) (dt 80)) (hd2 : SCL (dt 19) (dt 20) (dt 81)) (hd3 : QRL (dt 8) (dt 80)) (hd4 : QRL (dt 25) (dt 81)) (hd5 : SDL (dt 9) (dt 80)) (hd6 : SDL (dt 26) (dt 81)) (hd7 : LWL (dt 4) (dt 5) (dt 6) (dt 80)) (hd8 : LWL (dt 21) (dt 22) (dt 23) (dt 81)) (hd9 : CHL (dt 11) (dt 80)) (hd10 : CHL (dt 28) (dt 81)) (K : ∀ (dt : Nat → Nat → Int) (hI : InvC dt) (hM : MW (dt 80)) (hM2 : MW (dt 81)) (hk0 : dt 1 0 = dt 80 0) (hk1 : dt 7 3 = dt 80 1) (hk2 : dt 10 3 = dt 80 2) (hk3 : dt 12 3 = dt 80 3) (hk4 : dt 14 3 = dt 80 4) (hk5 : dt 16 3 = dt 80 5) (hk6 : dt 18 0 = dt 81 0) (hk7 : dt 24 3 = dt 81 1) (hk8 : dt 27 3 = dt 81 2) (hk9 : dt 29 3 = dt 81 3) (hk10 : dt 31 3 = dt 81 4) (hk11 : dt 33 3 = dt 81 5) (hk12 : dt 0 2 = dt 79 2) (hk13 : dt 35 1 = dt 79 12) (hk14 : dt 35 2 = dt 79 19) (hk15 : dt 35 3 = dt 79 21) (hd0 : TPL (dt 36) (dt 85) (dt 35 1)) (hd1 : SCL (dt 2) (dt 3) (dt 80)) (hd2 : SCL (dt 19) (dt 20) (dt 81)) (hd3 : QRL (dt 8) (dt 80)) (hd4 : QRL (dt 25) (dt 81)) (hd5 : SDL (dt 9) (dt 80)) (hd6 : SDL (dt 26) (dt 81)) (hd7 : LWL (dt 4) (dt 5) (dt 6) (dt 80)) (hd8 : LWL (dt 21) (dt 22) (dt 23) (dt 81)) (hd9 : CHL (dt 11) (dt 80)) (hd10 : CHL (dt 28) (dt 81)), GO (am_XX L xs sio) (d + 39) 267 1435 [some (.inr (.inr (some 3000))), some (.inr (.inr (some 0))), some (.inr (.inr (some 79))), some (.inl i)] [] (SH, dt) Q) : GO (am_XX L xs sio) (d + 39) 267 345 [some (.inr (.inr (some 3000))), some (.inr (.inr (some 0))), some (.inr (.inr (some 79))), some (.inl i)] [] (SH, dt) Q := by
  have hF : Fr [0, 1, 2, 3, 4, 5, 6, 7, 8, 9, 10, 11, 12, 13, 14, 15, 16, 17, 18, 19, 20, 21, 22, 23, 24, 25, 26, 27, 28, 29, 30, 31, 32, 33, 34, 35, 36, 37, 38, 39, 40, 41, 42, 43, 44, 45, 46, 47, 48, 49, 50, 51, 52, 53, 54, 55, 56, 57, 58, 59, 60, 61, 62, 63, 64, 65, 66, 67, 68, 69, 70, 71, 72, 73, 74, 75, 76, 77, 78, 79, 80, 81, 82, 83, 84, 85, 86, 87, 88, 89, 90, 91, 92, 93, 94, 95, 96, 97, 98, 99, 100, 101, 102, 103, 104] dt dt := Fr_refl
  have hqo := QOC_R hd3 hM hk1
  have hb1_ := hM.1.1
  have hb2_ := hM.1.2.1
  have hb3_ := hM.1.2.2.1
  have halk : ALK dt (dt 80) := ⟨hd7, hd3, hd5, hd9, hk1, hk2⟩
  refine go_toq PM267 (k := 5) (pc' := 350) (L' := [some (.inr (.inr (some 3000))), some (.inr (.inr (some 0))), some (.inr (.inr (some 79))), some (.inl i)]) (st' := [.inl (i + 1), .inr (.inr (some 3000)), .inr (.inr (some 0))]) (w' := (SH, dt)) rfl ?_
  have r1 := i32_R (xs ((i + 1).toNat))
  refine go_smpq PM267 (L' := [some (.inr (.inr (some 3000))), some (.inr (.inr (some 0))), some (.inr (.inr (some 79))), some (.inl i)]) (st' := [.inl ((xs ((i + 1).toNat)).toInt), .inr (.inr (some 0))]) (w' := (SH, dt)) rfl rfl (s_iald (n := L) (f := fun j => (xs j).toInt) (am_scr hLL) ⟨by omega, by omega⟩) ?_
  refine go_toq PM267 (k := 4) (pc' := 355) (L' := [some (.inr (.inr (some 3000))), some (.inr (.inr (some 0))), some (.inr (.inr (some 79))), some (.inl i)]) (st' := [.inl (i + 2), .inr (.inr (some 3000)), .inl ((xs ((i + 1).toNat)).toInt), .inr (.inr (some 0))]) (w' := (SH, dt)) rfl ?_
  have r2 := i32_R (xs ((i + 2).toNat))
  refine go_smpq PM267 (L' := [some (.inr (.inr (some 3000))), some (.inr (.inr (some 0))), some (.inr (.inr (some 79))), some (.inl i)]) (st' := [.inl ((xs ((i + 2).toNat)).toInt), .inl ((xs ((i + 1).toNat)).toInt), .inr (.inr (some 0))]) (w' := (SH, dt)) rfl rfl (s_iald (n := L) (f := fun j => (xs j).toInt) (am_scr hLL) ⟨by omega, by omega⟩) ?_
  refine go_toq PM267 (k := 4) (pc' := 360) (L' := [some (.inr (.inr (some 3000))), some (.inr (.inr (some 0))), some (.inr (.inr (some 79))), some (.inl i)]) (st' := [.inl (i + 3), .inr (.inr (some 3000)), .inl ((xs ((i + 2).toNat)).toInt), .inl ((xs ((i + 1).toNat)).toInt), .inr (.inr (some 0))]) (w' := (SH, dt)) rfl ?_
  have r3 := i32_R (xs ((i + 3).toNat))
  refine go_smpq PM267 (L' := [some (.inr (.inr (some 3000))), some (.inr (.inr (some 0))), some (.inr (.inr (some 79))), some (.inl i)]) (st' := [.inl ((xs ((i + 3).toNat)).toInt), .inl ((xs ((i + 2).toNat)).toInt), .inl ((xs ((i + 1).toNat)).toInt), .inr (.inr (some 0))]) (w' := (SH, dt)) rfl rfl (s_iald (n := L) (f := fun j => (xs j).toInt) (am_scr hLL) ⟨by omega, by omega⟩) ?_
  refine go_toq PM267 (k := 4) (pc' := 365) (L' := [some (.inr (.inr (some 3000))), some (.inr (.inr (some 0))), some (.inr (.inr (some 79))), some (.inl i)]) (st' := [.inl (i + 4), .inr (.inr (some 3000)), .inl ((xs ((i + 3).toNat)).toInt), .inl ((xs ((i + 2).toNat)).toInt), .inl ((xs ((i + 1).toNat)).toInt), .inr (.inr (some 0))]) (w' := (SH, dt)) rfl ?_
  have r4 := i32_R (xs ((i + 4).toNat))
  refine go_smpq PM267 (L' := [some (.inr (.inr (some 3000))), some (.inr (.inr (some 0))), some (.inr (.inr (some 79))), some (.inl i)]) (st' := [.inl ((xs ((i + 4).toNat)).toInt), .inl ((xs ((i + 3).toNat)).toInt), .inl ((xs ((i + 2).toNat)).toInt), .inl ((xs ((i + 1).toNat)).toInt), .inr (.inr (some 0))]) (w' := (SH, dt)) rfl rfl (s_iald (n := L) (f := fun j => (xs j).toInt) (am_scr hLL) ⟨by omega, by omega⟩) ?_
  refine go_callq PM267 PM72 (Q' := _) rfl rfl rfl rfl (sp_X5_after L xs sio (d + 33) dt hI  ((xs ((i + 1).toNat)).toInt) ⟨by omega, by omega⟩ ((xs ((i + 2).toNat)).toInt) ⟨by omega, by omega⟩ ((xs ((i + 3).toNat)).toInt) ⟨by omega, by omega⟩ ((xs ((i + 4).toNat)).toInt) ⟨by omega, by omega⟩ ) ?_
  rintro _ _ ⟨dt6, rfl, hI7, hF8, h5⟩
  refine ⟨rfl, ?_⟩
  have hF9 : Fr [0, 1, 2, 3, 4, 5, 6, 7, 8, 9, 10, 11, 12, 13, 14, 15, 16, 17, 18, 19, 20, 21, 22, 23, 24, 25, 26, 27, 28, 29, 30, 31, 32, 33, 34, 35, 36, 37, 38, 39, 40, 41, 42, 43, 44, 45, 46, 47, 48, 49, 50, 51, 52, 53, 54, 55, 56, 57, 58, 59, 60, 61, 62, 63, 64, 65, 66, 67, 68, 69, 70, 71, 72, 73, 74, 75, 76, 77, 78, 79, 80, 81, 82, 83, 84, 85, 86, 87, 88, 89, 90, 91, 92, 93, 94, 95, 96, 97, 98, 99, 100, 101, 102, 103, 104] dt dt6 := Fr_tr hF hF8 (by decide)
  have hM10 : MW (dt6 80) := MW_fr hM hF8 (by decide)
  have w11 : dt6 1 0 = dt 1 0 := hF8 1 (by decide) 0
  have w12 : dt6 7 3 = dt 7 3 := hF8 7 (by decide) 3
  have w13 : dt6 10 3 = dt 10 3 := hF8 10 (by decide) 3
  have w14 : dt6 12 3 = dt 12 3 := hF8 12 (by decide) 3
  have w15 : dt6 14 3 = dt 14 3 := hF8 14 (by decide) 3
  have w16 : dt6 16 3 = dt 16 3 := hF8 16 (by decide) 3
  have w17 : dt6 18 0 = dt 18 0 := hF8 18 (by decide) 0
  have w18 : dt6 24 3 = dt 24 3 := hF8 24 (by decide) 3
  have w19 : dt6 27 3 = dt 27 3 := hF8 27 (by decide) 3
  have w20 : dt6 29 3 = dt 29 3 := hF8 29 (by decide) 3
  have w21 : dt6 31 3 = dt 31 3 := hF8 31 (by decide) 3
  have w22 : dt6 33 3 = dt 33 3 := hF8 33 (by decide) 3
  have w23 : dt6 0 2 = dt 0 2 := hF8 0 (by decide) 2
  have w24 : dt6 35 1 = dt 35 1 := hF8 35 (by decide) 1
  have w25 : dt6 35 2 = dt 35 2 := hF8 35 (by decide) 2
  have w26 : dt6 35 3 = dt 35 3 := hF8 35 (by decide) 3
  have w27 : dt6 80 0 = dt 80 0 := hF8 80 (by decide) 0
  have w28 : dt6 80 1 = dt 80 1 := hF8 80 (by decide) 1
  have w29 : dt6 80 2 = dt 80 2 := hF8 80 (by decide) 2
  have w30 : dt6 80 3 = dt 80 3 := hF8 80 (by decide) 3
  have w31 : dt6 80 4 = dt 80 4 := hF8 80 (by decide) 4
  have w32 : dt6 80 5 = dt 80 5 := hF8 80 (by decide) 5
  have w33 : dt6 81 0 = dt 81 0 := hF8 81 (by decide) 0
  have w34 : dt6 81 1 = dt 81 1 := hF8 81 (by decide) 1
  have w35 : dt6 81 2 = dt 81 2 := hF8 81 (by decide) 2
  have w36 : dt6 81 3 = dt 81 3 := hF8 81 (by decide) 3
  have w37 : dt6 81 4 = dt 81 4 := hF8 81 (by decide) 4
  have w38 : dt6 81 5 = dt 81 5 := hF8 81 (by decide) 5
  have w39 : dt6 79 2 = dt 79 2 := hF8 79 (by decide) 2
  have w40 : dt6 79 12 = dt 79 12 := hF8 79 (by decide) 12
  have w41 : dt6 79 19 = dt 79 19 := hF8 79 (by decide) 19
  have w42 : dt6 79 21 = dt 79 21 := hF8 79 (by decide) 21
  rcases h5 with ⟨v_h5, rfl, h5r, h5⟩
  have M243 : MW (dt6 81) := MW_frk hM2 hF8 (by decide)
  have C44 : ∀ j : Nat, dt6 2 j = dt 2 j := fun j => (hF8 2 (by decide) j).trans ((fun _ => rfl) j)
  have C45 : ∀ j : Nat, dt6 3 j = dt 3 j := fun j => (hF8 3 (by decide) j).trans ((fun _ => rfl) j)
  have C46 : ∀ j : Nat, dt6 4 j = dt 4 j := fun j => (hF8 4 (by decide) j).trans ((fun _ => rfl) j)
  have C47 : ∀ j : Nat, dt6 5 j = dt 5 j := fun j => (hF8 5 (by decide) j).trans ((fun _ => rfl) j)
  have C48 : ∀ j : Nat, dt6 6 j = dt 6 j := fun j => (hF8 6 (by decide) j).trans ((fun _ => rfl) j)
  have C49 : ∀ j : Nat, dt6 8 j = dt 8 j := fun j => (hF8 8 (by decide) j).trans ((fun _ => rfl) j)
  have C50 : ∀ j : Nat, dt6 9 j = dt 9 j := fun j => (hF8 9 (by decide) j).trans ((fun _ => rfl) j)
  have C51 : ∀ j : Nat, dt6 11 j = dt 11 j := fun j => (hF8 11 (by decide) j).trans ((fun _ => rfl) j)
  have C52 : ∀ j : Nat, dt6 19 j = dt 19 j := fun j => (hF8 19 (by decide) j).trans ((fun _ => rfl) j)
  have C53 : ∀ j : Nat, dt6 20 j = dt 20 j := fun j => (hF8 20 (by decide) j).trans ((fun _ => rfl) j)
  have C54 : ∀ j : Nat, dt6 21 j = dt 21 j := fun j => (hF8 21 (by decide) j).trans ((fun _ => rfl) j)
  have C55 : ∀ j : Nat, dt6 22 j = dt 22 j := fun j => (hF8 22 (by decide) j).trans ((fun _ => rfl) j)
  have C56 : ∀ j : Nat, dt6 23 j = dt 23 j := fun j => (hF8 23 (by decide) j).trans ((fun _ => rfl) j)
  have C57 : ∀ j : Nat, dt6 25 j = dt 25 j := fun j => (hF8 25 (by decide) j).trans ((fun _ => rfl) j)
  have C58 : ∀ j : Nat, dt6 26 j = dt 26 j := fun j => (hF8 26 (by decide) j).trans ((fun _ => rfl) j)
  have C59 : ∀ j : Nat, dt6 28 j = dt 28 j := fun j => (hF8 28 (by decide) j).trans ((fun _ => rfl) j)
  have C60 : ∀ j : Nat, dt6 36 j = dt 36 j := fun j => (hF8 36 (by decide) j).trans ((fun _ => rfl) j)
  have C61 : ∀ j : Nat, dt6 80 j = dt 80 j := fun j => (hF8 80 (by decide) j).trans ((fun _ => rfl) j)
  have C62 : ∀ j : Nat, dt6 81 j = dt 81 j := fun j => (hF8 81 (by decide) j).trans ((fun _ => rfl) j)
  have C63 : ∀ j : Nat, dt6 85 j = dt 85 j := fun j => (hF8 85 (by decide) j).trans ((fun _ => rfl) j)
  refine go_toq PM267 (k := 6) (pc' := 375) (L' := [some (.inr (.inr (some 3000))), some (.inr (.inr (some 0))), some (.inr (.inr (some 79))), some (.inl i)]) (st' := [.inl (i + 1), .inr (.inr (some 3000)), .inr (.inr (some 79))]) (w' := (SH, dt6)) rfl ?_
  have r64 := i32_R (xs ((i + 1).toNat))
  refine go_smpq PM267 (L' := [some (.inr (.inr (some 3000))), some (.inr (.inr (some 0))), some (.inr (.inr (some 79))), some (.inl i)]) (st' := [.inl ((xs ((i + 1).toNat)).toInt), .inr (.inr (some 79))]) (w' := (SH, dt6)) rfl rfl (s_iald (n := L) (f := fun j => (xs j).toInt) (am_scr hLL) ⟨by omega, by omega⟩) ?_
  refine go_toq PM267 (k := 4) (pc' := 380) (L' := [some (.inr (.inr (some 3000))), some (.inr (.inr (some 0))), some (.inr (.inr (some 79))), some (.inl i)]) (st' := [.inl (i + 2), .inr (.inr (some 3000)), .inl ((xs ((i + 1).toNat)).toInt), .inr (.inr (some 79))]) (w' := (SH, dt6)) rfl ?_
  have r65 := i32_R (xs ((i + 2).toNat))
  refine go_smpq PM267 (L' := [some (.inr (.inr (some 3000))), some (.inr (.inr (some 0))), some (.inr (.inr (some 79))), some (.inl i)]) (st' := [.inl ((xs ((i + 2).toNat)).toInt), .inl ((xs ((i + 1).toNat)).toInt), .inr (.inr (some 79))]) (w' := (SH, dt6)) rfl rfl (s_iald (n := L) (f := fun j => (xs j).toInt) (am_scr hLL) ⟨by omega, by omega⟩) ?_
  refine go_toq PM267 (k := 4) (pc' := 385) (L' := [some (.inr (.inr (some 3000))), some (.inr (.inr (some 0))), some (.inr (.inr (some 79))), some (.inl i)]) (st' := [.inl (i + 3), .inr (.inr (some 3000)), .inl ((xs ((i + 2).toNat)).toInt), .inl ((xs ((i + 1).toNat)).toInt), .inr (.inr (some 79))]) (w' := (SH, dt6)) rfl ?_
  have r66 := i32_R (xs ((i + 3).toNat))
  refine go_smpq PM267 (L' := [some (.inr (.inr (some 3000))), some (.inr (.inr (some 0))), some (.inr (.inr (some 79))), some (.inl i)]) (st' := [.inl ((xs ((i + 3).toNat)).toInt), .inl ((xs ((i + 2).toNat)).toInt), .inl ((xs ((i + 1).toNat)).toInt), .inr (.inr (some 79))]) (w' := (SH, dt6)) rfl rfl (s_iald (n := L) (f := fun j => (xs j).toInt) (am_scr hLL) ⟨by omega, by omega⟩) ?_
  refine go_toq PM267 (k := 4) (pc' := 390) (L' := [some (.inr (.inr (some 3000))), some (.inr (.inr (some 0))), some (.inr (.inr (some 79))), some (.inl i)]) (st' := [.inl (i + 4), .inr (.inr (some 3000)), .inl ((xs ((i + 3).toNat)).toInt), .inl ((xs ((i + 2).toNat)).toInt), .inl ((xs ((i + 1).toNat)).toInt), .inr (.inr (some 79))]) (w' := (SH, dt6)) rfl ?_
  have r67 := i32_R (xs ((i + 4).toNat))
  refine go_smpq PM267 (L' := [some (.inr (.inr (some 3000))), some (.inr (.inr (some 0))), some (.inr (.inr (some 79))), some (.inl i)]) (st' := [.inl ((xs ((i + 4).toNat)).toInt), .inl ((xs ((i + 3).toNat)).toInt), .inl ((xs ((i + 2).toNat)).toInt), .inl ((xs ((i + 1).toNat)).toInt), .inr (.inr (some 79))]) (w' := (SH, dt6)) rfl rfl (s_iald (n := L) (f := fun j => (xs j).toInt) (am_scr hLL) ⟨by omega, by omega⟩) ?_
  refine go_callq PM267 PM188 (Q' := _) rfl rfl rfl rfl (sp_X6_after L xs sio (d + 33) dt6 hI7 hM10  ((xs ((i + 1).toNat)).toInt) ⟨by omega, by omega⟩ ((xs ((i + 2).toNat)).toInt) ⟨by omega, by omega⟩ ((xs ((i + 3).toNat)).toInt) ⟨by omega, by omega⟩ ((xs ((i + 4).toNat)).toInt) ⟨by omega, by omega⟩ ) ?_
  rintro _ _ ⟨dt69, rfl, hI70, hF71, h68⟩
  refine ⟨rfl, ?_⟩
  have hF72 : Fr [0, 1, 2, 3, 4, 5, 6, 7, 8, 9, 10, 11, 12, 13, 14, 15, 16, 17, 18, 19, 20, 21, 22, 23, 24, 25, 26, 27, 28, 29, 30, 31, 32, 33, 34, 35, 36, 37, 38, 39, 40, 41, 42, 43, 44, 45, 46, 47, 48, 49, 50, 51, 52, 53, 54, 55, 56, 57, 58, 59, 60, 61, 62, 63, 64, 65, 66, 67, 68, 69, 70, 71, 72, 73, 74, 75, 76, 77, 78, 79, 80, 81, 82, 83, 84, 85, 86, 87, 88, 89, 90, 91, 92, 93, 94, 95, 96, 97, 98, 99, 100, 101, 102, 103, 104] dt dt69 := Fr_tr hF9 hF71 (by decide)
  have hM73 : MW (dt69 80) := MW_fr hM10 hF71 (by decide)
  have w74 : dt69 1 0 = dt 1 0 := (hF71 1 (by decide) 0).trans w11
  have w75 : dt69 7 3 = dt 7 3 := (hF71 7 (by decide) 3).trans w12
  have w76 : dt69 10 3 = dt 10 3 := (hF71 10 (by decide) 3).trans w13
  have w77 : dt69 12 3 = dt 12 3 := (hF71 12 (by decide) 3).trans w14
  have w78 : dt69 14 3 = dt 14 3 := (hF71 14 (by decide) 3).trans w15
  have w79 : dt69 16 3 = dt 16 3 := (hF71 16 (by decide) 3).trans w16
  have w80 : dt69 18 0 = dt 18 0 := (hF71 18 (by decide) 0).trans w17
  have w81 : dt69 24 3 = dt 24 3 := (hF71 24 (by decide) 3).trans w18
  have w82 : dt69 27 3 = dt 27 3 := (hF71 27 (by decide) 3).trans w19
  have w83 : dt69 29 3 = dt 29 3 := (hF71 29 (by decide) 3).trans w20
  have w84 : dt69 31 3 = dt 31 3 := (hF71 31 (by decide) 3).trans w21
  have w85 : dt69 33 3 = dt 33 3 := (hF71 33 (by decide) 3).trans w22
  have w86 : dt69 0 2 = dt 0 2 := (hF71 0 (by decide) 2).trans w23
  have w87 : dt69 35 1 = dt 35 1 := (hF71 35 (by decide) 1).trans w24
  have w88 : dt69 35 2 = dt 35 2 := (hF71 35 (by decide) 2).trans w25
  have w89 : dt69 35 3 = dt 35 3 := (hF71 35 (by decide) 3).trans w26
  have w90 : dt69 80 0 = dt 80 0 := (hF71 80 (by decide) 0).trans w27
  have w91 : dt69 80 1 = dt 80 1 := (hF71 80 (by decide) 1).trans w28
  have w92 : dt69 80 2 = dt 80 2 := (hF71 80 (by decide) 2).trans w29
  have w93 : dt69 80 3 = dt 80 3 := (hF71 80 (by decide) 3).trans w30
  have w94 : dt69 80 4 = dt 80 4 := (hF71 80 (by decide) 4).trans w31
  have w95 : dt69 80 5 = dt 80 5 := (hF71 80 (by decide) 5).trans w32
  have w96 : dt69 81 0 = dt 81 0 := (hF71 81 (by decide) 0).trans w33
  have w97 : dt69 81 1 = dt 81 1 := (hF71 81 (by decide) 1).trans w34
  have w98 : dt69 81 2 = dt 81 2 := (hF71 81 (by decide) 2).trans w35
  have w99 : dt69 81 3 = dt 81 3 := (hF71 81 (by decide) 3).trans w36
  have w100 : dt69 81 4 = dt 81 4 := (hF71 81 (by decide) 4).trans w37
  have w101 : dt69 81 5 = dt 81 5 := (hF71 81 (by decide) 5).trans w38
  have w102 : dt69 79 2 = dt 79 2 := (hF71 79 (by decide) 2).trans w39
  have w103 : dt69 79 12 = dt 79 12 := (hF71 79 (by decide) 12).trans w40
  have w104 : dt69 79 19 = dt 79 19 := (hF71 79 (by decide) 19).trans w41
  have w105 : dt69 79 21 = dt 79 21 := (hF71 79 (by decide) 21).trans w42
  rcases h68 with ⟨v_h68, rfl, h68r, h68⟩
  have M2106 : MW (dt69 81) := MW_frk M243 hF71 (by decide)
  have C107 : ∀ j : Nat, dt69 2 j = dt 2 j := fun j => (hF71 2 (by decide) j).trans (C44 j)
  have C108 : ∀ j : Nat, dt69 3 j = dt 3 j := fun j => (hF71 3 (by decide) j).trans (C45 j)
  have C109 : ∀ j : Nat, dt69 4 j = dt 4 j := fun j => (hF71 4 (by decide) j).trans (C46 j)
  have C110 : ∀ j : Nat, dt69 5 j = dt 5 j := fun j => (hF71 5 (by decide) j).trans (C47 j)
  have C111 : ∀ j : Nat, dt69 6 j = dt 6 j := fun j => (hF71 6 (by decide) j).trans (C48 j)
  have C112 : ∀ j : Nat, dt69 8 j = dt 8 j := fun j => (hF71 8 (by decide) j).trans (C49 j)
  have C113 : ∀ j : Nat, dt69 9 j = dt 9 j := fun j => (hF71 9 (by decide) j).trans (C50 j)
  have C114 : ∀ j : Nat, dt69 11 j = dt 11 j := fun j => (hF71 11 (by decide) j).trans (C51 j)
  have C115 : ∀ j : Nat, dt69 19 j = dt 19 j := fun j => (hF71 19 (by decide) j).trans (C52 j)
  have C116 : ∀ j : Nat, dt69 20 j = dt 20 j := fun j => (hF71 20 (by decide) j).trans (C53 j)
  have C117 : ∀ j : Nat, dt69 21 j = dt 21 j := fun j => (hF71 21 (by decide) j).trans (C54 j)
  have C118 : ∀ j : Nat, dt69 22 j = dt 22 j := fun j => (hF71 22 (by decide) j).trans (C55 j)
  have C119 : ∀ j : Nat, dt69 23 j = dt 23 j := fun j => (hF71 23 (by decide) j).trans (C56 j)
  have C120 : ∀ j : Nat, dt69 25 j = dt 25 j := fun j => (hF71 25 (by decide) j).trans (C57 j)
  have C121 : ∀ j : Nat, dt69 26 j = dt 26 j := fun j => (hF71 26 (by decide) j).trans (C58 j)
  have C122 : ∀ j : Nat, dt69 28 j = dt 28 j := fun j => (hF71 28 (by decide) j).trans (C59 j)
  have C123 : ∀ j : Nat, dt69 36 j = dt 36 j := fun j => (hF71 36 (by decide) j).trans (C60 j)
  have C124 : ∀ j : Nat, dt69 80 j = dt 80 j := fun j => (hF71 80 (by decide) j).trans (C61 j)
  have C125 : ∀ j : Nat, dt69 81 j = dt 81 j := fun j => (hF71 81 (by decide) j).trans (C62 j)
  have C126 : ∀ j : Nat, dt69 85 j = dt 85 j := fun j => (hF71 85 (by decide) j).trans (C63 j)
  refine go_toq PM267 (k := 2) (pc' := 1435) (L' := [some (.inr (.inr (some 3000))), some (.inr (.inr (some 0))), some (.inr (.inr (some 79))), some (.inl i)]) (st' := []) (w' := (SH, dt69)) rfl ?_
  exact K dt69 hI70 hM73 M2106 (w74.trans (hk0.trans w90.symm)) (w75.trans (hk1.trans w91.symm)) (w76.trans (hk2.trans w92.symm)) (w77.trans (hk3.trans w93.symm)) (w78.trans (hk4.trans w94.symm)) (w79.trans (hk5.trans w95.symm)) (w80.trans (hk6.trans w96.symm)) (w81.trans (hk7.trans w97.symm)) (w82.trans (hk8.trans w98.symm)) (w83.trans (hk9.trans w99.symm)) (w84.trans (hk10.trans w100.symm)) (w85.trans (hk11.trans w101.symm)) (w86.trans (hk12.trans w102.symm)) (w87.trans (hk13.trans w103.symm)) (w88.trans (hk14.trans w104.symm)) (w89.trans (hk15.trans w105.symm)) (by first | exact hI | exact TPL_k hd0 C123 C126 (by omega) | (exfalso; omega)) (by first | exact hI | exact SCL_k hd1 hM (fun j _ => C107 j) (fun j _ => C108 j) (fun j _ _ => C124 j) | (exfalso; omega)) (by first | exact hI | exact SCL_k hd2 hM2 (fun j _ => C115 j) (fun j _ => C116 j) (fun j _ _ => C125 j) | (exfalso; omega)) (by first | exact hI | exact QRL_k hd3 hM (fun j _ => C112 j) (C124 1) (fun j _ _ => C124 j) | (exfalso; omega)) (by first | exact hI | exact QRL_k hd4 hM2 (fun j _ => C120 j) (C125 1) (fun j _ _ => C125 j) | (exfalso; omega)) (by first | exact hI | exact SDL_k hd5 hM (fun j _ => C113 j) (C124 1) (fun j _ _ => C124 j) (fun j _ _ => C124 j) | (exfalso; omega)) (by first | exact hI | exact SDL_k hd6 hM2 (fun j _ => C121 j) (C125 1) (fun j _ _ => C125 j) (fun j _ _ => C125 j) | (exfalso; omega)) (by first | exact hI | exact LWL_k hd7 hM (fun j _ => C109 j) (fun j _ => C110 j) (fun j _ => C111 j) (fun j _ _ => C124 j) | (exfalso; omega)) (by first | exact hI | exact LWL_k hd8 hM2 (fun j _ => C117 j) (fun j _ => C118 j) (fun j _ => C119 j) (fun j _ _ => C125 j) | (exfalso; omega)) (by first | exact hI | exact CHL_k hd9 hM (fun j _ => C114 j) (by omega) (fun j _ _ => C124 j) | (exfalso; omega)) (by first | exact hI | exact CHL_k hd10 hM2 (fun j _ => C122 j) (by omega) (fun j _ _ => C125 j) | (exfalso; omega))
set_option maxRecDepth 20000 in
set_option maxHeartbeats 8000000 in
theorem sp_case6 (L : Nat) (xs : Nat → Int32) (sio : Option Nat) (d : Nat) (Q : Option AV → am_W → Prop) (hLL : L ≤ 3072) (i : Int) (hi : 0 ≤ i ∧ i ≤ 3066) (hil : i ≤ (L : Int) - 6) (dt : Nat → Nat → Int) (hI : InvC dt) (hM : MW (dt 80)) (hM2 : MW (dt 81)) (hk0 : dt 1 0 = dt 80 0) (hk1 : dt 7 3 = dt 80 1) (hk2 : dt 10 3 = dt 80 2) (hk3 : dt 12 3 = dt 80 3) (hk4 : dt 14 3 = dt 80 4) (hk5 : dt 16 3 = dt 80 5) (hk6 : dt 18 0 = dt 81 0) (hk7 : dt 24 3 = dt 81 1) (hk8 : dt 27 3 = dt 81 2) (hk9 : dt 29 3 = dt 81 3) (hk10 : dt 31 3 = dt 81 4) (hk11 : dt 33 3 = dt 81 5) (hk12 : dt 0 2 = dt 79 2) (hk13 : dt 35 1 = dt 79 12) (hk14 : dt 35 2 = dt 79 19) (hk15 : dt 35 3 = dt 79 21) (hd0 : TPL (dt 36) (dt 85) (dt 35 1)) (hd1 : SCL (dt 2) (dt 3) (dt 80)) (hd2 : SCL (dt 19) (dt 20) (dt 81)) (hd3 : QRL (dt 8) (dt 80)) (hd4 : QRL (dt 25) (dt 81)) (hd5 : SDL (dt 9) (dt 80)) (hd6 : SDL (dt 26) (dt 81)) (hd7 : LWL (dt 4) (dt 5) (dt 6) (dt 80)) (hd8 : LWL (dt 21) (dt 22) (dt 23) (dt 81)) (hd9 : CHL (dt 11) (dt 80)) (hd10 : CHL (dt 28) (dt 81)) (K : ∀ (dt : Nat → Nat → Int) (hI : InvC dt) (hM : MW (dt 80)) (hM2 : MW (dt 81)) (hk0 : dt 1 0 = dt 80 0) (hk1 : dt 7 3 = dt 80 1) (hk2 : dt 10 3 = dt 80 2) (hk3 : dt 12 3 = dt 80 3) (hk4 : dt 14 3 = dt 80 4) (hk5 : dt 16 3 = dt 80 5) (hk6 : dt 18 0 = dt 81 0) (hk7 : dt 24 3 = dt 81 1) (hk8 : dt 27 3 = dt 81 2) (hk9 : dt 29 3 = dt 81 3) (hk10 : dt 31 3 = dt 81 4) (hk11 : dt 33 3 = dt 81 5) (hk12 : dt 0 2 = dt 79 2) (hk13 : dt 35 1 = dt 79 12) (hk14 : dt 35 2 = dt 79 19) (hk15 : dt 35 3 = dt 79 21) (hd0 : TPL (dt 36) (dt 85) (dt 35 1)) (hd1 : SCL (dt 2) (dt 3) (dt 80)) (hd2 : SCL (dt 19) (dt 20) (dt 81)) (hd3 : QRL (dt 8) (dt 80)) (hd4 : QRL (dt 25) (dt 81)) (hd5 : SDL (dt 9) (dt 80)) (hd6 : SDL (dt 26) (dt 81)) (hd7 : LWL (dt 4) (dt 5) (dt 6) (dt 80)) (hd8 : LWL (dt 21) (dt 22) (dt 23) (dt 81)) (hd9 : CHL (dt 11) (dt 80)) (hd10 : CHL (dt 28) (dt 81)), GO (am_XX L xs sio) (d + 39) 267 1435 [some (.inr (.inr (some 3000))), some (.inr (.inr (some 0))), some (.inr (.inr (some 79))), some (.inl i)] [] (SH, dt) Q) : GO (am_XX L xs sio) (d + 39) 267 398 [some (.inr (.inr (some 3000))), some (.inr (.inr (some 0))), some (.inr (.inr (some 79))), some (.inl i)] [] (SH, dt) Q := by
  have hF : Fr [0, 1, 2, 3, 4, 5, 6, 7, 8, 9, 10, 11, 12, 13, 14, 15, 16, 17, 18, 19, 20, 21, 22, 23, 24, 25, 26, 27, 28, 29, 30, 31, 32, 33, 34, 35, 36, 37, 38, 39, 40, 41, 42, 43, 44, 45, 46, 47, 48, 49, 50, 51, 52, 53, 54, 55, 56, 57, 58, 59, 60, 61, 62, 63, 64, 65, 66, 67, 68, 69, 70, 71, 72, 73, 74, 75, 76, 77, 78, 79, 80, 81, 82, 83, 84, 85, 86, 87, 88, 89, 90, 91, 92, 93, 94, 95, 96, 97, 98, 99, 100, 101, 102, 103, 104] dt dt := Fr_refl
  have hqo := QOC_R hd3 hM hk1
  have hb1_ := hM.1.1
  have hb2_ := hM.1.2.1
  have hb3_ := hM.1.2.2.1
  have halk : ALK dt (dt 80) := ⟨hd7, hd3, hd5, hd9, hk1, hk2⟩
  refine go_toq PM267 (k := 5) (pc' := 403) (L' := [some (.inr (.inr (some 3000))), some (.inr (.inr (some 0))), some (.inr (.inr (some 79))), some (.inl i)]) (st' := [.inl (i + 1), .inr (.inr (some 3000)), .inr (.inr (some 0))]) (w' := (SH, dt)) rfl ?_
  have r1 := i32_R (xs ((i + 1).toNat))
  refine go_smpq PM267 (L' := [some (.inr (.inr (some 3000))), some (.inr (.inr (some 0))), some (.inr (.inr (some 79))), some (.inl i)]) (st' := [.inl ((xs ((i + 1).toNat)).toInt), .inr (.inr (some 0))]) (w' := (SH, dt)) rfl rfl (s_iald (n := L) (f := fun j => (xs j).toInt) (am_scr hLL) ⟨by omega, by omega⟩) ?_
  refine go_toq PM267 (k := 4) (pc' := 408) (L' := [some (.inr (.inr (some 3000))), some (.inr (.inr (some 0))), some (.inr (.inr (some 79))), some (.inl i)]) (st' := [.inl (i + 2), .inr (.inr (some 3000)), .inl ((xs ((i + 1).toNat)).toInt), .inr (.inr (some 0))]) (w' := (SH, dt)) rfl ?_
  have r2 := i32_R (xs ((i + 2).toNat))
  refine go_smpq PM267 (L' := [some (.inr (.inr (some 3000))), some (.inr (.inr (some 0))), some (.inr (.inr (some 79))), some (.inl i)]) (st' := [.inl ((xs ((i + 2).toNat)).toInt), .inl ((xs ((i + 1).toNat)).toInt), .inr (.inr (some 0))]) (w' := (SH, dt)) rfl rfl (s_iald (n := L) (f := fun j => (xs j).toInt) (am_scr hLL) ⟨by omega, by omega⟩) ?_
  refine go_toq PM267 (k := 4) (pc' := 413) (L' := [some (.inr (.inr (some 3000))), some (.inr (.inr (some 0))), some (.inr (.inr (some 79))), some (.inl i)]) (st' := [.inl (i + 3), .inr (.inr (some 3000)), .inl ((xs ((i + 2).toNat)).toInt), .inl ((xs ((i + 1).toNat)).toInt), .inr (.inr (some 0))]) (w' := (SH, dt)) rfl ?_
  have r3 := i32_R (xs ((i + 3).toNat))
  refine go_smpq PM267 (L' := [some (.inr (.inr (some 3000))), some (.inr (.inr (some 0))), some (.inr (.inr (some 79))), some (.inl i)]) (st' := [.inl ((xs ((i + 3).toNat)).toInt), .inl ((xs ((i + 2).toNat)).toInt), .inl ((xs ((i + 1).toNat)).toInt), .inr (.inr (some 0))]) (w' := (SH, dt)) rfl rfl (s_iald (n := L) (f := fun j => (xs j).toInt) (am_scr hLL) ⟨by omega, by omega⟩) ?_
  refine go_toq PM267 (k := 4) (pc' := 418) (L' := [some (.inr (.inr (some 3000))), some (.inr (.inr (some 0))), some (.inr (.inr (some 79))), some (.inl i)]) (st' := [.inl (i + 4), .inr (.inr (some 3000)), .inl ((xs ((i + 3).toNat)).toInt), .inl ((xs ((i + 2).toNat)).toInt), .inl ((xs ((i + 1).toNat)).toInt), .inr (.inr (some 0))]) (w' := (SH, dt)) rfl ?_
  have r4 := i32_R (xs ((i + 4).toNat))
  refine go_smpq PM267 (L' := [some (.inr (.inr (some 3000))), some (.inr (.inr (some 0))), some (.inr (.inr (some 79))), some (.inl i)]) (st' := [.inl ((xs ((i + 4).toNat)).toInt), .inl ((xs ((i + 3).toNat)).toInt), .inl ((xs ((i + 2).toNat)).toInt), .inl ((xs ((i + 1).toNat)).toInt), .inr (.inr (some 0))]) (w' := (SH, dt)) rfl rfl (s_iald (n := L) (f := fun j => (xs j).toInt) (am_scr hLL) ⟨by omega, by omega⟩) ?_
  refine go_callq PM267 PM73 (Q' := _) rfl rfl rfl rfl (sp_X5_thinks L xs sio (d + 33) dt hI  ((xs ((i + 1).toNat)).toInt) ⟨by omega, by omega⟩ ((xs ((i + 2).toNat)).toInt) ⟨by omega, by omega⟩ ((xs ((i + 3).toNat)).toInt) ⟨by omega, by omega⟩ ((xs ((i + 4).toNat)).toInt) ⟨by omega, by omega⟩ ) ?_
  rintro _ _ ⟨dt6, rfl, hI7, hF8, h5⟩
  refine ⟨rfl, ?_⟩
  have hF9 : Fr [0, 1, 2, 3, 4, 5, 6, 7, 8, 9, 10, 11, 12, 13, 14, 15, 16, 17, 18, 19, 20, 21, 22, 23, 24, 25, 26, 27, 28, 29, 30, 31, 32, 33, 34, 35, 36, 37, 38, 39, 40, 41, 42, 43, 44, 45, 46, 47, 48, 49, 50, 51, 52, 53, 54, 55, 56, 57, 58, 59, 60, 61, 62, 63, 64, 65, 66, 67, 68, 69, 70, 71, 72, 73, 74, 75, 76, 77, 78, 79, 80, 81, 82, 83, 84, 85, 86, 87, 88, 89, 90, 91, 92, 93, 94, 95, 96, 97, 98, 99, 100, 101, 102, 103, 104] dt dt6 := Fr_tr hF hF8 (by decide)
  have hM10 : MW (dt6 80) := MW_fr hM hF8 (by decide)
  have w11 : dt6 1 0 = dt 1 0 := hF8 1 (by decide) 0
  have w12 : dt6 7 3 = dt 7 3 := hF8 7 (by decide) 3
  have w13 : dt6 10 3 = dt 10 3 := hF8 10 (by decide) 3
  have w14 : dt6 12 3 = dt 12 3 := hF8 12 (by decide) 3
  have w15 : dt6 14 3 = dt 14 3 := hF8 14 (by decide) 3
  have w16 : dt6 16 3 = dt 16 3 := hF8 16 (by decide) 3
  have w17 : dt6 18 0 = dt 18 0 := hF8 18 (by decide) 0
  have w18 : dt6 24 3 = dt 24 3 := hF8 24 (by decide) 3
  have w19 : dt6 27 3 = dt 27 3 := hF8 27 (by decide) 3
  have w20 : dt6 29 3 = dt 29 3 := hF8 29 (by decide) 3
  have w21 : dt6 31 3 = dt 31 3 := hF8 31 (by decide) 3
  have w22 : dt6 33 3 = dt 33 3 := hF8 33 (by decide) 3
  have w23 : dt6 0 2 = dt 0 2 := hF8 0 (by decide) 2
  have w24 : dt6 35 1 = dt 35 1 := hF8 35 (by decide) 1
  have w25 : dt6 35 2 = dt 35 2 := hF8 35 (by decide) 2
  have w26 : dt6 35 3 = dt 35 3 := hF8 35 (by decide) 3
  have w27 : dt6 80 0 = dt 80 0 := hF8 80 (by decide) 0
  have w28 : dt6 80 1 = dt 80 1 := hF8 80 (by decide) 1
  have w29 : dt6 80 2 = dt 80 2 := hF8 80 (by decide) 2
  have w30 : dt6 80 3 = dt 80 3 := hF8 80 (by decide) 3
  have w31 : dt6 80 4 = dt 80 4 := hF8 80 (by decide) 4
  have w32 : dt6 80 5 = dt 80 5 := hF8 80 (by decide) 5
  have w33 : dt6 81 0 = dt 81 0 := hF8 81 (by decide) 0
  have w34 : dt6 81 1 = dt 81 1 := hF8 81 (by decide) 1
  have w35 : dt6 81 2 = dt 81 2 := hF8 81 (by decide) 2
  have w36 : dt6 81 3 = dt 81 3 := hF8 81 (by decide) 3
  have w37 : dt6 81 4 = dt 81 4 := hF8 81 (by decide) 4
  have w38 : dt6 81 5 = dt 81 5 := hF8 81 (by decide) 5
  have w39 : dt6 79 2 = dt 79 2 := hF8 79 (by decide) 2
  have w40 : dt6 79 12 = dt 79 12 := hF8 79 (by decide) 12
  have w41 : dt6 79 19 = dt 79 19 := hF8 79 (by decide) 19
  have w42 : dt6 79 21 = dt 79 21 := hF8 79 (by decide) 21
  rcases h5 with ⟨v_h5, rfl, h5r, h5⟩
  have M243 : MW (dt6 81) := MW_frk hM2 hF8 (by decide)
  have C44 : ∀ j : Nat, dt6 2 j = dt 2 j := fun j => (hF8 2 (by decide) j).trans ((fun _ => rfl) j)
  have C45 : ∀ j : Nat, dt6 3 j = dt 3 j := fun j => (hF8 3 (by decide) j).trans ((fun _ => rfl) j)
  have C46 : ∀ j : Nat, dt6 4 j = dt 4 j := fun j => (hF8 4 (by decide) j).trans ((fun _ => rfl) j)
  have C47 : ∀ j : Nat, dt6 5 j = dt 5 j := fun j => (hF8 5 (by decide) j).trans ((fun _ => rfl) j)
  have C48 : ∀ j : Nat, dt6 6 j = dt 6 j := fun j => (hF8 6 (by decide) j).trans ((fun _ => rfl) j)
  have C49 : ∀ j : Nat, dt6 8 j = dt 8 j := fun j => (hF8 8 (by decide) j).trans ((fun _ => rfl) j)
  have C50 : ∀ j : Nat, dt6 9 j = dt 9 j := fun j => (hF8 9 (by decide) j).trans ((fun _ => rfl) j)
  have C51 : ∀ j : Nat, dt6 11 j = dt 11 j := fun j => (hF8 11 (by decide) j).trans ((fun _ => rfl) j)
  have C52 : ∀ j : Nat, dt6 19 j = dt 19 j := fun j => (hF8 19 (by decide) j).trans ((fun _ => rfl) j)
  have C53 : ∀ j : Nat, dt6 20 j = dt 20 j := fun j => (hF8 20 (by decide) j).trans ((fun _ => rfl) j)
  have C54 : ∀ j : Nat, dt6 21 j = dt 21 j := fun j => (hF8 21 (by decide) j).trans ((fun _ => rfl) j)
  have C55 : ∀ j : Nat, dt6 22 j = dt 22 j := fun j => (hF8 22 (by decide) j).trans ((fun _ => rfl) j)
  have C56 : ∀ j : Nat, dt6 23 j = dt 23 j := fun j => (hF8 23 (by decide) j).trans ((fun _ => rfl) j)
  have C57 : ∀ j : Nat, dt6 25 j = dt 25 j := fun j => (hF8 25 (by decide) j).trans ((fun _ => rfl) j)
  have C58 : ∀ j : Nat, dt6 26 j = dt 26 j := fun j => (hF8 26 (by decide) j).trans ((fun _ => rfl) j)
  have C59 : ∀ j : Nat, dt6 28 j = dt 28 j := fun j => (hF8 28 (by decide) j).trans ((fun _ => rfl) j)
  have C60 : ∀ j : Nat, dt6 36 j = dt 36 j := fun j => (hF8 36 (by decide) j).trans ((fun _ => rfl) j)
  have C61 : ∀ j : Nat, dt6 80 j = dt 80 j := fun j => (hF8 80 (by decide) j).trans ((fun _ => rfl) j)
  have C62 : ∀ j : Nat, dt6 81 j = dt 81 j := fun j => (hF8 81 (by decide) j).trans ((fun _ => rfl) j)
  have C63 : ∀ j : Nat, dt6 85 j = dt 85 j := fun j => (hF8 85 (by decide) j).trans ((fun _ => rfl) j)
  refine go_toq PM267 (k := 6) (pc' := 428) (L' := [some (.inr (.inr (some 3000))), some (.inr (.inr (some 0))), some (.inr (.inr (some 79))), some (.inl i)]) (st' := [.inl (i + 1), .inr (.inr (some 3000)), .inr (.inr (some 79))]) (w' := (SH, dt6)) rfl ?_
  have r64 := i32_R (xs ((i + 1).toNat))
  refine go_smpq PM267 (L' := [some (.inr (.inr (some 3000))), some (.inr (.inr (some 0))), some (.inr (.inr (some 79))), some (.inl i)]) (st' := [.inl ((xs ((i + 1).toNat)).toInt), .inr (.inr (some 79))]) (w' := (SH, dt6)) rfl rfl (s_iald (n := L) (f := fun j => (xs j).toInt) (am_scr hLL) ⟨by omega, by omega⟩) ?_
  refine go_toq PM267 (k := 4) (pc' := 433) (L' := [some (.inr (.inr (some 3000))), some (.inr (.inr (some 0))), some (.inr (.inr (some 79))), some (.inl i)]) (st' := [.inl (i + 2), .inr (.inr (some 3000)), .inl ((xs ((i + 1).toNat)).toInt), .inr (.inr (some 79))]) (w' := (SH, dt6)) rfl ?_
  have r65 := i32_R (xs ((i + 2).toNat))
  refine go_smpq PM267 (L' := [some (.inr (.inr (some 3000))), some (.inr (.inr (some 0))), some (.inr (.inr (some 79))), some (.inl i)]) (st' := [.inl ((xs ((i + 2).toNat)).toInt), .inl ((xs ((i + 1).toNat)).toInt), .inr (.inr (some 79))]) (w' := (SH, dt6)) rfl rfl (s_iald (n := L) (f := fun j => (xs j).toInt) (am_scr hLL) ⟨by omega, by omega⟩) ?_
  refine go_toq PM267 (k := 4) (pc' := 438) (L' := [some (.inr (.inr (some 3000))), some (.inr (.inr (some 0))), some (.inr (.inr (some 79))), some (.inl i)]) (st' := [.inl (i + 3), .inr (.inr (some 3000)), .inl ((xs ((i + 2).toNat)).toInt), .inl ((xs ((i + 1).toNat)).toInt), .inr (.inr (some 79))]) (w' := (SH, dt6)) rfl ?_
  have r66 := i32_R (xs ((i + 3).toNat))
  refine go_smpq PM267 (L' := [some (.inr (.inr (some 3000))), some (.inr (.inr (some 0))), some (.inr (.inr (some 79))), some (.inl i)]) (st' := [.inl ((xs ((i + 3).toNat)).toInt), .inl ((xs ((i + 2).toNat)).toInt), .inl ((xs ((i + 1).toNat)).toInt), .inr (.inr (some 79))]) (w' := (SH, dt6)) rfl rfl (s_iald (n := L) (f := fun j => (xs j).toInt) (am_scr hLL) ⟨by omega, by omega⟩) ?_
  refine go_toq PM267 (k := 4) (pc' := 443) (L' := [some (.inr (.inr (some 3000))), some (.inr (.inr (some 0))), some (.inr (.inr (some 79))), some (.inl i)]) (st' := [.inl (i + 4), .inr (.inr (some 3000)), .inl ((xs ((i + 3).toNat)).toInt), .inl ((xs ((i + 2).toNat)).toInt), .inl ((xs ((i + 1).toNat)).toInt), .inr (.inr (some 79))]) (w' := (SH, dt6)) rfl ?_
  have r67 := i32_R (xs ((i + 4).toNat))
  refine go_smpq PM267 (L' := [some (.inr (.inr (some 3000))), some (.inr (.inr (some 0))), some (.inr (.inr (some 79))), some (.inl i)]) (st' := [.inl ((xs ((i + 4).toNat)).toInt), .inl ((xs ((i + 3).toNat)).toInt), .inl ((xs ((i + 2).toNat)).toInt), .inl ((xs ((i + 1).toNat)).toInt), .inr (.inr (some 79))]) (w' := (SH, dt6)) rfl rfl (s_iald (n := L) (f := fun j => (xs j).toInt) (am_scr hLL) ⟨by omega, by omega⟩) ?_
  refine go_callq PM267 PM189 (Q' := _) rfl rfl rfl rfl (sp_X6_thinks L xs sio (d + 33) dt6 hI7 hM10  ((xs ((i + 1).toNat)).toInt) ⟨by omega, by omega⟩ ((xs ((i + 2).toNat)).toInt) ⟨by omega, by omega⟩ ((xs ((i + 3).toNat)).toInt) ⟨by omega, by omega⟩ ((xs ((i + 4).toNat)).toInt) ⟨by omega, by omega⟩ ) ?_
  rintro _ _ ⟨dt69, rfl, hI70, hF71, h68⟩
  refine ⟨rfl, ?_⟩
  have hF72 : Fr [0, 1, 2, 3, 4, 5, 6, 7, 8, 9, 10, 11, 12, 13, 14, 15, 16, 17, 18, 19, 20, 21, 22, 23, 24, 25, 26, 27, 28, 29, 30, 31, 32, 33, 34, 35, 36, 37, 38, 39, 40, 41, 42, 43, 44, 45, 46, 47, 48, 49, 50, 51, 52, 53, 54, 55, 56, 57, 58, 59, 60, 61, 62, 63, 64, 65, 66, 67, 68, 69, 70, 71, 72, 73, 74, 75, 76, 77, 78, 79, 80, 81, 82, 83, 84, 85, 86, 87, 88, 89, 90, 91, 92, 93, 94, 95, 96, 97, 98, 99, 100, 101, 102, 103, 104] dt dt69 := Fr_tr hF9 hF71 (by decide)
  have hM73 : MW (dt69 80) := MW_fr hM10 hF71 (by decide)
  have w74 : dt69 1 0 = dt 1 0 := (hF71 1 (by decide) 0).trans w11
  have w75 : dt69 7 3 = dt 7 3 := (hF71 7 (by decide) 3).trans w12
  have w76 : dt69 10 3 = dt 10 3 := (hF71 10 (by decide) 3).trans w13
  have w77 : dt69 12 3 = dt 12 3 := (hF71 12 (by decide) 3).trans w14
  have w78 : dt69 14 3 = dt 14 3 := (hF71 14 (by decide) 3).trans w15
  have w79 : dt69 16 3 = dt 16 3 := (hF71 16 (by decide) 3).trans w16
  have w80 : dt69 18 0 = dt 18 0 := (hF71 18 (by decide) 0).trans w17
  have w81 : dt69 24 3 = dt 24 3 := (hF71 24 (by decide) 3).trans w18
  have w82 : dt69 27 3 = dt 27 3 := (hF71 27 (by decide) 3).trans w19
  have w83 : dt69 29 3 = dt 29 3 := (hF71 29 (by decide) 3).trans w20
  have w84 : dt69 31 3 = dt 31 3 := (hF71 31 (by decide) 3).trans w21
  have w85 : dt69 33 3 = dt 33 3 := (hF71 33 (by decide) 3).trans w22
  have w86 : dt69 0 2 = dt 0 2 := (hF71 0 (by decide) 2).trans w23
  have w87 : dt69 35 1 = dt 35 1 := (hF71 35 (by decide) 1).trans w24
  have w88 : dt69 35 2 = dt 35 2 := (hF71 35 (by decide) 2).trans w25
  have w89 : dt69 35 3 = dt 35 3 := (hF71 35 (by decide) 3).trans w26
  have w90 : dt69 80 0 = dt 80 0 := (hF71 80 (by decide) 0).trans w27
  have w91 : dt69 80 1 = dt 80 1 := (hF71 80 (by decide) 1).trans w28
  have w92 : dt69 80 2 = dt 80 2 := (hF71 80 (by decide) 2).trans w29
  have w93 : dt69 80 3 = dt 80 3 := (hF71 80 (by decide) 3).trans w30
  have w94 : dt69 80 4 = dt 80 4 := (hF71 80 (by decide) 4).trans w31
  have w95 : dt69 80 5 = dt 80 5 := (hF71 80 (by decide) 5).trans w32
  have w96 : dt69 81 0 = dt 81 0 := (hF71 81 (by decide) 0).trans w33
  have w97 : dt69 81 1 = dt 81 1 := (hF71 81 (by decide) 1).trans w34
  have w98 : dt69 81 2 = dt 81 2 := (hF71 81 (by decide) 2).trans w35
  have w99 : dt69 81 3 = dt 81 3 := (hF71 81 (by decide) 3).trans w36
  have w100 : dt69 81 4 = dt 81 4 := (hF71 81 (by decide) 4).trans w37
  have w101 : dt69 81 5 = dt 81 5 := (hF71 81 (by decide) 5).trans w38
  have w102 : dt69 79 2 = dt 79 2 := (hF71 79 (by decide) 2).trans w39
  have w103 : dt69 79 12 = dt 79 12 := (hF71 79 (by decide) 12).trans w40
  have w104 : dt69 79 19 = dt 79 19 := (hF71 79 (by decide) 19).trans w41
  have w105 : dt69 79 21 = dt 79 21 := (hF71 79 (by decide) 21).trans w42
  rcases h68 with ⟨v_h68, rfl, h68r, h68⟩
  have M2106 : MW (dt69 81) := MW_frk M243 hF71 (by decide)
  have C107 : ∀ j : Nat, dt69 2 j = dt 2 j := fun j => (hF71 2 (by decide) j).trans (C44 j)
  have C108 : ∀ j : Nat, dt69 3 j = dt 3 j := fun j => (hF71 3 (by decide) j).trans (C45 j)
  have C109 : ∀ j : Nat, dt69 4 j = dt 4 j := fun j => (hF71 4 (by decide) j).trans (C46 j)
  have C110 : ∀ j : Nat, dt69 5 j = dt 5 j := fun j => (hF71 5 (by decide) j).trans (C47 j)
  have C111 : ∀ j : Nat, dt69 6 j = dt 6 j := fun j => (hF71 6 (by decide) j).trans (C48 j)
  have C112 : ∀ j : Nat, dt69 8 j = dt 8 j := fun j => (hF71 8 (by decide) j).trans (C49 j)
  have C113 : ∀ j : Nat, dt69 9 j = dt 9 j := fun j => (hF71 9 (by decide) j).trans (C50 j)
  have C114 : ∀ j : Nat, dt69 11 j = dt 11 j := fun j => (hF71 11 (by decide) j).trans (C51 j)
  have C115 : ∀ j : Nat, dt69 19 j = dt 19 j := fun j => (hF71 19 (by decide) j).trans (C52 j)
  have C116 : ∀ j : Nat, dt69 20 j = dt 20 j := fun j => (hF71 20 (by decide) j).trans (C53 j)
  have C117 : ∀ j : Nat, dt69 21 j = dt 21 j := fun j => (hF71 21 (by decide) j).trans (C54 j)
  have C118 : ∀ j : Nat, dt69 22 j = dt 22 j := fun j => (hF71 22 (by decide) j).trans (C55 j)
  have C119 : ∀ j : Nat, dt69 23 j = dt 23 j := fun j => (hF71 23 (by decide) j).trans (C56 j)
  have C120 : ∀ j : Nat, dt69 25 j = dt 25 j := fun j => (hF71 25 (by decide) j).trans (C57 j)
  have C121 : ∀ j : Nat, dt69 26 j = dt 26 j := fun j => (hF71 26 (by decide) j).trans (C58 j)
  have C122 : ∀ j : Nat, dt69 28 j = dt 28 j := fun j => (hF71 28 (by decide) j).trans (C59 j)
  have C123 : ∀ j : Nat, dt69 36 j = dt 36 j := fun j => (hF71 36 (by decide) j).trans (C60 j)
  have C124 : ∀ j : Nat, dt69 80 j = dt 80 j := fun j => (hF71 80 (by decide) j).trans (C61 j)
  have C125 : ∀ j : Nat, dt69 81 j = dt 81 j := fun j => (hF71 81 (by decide) j).trans (C62 j)
  have C126 : ∀ j : Nat, dt69 85 j = dt 85 j := fun j => (hF71 85 (by decide) j).trans (C63 j)
  refine go_toq PM267 (k := 2) (pc' := 1435) (L' := [some (.inr (.inr (some 3000))), some (.inr (.inr (some 0))), some (.inr (.inr (some 79))), some (.inl i)]) (st' := []) (w' := (SH, dt69)) rfl ?_
  exact K dt69 hI70 hM73 M2106 (w74.trans (hk0.trans w90.symm)) (w75.trans (hk1.trans w91.symm)) (w76.trans (hk2.trans w92.symm)) (w77.trans (hk3.trans w93.symm)) (w78.trans (hk4.trans w94.symm)) (w79.trans (hk5.trans w95.symm)) (w80.trans (hk6.trans w96.symm)) (w81.trans (hk7.trans w97.symm)) (w82.trans (hk8.trans w98.symm)) (w83.trans (hk9.trans w99.symm)) (w84.trans (hk10.trans w100.symm)) (w85.trans (hk11.trans w101.symm)) (w86.trans (hk12.trans w102.symm)) (w87.trans (hk13.trans w103.symm)) (w88.trans (hk14.trans w104.symm)) (w89.trans (hk15.trans w105.symm)) (by first | exact hI | exact TPL_k hd0 C123 C126 (by omega) | (exfalso; omega)) (by first | exact hI | exact SCL_k hd1 hM (fun j _ => C107 j) (fun j _ => C108 j) (fun j _ _ => C124 j) | (exfalso; omega)) (by first | exact hI | exact SCL_k hd2 hM2 (fun j _ => C115 j) (fun j _ => C116 j) (fun j _ _ => C125 j) | (exfalso; omega)) (by first | exact hI | exact QRL_k hd3 hM (fun j _ => C112 j) (C124 1) (fun j _ _ => C124 j) | (exfalso; omega)) (by first | exact hI | exact QRL_k hd4 hM2 (fun j _ => C120 j) (C125 1) (fun j _ _ => C125 j) | (exfalso; omega)) (by first | exact hI | exact SDL_k hd5 hM (fun j _ => C113 j) (C124 1) (fun j _ _ => C124 j) (fun j _ _ => C124 j) | (exfalso; omega)) (by first | exact hI | exact SDL_k hd6 hM2 (fun j _ => C121 j) (C125 1) (fun j _ _ => C125 j) (fun j _ _ => C125 j) | (exfalso; omega)) (by first | exact hI | exact LWL_k hd7 hM (fun j _ => C109 j) (fun j _ => C110 j) (fun j _ => C111 j) (fun j _ _ => C124 j) | (exfalso; omega)) (by first | exact hI | exact LWL_k hd8 hM2 (fun j _ => C117 j) (fun j _ => C118 j) (fun j _ => C119 j) (fun j _ _ => C125 j) | (exfalso; omega)) (by first | exact hI | exact CHL_k hd9 hM (fun j _ => C114 j) (by omega) (fun j _ _ => C124 j) | (exfalso; omega)) (by first | exact hI | exact CHL_k hd10 hM2 (fun j _ => C122 j) (by omega) (fun j _ _ => C125 j) | (exfalso; omega))
set_option maxRecDepth 20000 in
set_option maxHeartbeats 8000000 in
theorem sp_case7 (L : Nat) (xs : Nat → Int32) (sio : Option Nat) (d : Nat) (Q : Option AV → am_W → Prop) (hLL : L ≤ 3072) (i : Int) (hi : 0 ≤ i ∧ i ≤ 3066) (hil : i ≤ (L : Int) - 6) (dt : Nat → Nat → Int) (hI : InvC dt) (hM : MW (dt 80)) (hM2 : MW (dt 81)) (hk0 : dt 1 0 = dt 80 0) (hk1 : dt 7 3 = dt 80 1) (hk2 : dt 10 3 = dt 80 2) (hk3 : dt 12 3 = dt 80 3) (hk4 : dt 14 3 = dt 80 4) (hk5 : dt 16 3 = dt 80 5) (hk6 : dt 18 0 = dt 81 0) (hk7 : dt 24 3 = dt 81 1) (hk8 : dt 27 3 = dt 81 2) (hk9 : dt 29 3 = dt 81 3) (hk10 : dt 31 3 = dt 81 4) (hk11 : dt 33 3 = dt 81 5) (hk12 : dt 0 2 = dt 79 2) (hk13 : dt 35 1 = dt 79 12) (hk14 : dt 35 2 = dt 79 19) (hk15 : dt 35 3 = dt 79 21) (hd0 : TPL (dt 36) (dt 85) (dt 35 1)) (hd1 : SCL (dt 2) (dt 3) (dt 80)) (hd2 : SCL (dt 19) (dt 20) (dt 81)) (hd3 : QRL (dt 8) (dt 80)) (hd4 : QRL (dt 25) (dt 81)) (hd5 : SDL (dt 9) (dt 80)) (hd6 : SDL (dt 26) (dt 81)) (hd7 : LWL (dt 4) (dt 5) (dt 6) (dt 80)) (hd8 : LWL (dt 21) (dt 22) (dt 23) (dt 81)) (hd9 : CHL (dt 11) (dt 80)) (hd10 : CHL (dt 28) (dt 81)) (K : ∀ (dt : Nat → Nat → Int) (hI : InvC dt) (hM : MW (dt 80)) (hM2 : MW (dt 81)) (hk0 : dt 1 0 = dt 80 0) (hk1 : dt 7 3 = dt 80 1) (hk2 : dt 10 3 = dt 80 2) (hk3 : dt 12 3 = dt 80 3) (hk4 : dt 14 3 = dt 80 4) (hk5 : dt 16 3 = dt 80 5) (hk6 : dt 18 0 = dt 81 0) (hk7 : dt 24 3 = dt 81 1) (hk8 : dt 27 3 = dt 81 2) (hk9 : dt 29 3 = dt 81 3) (hk10 : dt 31 3 = dt 81 4) (hk11 : dt 33 3 = dt 81 5) (hk12 : dt 0 2 = dt 79 2) (hk13 : dt 35 1 = dt 79 12) (hk14 : dt 35 2 = dt 79 19) (hk15 : dt 35 3 = dt 79 21) (hd0 : TPL (dt 36) (dt 85) (dt 35 1)) (hd1 : SCL (dt 2) (dt 3) (dt 80)) (hd2 : SCL (dt 19) (dt 20) (dt 81)) (hd3 : QRL (dt 8) (dt 80)) (hd4 : QRL (dt 25) (dt 81)) (hd5 : SDL (dt 9) (dt 80)) (hd6 : SDL (dt 26) (dt 81)) (hd7 : LWL (dt 4) (dt 5) (dt 6) (dt 80)) (hd8 : LWL (dt 21) (dt 22) (dt 23) (dt 81)) (hd9 : CHL (dt 11) (dt 80)) (hd10 : CHL (dt 28) (dt 81)), GO (am_XX L xs sio) (d + 39) 267 1435 [some (.inr (.inr (some 3000))), some (.inr (.inr (some 0))), some (.inr (.inr (some 79))), some (.inl i)] [] (SH, dt) Q) : GO (am_XX L xs sio) (d + 39) 267 451 [some (.inr (.inr (some 3000))), some (.inr (.inr (some 0))), some (.inr (.inr (some 79))), some (.inl i)] [] (SH, dt) Q := by
  have hF : Fr [0, 1, 2, 3, 4, 5, 6, 7, 8, 9, 10, 11, 12, 13, 14, 15, 16, 17, 18, 19, 20, 21, 22, 23, 24, 25, 26, 27, 28, 29, 30, 31, 32, 33, 34, 35, 36, 37, 38, 39, 40, 41, 42, 43, 44, 45, 46, 47, 48, 49, 50, 51, 52, 53, 54, 55, 56, 57, 58, 59, 60, 61, 62, 63, 64, 65, 66, 67, 68, 69, 70, 71, 72, 73, 74, 75, 76, 77, 78, 79, 80, 81, 82, 83, 84, 85, 86, 87, 88, 89, 90, 91, 92, 93, 94, 95, 96, 97, 98, 99, 100, 101, 102, 103, 104] dt dt := Fr_refl
  have hqo := QOC_R hd3 hM hk1
  have hb1_ := hM.1.1
  have hb2_ := hM.1.2.1
  have hb3_ := hM.1.2.2.1
  have halk : ALK dt (dt 80) := ⟨hd7, hd3, hd5, hd9, hk1, hk2⟩
  refine go_toq PM267 (k := 5) (pc' := 456) (L' := [some (.inr (.inr (some 3000))), some (.inr (.inr (some 0))), some (.inr (.inr (some 79))), some (.inl i)]) (st' := [.inl (i + 1), .inr (.inr (some 3000)), .inr (.inr (some 0))]) (w' := (SH, dt)) rfl ?_
  have r1 := i32_R (xs ((i + 1).toNat))
  refine go_smpq PM267 (L' := [some (.inr (.inr (some 3000))), some (.inr (.inr (some 0))), some (.inr (.inr (some 79))), some (.inl i)]) (st' := [.inl ((xs ((i + 1).toNat)).toInt), .inr (.inr (some 0))]) (w' := (SH, dt)) rfl rfl (s_iald (n := L) (f := fun j => (xs j).toInt) (am_scr hLL) ⟨by omega, by omega⟩) ?_
  refine go_toq PM267 (k := 4) (pc' := 461) (L' := [some (.inr (.inr (some 3000))), some (.inr (.inr (some 0))), some (.inr (.inr (some 79))), some (.inl i)]) (st' := [.inl (i + 2), .inr (.inr (some 3000)), .inl ((xs ((i + 1).toNat)).toInt), .inr (.inr (some 0))]) (w' := (SH, dt)) rfl ?_
  have r2 := i32_R (xs ((i + 2).toNat))
  refine go_smpq PM267 (L' := [some (.inr (.inr (some 3000))), some (.inr (.inr (some 0))), some (.inr (.inr (some 79))), some (.inl i)]) (st' := [.inl ((xs ((i + 2).toNat)).toInt), .inl ((xs ((i + 1).toNat)).toInt), .inr (.inr (some 0))]) (w' := (SH, dt)) rfl rfl (s_iald (n := L) (f := fun j => (xs j).toInt) (am_scr hLL) ⟨by omega, by omega⟩) ?_
  refine go_toq PM267 (k := 4) (pc' := 466) (L' := [some (.inr (.inr (some 3000))), some (.inr (.inr (some 0))), some (.inr (.inr (some 79))), some (.inl i)]) (st' := [.inl (i + 3), .inr (.inr (some 3000)), .inl ((xs ((i + 2).toNat)).toInt), .inl ((xs ((i + 1).toNat)).toInt), .inr (.inr (some 0))]) (w' := (SH, dt)) rfl ?_
  have r3 := i32_R (xs ((i + 3).toNat))
  refine go_smpq PM267 (L' := [some (.inr (.inr (some 3000))), some (.inr (.inr (some 0))), some (.inr (.inr (some 79))), some (.inl i)]) (st' := [.inl ((xs ((i + 3).toNat)).toInt), .inl ((xs ((i + 2).toNat)).toInt), .inl ((xs ((i + 1).toNat)).toInt), .inr (.inr (some 0))]) (w' := (SH, dt)) rfl rfl (s_iald (n := L) (f := fun j => (xs j).toInt) (am_scr hLL) ⟨by omega, by omega⟩) ?_
  refine go_callq PM267 PM74 (Q' := _) rfl rfl rfl rfl (sp_X5_here L xs sio (d + 33) dt hI  ((xs ((i + 1).toNat)).toInt) ⟨by omega, by omega⟩ ((xs ((i + 2).toNat)).toInt) ⟨by omega, by omega⟩ ((xs ((i + 3).toNat)).toInt) ⟨by omega, by omega⟩ ) ?_
  rintro _ _ ⟨dt5, rfl, hI6, hF7, h4⟩
  refine ⟨rfl, ?_⟩
  have hF8 : Fr [0, 1, 2, 3, 4, 5, 6, 7, 8, 9, 10, 11, 12, 13, 14, 15, 16, 17, 18, 19, 20, 21, 22, 23, 24, 25, 26, 27, 28, 29, 30, 31, 32, 33, 34, 35, 36, 37, 38, 39, 40, 41, 42, 43, 44, 45, 46, 47, 48, 49, 50, 51, 52, 53, 54, 55, 56, 57, 58, 59, 60, 61, 62, 63, 64, 65, 66, 67, 68, 69, 70, 71, 72, 73, 74, 75, 76, 77, 78, 79, 80, 81, 82, 83, 84, 85, 86, 87, 88, 89, 90, 91, 92, 93, 94, 95, 96, 97, 98, 99, 100, 101, 102, 103, 104] dt dt5 := Fr_tr hF hF7 (by decide)
  have hM9 : MW (dt5 80) := MW_fr hM hF7 (by decide)
  have w10 : dt5 1 0 = dt 1 0 := hF7 1 (by decide) 0
  have w11 : dt5 7 3 = dt 7 3 := hF7 7 (by decide) 3
  have w12 : dt5 10 3 = dt 10 3 := hF7 10 (by decide) 3
  have w13 : dt5 12 3 = dt 12 3 := hF7 12 (by decide) 3
  have w14 : dt5 14 3 = dt 14 3 := hF7 14 (by decide) 3
  have w15 : dt5 16 3 = dt 16 3 := hF7 16 (by decide) 3
  have w16 : dt5 18 0 = dt 18 0 := hF7 18 (by decide) 0
  have w17 : dt5 24 3 = dt 24 3 := hF7 24 (by decide) 3
  have w18 : dt5 27 3 = dt 27 3 := hF7 27 (by decide) 3
  have w19 : dt5 29 3 = dt 29 3 := hF7 29 (by decide) 3
  have w20 : dt5 31 3 = dt 31 3 := hF7 31 (by decide) 3
  have w21 : dt5 33 3 = dt 33 3 := hF7 33 (by decide) 3
  have w22 : dt5 0 2 = dt 0 2 := hF7 0 (by decide) 2
  have w23 : dt5 35 1 = dt 35 1 := hF7 35 (by decide) 1
  have w24 : dt5 35 2 = dt 35 2 := hF7 35 (by decide) 2
  have w25 : dt5 35 3 = dt 35 3 := hF7 35 (by decide) 3
  have w26 : dt5 80 0 = dt 80 0 := hF7 80 (by decide) 0
  have w27 : dt5 80 1 = dt 80 1 := hF7 80 (by decide) 1
  have w28 : dt5 80 2 = dt 80 2 := hF7 80 (by decide) 2
  have w29 : dt5 80 3 = dt 80 3 := hF7 80 (by decide) 3
  have w30 : dt5 80 4 = dt 80 4 := hF7 80 (by decide) 4
  have w31 : dt5 80 5 = dt 80 5 := hF7 80 (by decide) 5
  have w32 : dt5 81 0 = dt 81 0 := hF7 81 (by decide) 0
  have w33 : dt5 81 1 = dt 81 1 := hF7 81 (by decide) 1
  have w34 : dt5 81 2 = dt 81 2 := hF7 81 (by decide) 2
  have w35 : dt5 81 3 = dt 81 3 := hF7 81 (by decide) 3
  have w36 : dt5 81 4 = dt 81 4 := hF7 81 (by decide) 4
  have w37 : dt5 81 5 = dt 81 5 := hF7 81 (by decide) 5
  have w38 : dt5 79 2 = dt 79 2 := hF7 79 (by decide) 2
  have w39 : dt5 79 12 = dt 79 12 := hF7 79 (by decide) 12
  have w40 : dt5 79 19 = dt 79 19 := hF7 79 (by decide) 19
  have w41 : dt5 79 21 = dt 79 21 := hF7 79 (by decide) 21
  rcases h4 with ⟨v_h4, rfl, h4r, h4⟩
  have M242 : MW (dt5 81) := MW_frk hM2 hF7 (by decide)
  have C43 : ∀ j : Nat, dt5 2 j = dt 2 j := fun j => (hF7 2 (by decide) j).trans ((fun _ => rfl) j)
  have C44 : ∀ j : Nat, dt5 3 j = dt 3 j := fun j => (hF7 3 (by decide) j).trans ((fun _ => rfl) j)
  have C45 : ∀ j : Nat, dt5 4 j = dt 4 j := fun j => (hF7 4 (by decide) j).trans ((fun _ => rfl) j)
  have C46 : ∀ j : Nat, dt5 5 j = dt 5 j := fun j => (hF7 5 (by decide) j).trans ((fun _ => rfl) j)
  have C47 : ∀ j : Nat, dt5 6 j = dt 6 j := fun j => (hF7 6 (by decide) j).trans ((fun _ => rfl) j)
  have C48 : ∀ j : Nat, dt5 8 j = dt 8 j := fun j => (hF7 8 (by decide) j).trans ((fun _ => rfl) j)
  have C49 : ∀ j : Nat, dt5 9 j = dt 9 j := fun j => (hF7 9 (by decide) j).trans ((fun _ => rfl) j)
  have C50 : ∀ j : Nat, dt5 11 j = dt 11 j := fun j => (hF7 11 (by decide) j).trans ((fun _ => rfl) j)
  have C51 : ∀ j : Nat, dt5 19 j = dt 19 j := fun j => (hF7 19 (by decide) j).trans ((fun _ => rfl) j)
  have C52 : ∀ j : Nat, dt5 20 j = dt 20 j := fun j => (hF7 20 (by decide) j).trans ((fun _ => rfl) j)
  have C53 : ∀ j : Nat, dt5 21 j = dt 21 j := fun j => (hF7 21 (by decide) j).trans ((fun _ => rfl) j)
  have C54 : ∀ j : Nat, dt5 22 j = dt 22 j := fun j => (hF7 22 (by decide) j).trans ((fun _ => rfl) j)
  have C55 : ∀ j : Nat, dt5 23 j = dt 23 j := fun j => (hF7 23 (by decide) j).trans ((fun _ => rfl) j)
  have C56 : ∀ j : Nat, dt5 25 j = dt 25 j := fun j => (hF7 25 (by decide) j).trans ((fun _ => rfl) j)
  have C57 : ∀ j : Nat, dt5 26 j = dt 26 j := fun j => (hF7 26 (by decide) j).trans ((fun _ => rfl) j)
  have C58 : ∀ j : Nat, dt5 28 j = dt 28 j := fun j => (hF7 28 (by decide) j).trans ((fun _ => rfl) j)
  have C59 : ∀ j : Nat, dt5 36 j = dt 36 j := fun j => (hF7 36 (by decide) j).trans ((fun _ => rfl) j)
  have C60 : ∀ j : Nat, dt5 80 j = dt 80 j := fun j => (hF7 80 (by decide) j).trans ((fun _ => rfl) j)
  have C61 : ∀ j : Nat, dt5 81 j = dt 81 j := fun j => (hF7 81 (by decide) j).trans ((fun _ => rfl) j)
  have C62 : ∀ j : Nat, dt5 85 j = dt 85 j := fun j => (hF7 85 (by decide) j).trans ((fun _ => rfl) j)
  refine go_toq PM267 (k := 6) (pc' := 476) (L' := [some (.inr (.inr (some 3000))), some (.inr (.inr (some 0))), some (.inr (.inr (some 79))), some (.inl i)]) (st' := [.inl (i + 1), .inr (.inr (some 3000)), .inr (.inr (some 79))]) (w' := (SH, dt5)) rfl ?_
  have r63 := i32_R (xs ((i + 1).toNat))
  refine go_smpq PM267 (L' := [some (.inr (.inr (some 3000))), some (.inr (.inr (some 0))), some (.inr (.inr (some 79))), some (.inl i)]) (st' := [.inl ((xs ((i + 1).toNat)).toInt), .inr (.inr (some 79))]) (w' := (SH, dt5)) rfl rfl (s_iald (n := L) (f := fun j => (xs j).toInt) (am_scr hLL) ⟨by omega, by omega⟩) ?_
  refine go_toq PM267 (k := 4) (pc' := 481) (L' := [some (.inr (.inr (some 3000))), some (.inr (.inr (some 0))), some (.inr (.inr (some 79))), some (.inl i)]) (st' := [.inl (i + 2), .inr (.inr (some 3000)), .inl ((xs ((i + 1).toNat)).toInt), .inr (.inr (some 79))]) (w' := (SH, dt5)) rfl ?_
  have r64 := i32_R (xs ((i + 2).toNat))
  refine go_smpq PM267 (L' := [some (.inr (.inr (some 3000))), some (.inr (.inr (some 0))), some (.inr (.inr (some 79))), some (.inl i)]) (st' := [.inl ((xs ((i + 2).toNat)).toInt), .inl ((xs ((i + 1).toNat)).toInt), .inr (.inr (some 79))]) (w' := (SH, dt5)) rfl rfl (s_iald (n := L) (f := fun j => (xs j).toInt) (am_scr hLL) ⟨by omega, by omega⟩) ?_
  refine go_toq PM267 (k := 4) (pc' := 486) (L' := [some (.inr (.inr (some 3000))), some (.inr (.inr (some 0))), some (.inr (.inr (some 79))), some (.inl i)]) (st' := [.inl (i + 3), .inr (.inr (some 3000)), .inl ((xs ((i + 2).toNat)).toInt), .inl ((xs ((i + 1).toNat)).toInt), .inr (.inr (some 79))]) (w' := (SH, dt5)) rfl ?_
  have r65 := i32_R (xs ((i + 3).toNat))
  refine go_smpq PM267 (L' := [some (.inr (.inr (some 3000))), some (.inr (.inr (some 0))), some (.inr (.inr (some 79))), some (.inl i)]) (st' := [.inl ((xs ((i + 3).toNat)).toInt), .inl ((xs ((i + 2).toNat)).toInt), .inl ((xs ((i + 1).toNat)).toInt), .inr (.inr (some 79))]) (w' := (SH, dt5)) rfl rfl (s_iald (n := L) (f := fun j => (xs j).toInt) (am_scr hLL) ⟨by omega, by omega⟩) ?_
  refine go_callq PM267 PM190 (Q' := _) rfl rfl rfl rfl (sp_X6_here L xs sio (d + 33) dt5 hI6 hM9  ((xs ((i + 1).toNat)).toInt) ⟨by omega, by omega⟩ ((xs ((i + 2).toNat)).toInt) ⟨by omega, by omega⟩ ((xs ((i + 3).toNat)).toInt) ⟨by omega, by omega⟩ ) ?_
  rintro _ _ ⟨dt67, rfl, hI68, hF69, h66⟩
  refine ⟨rfl, ?_⟩
  have hF70 : Fr [0, 1, 2, 3, 4, 5, 6, 7, 8, 9, 10, 11, 12, 13, 14, 15, 16, 17, 18, 19, 20, 21, 22, 23, 24, 25, 26, 27, 28, 29, 30, 31, 32, 33, 34, 35, 36, 37, 38, 39, 40, 41, 42, 43, 44, 45, 46, 47, 48, 49, 50, 51, 52, 53, 54, 55, 56, 57, 58, 59, 60, 61, 62, 63, 64, 65, 66, 67, 68, 69, 70, 71, 72, 73, 74, 75, 76, 77, 78, 79, 80, 81, 82, 83, 84, 85, 86, 87, 88, 89, 90, 91, 92, 93, 94, 95, 96, 97, 98, 99, 100, 101, 102, 103, 104] dt dt67 := Fr_tr hF8 hF69 (by decide)
  have hM71 : MW (dt67 80) := MW_fr hM9 hF69 (by decide)
  have w72 : dt67 1 0 = dt 1 0 := (hF69 1 (by decide) 0).trans w10
  have w73 : dt67 7 3 = dt 7 3 := (hF69 7 (by decide) 3).trans w11
  have w74 : dt67 10 3 = dt 10 3 := (hF69 10 (by decide) 3).trans w12
  have w75 : dt67 12 3 = dt 12 3 := (hF69 12 (by decide) 3).trans w13
  have w76 : dt67 14 3 = dt 14 3 := (hF69 14 (by decide) 3).trans w14
  have w77 : dt67 16 3 = dt 16 3 := (hF69 16 (by decide) 3).trans w15
  have w78 : dt67 18 0 = dt 18 0 := (hF69 18 (by decide) 0).trans w16
  have w79 : dt67 24 3 = dt 24 3 := (hF69 24 (by decide) 3).trans w17
  have w80 : dt67 27 3 = dt 27 3 := (hF69 27 (by decide) 3).trans w18
  have w81 : dt67 29 3 = dt 29 3 := (hF69 29 (by decide) 3).trans w19
  have w82 : dt67 31 3 = dt 31 3 := (hF69 31 (by decide) 3).trans w20
  have w83 : dt67 33 3 = dt 33 3 := (hF69 33 (by decide) 3).trans w21
  have w84 : dt67 0 2 = dt 0 2 := (hF69 0 (by decide) 2).trans w22
  have w85 : dt67 35 1 = dt 35 1 := (hF69 35 (by decide) 1).trans w23
  have w86 : dt67 35 2 = dt 35 2 := (hF69 35 (by decide) 2).trans w24
  have w87 : dt67 35 3 = dt 35 3 := (hF69 35 (by decide) 3).trans w25
  have w88 : dt67 80 0 = dt 80 0 := (hF69 80 (by decide) 0).trans w26
  have w89 : dt67 80 1 = dt 80 1 := (hF69 80 (by decide) 1).trans w27
  have w90 : dt67 80 2 = dt 80 2 := (hF69 80 (by decide) 2).trans w28
  have w91 : dt67 80 3 = dt 80 3 := (hF69 80 (by decide) 3).trans w29
  have w92 : dt67 80 4 = dt 80 4 := (hF69 80 (by decide) 4).trans w30
  have w93 : dt67 80 5 = dt 80 5 := (hF69 80 (by decide) 5).trans w31
  have w94 : dt67 81 0 = dt 81 0 := (hF69 81 (by decide) 0).trans w32
  have w95 : dt67 81 1 = dt 81 1 := (hF69 81 (by decide) 1).trans w33
  have w96 : dt67 81 2 = dt 81 2 := (hF69 81 (by decide) 2).trans w34
  have w97 : dt67 81 3 = dt 81 3 := (hF69 81 (by decide) 3).trans w35
  have w98 : dt67 81 4 = dt 81 4 := (hF69 81 (by decide) 4).trans w36
  have w99 : dt67 81 5 = dt 81 5 := (hF69 81 (by decide) 5).trans w37
  have w100 : dt67 79 2 = dt 79 2 := (hF69 79 (by decide) 2).trans w38
  have w101 : dt67 79 12 = dt 79 12 := (hF69 79 (by decide) 12).trans w39
  have w102 : dt67 79 19 = dt 79 19 := (hF69 79 (by decide) 19).trans w40
  have w103 : dt67 79 21 = dt 79 21 := (hF69 79 (by decide) 21).trans w41
  rcases h66 with ⟨rfl, h66⟩ | ⟨rfl, h66⟩ | ⟨rfl, h66⟩
  · skip
    have M2104 : MW (dt67 81) := MW_frk M242 hF69 (by decide)
    have C105 : ∀ j : Nat, dt67 2 j = dt 2 j := fun j => (hF69 2 (by decide) j).trans (C43 j)
    have C106 : ∀ j : Nat, dt67 3 j = dt 3 j := fun j => (hF69 3 (by decide) j).trans (C44 j)
    have C107 : ∀ j : Nat, dt67 4 j = dt 4 j := fun j => (hF69 4 (by decide) j).trans (C45 j)
    have C108 : ∀ j : Nat, dt67 5 j = dt 5 j := fun j => (hF69 5 (by decide) j).trans (C46 j)
    have C109 : ∀ j : Nat, dt67 6 j = dt 6 j := fun j => (hF69 6 (by decide) j).trans (C47 j)
    have C110 : ∀ j : Nat, dt67 8 j = dt 8 j := fun j => (hF69 8 (by decide) j).trans (C48 j)
    have C111 : ∀ j : Nat, dt67 9 j = dt 9 j := fun j => (hF69 9 (by decide) j).trans (C49 j)
    have C112 : ∀ j : Nat, dt67 11 j = dt 11 j := fun j => (hF69 11 (by decide) j).trans (C50 j)
    have C113 : ∀ j : Nat, dt67 19 j = dt 19 j := fun j => (hF69 19 (by decide) j).trans (C51 j)
    have C114 : ∀ j : Nat, dt67 20 j = dt 20 j := fun j => (hF69 20 (by decide) j).trans (C52 j)
    have C115 : ∀ j : Nat, dt67 21 j = dt 21 j := fun j => (hF69 21 (by decide) j).trans (C53 j)
    have C116 : ∀ j : Nat, dt67 22 j = dt 22 j := fun j => (hF69 22 (by decide) j).trans (C54 j)
    have C117 : ∀ j : Nat, dt67 23 j = dt 23 j := fun j => (hF69 23 (by decide) j).trans (C55 j)
    have C118 : ∀ j : Nat, dt67 25 j = dt 25 j := fun j => (hF69 25 (by decide) j).trans (C56 j)
    have C119 : ∀ j : Nat, dt67 26 j = dt 26 j := fun j => (hF69 26 (by decide) j).trans (C57 j)
    have C120 : ∀ j : Nat, dt67 28 j = dt 28 j := fun j => (hF69 28 (by decide) j).trans (C58 j)
    have C121 : ∀ j : Nat, dt67 36 j = dt 36 j := fun j => (hF69 36 (by decide) j).trans (C59 j)
    have C122 : ∀ j : Nat, dt67 80 j = dt 80 j := fun j => (hF69 80 (by decide) j).trans (C60 j)
    have C123 : ∀ j : Nat, dt67 81 j = dt 81 j := fun j => (hF69 81 (by decide) j).trans (C61 j)
    have C124 : ∀ j : Nat, dt67 85 j = dt 85 j := fun j => (hF69 85 (by decide) j).trans (C62 j)
    refine go_toq PM267 (k := 2) (pc' := 1435) (L' := [some (.inr (.inr (some 3000))), some (.inr (.inr (some 0))), some (.inr (.inr (some 79))), some (.inl i)]) (st' := []) (w' := (SH, dt67)) rfl ?_
    exact K dt67 hI68 hM71 M2104 (w72.trans (hk0.trans w88.symm)) (w73.trans (hk1.trans w89.symm)) (w74.trans (hk2.trans w90.symm)) (w75.trans (hk3.trans w91.symm)) (w76.trans (hk4.trans w92.symm)) (w77.trans (hk5.trans w93.symm)) (w78.trans (hk6.trans w94.symm)) (w79.trans (hk7.trans w95.symm)) (w80.trans (hk8.trans w96.symm)) (w81.trans (hk9.trans w97.symm)) (w82.trans (hk10.trans w98.symm)) (w83.trans (hk11.trans w99.symm)) (w84.trans (hk12.trans w100.symm)) (w85.trans (hk13.trans w101.symm)) (w86.trans (hk14.trans w102.symm)) (w87.trans (hk15.trans w103.symm)) (by first | exact hI | exact TPL_k hd0 C121 C124 (by omega) | (exfalso; omega)) (by first | exact hI | exact SCL_k hd1 hM (fun j _ => C105 j) (fun j _ => C106 j) (fun j _ _ => C122 j) | (exfalso; omega)) (by first | exact hI | exact SCL_k hd2 hM2 (fun j _ => C113 j) (fun j _ => C114 j) (fun j _ _ => C123 j) | (exfalso; omega)) (by first | exact hI | exact QRL_k hd3 hM (fun j _ => C110 j) (C122 1) (fun j _ _ => C122 j) | (exfalso; omega)) (by first | exact hI | exact QRL_k hd4 hM2 (fun j _ => C118 j) (C123 1) (fun j _ _ => C123 j) | (exfalso; omega)) (by first | exact hI | exact SDL_k hd5 hM (fun j _ => C111 j) (C122 1) (fun j _ _ => C122 j) (fun j _ _ => C122 j) | (exfalso; omega)) (by first | exact hI | exact SDL_k hd6 hM2 (fun j _ => C119 j) (C123 1) (fun j _ _ => C123 j) (fun j _ _ => C123 j) | (exfalso; omega)) (by first | exact hI | exact LWL_k hd7 hM (fun j _ => C107 j) (fun j _ => C108 j) (fun j _ => C109 j) (fun j _ _ => C122 j) | (exfalso; omega)) (by first | exact hI | exact LWL_k hd8 hM2 (fun j _ => C115 j) (fun j _ => C116 j) (fun j _ => C117 j) (fun j _ _ => C123 j) | (exfalso; omega)) (by first | exact hI | exact CHL_k hd9 hM (fun j _ => C112 j) (by omega) (fun j _ _ => C122 j) | (exfalso; omega)) (by first | exact hI | exact CHL_k hd10 hM2 (fun j _ => C120 j) (by omega) (fun j _ _ => C123 j) | (exfalso; omega))
  · skip
    have M2125 : MW (dt67 81) := MW_frk M242 hF69 (by decide)
    have C126 : ∀ j : Nat, dt67 2 j = dt 2 j := fun j => (hF69 2 (by decide) j).trans (C43 j)
    have C127 : ∀ j : Nat, dt67 3 j = dt 3 j := fun j => (hF69 3 (by decide) j).trans (C44 j)
    have C128 : ∀ j : Nat, dt67 4 j = dt 4 j := fun j => (hF69 4 (by decide) j).trans (C45 j)
    have C129 : ∀ j : Nat, dt67 5 j = dt 5 j := fun j => (hF69 5 (by decide) j).trans (C46 j)
    have C130 : ∀ j : Nat, dt67 6 j = dt 6 j := fun j => (hF69 6 (by decide) j).trans (C47 j)
    have C131 : ∀ j : Nat, dt67 8 j = dt 8 j := fun j => (hF69 8 (by decide) j).trans (C48 j)
    have C132 : ∀ j : Nat, dt67 9 j = dt 9 j := fun j => (hF69 9 (by decide) j).trans (C49 j)
    have C133 : ∀ j : Nat, dt67 11 j = dt 11 j := fun j => (hF69 11 (by decide) j).trans (C50 j)
    have C134 : ∀ j : Nat, dt67 19 j = dt 19 j := fun j => (hF69 19 (by decide) j).trans (C51 j)
    have C135 : ∀ j : Nat, dt67 20 j = dt 20 j := fun j => (hF69 20 (by decide) j).trans (C52 j)
    have C136 : ∀ j : Nat, dt67 21 j = dt 21 j := fun j => (hF69 21 (by decide) j).trans (C53 j)
    have C137 : ∀ j : Nat, dt67 22 j = dt 22 j := fun j => (hF69 22 (by decide) j).trans (C54 j)
    have C138 : ∀ j : Nat, dt67 23 j = dt 23 j := fun j => (hF69 23 (by decide) j).trans (C55 j)
    have C139 : ∀ j : Nat, dt67 25 j = dt 25 j := fun j => (hF69 25 (by decide) j).trans (C56 j)
    have C140 : ∀ j : Nat, dt67 26 j = dt 26 j := fun j => (hF69 26 (by decide) j).trans (C57 j)
    have C141 : ∀ j : Nat, dt67 28 j = dt 28 j := fun j => (hF69 28 (by decide) j).trans (C58 j)
    have C142 : ∀ j : Nat, dt67 36 j = dt 36 j := fun j => (hF69 36 (by decide) j).trans (C59 j)
    have C143 : ∀ j : Nat, dt67 80 j = dt 80 j := fun j => (hF69 80 (by decide) j).trans (C60 j)
    have C144 : ∀ j : Nat, dt67 81 j = dt 81 j := fun j => (hF69 81 (by decide) j).trans (C61 j)
    have C145 : ∀ j : Nat, dt67 85 j = dt 85 j := fun j => (hF69 85 (by decide) j).trans (C62 j)
    refine go_toq PM267 (k := 2) (pc' := 1435) (L' := [some (.inr (.inr (some 3000))), some (.inr (.inr (some 0))), some (.inr (.inr (some 79))), some (.inl i)]) (st' := []) (w' := (SH, dt67)) rfl ?_
    exact K dt67 hI68 hM71 M2125 (w72.trans (hk0.trans w88.symm)) (w73.trans (hk1.trans w89.symm)) (w74.trans (hk2.trans w90.symm)) (w75.trans (hk3.trans w91.symm)) (w76.trans (hk4.trans w92.symm)) (w77.trans (hk5.trans w93.symm)) (w78.trans (hk6.trans w94.symm)) (w79.trans (hk7.trans w95.symm)) (w80.trans (hk8.trans w96.symm)) (w81.trans (hk9.trans w97.symm)) (w82.trans (hk10.trans w98.symm)) (w83.trans (hk11.trans w99.symm)) (w84.trans (hk12.trans w100.symm)) (w85.trans (hk13.trans w101.symm)) (w86.trans (hk14.trans w102.symm)) (w87.trans (hk15.trans w103.symm)) (by first | exact hI | exact TPL_k hd0 C142 C145 (by omega) | (exfalso; omega)) (by first | exact hI | exact SCL_k hd1 hM (fun j _ => C126 j) (fun j _ => C127 j) (fun j _ _ => C143 j) | (exfalso; omega)) (by first | exact hI | exact SCL_k hd2 hM2 (fun j _ => C134 j) (fun j _ => C135 j) (fun j _ _ => C144 j) | (exfalso; omega)) (by first | exact hI | exact QRL_k hd3 hM (fun j _ => C131 j) (C143 1) (fun j _ _ => C143 j) | (exfalso; omega)) (by first | exact hI | exact QRL_k hd4 hM2 (fun j _ => C139 j) (C144 1) (fun j _ _ => C144 j) | (exfalso; omega)) (by first | exact hI | exact SDL_k hd5 hM (fun j _ => C132 j) (C143 1) (fun j _ _ => C143 j) (fun j _ _ => C143 j) | (exfalso; omega)) (by first | exact hI | exact SDL_k hd6 hM2 (fun j _ => C140 j) (C144 1) (fun j _ _ => C144 j) (fun j _ _ => C144 j) | (exfalso; omega)) (by first | exact hI | exact LWL_k hd7 hM (fun j _ => C128 j) (fun j _ => C129 j) (fun j _ => C130 j) (fun j _ _ => C143 j) | (exfalso; omega)) (by first | exact hI | exact LWL_k hd8 hM2 (fun j _ => C136 j) (fun j _ => C137 j) (fun j _ => C138 j) (fun j _ _ => C144 j) | (exfalso; omega)) (by first | exact hI | exact CHL_k hd9 hM (fun j _ => C133 j) (by omega) (fun j _ _ => C143 j) | (exfalso; omega)) (by first | exact hI | exact CHL_k hd10 hM2 (fun j _ => C141 j) (by omega) (fun j _ _ => C144 j) | (exfalso; omega))
  · skip
    have M2146 : MW (dt67 81) := MW_frk M242 hF69 (by decide)
    have C147 : ∀ j : Nat, dt67 2 j = dt 2 j := fun j => (hF69 2 (by decide) j).trans (C43 j)
    have C148 : ∀ j : Nat, dt67 3 j = dt 3 j := fun j => (hF69 3 (by decide) j).trans (C44 j)
    have C149 : ∀ j : Nat, dt67 4 j = dt 4 j := fun j => (hF69 4 (by decide) j).trans (C45 j)
    have C150 : ∀ j : Nat, dt67 5 j = dt 5 j := fun j => (hF69 5 (by decide) j).trans (C46 j)
    have C151 : ∀ j : Nat, dt67 6 j = dt 6 j := fun j => (hF69 6 (by decide) j).trans (C47 j)
    have C152 : ∀ j : Nat, dt67 8 j = dt 8 j := fun j => (hF69 8 (by decide) j).trans (C48 j)
    have C153 : ∀ j : Nat, dt67 9 j = dt 9 j := fun j => (hF69 9 (by decide) j).trans (C49 j)
    have C154 : ∀ j : Nat, dt67 11 j = dt 11 j := fun j => (hF69 11 (by decide) j).trans (C50 j)
    have C155 : ∀ j : Nat, dt67 19 j = dt 19 j := fun j => (hF69 19 (by decide) j).trans (C51 j)
    have C156 : ∀ j : Nat, dt67 20 j = dt 20 j := fun j => (hF69 20 (by decide) j).trans (C52 j)
    have C157 : ∀ j : Nat, dt67 21 j = dt 21 j := fun j => (hF69 21 (by decide) j).trans (C53 j)
    have C158 : ∀ j : Nat, dt67 22 j = dt 22 j := fun j => (hF69 22 (by decide) j).trans (C54 j)
    have C159 : ∀ j : Nat, dt67 23 j = dt 23 j := fun j => (hF69 23 (by decide) j).trans (C55 j)
    have C160 : ∀ j : Nat, dt67 25 j = dt 25 j := fun j => (hF69 25 (by decide) j).trans (C56 j)
    have C161 : ∀ j : Nat, dt67 26 j = dt 26 j := fun j => (hF69 26 (by decide) j).trans (C57 j)
    have C162 : ∀ j : Nat, dt67 28 j = dt 28 j := fun j => (hF69 28 (by decide) j).trans (C58 j)
    have C163 : ∀ j : Nat, dt67 36 j = dt 36 j := fun j => (hF69 36 (by decide) j).trans (C59 j)
    have C164 : ∀ j : Nat, dt67 80 j = dt 80 j := fun j => (hF69 80 (by decide) j).trans (C60 j)
    have C165 : ∀ j : Nat, dt67 81 j = dt 81 j := fun j => (hF69 81 (by decide) j).trans (C61 j)
    have C166 : ∀ j : Nat, dt67 85 j = dt 85 j := fun j => (hF69 85 (by decide) j).trans (C62 j)
    refine go_toq PM267 (k := 2) (pc' := 1435) (L' := [some (.inr (.inr (some 3000))), some (.inr (.inr (some 0))), some (.inr (.inr (some 79))), some (.inl i)]) (st' := []) (w' := (SH, dt67)) rfl ?_
    exact K dt67 hI68 hM71 M2146 (w72.trans (hk0.trans w88.symm)) (w73.trans (hk1.trans w89.symm)) (w74.trans (hk2.trans w90.symm)) (w75.trans (hk3.trans w91.symm)) (w76.trans (hk4.trans w92.symm)) (w77.trans (hk5.trans w93.symm)) (w78.trans (hk6.trans w94.symm)) (w79.trans (hk7.trans w95.symm)) (w80.trans (hk8.trans w96.symm)) (w81.trans (hk9.trans w97.symm)) (w82.trans (hk10.trans w98.symm)) (w83.trans (hk11.trans w99.symm)) (w84.trans (hk12.trans w100.symm)) (w85.trans (hk13.trans w101.symm)) (w86.trans (hk14.trans w102.symm)) (w87.trans (hk15.trans w103.symm)) (by first | exact hI | exact TPL_k hd0 C163 C166 (by omega) | (exfalso; omega)) (by first | exact hI | exact SCL_k hd1 hM (fun j _ => C147 j) (fun j _ => C148 j) (fun j _ _ => C164 j) | (exfalso; omega)) (by first | exact hI | exact SCL_k hd2 hM2 (fun j _ => C155 j) (fun j _ => C156 j) (fun j _ _ => C165 j) | (exfalso; omega)) (by first | exact hI | exact QRL_k hd3 hM (fun j _ => C152 j) (C164 1) (fun j _ _ => C164 j) | (exfalso; omega)) (by first | exact hI | exact QRL_k hd4 hM2 (fun j _ => C160 j) (C165 1) (fun j _ _ => C165 j) | (exfalso; omega)) (by first | exact hI | exact SDL_k hd5 hM (fun j _ => C153 j) (C164 1) (fun j _ _ => C164 j) (fun j _ _ => C164 j) | (exfalso; omega)) (by first | exact hI | exact SDL_k hd6 hM2 (fun j _ => C161 j) (C165 1) (fun j _ _ => C165 j) (fun j _ _ => C165 j) | (exfalso; omega)) (by first | exact hI | exact LWL_k hd7 hM (fun j _ => C149 j) (fun j _ => C150 j) (fun j _ => C151 j) (fun j _ _ => C164 j) | (exfalso; omega)) (by first | exact hI | exact LWL_k hd8 hM2 (fun j _ => C157 j) (fun j _ => C158 j) (fun j _ => C159 j) (fun j _ _ => C165 j) | (exfalso; omega)) (by first | exact hI | exact CHL_k hd9 hM (fun j _ => C154 j) (by omega) (fun j _ _ => C164 j) | (exfalso; omega)) (by first | exact hI | exact CHL_k hd10 hM2 (fun j _ => C162 j) (by omega) (fun j _ _ => C165 j) | (exfalso; omega))
set_option maxRecDepth 20000 in
set_option maxHeartbeats 8000000 in
theorem sp_case8 (L : Nat) (xs : Nat → Int32) (sio : Option Nat) (d : Nat) (Q : Option AV → am_W → Prop) (hLL : L ≤ 3072) (i : Int) (hi : 0 ≤ i ∧ i ≤ 3066) (hil : i ≤ (L : Int) - 6) (dt : Nat → Nat → Int) (hI : InvC dt) (hM : MW (dt 80)) (hM2 : MW (dt 81)) (hk0 : dt 1 0 = dt 80 0) (hk1 : dt 7 3 = dt 80 1) (hk2 : dt 10 3 = dt 80 2) (hk3 : dt 12 3 = dt 80 3) (hk4 : dt 14 3 = dt 80 4) (hk5 : dt 16 3 = dt 80 5) (hk6 : dt 18 0 = dt 81 0) (hk7 : dt 24 3 = dt 81 1) (hk8 : dt 27 3 = dt 81 2) (hk9 : dt 29 3 = dt 81 3) (hk10 : dt 31 3 = dt 81 4) (hk11 : dt 33 3 = dt 81 5) (hk12 : dt 0 2 = dt 79 2) (hk13 : dt 35 1 = dt 79 12) (hk14 : dt 35 2 = dt 79 19) (hk15 : dt 35 3 = dt 79 21) (hd0 : TPL (dt 36) (dt 85) (dt 35 1)) (hd1 : SCL (dt 2) (dt 3) (dt 80)) (hd2 : SCL (dt 19) (dt 20) (dt 81)) (hd3 : QRL (dt 8) (dt 80)) (hd4 : QRL (dt 25) (dt 81)) (hd5 : SDL (dt 9) (dt 80)) (hd6 : SDL (dt 26) (dt 81)) (hd7 : LWL (dt 4) (dt 5) (dt 6) (dt 80)) (hd8 : LWL (dt 21) (dt 22) (dt 23) (dt 81)) (hd9 : CHL (dt 11) (dt 80)) (hd10 : CHL (dt 28) (dt 81)) (K : ∀ (dt : Nat → Nat → Int) (hI : InvC dt) (hM : MW (dt 80)) (hM2 : MW (dt 81)) (hk0 : dt 1 0 = dt 80 0) (hk1 : dt 7 3 = dt 80 1) (hk2 : dt 10 3 = dt 80 2) (hk3 : dt 12 3 = dt 80 3) (hk4 : dt 14 3 = dt 80 4) (hk5 : dt 16 3 = dt 80 5) (hk6 : dt 18 0 = dt 81 0) (hk7 : dt 24 3 = dt 81 1) (hk8 : dt 27 3 = dt 81 2) (hk9 : dt 29 3 = dt 81 3) (hk10 : dt 31 3 = dt 81 4) (hk11 : dt 33 3 = dt 81 5) (hk12 : dt 0 2 = dt 79 2) (hk13 : dt 35 1 = dt 79 12) (hk14 : dt 35 2 = dt 79 19) (hk15 : dt 35 3 = dt 79 21) (hd0 : TPL (dt 36) (dt 85) (dt 35 1)) (hd1 : SCL (dt 2) (dt 3) (dt 80)) (hd2 : SCL (dt 19) (dt 20) (dt 81)) (hd3 : QRL (dt 8) (dt 80)) (hd4 : QRL (dt 25) (dt 81)) (hd5 : SDL (dt 9) (dt 80)) (hd6 : SDL (dt 26) (dt 81)) (hd7 : LWL (dt 4) (dt 5) (dt 6) (dt 80)) (hd8 : LWL (dt 21) (dt 22) (dt 23) (dt 81)) (hd9 : CHL (dt 11) (dt 80)) (hd10 : CHL (dt 28) (dt 81)), GO (am_XX L xs sio) (d + 39) 267 1435 [some (.inr (.inr (some 3000))), some (.inr (.inr (some 0))), some (.inr (.inr (some 79))), some (.inl i)] [] (SH, dt) Q) : GO (am_XX L xs sio) (d + 39) 267 494 [some (.inr (.inr (some 3000))), some (.inr (.inr (some 0))), some (.inr (.inr (some 79))), some (.inl i)] [] (SH, dt) Q := by
  have hF : Fr [0, 1, 2, 3, 4, 5, 6, 7, 8, 9, 10, 11, 12, 13, 14, 15, 16, 17, 18, 19, 20, 21, 22, 23, 24, 25, 26, 27, 28, 29, 30, 31, 32, 33, 34, 35, 36, 37, 38, 39, 40, 41, 42, 43, 44, 45, 46, 47, 48, 49, 50, 51, 52, 53, 54, 55, 56, 57, 58, 59, 60, 61, 62, 63, 64, 65, 66, 67, 68, 69, 70, 71, 72, 73, 74, 75, 76, 77, 78, 79, 80, 81, 82, 83, 84, 85, 86, 87, 88, 89, 90, 91, 92, 93, 94, 95, 96, 97, 98, 99, 100, 101, 102, 103, 104] dt dt := Fr_refl
  have hqo := QOC_R hd3 hM hk1
  have hb1_ := hM.1.1
  have hb2_ := hM.1.2.1
  have hb3_ := hM.1.2.2.1
  have halk : ALK dt (dt 80) := ⟨hd7, hd3, hd5, hd9, hk1, hk2⟩
  refine go_toq PM267 (k := 5) (pc' := 499) (L' := [some (.inr (.inr (some 3000))), some (.inr (.inr (some 0))), some (.inr (.inr (some 79))), some (.inl i)]) (st' := [.inl (i + 1), .inr (.inr (some 3000)), .inr (.inr (some 0))]) (w' := (SH, dt)) rfl ?_
  have r1 := i32_R (xs ((i + 1).toNat))
  refine go_smpq PM267 (L' := [some (.inr (.inr (some 3000))), some (.inr (.inr (some 0))), some (.inr (.inr (some 79))), some (.inl i)]) (st' := [.inl ((xs ((i + 1).toNat)).toInt), .inr (.inr (some 0))]) (w' := (SH, dt)) rfl rfl (s_iald (n := L) (f := fun j => (xs j).toInt) (am_scr hLL) ⟨by omega, by omega⟩) ?_
  refine go_toq PM267 (k := 4) (pc' := 504) (L' := [some (.inr (.inr (some 3000))), some (.inr (.inr (some 0))), some (.inr (.inr (some 79))), some (.inl i)]) (st' := [.inl (i + 2), .inr (.inr (some 3000)), .inl ((xs ((i + 1).toNat)).toInt), .inr (.inr (some 0))]) (w' := (SH, dt)) rfl ?_
  have r2 := i32_R (xs ((i + 2).toNat))
  refine go_smpq PM267 (L' := [some (.inr (.inr (some 3000))), some (.inr (.inr (some 0))), some (.inr (.inr (some 79))), some (.inl i)]) (st' := [.inl ((xs ((i + 2).toNat)).toInt), .inl ((xs ((i + 1).toNat)).toInt), .inr (.inr (some 0))]) (w' := (SH, dt)) rfl rfl (s_iald (n := L) (f := fun j => (xs j).toInt) (am_scr hLL) ⟨by omega, by omega⟩) ?_
  refine go_toq PM267 (k := 4) (pc' := 509) (L' := [some (.inr (.inr (some 3000))), some (.inr (.inr (some 0))), some (.inr (.inr (some 79))), some (.inl i)]) (st' := [.inl (i + 3), .inr (.inr (some 3000)), .inl ((xs ((i + 2).toNat)).toInt), .inl ((xs ((i + 1).toNat)).toInt), .inr (.inr (some 0))]) (w' := (SH, dt)) rfl ?_
  have r3 := i32_R (xs ((i + 3).toNat))
  refine go_smpq PM267 (L' := [some (.inr (.inr (some 3000))), some (.inr (.inr (some 0))), some (.inr (.inr (some 79))), some (.inl i)]) (st' := [.inl ((xs ((i + 3).toNat)).toInt), .inl ((xs ((i + 2).toNat)).toInt), .inl ((xs ((i + 1).toNat)).toInt), .inr (.inr (some 0))]) (w' := (SH, dt)) rfl rfl (s_iald (n := L) (f := fun j => (xs j).toInt) (am_scr hLL) ⟨by omega, by omega⟩) ?_
  refine go_toq PM267 (k := 4) (pc' := 514) (L' := [some (.inr (.inr (some 3000))), some (.inr (.inr (some 0))), some (.inr (.inr (some 79))), some (.inl i)]) (st' := [.inl (i + 4), .inr (.inr (some 3000)), .inl ((xs ((i + 3).toNat)).toInt), .inl ((xs ((i + 2).toNat)).toInt), .inl ((xs ((i + 1).toNat)).toInt), .inr (.inr (some 0))]) (w' := (SH, dt)) rfl ?_
  have r4 := i32_R (xs ((i + 4).toNat))
  refine go_smpq PM267 (L' := [some (.inr (.inr (some 3000))), some (.inr (.inr (some 0))), some (.inr (.inr (some 79))), some (.inl i)]) (st' := [.inl ((xs ((i + 4).toNat)).toInt), .inl ((xs ((i + 3).toNat)).toInt), .inl ((xs ((i + 2).toNat)).toInt), .inl ((xs ((i + 1).toNat)).toInt), .inr (.inr (some 0))]) (w' := (SH, dt)) rfl rfl (s_iald (n := L) (f := fun j => (xs j).toInt) (am_scr hLL) ⟨by omega, by omega⟩) ?_
  refine go_toq PM267 (k := 4) (pc' := 519) (L' := [some (.inr (.inr (some 3000))), some (.inr (.inr (some 0))), some (.inr (.inr (some 79))), some (.inl i)]) (st' := [.inl (i + 5), .inr (.inr (some 3000)), .inl ((xs ((i + 4).toNat)).toInt), .inl ((xs ((i + 3).toNat)).toInt), .inl ((xs ((i + 2).toNat)).toInt), .inl ((xs ((i + 1).toNat)).toInt), .inr (.inr (some 0))]) (w' := (SH, dt)) rfl ?_
  have r5 := i32_R (xs ((i + 5).toNat))
  refine go_smpq PM267 (L' := [some (.inr (.inr (some 3000))), some (.inr (.inr (some 0))), some (.inr (.inr (some 79))), some (.inl i)]) (st' := [.inl ((xs ((i + 5).toNat)).toInt), .inl ((xs ((i + 4).toNat)).toInt), .inl ((xs ((i + 3).toNat)).toInt), .inl ((xs ((i + 2).toNat)).toInt), .inl ((xs ((i + 1).toNat)).toInt), .inr (.inr (some 0))]) (w' := (SH, dt)) rfl rfl (s_iald (n := L) (f := fun j => (xs j).toInt) (am_scr hLL) ⟨by omega, by omega⟩) ?_
  refine go_callq PM267 PM75 (Q' := _) rfl rfl rfl rfl (sp_X5_question_f L xs sio (d + 33) dt hI (dt 80) hM ((xs ((i + 1).toNat)).toInt) ⟨by omega, by omega⟩ ((xs ((i + 2).toNat)).toInt) ⟨by omega, by omega⟩ ((xs ((i + 3).toNat)).toInt) ⟨by omega, by omega⟩ ((xs ((i + 4).toNat)).toInt) ⟨by omega, by omega⟩ ((xs ((i + 5).toNat)).toInt) ⟨by omega, by omega⟩ (by first | exact True.intro | with_reducible assumption | rfl | omega | trivial | exact hM2 | exact hd1 | exact hqo | exact halk) (by first | exact True.intro | with_reducible assumption | rfl | omega | trivial | exact hM2 | exact hd1 | exact hqo | exact halk)) ?_
  rintro _ _ ⟨dt7, rfl, hI8, hF9, h6⟩
  refine ⟨rfl, ?_⟩
  have hF10 : Fr [0, 1, 2, 3, 4, 5, 6, 7, 8, 9, 10, 11, 12, 13, 14, 15, 16, 17, 18, 19, 20, 21, 22, 23, 24, 25, 26, 27, 28, 29, 30, 31, 32, 33, 34, 35, 36, 37, 38, 39, 40, 41, 42, 43, 44, 45, 46, 47, 48, 49, 50, 51, 52, 53, 54, 55, 56, 57, 58, 59, 60, 61, 62, 63, 64, 65, 66, 67, 68, 69, 70, 71, 72, 73, 74, 75, 76, 77, 78, 79, 80, 81, 82, 83, 84, 85, 86, 87, 88, 89, 90, 91, 92, 93, 94, 95, 96, 97, 98, 99, 100, 101, 102, 103, 104] dt dt7 := Fr_tr hF hF9 (by decide)
  have hM11 : MW (dt7 80) := MW_fr hM hF9 (by decide)
  have w12 : dt7 1 0 = dt 1 0 := hF9 1 (by decide) 0
  have w13 : dt7 10 3 = dt 10 3 := hF9 10 (by decide) 3
  have w14 : dt7 12 3 = dt 12 3 := hF9 12 (by decide) 3
  have w15 : dt7 14 3 = dt 14 3 := hF9 14 (by decide) 3
  have w16 : dt7 16 3 = dt 16 3 := hF9 16 (by decide) 3
  have w17 : dt7 18 0 = dt 18 0 := hF9 18 (by decide) 0
  have w18 : dt7 24 3 = dt 24 3 := hF9 24 (by decide) 3
  have w19 : dt7 27 3 = dt 27 3 := hF9 27 (by decide) 3
  have w20 : dt7 29 3 = dt 29 3 := hF9 29 (by decide) 3
  have w21 : dt7 31 3 = dt 31 3 := hF9 31 (by decide) 3
  have w22 : dt7 33 3 = dt 33 3 := hF9 33 (by decide) 3
  have w23 : dt7 0 2 = dt 0 2 := hF9 0 (by decide) 2
  have w24 : dt7 35 1 = dt 35 1 := hF9 35 (by decide) 1
  have w25 : dt7 35 2 = dt 35 2 := hF9 35 (by decide) 2
  have w26 : dt7 35 3 = dt 35 3 := hF9 35 (by decide) 3
  have w27 : dt7 80 0 = dt 80 0 := hF9 80 (by decide) 0
  have w28 : dt7 80 1 = dt 80 1 := hF9 80 (by decide) 1
  have w29 : dt7 80 2 = dt 80 2 := hF9 80 (by decide) 2
  have w30 : dt7 80 3 = dt 80 3 := hF9 80 (by decide) 3
  have w31 : dt7 80 4 = dt 80 4 := hF9 80 (by decide) 4
  have w32 : dt7 80 5 = dt 80 5 := hF9 80 (by decide) 5
  have w33 : dt7 81 0 = dt 81 0 := hF9 81 (by decide) 0
  have w34 : dt7 81 1 = dt 81 1 := hF9 81 (by decide) 1
  have w35 : dt7 81 2 = dt 81 2 := hF9 81 (by decide) 2
  have w36 : dt7 81 3 = dt 81 3 := hF9 81 (by decide) 3
  have w37 : dt7 81 4 = dt 81 4 := hF9 81 (by decide) 4
  have w38 : dt7 81 5 = dt 81 5 := hF9 81 (by decide) 5
  have w39 : dt7 79 2 = dt 79 2 := hF9 79 (by decide) 2
  have w40 : dt7 79 12 = dt 79 12 := hF9 79 (by decide) 12
  have w41 : dt7 79 19 = dt 79 19 := hF9 79 (by decide) 19
  have w42 : dt7 79 21 = dt 79 21 := hF9 79 (by decide) 21
  rcases h6 with ⟨rfl, h6⟩ | ⟨v_h6, rfl, h6r, h6⟩
  · skip
    obtain ⟨h6_0, h6_1, h6_2, h6_3⟩ := h6
    replace h6_0 := hid h6_0
    have w43 : dt7 7 3 = dt 7 3 := h6_1
    have M244 : MW (dt7 81) := MW_frk hM2 hF9 (by decide)
    have C45 : ∀ j : Nat, dt7 2 j = dt 2 j := fun j => (hF9 2 (by decide) j).trans ((fun _ => rfl) j)
    have C46 : ∀ j : Nat, dt7 3 j = dt 3 j := fun j => (hF9 3 (by decide) j).trans ((fun _ => rfl) j)
    have C47 : ∀ j : Nat, dt7 4 j = dt 4 j := fun j => (hF9 4 (by decide) j).trans ((fun _ => rfl) j)
    have C48 : ∀ j : Nat, dt7 5 j = dt 5 j := fun j => (hF9 5 (by decide) j).trans ((fun _ => rfl) j)
    have C49 : ∀ j : Nat, dt7 6 j = dt 6 j := fun j => (hF9 6 (by decide) j).trans ((fun _ => rfl) j)
    have C50 : ∀ j : Nat, dt7 8 j = dt 8 j := fun j => (h6_2 j).trans ((fun _ => rfl) j)
    have C51 : ∀ j : Nat, dt7 9 j = dt 9 j := fun j => (h6_3 j).trans ((fun _ => rfl) j)
    have C52 : ∀ j : Nat, dt7 11 j = dt 11 j := fun j => (hF9 11 (by decide) j).trans ((fun _ => rfl) j)
    have C53 : ∀ j : Nat, dt7 19 j = dt 19 j := fun j => (hF9 19 (by decide) j).trans ((fun _ => rfl) j)
    have C54 : ∀ j : Nat, dt7 20 j = dt 20 j := fun j => (hF9 20 (by decide) j).trans ((fun _ => rfl) j)
    have C55 : ∀ j : Nat, dt7 21 j = dt 21 j := fun j => (hF9 21 (by decide) j).trans ((fun _ => rfl) j)
    have C56 : ∀ j : Nat, dt7 22 j = dt 22 j := fun j => (hF9 22 (by decide) j).trans ((fun _ => rfl) j)
    have C57 : ∀ j : Nat, dt7 23 j = dt 23 j := fun j => (hF9 23 (by decide) j).trans ((fun _ => rfl) j)
    have C58 : ∀ j : Nat, dt7 25 j = dt 25 j := fun j => (hF9 25 (by decide) j).trans ((fun _ => rfl) j)
    have C59 : ∀ j : Nat, dt7 26 j = dt 26 j := fun j => (hF9 26 (by decide) j).trans ((fun _ => rfl) j)
    have C60 : ∀ j : Nat, dt7 28 j = dt 28 j := fun j => (hF9 28 (by decide) j).trans ((fun _ => rfl) j)
    have C61 : ∀ j : Nat, dt7 36 j = dt 36 j := fun j => (hF9 36 (by decide) j).trans ((fun _ => rfl) j)
    have C62 : ∀ j : Nat, dt7 80 j = dt 80 j := fun j => (hF9 80 (by decide) j).trans ((fun _ => rfl) j)
    have C63 : ∀ j : Nat, dt7 81 j = dt 81 j := fun j => (hF9 81 (by decide) j).trans ((fun _ => rfl) j)
    have C64 : ∀ j : Nat, dt7 85 j = dt 85 j := fun j => (hF9 85 (by decide) j).trans ((fun _ => rfl) j)
    refine go_toq PM267 (k := 6) (pc' := 529) (L' := [some (.inr (.inr (some 3000))), some (.inr (.inr (some 0))), some (.inr (.inr (some 79))), some (.inl i)]) (st' := [.inl (i + 1), .inr (.inr (some 3000)), .inr (.inr (some 79))]) (w' := (SH, dt7)) rfl ?_
    have r65 := i32_R (xs ((i + 1).toNat))
    refine go_smpq PM267 (L' := [some (.inr (.inr (some 3000))), some (.inr (.inr (some 0))), some (.inr (.inr (some 79))), some (.inl i)]) (st' := [.inl ((xs ((i + 1).toNat)).toInt), .inr (.inr (some 79))]) (w' := (SH, dt7)) rfl rfl (s_iald (n := L) (f := fun j => (xs j).toInt) (am_scr hLL) ⟨by (first | omega | (have z0_ := unhid h6_0; omega)), by (first | omega | (have z0_ := unhid h6_0; omega))⟩) ?_
    refine go_toq PM267 (k := 4) (pc' := 534) (L' := [some (.inr (.inr (some 3000))), some (.inr (.inr (some 0))), some (.inr (.inr (some 79))), some (.inl i)]) (st' := [.inl (i + 2), .inr (.inr (some 3000)), .inl ((xs ((i + 1).toNat)).toInt), .inr (.inr (some 79))]) (w' := (SH, dt7)) rfl ?_
    have r66 := i32_R (xs ((i + 2).toNat))
    refine go_smpq PM267 (L' := [some (.inr (.inr (some 3000))), some (.inr (.inr (some 0))), some (.inr (.inr (some 79))), some (.inl i)]) (st' := [.inl ((xs ((i + 2).toNat)).toInt), .inl ((xs ((i + 1).toNat)).toInt), .inr (.inr (some 79))]) (w' := (SH, dt7)) rfl rfl (s_iald (n := L) (f := fun j => (xs j).toInt) (am_scr hLL) ⟨by (first | omega | (have z0_ := unhid h6_0; omega)), by (first | omega | (have z0_ := unhid h6_0; omega))⟩) ?_
    refine go_toq PM267 (k := 4) (pc' := 539) (L' := [some (.inr (.inr (some 3000))), some (.inr (.inr (some 0))), some (.inr (.inr (some 79))), some (.inl i)]) (st' := [.inl (i + 3), .inr (.inr (some 3000)), .inl ((xs ((i + 2).toNat)).toInt), .inl ((xs ((i + 1).toNat)).toInt), .inr (.inr (some 79))]) (w' := (SH, dt7)) rfl ?_
    have r67 := i32_R (xs ((i + 3).toNat))
    refine go_smpq PM267 (L' := [some (.inr (.inr (some 3000))), some (.inr (.inr (some 0))), some (.inr (.inr (some 79))), some (.inl i)]) (st' := [.inl ((xs ((i + 3).toNat)).toInt), .inl ((xs ((i + 2).toNat)).toInt), .inl ((xs ((i + 1).toNat)).toInt), .inr (.inr (some 79))]) (w' := (SH, dt7)) rfl rfl (s_iald (n := L) (f := fun j => (xs j).toInt) (am_scr hLL) ⟨by (first | omega | (have z0_ := unhid h6_0; omega)), by (first | omega | (have z0_ := unhid h6_0; omega))⟩) ?_
    refine go_toq PM267 (k := 4) (pc' := 544) (L' := [some (.inr (.inr (some 3000))), some (.inr (.inr (some 0))), some (.inr (.inr (some 79))), some (.inl i)]) (st' := [.inl (i + 4), .inr (.inr (some 3000)), .inl ((xs ((i + 3).toNat)).toInt), .inl ((xs ((i + 2).toNat)).toInt), .inl ((xs ((i + 1).toNat)).toInt), .inr (.inr (some 79))]) (w' := (SH, dt7)) rfl ?_
    have r68 := i32_R (xs ((i + 4).toNat))
    refine go_smpq PM267 (L' := [some (.inr (.inr (some 3000))), some (.inr (.inr (some 0))), some (.inr (.inr (some 79))), some (.inl i)]) (st' := [.inl ((xs ((i + 4).toNat)).toInt), .inl ((xs ((i + 3).toNat)).toInt), .inl ((xs ((i + 2).toNat)).toInt), .inl ((xs ((i + 1).toNat)).toInt), .inr (.inr (some 79))]) (w' := (SH, dt7)) rfl rfl (s_iald (n := L) (f := fun j => (xs j).toInt) (am_scr hLL) ⟨by (first | omega | (have z0_ := unhid h6_0; omega)), by (first | omega | (have z0_ := unhid h6_0; omega))⟩) ?_
    refine go_toq PM267 (k := 4) (pc' := 549) (L' := [some (.inr (.inr (some 3000))), some (.inr (.inr (some 0))), some (.inr (.inr (some 79))), some (.inl i)]) (st' := [.inl (i + 5), .inr (.inr (some 3000)), .inl ((xs ((i + 4).toNat)).toInt), .inl ((xs ((i + 3).toNat)).toInt), .inl ((xs ((i + 2).toNat)).toInt), .inl ((xs ((i + 1).toNat)).toInt), .inr (.inr (some 79))]) (w' := (SH, dt7)) rfl ?_
    have r69 := i32_R (xs ((i + 5).toNat))
    refine go_smpq PM267 (L' := [some (.inr (.inr (some 3000))), some (.inr (.inr (some 0))), some (.inr (.inr (some 79))), some (.inl i)]) (st' := [.inl ((xs ((i + 5).toNat)).toInt), .inl ((xs ((i + 4).toNat)).toInt), .inl ((xs ((i + 3).toNat)).toInt), .inl ((xs ((i + 2).toNat)).toInt), .inl ((xs ((i + 1).toNat)).toInt), .inr (.inr (some 79))]) (w' := (SH, dt7)) rfl rfl (s_iald (n := L) (f := fun j => (xs j).toInt) (am_scr hLL) ⟨by (first | omega | (have z0_ := unhid h6_0; omega)), by (first | omega | (have z0_ := unhid h6_0; omega))⟩) ?_
    refine go_callq PM267 PM193 (Q' := _) rfl rfl rfl rfl (sp_X6_question_v L xs sio (d + 36) dt7 hI8 hM11  ((xs ((i + 1).toNat)).toInt) ⟨by (first | omega | (have z0_ := unhid h6_0; omega)), by (first | omega | (have z0_ := unhid h6_0; omega))⟩ ((xs ((i + 2).toNat)).toInt) ⟨by (first | omega | (have z0_ := unhid h6_0; omega)), by (first | omega | (have z0_ := unhid h6_0; omega))⟩ ((xs ((i + 3).toNat)).toInt) ⟨by (first | omega | (have z0_ := unhid h6_0; omega)), by (first | omega | (have z0_ := unhid h6_0; omega))⟩ ((xs ((i + 4).toNat)).toInt) ⟨by (first | omega | (have z0_ := unhid h6_0; omega)), by (first | omega | (have z0_ := unhid h6_0; omega))⟩ ((xs ((i + 5).toNat)).toInt) ⟨by (first | omega | (have z0_ := unhid h6_0; omega)), by (first | omega | (have z0_ := unhid h6_0; omega))⟩ ) ?_
    rintro _ _ ⟨dt71, rfl, hI72, hF73, h70⟩
    refine ⟨rfl, ?_⟩
    have hF74 : Fr [0, 1, 2, 3, 4, 5, 6, 7, 8, 9, 10, 11, 12, 13, 14, 15, 16, 17, 18, 19, 20, 21, 22, 23, 24, 25, 26, 27, 28, 29, 30, 31, 32, 33, 34, 35, 36, 37, 38, 39, 40, 41, 42, 43, 44, 45, 46, 47, 48, 49, 50, 51, 52, 53, 54, 55, 56, 57, 58, 59, 60, 61, 62, 63, 64, 65, 66, 67, 68, 69, 70, 71, 72, 73, 74, 75, 76, 77, 78, 79, 80, 81, 82, 83, 84, 85, 86, 87, 88, 89, 90, 91, 92, 93, 94, 95, 96, 97, 98, 99, 100, 101, 102, 103, 104] dt dt71 := Fr_tr hF10 hF73 (by decide)
    have w75 : dt71 1 0 = dt 1 0 := (hF73 1 (by decide) 0).trans w12
    have w76 : dt71 7 3 = dt 7 3 := (hF73 7 (by decide) 3).trans w43
    have w77 : dt71 10 3 = dt 10 3 := (hF73 10 (by decide) 3).trans w13
    have w78 : dt71 12 3 = dt 12 3 := (hF73 12 (by decide) 3).trans w14
    have w79 : dt71 14 3 = dt 14 3 := (hF73 14 (by decide) 3).trans w15
    have w80 : dt71 16 3 = dt 16 3 := (hF73 16 (by decide) 3).trans w16
    have w81 : dt71 18 0 = dt 18 0 := (hF73 18 (by decide) 0).trans w17
    have w82 : dt71 24 3 = dt 24 3 := (hF73 24 (by decide) 3).trans w18
    have w83 : dt71 27 3 = dt 27 3 := (hF73 27 (by decide) 3).trans w19
    have w84 : dt71 29 3 = dt 29 3 := (hF73 29 (by decide) 3).trans w20
    have w85 : dt71 31 3 = dt 31 3 := (hF73 31 (by decide) 3).trans w21
    have w86 : dt71 33 3 = dt 33 3 := (hF73 33 (by decide) 3).trans w22
    have w87 : dt71 0 2 = dt 0 2 := (hF73 0 (by decide) 2).trans w23
    have w88 : dt71 35 1 = dt 35 1 := (hF73 35 (by decide) 1).trans w24
    have w89 : dt71 35 2 = dt 35 2 := (hF73 35 (by decide) 2).trans w25
    have w90 : dt71 35 3 = dt 35 3 := (hF73 35 (by decide) 3).trans w26
    have w91 : dt71 81 0 = dt 81 0 := (hF73 81 (by decide) 0).trans w33
    have w92 : dt71 81 1 = dt 81 1 := (hF73 81 (by decide) 1).trans w34
    have w93 : dt71 81 2 = dt 81 2 := (hF73 81 (by decide) 2).trans w35
    have w94 : dt71 81 3 = dt 81 3 := (hF73 81 (by decide) 3).trans w36
    have w95 : dt71 81 4 = dt 81 4 := (hF73 81 (by decide) 4).trans w37
    have w96 : dt71 81 5 = dt 81 5 := (hF73 81 (by decide) 5).trans w38
    have w97 : dt71 79 2 = dt 79 2 := (hF73 79 (by decide) 2).trans w39
    have w98 : dt71 79 12 = dt 79 12 := (hF73 79 (by decide) 12).trans w40
    have w99 : dt71 79 19 = dt 79 19 := (hF73 79 (by decide) 19).trans w41
    have w100 : dt71 79 21 = dt 79 21 := (hF73 79 (by decide) 21).trans w42
    rcases h70 with ⟨rfl, h70⟩ | ⟨v_h70, rfl, h70r, h70⟩
    · skip
      have hM101 : MW (dt71 80) := h70.2.1
      obtain ⟨h70_0, h70_1, h70_2, h70_3, h70_4, h70_5, h70_6, h70_7, h70_8⟩ := h70
      replace h70_0 := hid h70_0
      have w102 : dt71 80 0 = dt 80 0 := h70_2.trans w27
      have w103 : dt71 80 1 = dt 80 1 := h70_3.trans w28
      have w104 : dt71 80 2 = dt 80 2 := h70_4.trans w29
      have w105 : dt71 80 3 = dt 80 3 := h70_5.trans w30
      have w106 : dt71 80 4 = dt 80 4 := h70_6.trans w31
      have w107 : dt71 80 5 = dt 80 5 := h70_7.trans w32
      have M2108 : MW (dt71 81) := MW_frk M244 hF73 (by decide)
      have C109 : ∀ j : Nat, dt71 2 j = dt 2 j := fun j => (hF73 2 (by decide) j).trans (C45 j)
      have C110 : ∀ j : Nat, dt71 3 j = dt 3 j := fun j => (hF73 3 (by decide) j).trans (C46 j)
      have C111 : ∀ j : Nat, dt71 4 j = dt 4 j := fun j => (hF73 4 (by decide) j).trans (C47 j)
      have C112 : ∀ j : Nat, dt71 5 j = dt 5 j := fun j => (hF73 5 (by decide) j).trans (C48 j)
      have C113 : ∀ j : Nat, dt71 6 j = dt 6 j := fun j => (hF73 6 (by decide) j).trans (C49 j)
      have C114 : ∀ j : Nat, dt71 8 j = dt 8 j := fun j => (hF73 8 (by decide) j).trans (C50 j)
      have C115 : ∀ j : Nat, dt71 9 j = dt 9 j := fun j => (hF73 9 (by decide) j).trans (C51 j)
      have C116 : ∀ j : Nat, dt71 11 j = dt 11 j := fun j => (hF73 11 (by decide) j).trans (C52 j)
      have C117 : ∀ j : Nat, dt71 19 j = dt 19 j := fun j => (hF73 19 (by decide) j).trans (C53 j)
      have C118 : ∀ j : Nat, dt71 20 j = dt 20 j := fun j => (hF73 20 (by decide) j).trans (C54 j)
      have C119 : ∀ j : Nat, dt71 21 j = dt 21 j := fun j => (hF73 21 (by decide) j).trans (C55 j)
      have C120 : ∀ j : Nat, dt71 22 j = dt 22 j := fun j => (hF73 22 (by decide) j).trans (C56 j)
      have C121 : ∀ j : Nat, dt71 23 j = dt 23 j := fun j => (hF73 23 (by decide) j).trans (C57 j)
      have C122 : ∀ j : Nat, dt71 25 j = dt 25 j := fun j => (hF73 25 (by decide) j).trans (C58 j)
      have C123 : ∀ j : Nat, dt71 26 j = dt 26 j := fun j => (hF73 26 (by decide) j).trans (C59 j)
      have C124 : ∀ j : Nat, dt71 28 j = dt 28 j := fun j => (hF73 28 (by decide) j).trans (C60 j)
      have C125 : ∀ j : Nat, dt71 36 j = dt 36 j := fun j => (hF73 36 (by decide) j).trans (C61 j)
      have C126 : ∀ j : Nat, dt71 80 j = dt 80 j := fun j => (h70_8 j).trans (C62 j)
      have C127 : ∀ j : Nat, dt71 81 j = dt 81 j := fun j => (hF73 81 (by decide) j).trans (C63 j)
      have C128 : ∀ j : Nat, dt71 85 j = dt 85 j := fun j => (hF73 85 (by decide) j).trans (C64 j)
      refine go_toq PM267 (k := 2) (pc' := 1435) (L' := [some (.inr (.inr (some 3000))), some (.inr (.inr (some 0))), some (.inr (.inr (some 79))), some (.inl i)]) (st' := []) (w' := (SH, dt71)) rfl ?_
      exact K dt71 hI72 hM101 M2108 (w75.trans (hk0.trans w102.symm)) (w76.trans (hk1.trans w103.symm)) (w77.trans (hk2.trans w104.symm)) (w78.trans (hk3.trans w105.symm)) (w79.trans (hk4.trans w106.symm)) (w80.trans (hk5.trans w107.symm)) (w81.trans (hk6.trans w91.symm)) (w82.trans (hk7.trans w92.symm)) (w83.trans (hk8.trans w93.symm)) (w84.trans (hk9.trans w94.symm)) (w85.trans (hk10.trans w95.symm)) (w86.trans (hk11.trans w96.symm)) (w87.trans (hk12.trans w97.symm)) (w88.trans (hk13.trans w98.symm)) (w89.trans (hk14.trans w99.symm)) (w90.trans (hk15.trans w100.symm)) (by first | exact hI | exact TPL_k hd0 C125 C128 (by (first | omega | (have z0_ := unhid h6_0; have z1_ := unhid h70_0; omega))) | (exfalso; (first | omega | (have z0_ := unhid h6_0; have z1_ := unhid h70_0; omega)))) (by first | exact hI | exact SCL_k hd1 hM (fun j _ => C109 j) (fun j _ => C110 j) (fun j _ _ => C126 j) | (exfalso; (first | omega | (have z0_ := unhid h6_0; have z1_ := unhid h70_0; omega)))) (by first | exact hI | exact SCL_k hd2 hM2 (fun j _ => C117 j) (fun j _ => C118 j) (fun j _ _ => C127 j) | (exfalso; (first | omega | (have z0_ := unhid h6_0; have z1_ := unhid h70_0; omega)))) (by first | exact hI | exact QRL_k hd3 hM (fun j _ => C114 j) (C126 1) (fun j _ _ => C126 j) | (exfalso; (first | omega | (have z0_ := unhid h6_0; have z1_ := unhid h70_0; omega)))) (by first | exact hI | exact QRL_k hd4 hM2 (fun j _ => C122 j) (C127 1) (fun j _ _ => C127 j) | (exfalso; (first | omega | (have z0_ := unhid h6_0; have z1_ := unhid h70_0; omega)))) (by first | exact hI | exact SDL_k hd5 hM (fun j _ => C115 j) (C126 1) (fun j _ _ => C126 j) (fun j _ _ => C126 j) | (exfalso; (first | omega | (have z0_ := unhid h6_0; have z1_ := unhid h70_0; omega)))) (by first | exact hI | exact SDL_k hd6 hM2 (fun j _ => C123 j) (C127 1) (fun j _ _ => C127 j) (fun j _ _ => C127 j) | (exfalso; (first | omega | (have z0_ := unhid h6_0; have z1_ := unhid h70_0; omega)))) (by first | exact hI | exact LWL_k hd7 hM (fun j _ => C111 j) (fun j _ => C112 j) (fun j _ => C113 j) (fun j _ _ => C126 j) | (exfalso; (first | omega | (have z0_ := unhid h6_0; have z1_ := unhid h70_0; omega)))) (by first | exact hI | exact LWL_k hd8 hM2 (fun j _ => C119 j) (fun j _ => C120 j) (fun j _ => C121 j) (fun j _ _ => C127 j) | (exfalso; (first | omega | (have z0_ := unhid h6_0; have z1_ := unhid h70_0; omega)))) (by first | exact hI | exact CHL_k hd9 hM (fun j _ => C116 j) (by (first | omega | (have z0_ := unhid h6_0; have z1_ := unhid h70_0; omega))) (fun j _ _ => C126 j) | (exfalso; (first | omega | (have z0_ := unhid h6_0; have z1_ := unhid h70_0; omega)))) (by first | exact hI | exact CHL_k hd10 hM2 (fun j _ => C124 j) (by (first | omega | (have z0_ := unhid h6_0; have z1_ := unhid h70_0; omega))) (fun j _ _ => C127 j) | (exfalso; (first | omega | (have z0_ := unhid h6_0; have z1_ := unhid h70_0; omega))))
    · skip
      have hM129 : MW (dt71 80) := h70.2.2.1
      obtain ⟨h70_0, h70_1, h70_2, h70_3, h70_4, h70_5, h70_6, h70_7, h70_8, h70_9, h70_10, h70_11, h70_12, h70_13, h70_14⟩ := h70
      have w130 : dt71 80 0 = dt 80 0 := h70_4.trans w27
      have w131 : dt71 80 2 = dt 80 2 := h70_5.trans w29
      have w132 : dt71 80 3 = dt 80 3 := h70_6.trans w30
      have w133 : dt71 80 4 = dt 80 4 := h70_7.trans w31
      have w134 : dt71 80 5 = dt 80 5 := h70_8.trans w32
      have M2135 : MW (dt71 81) := MW_frk M244 hF73 (by decide)
      have C136 : ∀ j : Nat, dt71 2 j = dt 2 j := fun j => (hF73 2 (by decide) j).trans (C45 j)
      have C137 : ∀ j : Nat, dt71 3 j = dt 3 j := fun j => (hF73 3 (by decide) j).trans (C46 j)
      have C138 : ∀ j : Nat, dt71 4 j = dt 4 j := fun j => (hF73 4 (by decide) j).trans (C47 j)
      have C139 : ∀ j : Nat, dt71 5 j = dt 5 j := fun j => (hF73 5 (by decide) j).trans (C48 j)
      have C140 : ∀ j : Nat, dt71 6 j = dt 6 j := fun j => (hF73 6 (by decide) j).trans (C49 j)
      have C141 : ∀ j : Nat, dt71 8 j = dt 8 j := fun j => (hF73 8 (by decide) j).trans (C50 j)
      have C142 : ∀ j : Nat, dt71 9 j = dt 9 j := fun j => (hF73 9 (by decide) j).trans (C51 j)
      have C143 : ∀ j : Nat, dt71 11 j = dt 11 j := fun j => (hF73 11 (by decide) j).trans (C52 j)
      have C144 : ∀ j : Nat, dt71 19 j = dt 19 j := fun j => (hF73 19 (by decide) j).trans (C53 j)
      have C145 : ∀ j : Nat, dt71 20 j = dt 20 j := fun j => (hF73 20 (by decide) j).trans (C54 j)
      have C146 : ∀ j : Nat, dt71 21 j = dt 21 j := fun j => (hF73 21 (by decide) j).trans (C55 j)
      have C147 : ∀ j : Nat, dt71 22 j = dt 22 j := fun j => (hF73 22 (by decide) j).trans (C56 j)
      have C148 : ∀ j : Nat, dt71 23 j = dt 23 j := fun j => (hF73 23 (by decide) j).trans (C57 j)
      have C149 : ∀ j : Nat, dt71 25 j = dt 25 j := fun j => (hF73 25 (by decide) j).trans (C58 j)
      have C150 : ∀ j : Nat, dt71 26 j = dt 26 j := fun j => (hF73 26 (by decide) j).trans (C59 j)
      have C151 : ∀ j : Nat, dt71 28 j = dt 28 j := fun j => (hF73 28 (by decide) j).trans (C60 j)
      have C152 : ∀ j : Nat, dt71 36 j = dt 36 j := fun j => (hF73 36 (by decide) j).trans (C61 j)
      have C153 : ∀ j : Nat, dt71 81 j = dt 81 j := fun j => (hF73 81 (by decide) j).trans (C63 j)
      have C154 : ∀ j : Nat, dt71 85 j = dt 85 j := fun j => (hF73 85 (by decide) j).trans (C64 j)
      have F155 : ∀ j : Nat, 6 ≤ j → j < 974 → dt71 80 j = dt 80 j := fun j h1_ h2_ => (h70_9 j (by (first | omega | (have z0_ := unhid h6_0; omega))) (by (first | omega | (have z0_ := unhid h6_0; omega)))).trans (C62 j)
      have F156 : ∀ j : Nat, 974 ≤ j → j < 5320 → dt71 80 j = dt 80 j := fun j h1_ h2_ => (h70_9 j (by (first | omega | (have z0_ := unhid h6_0; omega))) (by (first | omega | (have z0_ := unhid h6_0; omega)))).trans (C62 j)
      have F157 : ∀ j : Nat, 5380 ≤ j → j < 5540 → dt71 80 j = dt 80 j := fun j h1_ h2_ => (h70_9 j (by (first | omega | (have z0_ := unhid h6_0; omega))) (by (first | omega | (have z0_ := unhid h6_0; omega)))).trans (C62 j)
      refine go_toq PM267 (k := 2) (pc' := 1435) (L' := [some (.inr (.inr (some 3000))), some (.inr (.inr (some 0))), some (.inr (.inr (some 79))), some (.inl i)]) (st' := []) (w' := (SH, dt71)) rfl ?_
      exact K dt71 hI72 hM129 M2135 (w75.trans (hk0.trans w130.symm)) (by (first | omega | (have z0_ := unhid h6_0; omega))) (w77.trans (hk2.trans w131.symm)) (w78.trans (hk3.trans w132.symm)) (w79.trans (hk4.trans w133.symm)) (w80.trans (hk5.trans w134.symm)) (w81.trans (hk6.trans w91.symm)) (w82.trans (hk7.trans w92.symm)) (w83.trans (hk8.trans w93.symm)) (w84.trans (hk9.trans w94.symm)) (w85.trans (hk10.trans w95.symm)) (w86.trans (hk11.trans w96.symm)) (w87.trans (hk12.trans w97.symm)) (w88.trans (hk13.trans w98.symm)) (w89.trans (hk14.trans w99.symm)) (w90.trans (hk15.trans w100.symm)) (by first | exact hI | exact TPL_k hd0 C152 C154 (by (first | omega | (have z0_ := unhid h6_0; omega))) | (exfalso; (first | omega | (have z0_ := unhid h6_0; omega)))) (by first | exact hI | exact SCL_k hd1 hM (fun j _ => C136 j) (fun j _ => C137 j) F155 | (exfalso; (first | omega | (have z0_ := unhid h6_0; omega)))) (by first | exact hI | exact SCL_k hd2 hM2 (fun j _ => C144 j) (fun j _ => C145 j) (fun j _ _ => C153 j) | (exfalso; (first | omega | (have z0_ := unhid h6_0; omega)))) (by first | exact hI | exact QRL_k hd3 hM (fun j _ => C141 j) hI hI | (exfalso; (first | omega | (have z0_ := unhid h6_0; omega)))) (by first | exact hI | exact QRL_k hd4 hM2 (fun j _ => C149 j) (C153 1) (fun j _ _ => C153 j) | (exfalso; (first | omega | (have z0_ := unhid h6_0; omega)))) (by first | exact hI | exact SDL_k hd5 hM (fun j _ => C142 j) hI F155 hI | (exfalso; (first | omega | (have z0_ := unhid h6_0; omega)))) (by first | exact hI | exact SDL_k hd6 hM2 (fun j _ => C150 j) (C153 1) (fun j _ _ => C153 j) (fun j _ _ => C153 j) | (exfalso; (first | omega | (have z0_ := unhid h6_0; omega)))) (by first | exact hI | exact LWL_k hd7 hM (fun j _ => C138 j) (fun j _ => C139 j) (fun j _ => C140 j) F156 | (exfalso; (first | omega | (have z0_ := unhid h6_0; omega)))) (by first | exact hI | exact LWL_k hd8 hM2 (fun j _ => C146 j) (fun j _ => C147 j) (fun j _ => C148 j) (fun j _ _ => C153 j) | (exfalso; (first | omega | (have z0_ := unhid h6_0; omega)))) (by first | exact hI | exact CHL_k hd9 hM (fun j _ => C143 j) (by (first | omega | (have z0_ := unhid h6_0; omega))) F157 | (exfalso; (first | omega | (have z0_ := unhid h6_0; omega)))) (by first | exact hI | exact CHL_k hd10 hM2 (fun j _ => C151 j) (by (first | omega | (have z0_ := unhid h6_0; omega))) (fun j _ _ => C153 j) | (exfalso; (first | omega | (have z0_ := unhid h6_0; omega))))
  · skip
    obtain ⟨h6_0, h6_1, h6_2, h6_3, h6_4, h6_5, h6_6, h6_7, h6_8, h6_9, h6_10⟩ := h6
    have M2158 : MW (dt7 81) := MW_frk hM2 hF9 (by decide)
    have C159 : ∀ j : Nat, dt7 2 j = dt 2 j := fun j => (hF9 2 (by decide) j).trans ((fun _ => rfl) j)
    have C160 : ∀ j : Nat, dt7 3 j = dt 3 j := fun j => (hF9 3 (by decide) j).trans ((fun _ => rfl) j)
    have C161 : ∀ j : Nat, dt7 4 j = dt 4 j := fun j => (hF9 4 (by decide) j).trans ((fun _ => rfl) j)
    have C162 : ∀ j : Nat, dt7 5 j = dt 5 j := fun j => (hF9 5 (by decide) j).trans ((fun _ => rfl) j)
    have C163 : ∀ j : Nat, dt7 6 j = dt 6 j := fun j => (hF9 6 (by decide) j).trans ((fun _ => rfl) j)
    have C164 : ∀ j : Nat, dt7 11 j = dt 11 j := fun j => (hF9 11 (by decide) j).trans ((fun _ => rfl) j)
    have C165 : ∀ j : Nat, dt7 19 j = dt 19 j := fun j => (hF9 19 (by decide) j).trans ((fun _ => rfl) j)
    have C166 : ∀ j : Nat, dt7 20 j = dt 20 j := fun j => (hF9 20 (by decide) j).trans ((fun _ => rfl) j)
    have C167 : ∀ j : Nat, dt7 21 j = dt 21 j := fun j => (hF9 21 (by decide) j).trans ((fun _ => rfl) j)
    have C168 : ∀ j : Nat, dt7 22 j = dt 22 j := fun j => (hF9 22 (by decide) j).trans ((fun _ => rfl) j)
    have C169 : ∀ j : Nat, dt7 23 j = dt 23 j := fun j => (hF9 23 (by decide) j).trans ((fun _ => rfl) j)
    have C170 : ∀ j : Nat, dt7 25 j = dt 25 j := fun j => (hF9 25 (by decide) j).trans ((fun _ => rfl) j)
    have C171 : ∀ j : Nat, dt7 26 j = dt 26 j := fun j => (hF9 26 (by decide) j).trans ((fun _ => rfl) j)
    have C172 : ∀ j : Nat, dt7 28 j = dt 28 j := fun j => (hF9 28 (by decide) j).trans ((fun _ => rfl) j)
    have C173 : ∀ j : Nat, dt7 36 j = dt 36 j := fun j => (hF9 36 (by decide) j).trans ((fun _ => rfl) j)
    have C174 : ∀ j : Nat, dt7 80 j = dt 80 j := fun j => (hF9 80 (by decide) j).trans ((fun _ => rfl) j)
    have C175 : ∀ j : Nat, dt7 81 j = dt 81 j := fun j => (hF9 81 (by decide) j).trans ((fun _ => rfl) j)
    have C176 : ∀ j : Nat, dt7 85 j = dt 85 j := fun j => (hF9 85 (by decide) j).trans ((fun _ => rfl) j)
    refine go_toq PM267 (k := 6) (pc' := 529) (L' := [some (.inr (.inr (some 3000))), some (.inr (.inr (some 0))), some (.inr (.inr (some 79))), some (.inl i)]) (st' := [.inl (i + 1), .inr (.inr (some 3000)), .inr (.inr (some 79))]) (w' := (SH, dt7)) rfl ?_
    have r177 := i32_R (xs ((i + 1).toNat))
    refine go_smpq PM267 (L' := [some (.inr (.inr (some 3000))), some (.inr (.inr (some 0))), some (.inr (.inr (some 79))), some (.inl i)]) (st' := [.inl ((xs ((i + 1).toNat)).toInt), .inr (.inr (some 79))]) (w' := (SH, dt7)) rfl rfl (s_iald (n := L) (f := fun j => (xs j).toInt) (am_scr hLL) ⟨by omega, by omega⟩) ?_
    refine go_toq PM267 (k := 4) (pc' := 534) (L' := [some (.inr (.inr (some 3000))), some (.inr (.inr (some 0))), some (.inr (.inr (some 79))), some (.inl i)]) (st' := [.inl (i + 2), .inr (.inr (some 3000)), .inl ((xs ((i + 1).toNat)).toInt), .inr (.inr (some 79))]) (w' := (SH, dt7)) rfl ?_
    have r178 := i32_R (xs ((i + 2).toNat))
    refine go_smpq PM267 (L' := [some (.inr (.inr (some 3000))), some (.inr (.inr (some 0))), some (.inr (.inr (some 79))), some (.inl i)]) (st' := [.inl ((xs ((i + 2).toNat)).toInt), .inl ((xs ((i + 1).toNat)).toInt), .inr (.inr (some 79))]) (w' := (SH, dt7)) rfl rfl (s_iald (n := L) (f := fun j => (xs j).toInt) (am_scr hLL) ⟨by omega, by omega⟩) ?_
    refine go_toq PM267 (k := 4) (pc' := 539) (L' := [some (.inr (.inr (some 3000))), some (.inr (.inr (some 0))), some (.inr (.inr (some 79))), some (.inl i)]) (st' := [.inl (i + 3), .inr (.inr (some 3000)), .inl ((xs ((i + 2).toNat)).toInt), .inl ((xs ((i + 1).toNat)).toInt), .inr (.inr (some 79))]) (w' := (SH, dt7)) rfl ?_
    have r179 := i32_R (xs ((i + 3).toNat))
    refine go_smpq PM267 (L' := [some (.inr (.inr (some 3000))), some (.inr (.inr (some 0))), some (.inr (.inr (some 79))), some (.inl i)]) (st' := [.inl ((xs ((i + 3).toNat)).toInt), .inl ((xs ((i + 2).toNat)).toInt), .inl ((xs ((i + 1).toNat)).toInt), .inr (.inr (some 79))]) (w' := (SH, dt7)) rfl rfl (s_iald (n := L) (f := fun j => (xs j).toInt) (am_scr hLL) ⟨by omega, by omega⟩) ?_
    refine go_toq PM267 (k := 4) (pc' := 544) (L' := [some (.inr (.inr (some 3000))), some (.inr (.inr (some 0))), some (.inr (.inr (some 79))), some (.inl i)]) (st' := [.inl (i + 4), .inr (.inr (some 3000)), .inl ((xs ((i + 3).toNat)).toInt), .inl ((xs ((i + 2).toNat)).toInt), .inl ((xs ((i + 1).toNat)).toInt), .inr (.inr (some 79))]) (w' := (SH, dt7)) rfl ?_
    have r180 := i32_R (xs ((i + 4).toNat))
    refine go_smpq PM267 (L' := [some (.inr (.inr (some 3000))), some (.inr (.inr (some 0))), some (.inr (.inr (some 79))), some (.inl i)]) (st' := [.inl ((xs ((i + 4).toNat)).toInt), .inl ((xs ((i + 3).toNat)).toInt), .inl ((xs ((i + 2).toNat)).toInt), .inl ((xs ((i + 1).toNat)).toInt), .inr (.inr (some 79))]) (w' := (SH, dt7)) rfl rfl (s_iald (n := L) (f := fun j => (xs j).toInt) (am_scr hLL) ⟨by omega, by omega⟩) ?_
    refine go_toq PM267 (k := 4) (pc' := 549) (L' := [some (.inr (.inr (some 3000))), some (.inr (.inr (some 0))), some (.inr (.inr (some 79))), some (.inl i)]) (st' := [.inl (i + 5), .inr (.inr (some 3000)), .inl ((xs ((i + 4).toNat)).toInt), .inl ((xs ((i + 3).toNat)).toInt), .inl ((xs ((i + 2).toNat)).toInt), .inl ((xs ((i + 1).toNat)).toInt), .inr (.inr (some 79))]) (w' := (SH, dt7)) rfl ?_
    have r181 := i32_R (xs ((i + 5).toNat))
    refine go_smpq PM267 (L' := [some (.inr (.inr (some 3000))), some (.inr (.inr (some 0))), some (.inr (.inr (some 79))), some (.inl i)]) (st' := [.inl ((xs ((i + 5).toNat)).toInt), .inl ((xs ((i + 4).toNat)).toInt), .inl ((xs ((i + 3).toNat)).toInt), .inl ((xs ((i + 2).toNat)).toInt), .inl ((xs ((i + 1).toNat)).toInt), .inr (.inr (some 79))]) (w' := (SH, dt7)) rfl rfl (s_iald (n := L) (f := fun j => (xs j).toInt) (am_scr hLL) ⟨by omega, by omega⟩) ?_
    refine go_callq PM267 PM193 (Q' := _) rfl rfl rfl rfl (sp_X6_question_v L xs sio (d + 36) dt7 hI8 hM11  ((xs ((i + 1).toNat)).toInt) ⟨by omega, by omega⟩ ((xs ((i + 2).toNat)).toInt) ⟨by omega, by omega⟩ ((xs ((i + 3).toNat)).toInt) ⟨by omega, by omega⟩ ((xs ((i + 4).toNat)).toInt) ⟨by omega, by omega⟩ ((xs ((i + 5).toNat)).toInt) ⟨by omega, by omega⟩ ) ?_
    rintro _ _ ⟨dt183, rfl, hI184, hF185, h182⟩
    refine ⟨rfl, ?_⟩
    have hF186 : Fr [0, 1, 2, 3, 4, 5, 6, 7, 8, 9, 10, 11, 12, 13, 14, 15, 16, 17, 18, 19, 20, 21, 22, 23, 24, 25, 26, 27, 28, 29, 30, 31, 32, 33, 34, 35, 36, 37, 38, 39, 40, 41, 42, 43, 44, 45, 46, 47, 48, 49, 50, 51, 52, 53, 54, 55, 56, 57, 58, 59, 60, 61, 62, 63, 64, 65, 66, 67, 68, 69, 70, 71, 72, 73, 74, 75, 76, 77, 78, 79, 80, 81, 82, 83, 84, 85, 86, 87, 88, 89, 90, 91, 92, 93, 94, 95, 96, 97, 98, 99, 100, 101, 102, 103, 104] dt dt183 := Fr_tr hF10 hF185 (by decide)
    have w187 : dt183 1 0 = dt 1 0 := (hF185 1 (by decide) 0).trans w12
    have w188 : dt183 7 3 = dt7 7 3 := hF185 7 (by decide) 3
    have w189 : dt183 10 3 = dt 10 3 := (hF185 10 (by decide) 3).trans w13
    have w190 : dt183 12 3 = dt 12 3 := (hF185 12 (by decide) 3).trans w14
    have w191 : dt183 14 3 = dt 14 3 := (hF185 14 (by decide) 3).trans w15
    have w192 : dt183 16 3 = dt 16 3 := (hF185 16 (by decide) 3).trans w16
    have w193 : dt183 18 0 = dt 18 0 := (hF185 18 (by decide) 0).trans w17
    have w194 : dt183 24 3 = dt 24 3 := (hF185 24 (by decide) 3).trans w18
    have w195 : dt183 27 3 = dt 27 3 := (hF185 27 (by decide) 3).trans w19
    have w196 : dt183 29 3 = dt 29 3 := (hF185 29 (by decide) 3).trans w20
    have w197 : dt183 31 3 = dt 31 3 := (hF185 31 (by decide) 3).trans w21
    have w198 : dt183 33 3 = dt 33 3 := (hF185 33 (by decide) 3).trans w22
    have w199 : dt183 0 2 = dt 0 2 := (hF185 0 (by decide) 2).trans w23
    have w200 : dt183 35 1 = dt 35 1 := (hF185 35 (by decide) 1).trans w24
    have w201 : dt183 35 2 = dt 35 2 := (hF185 35 (by decide) 2).trans w25
    have w202 : dt183 35 3 = dt 35 3 := (hF185 35 (by decide) 3).trans w26
    have w203 : dt183 81 0 = dt 81 0 := (hF185 81 (by decide) 0).trans w33
    have w204 : dt183 81 1 = dt 81 1 := (hF185 81 (by decide) 1).trans w34
    have w205 : dt183 81 2 = dt 81 2 := (hF185 81 (by decide) 2).trans w35
    have w206 : dt183 81 3 = dt 81 3 := (hF185 81 (by decide) 3).trans w36
    have w207 : dt183 81 4 = dt 81 4 := (hF185 81 (by decide) 4).trans w37
    have w208 : dt183 81 5 = dt 81 5 := (hF185 81 (by decide) 5).trans w38
    have w209 : dt183 79 2 = dt 79 2 := (hF185 79 (by decide) 2).trans w39
    have w210 : dt183 79 12 = dt 79 12 := (hF185 79 (by decide) 12).trans w40
    have w211 : dt183 79 19 = dt 79 19 := (hF185 79 (by decide) 19).trans w41
    have w212 : dt183 79 21 = dt 79 21 := (hF185 79 (by decide) 21).trans w42
    rcases h182 with ⟨rfl, h182⟩ | ⟨v_h182, rfl, h182r, h182⟩
    · skip
      have hM213 : MW (dt183 80) := h182.2.1
      obtain ⟨h182_0, h182_1, h182_2, h182_3, h182_4, h182_5, h182_6, h182_7, h182_8⟩ := h182
      replace h182_0 := hid h182_0
      have w214 : dt183 80 0 = dt 80 0 := h182_2.trans w27
      have w215 : dt183 80 1 = dt 80 1 := h182_3.trans w28
      have w216 : dt183 80 2 = dt 80 2 := h182_4.trans w29
      have w217 : dt183 80 3 = dt 80 3 := h182_5.trans w30
      have w218 : dt183 80 4 = dt 80 4 := h182_6.trans w31
      have w219 : dt183 80 5 = dt 80 5 := h182_7.trans w32
      have M2220 : MW (dt183 81) := MW_frk M2158 hF185 (by decide)
      have C221 : ∀ j : Nat, dt183 2 j = dt 2 j := fun j => (hF185 2 (by decide) j).trans (C159 j)
      have C222 : ∀ j : Nat, dt183 3 j = dt 3 j := fun j => (hF185 3 (by decide) j).trans (C160 j)
      have C223 : ∀ j : Nat, dt183 4 j = dt 4 j := fun j => (hF185 4 (by decide) j).trans (C161 j)
      have C224 : ∀ j : Nat, dt183 5 j = dt 5 j := fun j => (hF185 5 (by decide) j).trans (C162 j)
      have C225 : ∀ j : Nat, dt183 6 j = dt 6 j := fun j => (hF185 6 (by decide) j).trans (C163 j)
      have C226 : ∀ j : Nat, dt183 11 j = dt 11 j := fun j => (hF185 11 (by decide) j).trans (C164 j)
      have C227 : ∀ j : Nat, dt183 19 j = dt 19 j := fun j => (hF185 19 (by decide) j).trans (C165 j)
      have C228 : ∀ j : Nat, dt183 20 j = dt 20 j := fun j => (hF185 20 (by decide) j).trans (C166 j)
      have C229 : ∀ j : Nat, dt183 21 j = dt 21 j := fun j => (hF185 21 (by decide) j).trans (C167 j)
      have C230 : ∀ j : Nat, dt183 22 j = dt 22 j := fun j => (hF185 22 (by decide) j).trans (C168 j)
      have C231 : ∀ j : Nat, dt183 23 j = dt 23 j := fun j => (hF185 23 (by decide) j).trans (C169 j)
      have C232 : ∀ j : Nat, dt183 25 j = dt 25 j := fun j => (hF185 25 (by decide) j).trans (C170 j)
      have C233 : ∀ j : Nat, dt183 26 j = dt 26 j := fun j => (hF185 26 (by decide) j).trans (C171 j)
      have C234 : ∀ j : Nat, dt183 28 j = dt 28 j := fun j => (hF185 28 (by decide) j).trans (C172 j)
      have C235 : ∀ j : Nat, dt183 36 j = dt 36 j := fun j => (hF185 36 (by decide) j).trans (C173 j)
      have C236 : ∀ j : Nat, dt183 80 j = dt 80 j := fun j => (h182_8 j).trans (C174 j)
      have C237 : ∀ j : Nat, dt183 81 j = dt 81 j := fun j => (hF185 81 (by decide) j).trans (C175 j)
      have C238 : ∀ j : Nat, dt183 85 j = dt 85 j := fun j => (hF185 85 (by decide) j).trans (C176 j)
      have N239 := fun (j : Nat) (hj : (j : Int) < 5 * dt 7 3) => (hF185 8 (by decide) j).trans (h6_3 j hj)
      have N240 := (hF185 8 (by decide) _).trans h6_4
      have N241 := (hF185 8 (by decide) _).trans h6_5
      have N242 := (hF185 8 (by decide) _).trans h6_6
      have N243 := (hF185 8 (by decide) _).trans h6_7
      have N244 := (hF185 8 (by decide) _).trans h6_8
      have N245 := fun (j : Nat) (hj : j < 11 * (dt 7 3).toNat) => (hF185 9 (by decide) j).trans (h6_9 j hj)
      have N246 := fun (r : Nat) (hr : r ≤ 10) => (hF185 9 (by decide) _).trans (h6_10 r hr)
      refine go_toq PM267 (k := 2) (pc' := 1435) (L' := [some (.inr (.inr (some 3000))), some (.inr (.inr (some 0))), some (.inr (.inr (some 79))), some (.inl i)]) (st' := []) (w' := (SH, dt183)) rfl ?_
      exact K dt183 hI184 hM213 M2220 (w187.trans (hk0.trans w214.symm)) (by (first | omega | (have z0_ := unhid h182_0; omega))) (w189.trans (hk2.trans w216.symm)) (w190.trans (hk3.trans w217.symm)) (w191.trans (hk4.trans w218.symm)) (w192.trans (hk5.trans w219.symm)) (w193.trans (hk6.trans w203.symm)) (w194.trans (hk7.trans w204.symm)) (w195.trans (hk8.trans w205.symm)) (w196.trans (hk9.trans w206.symm)) (w197.trans (hk10.trans w207.symm)) (w198.trans (hk11.trans w208.symm)) (w199.trans (hk12.trans w209.symm)) (w200.trans (hk13.trans w210.symm)) (w201.trans (hk14.trans w211.symm)) (w202.trans (hk15.trans w212.symm)) (by first | exact hI | exact TPL_k hd0 C235 C238 (by (first | omega | (have z0_ := unhid h182_0; omega))) | (exfalso; (first | omega | (have z0_ := unhid h182_0; omega)))) (by first | exact hI | exact SCL_k hd1 hM (fun j _ => C221 j) (fun j _ => C222 j) (fun j _ _ => C236 j) | (exfalso; (first | omega | (have z0_ := unhid h182_0; omega)))) (by first | exact hI | exact SCL_k hd2 hM2 (fun j _ => C227 j) (fun j _ => C228 j) (fun j _ _ => C237 j) | (exfalso; (first | omega | (have z0_ := unhid h182_0; omega)))) (by first | exact hI | exact QRL_k hd3 hM hI (C236 1) (fun j _ _ => C236 j) | (exfalso; (first | omega | (have z0_ := unhid h182_0; omega)))) (by first | exact hI | exact QRL_k hd4 hM2 (fun j _ => C232 j) (C237 1) (fun j _ _ => C237 j) | (exfalso; (first | omega | (have z0_ := unhid h182_0; omega)))) (by first | exact hI | exact SDL_k hd5 hM hI (C236 1) (fun j _ _ => C236 j) (fun j _ _ => C236 j) | (exfalso; (first | omega | (have z0_ := unhid h182_0; omega)))) (by first | exact hI | exact SDL_k hd6 hM2 (fun j _ => C233 j) (C237 1) (fun j _ _ => C237 j) (fun j _ _ => C237 j) | (exfalso; (first | omega | (have z0_ := unhid h182_0; omega)))) (by first | exact hI | exact LWL_k hd7 hM (fun j _ => C223 j) (fun j _ => C224 j) (fun j _ => C225 j) (fun j _ _ => C236 j) | (exfalso; (first | omega | (have z0_ := unhid h182_0; omega)))) (by first | exact hI | exact LWL_k hd8 hM2 (fun j _ => C229 j) (fun j _ => C230 j) (fun j _ => C231 j) (fun j _ _ => C237 j) | (exfalso; (first | omega | (have z0_ := unhid h182_0; omega)))) (by first | exact hI | exact CHL_k hd9 hM (fun j _ => C226 j) (by (first | omega | (have z0_ := unhid h182_0; omega))) (fun j _ _ => C236 j) | (exfalso; (first | omega | (have z0_ := unhid h182_0; omega)))) (by first | exact hI | exact CHL_k hd10 hM2 (fun j _ => C234 j) (by (first | omega | (have z0_ := unhid h182_0; omega))) (fun j _ _ => C237 j) | (exfalso; (first | omega | (have z0_ := unhid h182_0; omega))))
    · skip
      have hM247 : MW (dt183 80) := h182.2.2.1
      obtain ⟨h182_0, h182_1, h182_2, h182_3, h182_4, h182_5, h182_6, h182_7, h182_8, h182_9, h182_10, h182_11, h182_12, h182_13, h182_14⟩ := h182
      have w248 : dt183 80 0 = dt 80 0 := h182_4.trans w27
      have w249 : dt183 80 2 = dt 80 2 := h182_5.trans w29
      have w250 : dt183 80 3 = dt 80 3 := h182_6.trans w30
      have w251 : dt183 80 4 = dt 80 4 := h182_7.trans w31
      have w252 : dt183 80 5 = dt 80 5 := h182_8.trans w32
      have M2253 : MW (dt183 81) := MW_frk M2158 hF185 (by decide)
      have C254 : ∀ j : Nat, dt183 2 j = dt 2 j := fun j => (hF185 2 (by decide) j).trans (C159 j)
      have C255 : ∀ j : Nat, dt183 3 j = dt 3 j := fun j => (hF185 3 (by decide) j).trans (C160 j)
      have C256 : ∀ j : Nat, dt183 4 j = dt 4 j := fun j => (hF185 4 (by decide) j).trans (C161 j)
      have C257 : ∀ j : Nat, dt183 5 j = dt 5 j := fun j => (hF185 5 (by decide) j).trans (C162 j)
      have C258 : ∀ j : Nat, dt183 6 j = dt 6 j := fun j => (hF185 6 (by decide) j).trans (C163 j)
      have C259 : ∀ j : Nat, dt183 11 j = dt 11 j := fun j => (hF185 11 (by decide) j).trans (C164 j)
      have C260 : ∀ j : Nat, dt183 19 j = dt 19 j := fun j => (hF185 19 (by decide) j).trans (C165 j)
      have C261 : ∀ j : Nat, dt183 20 j = dt 20 j := fun j => (hF185 20 (by decide) j).trans (C166 j)
      have C262 : ∀ j : Nat, dt183 21 j = dt 21 j := fun j => (hF185 21 (by decide) j).trans (C167 j)
      have C263 : ∀ j : Nat, dt183 22 j = dt 22 j := fun j => (hF185 22 (by decide) j).trans (C168 j)
      have C264 : ∀ j : Nat, dt183 23 j = dt 23 j := fun j => (hF185 23 (by decide) j).trans (C169 j)
      have C265 : ∀ j : Nat, dt183 25 j = dt 25 j := fun j => (hF185 25 (by decide) j).trans (C170 j)
      have C266 : ∀ j : Nat, dt183 26 j = dt 26 j := fun j => (hF185 26 (by decide) j).trans (C171 j)
      have C267 : ∀ j : Nat, dt183 28 j = dt 28 j := fun j => (hF185 28 (by decide) j).trans (C172 j)
      have C268 : ∀ j : Nat, dt183 36 j = dt 36 j := fun j => (hF185 36 (by decide) j).trans (C173 j)
      have C269 : ∀ j : Nat, dt183 81 j = dt 81 j := fun j => (hF185 81 (by decide) j).trans (C175 j)
      have C270 : ∀ j : Nat, dt183 85 j = dt 85 j := fun j => (hF185 85 (by decide) j).trans (C176 j)
      have N271 := fun (j : Nat) (hj : (j : Int) < 5 * dt 7 3) => (hF185 8 (by decide) j).trans (h6_3 j hj)
      have N272 := (hF185 8 (by decide) _).trans h6_4
      have N273 := (hF185 8 (by decide) _).trans h6_5
      have N274 := (hF185 8 (by decide) _).trans h6_6
      have N275 := (hF185 8 (by decide) _).trans h6_7
      have N276 := (hF185 8 (by decide) _).trans h6_8
      have N277 := fun (j : Nat) (hj : j < 11 * (dt 7 3).toNat) => (hF185 9 (by decide) j).trans (h6_9 j hj)
      have N278 := fun (r : Nat) (hr : r ≤ 10) => (hF185 9 (by decide) _).trans (h6_10 r hr)
      have F279 : ∀ j : Nat, 6 ≤ j → j < 974 → dt183 80 j = dt 80 j := fun j h1_ h2_ => (h182_9 j (by omega) (by omega)).trans (C174 j)
      have F280 : ∀ j : Nat, 974 ≤ j → j < 5320 → dt183 80 j = dt 80 j := fun j h1_ h2_ => (h182_9 j (by omega) (by omega)).trans (C174 j)
      have N281 := h182_9
      rw [show dt7 80 = dt 80 from funext C174] at N281
      have N282 := h182_10
      rw [show dt7 80 = dt 80 from funext C174] at N282
      have N283 := h182_11
      rw [show dt7 80 = dt 80 from funext C174] at N283
      have N284 := h182_12
      rw [show dt7 80 = dt 80 from funext C174] at N284
      have N285 := h182_13
      rw [show dt7 80 = dt 80 from funext C174] at N285
      have N286 := h182_14
      rw [show dt7 80 = dt 80 from funext C174] at N286
      have S287 : QRL (dt183 8) (dt183 80) := by first | exact QRL_q hd3 hk1 (by omega) N271 N272 N273 N274 N275 N276 ⟨fun z_ => if_neg z_, fun z_ => if_pos z_⟩ (by omega) N281 N282 N283 N284 N285 N286 | (exfalso; omega)
      have S288 : SDL (dt183 9) (dt183 80) := by first | exact SDL_q hd5 hM hM247 hk1 (by omega) N277 N278 (fun z_ => if_neg z_) (by omega) N281 N282 N283 N284 N285 N286 (by omega) | (exfalso; omega)
      have F289 : ∀ j : Nat, 5380 ≤ j → j < 5540 → dt183 80 j = dt 80 j := fun j h1_ h2_ => (h182_9 j (by omega) (by omega)).trans (C174 j)
      refine go_toq PM267 (k := 2) (pc' := 1435) (L' := [some (.inr (.inr (some 3000))), some (.inr (.inr (some 0))), some (.inr (.inr (some 79))), some (.inl i)]) (st' := []) (w' := (SH, dt183)) rfl ?_
      exact K dt183 hI184 hM247 M2253 (w187.trans (hk0.trans w248.symm)) (by omega) (w189.trans (hk2.trans w249.symm)) (w190.trans (hk3.trans w250.symm)) (w191.trans (hk4.trans w251.symm)) (w192.trans (hk5.trans w252.symm)) (w193.trans (hk6.trans w203.symm)) (w194.trans (hk7.trans w204.symm)) (w195.trans (hk8.trans w205.symm)) (w196.trans (hk9.trans w206.symm)) (w197.trans (hk10.trans w207.symm)) (w198.trans (hk11.trans w208.symm)) (w199.trans (hk12.trans w209.symm)) (w200.trans (hk13.trans w210.symm)) (w201.trans (hk14.trans w211.symm)) (w202.trans (hk15.trans w212.symm)) (by first | exact hI | exact TPL_k hd0 C268 C270 (by omega) | (exfalso; omega)) (by first | exact hI | exact SCL_k hd1 hM (fun j _ => C254 j) (fun j _ => C255 j) F279 | (exfalso; omega)) (by first | exact hI | exact SCL_k hd2 hM2 (fun j _ => C260 j) (fun j _ => C261 j) (fun j _ _ => C269 j) | (exfalso; omega)) (by first | exact S287 | exact QRL_k hd3 hM hI hI hI | (exfalso; omega)) (by first | exact hI | exact QRL_k hd4 hM2 (fun j _ => C265 j) (C269 1) (fun j _ _ => C269 j) | (exfalso; omega)) (by first | exact S288 | exact SDL_k hd5 hM hI hI F279 hI | (exfalso; omega)) (by first | exact hI | exact SDL_k hd6 hM2 (fun j _ => C266 j) (C269 1) (fun j _ _ => C269 j) (fun j _ _ => C269 j) | (exfalso; omega)) (by first | exact hI | exact LWL_k hd7 hM (fun j _ => C256 j) (fun j _ => C257 j) (fun j _ => C258 j) F280 | (exfalso; omega)) (by first | exact hI | exact LWL_k hd8 hM2 (fun j _ => C262 j) (fun j _ => C263 j) (fun j _ => C264 j) (fun j _ _ => C269 j) | (exfalso; omega)) (by first | exact hI | exact CHL_k hd9 hM (fun j _ => C259 j) (by omega) F289 | (exfalso; omega)) (by first | exact hI | exact CHL_k hd10 hM2 (fun j _ => C267 j) (by omega) (fun j _ _ => C269 j) | (exfalso; omega))
set_option maxRecDepth 20000 in
set_option maxHeartbeats 8000000 in
theorem sp_case9 (L : Nat) (xs : Nat → Int32) (sio : Option Nat) (d : Nat) (Q : Option AV → am_W → Prop) (hLL : L ≤ 3072) (i : Int) (hi : 0 ≤ i ∧ i ≤ 3066) (hil : i ≤ (L : Int) - 6) (dt : Nat → Nat → Int) (hI : InvC dt) (hM : MW (dt 80)) (hM2 : MW (dt 81)) (hk0 : dt 1 0 = dt 80 0) (hk1 : dt 7 3 = dt 80 1) (hk2 : dt 10 3 = dt 80 2) (hk3 : dt 12 3 = dt 80 3) (hk4 : dt 14 3 = dt 80 4) (hk5 : dt 16 3 = dt 80 5) (hk6 : dt 18 0 = dt 81 0) (hk7 : dt 24 3 = dt 81 1) (hk8 : dt 27 3 = dt 81 2) (hk9 : dt 29 3 = dt 81 3) (hk10 : dt 31 3 = dt 81 4) (hk11 : dt 33 3 = dt 81 5) (hk12 : dt 0 2 = dt 79 2) (hk13 : dt 35 1 = dt 79 12) (hk14 : dt 35 2 = dt 79 19) (hk15 : dt 35 3 = dt 79 21) (hd0 : TPL (dt 36) (dt 85) (dt 35 1)) (hd1 : SCL (dt 2) (dt 3) (dt 80)) (hd2 : SCL (dt 19) (dt 20) (dt 81)) (hd3 : QRL (dt 8) (dt 80)) (hd4 : QRL (dt 25) (dt 81)) (hd5 : SDL (dt 9) (dt 80)) (hd6 : SDL (dt 26) (dt 81)) (hd7 : LWL (dt 4) (dt 5) (dt 6) (dt 80)) (hd8 : LWL (dt 21) (dt 22) (dt 23) (dt 81)) (hd9 : CHL (dt 11) (dt 80)) (hd10 : CHL (dt 28) (dt 81)) (K : ∀ (dt : Nat → Nat → Int) (hI : InvC dt) (hM : MW (dt 80)) (hM2 : MW (dt 81)) (hk0 : dt 1 0 = dt 80 0) (hk1 : dt 7 3 = dt 80 1) (hk2 : dt 10 3 = dt 80 2) (hk3 : dt 12 3 = dt 80 3) (hk4 : dt 14 3 = dt 80 4) (hk5 : dt 16 3 = dt 80 5) (hk6 : dt 18 0 = dt 81 0) (hk7 : dt 24 3 = dt 81 1) (hk8 : dt 27 3 = dt 81 2) (hk9 : dt 29 3 = dt 81 3) (hk10 : dt 31 3 = dt 81 4) (hk11 : dt 33 3 = dt 81 5) (hk12 : dt 0 2 = dt 79 2) (hk13 : dt 35 1 = dt 79 12) (hk14 : dt 35 2 = dt 79 19) (hk15 : dt 35 3 = dt 79 21) (hd0 : TPL (dt 36) (dt 85) (dt 35 1)) (hd1 : SCL (dt 2) (dt 3) (dt 80)) (hd2 : SCL (dt 19) (dt 20) (dt 81)) (hd3 : QRL (dt 8) (dt 80)) (hd4 : QRL (dt 25) (dt 81)) (hd5 : SDL (dt 9) (dt 80)) (hd6 : SDL (dt 26) (dt 81)) (hd7 : LWL (dt 4) (dt 5) (dt 6) (dt 80)) (hd8 : LWL (dt 21) (dt 22) (dt 23) (dt 81)) (hd9 : CHL (dt 11) (dt 80)) (hd10 : CHL (dt 28) (dt 81)), GO (am_XX L xs sio) (d + 39) 267 1435 [some (.inr (.inr (some 3000))), some (.inr (.inr (some 0))), some (.inr (.inr (some 79))), some (.inl i)] [] (SH, dt) Q) : GO (am_XX L xs sio) (d + 39) 267 557 [some (.inr (.inr (some 3000))), some (.inr (.inr (some 0))), some (.inr (.inr (some 79))), some (.inl i)] [] (SH, dt) Q := by
  have hF : Fr [0, 1, 2, 3, 4, 5, 6, 7, 8, 9, 10, 11, 12, 13, 14, 15, 16, 17, 18, 19, 20, 21, 22, 23, 24, 25, 26, 27, 28, 29, 30, 31, 32, 33, 34, 35, 36, 37, 38, 39, 40, 41, 42, 43, 44, 45, 46, 47, 48, 49, 50, 51, 52, 53, 54, 55, 56, 57, 58, 59, 60, 61, 62, 63, 64, 65, 66, 67, 68, 69, 70, 71, 72, 73, 74, 75, 76, 77, 78, 79, 80, 81, 82, 83, 84, 85, 86, 87, 88, 89, 90, 91, 92, 93, 94, 95, 96, 97, 98, 99, 100, 101, 102, 103, 104] dt dt := Fr_refl
  have hqo := QOC_R hd3 hM hk1
  have hb1_ := hM.1.1
  have hb2_ := hM.1.2.1
  have hb3_ := hM.1.2.2.1
  have halk : ALK dt (dt 80) := ⟨hd7, hd3, hd5, hd9, hk1, hk2⟩
  refine go_toq PM267 (k := 5) (pc' := 562) (L' := [some (.inr (.inr (some 3000))), some (.inr (.inr (some 0))), some (.inr (.inr (some 79))), some (.inl i)]) (st' := [.inl (i + 1), .inr (.inr (some 3000)), .inr (.inr (some 0))]) (w' := (SH, dt)) rfl ?_
  have r1 := i32_R (xs ((i + 1).toNat))
  refine go_smpq PM267 (L' := [some (.inr (.inr (some 3000))), some (.inr (.inr (some 0))), some (.inr (.inr (some 79))), some (.inl i)]) (st' := [.inl ((xs ((i + 1).toNat)).toInt), .inr (.inr (some 0))]) (w' := (SH, dt)) rfl rfl (s_iald (n := L) (f := fun j => (xs j).toInt) (am_scr hLL) ⟨by omega, by omega⟩) ?_
  refine go_toq PM267 (k := 4) (pc' := 567) (L' := [some (.inr (.inr (some 3000))), some (.inr (.inr (some 0))), some (.inr (.inr (some 79))), some (.inl i)]) (st' := [.inl (i + 2), .inr (.inr (some 3000)), .inl ((xs ((i + 1).toNat)).toInt), .inr (.inr (some 0))]) (w' := (SH, dt)) rfl ?_
  have r2 := i32_R (xs ((i + 2).toNat))
  refine go_smpq PM267 (L' := [some (.inr (.inr (some 3000))), some (.inr (.inr (some 0))), some (.inr (.inr (some 79))), some (.inl i)]) (st' := [.inl ((xs ((i + 2).toNat)).toInt), .inl ((xs ((i + 1).toNat)).toInt), .inr (.inr (some 0))]) (w' := (SH, dt)) rfl rfl (s_iald (n := L) (f := fun j => (xs j).toInt) (am_scr hLL) ⟨by omega, by omega⟩) ?_
  refine go_callq PM267 PM76 (Q' := _) rfl rfl rfl rfl (sp_X5_says_f L xs sio (d + 36) dt hI  ((xs ((i + 1).toNat)).toInt) ⟨by omega, by omega⟩ ((xs ((i + 2).toNat)).toInt) ⟨by omega, by omega⟩ ) ?_
  rintro _ _ ⟨rfl, h3⟩
  refine ⟨rfl, ?_⟩
  rcases h3 with ⟨rfl, h3⟩ | ⟨v_h3, rfl, h3r, h3⟩
  · skip
    refine go_toq PM267 (k := 6) (pc' := 577) (L' := [some (.inr (.inr (some 3000))), some (.inr (.inr (some 0))), some (.inr (.inr (some 79))), some (.inl i)]) (st' := [.inl (i + 1), .inr (.inr (some 3000)), .inr (.inr (some 79))]) (w' := (SH, dt)) rfl ?_
    refine go_smpq PM267 (L' := [some (.inr (.inr (some 3000))), some (.inr (.inr (some 0))), some (.inr (.inr (some 79))), some (.inl i)]) (st' := [.inl ((xs ((i + 1).toNat)).toInt), .inr (.inr (some 79))]) (w' := (SH, dt)) rfl rfl (s_iald (n := L) (f := fun j => (xs j).toInt) (am_scr hLL) ⟨by omega, by omega⟩) ?_
    refine go_toq PM267 (k := 4) (pc' := 582) (L' := [some (.inr (.inr (some 3000))), some (.inr (.inr (some 0))), some (.inr (.inr (some 79))), some (.inl i)]) (st' := [.inl (i + 2), .inr (.inr (some 3000)), .inl ((xs ((i + 1).toNat)).toInt), .inr (.inr (some 79))]) (w' := (SH, dt)) rfl ?_
    refine go_smpq PM267 (L' := [some (.inr (.inr (some 3000))), some (.inr (.inr (some 0))), some (.inr (.inr (some 79))), some (.inl i)]) (st' := [.inl ((xs ((i + 2).toNat)).toInt), .inl ((xs ((i + 1).toNat)).toInt), .inr (.inr (some 79))]) (w' := (SH, dt)) rfl rfl (s_iald (n := L) (f := fun j => (xs j).toInt) (am_scr hLL) ⟨by omega, by omega⟩) ?_
    refine go_callq PM267 PM197 (Q' := _) rfl rfl rfl rfl (sp_X6_says_f L xs sio (d + 32) dt hI hM  ((xs ((i + 1).toNat)).toInt) ⟨by omega, by omega⟩ ((xs ((i + 2).toNat)).toInt) ⟨by omega, by omega⟩ ) ?_
    rintro _ _ ⟨dt5, rfl, hI6, hF7, h4⟩
    refine ⟨rfl, ?_⟩
    have hF8 : Fr [0, 1, 2, 3, 4, 5, 6, 7, 8, 9, 10, 11, 12, 13, 14, 15, 16, 17, 18, 19, 20, 21, 22, 23, 24, 25, 26, 27, 28, 29, 30, 31, 32, 33, 34, 35, 36, 37, 38, 39, 40, 41, 42, 43, 44, 45, 46, 47, 48, 49, 50, 51, 52, 53, 54, 55, 56, 57, 58, 59, 60, 61, 62, 63, 64, 65, 66, 67, 68, 69, 70, 71, 72, 73, 74, 75, 76, 77, 78, 79, 80, 81, 82, 83, 84, 85, 86, 87, 88, 89, 90, 91, 92, 93, 94, 95, 96, 97, 98, 99, 100, 101, 102, 103, 104] dt dt5 := Fr_tr hF hF7 (by decide)
    have hM9 : MW (dt5 80) := MW_fr hM hF7 (by decide)
    have w10 : dt5 1 0 = dt 1 0 := hF7 1 (by decide) 0
    have w11 : dt5 7 3 = dt 7 3 := hF7 7 (by decide) 3
    have w12 : dt5 10 3 = dt 10 3 := hF7 10 (by decide) 3
    have w13 : dt5 12 3 = dt 12 3 := hF7 12 (by decide) 3
    have w14 : dt5 14 3 = dt 14 3 := hF7 14 (by decide) 3
    have w15 : dt5 16 3 = dt 16 3 := hF7 16 (by decide) 3
    have w16 : dt5 18 0 = dt 18 0 := hF7 18 (by decide) 0
    have w17 : dt5 24 3 = dt 24 3 := hF7 24 (by decide) 3
    have w18 : dt5 27 3 = dt 27 3 := hF7 27 (by decide) 3
    have w19 : dt5 29 3 = dt 29 3 := hF7 29 (by decide) 3
    have w20 : dt5 31 3 = dt 31 3 := hF7 31 (by decide) 3
    have w21 : dt5 33 3 = dt 33 3 := hF7 33 (by decide) 3
    have w22 : dt5 0 2 = dt 0 2 := hF7 0 (by decide) 2
    have w23 : dt5 35 1 = dt 35 1 := hF7 35 (by decide) 1
    have w24 : dt5 35 2 = dt 35 2 := hF7 35 (by decide) 2
    have w25 : dt5 35 3 = dt 35 3 := hF7 35 (by decide) 3
    have w26 : dt5 80 0 = dt 80 0 := hF7 80 (by decide) 0
    have w27 : dt5 80 1 = dt 80 1 := hF7 80 (by decide) 1
    have w28 : dt5 80 2 = dt 80 2 := hF7 80 (by decide) 2
    have w29 : dt5 80 3 = dt 80 3 := hF7 80 (by decide) 3
    have w30 : dt5 80 4 = dt 80 4 := hF7 80 (by decide) 4
    have w31 : dt5 80 5 = dt 80 5 := hF7 80 (by decide) 5
    have w32 : dt5 81 0 = dt 81 0 := hF7 81 (by decide) 0
    have w33 : dt5 81 1 = dt 81 1 := hF7 81 (by decide) 1
    have w34 : dt5 81 2 = dt 81 2 := hF7 81 (by decide) 2
    have w35 : dt5 81 3 = dt 81 3 := hF7 81 (by decide) 3
    have w36 : dt5 81 4 = dt 81 4 := hF7 81 (by decide) 4
    have w37 : dt5 81 5 = dt 81 5 := hF7 81 (by decide) 5
    have w38 : dt5 79 2 = dt 79 2 := hF7 79 (by decide) 2
    have w39 : dt5 79 12 = dt 79 12 := hF7 79 (by decide) 12
    have w40 : dt5 79 19 = dt 79 19 := hF7 79 (by decide) 19
    have w41 : dt5 79 21 = dt 79 21 := hF7 79 (by decide) 21
    rcases h4 with ⟨rfl, h4⟩ | ⟨v_h4, rfl, h4r, h4⟩
    · skip
      have M242 : MW (dt5 81) := MW_frk hM2 hF7 (by decide)
      have y43 : (0 ≤ ((xs ((i + 1).toNat)).toInt) ∧ ((xs ((i + 1).toNat)).toInt) < dt 7 3) → (0 ≤ ((xs ((i + 2).toNat)).toInt) ∧ ((xs ((i + 2).toNat)).toInt) ≤ 9) → SDC (dt 9) (((xs ((i + 1).toNat)).toInt)).toNat ((xs ((i + 2).toNat)).toInt) = SAID (dt 80) (((xs ((i + 1).toNat)).toInt)).toNat ((xs ((i + 2).toNat)).toInt) := fun h1_ h2_ => SDL_c hd5 (by omega) (by omega)
      replace y43 := hid y43
      have C44 : ∀ j : Nat, dt5 2 j = dt 2 j := fun j => (hF7 2 (by decide) j).trans ((fun _ => rfl) j)
      have C45 : ∀ j : Nat, dt5 3 j = dt 3 j := fun j => (hF7 3 (by decide) j).trans ((fun _ => rfl) j)
      have C46 : ∀ j : Nat, dt5 4 j = dt 4 j := fun j => (hF7 4 (by decide) j).trans ((fun _ => rfl) j)
      have C47 : ∀ j : Nat, dt5 5 j = dt 5 j := fun j => (hF7 5 (by decide) j).trans ((fun _ => rfl) j)
      have C48 : ∀ j : Nat, dt5 6 j = dt 6 j := fun j => (hF7 6 (by decide) j).trans ((fun _ => rfl) j)
      have C49 : ∀ j : Nat, dt5 8 j = dt 8 j := fun j => (hF7 8 (by decide) j).trans ((fun _ => rfl) j)
      have C50 : ∀ j : Nat, dt5 9 j = dt 9 j := fun j => (hF7 9 (by decide) j).trans ((fun _ => rfl) j)
      have C51 : ∀ j : Nat, dt5 11 j = dt 11 j := fun j => (hF7 11 (by decide) j).trans ((fun _ => rfl) j)
      have C52 : ∀ j : Nat, dt5 19 j = dt 19 j := fun j => (hF7 19 (by decide) j).trans ((fun _ => rfl) j)
      have C53 : ∀ j : Nat, dt5 20 j = dt 20 j := fun j => (hF7 20 (by decide) j).trans ((fun _ => rfl) j)
      have C54 : ∀ j : Nat, dt5 21 j = dt 21 j := fun j => (hF7 21 (by decide) j).trans ((fun _ => rfl) j)
      have C55 : ∀ j : Nat, dt5 22 j = dt 22 j := fun j => (hF7 22 (by decide) j).trans ((fun _ => rfl) j)
      have C56 : ∀ j : Nat, dt5 23 j = dt 23 j := fun j => (hF7 23 (by decide) j).trans ((fun _ => rfl) j)
      have C57 : ∀ j : Nat, dt5 25 j = dt 25 j := fun j => (hF7 25 (by decide) j).trans ((fun _ => rfl) j)
      have C58 : ∀ j : Nat, dt5 26 j = dt 26 j := fun j => (hF7 26 (by decide) j).trans ((fun _ => rfl) j)
      have C59 : ∀ j : Nat, dt5 28 j = dt 28 j := fun j => (hF7 28 (by decide) j).trans ((fun _ => rfl) j)
      have C60 : ∀ j : Nat, dt5 36 j = dt 36 j := fun j => (hF7 36 (by decide) j).trans ((fun _ => rfl) j)
      have C61 : ∀ j : Nat, dt5 80 j = dt 80 j := fun j => (hF7 80 (by decide) j).trans ((fun _ => rfl) j)
      have C62 : ∀ j : Nat, dt5 81 j = dt 81 j := fun j => (hF7 81 (by decide) j).trans ((fun _ => rfl) j)
      have C63 : ∀ j : Nat, dt5 85 j = dt 85 j := fun j => (hF7 85 (by decide) j).trans ((fun _ => rfl) j)
      refine go_toq PM267 (k := 2) (pc' := 1435) (L' := [some (.inr (.inr (some 3000))), some (.inr (.inr (some 0))), some (.inr (.inr (some 79))), some (.inl i)]) (st' := []) (w' := (SH, dt5)) rfl ?_
      exact K dt5 hI6 hM9 M242 (w10.trans (hk0.trans w26.symm)) (w11.trans (hk1.trans w27.symm)) (w12.trans (hk2.trans w28.symm)) (w13.trans (hk3.trans w29.symm)) (w14.trans (hk4.trans w30.symm)) (w15.trans (hk5.trans w31.symm)) (w16.trans (hk6.trans w32.symm)) (w17.trans (hk7.trans w33.symm)) (w18.trans (hk8.trans w34.symm)) (w19.trans (hk9.trans w35.symm)) (w20.trans (hk10.trans w36.symm)) (w21.trans (hk11.trans w37.symm)) (w22.trans (hk12.trans w38.symm)) (w23.trans (hk13.trans w39.symm)) (w24.trans (hk14.trans w40.symm)) (w25.trans (hk15.trans w41.symm)) (by first | exact hI | exact TPL_k hd0 C60 C63 (by (first | omega | (have z0_ := unhid y43; omega))) | (exfalso; (first | omega | (have z0_ := unhid y43; omega)))) (by first | exact hI | exact SCL_k hd1 hM (fun j _ => C44 j) (fun j _ => C45 j) (fun j _ _ => C61 j) | (exfalso; (first | omega | (have z0_ := unhid y43; omega)))) (by first | exact hI | exact SCL_k hd2 hM2 (fun j _ => C52 j) (fun j _ => C53 j) (fun j _ _ => C62 j) | (exfalso; (first | omega | (have z0_ := unhid y43; omega)))) (by first | exact hI | exact QRL_k hd3 hM (fun j _ => C49 j) (C61 1) (fun j _ _ => C61 j) | (exfalso; (first | omega | (have z0_ := unhid y43; omega)))) (by first | exact hI | exact QRL_k hd4 hM2 (fun j _ => C57 j) (C62 1) (fun j _ _ => C62 j) | (exfalso; (first | omega | (have z0_ := unhid y43; omega)))) (by first | exact hI | exact SDL_k hd5 hM (fun j _ => C50 j) (C61 1) (fun j _ _ => C61 j) (fun j _ _ => C61 j) | (exfalso; (first | omega | (have z0_ := unhid y43; omega)))) (by first | exact hI | exact SDL_k hd6 hM2 (fun j _ => C58 j) (C62 1) (fun j _ _ => C62 j) (fun j _ _ => C62 j) | (exfalso; (first | omega | (have z0_ := unhid y43; omega)))) (by first | exact hI | exact LWL_k hd7 hM (fun j _ => C46 j) (fun j _ => C47 j) (fun j _ => C48 j) (fun j _ _ => C61 j) | (exfalso; (first | omega | (have z0_ := unhid y43; omega)))) (by first | exact hI | exact LWL_k hd8 hM2 (fun j _ => C54 j) (fun j _ => C55 j) (fun j _ => C56 j) (fun j _ _ => C62 j) | (exfalso; (first | omega | (have z0_ := unhid y43; omega)))) (by first | exact hI | exact CHL_k hd9 hM (fun j _ => C51 j) (by (first | omega | (have z0_ := unhid y43; omega))) (fun j _ _ => C61 j) | (exfalso; (first | omega | (have z0_ := unhid y43; omega)))) (by first | exact hI | exact CHL_k hd10 hM2 (fun j _ => C59 j) (by (first | omega | (have z0_ := unhid y43; omega))) (fun j _ _ => C62 j) | (exfalso; (first | omega | (have z0_ := unhid y43; omega))))
    · skip
      obtain ⟨h4_0, h4_1⟩ := h4
      have M264 : MW (dt5 81) := MW_frk hM2 hF7 (by decide)
      have y65 : (0 ≤ ((xs ((i + 1).toNat)).toInt) ∧ ((xs ((i + 1).toNat)).toInt) < dt 7 3) → (0 ≤ ((xs ((i + 2).toNat)).toInt) ∧ ((xs ((i + 2).toNat)).toInt) ≤ 9) → SDC (dt 9) (((xs ((i + 1).toNat)).toInt)).toNat ((xs ((i + 2).toNat)).toInt) = SAID (dt 80) (((xs ((i + 1).toNat)).toInt)).toNat ((xs ((i + 2).toNat)).toInt) := fun h1_ h2_ => SDL_c hd5 (by omega) (by omega)
      replace y65 := hid y65
      have C66 : ∀ j : Nat, dt5 2 j = dt 2 j := fun j => (hF7 2 (by decide) j).trans ((fun _ => rfl) j)
      have C67 : ∀ j : Nat, dt5 3 j = dt 3 j := fun j => (hF7 3 (by decide) j).trans ((fun _ => rfl) j)
      have C68 : ∀ j : Nat, dt5 4 j = dt 4 j := fun j => (hF7 4 (by decide) j).trans ((fun _ => rfl) j)
      have C69 : ∀ j : Nat, dt5 5 j = dt 5 j := fun j => (hF7 5 (by decide) j).trans ((fun _ => rfl) j)
      have C70 : ∀ j : Nat, dt5 6 j = dt 6 j := fun j => (hF7 6 (by decide) j).trans ((fun _ => rfl) j)
      have C71 : ∀ j : Nat, dt5 8 j = dt 8 j := fun j => (hF7 8 (by decide) j).trans ((fun _ => rfl) j)
      have C72 : ∀ j : Nat, dt5 9 j = dt 9 j := fun j => (hF7 9 (by decide) j).trans ((fun _ => rfl) j)
      have C73 : ∀ j : Nat, dt5 11 j = dt 11 j := fun j => (hF7 11 (by decide) j).trans ((fun _ => rfl) j)
      have C74 : ∀ j : Nat, dt5 19 j = dt 19 j := fun j => (hF7 19 (by decide) j).trans ((fun _ => rfl) j)
      have C75 : ∀ j : Nat, dt5 20 j = dt 20 j := fun j => (hF7 20 (by decide) j).trans ((fun _ => rfl) j)
      have C76 : ∀ j : Nat, dt5 21 j = dt 21 j := fun j => (hF7 21 (by decide) j).trans ((fun _ => rfl) j)
      have C77 : ∀ j : Nat, dt5 22 j = dt 22 j := fun j => (hF7 22 (by decide) j).trans ((fun _ => rfl) j)
      have C78 : ∀ j : Nat, dt5 23 j = dt 23 j := fun j => (hF7 23 (by decide) j).trans ((fun _ => rfl) j)
      have C79 : ∀ j : Nat, dt5 25 j = dt 25 j := fun j => (hF7 25 (by decide) j).trans ((fun _ => rfl) j)
      have C80 : ∀ j : Nat, dt5 26 j = dt 26 j := fun j => (hF7 26 (by decide) j).trans ((fun _ => rfl) j)
      have C81 : ∀ j : Nat, dt5 28 j = dt 28 j := fun j => (hF7 28 (by decide) j).trans ((fun _ => rfl) j)
      have C82 : ∀ j : Nat, dt5 36 j = dt 36 j := fun j => (hF7 36 (by decide) j).trans ((fun _ => rfl) j)
      have C83 : ∀ j : Nat, dt5 80 j = dt 80 j := fun j => (hF7 80 (by decide) j).trans ((fun _ => rfl) j)
      have C84 : ∀ j : Nat, dt5 81 j = dt 81 j := fun j => (hF7 81 (by decide) j).trans ((fun _ => rfl) j)
      have C85 : ∀ j : Nat, dt5 85 j = dt 85 j := fun j => (hF7 85 (by decide) j).trans ((fun _ => rfl) j)
      refine go_toq PM267 (k := 2) (pc' := 1435) (L' := [some (.inr (.inr (some 3000))), some (.inr (.inr (some 0))), some (.inr (.inr (some 79))), some (.inl i)]) (st' := []) (w' := (SH, dt5)) rfl ?_
      exact K dt5 hI6 hM9 M264 (w10.trans (hk0.trans w26.symm)) (w11.trans (hk1.trans w27.symm)) (w12.trans (hk2.trans w28.symm)) (w13.trans (hk3.trans w29.symm)) (w14.trans (hk4.trans w30.symm)) (w15.trans (hk5.trans w31.symm)) (w16.trans (hk6.trans w32.symm)) (w17.trans (hk7.trans w33.symm)) (w18.trans (hk8.trans w34.symm)) (w19.trans (hk9.trans w35.symm)) (w20.trans (hk10.trans w36.symm)) (w21.trans (hk11.trans w37.symm)) (w22.trans (hk12.trans w38.symm)) (w23.trans (hk13.trans w39.symm)) (w24.trans (hk14.trans w40.symm)) (w25.trans (hk15.trans w41.symm)) (by first | exact hI | exact TPL_k hd0 C82 C85 (by (first | omega | (have z0_ := unhid y65; omega))) | (exfalso; (first | omega | (have z0_ := unhid y65; omega)))) (by first | exact hI | exact SCL_k hd1 hM (fun j _ => C66 j) (fun j _ => C67 j) (fun j _ _ => C83 j) | (exfalso; (first | omega | (have z0_ := unhid y65; omega)))) (by first | exact hI | exact SCL_k hd2 hM2 (fun j _ => C74 j) (fun j _ => C75 j) (fun j _ _ => C84 j) | (exfalso; (first | omega | (have z0_ := unhid y65; omega)))) (by first | exact hI | exact QRL_k hd3 hM (fun j _ => C71 j) (C83 1) (fun j _ _ => C83 j) | (exfalso; (first | omega | (have z0_ := unhid y65; omega)))) (by first | exact hI | exact QRL_k hd4 hM2 (fun j _ => C79 j) (C84 1) (fun j _ _ => C84 j) | (exfalso; (first | omega | (have z0_ := unhid y65; omega)))) (by first | exact hI | exact SDL_k hd5 hM (fun j _ => C72 j) (C83 1) (fun j _ _ => C83 j) (fun j _ _ => C83 j) | (exfalso; (first | omega | (have z0_ := unhid y65; omega)))) (by first | exact hI | exact SDL_k hd6 hM2 (fun j _ => C80 j) (C84 1) (fun j _ _ => C84 j) (fun j _ _ => C84 j) | (exfalso; (first | omega | (have z0_ := unhid y65; omega)))) (by first | exact hI | exact LWL_k hd7 hM (fun j _ => C68 j) (fun j _ => C69 j) (fun j _ => C70 j) (fun j _ _ => C83 j) | (exfalso; (first | omega | (have z0_ := unhid y65; omega)))) (by first | exact hI | exact LWL_k hd8 hM2 (fun j _ => C76 j) (fun j _ => C77 j) (fun j _ => C78 j) (fun j _ _ => C84 j) | (exfalso; (first | omega | (have z0_ := unhid y65; omega)))) (by first | exact hI | exact CHL_k hd9 hM (fun j _ => C73 j) (by (first | omega | (have z0_ := unhid y65; omega))) (fun j _ _ => C83 j) | (exfalso; (first | omega | (have z0_ := unhid y65; omega)))) (by first | exact hI | exact CHL_k hd10 hM2 (fun j _ => C81 j) (by (first | omega | (have z0_ := unhid y65; omega))) (fun j _ _ => C84 j) | (exfalso; (first | omega | (have z0_ := unhid y65; omega))))
  · skip
    obtain ⟨h3_0, h3_1⟩ := h3
    refine go_toq PM267 (k := 6) (pc' := 577) (L' := [some (.inr (.inr (some 3000))), some (.inr (.inr (some 0))), some (.inr (.inr (some 79))), some (.inl i)]) (st' := [.inl (i + 1), .inr (.inr (some 3000)), .inr (.inr (some 79))]) (w' := (SH, dt)) rfl ?_
    refine go_smpq PM267 (L' := [some (.inr (.inr (some 3000))), some (.inr (.inr (some 0))), some (.inr (.inr (some 79))), some (.inl i)]) (st' := [.inl ((xs ((i + 1).toNat)).toInt), .inr (.inr (some 79))]) (w' := (SH, dt)) rfl rfl (s_iald (n := L) (f := fun j => (xs j).toInt) (am_scr hLL) ⟨by omega, by omega⟩) ?_
    refine go_toq PM267 (k := 4) (pc' := 582) (L' := [some (.inr (.inr (some 3000))), some (.inr (.inr (some 0))), some (.inr (.inr (some 79))), some (.inl i)]) (st' := [.inl (i + 2), .inr (.inr (some 3000)), .inl ((xs ((i + 1).toNat)).toInt), .inr (.inr (some 79))]) (w' := (SH, dt)) rfl ?_
    refine go_smpq PM267 (L' := [some (.inr (.inr (some 3000))), some (.inr (.inr (some 0))), some (.inr (.inr (some 79))), some (.inl i)]) (st' := [.inl ((xs ((i + 2).toNat)).toInt), .inl ((xs ((i + 1).toNat)).toInt), .inr (.inr (some 79))]) (w' := (SH, dt)) rfl rfl (s_iald (n := L) (f := fun j => (xs j).toInt) (am_scr hLL) ⟨by omega, by omega⟩) ?_
    refine go_callq PM267 PM197 (Q' := _) rfl rfl rfl rfl (sp_X6_says_f L xs sio (d + 32) dt hI hM  ((xs ((i + 1).toNat)).toInt) ⟨by omega, by omega⟩ ((xs ((i + 2).toNat)).toInt) ⟨by omega, by omega⟩ ) ?_
    rintro _ _ ⟨dt87, rfl, hI88, hF89, h86⟩
    refine ⟨rfl, ?_⟩
    have hF90 : Fr [0, 1, 2, 3, 4, 5, 6, 7, 8, 9, 10, 11, 12, 13, 14, 15, 16, 17, 18, 19, 20, 21, 22, 23, 24, 25, 26, 27, 28, 29, 30, 31, 32, 33, 34, 35, 36, 37, 38, 39, 40, 41, 42, 43, 44, 45, 46, 47, 48, 49, 50, 51, 52, 53, 54, 55, 56, 57, 58, 59, 60, 61, 62, 63, 64, 65, 66, 67, 68, 69, 70, 71, 72, 73, 74, 75, 76, 77, 78, 79, 80, 81, 82, 83, 84, 85, 86, 87, 88, 89, 90, 91, 92, 93, 94, 95, 96, 97, 98, 99, 100, 101, 102, 103, 104] dt dt87 := Fr_tr hF hF89 (by decide)
    have hM91 : MW (dt87 80) := MW_fr hM hF89 (by decide)
    have w92 : dt87 1 0 = dt 1 0 := hF89 1 (by decide) 0
    have w93 : dt87 7 3 = dt 7 3 := hF89 7 (by decide) 3
    have w94 : dt87 10 3 = dt 10 3 := hF89 10 (by decide) 3
    have w95 : dt87 12 3 = dt 12 3 := hF89 12 (by decide) 3
    have w96 : dt87 14 3 = dt 14 3 := hF89 14 (by decide) 3
    have w97 : dt87 16 3 = dt 16 3 := hF89 16 (by decide) 3
    have w98 : dt87 18 0 = dt 18 0 := hF89 18 (by decide) 0
    have w99 : dt87 24 3 = dt 24 3 := hF89 24 (by decide) 3
    have w100 : dt87 27 3 = dt 27 3 := hF89 27 (by decide) 3
    have w101 : dt87 29 3 = dt 29 3 := hF89 29 (by decide) 3
    have w102 : dt87 31 3 = dt 31 3 := hF89 31 (by decide) 3
    have w103 : dt87 33 3 = dt 33 3 := hF89 33 (by decide) 3
    have w104 : dt87 0 2 = dt 0 2 := hF89 0 (by decide) 2
    have w105 : dt87 35 1 = dt 35 1 := hF89 35 (by decide) 1
    have w106 : dt87 35 2 = dt 35 2 := hF89 35 (by decide) 2
    have w107 : dt87 35 3 = dt 35 3 := hF89 35 (by decide) 3
    have w108 : dt87 80 0 = dt 80 0 := hF89 80 (by decide) 0
    have w109 : dt87 80 1 = dt 80 1 := hF89 80 (by decide) 1
    have w110 : dt87 80 2 = dt 80 2 := hF89 80 (by decide) 2
    have w111 : dt87 80 3 = dt 80 3 := hF89 80 (by decide) 3
    have w112 : dt87 80 4 = dt 80 4 := hF89 80 (by decide) 4
    have w113 : dt87 80 5 = dt 80 5 := hF89 80 (by decide) 5
    have w114 : dt87 81 0 = dt 81 0 := hF89 81 (by decide) 0
    have w115 : dt87 81 1 = dt 81 1 := hF89 81 (by decide) 1
    have w116 : dt87 81 2 = dt 81 2 := hF89 81 (by decide) 2
    have w117 : dt87 81 3 = dt 81 3 := hF89 81 (by decide) 3
    have w118 : dt87 81 4 = dt 81 4 := hF89 81 (by decide) 4
    have w119 : dt87 81 5 = dt 81 5 := hF89 81 (by decide) 5
    have w120 : dt87 79 2 = dt 79 2 := hF89 79 (by decide) 2
    have w121 : dt87 79 12 = dt 79 12 := hF89 79 (by decide) 12
    have w122 : dt87 79 19 = dt 79 19 := hF89 79 (by decide) 19
    have w123 : dt87 79 21 = dt 79 21 := hF89 79 (by decide) 21
    rcases h86 with ⟨rfl, h86⟩ | ⟨v_h86, rfl, h86r, h86⟩
    · skip
      have M2124 : MW (dt87 81) := MW_frk hM2 hF89 (by decide)
      have y125 : (0 ≤ ((xs ((i + 1).toNat)).toInt) ∧ ((xs ((i + 1).toNat)).toInt) < dt 7 3) → (0 ≤ ((xs ((i + 2).toNat)).toInt) ∧ ((xs ((i + 2).toNat)).toInt) ≤ 9) → SDC (dt 9) (((xs ((i + 1).toNat)).toInt)).toNat ((xs ((i + 2).toNat)).toInt) = SAID (dt 80) (((xs ((i + 1).toNat)).toInt)).toNat ((xs ((i + 2).toNat)).toInt) := fun h1_ h2_ => SDL_c hd5 (by omega) (by omega)
      replace y125 := hid y125
      have C126 : ∀ j : Nat, dt87 2 j = dt 2 j := fun j => (hF89 2 (by decide) j).trans ((fun _ => rfl) j)
      have C127 : ∀ j : Nat, dt87 3 j = dt 3 j := fun j => (hF89 3 (by decide) j).trans ((fun _ => rfl) j)
      have C128 : ∀ j : Nat, dt87 4 j = dt 4 j := fun j => (hF89 4 (by decide) j).trans ((fun _ => rfl) j)
      have C129 : ∀ j : Nat, dt87 5 j = dt 5 j := fun j => (hF89 5 (by decide) j).trans ((fun _ => rfl) j)
      have C130 : ∀ j : Nat, dt87 6 j = dt 6 j := fun j => (hF89 6 (by decide) j).trans ((fun _ => rfl) j)
      have C131 : ∀ j : Nat, dt87 8 j = dt 8 j := fun j => (hF89 8 (by decide) j).trans ((fun _ => rfl) j)
      have C132 : ∀ j : Nat, dt87 9 j = dt 9 j := fun j => (hF89 9 (by decide) j).trans ((fun _ => rfl) j)
      have C133 : ∀ j : Nat, dt87 11 j = dt 11 j := fun j => (hF89 11 (by decide) j).trans ((fun _ => rfl) j)
      have C134 : ∀ j : Nat, dt87 19 j = dt 19 j := fun j => (hF89 19 (by decide) j).trans ((fun _ => rfl) j)
      have C135 : ∀ j : Nat, dt87 20 j = dt 20 j := fun j => (hF89 20 (by decide) j).trans ((fun _ => rfl) j)
      have C136 : ∀ j : Nat, dt87 21 j = dt 21 j := fun j => (hF89 21 (by decide) j).trans ((fun _ => rfl) j)
      have C137 : ∀ j : Nat, dt87 22 j = dt 22 j := fun j => (hF89 22 (by decide) j).trans ((fun _ => rfl) j)
      have C138 : ∀ j : Nat, dt87 23 j = dt 23 j := fun j => (hF89 23 (by decide) j).trans ((fun _ => rfl) j)
      have C139 : ∀ j : Nat, dt87 25 j = dt 25 j := fun j => (hF89 25 (by decide) j).trans ((fun _ => rfl) j)
      have C140 : ∀ j : Nat, dt87 26 j = dt 26 j := fun j => (hF89 26 (by decide) j).trans ((fun _ => rfl) j)
      have C141 : ∀ j : Nat, dt87 28 j = dt 28 j := fun j => (hF89 28 (by decide) j).trans ((fun _ => rfl) j)
      have C142 : ∀ j : Nat, dt87 36 j = dt 36 j := fun j => (hF89 36 (by decide) j).trans ((fun _ => rfl) j)
      have C143 : ∀ j : Nat, dt87 80 j = dt 80 j := fun j => (hF89 80 (by decide) j).trans ((fun _ => rfl) j)
      have C144 : ∀ j : Nat, dt87 81 j = dt 81 j := fun j => (hF89 81 (by decide) j).trans ((fun _ => rfl) j)
      have C145 : ∀ j : Nat, dt87 85 j = dt 85 j := fun j => (hF89 85 (by decide) j).trans ((fun _ => rfl) j)
      refine go_toq PM267 (k := 2) (pc' := 1435) (L' := [some (.inr (.inr (some 3000))), some (.inr (.inr (some 0))), some (.inr (.inr (some 79))), some (.inl i)]) (st' := []) (w' := (SH, dt87)) rfl ?_
      exact K dt87 hI88 hM91 M2124 (w92.trans (hk0.trans w108.symm)) (w93.trans (hk1.trans w109.symm)) (w94.trans (hk2.trans w110.symm)) (w95.trans (hk3.trans w111.symm)) (w96.trans (hk4.trans w112.symm)) (w97.trans (hk5.trans w113.symm)) (w98.trans (hk6.trans w114.symm)) (w99.trans (hk7.trans w115.symm)) (w100.trans (hk8.trans w116.symm)) (w101.trans (hk9.trans w117.symm)) (w102.trans (hk10.trans w118.symm)) (w103.trans (hk11.trans w119.symm)) (w104.trans (hk12.trans w120.symm)) (w105.trans (hk13.trans w121.symm)) (w106.trans (hk14.trans w122.symm)) (w107.trans (hk15.trans w123.symm)) (by first | exact hI | exact TPL_k hd0 C142 C145 (by (first | omega | (have z0_ := unhid y125; omega))) | (exfalso; (first | omega | (have z0_ := unhid y125; omega)))) (by first | exact hI | exact SCL_k hd1 hM (fun j _ => C126 j) (fun j _ => C127 j) (fun j _ _ => C143 j) | (exfalso; (first | omega | (have z0_ := unhid y125; omega)))) (by first | exact hI | exact SCL_k hd2 hM2 (fun j _ => C134 j) (fun j _ => C135 j) (fun j _ _ => C144 j) | (exfalso; (first | omega | (have z0_ := unhid y125; omega)))) (by first | exact hI | exact QRL_k hd3 hM (fun j _ => C131 j) (C143 1) (fun j _ _ => C143 j) | (exfalso; (first | omega | (have z0_ := unhid y125; omega)))) (by first | exact hI | exact QRL_k hd4 hM2 (fun j _ => C139 j) (C144 1) (fun j _ _ => C144 j) | (exfalso; (first | omega | (have z0_ := unhid y125; omega)))) (by first | exact hI | exact SDL_k hd5 hM (fun j _ => C132 j) (C143 1) (fun j _ _ => C143 j) (fun j _ _ => C143 j) | (exfalso; (first | omega | (have z0_ := unhid y125; omega)))) (by first | exact hI | exact SDL_k hd6 hM2 (fun j _ => C140 j) (C144 1) (fun j _ _ => C144 j) (fun j _ _ => C144 j) | (exfalso; (first | omega | (have z0_ := unhid y125; omega)))) (by first | exact hI | exact LWL_k hd7 hM (fun j _ => C128 j) (fun j _ => C129 j) (fun j _ => C130 j) (fun j _ _ => C143 j) | (exfalso; (first | omega | (have z0_ := unhid y125; omega)))) (by first | exact hI | exact LWL_k hd8 hM2 (fun j _ => C136 j) (fun j _ => C137 j) (fun j _ => C138 j) (fun j _ _ => C144 j) | (exfalso; (first | omega | (have z0_ := unhid y125; omega)))) (by first | exact hI | exact CHL_k hd9 hM (fun j _ => C133 j) (by (first | omega | (have z0_ := unhid y125; omega))) (fun j _ _ => C143 j) | (exfalso; (first | omega | (have z0_ := unhid y125; omega)))) (by first | exact hI | exact CHL_k hd10 hM2 (fun j _ => C141 j) (by (first | omega | (have z0_ := unhid y125; omega))) (fun j _ _ => C144 j) | (exfalso; (first | omega | (have z0_ := unhid y125; omega))))
    · skip
      obtain ⟨h86_0, h86_1⟩ := h86
      have M2146 : MW (dt87 81) := MW_frk hM2 hF89 (by decide)
      have y147 : (0 ≤ ((xs ((i + 1).toNat)).toInt) ∧ ((xs ((i + 1).toNat)).toInt) < dt 7 3) → (0 ≤ ((xs ((i + 2).toNat)).toInt) ∧ ((xs ((i + 2).toNat)).toInt) ≤ 9) → SDC (dt 9) (((xs ((i + 1).toNat)).toInt)).toNat ((xs ((i + 2).toNat)).toInt) = SAID (dt 80) (((xs ((i + 1).toNat)).toInt)).toNat ((xs ((i + 2).toNat)).toInt) := fun h1_ h2_ => SDL_c hd5 (by omega) (by omega)
      replace y147 := hid y147
      have C148 : ∀ j : Nat, dt87 2 j = dt 2 j := fun j => (hF89 2 (by decide) j).trans ((fun _ => rfl) j)
      have C149 : ∀ j : Nat, dt87 3 j = dt 3 j := fun j => (hF89 3 (by decide) j).trans ((fun _ => rfl) j)
      have C150 : ∀ j : Nat, dt87 4 j = dt 4 j := fun j => (hF89 4 (by decide) j).trans ((fun _ => rfl) j)
      have C151 : ∀ j : Nat, dt87 5 j = dt 5 j := fun j => (hF89 5 (by decide) j).trans ((fun _ => rfl) j)
      have C152 : ∀ j : Nat, dt87 6 j = dt 6 j := fun j => (hF89 6 (by decide) j).trans ((fun _ => rfl) j)
      have C153 : ∀ j : Nat, dt87 8 j = dt 8 j := fun j => (hF89 8 (by decide) j).trans ((fun _ => rfl) j)
      have C154 : ∀ j : Nat, dt87 9 j = dt 9 j := fun j => (hF89 9 (by decide) j).trans ((fun _ => rfl) j)
      have C155 : ∀ j : Nat, dt87 11 j = dt 11 j := fun j => (hF89 11 (by decide) j).trans ((fun _ => rfl) j)
      have C156 : ∀ j : Nat, dt87 19 j = dt 19 j := fun j => (hF89 19 (by decide) j).trans ((fun _ => rfl) j)
      have C157 : ∀ j : Nat, dt87 20 j = dt 20 j := fun j => (hF89 20 (by decide) j).trans ((fun _ => rfl) j)
      have C158 : ∀ j : Nat, dt87 21 j = dt 21 j := fun j => (hF89 21 (by decide) j).trans ((fun _ => rfl) j)
      have C159 : ∀ j : Nat, dt87 22 j = dt 22 j := fun j => (hF89 22 (by decide) j).trans ((fun _ => rfl) j)
      have C160 : ∀ j : Nat, dt87 23 j = dt 23 j := fun j => (hF89 23 (by decide) j).trans ((fun _ => rfl) j)
      have C161 : ∀ j : Nat, dt87 25 j = dt 25 j := fun j => (hF89 25 (by decide) j).trans ((fun _ => rfl) j)
      have C162 : ∀ j : Nat, dt87 26 j = dt 26 j := fun j => (hF89 26 (by decide) j).trans ((fun _ => rfl) j)
      have C163 : ∀ j : Nat, dt87 28 j = dt 28 j := fun j => (hF89 28 (by decide) j).trans ((fun _ => rfl) j)
      have C164 : ∀ j : Nat, dt87 36 j = dt 36 j := fun j => (hF89 36 (by decide) j).trans ((fun _ => rfl) j)
      have C165 : ∀ j : Nat, dt87 80 j = dt 80 j := fun j => (hF89 80 (by decide) j).trans ((fun _ => rfl) j)
      have C166 : ∀ j : Nat, dt87 81 j = dt 81 j := fun j => (hF89 81 (by decide) j).trans ((fun _ => rfl) j)
      have C167 : ∀ j : Nat, dt87 85 j = dt 85 j := fun j => (hF89 85 (by decide) j).trans ((fun _ => rfl) j)
      refine go_toq PM267 (k := 2) (pc' := 1435) (L' := [some (.inr (.inr (some 3000))), some (.inr (.inr (some 0))), some (.inr (.inr (some 79))), some (.inl i)]) (st' := []) (w' := (SH, dt87)) rfl ?_
      exact K dt87 hI88 hM91 M2146 (w92.trans (hk0.trans w108.symm)) (w93.trans (hk1.trans w109.symm)) (w94.trans (hk2.trans w110.symm)) (w95.trans (hk3.trans w111.symm)) (w96.trans (hk4.trans w112.symm)) (w97.trans (hk5.trans w113.symm)) (w98.trans (hk6.trans w114.symm)) (w99.trans (hk7.trans w115.symm)) (w100.trans (hk8.trans w116.symm)) (w101.trans (hk9.trans w117.symm)) (w102.trans (hk10.trans w118.symm)) (w103.trans (hk11.trans w119.symm)) (w104.trans (hk12.trans w120.symm)) (w105.trans (hk13.trans w121.symm)) (w106.trans (hk14.trans w122.symm)) (w107.trans (hk15.trans w123.symm)) (by first | exact hI | exact TPL_k hd0 C164 C167 (by (first | omega | (have z0_ := unhid y147; omega))) | (exfalso; (first | omega | (have z0_ := unhid y147; omega)))) (by first | exact hI | exact SCL_k hd1 hM (fun j _ => C148 j) (fun j _ => C149 j) (fun j _ _ => C165 j) | (exfalso; (first | omega | (have z0_ := unhid y147; omega)))) (by first | exact hI | exact SCL_k hd2 hM2 (fun j _ => C156 j) (fun j _ => C157 j) (fun j _ _ => C166 j) | (exfalso; (first | omega | (have z0_ := unhid y147; omega)))) (by first | exact hI | exact QRL_k hd3 hM (fun j _ => C153 j) (C165 1) (fun j _ _ => C165 j) | (exfalso; (first | omega | (have z0_ := unhid y147; omega)))) (by first | exact hI | exact QRL_k hd4 hM2 (fun j _ => C161 j) (C166 1) (fun j _ _ => C166 j) | (exfalso; (first | omega | (have z0_ := unhid y147; omega)))) (by first | exact hI | exact SDL_k hd5 hM (fun j _ => C154 j) (C165 1) (fun j _ _ => C165 j) (fun j _ _ => C165 j) | (exfalso; (first | omega | (have z0_ := unhid y147; omega)))) (by first | exact hI | exact SDL_k hd6 hM2 (fun j _ => C162 j) (C166 1) (fun j _ _ => C166 j) (fun j _ _ => C166 j) | (exfalso; (first | omega | (have z0_ := unhid y147; omega)))) (by first | exact hI | exact LWL_k hd7 hM (fun j _ => C150 j) (fun j _ => C151 j) (fun j _ => C152 j) (fun j _ _ => C165 j) | (exfalso; (first | omega | (have z0_ := unhid y147; omega)))) (by first | exact hI | exact LWL_k hd8 hM2 (fun j _ => C158 j) (fun j _ => C159 j) (fun j _ => C160 j) (fun j _ _ => C166 j) | (exfalso; (first | omega | (have z0_ := unhid y147; omega)))) (by first | exact hI | exact CHL_k hd9 hM (fun j _ => C155 j) (by (first | omega | (have z0_ := unhid y147; omega))) (fun j _ _ => C165 j) | (exfalso; (first | omega | (have z0_ := unhid y147; omega)))) (by first | exact hI | exact CHL_k hd10 hM2 (fun j _ => C163 j) (by (first | omega | (have z0_ := unhid y147; omega))) (fun j _ _ => C166 j) | (exfalso; (first | omega | (have z0_ := unhid y147; omega))))
set_option maxRecDepth 20000 in
set_option maxHeartbeats 8000000 in
theorem sp_case10 (L : Nat) (xs : Nat → Int32) (sio : Option Nat) (d : Nat) (Q : Option AV → am_W → Prop) (hLL : L ≤ 3072) (i : Int) (hi : 0 ≤ i ∧ i ≤ 3066) (hil : i ≤ (L : Int) - 6) (dt : Nat → Nat → Int) (hI : InvC dt) (hM : MW (dt 80)) (hM2 : MW (dt 81)) (hk0 : dt 1 0 = dt 80 0) (hk1 : dt 7 3 = dt 80 1) (hk2 : dt 10 3 = dt 80 2) (hk3 : dt 12 3 = dt 80 3) (hk4 : dt 14 3 = dt 80 4) (hk5 : dt 16 3 = dt 80 5) (hk6 : dt 18 0 = dt 81 0) (hk7 : dt 24 3 = dt 81 1) (hk8 : dt 27 3 = dt 81 2) (hk9 : dt 29 3 = dt 81 3) (hk10 : dt 31 3 = dt 81 4) (hk11 : dt 33 3 = dt 81 5) (hk12 : dt 0 2 = dt 79 2) (hk13 : dt 35 1 = dt 79 12) (hk14 : dt 35 2 = dt 79 19) (hk15 : dt 35 3 = dt 79 21) (hd0 : TPL (dt 36) (dt 85) (dt 35 1)) (hd1 : SCL (dt 2) (dt 3) (dt 80)) (hd2 : SCL (dt 19) (dt 20) (dt 81)) (hd3 : QRL (dt 8) (dt 80)) (hd4 : QRL (dt 25) (dt 81)) (hd5 : SDL (dt 9) (dt 80)) (hd6 : SDL (dt 26) (dt 81)) (hd7 : LWL (dt 4) (dt 5) (dt 6) (dt 80)) (hd8 : LWL (dt 21) (dt 22) (dt 23) (dt 81)) (hd9 : CHL (dt 11) (dt 80)) (hd10 : CHL (dt 28) (dt 81)) (K : ∀ (dt : Nat → Nat → Int) (hI : InvC dt) (hM : MW (dt 80)) (hM2 : MW (dt 81)) (hk0 : dt 1 0 = dt 80 0) (hk1 : dt 7 3 = dt 80 1) (hk2 : dt 10 3 = dt 80 2) (hk3 : dt 12 3 = dt 80 3) (hk4 : dt 14 3 = dt 80 4) (hk5 : dt 16 3 = dt 80 5) (hk6 : dt 18 0 = dt 81 0) (hk7 : dt 24 3 = dt 81 1) (hk8 : dt 27 3 = dt 81 2) (hk9 : dt 29 3 = dt 81 3) (hk10 : dt 31 3 = dt 81 4) (hk11 : dt 33 3 = dt 81 5) (hk12 : dt 0 2 = dt 79 2) (hk13 : dt 35 1 = dt 79 12) (hk14 : dt 35 2 = dt 79 19) (hk15 : dt 35 3 = dt 79 21) (hd0 : TPL (dt 36) (dt 85) (dt 35 1)) (hd1 : SCL (dt 2) (dt 3) (dt 80)) (hd2 : SCL (dt 19) (dt 20) (dt 81)) (hd3 : QRL (dt 8) (dt 80)) (hd4 : QRL (dt 25) (dt 81)) (hd5 : SDL (dt 9) (dt 80)) (hd6 : SDL (dt 26) (dt 81)) (hd7 : LWL (dt 4) (dt 5) (dt 6) (dt 80)) (hd8 : LWL (dt 21) (dt 22) (dt 23) (dt 81)) (hd9 : CHL (dt 11) (dt 80)) (hd10 : CHL (dt 28) (dt 81)), GO (am_XX L xs sio) (d + 39) 267 1435 [some (.inr (.inr (some 3000))), some (.inr (.inr (some 0))), some (.inr (.inr (some 79))), some (.inl i)] [] (SH, dt) Q) : GO (am_XX L xs sio) (d + 39) 267 590 [some (.inr (.inr (some 3000))), some (.inr (.inr (some 0))), some (.inr (.inr (some 79))), some (.inl i)] [] (SH, dt) Q := by
  have hF : Fr [0, 1, 2, 3, 4, 5, 6, 7, 8, 9, 10, 11, 12, 13, 14, 15, 16, 17, 18, 19, 20, 21, 22, 23, 24, 25, 26, 27, 28, 29, 30, 31, 32, 33, 34, 35, 36, 37, 38, 39, 40, 41, 42, 43, 44, 45, 46, 47, 48, 49, 50, 51, 52, 53, 54, 55, 56, 57, 58, 59, 60, 61, 62, 63, 64, 65, 66, 67, 68, 69, 70, 71, 72, 73, 74, 75, 76, 77, 78, 79, 80, 81, 82, 83, 84, 85, 86, 87, 88, 89, 90, 91, 92, 93, 94, 95, 96, 97, 98, 99, 100, 101, 102, 103, 104] dt dt := Fr_refl
  have hqo := QOC_R hd3 hM hk1
  have hb1_ := hM.1.1
  have hb2_ := hM.1.2.1
  have hb3_ := hM.1.2.2.1
  have halk : ALK dt (dt 80) := ⟨hd7, hd3, hd5, hd9, hk1, hk2⟩
  refine go_toq PM267 (k := 5) (pc' := 595) (L' := [some (.inr (.inr (some 3000))), some (.inr (.inr (some 0))), some (.inr (.inr (some 79))), some (.inl i)]) (st' := [.inl (i + 1), .inr (.inr (some 3000)), .inr (.inr (some 0))]) (w' := (SH, dt)) rfl ?_
  have r1 := i32_R (xs ((i + 1).toNat))
  refine go_smpq PM267 (L' := [some (.inr (.inr (some 3000))), some (.inr (.inr (some 0))), some (.inr (.inr (some 79))), some (.inl i)]) (st' := [.inl ((xs ((i + 1).toNat)).toInt), .inr (.inr (some 0))]) (w' := (SH, dt)) rfl rfl (s_iald (n := L) (f := fun j => (xs j).toInt) (am_scr hLL) ⟨by omega, by omega⟩) ?_
  refine go_toq PM267 (k := 4) (pc' := 600) (L' := [some (.inr (.inr (some 3000))), some (.inr (.inr (some 0))), some (.inr (.inr (some 79))), some (.inl i)]) (st' := [.inl (i + 2), .inr (.inr (some 3000)), .inl ((xs ((i + 1).toNat)).toInt), .inr (.inr (some 0))]) (w' := (SH, dt)) rfl ?_
  have r2 := i32_R (xs ((i + 2).toNat))
  refine go_smpq PM267 (L' := [some (.inr (.inr (some 3000))), some (.inr (.inr (some 0))), some (.inr (.inr (some 79))), some (.inl i)]) (st' := [.inl ((xs ((i + 2).toNat)).toInt), .inl ((xs ((i + 1).toNat)).toInt), .inr (.inr (some 0))]) (w' := (SH, dt)) rfl rfl (s_iald (n := L) (f := fun j => (xs j).toInt) (am_scr hLL) ⟨by omega, by omega⟩) ?_
  refine go_toq PM267 (k := 4) (pc' := 605) (L' := [some (.inr (.inr (some 3000))), some (.inr (.inr (some 0))), some (.inr (.inr (some 79))), some (.inl i)]) (st' := [.inl (i + 3), .inr (.inr (some 3000)), .inl ((xs ((i + 2).toNat)).toInt), .inl ((xs ((i + 1).toNat)).toInt), .inr (.inr (some 0))]) (w' := (SH, dt)) rfl ?_
  have r3 := i32_R (xs ((i + 3).toNat))
  refine go_smpq PM267 (L' := [some (.inr (.inr (some 3000))), some (.inr (.inr (some 0))), some (.inr (.inr (some 79))), some (.inl i)]) (st' := [.inl ((xs ((i + 3).toNat)).toInt), .inl ((xs ((i + 2).toNat)).toInt), .inl ((xs ((i + 1).toNat)).toInt), .inr (.inr (some 0))]) (w' := (SH, dt)) rfl rfl (s_iald (n := L) (f := fun j => (xs j).toInt) (am_scr hLL) ⟨by omega, by omega⟩) ?_
  refine go_toq PM267 (k := 4) (pc' := 610) (L' := [some (.inr (.inr (some 3000))), some (.inr (.inr (some 0))), some (.inr (.inr (some 79))), some (.inl i)]) (st' := [.inl (i + 4), .inr (.inr (some 3000)), .inl ((xs ((i + 3).toNat)).toInt), .inl ((xs ((i + 2).toNat)).toInt), .inl ((xs ((i + 1).toNat)).toInt), .inr (.inr (some 0))]) (w' := (SH, dt)) rfl ?_
  have r4 := i32_R (xs ((i + 4).toNat))
  refine go_smpq PM267 (L' := [some (.inr (.inr (some 3000))), some (.inr (.inr (some 0))), some (.inr (.inr (some 79))), some (.inl i)]) (st' := [.inl ((xs ((i + 4).toNat)).toInt), .inl ((xs ((i + 3).toNat)).toInt), .inl ((xs ((i + 2).toNat)).toInt), .inl ((xs ((i + 1).toNat)).toInt), .inr (.inr (some 0))]) (w' := (SH, dt)) rfl rfl (s_iald (n := L) (f := fun j => (xs j).toInt) (am_scr hLL) ⟨by omega, by omega⟩) ?_
  refine go_callq PM267 PM77 (Q' := _) rfl rfl rfl rfl (sp_X5_child_f L xs sio (d + 36) dt hI  ((xs ((i + 1).toNat)).toInt) ⟨by omega, by omega⟩ ((xs ((i + 2).toNat)).toInt) ⟨by omega, by omega⟩ ((xs ((i + 3).toNat)).toInt) ⟨by omega, by omega⟩ ((xs ((i + 4).toNat)).toInt) ⟨by omega, by omega⟩ ) ?_
  rintro _ _ ⟨dt6, rfl, hI7, hF8, h5⟩
  refine ⟨rfl, ?_⟩
  have hF9 : Fr [0, 1, 2, 3, 4, 5, 6, 7, 8, 9, 10, 11, 12, 13, 14, 15, 16, 17, 18, 19, 20, 21, 22, 23, 24, 25, 26, 27, 28, 29, 30, 31, 32, 33, 34, 35, 36, 37, 38, 39, 40, 41, 42, 43, 44, 45, 46, 47, 48, 49, 50, 51, 52, 53, 54, 55, 56, 57, 58, 59, 60, 61, 62, 63, 64, 65, 66, 67, 68, 69, 70, 71, 72, 73, 74, 75, 76, 77, 78, 79, 80, 81, 82, 83, 84, 85, 86, 87, 88, 89, 90, 91, 92, 93, 94, 95, 96, 97, 98, 99, 100, 101, 102, 103, 104] dt dt6 := Fr_tr hF hF8 (by decide)
  have hM10 : MW (dt6 80) := MW_fr hM hF8 (by decide)
  have w11 : dt6 1 0 = dt 1 0 := hF8 1 (by decide) 0
  have w12 : dt6 7 3 = dt 7 3 := hF8 7 (by decide) 3
  have w13 : dt6 12 3 = dt 12 3 := hF8 12 (by decide) 3
  have w14 : dt6 14 3 = dt 14 3 := hF8 14 (by decide) 3
  have w15 : dt6 16 3 = dt 16 3 := hF8 16 (by decide) 3
  have w16 : dt6 18 0 = dt 18 0 := hF8 18 (by decide) 0
  have w17 : dt6 24 3 = dt 24 3 := hF8 24 (by decide) 3
  have w18 : dt6 27 3 = dt 27 3 := hF8 27 (by decide) 3
  have w19 : dt6 29 3 = dt 29 3 := hF8 29 (by decide) 3
  have w20 : dt6 31 3 = dt 31 3 := hF8 31 (by decide) 3
  have w21 : dt6 33 3 = dt 33 3 := hF8 33 (by decide) 3
  have w22 : dt6 0 2 = dt 0 2 := hF8 0 (by decide) 2
  have w23 : dt6 35 1 = dt 35 1 := hF8 35 (by decide) 1
  have w24 : dt6 35 2 = dt 35 2 := hF8 35 (by decide) 2
  have w25 : dt6 35 3 = dt 35 3 := hF8 35 (by decide) 3
  have w26 : dt6 80 0 = dt 80 0 := hF8 80 (by decide) 0
  have w27 : dt6 80 1 = dt 80 1 := hF8 80 (by decide) 1
  have w28 : dt6 80 2 = dt 80 2 := hF8 80 (by decide) 2
  have w29 : dt6 80 3 = dt 80 3 := hF8 80 (by decide) 3
  have w30 : dt6 80 4 = dt 80 4 := hF8 80 (by decide) 4
  have w31 : dt6 80 5 = dt 80 5 := hF8 80 (by decide) 5
  have w32 : dt6 81 0 = dt 81 0 := hF8 81 (by decide) 0
  have w33 : dt6 81 1 = dt 81 1 := hF8 81 (by decide) 1
  have w34 : dt6 81 2 = dt 81 2 := hF8 81 (by decide) 2
  have w35 : dt6 81 3 = dt 81 3 := hF8 81 (by decide) 3
  have w36 : dt6 81 4 = dt 81 4 := hF8 81 (by decide) 4
  have w37 : dt6 81 5 = dt 81 5 := hF8 81 (by decide) 5
  have w38 : dt6 79 2 = dt 79 2 := hF8 79 (by decide) 2
  have w39 : dt6 79 12 = dt 79 12 := hF8 79 (by decide) 12
  have w40 : dt6 79 19 = dt 79 19 := hF8 79 (by decide) 19
  have w41 : dt6 79 21 = dt 79 21 := hF8 79 (by decide) 21
  rcases h5 with ⟨rfl, h5⟩ | ⟨v_h5, rfl, h5r, h5⟩
  · skip
    obtain ⟨h5_0, h5_1, h5_2⟩ := h5
    replace h5_0 := hid h5_0
    have w42 : dt6 10 3 = dt 10 3 := h5_1
    have M243 : MW (dt6 81) := MW_frk hM2 hF8 (by decide)
    have C44 : ∀ j : Nat, dt6 2 j = dt 2 j := fun j => (hF8 2 (by decide) j).trans ((fun _ => rfl) j)
    have C45 : ∀ j : Nat, dt6 3 j = dt 3 j := fun j => (hF8 3 (by decide) j).trans ((fun _ => rfl) j)
    have C46 : ∀ j : Nat, dt6 4 j = dt 4 j := fun j => (hF8 4 (by decide) j).trans ((fun _ => rfl) j)
    have C47 : ∀ j : Nat, dt6 5 j = dt 5 j := fun j => (hF8 5 (by decide) j).trans ((fun _ => rfl) j)
    have C48 : ∀ j : Nat, dt6 6 j = dt 6 j := fun j => (hF8 6 (by decide) j).trans ((fun _ => rfl) j)
    have C49 : ∀ j : Nat, dt6 8 j = dt 8 j := fun j => (hF8 8 (by decide) j).trans ((fun _ => rfl) j)
    have C50 : ∀ j : Nat, dt6 9 j = dt 9 j := fun j => (hF8 9 (by decide) j).trans ((fun _ => rfl) j)
    have C51 : ∀ j : Nat, dt6 11 j = dt 11 j := fun j => (h5_2 j).trans ((fun _ => rfl) j)
    have C52 : ∀ j : Nat, dt6 19 j = dt 19 j := fun j => (hF8 19 (by decide) j).trans ((fun _ => rfl) j)
    have C53 : ∀ j : Nat, dt6 20 j = dt 20 j := fun j => (hF8 20 (by decide) j).trans ((fun _ => rfl) j)
    have C54 : ∀ j : Nat, dt6 21 j = dt 21 j := fun j => (hF8 21 (by decide) j).trans ((fun _ => rfl) j)
    have C55 : ∀ j : Nat, dt6 22 j = dt 22 j := fun j => (hF8 22 (by decide) j).trans ((fun _ => rfl) j)
    have C56 : ∀ j : Nat, dt6 23 j = dt 23 j := fun j => (hF8 23 (by decide) j).trans ((fun _ => rfl) j)
    have C57 : ∀ j : Nat, dt6 25 j = dt 25 j := fun j => (hF8 25 (by decide) j).trans ((fun _ => rfl) j)
    have C58 : ∀ j : Nat, dt6 26 j = dt 26 j := fun j => (hF8 26 (by decide) j).trans ((fun _ => rfl) j)
    have C59 : ∀ j : Nat, dt6 28 j = dt 28 j := fun j => (hF8 28 (by decide) j).trans ((fun _ => rfl) j)
    have C60 : ∀ j : Nat, dt6 36 j = dt 36 j := fun j => (hF8 36 (by decide) j).trans ((fun _ => rfl) j)
    have C61 : ∀ j : Nat, dt6 80 j = dt 80 j := fun j => (hF8 80 (by decide) j).trans ((fun _ => rfl) j)
    have C62 : ∀ j : Nat, dt6 81 j = dt 81 j := fun j => (hF8 81 (by decide) j).trans ((fun _ => rfl) j)
    have C63 : ∀ j : Nat, dt6 85 j = dt 85 j := fun j => (hF8 85 (by decide) j).trans ((fun _ => rfl) j)
    refine go_toq PM267 (k := 6) (pc' := 620) (L' := [some (.inr (.inr (some 3000))), some (.inr (.inr (some 0))), some (.inr (.inr (some 79))), some (.inl i)]) (st' := [.inl (i + 1), .inr (.inr (some 3000)), .inr (.inr (some 79))]) (w' := (SH, dt6)) rfl ?_
    have r64 := i32_R (xs ((i + 1).toNat))
    refine go_smpq PM267 (L' := [some (.inr (.inr (some 3000))), some (.inr (.inr (some 0))), some (.inr (.inr (some 79))), some (.inl i)]) (st' := [.inl ((xs ((i + 1).toNat)).toInt), .inr (.inr (some 79))]) (w' := (SH, dt6)) rfl rfl (s_iald (n := L) (f := fun j => (xs j).toInt) (am_scr hLL) ⟨by (first | omega | (have z0_ := unhid h5_0; omega)), by (first | omega | (have z0_ := unhid h5_0; omega))⟩) ?_
    refine go_toq PM267 (k := 4) (pc' := 625) (L' := [some (.inr (.inr (some 3000))), some (.inr (.inr (some 0))), some (.inr (.inr (some 79))), some (.inl i)]) (st' := [.inl (i + 2), .inr (.inr (some 3000)), .inl ((xs ((i + 1).toNat)).toInt), .inr (.inr (some 79))]) (w' := (SH, dt6)) rfl ?_
    have r65 := i32_R (xs ((i + 2).toNat))
    refine go_smpq PM267 (L' := [some (.inr (.inr (some 3000))), some (.inr (.inr (some 0))), some (.inr (.inr (some 79))), some (.inl i)]) (st' := [.inl ((xs ((i + 2).toNat)).toInt), .inl ((xs ((i + 1).toNat)).toInt), .inr (.inr (some 79))]) (w' := (SH, dt6)) rfl rfl (s_iald (n := L) (f := fun j => (xs j).toInt) (am_scr hLL) ⟨by (first | omega | (have z0_ := unhid h5_0; omega)), by (first | omega | (have z0_ := unhid h5_0; omega))⟩) ?_
    refine go_toq PM267 (k := 4) (pc' := 630) (L' := [some (.inr (.inr (some 3000))), some (.inr (.inr (some 0))), some (.inr (.inr (some 79))), some (.inl i)]) (st' := [.inl (i + 3), .inr (.inr (some 3000)), .inl ((xs ((i + 2).toNat)).toInt), .inl ((xs ((i + 1).toNat)).toInt), .inr (.inr (some 79))]) (w' := (SH, dt6)) rfl ?_
    have r66 := i32_R (xs ((i + 3).toNat))
    refine go_smpq PM267 (L' := [some (.inr (.inr (some 3000))), some (.inr (.inr (some 0))), some (.inr (.inr (some 79))), some (.inl i)]) (st' := [.inl ((xs ((i + 3).toNat)).toInt), .inl ((xs ((i + 2).toNat)).toInt), .inl ((xs ((i + 1).toNat)).toInt), .inr (.inr (some 79))]) (w' := (SH, dt6)) rfl rfl (s_iald (n := L) (f := fun j => (xs j).toInt) (am_scr hLL) ⟨by (first | omega | (have z0_ := unhid h5_0; omega)), by (first | omega | (have z0_ := unhid h5_0; omega))⟩) ?_
    refine go_toq PM267 (k := 4) (pc' := 635) (L' := [some (.inr (.inr (some 3000))), some (.inr (.inr (some 0))), some (.inr (.inr (some 79))), some (.inl i)]) (st' := [.inl (i + 4), .inr (.inr (some 3000)), .inl ((xs ((i + 3).toNat)).toInt), .inl ((xs ((i + 2).toNat)).toInt), .inl ((xs ((i + 1).toNat)).toInt), .inr (.inr (some 79))]) (w' := (SH, dt6)) rfl ?_
    have r67 := i32_R (xs ((i + 4).toNat))
    refine go_smpq PM267 (L' := [some (.inr (.inr (some 3000))), some (.inr (.inr (some 0))), some (.inr (.inr (some 79))), some (.inl i)]) (st' := [.inl ((xs ((i + 4).toNat)).toInt), .inl ((xs ((i + 3).toNat)).toInt), .inl ((xs ((i + 2).toNat)).toInt), .inl ((xs ((i + 1).toNat)).toInt), .inr (.inr (some 79))]) (w' := (SH, dt6)) rfl rfl (s_iald (n := L) (f := fun j => (xs j).toInt) (am_scr hLL) ⟨by (first | omega | (have z0_ := unhid h5_0; omega)), by (first | omega | (have z0_ := unhid h5_0; omega))⟩) ?_
    refine go_callq PM267 PM202 (Q' := _) rfl rfl rfl rfl (sp_X6_child_v L xs sio (d + 36) dt6 hI7 hM10  ((xs ((i + 1).toNat)).toInt) ⟨by (first | omega | (have z0_ := unhid h5_0; omega)), by (first | omega | (have z0_ := unhid h5_0; omega))⟩ ((xs ((i + 2).toNat)).toInt) ⟨by (first | omega | (have z0_ := unhid h5_0; omega)), by (first | omega | (have z0_ := unhid h5_0; omega))⟩ ((xs ((i + 3).toNat)).toInt) ⟨by (first | omega | (have z0_ := unhid h5_0; omega)), by (first | omega | (have z0_ := unhid h5_0; omega))⟩ ((xs ((i + 4).toNat)).toInt) ⟨by (first | omega | (have z0_ := unhid h5_0; omega)), by (first | omega | (have z0_ := unhid h5_0; omega))⟩ ) ?_
    rintro _ _ ⟨dt69, rfl, hI70, hF71, h68⟩
    refine ⟨rfl, ?_⟩
    have hF72 : Fr [0, 1, 2, 3, 4, 5, 6, 7, 8, 9, 10, 11, 12, 13, 14, 15, 16, 17, 18, 19, 20, 21, 22, 23, 24, 25, 26, 27, 28, 29, 30, 31, 32, 33, 34, 35, 36, 37, 38, 39, 40, 41, 42, 43, 44, 45, 46, 47, 48, 49, 50, 51, 52, 53, 54, 55, 56, 57, 58, 59, 60, 61, 62, 63, 64, 65, 66, 67, 68, 69, 70, 71, 72, 73, 74, 75, 76, 77, 78, 79, 80, 81, 82, 83, 84, 85, 86, 87, 88, 89, 90, 91, 92, 93, 94, 95, 96, 97, 98, 99, 100, 101, 102, 103, 104] dt dt69 := Fr_tr hF9 hF71 (by decide)
    have w73 : dt69 1 0 = dt 1 0 := (hF71 1 (by decide) 0).trans w11
    have w74 : dt69 7 3 = dt 7 3 := (hF71 7 (by decide) 3).trans w12
    have w75 : dt69 10 3 = dt 10 3 := (hF71 10 (by decide) 3).trans w42
    have w76 : dt69 12 3 = dt 12 3 := (hF71 12 (by decide) 3).trans w13
    have w77 : dt69 14 3 = dt 14 3 := (hF71 14 (by decide) 3).trans w14
    have w78 : dt69 16 3 = dt 16 3 := (hF71 16 (by decide) 3).trans w15
    have w79 : dt69 18 0 = dt 18 0 := (hF71 18 (by decide) 0).trans w16
    have w80 : dt69 24 3 = dt 24 3 := (hF71 24 (by decide) 3).trans w17
    have w81 : dt69 27 3 = dt 27 3 := (hF71 27 (by decide) 3).trans w18
    have w82 : dt69 29 3 = dt 29 3 := (hF71 29 (by decide) 3).trans w19
    have w83 : dt69 31 3 = dt 31 3 := (hF71 31 (by decide) 3).trans w20
    have w84 : dt69 33 3 = dt 33 3 := (hF71 33 (by decide) 3).trans w21
    have w85 : dt69 0 2 = dt 0 2 := (hF71 0 (by decide) 2).trans w22
    have w86 : dt69 35 1 = dt 35 1 := (hF71 35 (by decide) 1).trans w23
    have w87 : dt69 35 2 = dt 35 2 := (hF71 35 (by decide) 2).trans w24
    have w88 : dt69 35 3 = dt 35 3 := (hF71 35 (by decide) 3).trans w25
    have w89 : dt69 81 0 = dt 81 0 := (hF71 81 (by decide) 0).trans w32
    have w90 : dt69 81 1 = dt 81 1 := (hF71 81 (by decide) 1).trans w33
    have w91 : dt69 81 2 = dt 81 2 := (hF71 81 (by decide) 2).trans w34
    have w92 : dt69 81 3 = dt 81 3 := (hF71 81 (by decide) 3).trans w35
    have w93 : dt69 81 4 = dt 81 4 := (hF71 81 (by decide) 4).trans w36
    have w94 : dt69 81 5 = dt 81 5 := (hF71 81 (by decide) 5).trans w37
    have w95 : dt69 79 2 = dt 79 2 := (hF71 79 (by decide) 2).trans w38
    have w96 : dt69 79 12 = dt 79 12 := (hF71 79 (by decide) 12).trans w39
    have w97 : dt69 79 19 = dt 79 19 := (hF71 79 (by decide) 19).trans w40
    have w98 : dt69 79 21 = dt 79 21 := (hF71 79 (by decide) 21).trans w41
    rcases h68 with ⟨rfl, h68⟩ | ⟨v_h68, rfl, h68r, h68⟩
    · skip
      have hM99 : MW (dt69 80) := h68.2.1
      obtain ⟨h68_0, h68_1, h68_2, h68_3, h68_4, h68_5, h68_6, h68_7, h68_8⟩ := h68
      replace h68_0 := hid h68_0
      have w100 : dt69 80 0 = dt 80 0 := h68_2.trans w26
      have w101 : dt69 80 1 = dt 80 1 := h68_3.trans w27
      have w102 : dt69 80 2 = dt 80 2 := h68_4.trans w28
      have w103 : dt69 80 3 = dt 80 3 := h68_5.trans w29
      have w104 : dt69 80 4 = dt 80 4 := h68_6.trans w30
      have w105 : dt69 80 5 = dt 80 5 := h68_7.trans w31
      have M2106 : MW (dt69 81) := MW_frk M243 hF71 (by decide)
      have C107 : ∀ j : Nat, dt69 2 j = dt 2 j := fun j => (hF71 2 (by decide) j).trans (C44 j)
      have C108 : ∀ j : Nat, dt69 3 j = dt 3 j := fun j => (hF71 3 (by decide) j).trans (C45 j)
      have C109 : ∀ j : Nat, dt69 4 j = dt 4 j := fun j => (hF71 4 (by decide) j).trans (C46 j)
      have C110 : ∀ j : Nat, dt69 5 j = dt 5 j := fun j => (hF71 5 (by decide) j).trans (C47 j)
      have C111 : ∀ j : Nat, dt69 6 j = dt 6 j := fun j => (hF71 6 (by decide) j).trans (C48 j)
      have C112 : ∀ j : Nat, dt69 8 j = dt 8 j := fun j => (hF71 8 (by decide) j).trans (C49 j)
      have C113 : ∀ j : Nat, dt69 9 j = dt 9 j := fun j => (hF71 9 (by decide) j).trans (C50 j)
      have C114 : ∀ j : Nat, dt69 11 j = dt 11 j := fun j => (hF71 11 (by decide) j).trans (C51 j)
      have C115 : ∀ j : Nat, dt69 19 j = dt 19 j := fun j => (hF71 19 (by decide) j).trans (C52 j)
      have C116 : ∀ j : Nat, dt69 20 j = dt 20 j := fun j => (hF71 20 (by decide) j).trans (C53 j)
      have C117 : ∀ j : Nat, dt69 21 j = dt 21 j := fun j => (hF71 21 (by decide) j).trans (C54 j)
      have C118 : ∀ j : Nat, dt69 22 j = dt 22 j := fun j => (hF71 22 (by decide) j).trans (C55 j)
      have C119 : ∀ j : Nat, dt69 23 j = dt 23 j := fun j => (hF71 23 (by decide) j).trans (C56 j)
      have C120 : ∀ j : Nat, dt69 25 j = dt 25 j := fun j => (hF71 25 (by decide) j).trans (C57 j)
      have C121 : ∀ j : Nat, dt69 26 j = dt 26 j := fun j => (hF71 26 (by decide) j).trans (C58 j)
      have C122 : ∀ j : Nat, dt69 28 j = dt 28 j := fun j => (hF71 28 (by decide) j).trans (C59 j)
      have C123 : ∀ j : Nat, dt69 36 j = dt 36 j := fun j => (hF71 36 (by decide) j).trans (C60 j)
      have C124 : ∀ j : Nat, dt69 80 j = dt 80 j := fun j => (h68_8 j).trans (C61 j)
      have C125 : ∀ j : Nat, dt69 81 j = dt 81 j := fun j => (hF71 81 (by decide) j).trans (C62 j)
      have C126 : ∀ j : Nat, dt69 85 j = dt 85 j := fun j => (hF71 85 (by decide) j).trans (C63 j)
      refine go_toq PM267 (k := 2) (pc' := 1435) (L' := [some (.inr (.inr (some 3000))), some (.inr (.inr (some 0))), some (.inr (.inr (some 79))), some (.inl i)]) (st' := []) (w' := (SH, dt69)) rfl ?_
      exact K dt69 hI70 hM99 M2106 (w73.trans (hk0.trans w100.symm)) (w74.trans (hk1.trans w101.symm)) (w75.trans (hk2.trans w102.symm)) (w76.trans (hk3.trans w103.symm)) (w77.trans (hk4.trans w104.symm)) (w78.trans (hk5.trans w105.symm)) (w79.trans (hk6.trans w89.symm)) (w80.trans (hk7.trans w90.symm)) (w81.trans (hk8.trans w91.symm)) (w82.trans (hk9.trans w92.symm)) (w83.trans (hk10.trans w93.symm)) (w84.trans (hk11.trans w94.symm)) (w85.trans (hk12.trans w95.symm)) (w86.trans (hk13.trans w96.symm)) (w87.trans (hk14.trans w97.symm)) (w88.trans (hk15.trans w98.symm)) (by first | exact hI | exact TPL_k hd0 C123 C126 (by (first | omega | (have z0_ := unhid h5_0; have z1_ := unhid h68_0; omega))) | (exfalso; (first | omega | (have z0_ := unhid h5_0; have z1_ := unhid h68_0; omega)))) (by first | exact hI | exact SCL_k hd1 hM (fun j _ => C107 j) (fun j _ => C108 j) (fun j _ _ => C124 j) | (exfalso; (first | omega | (have z0_ := unhid h5_0; have z1_ := unhid h68_0; omega)))) (by first | exact hI | exact SCL_k hd2 hM2 (fun j _ => C115 j) (fun j _ => C116 j) (fun j _ _ => C125 j) | (exfalso; (first | omega | (have z0_ := unhid h5_0; have z1_ := unhid h68_0; omega)))) (by first | exact hI | exact QRL_k hd3 hM (fun j _ => C112 j) (C124 1) (fun j _ _ => C124 j) | (exfalso; (first | omega | (have z0_ := unhid h5_0; have z1_ := unhid h68_0; omega)))) (by first | exact hI | exact QRL_k hd4 hM2 (fun j _ => C120 j) (C125 1) (fun j _ _ => C125 j) | (exfalso; (first | omega | (have z0_ := unhid h5_0; have z1_ := unhid h68_0; omega)))) (by first | exact hI | exact SDL_k hd5 hM (fun j _ => C113 j) (C124 1) (fun j _ _ => C124 j) (fun j _ _ => C124 j) | (exfalso; (first | omega | (have z0_ := unhid h5_0; have z1_ := unhid h68_0; omega)))) (by first | exact hI | exact SDL_k hd6 hM2 (fun j _ => C121 j) (C125 1) (fun j _ _ => C125 j) (fun j _ _ => C125 j) | (exfalso; (first | omega | (have z0_ := unhid h5_0; have z1_ := unhid h68_0; omega)))) (by first | exact hI | exact LWL_k hd7 hM (fun j _ => C109 j) (fun j _ => C110 j) (fun j _ => C111 j) (fun j _ _ => C124 j) | (exfalso; (first | omega | (have z0_ := unhid h5_0; have z1_ := unhid h68_0; omega)))) (by first | exact hI | exact LWL_k hd8 hM2 (fun j _ => C117 j) (fun j _ => C118 j) (fun j _ => C119 j) (fun j _ _ => C125 j) | (exfalso; (first | omega | (have z0_ := unhid h5_0; have z1_ := unhid h68_0; omega)))) (by first | exact hI | exact CHL_k hd9 hM (fun j _ => C114 j) (by (first | omega | (have z0_ := unhid h5_0; have z1_ := unhid h68_0; omega))) (fun j _ _ => C124 j) | (exfalso; (first | omega | (have z0_ := unhid h5_0; have z1_ := unhid h68_0; omega)))) (by first | exact hI | exact CHL_k hd10 hM2 (fun j _ => C122 j) (by (first | omega | (have z0_ := unhid h5_0; have z1_ := unhid h68_0; omega))) (fun j _ _ => C125 j) | (exfalso; (first | omega | (have z0_ := unhid h5_0; have z1_ := unhid h68_0; omega))))
    · skip
      have hM127 : MW (dt69 80) := h68.2.2.1
      obtain ⟨h68_0, h68_1, h68_2, h68_3, h68_4, h68_5, h68_6, h68_7, h68_8, h68_9, h68_10, h68_11, h68_12, h68_13⟩ := h68
      have w128 : dt69 80 0 = dt 80 0 := h68_4.trans w26
      have w129 : dt69 80 1 = dt 80 1 := h68_5.trans w27
      have w130 : dt69 80 3 = dt 80 3 := h68_6.trans w29
      have w131 : dt69 80 4 = dt 80 4 := h68_7.trans w30
      have w132 : dt69 80 5 = dt 80 5 := h68_8.trans w31
      have M2133 : MW (dt69 81) := MW_frk M243 hF71 (by decide)
      have C134 : ∀ j : Nat, dt69 2 j = dt 2 j := fun j => (hF71 2 (by decide) j).trans (C44 j)
      have C135 : ∀ j : Nat, dt69 3 j = dt 3 j := fun j => (hF71 3 (by decide) j).trans (C45 j)
      have C136 : ∀ j : Nat, dt69 4 j = dt 4 j := fun j => (hF71 4 (by decide) j).trans (C46 j)
      have C137 : ∀ j : Nat, dt69 5 j = dt 5 j := fun j => (hF71 5 (by decide) j).trans (C47 j)
      have C138 : ∀ j : Nat, dt69 6 j = dt 6 j := fun j => (hF71 6 (by decide) j).trans (C48 j)
      have C139 : ∀ j : Nat, dt69 8 j = dt 8 j := fun j => (hF71 8 (by decide) j).trans (C49 j)
      have C140 : ∀ j : Nat, dt69 9 j = dt 9 j := fun j => (hF71 9 (by decide) j).trans (C50 j)
      have C141 : ∀ j : Nat, dt69 11 j = dt 11 j := fun j => (hF71 11 (by decide) j).trans (C51 j)
      have C142 : ∀ j : Nat, dt69 19 j = dt 19 j := fun j => (hF71 19 (by decide) j).trans (C52 j)
      have C143 : ∀ j : Nat, dt69 20 j = dt 20 j := fun j => (hF71 20 (by decide) j).trans (C53 j)
      have C144 : ∀ j : Nat, dt69 21 j = dt 21 j := fun j => (hF71 21 (by decide) j).trans (C54 j)
      have C145 : ∀ j : Nat, dt69 22 j = dt 22 j := fun j => (hF71 22 (by decide) j).trans (C55 j)
      have C146 : ∀ j : Nat, dt69 23 j = dt 23 j := fun j => (hF71 23 (by decide) j).trans (C56 j)
      have C147 : ∀ j : Nat, dt69 25 j = dt 25 j := fun j => (hF71 25 (by decide) j).trans (C57 j)
      have C148 : ∀ j : Nat, dt69 26 j = dt 26 j := fun j => (hF71 26 (by decide) j).trans (C58 j)
      have C149 : ∀ j : Nat, dt69 28 j = dt 28 j := fun j => (hF71 28 (by decide) j).trans (C59 j)
      have C150 : ∀ j : Nat, dt69 36 j = dt 36 j := fun j => (hF71 36 (by decide) j).trans (C60 j)
      have C151 : ∀ j : Nat, dt69 81 j = dt 81 j := fun j => (hF71 81 (by decide) j).trans (C62 j)
      have C152 : ∀ j : Nat, dt69 85 j = dt 85 j := fun j => (hF71 85 (by decide) j).trans (C63 j)
      have F153 : ∀ j : Nat, 6 ≤ j → j < 974 → dt69 80 j = dt 80 j := fun j h1_ h2_ => (h68_9 j (by (first | omega | (have z0_ := unhid h5_0; omega))) (by (first | omega | (have z0_ := unhid h5_0; omega)))).trans (C61 j)
      have F154 : ∀ j : Nat, 974 ≤ j → j < 5320 → dt69 80 j = dt 80 j := fun j h1_ h2_ => (h68_9 j (by (first | omega | (have z0_ := unhid h5_0; omega))) (by (first | omega | (have z0_ := unhid h5_0; omega)))).trans (C61 j)
      have F155 : ∀ j : Nat, 5320 ≤ j → j < 5380 → dt69 80 j = dt 80 j := fun j h1_ h2_ => (h68_9 j (by (first | omega | (have z0_ := unhid h5_0; omega))) (by (first | omega | (have z0_ := unhid h5_0; omega)))).trans (C61 j)
      have F156 : dt69 80 1 = dt 80 1 := (h68_9 1 (by (first | omega | (have z0_ := unhid h5_0; omega))) (by (first | omega | (have z0_ := unhid h5_0; omega)))).trans (C61 1)
      refine go_toq PM267 (k := 2) (pc' := 1435) (L' := [some (.inr (.inr (some 3000))), some (.inr (.inr (some 0))), some (.inr (.inr (some 79))), some (.inl i)]) (st' := []) (w' := (SH, dt69)) rfl ?_
      exact K dt69 hI70 hM127 M2133 (w73.trans (hk0.trans w128.symm)) (w74.trans (hk1.trans w129.symm)) (by (first | omega | (have z0_ := unhid h5_0; omega))) (w76.trans (hk3.trans w130.symm)) (w77.trans (hk4.trans w131.symm)) (w78.trans (hk5.trans w132.symm)) (w79.trans (hk6.trans w89.symm)) (w80.trans (hk7.trans w90.symm)) (w81.trans (hk8.trans w91.symm)) (w82.trans (hk9.trans w92.symm)) (w83.trans (hk10.trans w93.symm)) (w84.trans (hk11.trans w94.symm)) (w85.trans (hk12.trans w95.symm)) (w86.trans (hk13.trans w96.symm)) (w87.trans (hk14.trans w97.symm)) (w88.trans (hk15.trans w98.symm)) (by first | exact hI | exact TPL_k hd0 C150 C152 (by (first | omega | (have z0_ := unhid h5_0; omega))) | (exfalso; (first | omega | (have z0_ := unhid h5_0; omega)))) (by first | exact hI | exact SCL_k hd1 hM (fun j _ => C134 j) (fun j _ => C135 j) F153 | (exfalso; (first | omega | (have z0_ := unhid h5_0; omega)))) (by first | exact hI | exact SCL_k hd2 hM2 (fun j _ => C142 j) (fun j _ => C143 j) (fun j _ _ => C151 j) | (exfalso; (first | omega | (have z0_ := unhid h5_0; omega)))) (by first | exact hI | exact QRL_k hd3 hM (fun j _ => C139 j) F156 F155 | (exfalso; (first | omega | (have z0_ := unhid h5_0; omega)))) (by first | exact hI | exact QRL_k hd4 hM2 (fun j _ => C147 j) (C151 1) (fun j _ _ => C151 j) | (exfalso; (first | omega | (have z0_ := unhid h5_0; omega)))) (by first | exact hI | exact SDL_k hd5 hM (fun j _ => C140 j) F156 F153 F155 | (exfalso; (first | omega | (have z0_ := unhid h5_0; omega)))) (by first | exact hI | exact SDL_k hd6 hM2 (fun j _ => C148 j) (C151 1) (fun j _ _ => C151 j) (fun j _ _ => C151 j) | (exfalso; (first | omega | (have z0_ := unhid h5_0; omega)))) (by first | exact hI | exact LWL_k hd7 hM (fun j _ => C136 j) (fun j _ => C137 j) (fun j _ => C138 j) F154 | (exfalso; (first | omega | (have z0_ := unhid h5_0; omega)))) (by first | exact hI | exact LWL_k hd8 hM2 (fun j _ => C144 j) (fun j _ => C145 j) (fun j _ => C146 j) (fun j _ _ => C151 j) | (exfalso; (first | omega | (have z0_ := unhid h5_0; omega)))) (by first | exact hI | exact CHL_k hd9 hM (fun j _ => C141 j) (by (first | omega | (have z0_ := unhid h5_0; omega))) hI | (exfalso; (first | omega | (have z0_ := unhid h5_0; omega)))) (by first | exact hI | exact CHL_k hd10 hM2 (fun j _ => C149 j) (by (first | omega | (have z0_ := unhid h5_0; omega))) (fun j _ _ => C151 j) | (exfalso; (first | omega | (have z0_ := unhid h5_0; omega))))
  · skip
    obtain ⟨h5_0, h5_1, h5_2, h5_3, h5_4, h5_5, h5_6, h5_7⟩ := h5
    have M2157 : MW (dt6 81) := MW_frk hM2 hF8 (by decide)
    have C158 : ∀ j : Nat, dt6 2 j = dt 2 j := fun j => (hF8 2 (by decide) j).trans ((fun _ => rfl) j)
    have C159 : ∀ j : Nat, dt6 3 j = dt 3 j := fun j => (hF8 3 (by decide) j).trans ((fun _ => rfl) j)
    have C160 : ∀ j : Nat, dt6 4 j = dt 4 j := fun j => (hF8 4 (by decide) j).trans ((fun _ => rfl) j)
    have C161 : ∀ j : Nat, dt6 5 j = dt 5 j := fun j => (hF8 5 (by decide) j).trans ((fun _ => rfl) j)
    have C162 : ∀ j : Nat, dt6 6 j = dt 6 j := fun j => (hF8 6 (by decide) j).trans ((fun _ => rfl) j)
    have C163 : ∀ j : Nat, dt6 8 j = dt 8 j := fun j => (hF8 8 (by decide) j).trans ((fun _ => rfl) j)
    have C164 : ∀ j : Nat, dt6 9 j = dt 9 j := fun j => (hF8 9 (by decide) j).trans ((fun _ => rfl) j)
    have C165 : ∀ j : Nat, dt6 19 j = dt 19 j := fun j => (hF8 19 (by decide) j).trans ((fun _ => rfl) j)
    have C166 : ∀ j : Nat, dt6 20 j = dt 20 j := fun j => (hF8 20 (by decide) j).trans ((fun _ => rfl) j)
    have C167 : ∀ j : Nat, dt6 21 j = dt 21 j := fun j => (hF8 21 (by decide) j).trans ((fun _ => rfl) j)
    have C168 : ∀ j : Nat, dt6 22 j = dt 22 j := fun j => (hF8 22 (by decide) j).trans ((fun _ => rfl) j)
    have C169 : ∀ j : Nat, dt6 23 j = dt 23 j := fun j => (hF8 23 (by decide) j).trans ((fun _ => rfl) j)
    have C170 : ∀ j : Nat, dt6 25 j = dt 25 j := fun j => (hF8 25 (by decide) j).trans ((fun _ => rfl) j)
    have C171 : ∀ j : Nat, dt6 26 j = dt 26 j := fun j => (hF8 26 (by decide) j).trans ((fun _ => rfl) j)
    have C172 : ∀ j : Nat, dt6 28 j = dt 28 j := fun j => (hF8 28 (by decide) j).trans ((fun _ => rfl) j)
    have C173 : ∀ j : Nat, dt6 36 j = dt 36 j := fun j => (hF8 36 (by decide) j).trans ((fun _ => rfl) j)
    have C174 : ∀ j : Nat, dt6 80 j = dt 80 j := fun j => (hF8 80 (by decide) j).trans ((fun _ => rfl) j)
    have C175 : ∀ j : Nat, dt6 81 j = dt 81 j := fun j => (hF8 81 (by decide) j).trans ((fun _ => rfl) j)
    have C176 : ∀ j : Nat, dt6 85 j = dt 85 j := fun j => (hF8 85 (by decide) j).trans ((fun _ => rfl) j)
    refine go_toq PM267 (k := 6) (pc' := 620) (L' := [some (.inr (.inr (some 3000))), some (.inr (.inr (some 0))), some (.inr (.inr (some 79))), some (.inl i)]) (st' := [.inl (i + 1), .inr (.inr (some 3000)), .inr (.inr (some 79))]) (w' := (SH, dt6)) rfl ?_
    have r177 := i32_R (xs ((i + 1).toNat))
    refine go_smpq PM267 (L' := [some (.inr (.inr (some 3000))), some (.inr (.inr (some 0))), some (.inr (.inr (some 79))), some (.inl i)]) (st' := [.inl ((xs ((i + 1).toNat)).toInt), .inr (.inr (some 79))]) (w' := (SH, dt6)) rfl rfl (s_iald (n := L) (f := fun j => (xs j).toInt) (am_scr hLL) ⟨by omega, by omega⟩) ?_
    refine go_toq PM267 (k := 4) (pc' := 625) (L' := [some (.inr (.inr (some 3000))), some (.inr (.inr (some 0))), some (.inr (.inr (some 79))), some (.inl i)]) (st' := [.inl (i + 2), .inr (.inr (some 3000)), .inl ((xs ((i + 1).toNat)).toInt), .inr (.inr (some 79))]) (w' := (SH, dt6)) rfl ?_
    have r178 := i32_R (xs ((i + 2).toNat))
    refine go_smpq PM267 (L' := [some (.inr (.inr (some 3000))), some (.inr (.inr (some 0))), some (.inr (.inr (some 79))), some (.inl i)]) (st' := [.inl ((xs ((i + 2).toNat)).toInt), .inl ((xs ((i + 1).toNat)).toInt), .inr (.inr (some 79))]) (w' := (SH, dt6)) rfl rfl (s_iald (n := L) (f := fun j => (xs j).toInt) (am_scr hLL) ⟨by omega, by omega⟩) ?_
    refine go_toq PM267 (k := 4) (pc' := 630) (L' := [some (.inr (.inr (some 3000))), some (.inr (.inr (some 0))), some (.inr (.inr (some 79))), some (.inl i)]) (st' := [.inl (i + 3), .inr (.inr (some 3000)), .inl ((xs ((i + 2).toNat)).toInt), .inl ((xs ((i + 1).toNat)).toInt), .inr (.inr (some 79))]) (w' := (SH, dt6)) rfl ?_
    have r179 := i32_R (xs ((i + 3).toNat))
    refine go_smpq PM267 (L' := [some (.inr (.inr (some 3000))), some (.inr (.inr (some 0))), some (.inr (.inr (some 79))), some (.inl i)]) (st' := [.inl ((xs ((i + 3).toNat)).toInt), .inl ((xs ((i + 2).toNat)).toInt), .inl ((xs ((i + 1).toNat)).toInt), .inr (.inr (some 79))]) (w' := (SH, dt6)) rfl rfl (s_iald (n := L) (f := fun j => (xs j).toInt) (am_scr hLL) ⟨by omega, by omega⟩) ?_
    refine go_toq PM267 (k := 4) (pc' := 635) (L' := [some (.inr (.inr (some 3000))), some (.inr (.inr (some 0))), some (.inr (.inr (some 79))), some (.inl i)]) (st' := [.inl (i + 4), .inr (.inr (some 3000)), .inl ((xs ((i + 3).toNat)).toInt), .inl ((xs ((i + 2).toNat)).toInt), .inl ((xs ((i + 1).toNat)).toInt), .inr (.inr (some 79))]) (w' := (SH, dt6)) rfl ?_
    have r180 := i32_R (xs ((i + 4).toNat))
    refine go_smpq PM267 (L' := [some (.inr (.inr (some 3000))), some (.inr (.inr (some 0))), some (.inr (.inr (some 79))), some (.inl i)]) (st' := [.inl ((xs ((i + 4).toNat)).toInt), .inl ((xs ((i + 3).toNat)).toInt), .inl ((xs ((i + 2).toNat)).toInt), .inl ((xs ((i + 1).toNat)).toInt), .inr (.inr (some 79))]) (w' := (SH, dt6)) rfl rfl (s_iald (n := L) (f := fun j => (xs j).toInt) (am_scr hLL) ⟨by omega, by omega⟩) ?_
    refine go_callq PM267 PM202 (Q' := _) rfl rfl rfl rfl (sp_X6_child_v L xs sio (d + 36) dt6 hI7 hM10  ((xs ((i + 1).toNat)).toInt) ⟨by omega, by omega⟩ ((xs ((i + 2).toNat)).toInt) ⟨by omega, by omega⟩ ((xs ((i + 3).toNat)).toInt) ⟨by omega, by omega⟩ ((xs ((i + 4).toNat)).toInt) ⟨by omega, by omega⟩ ) ?_
    rintro _ _ ⟨dt182, rfl, hI183, hF184, h181⟩
    refine ⟨rfl, ?_⟩
    have hF185 : Fr [0, 1, 2, 3, 4, 5, 6, 7, 8, 9, 10, 11, 12, 13, 14, 15, 16, 17, 18, 19, 20, 21, 22, 23, 24, 25, 26, 27, 28, 29, 30, 31, 32, 33, 34, 35, 36, 37, 38, 39, 40, 41, 42, 43, 44, 45, 46, 47, 48, 49, 50, 51, 52, 53, 54, 55, 56, 57, 58, 59, 60, 61, 62, 63, 64, 65, 66, 67, 68, 69, 70, 71, 72, 73, 74, 75, 76, 77, 78, 79, 80, 81, 82, 83, 84, 85, 86, 87, 88, 89, 90, 91, 92, 93, 94, 95, 96, 97, 98, 99, 100, 101, 102, 103, 104] dt dt182 := Fr_tr hF9 hF184 (by decide)
    have w186 : dt182 1 0 = dt 1 0 := (hF184 1 (by decide) 0).trans w11
    have w187 : dt182 7 3 = dt 7 3 := (hF184 7 (by decide) 3).trans w12
    have w188 : dt182 10 3 = dt6 10 3 := hF184 10 (by decide) 3
    have w189 : dt182 12 3 = dt 12 3 := (hF184 12 (by decide) 3).trans w13
    have w190 : dt182 14 3 = dt 14 3 := (hF184 14 (by decide) 3).trans w14
    have w191 : dt182 16 3 = dt 16 3 := (hF184 16 (by decide) 3).trans w15
    have w192 : dt182 18 0 = dt 18 0 := (hF184 18 (by decide) 0).trans w16
    have w193 : dt182 24 3 = dt 24 3 := (hF184 24 (by decide) 3).trans w17
    have w194 : dt182 27 3 = dt 27 3 := (hF184 27 (by decide) 3).trans w18
    have w195 : dt182 29 3 = dt 29 3 := (hF184 29 (by decide) 3).trans w19
    have w196 : dt182 31 3 = dt 31 3 := (hF184 31 (by decide) 3).trans w20
    have w197 : dt182 33 3 = dt 33 3 := (hF184 33 (by decide) 3).trans w21
    have w198 : dt182 0 2 = dt 0 2 := (hF184 0 (by decide) 2).trans w22
    have w199 : dt182 35 1 = dt 35 1 := (hF184 35 (by decide) 1).trans w23
    have w200 : dt182 35 2 = dt 35 2 := (hF184 35 (by decide) 2).trans w24
    have w201 : dt182 35 3 = dt 35 3 := (hF184 35 (by decide) 3).trans w25
    have w202 : dt182 81 0 = dt 81 0 := (hF184 81 (by decide) 0).trans w32
    have w203 : dt182 81 1 = dt 81 1 := (hF184 81 (by decide) 1).trans w33
    have w204 : dt182 81 2 = dt 81 2 := (hF184 81 (by decide) 2).trans w34
    have w205 : dt182 81 3 = dt 81 3 := (hF184 81 (by decide) 3).trans w35
    have w206 : dt182 81 4 = dt 81 4 := (hF184 81 (by decide) 4).trans w36
    have w207 : dt182 81 5 = dt 81 5 := (hF184 81 (by decide) 5).trans w37
    have w208 : dt182 79 2 = dt 79 2 := (hF184 79 (by decide) 2).trans w38
    have w209 : dt182 79 12 = dt 79 12 := (hF184 79 (by decide) 12).trans w39
    have w210 : dt182 79 19 = dt 79 19 := (hF184 79 (by decide) 19).trans w40
    have w211 : dt182 79 21 = dt 79 21 := (hF184 79 (by decide) 21).trans w41
    rcases h181 with ⟨rfl, h181⟩ | ⟨v_h181, rfl, h181r, h181⟩
    · skip
      have hM212 : MW (dt182 80) := h181.2.1
      obtain ⟨h181_0, h181_1, h181_2, h181_3, h181_4, h181_5, h181_6, h181_7, h181_8⟩ := h181
      replace h181_0 := hid h181_0
      have w213 : dt182 80 0 = dt 80 0 := h181_2.trans w26
      have w214 : dt182 80 1 = dt 80 1 := h181_3.trans w27
      have w215 : dt182 80 2 = dt 80 2 := h181_4.trans w28
      have w216 : dt182 80 3 = dt 80 3 := h181_5.trans w29
      have w217 : dt182 80 4 = dt 80 4 := h181_6.trans w30
      have w218 : dt182 80 5 = dt 80 5 := h181_7.trans w31
      have M2219 : MW (dt182 81) := MW_frk M2157 hF184 (by decide)
      have C220 : ∀ j : Nat, dt182 2 j = dt 2 j := fun j => (hF184 2 (by decide) j).trans (C158 j)
      have C221 : ∀ j : Nat, dt182 3 j = dt 3 j := fun j => (hF184 3 (by decide) j).trans (C159 j)
      have C222 : ∀ j : Nat, dt182 4 j = dt 4 j := fun j => (hF184 4 (by decide) j).trans (C160 j)
      have C223 : ∀ j : Nat, dt182 5 j = dt 5 j := fun j => (hF184 5 (by decide) j).trans (C161 j)
      have C224 : ∀ j : Nat, dt182 6 j = dt 6 j := fun j => (hF184 6 (by decide) j).trans (C162 j)
      have C225 : ∀ j : Nat, dt182 8 j = dt 8 j := fun j => (hF184 8 (by decide) j).trans (C163 j)
      have C226 : ∀ j : Nat, dt182 9 j = dt 9 j := fun j => (hF184 9 (by decide) j).trans (C164 j)
      have C227 : ∀ j : Nat, dt182 19 j = dt 19 j := fun j => (hF184 19 (by decide) j).trans (C165 j)
      have C228 : ∀ j : Nat, dt182 20 j = dt 20 j := fun j => (hF184 20 (by decide) j).trans (C166 j)
      have C229 : ∀ j : Nat, dt182 21 j = dt 21 j := fun j => (hF184 21 (by decide) j).trans (C167 j)
      have C230 : ∀ j : Nat, dt182 22 j = dt 22 j := fun j => (hF184 22 (by decide) j).trans (C168 j)
      have C231 : ∀ j : Nat, dt182 23 j = dt 23 j := fun j => (hF184 23 (by decide) j).trans (C169 j)
      have C232 : ∀ j : Nat, dt182 25 j = dt 25 j := fun j => (hF184 25 (by decide) j).trans (C170 j)
      have C233 : ∀ j : Nat, dt182 26 j = dt 26 j := fun j => (hF184 26 (by decide) j).trans (C171 j)
      have C234 : ∀ j : Nat, dt182 28 j = dt 28 j := fun j => (hF184 28 (by decide) j).trans (C172 j)
      have C235 : ∀ j : Nat, dt182 36 j = dt 36 j := fun j => (hF184 36 (by decide) j).trans (C173 j)
      have C236 : ∀ j : Nat, dt182 80 j = dt 80 j := fun j => (h181_8 j).trans (C174 j)
      have C237 : ∀ j : Nat, dt182 81 j = dt 81 j := fun j => (hF184 81 (by decide) j).trans (C175 j)
      have C238 : ∀ j : Nat, dt182 85 j = dt 85 j := fun j => (hF184 85 (by decide) j).trans (C176 j)
      have N239 := fun (j : Nat) (hj : (j : Int) < 4 * dt 10 3) => (hF184 11 (by decide) j).trans (h5_3 j hj)
      have N240 := (hF184 11 (by decide) _).trans h5_4
      have N241 := (hF184 11 (by decide) _).trans h5_5
      have N242 := (hF184 11 (by decide) _).trans h5_6
      have N243 := (hF184 11 (by decide) _).trans h5_7
      refine go_toq PM267 (k := 2) (pc' := 1435) (L' := [some (.inr (.inr (some 3000))), some (.inr (.inr (some 0))), some (.inr (.inr (some 79))), some (.inl i)]) (st' := []) (w' := (SH, dt182)) rfl ?_
      exact K dt182 hI183 hM212 M2219 (w186.trans (hk0.trans w213.symm)) (w187.trans (hk1.trans w214.symm)) (by (first | omega | (have z0_ := unhid h181_0; omega))) (w189.trans (hk3.trans w216.symm)) (w190.trans (hk4.trans w217.symm)) (w191.trans (hk5.trans w218.symm)) (w192.trans (hk6.trans w202.symm)) (w193.trans (hk7.trans w203.symm)) (w194.trans (hk8.trans w204.symm)) (w195.trans (hk9.trans w205.symm)) (w196.trans (hk10.trans w206.symm)) (w197.trans (hk11.trans w207.symm)) (w198.trans (hk12.trans w208.symm)) (w199.trans (hk13.trans w209.symm)) (w200.trans (hk14.trans w210.symm)) (w201.trans (hk15.trans w211.symm)) (by first | exact hI | exact TPL_k hd0 C235 C238 (by (first | omega | (have z0_ := unhid h181_0; omega))) | (exfalso; (first | omega | (have z0_ := unhid h181_0; omega)))) (by first | exact hI | exact SCL_k hd1 hM (fun j _ => C220 j) (fun j _ => C221 j) (fun j _ _ => C236 j) | (exfalso; (first | omega | (have z0_ := unhid h181_0; omega)))) (by first | exact hI | exact SCL_k hd2 hM2 (fun j _ => C227 j) (fun j _ => C228 j) (fun j _ _ => C237 j) | (exfalso; (first | omega | (have z0_ := unhid h181_0; omega)))) (by first | exact hI | exact QRL_k hd3 hM (fun j _ => C225 j) (C236 1) (fun j _ _ => C236 j) | (exfalso; (first | omega | (have z0_ := unhid h181_0; omega)))) (by first | exact hI | exact QRL_k hd4 hM2 (fun j _ => C232 j) (C237 1) (fun j _ _ => C237 j) | (exfalso; (first | omega | (have z0_ := unhid h181_0; omega)))) (by first | exact hI | exact SDL_k hd5 hM (fun j _ => C226 j) (C236 1) (fun j _ _ => C236 j) (fun j _ _ => C236 j) | (exfalso; (first | omega | (have z0_ := unhid h181_0; omega)))) (by first | exact hI | exact SDL_k hd6 hM2 (fun j _ => C233 j) (C237 1) (fun j _ _ => C237 j) (fun j _ _ => C237 j) | (exfalso; (first | omega | (have z0_ := unhid h181_0; omega)))) (by first | exact hI | exact LWL_k hd7 hM (fun j _ => C222 j) (fun j _ => C223 j) (fun j _ => C224 j) (fun j _ _ => C236 j) | (exfalso; (first | omega | (have z0_ := unhid h181_0; omega)))) (by first | exact hI | exact LWL_k hd8 hM2 (fun j _ => C229 j) (fun j _ => C230 j) (fun j _ => C231 j) (fun j _ _ => C237 j) | (exfalso; (first | omega | (have z0_ := unhid h181_0; omega)))) (by first | exact hI | exact CHL_k hd9 hM hI (by (first | omega | (have z0_ := unhid h181_0; omega))) (fun j _ _ => C236 j) | (exfalso; (first | omega | (have z0_ := unhid h181_0; omega)))) (by first | exact hI | exact CHL_k hd10 hM2 (fun j _ => C234 j) (by (first | omega | (have z0_ := unhid h181_0; omega))) (fun j _ _ => C237 j) | (exfalso; (first | omega | (have z0_ := unhid h181_0; omega))))
    · skip
      have hM244 : MW (dt182 80) := h181.2.2.1
      obtain ⟨h181_0, h181_1, h181_2, h181_3, h181_4, h181_5, h181_6, h181_7, h181_8, h181_9, h181_10, h181_11, h181_12, h181_13⟩ := h181
      have w245 : dt182 80 0 = dt 80 0 := h181_4.trans w26
      have w246 : dt182 80 1 = dt 80 1 := h181_5.trans w27
      have w247 : dt182 80 3 = dt 80 3 := h181_6.trans w29
      have w248 : dt182 80 4 = dt 80 4 := h181_7.trans w30
      have w249 : dt182 80 5 = dt 80 5 := h181_8.trans w31
      have M2250 : MW (dt182 81) := MW_frk M2157 hF184 (by decide)
      have C251 : ∀ j : Nat, dt182 2 j = dt 2 j := fun j => (hF184 2 (by decide) j).trans (C158 j)
      have C252 : ∀ j : Nat, dt182 3 j = dt 3 j := fun j => (hF184 3 (by decide) j).trans (C159 j)
      have C253 : ∀ j : Nat, dt182 4 j = dt 4 j := fun j => (hF184 4 (by decide) j).trans (C160 j)
      have C254 : ∀ j : Nat, dt182 5 j = dt 5 j := fun j => (hF184 5 (by decide) j).trans (C161 j)
      have C255 : ∀ j : Nat, dt182 6 j = dt 6 j := fun j => (hF184 6 (by decide) j).trans (C162 j)
      have C256 : ∀ j : Nat, dt182 8 j = dt 8 j := fun j => (hF184 8 (by decide) j).trans (C163 j)
      have C257 : ∀ j : Nat, dt182 9 j = dt 9 j := fun j => (hF184 9 (by decide) j).trans (C164 j)
      have C258 : ∀ j : Nat, dt182 19 j = dt 19 j := fun j => (hF184 19 (by decide) j).trans (C165 j)
      have C259 : ∀ j : Nat, dt182 20 j = dt 20 j := fun j => (hF184 20 (by decide) j).trans (C166 j)
      have C260 : ∀ j : Nat, dt182 21 j = dt 21 j := fun j => (hF184 21 (by decide) j).trans (C167 j)
      have C261 : ∀ j : Nat, dt182 22 j = dt 22 j := fun j => (hF184 22 (by decide) j).trans (C168 j)
      have C262 : ∀ j : Nat, dt182 23 j = dt 23 j := fun j => (hF184 23 (by decide) j).trans (C169 j)
      have C263 : ∀ j : Nat, dt182 25 j = dt 25 j := fun j => (hF184 25 (by decide) j).trans (C170 j)
      have C264 : ∀ j : Nat, dt182 26 j = dt 26 j := fun j => (hF184 26 (by decide) j).trans (C171 j)
      have C265 : ∀ j : Nat, dt182 28 j = dt 28 j := fun j => (hF184 28 (by decide) j).trans (C172 j)
      have C266 : ∀ j : Nat, dt182 36 j = dt 36 j := fun j => (hF184 36 (by decide) j).trans (C173 j)
      have C267 : ∀ j : Nat, dt182 81 j = dt 81 j := fun j => (hF184 81 (by decide) j).trans (C175 j)
      have C268 : ∀ j : Nat, dt182 85 j = dt 85 j := fun j => (hF184 85 (by decide) j).trans (C176 j)
      have N269 := fun (j : Nat) (hj : (j : Int) < 4 * dt 10 3) => (hF184 11 (by decide) j).trans (h5_3 j hj)
      have N270 := (hF184 11 (by decide) _).trans h5_4
      have N271 := (hF184 11 (by decide) _).trans h5_5
      have N272 := (hF184 11 (by decide) _).trans h5_6
      have N273 := (hF184 11 (by decide) _).trans h5_7
      have F274 : ∀ j : Nat, 6 ≤ j → j < 974 → dt182 80 j = dt 80 j := fun j h1_ h2_ => (h181_9 j (by omega) (by omega)).trans (C174 j)
      have F275 : ∀ j : Nat, 974 ≤ j → j < 5320 → dt182 80 j = dt 80 j := fun j h1_ h2_ => (h181_9 j (by omega) (by omega)).trans (C174 j)
      have F276 : ∀ j : Nat, 5320 ≤ j → j < 5380 → dt182 80 j = dt 80 j := fun j h1_ h2_ => (h181_9 j (by omega) (by omega)).trans (C174 j)
      have F277 : dt182 80 1 = dt 80 1 := (h181_9 1 (by omega) (by omega)).trans (C174 1)
      have N278 := h181_9
      rw [show dt6 80 = dt 80 from funext C174] at N278
      have N279 := h181_10
      rw [show dt6 80 = dt 80 from funext C174] at N279
      have N280 := h181_11
      rw [show dt6 80 = dt 80 from funext C174] at N280
      have N281 := h181_12
      rw [show dt6 80 = dt 80 from funext C174] at N281
      have N282 := h181_13
      rw [show dt6 80 = dt 80 from funext C174] at N282
      have S283 : CHL (dt182 11) (dt182 80) := by first | exact CHL_a hd9 hk2 (by omega) N269 N270 N271 N272 N273 (by omega) N278 N279 N280 N281 N282 | (exfalso; omega)
      refine go_toq PM267 (k := 2) (pc' := 1435) (L' := [some (.inr (.inr (some 3000))), some (.inr (.inr (some 0))), some (.inr (.inr (some 79))), some (.inl i)]) (st' := []) (w' := (SH, dt182)) rfl ?_
      exact K dt182 hI183 hM244 M2250 (w186.trans (hk0.trans w245.symm)) (w187.trans (hk1.trans w246.symm)) (by omega) (w189.trans (hk3.trans w247.symm)) (w190.trans (hk4.trans w248.symm)) (w191.trans (hk5.trans w249.symm)) (w192.trans (hk6.trans w202.symm)) (w193.trans (hk7.trans w203.symm)) (w194.trans (hk8.trans w204.symm)) (w195.trans (hk9.trans w205.symm)) (w196.trans (hk10.trans w206.symm)) (w197.trans (hk11.trans w207.symm)) (w198.trans (hk12.trans w208.symm)) (w199.trans (hk13.trans w209.symm)) (w200.trans (hk14.trans w210.symm)) (w201.trans (hk15.trans w211.symm)) (by first | exact hI | exact TPL_k hd0 C266 C268 (by omega) | (exfalso; omega)) (by first | exact hI | exact SCL_k hd1 hM (fun j _ => C251 j) (fun j _ => C252 j) F274 | (exfalso; omega)) (by first | exact hI | exact SCL_k hd2 hM2 (fun j _ => C258 j) (fun j _ => C259 j) (fun j _ _ => C267 j) | (exfalso; omega)) (by first | exact hI | exact QRL_k hd3 hM (fun j _ => C256 j) F277 F276 | (exfalso; omega)) (by first | exact hI | exact QRL_k hd4 hM2 (fun j _ => C263 j) (C267 1) (fun j _ _ => C267 j) | (exfalso; omega)) (by first | exact hI | exact SDL_k hd5 hM (fun j _ => C257 j) F277 F274 F276 | (exfalso; omega)) (by first | exact hI | exact SDL_k hd6 hM2 (fun j _ => C264 j) (C267 1) (fun j _ _ => C267 j) (fun j _ _ => C267 j) | (exfalso; omega)) (by first | exact hI | exact LWL_k hd7 hM (fun j _ => C253 j) (fun j _ => C254 j) (fun j _ => C255 j) F275 | (exfalso; omega)) (by first | exact hI | exact LWL_k hd8 hM2 (fun j _ => C260 j) (fun j _ => C261 j) (fun j _ => C262 j) (fun j _ _ => C267 j) | (exfalso; omega)) (by first | exact S283 | exact CHL_k hd9 hM hI (by omega) hI | (exfalso; omega)) (by first | exact hI | exact CHL_k hd10 hM2 (fun j _ => C265 j) (by omega) (fun j _ _ => C267 j) | (exfalso; omega))
