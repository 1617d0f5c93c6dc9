theorem am_scr {L : Nat} {xs : Nat → Int32} {sio : Option Nat} {dt : Nat → Nat → Int} (h : L ≤ 3072) : am_arr (am_XX L xs sio) (SH, dt) 3000 = some (0, L, fun j => (xs j).toInt) := by
  have e : SH[3000]? = none := by decide +kernel
  unfold am_arr
  rw [show (SH, dt).1[3000]? = none from e]
  dsimp only [am_XX]
  rw [if_pos rfl]
  dsimp only
  have : Nat.blt L 2147483648 = true := Nat.blt_eq.mpr (by omega)
  rw [this]
  rfl
theorem s_alen {X : am_X} {L : am_L} {w : am_W} {tg : List Nat} {cv : Int} {r n ty : Nat} {f : Nat → Int} {rest : List AV} (hw : am_arr X w r = some (ty, n, f)) (h : Nat.blt ty 4 = true) : am_smp X .arraylength tg cv L (.inr (.inr (some r)) :: rest) w = some (L, .inl (n : Int) :: rest, w) := by
  simp only [am_smp, hw, h, cond_true]

set_option maxRecDepth 20000 in
set_option maxHeartbeats 8000000 in
theorem sp_case0 (L : Nat) (xs : Nat → Int32) (sio : Option Nat) (d : Nat) (Q : Option AV → am_W → Prop) (hLL : L ≤ 3072) (i : Int) (hi : 0 ≤ i ∧ i ≤ 3066) (hil : i ≤ (L : Int) - 6) (dt : Nat → Nat → Int) (hI : InvC dt) (hM : MW (dt 80)) (hM2 : MW (dt 81)) (hk0 : dt 1 0 = dt 80 0) (hk1 : dt 7 3 = dt 80 1) (hk2 : dt 10 3 = dt 80 2) (hk3 : dt 12 3 = dt 80 3) (hk4 : dt 14 3 = dt 80 4) (hk5 : dt 16 3 = dt 80 5) (hk6 : dt 18 0 = dt 81 0) (hk7 : dt 24 3 = dt 81 1) (hk8 : dt 27 3 = dt 81 2) (hk9 : dt 29 3 = dt 81 3) (hk10 : dt 31 3 = dt 81 4) (hk11 : dt 33 3 = dt 81 5) (hk12 : dt 0 2 = dt 79 2) (hk13 : dt 35 1 = dt 79 12) (hk14 : dt 35 2 = dt 79 19) (hk15 : dt 35 3 = dt 79 21) (hd0 : TPL (dt 36) (dt 85) (dt 35 1)) (hd1 : SCL (dt 2) (dt 3) (dt 80)) (hd2 : SCL (dt 19) (dt 20) (dt 81)) (hd3 : QRL (dt 8) (dt 80)) (hd4 : QRL (dt 25) (dt 81)) (hd5 : SDL (dt 9) (dt 80)) (hd6 : SDL (dt 26) (dt 81)) (hd7 : LWL (dt 4) (dt 5) (dt 6) (dt 80)) (hd8 : LWL (dt 21) (dt 22) (dt 23) (dt 81)) (hd9 : CHL (dt 11) (dt 80)) (hd10 : CHL (dt 28) (dt 81)) (hd11 : ANL (dt 13) (dt 80)) (hd12 : ANL (dt 30) (dt 81)) (K : ∀ (dt : Nat → Nat → Int) (hI : InvC dt) (hM : MW (dt 80)) (hM2 : MW (dt 81)) (hk0 : dt 1 0 = dt 80 0) (hk1 : dt 7 3 = dt 80 1) (hk2 : dt 10 3 = dt 80 2) (hk3 : dt 12 3 = dt 80 3) (hk4 : dt 14 3 = dt 80 4) (hk5 : dt 16 3 = dt 80 5) (hk6 : dt 18 0 = dt 81 0) (hk7 : dt 24 3 = dt 81 1) (hk8 : dt 27 3 = dt 81 2) (hk9 : dt 29 3 = dt 81 3) (hk10 : dt 31 3 = dt 81 4) (hk11 : dt 33 3 = dt 81 5) (hk12 : dt 0 2 = dt 79 2) (hk13 : dt 35 1 = dt 79 12) (hk14 : dt 35 2 = dt 79 19) (hk15 : dt 35 3 = dt 79 21) (hd0 : TPL (dt 36) (dt 85) (dt 35 1)) (hd1 : SCL (dt 2) (dt 3) (dt 80)) (hd2 : SCL (dt 19) (dt 20) (dt 81)) (hd3 : QRL (dt 8) (dt 80)) (hd4 : QRL (dt 25) (dt 81)) (hd5 : SDL (dt 9) (dt 80)) (hd6 : SDL (dt 26) (dt 81)) (hd7 : LWL (dt 4) (dt 5) (dt 6) (dt 80)) (hd8 : LWL (dt 21) (dt 22) (dt 23) (dt 81)) (hd9 : CHL (dt 11) (dt 80)) (hd10 : CHL (dt 28) (dt 81)) (hd11 : ANL (dt 13) (dt 80)) (hd12 : ANL (dt 30) (dt 81)), GO (am_XX L xs sio) (d + 39) 267 1435 [some (.inr (.inr (some 3000))), some (.inr (.inr (some 0))), some (.inr (.inr (some 79))), some (.inl i)] [] (SH, dt) Q) : GO (am_XX L xs sio) (d + 39) 267 180 [some (.inr (.inr (some 3000))), some (.inr (.inr (some 0))), some (.inr (.inr (some 79))), some (.inl i)] [] (SH, dt) Q := by
  have hF : Fr [0, 1, 2, 3, 4, 5, 6, 7, 8, 9, 10, 11, 12, 13, 14, 15, 16, 17, 18, 19, 20, 21, 22, 23, 24, 25, 26, 27, 28, 29, 30, 31, 32, 33, 34, 35, 36, 37, 38, 39, 40, 41, 42, 43, 44, 45, 46, 47, 48, 49, 50, 51, 52, 53, 54, 55, 56, 57, 58, 59, 60, 61, 62, 63, 64, 65, 66, 67, 68, 69, 70, 71, 72, 73, 74, 75, 76, 77, 78, 79, 80, 81, 82, 83, 84, 85, 86, 87, 88, 89, 90, 91, 92, 93, 94, 95, 96, 97, 98, 99, 100, 101, 102, 103, 104] dt dt := Fr_refl
  have hqo := QOC_R hd3 hM hk1
  have hb1_ := hM.1.1
  have hb2_ := hM.1.2.1
  have hb3_ := hM.1.2.2.1
  have halk : ALK dt (dt 80) := ⟨hd7, hd3, hd5, hd9, hk1, hk2⟩
  have hav_ : ∀ i : Nat, (i : Int) < dt 12 3 → 0 ≤ dt 13 (6 * i + 1) ∧ dt 13 (6 * i + 1) < dt 7 3 := fun i hi => by have z := hd11 i (by omega); have y := z.2.2 1 (by decide); have w := z.2.1; omega
  refine go_toq PM267 (k := 5) (pc' := 185) (L' := [some (.inr (.inr (some 3000))), some (.inr (.inr (some 0))), some (.inr (.inr (some 79))), some (.inl i)]) (st' := [.inl (i + 1), .inr (.inr (some 3000)), .inr (.inr (some 0))]) (w' := (SH, dt)) rfl ?_
  have r1 := i32_R (xs ((i + 1).toNat))
  refine go_smpq PM267 (L' := [some (.inr (.inr (some 3000))), some (.inr (.inr (some 0))), some (.inr (.inr (some 79))), some (.inl i)]) (st' := [.inl ((xs ((i + 1).toNat)).toInt), .inr (.inr (some 0))]) (w' := (SH, dt)) rfl rfl (s_iald (n := L) (f := fun j => (xs j).toInt) (am_scr hLL) ⟨by omega, by omega⟩) ?_
  refine go_callq PM267 PM67 (Q' := _) rfl rfl rfl rfl (sp_X5_state L xs sio (d + 38) dt hI  ((xs ((i + 1).toNat)).toInt) ⟨by omega, by omega⟩ ) ?_
  rintro _ _ ⟨dt3, rfl, hI4, hF5, h2⟩
  refine ⟨rfl, ?_⟩
  have hF6 : Fr [0, 1, 2, 3, 4, 5, 6, 7, 8, 9, 10, 11, 12, 13, 14, 15, 16, 17, 18, 19, 20, 21, 22, 23, 24, 25, 26, 27, 28, 29, 30, 31, 32, 33, 34, 35, 36, 37, 38, 39, 40, 41, 42, 43, 44, 45, 46, 47, 48, 49, 50, 51, 52, 53, 54, 55, 56, 57, 58, 59, 60, 61, 62, 63, 64, 65, 66, 67, 68, 69, 70, 71, 72, 73, 74, 75, 76, 77, 78, 79, 80, 81, 82, 83, 84, 85, 86, 87, 88, 89, 90, 91, 92, 93, 94, 95, 96, 97, 98, 99, 100, 101, 102, 103, 104] dt dt3 := Fr_tr hF hF5 (by decide)
  have hM7 : MW (dt3 80) := MW_fr hM hF5 (by decide)
  have w8 : dt3 7 3 = dt 7 3 := hF5 7 (by decide) 3
  have w9 : dt3 10 3 = dt 10 3 := hF5 10 (by decide) 3
  have w10 : dt3 12 3 = dt 12 3 := hF5 12 (by decide) 3
  have w11 : dt3 14 3 = dt 14 3 := hF5 14 (by decide) 3
  have w12 : dt3 16 3 = dt 16 3 := hF5 16 (by decide) 3
  have w13 : dt3 18 0 = dt 18 0 := hF5 18 (by decide) 0
  have w14 : dt3 24 3 = dt 24 3 := hF5 24 (by decide) 3
  have w15 : dt3 27 3 = dt 27 3 := hF5 27 (by decide) 3
  have w16 : dt3 29 3 = dt 29 3 := hF5 29 (by decide) 3
  have w17 : dt3 31 3 = dt 31 3 := hF5 31 (by decide) 3
  have w18 : dt3 33 3 = dt 33 3 := hF5 33 (by decide) 3
  have w19 : dt3 0 2 = dt 0 2 := hF5 0 (by decide) 2
  have w20 : dt3 35 1 = dt 35 1 := hF5 35 (by decide) 1
  have w21 : dt3 35 2 = dt 35 2 := hF5 35 (by decide) 2
  have w22 : dt3 35 3 = dt 35 3 := hF5 35 (by decide) 3
  have w23 : dt3 80 0 = dt 80 0 := hF5 80 (by decide) 0
  have w24 : dt3 80 1 = dt 80 1 := hF5 80 (by decide) 1
  have w25 : dt3 80 2 = dt 80 2 := hF5 80 (by decide) 2
  have w26 : dt3 80 3 = dt 80 3 := hF5 80 (by decide) 3
  have w27 : dt3 80 4 = dt 80 4 := hF5 80 (by decide) 4
  have w28 : dt3 80 5 = dt 80 5 := hF5 80 (by decide) 5
  have w29 : dt3 81 0 = dt 81 0 := hF5 81 (by decide) 0
  have w30 : dt3 81 1 = dt 81 1 := hF5 81 (by decide) 1
  have w31 : dt3 81 2 = dt 81 2 := hF5 81 (by decide) 2
  have w32 : dt3 81 3 = dt 81 3 := hF5 81 (by decide) 3
  have w33 : dt3 81 4 = dt 81 4 := hF5 81 (by decide) 4
  have w34 : dt3 81 5 = dt 81 5 := hF5 81 (by decide) 5
  have w35 : dt3 79 2 = dt 79 2 := hF5 79 (by decide) 2
  have w36 : dt3 79 12 = dt 79 12 := hF5 79 (by decide) 12
  have w37 : dt3 79 19 = dt 79 19 := hF5 79 (by decide) 19
  have w38 : dt3 79 21 = dt 79 21 := hF5 79 (by decide) 21
  rcases h2 with ⟨rfl, h2⟩
  have M239 : MW (dt3 81) := MW_frk hM2 hF5 (by decide)
  have C40 : ∀ j : Nat, dt3 2 j = dt 2 j := fun j => (hF5 2 (by decide) j).trans ((fun _ => rfl) j)
  have C41 : ∀ j : Nat, dt3 3 j = dt 3 j := fun j => (hF5 3 (by decide) j).trans ((fun _ => rfl) j)
  have C42 : ∀ j : Nat, dt3 4 j = dt 4 j := fun j => (hF5 4 (by decide) j).trans ((fun _ => rfl) j)
  have C43 : ∀ j : Nat, dt3 5 j = dt 5 j := fun j => (hF5 5 (by decide) j).trans ((fun _ => rfl) j)
  have C44 : ∀ j : Nat, dt3 6 j = dt 6 j := fun j => (hF5 6 (by decide) j).trans ((fun _ => rfl) j)
  have C45 : ∀ j : Nat, dt3 8 j = dt 8 j := fun j => (hF5 8 (by decide) j).trans ((fun _ => rfl) j)
  have C46 : ∀ j : Nat, dt3 9 j = dt 9 j := fun j => (hF5 9 (by decide) j).trans ((fun _ => rfl) j)
  have C47 : ∀ j : Nat, dt3 11 j = dt 11 j := fun j => (hF5 11 (by decide) j).trans ((fun _ => rfl) j)
  have C48 : ∀ j : Nat, dt3 19 j = dt 19 j := fun j => (hF5 19 (by decide) j).trans ((fun _ => rfl) j)
  have C49 : ∀ j : Nat, dt3 20 j = dt 20 j := fun j => (hF5 20 (by decide) j).trans ((fun _ => rfl) j)
  have C50 : ∀ j : Nat, dt3 21 j = dt 21 j := fun j => (hF5 21 (by decide) j).trans ((fun _ => rfl) j)
  have C51 : ∀ j : Nat, dt3 22 j = dt 22 j := fun j => (hF5 22 (by decide) j).trans ((fun _ => rfl) j)
  have C52 : ∀ j : Nat, dt3 23 j = dt 23 j := fun j => (hF5 23 (by decide) j).trans ((fun _ => rfl) j)
  have C53 : ∀ j : Nat, dt3 25 j = dt 25 j := fun j => (hF5 25 (by decide) j).trans ((fun _ => rfl) j)
  have C54 : ∀ j : Nat, dt3 26 j = dt 26 j := fun j => (hF5 26 (by decide) j).trans ((fun _ => rfl) j)
  have C55 : ∀ j : Nat, dt3 28 j = dt 28 j := fun j => (hF5 28 (by decide) j).trans ((fun _ => rfl) j)
  have C56 : ∀ j : Nat, dt3 13 j = dt 13 j := fun j => (hF5 13 (by decide) j).trans ((fun _ => rfl) j)
  have C57 : ∀ j : Nat, dt3 30 j = dt 30 j := fun j => (hF5 30 (by decide) j).trans ((fun _ => rfl) j)
  have C58 : ∀ j : Nat, dt3 36 j = dt 36 j := fun j => (hF5 36 (by decide) j).trans ((fun _ => rfl) j)
  have C59 : ∀ j : Nat, dt3 80 j = dt 80 j := fun j => (hF5 80 (by decide) j).trans ((fun _ => rfl) j)
  have C60 : ∀ j : Nat, dt3 81 j = dt 81 j := fun j => (hF5 81 (by decide) j).trans ((fun _ => rfl) j)
  have C61 : ∀ j : Nat, dt3 85 j = dt 85 j := fun j => (hF5 85 (by decide) j).trans ((fun _ => rfl) j)
  refine go_toq PM267 (k := 6) (pc' := 195) (L' := [some (.inr (.inr (some 3000))), some (.inr (.inr (some 0))), some (.inr (.inr (some 79))), some (.inl i)]) (st' := [.inl (i + 1), .inr (.inr (some 3000)), .inr (.inr (some 79))]) (w' := (SH, dt3)) rfl ?_
  have r62 := i32_R (xs ((i + 1).toNat))
  refine go_smpq PM267 (L' := [some (.inr (.inr (some 3000))), some (.inr (.inr (some 0))), some (.inr (.inr (some 79))), some (.inl i)]) (st' := [.inl ((xs ((i + 1).toNat)).toInt), .inr (.inr (some 79))]) (w' := (SH, dt3)) rfl rfl (s_iald (n := L) (f := fun j => (xs j).toInt) (am_scr hLL) ⟨by omega, by omega⟩) ?_
  refine go_callq PM267 PM149 (Q' := _) rfl rfl rfl rfl (sp_X6_state_v L xs sio (d + 38) dt3 hI4 hM7  ((xs ((i + 1).toNat)).toInt) ⟨by omega, by omega⟩ ) ?_
  rintro _ _ ⟨dt64, rfl, hI65, hF66, h63⟩
  refine ⟨rfl, ?_⟩
  have hF67 : Fr [0, 1, 2, 3, 4, 5, 6, 7, 8, 9, 10, 11, 12, 13, 14, 15, 16, 17, 18, 19, 20, 21, 22, 23, 24, 25, 26, 27, 28, 29, 30, 31, 32, 33, 34, 35, 36, 37, 38, 39, 40, 41, 42, 43, 44, 45, 46, 47, 48, 49, 50, 51, 52, 53, 54, 55, 56, 57, 58, 59, 60, 61, 62, 63, 64, 65, 66, 67, 68, 69, 70, 71, 72, 73, 74, 75, 76, 77, 78, 79, 80, 81, 82, 83, 84, 85, 86, 87, 88, 89, 90, 91, 92, 93, 94, 95, 96, 97, 98, 99, 100, 101, 102, 103, 104] dt dt64 := Fr_tr hF6 hF66 (by decide)
  have w68 : dt64 1 0 = dt3 1 0 := hF66 1 (by decide) 0
  have w69 : dt64 7 3 = dt 7 3 := (hF66 7 (by decide) 3).trans w8
  have w70 : dt64 10 3 = dt 10 3 := (hF66 10 (by decide) 3).trans w9
  have w71 : dt64 12 3 = dt 12 3 := (hF66 12 (by decide) 3).trans w10
  have w72 : dt64 14 3 = dt 14 3 := (hF66 14 (by decide) 3).trans w11
  have w73 : dt64 16 3 = dt 16 3 := (hF66 16 (by decide) 3).trans w12
  have w74 : dt64 18 0 = dt 18 0 := (hF66 18 (by decide) 0).trans w13
  have w75 : dt64 24 3 = dt 24 3 := (hF66 24 (by decide) 3).trans w14
  have w76 : dt64 27 3 = dt 27 3 := (hF66 27 (by decide) 3).trans w15
  have w77 : dt64 29 3 = dt 29 3 := (hF66 29 (by decide) 3).trans w16
  have w78 : dt64 31 3 = dt 31 3 := (hF66 31 (by decide) 3).trans w17
  have w79 : dt64 33 3 = dt 33 3 := (hF66 33 (by decide) 3).trans w18
  have w80 : dt64 0 2 = dt 0 2 := (hF66 0 (by decide) 2).trans w19
  have w81 : dt64 35 1 = dt 35 1 := (hF66 35 (by decide) 1).trans w20
  have w82 : dt64 35 2 = dt 35 2 := (hF66 35 (by decide) 2).trans w21
  have w83 : dt64 35 3 = dt 35 3 := (hF66 35 (by decide) 3).trans w22
  have w84 : dt64 81 0 = dt 81 0 := (hF66 81 (by decide) 0).trans w29
  have w85 : dt64 81 1 = dt 81 1 := (hF66 81 (by decide) 1).trans w30
  have w86 : dt64 81 2 = dt 81 2 := (hF66 81 (by decide) 2).trans w31
  have w87 : dt64 81 3 = dt 81 3 := (hF66 81 (by decide) 3).trans w32
  have w88 : dt64 81 4 = dt 81 4 := (hF66 81 (by decide) 4).trans w33
  have w89 : dt64 81 5 = dt 81 5 := (hF66 81 (by decide) 5).trans w34
  have w90 : dt64 79 2 = dt 79 2 := (hF66 79 (by decide) 2).trans w35
  have w91 : dt64 79 12 = dt 79 12 := (hF66 79 (by decide) 12).trans w36
  have w92 : dt64 79 19 = dt 79 19 := (hF66 79 (by decide) 19).trans w37
  have w93 : dt64 79 21 = dt 79 21 := (hF66 79 (by decide) 21).trans w38
  rcases h63 with ⟨rfl, h63⟩
  have hM94 : MW (dt64 80) := h63.2.1
  obtain ⟨h63_0, h63_1, h63_2, h63_3, h63_4, h63_5, h63_6, h63_7⟩ := h63
  have w95 : dt64 80 1 = dt 80 1 := h63_2.trans w24
  have w96 : dt64 80 2 = dt 80 2 := h63_3.trans w25
  have w97 : dt64 80 3 = dt 80 3 := h63_4.trans w26
  have w98 : dt64 80 4 = dt 80 4 := h63_5.trans w27
  have w99 : dt64 80 5 = dt 80 5 := h63_6.trans w28
  have M2100 : MW (dt64 81) := MW_frk M239 hF66 (by decide)
  have C101 : ∀ j : Nat, dt64 2 j = dt 2 j := fun j => (hF66 2 (by decide) j).trans (C40 j)
  have C102 : ∀ j : Nat, dt64 3 j = dt 3 j := fun j => (hF66 3 (by decide) j).trans (C41 j)
  have C103 : ∀ j : Nat, dt64 4 j = dt 4 j := fun j => (hF66 4 (by decide) j).trans (C42 j)
  have C104 : ∀ j : Nat, dt64 5 j = dt 5 j := fun j => (hF66 5 (by decide) j).trans (C43 j)
  have C105 : ∀ j : Nat, dt64 6 j = dt 6 j := fun j => (hF66 6 (by decide) j).trans (C44 j)
  have C106 : ∀ j : Nat, dt64 8 j = dt 8 j := fun j => (hF66 8 (by decide) j).trans (C45 j)
  have C107 : ∀ j : Nat, dt64 9 j = dt 9 j := fun j => (hF66 9 (by decide) j).trans (C46 j)
  have C108 : ∀ j : Nat, dt64 11 j = dt 11 j := fun j => (hF66 11 (by decide) j).trans (C47 j)
  have C109 : ∀ j : Nat, dt64 19 j = dt 19 j := fun j => (hF66 19 (by decide) j).trans (C48 j)
  have C110 : ∀ j : Nat, dt64 20 j = dt 20 j := fun j => (hF66 20 (by decide) j).trans (C49 j)
  have C111 : ∀ j : Nat, dt64 21 j = dt 21 j := fun j => (hF66 21 (by decide) j).trans (C50 j)
  have C112 : ∀ j : Nat, dt64 22 j = dt 22 j := fun j => (hF66 22 (by decide) j).trans (C51 j)
  have C113 : ∀ j : Nat, dt64 23 j = dt 23 j := fun j => (hF66 23 (by decide) j).trans (C52 j)
  have C114 : ∀ j : Nat, dt64 25 j = dt 25 j := fun j => (hF66 25 (by decide) j).trans (C53 j)
  have C115 : ∀ j : Nat, dt64 26 j = dt 26 j := fun j => (hF66 26 (by decide) j).trans (C54 j)
  have C116 : ∀ j : Nat, dt64 28 j = dt 28 j := fun j => (hF66 28 (by decide) j).trans (C55 j)
  have C117 : ∀ j : Nat, dt64 13 j = dt 13 j := fun j => (hF66 13 (by decide) j).trans (C56 j)
  have C118 : ∀ j : Nat, dt64 30 j = dt 30 j := fun j => (hF66 30 (by decide) j).trans (C57 j)
  have C119 : ∀ j : Nat, dt64 36 j = dt 36 j := fun j => (hF66 36 (by decide) j).trans (C58 j)
  have C120 : ∀ j : Nat, dt64 81 j = dt 81 j := fun j => (hF66 81 (by decide) j).trans (C60 j)
  have C121 : ∀ j : Nat, dt64 85 j = dt 85 j := fun j => (hF66 85 (by decide) j).trans (C61 j)
  have F122 : ∀ j : Nat, 6 ≤ j → j < 974 → dt64 80 j = dt 80 j := fun j h1_ h2_ => (h63_7 j (by omega)).trans (C59 j)
  have F123 : ∀ j : Nat, 974 ≤ j → j < 5320 → dt64 80 j = dt 80 j := fun j h1_ h2_ => (h63_7 j (by omega)).trans (C59 j)
  have F124 : ∀ j : Nat, 5320 ≤ j → j < 5380 → dt64 80 j = dt 80 j := fun j h1_ h2_ => (h63_7 j (by omega)).trans (C59 j)
  have F125 : dt64 80 1 = dt 80 1 := (h63_7 1 (by omega)).trans (C59 1)
  have F126 : ∀ j : Nat, 5380 ≤ j → j < 5540 → dt64 80 j = dt 80 j := fun j h1_ h2_ => (h63_7 j (by omega)).trans (C59 j)
  have F127 : ∀ j : Nat, 5540 ≤ j → j < 7340 → dt64 80 j = dt 80 j := fun j h1_ h2_ => (h63_7 j (by omega)).trans (C59 j)
  refine go_toq PM267 (k := 2) (pc' := 1435) (L' := [some (.inr (.inr (some 3000))), some (.inr (.inr (some 0))), some (.inr (.inr (some 79))), some (.inl i)]) (st' := []) (w' := (SH, dt64)) rfl ?_
  exact K dt64 hI65 hM94 M2100 (by first | omega | (simp only [*]; done) | simp only [*]) (w69.trans (hk1.trans w95.symm)) (w70.trans (hk2.trans w96.symm)) (w71.trans (hk3.trans w97.symm)) (w72.trans (hk4.trans w98.symm)) (w73.trans (hk5.trans w99.symm)) (w74.trans (hk6.trans w84.symm)) (w75.trans (hk7.trans w85.symm)) (w76.trans (hk8.trans w86.symm)) (w77.trans (hk9.trans w87.symm)) (w78.trans (hk10.trans w88.symm)) (w79.trans (hk11.trans w89.symm)) (w80.trans (hk12.trans w90.symm)) (w81.trans (hk13.trans w91.symm)) (w82.trans (hk14.trans w92.symm)) (w83.trans (hk15.trans w93.symm)) (by first | exact hI | exact TPL_k hd0 C119 C121 (by omega) | (exfalso; omega)) (by first | exact hI | exact SCL_k hd1 hM (fun j _ => C101 j) (fun j _ => C102 j) F122 | (exfalso; omega)) (by first | exact hI | exact SCL_k hd2 hM2 (fun j _ => C109 j) (fun j _ => C110 j) (fun j _ _ => C120 j) | (exfalso; omega)) (by first | exact hI | exact QRL_k hd3 hM (fun j _ => C106 j) F125 F124 | (exfalso; omega)) (by first | exact hI | exact QRL_k hd4 hM2 (fun j _ => C114 j) (C120 1) (fun j _ _ => C120 j) | (exfalso; omega)) (by first | exact hI | exact SDL_k hd5 hM (fun j _ => C107 j) F125 F122 F124 | (exfalso; omega)) (by first | exact hI | exact SDL_k hd6 hM2 (fun j _ => C115 j) (C120 1) (fun j _ _ => C120 j) (fun j _ _ => C120 j) | (exfalso; omega)) (by first | exact hI | exact LWL_k hd7 hM (fun j _ => C103 j) (fun j _ => C104 j) (fun j _ => C105 j) F123 | (exfalso; omega)) (by first | exact hI | exact LWL_k hd8 hM2 (fun j _ => C111 j) (fun j _ => C112 j) (fun j _ => C113 j) (fun j _ _ => C120 j) | (exfalso; omega)) (by first | exact hI | exact CHL_k hd9 hM (fun j _ => C108 j) (by omega) F126 | (exfalso; omega)) (by first | exact hI | exact CHL_k hd10 hM2 (fun j _ => C116 j) (by omega) (fun j _ _ => C120 j) | (exfalso; omega)) (by first | exact hI | exact ANL_k hd11 hM (fun j _ => C117 j) (by omega) (by omega) (by omega) F127 | (exfalso; omega)) (by first | exact hI | exact ANL_k hd12 hM2 (fun j _ => C118 j) (by omega) (by omega) (by omega) (fun j _ _ => C120 j) | (exfalso; omega))
set_option maxRecDepth 20000 in
set_option maxHeartbeats 8000000 in
theorem sp_case1 (L : Nat) (xs : Nat → Int32) (sio : Option Nat) (d : Nat) (Q : Option AV → am_W → Prop) (hLL : L ≤ 3072) (i : Int) (hi : 0 ≤ i ∧ i ≤ 3066) (hil : i ≤ (L : Int) - 6) (dt : Nat → Nat → Int) (hI : InvC dt) (hM : MW (dt 80)) (hM2 : MW (dt 81)) (hk0 : dt 1 0 = dt 80 0) (hk1 : dt 7 3 = dt 80 1) (hk2 : dt 10 3 = dt 80 2) (hk3 : dt 12 3 = dt 80 3) (hk4 : dt 14 3 = dt 80 4) (hk5 : dt 16 3 = dt 80 5) (hk6 : dt 18 0 = dt 81 0) (hk7 : dt 24 3 = dt 81 1) (hk8 : dt 27 3 = dt 81 2) (hk9 : dt 29 3 = dt 81 3) (hk10 : dt 31 3 = dt 81 4) (hk11 : dt 33 3 = dt 81 5) (hk12 : dt 0 2 = dt 79 2) (hk13 : dt 35 1 = dt 79 12) (hk14 : dt 35 2 = dt 79 19) (hk15 : dt 35 3 = dt 79 21) (hd0 : TPL (dt 36) (dt 85) (dt 35 1)) (hd1 : SCL (dt 2) (dt 3) (dt 80)) (hd2 : SCL (dt 19) (dt 20) (dt 81)) (hd3 : QRL (dt 8) (dt 80)) (hd4 : QRL (dt 25) (dt 81)) (hd5 : SDL (dt 9) (dt 80)) (hd6 : SDL (dt 26) (dt 81)) (hd7 : LWL (dt 4) (dt 5) (dt 6) (dt 80)) (hd8 : LWL (dt 21) (dt 22) (dt 23) (dt 81)) (hd9 : CHL (dt 11) (dt 80)) (hd10 : CHL (dt 28) (dt 81)) (hd11 : ANL (dt 13) (dt 80)) (hd12 : ANL (dt 30) (dt 81)) (K : ∀ (dt : Nat → Nat → Int) (hI : InvC dt) (hM : MW (dt 80)) (hM2 : MW (dt 81)) (hk0 : dt 1 0 = dt 80 0) (hk1 : dt 7 3 = dt 80 1) (hk2 : dt 10 3 = dt 80 2) (hk3 : dt 12 3 = dt 80 3) (hk4 : dt 14 3 = dt 80 4) (hk5 : dt 16 3 = dt 80 5) (hk6 : dt 18 0 = dt 81 0) (hk7 : dt 24 3 = dt 81 1) (hk8 : dt 27 3 = dt 81 2) (hk9 : dt 29 3 = dt 81 3) (hk10 : dt 31 3 = dt 81 4) (hk11 : dt 33 3 = dt 81 5) (hk12 : dt 0 2 = dt 79 2) (hk13 : dt 35 1 = dt 79 12) (hk14 : dt 35 2 = dt 79 19) (hk15 : dt 35 3 = dt 79 21) (hd0 : TPL (dt 36) (dt 85) (dt 35 1)) (hd1 : SCL (dt 2) (dt 3) (dt 80)) (hd2 : SCL (dt 19) (dt 20) (dt 81)) (hd3 : QRL (dt 8) (dt 80)) (hd4 : QRL (dt 25) (dt 81)) (hd5 : SDL (dt 9) (dt 80)) (hd6 : SDL (dt 26) (dt 81)) (hd7 : LWL (dt 4) (dt 5) (dt 6) (dt 80)) (hd8 : LWL (dt 21) (dt 22) (dt 23) (dt 81)) (hd9 : CHL (dt 11) (dt 80)) (hd10 : CHL (dt 28) (dt 81)) (hd11 : ANL (dt 13) (dt 80)) (hd12 : ANL (dt 30) (dt 81)), GO (am_XX L xs sio) (d + 39) 267 1435 [some (.inr (.inr (some 3000))), some (.inr (.inr (some 0))), some (.inr (.inr (some 79))), some (.inl i)] [] (SH, dt) Q) : GO (am_XX L xs sio) (d + 39) 267 203 [some (.inr (.inr (some 3000))), some (.inr (.inr (some 0))), some (.inr (.inr (some 79))), some (.inl i)] [] (SH, dt) Q := by
  have hF : Fr [0, 1, 2, 3, 4, 5, 6, 7, 8, 9, 10, 11, 12, 13, 14, 15, 16, 17, 18, 19, 20, 21, 22, 23, 24, 25, 26, 27, 28, 29, 30, 31, 32, 33, 34, 35, 36, 37, 38, 39, 40, 41, 42, 43, 44, 45, 46, 47, 48, 49, 50, 51, 52, 53, 54, 55, 56, 57, 58, 59, 60, 61, 62, 63, 64, 65, 66, 67, 68, 69, 70, 71, 72, 73, 74, 75, 76, 77, 78, 79, 80, 81, 82, 83, 84, 85, 86, 87, 88, 89, 90, 91, 92, 93, 94, 95, 96, 97, 98, 99, 100, 101, 102, 103, 104] dt dt := Fr_refl
  have hqo := QOC_R hd3 hM hk1
  have hb1_ := hM.1.1
  have hb2_ := hM.1.2.1
  have hb3_ := hM.1.2.2.1
  have halk : ALK dt (dt 80) := ⟨hd7, hd3, hd5, hd9, hk1, hk2⟩
  have hav_ : ∀ i : Nat, (i : Int) < dt 12 3 → 0 ≤ dt 13 (6 * i + 1) ∧ dt 13 (6 * i + 1) < dt 7 3 := fun i hi => by have z := hd11 i (by omega); have y := z.2.2 1 (by decide); have w := z.2.1; omega
  refine go_toq PM267 (k := 5) (pc' := 208) (L' := [some (.inr (.inr (some 3000))), some (.inr (.inr (some 0))), some (.inr (.inr (some 79))), some (.inl i)]) (st' := [.inl (i + 1), .inr (.inr (some 3000)), .inr (.inr (some 0))]) (w' := (SH, dt)) rfl ?_
  have r1 := i32_R (xs ((i + 1).toNat))
  refine go_smpq PM267 (L' := [some (.inr (.inr (some 3000))), some (.inr (.inr (some 0))), some (.inr (.inr (some 79))), some (.inl i)]) (st' := [.inl ((xs ((i + 1).toNat)).toInt), .inr (.inr (some 0))]) (w' := (SH, dt)) rfl rfl (s_iald (n := L) (f := fun j => (xs j).toInt) (am_scr hLL) ⟨by omega, by omega⟩) ?_
  refine go_toq PM267 (k := 4) (pc' := 213) (L' := [some (.inr (.inr (some 3000))), some (.inr (.inr (some 0))), some (.inr (.inr (some 79))), some (.inl i)]) (st' := [.inl (i + 2), .inr (.inr (some 3000)), .inl ((xs ((i + 1).toNat)).toInt), .inr (.inr (some 0))]) (w' := (SH, dt)) rfl ?_
  have r2 := i32_R (xs ((i + 2).toNat))
  refine go_smpq PM267 (L' := [some (.inr (.inr (some 3000))), some (.inr (.inr (some 0))), some (.inr (.inr (some 79))), some (.inl i)]) (st' := [.inl ((xs ((i + 2).toNat)).toInt), .inl ((xs ((i + 1).toNat)).toInt), .inr (.inr (some 0))]) (w' := (SH, dt)) rfl rfl (s_iald (n := L) (f := fun j => (xs j).toInt) (am_scr hLL) ⟨by omega, by omega⟩) ?_
  refine go_toq PM267 (k := 4) (pc' := 218) (L' := [some (.inr (.inr (some 3000))), some (.inr (.inr (some 0))), some (.inr (.inr (some 79))), some (.inl i)]) (st' := [.inl (i + 3), .inr (.inr (some 3000)), .inl ((xs ((i + 2).toNat)).toInt), .inl ((xs ((i + 1).toNat)).toInt), .inr (.inr (some 0))]) (w' := (SH, dt)) rfl ?_
  have r3 := i32_R (xs ((i + 3).toNat))
  refine go_smpq PM267 (L' := [some (.inr (.inr (some 3000))), some (.inr (.inr (some 0))), some (.inr (.inr (some 79))), some (.inl i)]) (st' := [.inl ((xs ((i + 3).toNat)).toInt), .inl ((xs ((i + 2).toNat)).toInt), .inl ((xs ((i + 1).toNat)).toInt), .inr (.inr (some 0))]) (w' := (SH, dt)) rfl rfl (s_iald (n := L) (f := fun j => (xs j).toInt) (am_scr hLL) ⟨by omega, by omega⟩) ?_
  refine go_toq PM267 (k := 4) (pc' := 223) (L' := [some (.inr (.inr (some 3000))), some (.inr (.inr (some 0))), some (.inr (.inr (some 79))), some (.inl i)]) (st' := [.inl (i + 4), .inr (.inr (some 3000)), .inl ((xs ((i + 3).toNat)).toInt), .inl ((xs ((i + 2).toNat)).toInt), .inl ((xs ((i + 1).toNat)).toInt), .inr (.inr (some 0))]) (w' := (SH, dt)) rfl ?_
  have r4 := i32_R (xs ((i + 4).toNat))
  refine go_smpq PM267 (L' := [some (.inr (.inr (some 3000))), some (.inr (.inr (some 0))), some (.inr (.inr (some 79))), some (.inl i)]) (st' := [.inl ((xs ((i + 4).toNat)).toInt), .inl ((xs ((i + 3).toNat)).toInt), .inl ((xs ((i + 2).toNat)).toInt), .inl ((xs ((i + 1).toNat)).toInt), .inr (.inr (some 0))]) (w' := (SH, dt)) rfl rfl (s_iald (n := L) (f := fun j => (xs j).toInt) (am_scr hLL) ⟨by omega, by omega⟩) ?_
  refine go_toq PM267 (k := 4) (pc' := 228) (L' := [some (.inr (.inr (some 3000))), some (.inr (.inr (some 0))), some (.inr (.inr (some 79))), some (.inl i)]) (st' := [.inl (i + 5), .inr (.inr (some 3000)), .inl ((xs ((i + 4).toNat)).toInt), .inl ((xs ((i + 3).toNat)).toInt), .inl ((xs ((i + 2).toNat)).toInt), .inl ((xs ((i + 1).toNat)).toInt), .inr (.inr (some 0))]) (w' := (SH, dt)) rfl ?_
  have r5 := i32_R (xs ((i + 5).toNat))
  refine go_smpq PM267 (L' := [some (.inr (.inr (some 3000))), some (.inr (.inr (some 0))), some (.inr (.inr (some 79))), some (.inl i)]) (st' := [.inl ((xs ((i + 5).toNat)).toInt), .inl ((xs ((i + 4).toNat)).toInt), .inl ((xs ((i + 3).toNat)).toInt), .inl ((xs ((i + 2).toNat)).toInt), .inl ((xs ((i + 1).toNat)).toInt), .inr (.inr (some 0))]) (w' := (SH, dt)) rfl rfl (s_iald (n := L) (f := fun j => (xs j).toInt) (am_scr hLL) ⟨by omega, by omega⟩) ?_
  refine go_callq PM267 PM68 (Q' := _) rfl rfl rfl rfl (sp_X5_feed_f L xs sio (d + 37) dt hI  ((xs ((i + 1).toNat)).toInt) ⟨by omega, by omega⟩ ((xs ((i + 2).toNat)).toInt) ⟨by omega, by omega⟩ ((xs ((i + 3).toNat)).toInt) ⟨by omega, by omega⟩ ((xs ((i + 4).toNat)).toInt) ⟨by omega, by omega⟩ ((xs ((i + 5).toNat)).toInt) ⟨by omega, by omega⟩ ) ?_
  rintro _ _ ⟨dt7, rfl, hI8, hF9, h6⟩
  refine ⟨rfl, ?_⟩
  have hF10 : Fr [0, 1, 2, 3, 4, 5, 6, 7, 8, 9, 10, 11, 12, 13, 14, 15, 16, 17, 18, 19, 20, 21, 22, 23, 24, 25, 26, 27, 28, 29, 30, 31, 32, 33, 34, 35, 36, 37, 38, 39, 40, 41, 42, 43, 44, 45, 46, 47, 48, 49, 50, 51, 52, 53, 54, 55, 56, 57, 58, 59, 60, 61, 62, 63, 64, 65, 66, 67, 68, 69, 70, 71, 72, 73, 74, 75, 76, 77, 78, 79, 80, 81, 82, 83, 84, 85, 86, 87, 88, 89, 90, 91, 92, 93, 94, 95, 96, 97, 98, 99, 100, 101, 102, 103, 104] dt dt7 := Fr_tr hF hF9 (by decide)
  have hM11 : MW (dt7 80) := MW_fr hM hF9 (by decide)
  have w12 : dt7 1 0 = dt 1 0 := hF9 1 (by decide) 0
  have w13 : dt7 7 3 = dt 7 3 := hF9 7 (by decide) 3
  have w14 : dt7 10 3 = dt 10 3 := hF9 10 (by decide) 3
  have w15 : dt7 12 3 = dt 12 3 := hF9 12 (by decide) 3
  have w16 : dt7 14 3 = dt 14 3 := hF9 14 (by decide) 3
  have w17 : dt7 16 3 = dt 16 3 := hF9 16 (by decide) 3
  have w18 : dt7 18 0 = dt 18 0 := hF9 18 (by decide) 0
  have w19 : dt7 24 3 = dt 24 3 := hF9 24 (by decide) 3
  have w20 : dt7 27 3 = dt 27 3 := hF9 27 (by decide) 3
  have w21 : dt7 29 3 = dt 29 3 := hF9 29 (by decide) 3
  have w22 : dt7 31 3 = dt 31 3 := hF9 31 (by decide) 3
  have w23 : dt7 33 3 = dt 33 3 := hF9 33 (by decide) 3
  have w24 : dt7 0 2 = dt 0 2 := hF9 0 (by decide) 2
  have w25 : dt7 80 0 = dt 80 0 := hF9 80 (by decide) 0
  have w26 : dt7 80 1 = dt 80 1 := hF9 80 (by decide) 1
  have w27 : dt7 80 2 = dt 80 2 := hF9 80 (by decide) 2
  have w28 : dt7 80 3 = dt 80 3 := hF9 80 (by decide) 3
  have w29 : dt7 80 4 = dt 80 4 := hF9 80 (by decide) 4
  have w30 : dt7 80 5 = dt 80 5 := hF9 80 (by decide) 5
  have w31 : dt7 81 0 = dt 81 0 := hF9 81 (by decide) 0
  have w32 : dt7 81 1 = dt 81 1 := hF9 81 (by decide) 1
  have w33 : dt7 81 2 = dt 81 2 := hF9 81 (by decide) 2
  have w34 : dt7 81 3 = dt 81 3 := hF9 81 (by decide) 3
  have w35 : dt7 81 4 = dt 81 4 := hF9 81 (by decide) 4
  have w36 : dt7 81 5 = dt 81 5 := hF9 81 (by decide) 5
  have w37 : dt7 79 2 = dt 79 2 := hF9 79 (by decide) 2
  have w38 : dt7 79 12 = dt 79 12 := hF9 79 (by decide) 12
  have w39 : dt7 79 19 = dt 79 19 := hF9 79 (by decide) 19
  have w40 : dt7 79 21 = dt 79 21 := hF9 79 (by decide) 21
  rcases h6 with ⟨rfl, h6⟩ | ⟨v_h6, rfl, h6r, h6⟩
  · skip
    obtain ⟨h6_0, h6_1, h6_2, h6_3, h6_4⟩ := h6
    have w41 : dt7 35 1 = dt 35 1 := h6_1
    have w42 : dt7 35 2 = dt 35 2 := h6_3
    have w43 : dt7 35 3 = dt 35 3 := h6_4
    have M244 : MW (dt7 81) := MW_frk hM2 hF9 (by decide)
    have C45 : ∀ j : Nat, dt7 2 j = dt 2 j := fun j => (hF9 2 (by decide) j).trans ((fun _ => rfl) j)
    have C46 : ∀ j : Nat, dt7 3 j = dt 3 j := fun j => (hF9 3 (by decide) j).trans ((fun _ => rfl) j)
    have C47 : ∀ j : Nat, dt7 4 j = dt 4 j := fun j => (hF9 4 (by decide) j).trans ((fun _ => rfl) j)
    have C48 : ∀ j : Nat, dt7 5 j = dt 5 j := fun j => (hF9 5 (by decide) j).trans ((fun _ => rfl) j)
    have C49 : ∀ j : Nat, dt7 6 j = dt 6 j := fun j => (hF9 6 (by decide) j).trans ((fun _ => rfl) j)
    have C50 : ∀ j : Nat, dt7 8 j = dt 8 j := fun j => (hF9 8 (by decide) j).trans ((fun _ => rfl) j)
    have C51 : ∀ j : Nat, dt7 9 j = dt 9 j := fun j => (hF9 9 (by decide) j).trans ((fun _ => rfl) j)
    have C52 : ∀ j : Nat, dt7 11 j = dt 11 j := fun j => (hF9 11 (by decide) j).trans ((fun _ => rfl) j)
    have C53 : ∀ j : Nat, dt7 19 j = dt 19 j := fun j => (hF9 19 (by decide) j).trans ((fun _ => rfl) j)
    have C54 : ∀ j : Nat, dt7 20 j = dt 20 j := fun j => (hF9 20 (by decide) j).trans ((fun _ => rfl) j)
    have C55 : ∀ j : Nat, dt7 21 j = dt 21 j := fun j => (hF9 21 (by decide) j).trans ((fun _ => rfl) j)
    have C56 : ∀ j : Nat, dt7 22 j = dt 22 j := fun j => (hF9 22 (by decide) j).trans ((fun _ => rfl) j)
    have C57 : ∀ j : Nat, dt7 23 j = dt 23 j := fun j => (hF9 23 (by decide) j).trans ((fun _ => rfl) j)
    have C58 : ∀ j : Nat, dt7 25 j = dt 25 j := fun j => (hF9 25 (by decide) j).trans ((fun _ => rfl) j)
    have C59 : ∀ j : Nat, dt7 26 j = dt 26 j := fun j => (hF9 26 (by decide) j).trans ((fun _ => rfl) j)
    have C60 : ∀ j : Nat, dt7 28 j = dt 28 j := fun j => (hF9 28 (by decide) j).trans ((fun _ => rfl) j)
    have C61 : ∀ j : Nat, dt7 13 j = dt 13 j := fun j => (hF9 13 (by decide) j).trans ((fun _ => rfl) j)
    have C62 : ∀ j : Nat, dt7 30 j = dt 30 j := fun j => (hF9 30 (by decide) j).trans ((fun _ => rfl) j)
    have C63 : ∀ j : Nat, dt7 36 j = dt 36 j := fun j => (h6_2 j).trans ((fun _ => rfl) j)
    have C64 : ∀ j : Nat, dt7 80 j = dt 80 j := fun j => (hF9 80 (by decide) j).trans ((fun _ => rfl) j)
    have C65 : ∀ j : Nat, dt7 81 j = dt 81 j := fun j => (hF9 81 (by decide) j).trans ((fun _ => rfl) j)
    have C66 : ∀ j : Nat, dt7 85 j = dt 85 j := fun j => (hF9 85 (by decide) j).trans ((fun _ => rfl) j)
    refine go_toq PM267 (k := 6) (pc' := 238) (L' := [some (.inr (.inr (some 3000))), some (.inr (.inr (some 0))), some (.inr (.inr (some 79))), some (.inl i)]) (st' := [.inl (i + 1), .inr (.inr (some 3000)), .inr (.inr (some 79))]) (w' := (SH, dt7)) rfl ?_
    have r67 := i32_R (xs ((i + 1).toNat))
    refine go_smpq PM267 (L' := [some (.inr (.inr (some 3000))), some (.inr (.inr (some 0))), some (.inr (.inr (some 79))), some (.inl i)]) (st' := [.inl ((xs ((i + 1).toNat)).toInt), .inr (.inr (some 79))]) (w' := (SH, dt7)) rfl rfl (s_iald (n := L) (f := fun j => (xs j).toInt) (am_scr hLL) ⟨by omega, by omega⟩) ?_
    refine go_toq PM267 (k := 4) (pc' := 243) (L' := [some (.inr (.inr (some 3000))), some (.inr (.inr (some 0))), some (.inr (.inr (some 79))), some (.inl i)]) (st' := [.inl (i + 2), .inr (.inr (some 3000)), .inl ((xs ((i + 1).toNat)).toInt), .inr (.inr (some 79))]) (w' := (SH, dt7)) rfl ?_
    have r68 := i32_R (xs ((i + 2).toNat))
    refine go_smpq PM267 (L' := [some (.inr (.inr (some 3000))), some (.inr (.inr (some 0))), some (.inr (.inr (some 79))), some (.inl i)]) (st' := [.inl ((xs ((i + 2).toNat)).toInt), .inl ((xs ((i + 1).toNat)).toInt), .inr (.inr (some 79))]) (w' := (SH, dt7)) rfl rfl (s_iald (n := L) (f := fun j => (xs j).toInt) (am_scr hLL) ⟨by omega, by omega⟩) ?_
    refine go_toq PM267 (k := 4) (pc' := 248) (L' := [some (.inr (.inr (some 3000))), some (.inr (.inr (some 0))), some (.inr (.inr (some 79))), some (.inl i)]) (st' := [.inl (i + 3), .inr (.inr (some 3000)), .inl ((xs ((i + 2).toNat)).toInt), .inl ((xs ((i + 1).toNat)).toInt), .inr (.inr (some 79))]) (w' := (SH, dt7)) rfl ?_
    have r69 := i32_R (xs ((i + 3).toNat))
    refine go_smpq PM267 (L' := [some (.inr (.inr (some 3000))), some (.inr (.inr (some 0))), some (.inr (.inr (some 79))), some (.inl i)]) (st' := [.inl ((xs ((i + 3).toNat)).toInt), .inl ((xs ((i + 2).toNat)).toInt), .inl ((xs ((i + 1).toNat)).toInt), .inr (.inr (some 79))]) (w' := (SH, dt7)) rfl rfl (s_iald (n := L) (f := fun j => (xs j).toInt) (am_scr hLL) ⟨by omega, by omega⟩) ?_
    refine go_toq PM267 (k := 4) (pc' := 253) (L' := [some (.inr (.inr (some 3000))), some (.inr (.inr (some 0))), some (.inr (.inr (some 79))), some (.inl i)]) (st' := [.inl (i + 4), .inr (.inr (some 3000)), .inl ((xs ((i + 3).toNat)).toInt), .inl ((xs ((i + 2).toNat)).toInt), .inl ((xs ((i + 1).toNat)).toInt), .inr (.inr (some 79))]) (w' := (SH, dt7)) rfl ?_
    have r70 := i32_R (xs ((i + 4).toNat))
    refine go_smpq PM267 (L' := [some (.inr (.inr (some 3000))), some (.inr (.inr (some 0))), some (.inr (.inr (some 79))), some (.inl i)]) (st' := [.inl ((xs ((i + 4).toNat)).toInt), .inl ((xs ((i + 3).toNat)).toInt), .inl ((xs ((i + 2).toNat)).toInt), .inl ((xs ((i + 1).toNat)).toInt), .inr (.inr (some 79))]) (w' := (SH, dt7)) rfl rfl (s_iald (n := L) (f := fun j => (xs j).toInt) (am_scr hLL) ⟨by omega, by omega⟩) ?_
    refine go_toq PM267 (k := 4) (pc' := 258) (L' := [some (.inr (.inr (some 3000))), some (.inr (.inr (some 0))), some (.inr (.inr (some 79))), some (.inl i)]) (st' := [.inl (i + 5), .inr (.inr (some 3000)), .inl ((xs ((i + 4).toNat)).toInt), .inl ((xs ((i + 3).toNat)).toInt), .inl ((xs ((i + 2).toNat)).toInt), .inl ((xs ((i + 1).toNat)).toInt), .inr (.inr (some 79))]) (w' := (SH, dt7)) rfl ?_
    have r71 := i32_R (xs ((i + 5).toNat))
    refine go_smpq PM267 (L' := [some (.inr (.inr (some 3000))), some (.inr (.inr (some 0))), some (.inr (.inr (some 79))), some (.inl i)]) (st' := [.inl ((xs ((i + 5).toNat)).toInt), .inl ((xs ((i + 4).toNat)).toInt), .inl ((xs ((i + 3).toNat)).toInt), .inl ((xs ((i + 2).toNat)).toInt), .inl ((xs ((i + 1).toNat)).toInt), .inr (.inr (some 79))]) (w' := (SH, dt7)) rfl rfl (s_iald (n := L) (f := fun j => (xs j).toInt) (am_scr hLL) ⟨by omega, by omega⟩) ?_
    refine go_callq PM267 PM151 (Q' := _) rfl rfl rfl rfl (sp_X6_feed_f L xs sio (d + 38) dt7 hI8  ((xs ((i + 1).toNat)).toInt) ⟨by omega, by omega⟩ ((xs ((i + 2).toNat)).toInt) ⟨by omega, by omega⟩ ((xs ((i + 3).toNat)).toInt) ⟨by omega, by omega⟩ ((xs ((i + 4).toNat)).toInt) ⟨by omega, by omega⟩ ((xs ((i + 5).toNat)).toInt) ⟨by omega, by omega⟩ ) ?_
    rintro _ _ ⟨dt73, rfl, hI74, hF75, h72⟩
    refine ⟨rfl, ?_⟩
    have hF76 : Fr [0, 1, 2, 3, 4, 5, 6, 7, 8, 9, 10, 11, 12, 13, 14, 15, 16, 17, 18, 19, 20, 21, 22, 23, 24, 25, 26, 27, 28, 29, 30, 31, 32, 33, 34, 35, 36, 37, 38, 39, 40, 41, 42, 43, 44, 45, 46, 47, 48, 49, 50, 51, 52, 53, 54, 55, 56, 57, 58, 59, 60, 61, 62, 63, 64, 65, 66, 67, 68, 69, 70, 71, 72, 73, 74, 75, 76, 77, 78, 79, 80, 81, 82, 83, 84, 85, 86, 87, 88, 89, 90, 91, 92, 93, 94, 95, 96, 97, 98, 99, 100, 101, 102, 103, 104] dt dt73 := Fr_tr hF10 hF75 (by decide)
    have hM77 : MW (dt73 80) := MW_fr hM11 hF75 (by decide)
    have w78 : dt73 1 0 = dt 1 0 := (hF75 1 (by decide) 0).trans w12
    have w79 : dt73 7 3 = dt 7 3 := (hF75 7 (by decide) 3).trans w13
    have w80 : dt73 10 3 = dt 10 3 := (hF75 10 (by decide) 3).trans w14
    have w81 : dt73 12 3 = dt 12 3 := (hF75 12 (by decide) 3).trans w15
    have w82 : dt73 14 3 = dt 14 3 := (hF75 14 (by decide) 3).trans w16
    have w83 : dt73 16 3 = dt 16 3 := (hF75 16 (by decide) 3).trans w17
    have w84 : dt73 18 0 = dt 18 0 := (hF75 18 (by decide) 0).trans w18
    have w85 : dt73 24 3 = dt 24 3 := (hF75 24 (by decide) 3).trans w19
    have w86 : dt73 27 3 = dt 27 3 := (hF75 27 (by decide) 3).trans w20
    have w87 : dt73 29 3 = dt 29 3 := (hF75 29 (by decide) 3).trans w21
    have w88 : dt73 31 3 = dt 31 3 := (hF75 31 (by decide) 3).trans w22
    have w89 : dt73 33 3 = dt 33 3 := (hF75 33 (by decide) 3).trans w23
    have w90 : dt73 0 2 = dt 0 2 := (hF75 0 (by decide) 2).trans w24
    have w91 : dt73 35 1 = dt 35 1 := (hF75 35 (by decide) 1).trans w41
    have w92 : dt73 35 2 = dt 35 2 := (hF75 35 (by decide) 2).trans w42
    have w93 : dt73 35 3 = dt 35 3 := (hF75 35 (by decide) 3).trans w43
    have w94 : dt73 80 0 = dt 80 0 := (hF75 80 (by decide) 0).trans w25
    have w95 : dt73 80 1 = dt 80 1 := (hF75 80 (by decide) 1).trans w26
    have w96 : dt73 80 2 = dt 80 2 := (hF75 80 (by decide) 2).trans w27
    have w97 : dt73 80 3 = dt 80 3 := (hF75 80 (by decide) 3).trans w28
    have w98 : dt73 80 4 = dt 80 4 := (hF75 80 (by decide) 4).trans w29
    have w99 : dt73 80 5 = dt 80 5 := (hF75 80 (by decide) 5).trans w30
    have w100 : dt73 81 0 = dt 81 0 := (hF75 81 (by decide) 0).trans w31
    have w101 : dt73 81 1 = dt 81 1 := (hF75 81 (by decide) 1).trans w32
    have w102 : dt73 81 2 = dt 81 2 := (hF75 81 (by decide) 2).trans w33
    have w103 : dt73 81 3 = dt 81 3 := (hF75 81 (by decide) 3).trans w34
    have w104 : dt73 81 4 = dt 81 4 := (hF75 81 (by decide) 4).trans w35
    have w105 : dt73 81 5 = dt 81 5 := (hF75 81 (by decide) 5).trans w36
    rcases h72 with ⟨rfl, h72⟩ | ⟨v_h72, rfl, h72r, h72⟩
    · skip
      obtain ⟨h72_0, h72_1, h72_2, h72_3, h72_4, h72_5⟩ := h72
      have w106 : dt73 79 12 = dt 79 12 := h72_1.trans w38
      have w107 : dt73 79 2 = dt 79 2 := h72_3.trans w37
      have w108 : dt73 79 19 = dt 79 19 := h72_4.trans w39
      have w109 : dt73 79 21 = dt 79 21 := h72_5.trans w40
      have M2110 : MW (dt73 81) := MW_frk M244 hF75 (by decide)
      have C111 : ∀ j : Nat, dt73 2 j = dt 2 j := fun j => (hF75 2 (by decide) j).trans (C45 j)
      have C112 : ∀ j : Nat, dt73 3 j = dt 3 j := fun j => (hF75 3 (by decide) j).trans (C46 j)
      have C113 : ∀ j : Nat, dt73 4 j = dt 4 j := fun j => (hF75 4 (by decide) j).trans (C47 j)
      have C114 : ∀ j : Nat, dt73 5 j = dt 5 j := fun j => (hF75 5 (by decide) j).trans (C48 j)
      have C115 : ∀ j : Nat, dt73 6 j = dt 6 j := fun j => (hF75 6 (by decide) j).trans (C49 j)
      have C116 : ∀ j : Nat, dt73 8 j = dt 8 j := fun j => (hF75 8 (by decide) j).trans (C50 j)
      have C117 : ∀ j : Nat, dt73 9 j = dt 9 j := fun j => (hF75 9 (by decide) j).trans (C51 j)
      have C118 : ∀ j : Nat, dt73 11 j = dt 11 j := fun j => (hF75 11 (by decide) j).trans (C52 j)
      have C119 : ∀ j : Nat, dt73 19 j = dt 19 j := fun j => (hF75 19 (by decide) j).trans (C53 j)
      have C120 : ∀ j : Nat, dt73 20 j = dt 20 j := fun j => (hF75 20 (by decide) j).trans (C54 j)
      have C121 : ∀ j : Nat, dt73 21 j = dt 21 j := fun j => (hF75 21 (by decide) j).trans (C55 j)
      have C122 : ∀ j : Nat, dt73 22 j = dt 22 j := fun j => (hF75 22 (by decide) j).trans (C56 j)
      have C123 : ∀ j : Nat, dt73 23 j = dt 23 j := fun j => (hF75 23 (by decide) j).trans (C57 j)
      have C124 : ∀ j : Nat, dt73 25 j = dt 25 j := fun j => (hF75 25 (by decide) j).trans (C58 j)
      have C125 : ∀ j : Nat, dt73 26 j = dt 26 j := fun j => (hF75 26 (by decide) j).trans (C59 j)
      have C126 : ∀ j : Nat, dt73 28 j = dt 28 j := fun j => (hF75 28 (by decide) j).trans (C60 j)
      have C127 : ∀ j : Nat, dt73 13 j = dt 13 j := fun j => (hF75 13 (by decide) j).trans (C61 j)
      have C128 : ∀ j : Nat, dt73 30 j = dt 30 j := fun j => (hF75 30 (by decide) j).trans (C62 j)
      have C129 : ∀ j : Nat, dt73 36 j = dt 36 j := fun j => (hF75 36 (by decide) j).trans (C63 j)
      have C130 : ∀ j : Nat, dt73 80 j = dt 80 j := fun j => (hF75 80 (by decide) j).trans (C64 j)
      have C131 : ∀ j : Nat, dt73 81 j = dt 81 j := fun j => (hF75 81 (by decide) j).trans (C65 j)
      have C132 : ∀ j : Nat, dt73 85 j = dt 85 j := fun j => (h72_2 j).trans (C66 j)
      refine go_toq PM267 (k := 2) (pc' := 1435) (L' := [some (.inr (.inr (some 3000))), some (.inr (.inr (some 0))), some (.inr (.inr (some 79))), some (.inl i)]) (st' := []) (w' := (SH, dt73)) rfl ?_
      exact K dt73 hI74 hM77 M2110 (w78.trans (hk0.trans w94.symm)) (w79.trans (hk1.trans w95.symm)) (w80.trans (hk2.trans w96.symm)) (w81.trans (hk3.trans w97.symm)) (w82.trans (hk4.trans w98.symm)) (w83.trans (hk5.trans w99.symm)) (w84.trans (hk6.trans w100.symm)) (w85.trans (hk7.trans w101.symm)) (w86.trans (hk8.trans w102.symm)) (w87.trans (hk9.trans w103.symm)) (w88.trans (hk10.trans w104.symm)) (w89.trans (hk11.trans w105.symm)) (w90.trans (hk12.trans w107.symm)) (w91.trans (hk13.trans w106.symm)) (w92.trans (hk14.trans w108.symm)) (w93.trans (hk15.trans w109.symm)) (by first | exact hI | exact TPL_k hd0 C129 C132 (by omega) | (exfalso; omega)) (by first | exact hI | exact SCL_k hd1 hM (fun j _ => C111 j) (fun j _ => C112 j) (fun j _ _ => C130 j) | (exfalso; omega)) (by first | exact hI | exact SCL_k hd2 hM2 (fun j _ => C119 j) (fun j _ => C120 j) (fun j _ _ => C131 j) | (exfalso; omega)) (by first | exact hI | exact QRL_k hd3 hM (fun j _ => C116 j) (C130 1) (fun j _ _ => C130 j) | (exfalso; omega)) (by first | exact hI | exact QRL_k hd4 hM2 (fun j _ => C124 j) (C131 1) (fun j _ _ => C131 j) | (exfalso; omega)) (by first | exact hI | exact SDL_k hd5 hM (fun j _ => C117 j) (C130 1) (fun j _ _ => C130 j) (fun j _ _ => C130 j) | (exfalso; omega)) (by first | exact hI | exact SDL_k hd6 hM2 (fun j _ => C125 j) (C131 1) (fun j _ _ => C131 j) (fun j _ _ => C131 j) | (exfalso; omega)) (by first | exact hI | exact LWL_k hd7 hM (fun j _ => C113 j) (fun j _ => C114 j) (fun j _ => C115 j) (fun j _ _ => C130 j) | (exfalso; omega)) (by first | exact hI | exact LWL_k hd8 hM2 (fun j _ => C121 j) (fun j _ => C122 j) (fun j _ => C123 j) (fun j _ _ => C131 j) | (exfalso; omega)) (by first | exact hI | exact CHL_k hd9 hM (fun j _ => C118 j) (by omega) (fun j _ _ => C130 j) | (exfalso; omega)) (by first | exact hI | exact CHL_k hd10 hM2 (fun j _ => C126 j) (by omega) (fun j _ _ => C131 j) | (exfalso; omega)) (by first | exact hI | exact ANL_k hd11 hM (fun j _ => C127 j) (by omega) (by omega) (by omega) (fun j _ _ => C130 j) | (exfalso; omega)) (by first | exact hI | exact ANL_k hd12 hM2 (fun j _ => C128 j) (by omega) (by omega) (by omega) (fun j _ _ => C131 j) | (exfalso; omega))
    · skip
      obtain ⟨h72_0, h72_1, h72_2, h72_3, h72_4, h72_5, h72_6⟩ := h72
      have w133 : dt73 79 2 = dt 79 2 := h72_4.trans w37
      have w134 : dt73 79 19 = dt 79 19 := h72_5.trans w39
      have w135 : dt73 79 21 = dt 79 21 := h72_6.trans w40
      have M2136 : MW (dt73 81) := MW_frk M244 hF75 (by decide)
      have C137 : ∀ j : Nat, dt73 2 j = dt 2 j := fun j => (hF75 2 (by decide) j).trans (C45 j)
      have C138 : ∀ j : Nat, dt73 3 j = dt 3 j := fun j => (hF75 3 (by decide) j).trans (C46 j)
      have C139 : ∀ j : Nat, dt73 4 j = dt 4 j := fun j => (hF75 4 (by decide) j).trans (C47 j)
      have C140 : ∀ j : Nat, dt73 5 j = dt 5 j := fun j => (hF75 5 (by decide) j).trans (C48 j)
      have C141 : ∀ j : Nat, dt73 6 j = dt 6 j := fun j => (hF75 6 (by decide) j).trans (C49 j)
      have C142 : ∀ j : Nat, dt73 8 j = dt 8 j := fun j => (hF75 8 (by decide) j).trans (C50 j)
      have C143 : ∀ j : Nat, dt73 9 j = dt 9 j := fun j => (hF75 9 (by decide) j).trans (C51 j)
      have C144 : ∀ j : Nat, dt73 11 j = dt 11 j := fun j => (hF75 11 (by decide) j).trans (C52 j)
      have C145 : ∀ j : Nat, dt73 19 j = dt 19 j := fun j => (hF75 19 (by decide) j).trans (C53 j)
      have C146 : ∀ j : Nat, dt73 20 j = dt 20 j := fun j => (hF75 20 (by decide) j).trans (C54 j)
      have C147 : ∀ j : Nat, dt73 21 j = dt 21 j := fun j => (hF75 21 (by decide) j).trans (C55 j)
      have C148 : ∀ j : Nat, dt73 22 j = dt 22 j := fun j => (hF75 22 (by decide) j).trans (C56 j)
      have C149 : ∀ j : Nat, dt73 23 j = dt 23 j := fun j => (hF75 23 (by decide) j).trans (C57 j)
      have C150 : ∀ j : Nat, dt73 25 j = dt 25 j := fun j => (hF75 25 (by decide) j).trans (C58 j)
      have C151 : ∀ j : Nat, dt73 26 j = dt 26 j := fun j => (hF75 26 (by decide) j).trans (C59 j)
      have C152 : ∀ j : Nat, dt73 28 j = dt 28 j := fun j => (hF75 28 (by decide) j).trans (C60 j)
      have C153 : ∀ j : Nat, dt73 13 j = dt 13 j := fun j => (hF75 13 (by decide) j).trans (C61 j)
      have C154 : ∀ j : Nat, dt73 30 j = dt 30 j := fun j => (hF75 30 (by decide) j).trans (C62 j)
      have C155 : ∀ j : Nat, dt73 36 j = dt 36 j := fun j => (hF75 36 (by decide) j).trans (C63 j)
      have C156 : ∀ j : Nat, dt73 80 j = dt 80 j := fun j => (hF75 80 (by decide) j).trans (C64 j)
      have C157 : ∀ j : Nat, dt73 81 j = dt 81 j := fun j => (hF75 81 (by decide) j).trans (C65 j)
      have E158 : TPL (dt7 36) (dt73 85) (dt7 35 1) := by first | exact TPL_f hd0 hI (show FDX (dt 85) (dt73 85) (dt 35 1) (dt7 35 1) _ from by have z_ := h72_3; rw [show dt7 79 12 = dt 35 1 by first | with_reducible assumption | omega, show dt73 79 12 = dt7 35 1 by first | with_reducible assumption | omega, show dt7 85 = dt 85 from funext C66] at z_; exact z_) rfl rfl | (exfalso; omega)
      have E159 : TPL (dt73 36) (dt73 85) (dt73 35 1) := by have z_ := E158; rw [show dt73 36 = dt7 36 from (funext (hF75 36 (by decide))), show dt73 35 1 = dt7 35 1 by first | with_reducible assumption | omega]; exact z_
      refine go_toq PM267 (k := 2) (pc' := 1435) (L' := [some (.inr (.inr (some 3000))), some (.inr (.inr (some 0))), some (.inr (.inr (some 79))), some (.inl i)]) (st' := []) (w' := (SH, dt73)) rfl ?_
      exact K dt73 hI74 hM77 M2136 (w78.trans (hk0.trans w94.symm)) (w79.trans (hk1.trans w95.symm)) (w80.trans (hk2.trans w96.symm)) (w81.trans (hk3.trans w97.symm)) (w82.trans (hk4.trans w98.symm)) (w83.trans (hk5.trans w99.symm)) (w84.trans (hk6.trans w100.symm)) (w85.trans (hk7.trans w101.symm)) (w86.trans (hk8.trans w102.symm)) (w87.trans (hk9.trans w103.symm)) (w88.trans (hk10.trans w104.symm)) (w89.trans (hk11.trans w105.symm)) (w90.trans (hk12.trans w133.symm)) (by omega) (w92.trans (hk14.trans w134.symm)) (w93.trans (hk15.trans w135.symm)) (by first | exact E159 | exact TPL_k hd0 C155 hI (by omega) | (exfalso; omega)) (by first | exact hI | exact SCL_k hd1 hM (fun j _ => C137 j) (fun j _ => C138 j) (fun j _ _ => C156 j) | (exfalso; omega)) (by first | exact hI | exact SCL_k hd2 hM2 (fun j _ => C145 j) (fun j _ => C146 j) (fun j _ _ => C157 j) | (exfalso; omega)) (by first | exact hI | exact QRL_k hd3 hM (fun j _ => C142 j) (C156 1) (fun j _ _ => C156 j) | (exfalso; omega)) (by first | exact hI | exact QRL_k hd4 hM2 (fun j _ => C150 j) (C157 1) (fun j _ _ => C157 j) | (exfalso; omega)) (by first | exact hI | exact SDL_k hd5 hM (fun j _ => C143 j) (C156 1) (fun j _ _ => C156 j) (fun j _ _ => C156 j) | (exfalso; omega)) (by first | exact hI | exact SDL_k hd6 hM2 (fun j _ => C151 j) (C157 1) (fun j _ _ => C157 j) (fun j _ _ => C157 j) | (exfalso; omega)) (by first | exact hI | exact LWL_k hd7 hM (fun j _ => C139 j) (fun j _ => C140 j) (fun j _ => C141 j) (fun j _ _ => C156 j) | (exfalso; omega)) (by first | exact hI | exact LWL_k hd8 hM2 (fun j _ => C147 j) (fun j _ => C148 j) (fun j _ => C149 j) (fun j _ _ => C157 j) | (exfalso; omega)) (by first | exact hI | exact CHL_k hd9 hM (fun j _ => C144 j) (by omega) (fun j _ _ => C156 j) | (exfalso; omega)) (by first | exact hI | exact CHL_k hd10 hM2 (fun j _ => C152 j) (by omega) (fun j _ _ => C157 j) | (exfalso; omega)) (by first | exact hI | exact ANL_k hd11 hM (fun j _ => C153 j) (by omega) (by omega) (by omega) (fun j _ _ => C156 j) | (exfalso; omega)) (by first | exact hI | exact ANL_k hd12 hM2 (fun j _ => C154 j) (by omega) (by omega) (by omega) (fun j _ _ => C157 j) | (exfalso; omega))
  · skip
    obtain ⟨h6_0, h6_1, h6_2, h6_3, h6_4, h6_5⟩ := h6
    have w160 : dt7 35 2 = dt 35 2 := h6_4
    have w161 : dt7 35 3 = dt 35 3 := h6_5
    have M2162 : MW (dt7 81) := MW_frk hM2 hF9 (by decide)
    have C163 : ∀ j : Nat, dt7 2 j = dt 2 j := fun j => (hF9 2 (by decide) j).trans ((fun _ => rfl) j)
    have C164 : ∀ j : Nat, dt7 3 j = dt 3 j := fun j => (hF9 3 (by decide) j).trans ((fun _ => rfl) j)
    have C165 : ∀ j : Nat, dt7 4 j = dt 4 j := fun j => (hF9 4 (by decide) j).trans ((fun _ => rfl) j)
    have C166 : ∀ j : Nat, dt7 5 j = dt 5 j := fun j => (hF9 5 (by decide) j).trans ((fun _ => rfl) j)
    have C167 : ∀ j : Nat, dt7 6 j = dt 6 j := fun j => (hF9 6 (by decide) j).trans ((fun _ => rfl) j)
    have C168 : ∀ j : Nat, dt7 8 j = dt 8 j := fun j => (hF9 8 (by decide) j).trans ((fun _ => rfl) j)
    have C169 : ∀ j : Nat, dt7 9 j = dt 9 j := fun j => (hF9 9 (by decide) j).trans ((fun _ => rfl) j)
    have C170 : ∀ j : Nat, dt7 11 j = dt 11 j := fun j => (hF9 11 (by decide) j).trans ((fun _ => rfl) j)
    have C171 : ∀ j : Nat, dt7 19 j = dt 19 j := fun j => (hF9 19 (by decide) j).trans ((fun _ => rfl) j)
    have C172 : ∀ j : Nat, dt7 20 j = dt 20 j := fun j => (hF9 20 (by decide) j).trans ((fun _ => rfl) j)
    have C173 : ∀ j : Nat, dt7 21 j = dt 21 j := fun j => (hF9 21 (by decide) j).trans ((fun _ => rfl) j)
    have C174 : ∀ j : Nat, dt7 22 j = dt 22 j := fun j => (hF9 22 (by decide) j).trans ((fun _ => rfl) j)
    have C175 : ∀ j : Nat, dt7 23 j = dt 23 j := fun j => (hF9 23 (by decide) j).trans ((fun _ => rfl) j)
    have C176 : ∀ j : Nat, dt7 25 j = dt 25 j := fun j => (hF9 25 (by decide) j).trans ((fun _ => rfl) j)
    have C177 : ∀ j : Nat, dt7 26 j = dt 26 j := fun j => (hF9 26 (by decide) j).trans ((fun _ => rfl) j)
    have C178 : ∀ j : Nat, dt7 28 j = dt 28 j := fun j => (hF9 28 (by decide) j).trans ((fun _ => rfl) j)
    have C179 : ∀ j : Nat, dt7 13 j = dt 13 j := fun j => (hF9 13 (by decide) j).trans ((fun _ => rfl) j)
    have C180 : ∀ j : Nat, dt7 30 j = dt 30 j := fun j => (hF9 30 (by decide) j).trans ((fun _ => rfl) j)
    have C181 : ∀ j : Nat, dt7 80 j = dt 80 j := fun j => (hF9 80 (by decide) j).trans ((fun _ => rfl) j)
    have C182 : ∀ j : Nat, dt7 81 j = dt 81 j := fun j => (hF9 81 (by decide) j).trans ((fun _ => rfl) j)
    have C183 : ∀ j : Nat, dt7 85 j = dt 85 j := fun j => (hF9 85 (by decide) j).trans ((fun _ => rfl) j)
    refine go_toq PM267 (k := 6) (pc' := 238) (L' := [some (.inr (.inr (some 3000))), some (.inr (.inr (some 0))), some (.inr (.inr (some 79))), some (.inl i)]) (st' := [.inl (i + 1), .inr (.inr (some 3000)), .inr (.inr (some 79))]) (w' := (SH, dt7)) rfl ?_
    have r184 := i32_R (xs ((i + 1).toNat))
    refine go_smpq PM267 (L' := [some (.inr (.inr (some 3000))), some (.inr (.inr (some 0))), some (.inr (.inr (some 79))), some (.inl i)]) (st' := [.inl ((xs ((i + 1).toNat)).toInt), .inr (.inr (some 79))]) (w' := (SH, dt7)) rfl rfl (s_iald (n := L) (f := fun j => (xs j).toInt) (am_scr hLL) ⟨by omega, by omega⟩) ?_
    refine go_toq PM267 (k := 4) (pc' := 243) (L' := [some (.inr (.inr (some 3000))), some (.inr (.inr (some 0))), some (.inr (.inr (some 79))), some (.inl i)]) (st' := [.inl (i + 2), .inr (.inr (some 3000)), .inl ((xs ((i + 1).toNat)).toInt), .inr (.inr (some 79))]) (w' := (SH, dt7)) rfl ?_
    have r185 := i32_R (xs ((i + 2).toNat))
    refine go_smpq PM267 (L' := [some (.inr (.inr (some 3000))), some (.inr (.inr (some 0))), some (.inr (.inr (some 79))), some (.inl i)]) (st' := [.inl ((xs ((i + 2).toNat)).toInt), .inl ((xs ((i + 1).toNat)).toInt), .inr (.inr (some 79))]) (w' := (SH, dt7)) rfl rfl (s_iald (n := L) (f := fun j => (xs j).toInt) (am_scr hLL) ⟨by omega, by omega⟩) ?_
    refine go_toq PM267 (k := 4) (pc' := 248) (L' := [some (.inr (.inr (some 3000))), some (.inr (.inr (some 0))), some (.inr (.inr (some 79))), some (.inl i)]) (st' := [.inl (i + 3), .inr (.inr (some 3000)), .inl ((xs ((i + 2).toNat)).toInt), .inl ((xs ((i + 1).toNat)).toInt), .inr (.inr (some 79))]) (w' := (SH, dt7)) rfl ?_
    have r186 := i32_R (xs ((i + 3).toNat))
    refine go_smpq PM267 (L' := [some (.inr (.inr (some 3000))), some (.inr (.inr (some 0))), some (.inr (.inr (some 79))), some (.inl i)]) (st' := [.inl ((xs ((i + 3).toNat)).toInt), .inl ((xs ((i + 2).toNat)).toInt), .inl ((xs ((i + 1).toNat)).toInt), .inr (.inr (some 79))]) (w' := (SH, dt7)) rfl rfl (s_iald (n := L) (f := fun j => (xs j).toInt) (am_scr hLL) ⟨by omega, by omega⟩) ?_
    refine go_toq PM267 (k := 4) (pc' := 253) (L' := [some (.inr (.inr (some 3000))), some (.inr (.inr (some 0))), some (.inr (.inr (some 79))), some (.inl i)]) (st' := [.inl (i + 4), .inr (.inr (some 3000)), .inl ((xs ((i + 3).toNat)).toInt), .inl ((xs ((i + 2).toNat)).toInt), .inl ((xs ((i + 1).toNat)).toInt), .inr (.inr (some 79))]) (w' := (SH, dt7)) rfl ?_
    have r187 := i32_R (xs ((i + 4).toNat))
    refine go_smpq PM267 (L' := [some (.inr (.inr (some 3000))), some (.inr (.inr (some 0))), some (.inr (.inr (some 79))), some (.inl i)]) (st' := [.inl ((xs ((i + 4).toNat)).toInt), .inl ((xs ((i + 3).toNat)).toInt), .inl ((xs ((i + 2).toNat)).toInt), .inl ((xs ((i + 1).toNat)).toInt), .inr (.inr (some 79))]) (w' := (SH, dt7)) rfl rfl (s_iald (n := L) (f := fun j => (xs j).toInt) (am_scr hLL) ⟨by omega, by omega⟩) ?_
    refine go_toq PM267 (k := 4) (pc' := 258) (L' := [some (.inr (.inr (some 3000))), some (.inr (.inr (some 0))), some (.inr (.inr (some 79))), some (.inl i)]) (st' := [.inl (i + 5), .inr (.inr (some 3000)), .inl ((xs ((i + 4).toNat)).toInt), .inl ((xs ((i + 3).toNat)).toInt), .inl ((xs ((i + 2).toNat)).toInt), .inl ((xs ((i + 1).toNat)).toInt), .inr (.inr (some 79))]) (w' := (SH, dt7)) rfl ?_
    have r188 := i32_R (xs ((i + 5).toNat))
    refine go_smpq PM267 (L' := [some (.inr (.inr (some 3000))), some (.inr (.inr (some 0))), some (.inr (.inr (some 79))), some (.inl i)]) (st' := [.inl ((xs ((i + 5).toNat)).toInt), .inl ((xs ((i + 4).toNat)).toInt), .inl ((xs ((i + 3).toNat)).toInt), .inl ((xs ((i + 2).toNat)).toInt), .inl ((xs ((i + 1).toNat)).toInt), .inr (.inr (some 79))]) (w' := (SH, dt7)) rfl rfl (s_iald (n := L) (f := fun j => (xs j).toInt) (am_scr hLL) ⟨by omega, by omega⟩) ?_
    refine go_callq PM267 PM151 (Q' := _) rfl rfl rfl rfl (sp_X6_feed_f L xs sio (d + 38) dt7 hI8  ((xs ((i + 1).toNat)).toInt) ⟨by omega, by omega⟩ ((xs ((i + 2).toNat)).toInt) ⟨by omega, by omega⟩ ((xs ((i + 3).toNat)).toInt) ⟨by omega, by omega⟩ ((xs ((i + 4).toNat)).toInt) ⟨by omega, by omega⟩ ((xs ((i + 5).toNat)).toInt) ⟨by omega, by omega⟩ ) ?_
    rintro _ _ ⟨dt190, rfl, hI191, hF192, h189⟩
    refine ⟨rfl, ?_⟩
    have hF193 : Fr [0, 1, 2, 3, 4, 5, 6, 7, 8, 9, 10, 11, 12, 13, 14, 15, 16, 17, 18, 19, 20, 21, 22, 23, 24, 25, 26, 27, 28, 29, 30, 31, 32, 33, 34, 35, 36, 37, 38, 39, 40, 41, 42, 43, 44, 45, 46, 47, 48, 49, 50, 51, 52, 53, 54, 55, 56, 57, 58, 59, 60, 61, 62, 63, 64, 65, 66, 67, 68, 69, 70, 71, 72, 73, 74, 75, 76, 77, 78, 79, 80, 81, 82, 83, 84, 85, 86, 87, 88, 89, 90, 91, 92, 93, 94, 95, 96, 97, 98, 99, 100, 101, 102, 103, 104] dt dt190 := Fr_tr hF10 hF192 (by decide)
    have hM194 : MW (dt190 80) := MW_fr hM11 hF192 (by decide)
    have w195 : dt190 1 0 = dt 1 0 := (hF192 1 (by decide) 0).trans w12
    have w196 : dt190 7 3 = dt 7 3 := (hF192 7 (by decide) 3).trans w13
    have w197 : dt190 10 3 = dt 10 3 := (hF192 10 (by decide) 3).trans w14
    have w198 : dt190 12 3 = dt 12 3 := (hF192 12 (by decide) 3).trans w15
    have w199 : dt190 14 3 = dt 14 3 := (hF192 14 (by decide) 3).trans w16
    have w200 : dt190 16 3 = dt 16 3 := (hF192 16 (by decide) 3).trans w17
    have w201 : dt190 18 0 = dt 18 0 := (hF192 18 (by decide) 0).trans w18
    have w202 : dt190 24 3 = dt 24 3 := (hF192 24 (by decide) 3).trans w19
    have w203 : dt190 27 3 = dt 27 3 := (hF192 27 (by decide) 3).trans w20
    have w204 : dt190 29 3 = dt 29 3 := (hF192 29 (by decide) 3).trans w21
    have w205 : dt190 31 3 = dt 31 3 := (hF192 31 (by decide) 3).trans w22
    have w206 : dt190 33 3 = dt 33 3 := (hF192 33 (by decide) 3).trans w23
    have w207 : dt190 0 2 = dt 0 2 := (hF192 0 (by decide) 2).trans w24
    have w208 : dt190 35 1 = dt7 35 1 := hF192 35 (by decide) 1
    have w209 : dt190 35 2 = dt 35 2 := (hF192 35 (by decide) 2).trans w160
    have w210 : dt190 35 3 = dt 35 3 := (hF192 35 (by decide) 3).trans w161
    have w211 : dt190 80 0 = dt 80 0 := (hF192 80 (by decide) 0).trans w25
    have w212 : dt190 80 1 = dt 80 1 := (hF192 80 (by decide) 1).trans w26
    have w213 : dt190 80 2 = dt 80 2 := (hF192 80 (by decide) 2).trans w27
    have w214 : dt190 80 3 = dt 80 3 := (hF192 80 (by decide) 3).trans w28
    have w215 : dt190 80 4 = dt 80 4 := (hF192 80 (by decide) 4).trans w29
    have w216 : dt190 80 5 = dt 80 5 := (hF192 80 (by decide) 5).trans w30
    have w217 : dt190 81 0 = dt 81 0 := (hF192 81 (by decide) 0).trans w31
    have w218 : dt190 81 1 = dt 81 1 := (hF192 81 (by decide) 1).trans w32
    have w219 : dt190 81 2 = dt 81 2 := (hF192 81 (by decide) 2).trans w33
    have w220 : dt190 81 3 = dt 81 3 := (hF192 81 (by decide) 3).trans w34
    have w221 : dt190 81 4 = dt 81 4 := (hF192 81 (by decide) 4).trans w35
    have w222 : dt190 81 5 = dt 81 5 := (hF192 81 (by decide) 5).trans w36
    rcases h189 with ⟨rfl, h189⟩ | ⟨v_h189, rfl, h189r, h189⟩
    · skip
      obtain ⟨h189_0, h189_1, h189_2, h189_3, h189_4, h189_5⟩ := h189
      have w223 : dt190 79 12 = dt 79 12 := h189_1.trans w38
      have w224 : dt190 79 2 = dt 79 2 := h189_3.trans w37
      have w225 : dt190 79 19 = dt 79 19 := h189_4.trans w39
      have w226 : dt190 79 21 = dt 79 21 := h189_5.trans w40
      have M2227 : MW (dt190 81) := MW_frk M2162 hF192 (by decide)
      have C228 : ∀ j : Nat, dt190 2 j = dt 2 j := fun j => (hF192 2 (by decide) j).trans (C163 j)
      have C229 : ∀ j : Nat, dt190 3 j = dt 3 j := fun j => (hF192 3 (by decide) j).trans (C164 j)
      have C230 : ∀ j : Nat, dt190 4 j = dt 4 j := fun j => (hF192 4 (by decide) j).trans (C165 j)
      have C231 : ∀ j : Nat, dt190 5 j = dt 5 j := fun j => (hF192 5 (by decide) j).trans (C166 j)
      have C232 : ∀ j : Nat, dt190 6 j = dt 6 j := fun j => (hF192 6 (by decide) j).trans (C167 j)
      have C233 : ∀ j : Nat, dt190 8 j = dt 8 j := fun j => (hF192 8 (by decide) j).trans (C168 j)
      have C234 : ∀ j : Nat, dt190 9 j = dt 9 j := fun j => (hF192 9 (by decide) j).trans (C169 j)
      have C235 : ∀ j : Nat, dt190 11 j = dt 11 j := fun j => (hF192 11 (by decide) j).trans (C170 j)
      have C236 : ∀ j : Nat, dt190 19 j = dt 19 j := fun j => (hF192 19 (by decide) j).trans (C171 j)
      have C237 : ∀ j : Nat, dt190 20 j = dt 20 j := fun j => (hF192 20 (by decide) j).trans (C172 j)
      have C238 : ∀ j : Nat, dt190 21 j = dt 21 j := fun j => (hF192 21 (by decide) j).trans (C173 j)
      have C239 : ∀ j : Nat, dt190 22 j = dt 22 j := fun j => (hF192 22 (by decide) j).trans (C174 j)
      have C240 : ∀ j : Nat, dt190 23 j = dt 23 j := fun j => (hF192 23 (by decide) j).trans (C175 j)
      have C241 : ∀ j : Nat, dt190 25 j = dt 25 j := fun j => (hF192 25 (by decide) j).trans (C176 j)
      have C242 : ∀ j : Nat, dt190 26 j = dt 26 j := fun j => (hF192 26 (by decide) j).trans (C177 j)
      have C243 : ∀ j : Nat, dt190 28 j = dt 28 j := fun j => (hF192 28 (by decide) j).trans (C178 j)
      have C244 : ∀ j : Nat, dt190 13 j = dt 13 j := fun j => (hF192 13 (by decide) j).trans (C179 j)
      have C245 : ∀ j : Nat, dt190 30 j = dt 30 j := fun j => (hF192 30 (by decide) j).trans (C180 j)
      have C246 : ∀ j : Nat, dt190 80 j = dt 80 j := fun j => (hF192 80 (by decide) j).trans (C181 j)
      have C247 : ∀ j : Nat, dt190 81 j = dt 81 j := fun j => (hF192 81 (by decide) j).trans (C182 j)
      have C248 : ∀ j : Nat, dt190 85 j = dt 85 j := fun j => (h189_2 j).trans (C183 j)
      refine go_toq PM267 (k := 2) (pc' := 1435) (L' := [some (.inr (.inr (some 3000))), some (.inr (.inr (some 0))), some (.inr (.inr (some 79))), some (.inl i)]) (st' := []) (w' := (SH, dt190)) rfl ?_
      exact K dt190 hI191 hM194 M2227 (w195.trans (hk0.trans w211.symm)) (w196.trans (hk1.trans w212.symm)) (w197.trans (hk2.trans w213.symm)) (w198.trans (hk3.trans w214.symm)) (w199.trans (hk4.trans w215.symm)) (w200.trans (hk5.trans w216.symm)) (w201.trans (hk6.trans w217.symm)) (w202.trans (hk7.trans w218.symm)) (w203.trans (hk8.trans w219.symm)) (w204.trans (hk9.trans w220.symm)) (w205.trans (hk10.trans w221.symm)) (w206.trans (hk11.trans w222.symm)) (w207.trans (hk12.trans w224.symm)) (by omega) (w209.trans (hk14.trans w225.symm)) (w210.trans (hk15.trans w226.symm)) (by first | exact hI | exact TPL_k hd0 hI C248 (by omega) | (exfalso; omega)) (by first | exact hI | exact SCL_k hd1 hM (fun j _ => C228 j) (fun j _ => C229 j) (fun j _ _ => C246 j) | (exfalso; omega)) (by first | exact hI | exact SCL_k hd2 hM2 (fun j _ => C236 j) (fun j _ => C237 j) (fun j _ _ => C247 j) | (exfalso; omega)) (by first | exact hI | exact QRL_k hd3 hM (fun j _ => C233 j) (C246 1) (fun j _ _ => C246 j) | (exfalso; omega)) (by first | exact hI | exact QRL_k hd4 hM2 (fun j _ => C241 j) (C247 1) (fun j _ _ => C247 j) | (exfalso; omega)) (by first | exact hI | exact SDL_k hd5 hM (fun j _ => C234 j) (C246 1) (fun j _ _ => C246 j) (fun j _ _ => C246 j) | (exfalso; omega)) (by first | exact hI | exact SDL_k hd6 hM2 (fun j _ => C242 j) (C247 1) (fun j _ _ => C247 j) (fun j _ _ => C247 j) | (exfalso; omega)) (by first | exact hI | exact LWL_k hd7 hM (fun j _ => C230 j) (fun j _ => C231 j) (fun j _ => C232 j) (fun j _ _ => C246 j) | (exfalso; omega)) (by first | exact hI | exact LWL_k hd8 hM2 (fun j _ => C238 j) (fun j _ => C239 j) (fun j _ => C240 j) (fun j _ _ => C247 j) | (exfalso; omega)) (by first | exact hI | exact CHL_k hd9 hM (fun j _ => C235 j) (by omega) (fun j _ _ => C246 j) | (exfalso; omega)) (by first | exact hI | exact CHL_k hd10 hM2 (fun j _ => C243 j) (by omega) (fun j _ _ => C247 j) | (exfalso; omega)) (by first | exact hI | exact ANL_k hd11 hM (fun j _ => C244 j) (by omega) (by omega) (by omega) (fun j _ _ => C246 j) | (exfalso; omega)) (by first | exact hI | exact ANL_k hd12 hM2 (fun j _ => C245 j) (by omega) (by omega) (by omega) (fun j _ _ => C247 j) | (exfalso; omega))
    · skip
      obtain ⟨h189_0, h189_1, h189_2, h189_3, h189_4, h189_5, h189_6⟩ := h189
      have w249 : dt190 79 2 = dt 79 2 := h189_4.trans w37
      have w250 : dt190 79 19 = dt 79 19 := h189_5.trans w39
      have w251 : dt190 79 21 = dt 79 21 := h189_6.trans w40
      have M2252 : MW (dt190 81) := MW_frk M2162 hF192 (by decide)
      have C253 : ∀ j : Nat, dt190 2 j = dt 2 j := fun j => (hF192 2 (by decide) j).trans (C163 j)
      have C254 : ∀ j : Nat, dt190 3 j = dt 3 j := fun j => (hF192 3 (by decide) j).trans (C164 j)
      have C255 : ∀ j : Nat, dt190 4 j = dt 4 j := fun j => (hF192 4 (by decide) j).trans (C165 j)
      have C256 : ∀ j : Nat, dt190 5 j = dt 5 j := fun j => (hF192 5 (by decide) j).trans (C166 j)
      have C257 : ∀ j : Nat, dt190 6 j = dt 6 j := fun j => (hF192 6 (by decide) j).trans (C167 j)
      have C258 : ∀ j : Nat, dt190 8 j = dt 8 j := fun j => (hF192 8 (by decide) j).trans (C168 j)
      have C259 : ∀ j : Nat, dt190 9 j = dt 9 j := fun j => (hF192 9 (by decide) j).trans (C169 j)
      have C260 : ∀ j : Nat, dt190 11 j = dt 11 j := fun j => (hF192 11 (by decide) j).trans (C170 j)
      have C261 : ∀ j : Nat, dt190 19 j = dt 19 j := fun j => (hF192 19 (by decide) j).trans (C171 j)
      have C262 : ∀ j : Nat, dt190 20 j = dt 20 j := fun j => (hF192 20 (by decide) j).trans (C172 j)
      have C263 : ∀ j : Nat, dt190 21 j = dt 21 j := fun j => (hF192 21 (by decide) j).trans (C173 j)
      have C264 : ∀ j : Nat, dt190 22 j = dt 22 j := fun j => (hF192 22 (by decide) j).trans (C174 j)
      have C265 : ∀ j : Nat, dt190 23 j = dt 23 j := fun j => (hF192 23 (by decide) j).trans (C175 j)
      have C266 : ∀ j : Nat, dt190 25 j = dt 25 j := fun j => (hF192 25 (by decide) j).trans (C176 j)
      have C267 : ∀ j : Nat, dt190 26 j = dt 26 j := fun j => (hF192 26 (by decide) j).trans (C177 j)
      have C268 : ∀ j : Nat, dt190 28 j = dt 28 j := fun j => (hF192 28 (by decide) j).trans (C178 j)
      have C269 : ∀ j : Nat, dt190 13 j = dt 13 j := fun j => (hF192 13 (by decide) j).trans (C179 j)
      have C270 : ∀ j : Nat, dt190 30 j = dt 30 j := fun j => (hF192 30 (by decide) j).trans (C180 j)
      have C271 : ∀ j : Nat, dt190 80 j = dt 80 j := fun j => (hF192 80 (by decide) j).trans (C181 j)
      have C272 : ∀ j : Nat, dt190 81 j = dt 81 j := fun j => (hF192 81 (by decide) j).trans (C182 j)
      have E273 : TPL (dt7 36) (dt190 85) (dt7 35 1) := by first | exact TPL_f hd0 h6_3 (show FDX (dt 85) (dt190 85) (dt 35 1) (dt7 35 1) _ from by have z_ := h189_3; rw [show dt7 79 12 = dt 35 1 by first | with_reducible assumption | omega, show dt190 79 12 = dt7 35 1 by first | with_reducible assumption | omega, show dt7 85 = dt 85 from funext C183] at z_; exact z_) rfl rfl | (exfalso; omega)
      have E274 : TPL (dt190 36) (dt190 85) (dt190 35 1) := by have z_ := E273; rw [show dt190 36 = dt7 36 from (funext (hF192 36 (by decide))), show dt190 35 1 = dt7 35 1 by first | with_reducible assumption | omega]; exact z_
      refine go_toq PM267 (k := 2) (pc' := 1435) (L' := [some (.inr (.inr (some 3000))), some (.inr (.inr (some 0))), some (.inr (.inr (some 79))), some (.inl i)]) (st' := []) (w' := (SH, dt190)) rfl ?_
      exact K dt190 hI191 hM194 M2252 (w195.trans (hk0.trans w211.symm)) (w196.trans (hk1.trans w212.symm)) (w197.trans (hk2.trans w213.symm)) (w198.trans (hk3.trans w214.symm)) (w199.trans (hk4.trans w215.symm)) (w200.trans (hk5.trans w216.symm)) (w201.trans (hk6.trans w217.symm)) (w202.trans (hk7.trans w218.symm)) (w203.trans (hk8.trans w219.symm)) (w204.trans (hk9.trans w220.symm)) (w205.trans (hk10.trans w221.symm)) (w206.trans (hk11.trans w222.symm)) (w207.trans (hk12.trans w249.symm)) (by omega) (w209.trans (hk14.trans w250.symm)) (w210.trans (hk15.trans w251.symm)) (by first | exact E274 | exact TPL_k hd0 hI hI (by omega) | (exfalso; omega)) (by first | exact hI | exact SCL_k hd1 hM (fun j _ => C253 j) (fun j _ => C254 j) (fun j _ _ => C271 j) | (exfalso; omega)) (by first | exact hI | exact SCL_k hd2 hM2 (fun j _ => C261 j) (fun j _ => C262 j) (fun j _ _ => C272 j) | (exfalso; omega)) (by first | exact hI | exact QRL_k hd3 hM (fun j _ => C258 j) (C271 1) (fun j _ _ => C271 j) | (exfalso; omega)) (by first | exact hI | exact QRL_k hd4 hM2 (fun j _ => C266 j) (C272 1) (fun j _ _ => C272 j) | (exfalso; omega)) (by first | exact hI | exact SDL_k hd5 hM (fun j _ => C259 j) (C271 1) (fun j _ _ => C271 j) (fun j _ _ => C271 j) | (exfalso; omega)) (by first | exact hI | exact SDL_k hd6 hM2 (fun j _ => C267 j) (C272 1) (fun j _ _ => C272 j) (fun j _ _ => C272 j) | (exfalso; omega)) (by first | exact hI | exact LWL_k hd7 hM (fun j _ => C255 j) (fun j _ => C256 j) (fun j _ => C257 j) (fun j _ _ => C271 j) | (exfalso; omega)) (by first | exact hI | exact LWL_k hd8 hM2 (fun j _ => C263 j) (fun j _ => C264 j) (fun j _ => C265 j) (fun j _ _ => C272 j) | (exfalso; omega)) (by first | exact hI | exact CHL_k hd9 hM (fun j _ => C260 j) (by omega) (fun j _ _ => C271 j) | (exfalso; omega)) (by first | exact hI | exact CHL_k hd10 hM2 (fun j _ => C268 j) (by omega) (fun j _ _ => C272 j) | (exfalso; omega)) (by first | exact hI | exact ANL_k hd11 hM (fun j _ => C269 j) (by omega) (by omega) (by omega) (fun j _ _ => C271 j) | (exfalso; omega)) (by first | exact hI | exact ANL_k hd12 hM2 (fun j _ => C270 j) (by omega) (by omega) (by omega) (fun j _ _ => C272 j) | (exfalso; omega))
set_option maxRecDepth 20000 in
set_option maxHeartbeats 8000000 in
theorem sp_case2 (L : Nat) (xs : Nat → Int32) (sio : Option Nat) (d : Nat) (Q : Option AV → am_W → Prop) (hLL : L ≤ 3072) (i : Int) (hi : 0 ≤ i ∧ i ≤ 3066) (hil : i ≤ (L : Int) - 6) (dt : Nat → Nat → Int) (hI : InvC dt) (hM : MW (dt 80)) (hM2 : MW (dt 81)) (hk0 : dt 1 0 = dt 80 0) (hk1 : dt 7 3 = dt 80 1) (hk2 : dt 10 3 = dt 80 2) (hk3 : dt 12 3 = dt 80 3) (hk4 : dt 14 3 = dt 80 4) (hk5 : dt 16 3 = dt 80 5) (hk6 : dt 18 0 = dt 81 0) (hk7 : dt 24 3 = dt 81 1) (hk8 : dt 27 3 = dt 81 2) (hk9 : dt 29 3 = dt 81 3) (hk10 : dt 31 3 = dt 81 4) (hk11 : dt 33 3 = dt 81 5) (hk12 : dt 0 2 = dt 79 2) (hk13 : dt 35 1 = dt 79 12) (hk14 : dt 35 2 = dt 79 19) (hk15 : dt 35 3 = dt 79 21) (hd0 : TPL (dt 36) (dt 85) (dt 35 1)) (hd1 : SCL (dt 2) (dt 3) (dt 80)) (hd2 : SCL (dt 19) (dt 20) (dt 81)) (hd3 : QRL (dt 8) (dt 80)) (hd4 : QRL (dt 25) (dt 81)) (hd5 : SDL (dt 9) (dt 80)) (hd6 : SDL (dt 26) (dt 81)) (hd7 : LWL (dt 4) (dt 5) (dt 6) (dt 80)) (hd8 : LWL (dt 21) (dt 22) (dt 23) (dt 81)) (hd9 : CHL (dt 11) (dt 80)) (hd10 : CHL (dt 28) (dt 81)) (hd11 : ANL (dt 13) (dt 80)) (hd12 : ANL (dt 30) (dt 81)) (K : ∀ (dt : Nat → Nat → Int) (hI : InvC dt) (hM : MW (dt 80)) (hM2 : MW (dt 81)) (hk0 : dt 1 0 = dt 80 0) (hk1 : dt 7 3 = dt 80 1) (hk2 : dt 10 3 = dt 80 2) (hk3 : dt 12 3 = dt 80 3) (hk4 : dt 14 3 = dt 80 4) (hk5 : dt 16 3 = dt 80 5) (hk6 : dt 18 0 = dt 81 0) (hk7 : dt 24 3 = dt 81 1) (hk8 : dt 27 3 = dt 81 2) (hk9 : dt 29 3 = dt 81 3) (hk10 : dt 31 3 = dt 81 4) (hk11 : dt 33 3 = dt 81 5) (hk12 : dt 0 2 = dt 79 2) (hk13 : dt 35 1 = dt 79 12) (hk14 : dt 35 2 = dt 79 19) (hk15 : dt 35 3 = dt 79 21) (hd0 : TPL (dt 36) (dt 85) (dt 35 1)) (hd1 : SCL (dt 2) (dt 3) (dt 80)) (hd2 : SCL (dt 19) (dt 20) (dt 81)) (hd3 : QRL (dt 8) (dt 80)) (hd4 : QRL (dt 25) (dt 81)) (hd5 : SDL (dt 9) (dt 80)) (hd6 : SDL (dt 26) (dt 81)) (hd7 : LWL (dt 4) (dt 5) (dt 6) (dt 80)) (hd8 : LWL (dt 21) (dt 22) (dt 23) (dt 81)) (hd9 : CHL (dt 11) (dt 80)) (hd10 : CHL (dt 28) (dt 81)) (hd11 : ANL (dt 13) (dt 80)) (hd12 : ANL (dt 30) (dt 81)), GO (am_XX L xs sio) (d + 39) 267 1435 [some (.inr (.inr (some 3000))), some (.inr (.inr (some 0))), some (.inr (.inr (some 79))), some (.inl i)] [] (SH, dt) Q) : GO (am_XX L xs sio) (d + 39) 267 266 [some (.inr (.inr (some 3000))), some (.inr (.inr (some 0))), some (.inr (.inr (some 79))), some (.inl i)] [] (SH, dt) Q := by
  have hF : Fr [0, 1, 2, 3, 4, 5, 6, 7, 8, 9, 10, 11, 12, 13, 14, 15, 16, 17, 18, 19, 20, 21, 22, 23, 24, 25, 26, 27, 28, 29, 30, 31, 32, 33, 34, 35, 36, 37, 38, 39, 40, 41, 42, 43, 44, 45, 46, 47, 48, 49, 50, 51, 52, 53, 54, 55, 56, 57, 58, 59, 60, 61, 62, 63, 64, 65, 66, 67, 68, 69, 70, 71, 72, 73, 74, 75, 76, 77, 78, 79, 80, 81, 82, 83, 84, 85, 86, 87, 88, 89, 90, 91, 92, 93, 94, 95, 96, 97, 98, 99, 100, 101, 102, 103, 104] dt dt := Fr_refl
  have hqo := QOC_R hd3 hM hk1
  have hb1_ := hM.1.1
  have hb2_ := hM.1.2.1
  have hb3_ := hM.1.2.2.1
  have halk : ALK dt (dt 80) := ⟨hd7, hd3, hd5, hd9, hk1, hk2⟩
  have hav_ : ∀ i : Nat, (i : Int) < dt 12 3 → 0 ≤ dt 13 (6 * i + 1) ∧ dt 13 (6 * i + 1) < dt 7 3 := fun i hi => by have z := hd11 i (by omega); have y := z.2.2 1 (by decide); have w := z.2.1; omega
  refine go_toq PM267 (k := 5) (pc' := 271) (L' := [some (.inr (.inr (some 3000))), some (.inr (.inr (some 0))), some (.inr (.inr (some 79))), some (.inl i)]) (st' := [.inl (i + 1), .inr (.inr (some 3000)), .inr (.inr (some 0))]) (w' := (SH, dt)) rfl ?_
  have r1 := i32_R (xs ((i + 1).toNat))
  refine go_smpq PM267 (L' := [some (.inr (.inr (some 3000))), some (.inr (.inr (some 0))), some (.inr (.inr (some 79))), some (.inl i)]) (st' := [.inl ((xs ((i + 1).toNat)).toInt), .inr (.inr (some 0))]) (w' := (SH, dt)) rfl rfl (s_iald (n := L) (f := fun j => (xs j).toInt) (am_scr hLL) ⟨by omega, by omega⟩) ?_
  refine go_callq PM267 PM69 (Q' := _) rfl rfl rfl rfl (sp_X5_end_f L xs sio (d + 37) dt hI  ((xs ((i + 1).toNat)).toInt) ⟨by omega, by omega⟩ ) ?_
  rintro _ _ ⟨dt3, rfl, hI4, hF5, h2⟩
  refine ⟨rfl, ?_⟩
  have hF6 : Fr [0, 1, 2, 3, 4, 5, 6, 7, 8, 9, 10, 11, 12, 13, 14, 15, 16, 17, 18, 19, 20, 21, 22, 23, 24, 25, 26, 27, 28, 29, 30, 31, 32, 33, 34, 35, 36, 37, 38, 39, 40, 41, 42, 43, 44, 45, 46, 47, 48, 49, 50, 51, 52, 53, 54, 55, 56, 57, 58, 59, 60, 61, 62, 63, 64, 65, 66, 67, 68, 69, 70, 71, 72, 73, 74, 75, 76, 77, 78, 79, 80, 81, 82, 83, 84, 85, 86, 87, 88, 89, 90, 91, 92, 93, 94, 95, 96, 97, 98, 99, 100, 101, 102, 103, 104] dt dt3 := Fr_tr hF hF5 (by decide)
  have hM7 : MW (dt3 80) := MW_fr hM hF5 (by decide)
  have w8 : dt3 1 0 = dt 1 0 := hF5 1 (by decide) 0
  have w9 : dt3 7 3 = dt 7 3 := hF5 7 (by decide) 3
  have w10 : dt3 10 3 = dt 10 3 := hF5 10 (by decide) 3
  have w11 : dt3 12 3 = dt 12 3 := hF5 12 (by decide) 3
  have w12 : dt3 14 3 = dt 14 3 := hF5 14 (by decide) 3
  have w13 : dt3 16 3 = dt 16 3 := hF5 16 (by decide) 3
  have w14 : dt3 18 0 = dt 18 0 := hF5 18 (by decide) 0
  have w15 : dt3 24 3 = dt 24 3 := hF5 24 (by decide) 3
  have w16 : dt3 27 3 = dt 27 3 := hF5 27 (by decide) 3
  have w17 : dt3 29 3 = dt 29 3 := hF5 29 (by decide) 3
  have w18 : dt3 31 3 = dt 31 3 := hF5 31 (by decide) 3
  have w19 : dt3 33 3 = dt 33 3 := hF5 33 (by decide) 3
  have w20 : dt3 0 2 = dt 0 2 := hF5 0 (by decide) 2
  have w21 : dt3 80 0 = dt 80 0 := hF5 80 (by decide) 0
  have w22 : dt3 80 1 = dt 80 1 := hF5 80 (by decide) 1
  have w23 : dt3 80 2 = dt 80 2 := hF5 80 (by decide) 2
  have w24 : dt3 80 3 = dt 80 3 := hF5 80 (by decide) 3
  have w25 : dt3 80 4 = dt 80 4 := hF5 80 (by decide) 4
  have w26 : dt3 80 5 = dt 80 5 := hF5 80 (by decide) 5
  have w27 : dt3 81 0 = dt 81 0 := hF5 81 (by decide) 0
  have w28 : dt3 81 1 = dt 81 1 := hF5 81 (by decide) 1
  have w29 : dt3 81 2 = dt 81 2 := hF5 81 (by decide) 2
  have w30 : dt3 81 3 = dt 81 3 := hF5 81 (by decide) 3
  have w31 : dt3 81 4 = dt 81 4 := hF5 81 (by decide) 4
  have w32 : dt3 81 5 = dt 81 5 := hF5 81 (by decide) 5
  have w33 : dt3 79 2 = dt 79 2 := hF5 79 (by decide) 2
  have w34 : dt3 79 12 = dt 79 12 := hF5 79 (by decide) 12
  have w35 : dt3 79 19 = dt 79 19 := hF5 79 (by decide) 19
  have w36 : dt3 79 21 = dt 79 21 := hF5 79 (by decide) 21
  rcases h2 with ⟨rfl, h2⟩ | ⟨rfl, h2⟩
  · skip
    obtain ⟨h2_0, h2_1, h2_2, h2_3⟩ := h2
    have w37 : dt3 35 2 = dt 35 2 := h2_2
    have w38 : dt3 35 3 = dt 35 3 := h2_3
    have M239 : MW (dt3 81) := MW_frk hM2 hF5 (by decide)
    have C40 : ∀ j : Nat, dt3 2 j = dt 2 j := fun j => (hF5 2 (by decide) j).trans ((fun _ => rfl) j)
    have C41 : ∀ j : Nat, dt3 3 j = dt 3 j := fun j => (hF5 3 (by decide) j).trans ((fun _ => rfl) j)
    have C42 : ∀ j : Nat, dt3 4 j = dt 4 j := fun j => (hF5 4 (by decide) j).trans ((fun _ => rfl) j)
    have C43 : ∀ j : Nat, dt3 5 j = dt 5 j := fun j => (hF5 5 (by decide) j).trans ((fun _ => rfl) j)
    have C44 : ∀ j : Nat, dt3 6 j = dt 6 j := fun j => (hF5 6 (by decide) j).trans ((fun _ => rfl) j)
    have C45 : ∀ j : Nat, dt3 8 j = dt 8 j := fun j => (hF5 8 (by decide) j).trans ((fun _ => rfl) j)
    have C46 : ∀ j : Nat, dt3 9 j = dt 9 j := fun j => (hF5 9 (by decide) j).trans ((fun _ => rfl) j)
    have C47 : ∀ j : Nat, dt3 11 j = dt 11 j := fun j => (hF5 11 (by decide) j).trans ((fun _ => rfl) j)
    have C48 : ∀ j : Nat, dt3 19 j = dt 19 j := fun j => (hF5 19 (by decide) j).trans ((fun _ => rfl) j)
    have C49 : ∀ j : Nat, dt3 20 j = dt 20 j := fun j => (hF5 20 (by decide) j).trans ((fun _ => rfl) j)
    have C50 : ∀ j : Nat, dt3 21 j = dt 21 j := fun j => (hF5 21 (by decide) j).trans ((fun _ => rfl) j)
    have C51 : ∀ j : Nat, dt3 22 j = dt 22 j := fun j => (hF5 22 (by decide) j).trans ((fun _ => rfl) j)
    have C52 : ∀ j : Nat, dt3 23 j = dt 23 j := fun j => (hF5 23 (by decide) j).trans ((fun _ => rfl) j)
    have C53 : ∀ j : Nat, dt3 25 j = dt 25 j := fun j => (hF5 25 (by decide) j).trans ((fun _ => rfl) j)
    have C54 : ∀ j : Nat, dt3 26 j = dt 26 j := fun j => (hF5 26 (by decide) j).trans ((fun _ => rfl) j)
    have C55 : ∀ j : Nat, dt3 28 j = dt 28 j := fun j => (hF5 28 (by decide) j).trans ((fun _ => rfl) j)
    have C56 : ∀ j : Nat, dt3 13 j = dt 13 j := fun j => (hF5 13 (by decide) j).trans ((fun _ => rfl) j)
    have C57 : ∀ j : Nat, dt3 30 j = dt 30 j := fun j => (hF5 30 (by decide) j).trans ((fun _ => rfl) j)
    have C58 : ∀ j : Nat, dt3 36 j = dt 36 j := fun j => (hF5 36 (by decide) j).trans ((fun _ => rfl) j)
    have C59 : ∀ j : Nat, dt3 80 j = dt 80 j := fun j => (hF5 80 (by decide) j).trans ((fun _ => rfl) j)
    have C60 : ∀ j : Nat, dt3 81 j = dt 81 j := fun j => (hF5 81 (by decide) j).trans ((fun _ => rfl) j)
    have C61 : ∀ j : Nat, dt3 85 j = dt 85 j := fun j => (hF5 85 (by decide) j).trans ((fun _ => rfl) j)
    refine go_toq PM267 (k := 6) (pc' := 281) (L' := [some (.inr (.inr (some 3000))), some (.inr (.inr (some 0))), some (.inr (.inr (some 79))), some (.inl i)]) (st' := [.inl (i + 1), .inr (.inr (some 3000)), .inr (.inr (some 79))]) (w' := (SH, dt3)) rfl ?_
    have r62 := i32_R (xs ((i + 1).toNat))
    refine go_smpq PM267 (L' := [some (.inr (.inr (some 3000))), some (.inr (.inr (some 0))), some (.inr (.inr (some 79))), some (.inl i)]) (st' := [.inl ((xs ((i + 1).toNat)).toInt), .inr (.inr (some 79))]) (w' := (SH, dt3)) rfl rfl (s_iald (n := L) (f := fun j => (xs j).toInt) (am_scr hLL) ⟨by omega, by omega⟩) ?_
    refine go_callq PM267 PM152 (Q' := _) rfl rfl rfl rfl (sp_X6_end_f L xs sio (d + 37) dt3 hI4  ((xs ((i + 1).toNat)).toInt) ⟨by omega, by omega⟩ ) ?_
    rintro _ _ ⟨dt64, rfl, hI65, hF66, h63⟩
    refine ⟨rfl, ?_⟩
    have hF67 : Fr [0, 1, 2, 3, 4, 5, 6, 7, 8, 9, 10, 11, 12, 13, 14, 15, 16, 17, 18, 19, 20, 21, 22, 23, 24, 25, 26, 27, 28, 29, 30, 31, 32, 33, 34, 35, 36, 37, 38, 39, 40, 41, 42, 43, 44, 45, 46, 47, 48, 49, 50, 51, 52, 53, 54, 55, 56, 57, 58, 59, 60, 61, 62, 63, 64, 65, 66, 67, 68, 69, 70, 71, 72, 73, 74, 75, 76, 77, 78, 79, 80, 81, 82, 83, 84, 85, 86, 87, 88, 89, 90, 91, 92, 93, 94, 95, 96, 97, 98, 99, 100, 101, 102, 103, 104] dt dt64 := Fr_tr hF6 hF66 (by decide)
    have hM68 : MW (dt64 80) := MW_fr hM7 hF66 (by decide)
    have w69 : dt64 1 0 = dt 1 0 := (hF66 1 (by decide) 0).trans w8
    have w70 : dt64 7 3 = dt 7 3 := (hF66 7 (by decide) 3).trans w9
    have w71 : dt64 10 3 = dt 10 3 := (hF66 10 (by decide) 3).trans w10
    have w72 : dt64 12 3 = dt 12 3 := (hF66 12 (by decide) 3).trans w11
    have w73 : dt64 14 3 = dt 14 3 := (hF66 14 (by decide) 3).trans w12
    have w74 : dt64 16 3 = dt 16 3 := (hF66 16 (by decide) 3).trans w13
    have w75 : dt64 18 0 = dt 18 0 := (hF66 18 (by decide) 0).trans w14
    have w76 : dt64 24 3 = dt 24 3 := (hF66 24 (by decide) 3).trans w15
    have w77 : dt64 27 3 = dt 27 3 := (hF66 27 (by decide) 3).trans w16
    have w78 : dt64 29 3 = dt 29 3 := (hF66 29 (by decide) 3).trans w17
    have w79 : dt64 31 3 = dt 31 3 := (hF66 31 (by decide) 3).trans w18
    have w80 : dt64 33 3 = dt 33 3 := (hF66 33 (by decide) 3).trans w19
    have w81 : dt64 0 2 = dt 0 2 := (hF66 0 (by decide) 2).trans w20
    have w82 : dt64 35 1 = dt3 35 1 := hF66 35 (by decide) 1
    have w83 : dt64 35 2 = dt 35 2 := (hF66 35 (by decide) 2).trans w37
    have w84 : dt64 35 3 = dt 35 3 := (hF66 35 (by decide) 3).trans w38
    have w85 : dt64 80 0 = dt 80 0 := (hF66 80 (by decide) 0).trans w21
    have w86 : dt64 80 1 = dt 80 1 := (hF66 80 (by decide) 1).trans w22
    have w87 : dt64 80 2 = dt 80 2 := (hF66 80 (by decide) 2).trans w23
    have w88 : dt64 80 3 = dt 80 3 := (hF66 80 (by decide) 3).trans w24
    have w89 : dt64 80 4 = dt 80 4 := (hF66 80 (by decide) 4).trans w25
    have w90 : dt64 80 5 = dt 80 5 := (hF66 80 (by decide) 5).trans w26
    have w91 : dt64 81 0 = dt 81 0 := (hF66 81 (by decide) 0).trans w27
    have w92 : dt64 81 1 = dt 81 1 := (hF66 81 (by decide) 1).trans w28
    have w93 : dt64 81 2 = dt 81 2 := (hF66 81 (by decide) 2).trans w29
    have w94 : dt64 81 3 = dt 81 3 := (hF66 81 (by decide) 3).trans w30
    have w95 : dt64 81 4 = dt 81 4 := (hF66 81 (by decide) 4).trans w31
    have w96 : dt64 81 5 = dt 81 5 := (hF66 81 (by decide) 5).trans w32
    rcases h63 with ⟨rfl, h63⟩ | ⟨rfl, h63⟩
    · skip
      obtain ⟨h63_0, h63_1, h63_2, h63_3, h63_4⟩ := h63
      have w97 : dt64 79 2 = dt 79 2 := h63_2.trans w33
      have w98 : dt64 79 19 = dt 79 19 := h63_3.trans w35
      have w99 : dt64 79 21 = dt 79 21 := h63_4.trans w36
      have M2100 : MW (dt64 81) := MW_frk M239 hF66 (by decide)
      have C101 : ∀ j : Nat, dt64 2 j = dt 2 j := fun j => (hF66 2 (by decide) j).trans (C40 j)
      have C102 : ∀ j : Nat, dt64 3 j = dt 3 j := fun j => (hF66 3 (by decide) j).trans (C41 j)
      have C103 : ∀ j : Nat, dt64 4 j = dt 4 j := fun j => (hF66 4 (by decide) j).trans (C42 j)
      have C104 : ∀ j : Nat, dt64 5 j = dt 5 j := fun j => (hF66 5 (by decide) j).trans (C43 j)
      have C105 : ∀ j : Nat, dt64 6 j = dt 6 j := fun j => (hF66 6 (by decide) j).trans (C44 j)
      have C106 : ∀ j : Nat, dt64 8 j = dt 8 j := fun j => (hF66 8 (by decide) j).trans (C45 j)
      have C107 : ∀ j : Nat, dt64 9 j = dt 9 j := fun j => (hF66 9 (by decide) j).trans (C46 j)
      have C108 : ∀ j : Nat, dt64 11 j = dt 11 j := fun j => (hF66 11 (by decide) j).trans (C47 j)
      have C109 : ∀ j : Nat, dt64 19 j = dt 19 j := fun j => (hF66 19 (by decide) j).trans (C48 j)
      have C110 : ∀ j : Nat, dt64 20 j = dt 20 j := fun j => (hF66 20 (by decide) j).trans (C49 j)
      have C111 : ∀ j : Nat, dt64 21 j = dt 21 j := fun j => (hF66 21 (by decide) j).trans (C50 j)
      have C112 : ∀ j : Nat, dt64 22 j = dt 22 j := fun j => (hF66 22 (by decide) j).trans (C51 j)
      have C113 : ∀ j : Nat, dt64 23 j = dt 23 j := fun j => (hF66 23 (by decide) j).trans (C52 j)
      have C114 : ∀ j : Nat, dt64 25 j = dt 25 j := fun j => (hF66 25 (by decide) j).trans (C53 j)
      have C115 : ∀ j : Nat, dt64 26 j = dt 26 j := fun j => (hF66 26 (by decide) j).trans (C54 j)
      have C116 : ∀ j : Nat, dt64 28 j = dt 28 j := fun j => (hF66 28 (by decide) j).trans (C55 j)
      have C117 : ∀ j : Nat, dt64 13 j = dt 13 j := fun j => (hF66 13 (by decide) j).trans (C56 j)
      have C118 : ∀ j : Nat, dt64 30 j = dt 30 j := fun j => (hF66 30 (by decide) j).trans (C57 j)
      have C119 : ∀ j : Nat, dt64 36 j = dt 36 j := fun j => (hF66 36 (by decide) j).trans (C58 j)
      have C120 : ∀ j : Nat, dt64 80 j = dt 80 j := fun j => (hF66 80 (by decide) j).trans (C59 j)
      have C121 : ∀ j : Nat, dt64 81 j = dt 81 j := fun j => (hF66 81 (by decide) j).trans (C60 j)
      have C122 : ∀ j : Nat, dt64 85 j = dt 85 j := fun j => (hF66 85 (by decide) j).trans (C61 j)
      refine go_toq PM267 (k := 2) (pc' := 1435) (L' := [some (.inr (.inr (some 3000))), some (.inr (.inr (some 0))), some (.inr (.inr (some 79))), some (.inl i)]) (st' := []) (w' := (SH, dt64)) rfl ?_
      exact K dt64 hI65 hM68 M2100 (w69.trans (hk0.trans w85.symm)) (w70.trans (hk1.trans w86.symm)) (w71.trans (hk2.trans w87.symm)) (w72.trans (hk3.trans w88.symm)) (w73.trans (hk4.trans w89.symm)) (w74.trans (hk5.trans w90.symm)) (w75.trans (hk6.trans w91.symm)) (w76.trans (hk7.trans w92.symm)) (w77.trans (hk8.trans w93.symm)) (w78.trans (hk9.trans w94.symm)) (w79.trans (hk10.trans w95.symm)) (w80.trans (hk11.trans w96.symm)) (w81.trans (hk12.trans w97.symm)) (by omega) (w83.trans (hk14.trans w98.symm)) (w84.trans (hk15.trans w99.symm)) (by first | exact hI | exact TPL_k hd0 C119 C122 (by omega) | (exfalso; omega)) (by first | exact hI | exact SCL_k hd1 hM (fun j _ => C101 j) (fun j _ => C102 j) (fun j _ _ => C120 j) | (exfalso; omega)) (by first | exact hI | exact SCL_k hd2 hM2 (fun j _ => C109 j) (fun j _ => C110 j) (fun j _ _ => C121 j) | (exfalso; omega)) (by first | exact hI | exact QRL_k hd3 hM (fun j _ => C106 j) (C120 1) (fun j _ _ => C120 j) | (exfalso; omega)) (by first | exact hI | exact QRL_k hd4 hM2 (fun j _ => C114 j) (C121 1) (fun j _ _ => C121 j) | (exfalso; omega)) (by first | exact hI | exact SDL_k hd5 hM (fun j _ => C107 j) (C120 1) (fun j _ _ => C120 j) (fun j _ _ => C120 j) | (exfalso; omega)) (by first | exact hI | exact SDL_k hd6 hM2 (fun j _ => C115 j) (C121 1) (fun j _ _ => C121 j) (fun j _ _ => C121 j) | (exfalso; omega)) (by first | exact hI | exact LWL_k hd7 hM (fun j _ => C103 j) (fun j _ => C104 j) (fun j _ => C105 j) (fun j _ _ => C120 j) | (exfalso; omega)) (by first | exact hI | exact LWL_k hd8 hM2 (fun j _ => C111 j) (fun j _ => C112 j) (fun j _ => C113 j) (fun j _ _ => C121 j) | (exfalso; omega)) (by first | exact hI | exact CHL_k hd9 hM (fun j _ => C108 j) (by omega) (fun j _ _ => C120 j) | (exfalso; omega)) (by first | exact hI | exact CHL_k hd10 hM2 (fun j _ => C116 j) (by omega) (fun j _ _ => C121 j) | (exfalso; omega)) (by first | exact hI | exact ANL_k hd11 hM (fun j _ => C117 j) (by omega) (by omega) (by omega) (fun j _ _ => C120 j) | (exfalso; omega)) (by first | exact hI | exact ANL_k hd12 hM2 (fun j _ => C118 j) (by omega) (by omega) (by omega) (fun j _ _ => C121 j) | (exfalso; omega))
    · skip
      obtain ⟨h63_0, h63_1, h63_2, h63_3, h63_4⟩ := h63
      replace h63_0 := hid h63_0
      have w123 : dt64 79 12 = dt 79 12 := h63_1.trans w34
      have w124 : dt64 79 2 = dt 79 2 := h63_2.trans w33
      have w125 : dt64 79 19 = dt 79 19 := h63_3.trans w35
      have w126 : dt64 79 21 = dt 79 21 := h63_4.trans w36
      have M2127 : MW (dt64 81) := MW_frk M239 hF66 (by decide)
      have C128 : ∀ j : Nat, dt64 2 j = dt 2 j := fun j => (hF66 2 (by decide) j).trans (C40 j)
      have C129 : ∀ j : Nat, dt64 3 j = dt 3 j := fun j => (hF66 3 (by decide) j).trans (C41 j)
      have C130 : ∀ j : Nat, dt64 4 j = dt 4 j := fun j => (hF66 4 (by decide) j).trans (C42 j)
      have C131 : ∀ j : Nat, dt64 5 j = dt 5 j := fun j => (hF66 5 (by decide) j).trans (C43 j)
      have C132 : ∀ j : Nat, dt64 6 j = dt 6 j := fun j => (hF66 6 (by decide) j).trans (C44 j)
      have C133 : ∀ j : Nat, dt64 8 j = dt 8 j := fun j => (hF66 8 (by decide) j).trans (C45 j)
      have C134 : ∀ j : Nat, dt64 9 j = dt 9 j := fun j => (hF66 9 (by decide) j).trans (C46 j)
      have C135 : ∀ j : Nat, dt64 11 j = dt 11 j := fun j => (hF66 11 (by decide) j).trans (C47 j)
      have C136 : ∀ j : Nat, dt64 19 j = dt 19 j := fun j => (hF66 19 (by decide) j).trans (C48 j)
      have C137 : ∀ j : Nat, dt64 20 j = dt 20 j := fun j => (hF66 20 (by decide) j).trans (C49 j)
      have C138 : ∀ j : Nat, dt64 21 j = dt 21 j := fun j => (hF66 21 (by decide) j).trans (C50 j)
      have C139 : ∀ j : Nat, dt64 22 j = dt 22 j := fun j => (hF66 22 (by decide) j).trans (C51 j)
      have C140 : ∀ j : Nat, dt64 23 j = dt 23 j := fun j => (hF66 23 (by decide) j).trans (C52 j)
      have C141 : ∀ j : Nat, dt64 25 j = dt 25 j := fun j => (hF66 25 (by decide) j).trans (C53 j)
      have C142 : ∀ j : Nat, dt64 26 j = dt 26 j := fun j => (hF66 26 (by decide) j).trans (C54 j)
      have C143 : ∀ j : Nat, dt64 28 j = dt 28 j := fun j => (hF66 28 (by decide) j).trans (C55 j)
      have C144 : ∀ j : Nat, dt64 13 j = dt 13 j := fun j => (hF66 13 (by decide) j).trans (C56 j)
      have C145 : ∀ j : Nat, dt64 30 j = dt 30 j := fun j => (hF66 30 (by decide) j).trans (C57 j)
      have C146 : ∀ j : Nat, dt64 36 j = dt 36 j := fun j => (hF66 36 (by decide) j).trans (C58 j)
      have C147 : ∀ j : Nat, dt64 80 j = dt 80 j := fun j => (hF66 80 (by decide) j).trans (C59 j)
      have C148 : ∀ j : Nat, dt64 81 j = dt 81 j := fun j => (hF66 81 (by decide) j).trans (C60 j)
      have C149 : ∀ j : Nat, dt64 85 j = dt 85 j := fun j => (hF66 85 (by decide) j).trans (C61 j)
      refine go_toq PM267 (k := 2) (pc' := 1435) (L' := [some (.inr (.inr (some 3000))), some (.inr (.inr (some 0))), some (.inr (.inr (some 79))), some (.inl i)]) (st' := []) (w' := (SH, dt64)) rfl ?_
      exact K dt64 hI65 hM68 M2127 (w69.trans (hk0.trans w85.symm)) (w70.trans (hk1.trans w86.symm)) (w71.trans (hk2.trans w87.symm)) (w72.trans (hk3.trans w88.symm)) (w73.trans (hk4.trans w89.symm)) (w74.trans (hk5.trans w90.symm)) (w75.trans (hk6.trans w91.symm)) (w76.trans (hk7.trans w92.symm)) (w77.trans (hk8.trans w93.symm)) (w78.trans (hk9.trans w94.symm)) (w79.trans (hk10.trans w95.symm)) (w80.trans (hk11.trans w96.symm)) (w81.trans (hk12.trans w124.symm)) (by (first | omega | (have z0_ := unhid h63_0; omega))) (w83.trans (hk14.trans w125.symm)) (w84.trans (hk15.trans w126.symm)) (by first | exact hI | exact TPL_k hd0 C146 C149 (by (first | omega | (have z0_ := unhid h63_0; omega))) | (exfalso; (first | omega | (have z0_ := unhid h63_0; omega)))) (by first | exact hI | exact SCL_k hd1 hM (fun j _ => C128 j) (fun j _ => C129 j) (fun j _ _ => C147 j) | (exfalso; (first | omega | (have z0_ := unhid h63_0; omega)))) (by first | exact hI | exact SCL_k hd2 hM2 (fun j _ => C136 j) (fun j _ => C137 j) (fun j _ _ => C148 j) | (exfalso; (first | omega | (have z0_ := unhid h63_0; omega)))) (by first | exact hI | exact QRL_k hd3 hM (fun j _ => C133 j) (C147 1) (fun j _ _ => C147 j) | (exfalso; (first | omega | (have z0_ := unhid h63_0; omega)))) (by first | exact hI | exact QRL_k hd4 hM2 (fun j _ => C141 j) (C148 1) (fun j _ _ => C148 j) | (exfalso; (first | omega | (have z0_ := unhid h63_0; omega)))) (by first | exact hI | exact SDL_k hd5 hM (fun j _ => C134 j) (C147 1) (fun j _ _ => C147 j) (fun j _ _ => C147 j) | (exfalso; (first | omega | (have z0_ := unhid h63_0; omega)))) (by first | exact hI | exact SDL_k hd6 hM2 (fun j _ => C142 j) (C148 1) (fun j _ _ => C148 j) (fun j _ _ => C148 j) | (exfalso; (first | omega | (have z0_ := unhid h63_0; omega)))) (by first | exact hI | exact LWL_k hd7 hM (fun j _ => C130 j) (fun j _ => C131 j) (fun j _ => C132 j) (fun j _ _ => C147 j) | (exfalso; (first | omega | (have z0_ := unhid h63_0; omega)))) (by first | exact hI | exact LWL_k hd8 hM2 (fun j _ => C138 j) (fun j _ => C139 j) (fun j _ => C140 j) (fun j _ _ => C148 j) | (exfalso; (first | omega | (have z0_ := unhid h63_0; omega)))) (by first | exact hI | exact CHL_k hd9 hM (fun j _ => C135 j) (by (first | omega | (have z0_ := unhid h63_0; omega))) (fun j _ _ => C147 j) | (exfalso; (first | omega | (have z0_ := unhid h63_0; omega)))) (by first | exact hI | exact CHL_k hd10 hM2 (fun j _ => C143 j) (by (first | omega | (have z0_ := unhid h63_0; omega))) (fun j _ _ => C148 j) | (exfalso; (first | omega | (have z0_ := unhid h63_0; omega)))) (by first | exact hI | exact ANL_k hd11 hM (fun j _ => C144 j) (by (first | omega | (have z0_ := unhid h63_0; omega))) (by (first | omega | (have z0_ := unhid h63_0; omega))) (by (first | omega | (have z0_ := unhid h63_0; omega))) (fun j _ _ => C147 j) | (exfalso; (first | omega | (have z0_ := unhid h63_0; omega)))) (by first | exact hI | exact ANL_k hd12 hM2 (fun j _ => C145 j) (by (first | omega | (have z0_ := unhid h63_0; omega))) (by (first | omega | (have z0_ := unhid h63_0; omega))) (by (first | omega | (have z0_ := unhid h63_0; omega))) (fun j _ _ => C148 j) | (exfalso; (first | omega | (have z0_ := unhid h63_0; omega))))
  · skip
    obtain ⟨h2_0, h2_1, h2_2, h2_3⟩ := h2
    replace h2_0 := hid h2_0
    have w150 : dt3 35 1 = dt 35 1 := h2_1
    have w151 : dt3 35 2 = dt 35 2 := h2_2
    have w152 : dt3 35 3 = dt 35 3 := h2_3
    have M2153 : MW (dt3 81) := MW_frk hM2 hF5 (by decide)
    have C154 : ∀ j : Nat, dt3 2 j = dt 2 j := fun j => (hF5 2 (by decide) j).trans ((fun _ => rfl) j)
    have C155 : ∀ j : Nat, dt3 3 j = dt 3 j := fun j => (hF5 3 (by decide) j).trans ((fun _ => rfl) j)
    have C156 : ∀ j : Nat, dt3 4 j = dt 4 j := fun j => (hF5 4 (by decide) j).trans ((fun _ => rfl) j)
    have C157 : ∀ j : Nat, dt3 5 j = dt 5 j := fun j => (hF5 5 (by decide) j).trans ((fun _ => rfl) j)
    have C158 : ∀ j : Nat, dt3 6 j = dt 6 j := fun j => (hF5 6 (by decide) j).trans ((fun _ => rfl) j)
    have C159 : ∀ j : Nat, dt3 8 j = dt 8 j := fun j => (hF5 8 (by decide) j).trans ((fun _ => rfl) j)
    have C160 : ∀ j : Nat, dt3 9 j = dt 9 j := fun j => (hF5 9 (by decide) j).trans ((fun _ => rfl) j)
    have C161 : ∀ j : Nat, dt3 11 j = dt 11 j := fun j => (hF5 11 (by decide) j).trans ((fun _ => rfl) j)
    have C162 : ∀ j : Nat, dt3 19 j = dt 19 j := fun j => (hF5 19 (by decide) j).trans ((fun _ => rfl) j)
    have C163 : ∀ j : Nat, dt3 20 j = dt 20 j := fun j => (hF5 20 (by decide) j).trans ((fun _ => rfl) j)
    have C164 : ∀ j : Nat, dt3 21 j = dt 21 j := fun j => (hF5 21 (by decide) j).trans ((fun _ => rfl) j)
    have C165 : ∀ j : Nat, dt3 22 j = dt 22 j := fun j => (hF5 22 (by decide) j).trans ((fun _ => rfl) j)
    have C166 : ∀ j : Nat, dt3 23 j = dt 23 j := fun j => (hF5 23 (by decide) j).trans ((fun _ => rfl) j)
    have C167 : ∀ j : Nat, dt3 25 j = dt 25 j := fun j => (hF5 25 (by decide) j).trans ((fun _ => rfl) j)
    have C168 : ∀ j : Nat, dt3 26 j = dt 26 j := fun j => (hF5 26 (by decide) j).trans ((fun _ => rfl) j)
    have C169 : ∀ j : Nat, dt3 28 j = dt 28 j := fun j => (hF5 28 (by decide) j).trans ((fun _ => rfl) j)
    have C170 : ∀ j : Nat, dt3 13 j = dt 13 j := fun j => (hF5 13 (by decide) j).trans ((fun _ => rfl) j)
    have C171 : ∀ j : Nat, dt3 30 j = dt 30 j := fun j => (hF5 30 (by decide) j).trans ((fun _ => rfl) j)
    have C172 : ∀ j : Nat, dt3 36 j = dt 36 j := fun j => (hF5 36 (by decide) j).trans ((fun _ => rfl) j)
    have C173 : ∀ j : Nat, dt3 80 j = dt 80 j := fun j => (hF5 80 (by decide) j).trans ((fun _ => rfl) j)
    have C174 : ∀ j : Nat, dt3 81 j = dt 81 j := fun j => (hF5 81 (by decide) j).trans ((fun _ => rfl) j)
    have C175 : ∀ j : Nat, dt3 85 j = dt 85 j := fun j => (hF5 85 (by decide) j).trans ((fun _ => rfl) j)
    refine go_toq PM267 (k := 6) (pc' := 281) (L' := [some (.inr (.inr (some 3000))), some (.inr (.inr (some 0))), some (.inr (.inr (some 79))), some (.inl i)]) (st' := [.inl (i + 1), .inr (.inr (some 3000)), .inr (.inr (some 79))]) (w' := (SH, dt3)) rfl ?_
    have r176 := i32_R (xs ((i + 1).toNat))
    refine go_smpq PM267 (L' := [some (.inr (.inr (some 3000))), some (.inr (.inr (some 0))), some (.inr (.inr (some 79))), some (.inl i)]) (st' := [.inl ((xs ((i + 1).toNat)).toInt), .inr (.inr (some 79))]) (w' := (SH, dt3)) rfl rfl (s_iald (n := L) (f := fun j => (xs j).toInt) (am_scr hLL) ⟨by (first | omega | (have z0_ := unhid h2_0; omega)), by (first | omega | (have z0_ := unhid h2_0; omega))⟩) ?_
    refine go_callq PM267 PM152 (Q' := _) rfl rfl rfl rfl (sp_X6_end_f L xs sio (d + 37) dt3 hI4  ((xs ((i + 1).toNat)).toInt) ⟨by (first | omega | (have z0_ := unhid h2_0; omega)), by (first | omega | (have z0_ := unhid h2_0; omega))⟩ ) ?_
    rintro _ _ ⟨dt178, rfl, hI179, hF180, h177⟩
    refine ⟨rfl, ?_⟩
    have hF181 : Fr [0, 1, 2, 3, 4, 5, 6, 7, 8, 9, 10, 11, 12, 13, 14, 15, 16, 17, 18, 19, 20, 21, 22, 23, 24, 25, 26, 27, 28, 29, 30, 31, 32, 33, 34, 35, 36, 37, 38, 39, 40, 41, 42, 43, 44, 45, 46, 47, 48, 49, 50, 51, 52, 53, 54, 55, 56, 57, 58, 59, 60, 61, 62, 63, 64, 65, 66, 67, 68, 69, 70, 71, 72, 73, 74, 75, 76, 77, 78, 79, 80, 81, 82, 83, 84, 85, 86, 87, 88, 89, 90, 91, 92, 93, 94, 95, 96, 97, 98, 99, 100, 101, 102, 103, 104] dt dt178 := Fr_tr hF6 hF180 (by decide)
    have hM182 : MW (dt178 80) := MW_fr hM7 hF180 (by decide)
    have w183 : dt178 1 0 = dt 1 0 := (hF180 1 (by decide) 0).trans w8
    have w184 : dt178 7 3 = dt 7 3 := (hF180 7 (by decide) 3).trans w9
    have w185 : dt178 10 3 = dt 10 3 := (hF180 10 (by decide) 3).trans w10
    have w186 : dt178 12 3 = dt 12 3 := (hF180 12 (by decide) 3).trans w11
    have w187 : dt178 14 3 = dt 14 3 := (hF180 14 (by decide) 3).trans w12
    have w188 : dt178 16 3 = dt 16 3 := (hF180 16 (by decide) 3).trans w13
    have w189 : dt178 18 0 = dt 18 0 := (hF180 18 (by decide) 0).trans w14
    have w190 : dt178 24 3 = dt 24 3 := (hF180 24 (by decide) 3).trans w15
    have w191 : dt178 27 3 = dt 27 3 := (hF180 27 (by decide) 3).trans w16
    have w192 : dt178 29 3 = dt 29 3 := (hF180 29 (by decide) 3).trans w17
    have w193 : dt178 31 3 = dt 31 3 := (hF180 31 (by decide) 3).trans w18
    have w194 : dt178 33 3 = dt 33 3 := (hF180 33 (by decide) 3).trans w19
    have w195 : dt178 0 2 = dt 0 2 := (hF180 0 (by decide) 2).trans w20
    have w196 : dt178 35 1 = dt 35 1 := (hF180 35 (by decide) 1).trans w150
    have w197 : dt178 35 2 = dt 35 2 := (hF180 35 (by decide) 2).trans w151
    have w198 : dt178 35 3 = dt 35 3 := (hF180 35 (by decide) 3).trans w152
    have w199 : dt178 80 0 = dt 80 0 := (hF180 80 (by decide) 0).trans w21
    have w200 : dt178 80 1 = dt 80 1 := (hF180 80 (by decide) 1).trans w22
    have w201 : dt178 80 2 = dt 80 2 := (hF180 80 (by decide) 2).trans w23
    have w202 : dt178 80 3 = dt 80 3 := (hF180 80 (by decide) 3).trans w24
    have w203 : dt178 80 4 = dt 80 4 := (hF180 80 (by decide) 4).trans w25
    have w204 : dt178 80 5 = dt 80 5 := (hF180 80 (by decide) 5).trans w26
    have w205 : dt178 81 0 = dt 81 0 := (hF180 81 (by decide) 0).trans w27
    have w206 : dt178 81 1 = dt 81 1 := (hF180 81 (by decide) 1).trans w28
    have w207 : dt178 81 2 = dt 81 2 := (hF180 81 (by decide) 2).trans w29
    have w208 : dt178 81 3 = dt 81 3 := (hF180 81 (by decide) 3).trans w30
    have w209 : dt178 81 4 = dt 81 4 := (hF180 81 (by decide) 4).trans w31
    have w210 : dt178 81 5 = dt 81 5 := (hF180 81 (by decide) 5).trans w32
    rcases h177 with ⟨rfl, h177⟩ | ⟨rfl, h177⟩
    · skip
      obtain ⟨h177_0, h177_1, h177_2, h177_3, h177_4⟩ := h177
      have w211 : dt178 79 2 = dt 79 2 := h177_2.trans w33
      have w212 : dt178 79 19 = dt 79 19 := h177_3.trans w35
      have w213 : dt178 79 21 = dt 79 21 := h177_4.trans w36
      have M2214 : MW (dt178 81) := MW_frk M2153 hF180 (by decide)
      have C215 : ∀ j : Nat, dt178 2 j = dt 2 j := fun j => (hF180 2 (by decide) j).trans (C154 j)
      have C216 : ∀ j : Nat, dt178 3 j = dt 3 j := fun j => (hF180 3 (by decide) j).trans (C155 j)
      have C217 : ∀ j : Nat, dt178 4 j = dt 4 j := fun j => (hF180 4 (by decide) j).trans (C156 j)
      have C218 : ∀ j : Nat, dt178 5 j = dt 5 j := fun j => (hF180 5 (by decide) j).trans (C157 j)
      have C219 : ∀ j : Nat, dt178 6 j = dt 6 j := fun j => (hF180 6 (by decide) j).trans (C158 j)
      have C220 : ∀ j : Nat, dt178 8 j = dt 8 j := fun j => (hF180 8 (by decide) j).trans (C159 j)
      have C221 : ∀ j : Nat, dt178 9 j = dt 9 j := fun j => (hF180 9 (by decide) j).trans (C160 j)
      have C222 : ∀ j : Nat, dt178 11 j = dt 11 j := fun j => (hF180 11 (by decide) j).trans (C161 j)
      have C223 : ∀ j : Nat, dt178 19 j = dt 19 j := fun j => (hF180 19 (by decide) j).trans (C162 j)
      have C224 : ∀ j : Nat, dt178 20 j = dt 20 j := fun j => (hF180 20 (by decide) j).trans (C163 j)
      have C225 : ∀ j : Nat, dt178 21 j = dt 21 j := fun j => (hF180 21 (by decide) j).trans (C164 j)
      have C226 : ∀ j : Nat, dt178 22 j = dt 22 j := fun j => (hF180 22 (by decide) j).trans (C165 j)
      have C227 : ∀ j : Nat, dt178 23 j = dt 23 j := fun j => (hF180 23 (by decide) j).trans (C166 j)
      have C228 : ∀ j : Nat, dt178 25 j = dt 25 j := fun j => (hF180 25 (by decide) j).trans (C167 j)
      have C229 : ∀ j : Nat, dt178 26 j = dt 26 j := fun j => (hF180 26 (by decide) j).trans (C168 j)
      have C230 : ∀ j : Nat, dt178 28 j = dt 28 j := fun j => (hF180 28 (by decide) j).trans (C169 j)
      have C231 : ∀ j : Nat, dt178 13 j = dt 13 j := fun j => (hF180 13 (by decide) j).trans (C170 j)
      have C232 : ∀ j : Nat, dt178 30 j = dt 30 j := fun j => (hF180 30 (by decide) j).trans (C171 j)
      have C233 : ∀ j : Nat, dt178 36 j = dt 36 j := fun j => (hF180 36 (by decide) j).trans (C172 j)
      have C234 : ∀ j : Nat, dt178 80 j = dt 80 j := fun j => (hF180 80 (by decide) j).trans (C173 j)
      have C235 : ∀ j : Nat, dt178 81 j = dt 81 j := fun j => (hF180 81 (by decide) j).trans (C174 j)
      have C236 : ∀ j : Nat, dt178 85 j = dt 85 j := fun j => (hF180 85 (by decide) j).trans (C175 j)
      refine go_toq PM267 (k := 2) (pc' := 1435) (L' := [some (.inr (.inr (some 3000))), some (.inr (.inr (some 0))), some (.inr (.inr (some 79))), some (.inl i)]) (st' := []) (w' := (SH, dt178)) rfl ?_
      exact K dt178 hI179 hM182 M2214 (w183.trans (hk0.trans w199.symm)) (w184.trans (hk1.trans w200.symm)) (w185.trans (hk2.trans w201.symm)) (w186.trans (hk3.trans w202.symm)) (w187.trans (hk4.trans w203.symm)) (w188.trans (hk5.trans w204.symm)) (w189.trans (hk6.trans w205.symm)) (w190.trans (hk7.trans w206.symm)) (w191.trans (hk8.trans w207.symm)) (w192.trans (hk9.trans w208.symm)) (w193.trans (hk10.trans w209.symm)) (w194.trans (hk11.trans w210.symm)) (w195.trans (hk12.trans w211.symm)) (by (first | omega | (have z0_ := unhid h2_0; omega))) (w197.trans (hk14.trans w212.symm)) (w198.trans (hk15.trans w213.symm)) (by first | exact hI | exact TPL_k hd0 C233 C236 (by (first | omega | (have z0_ := unhid h2_0; omega))) | (exfalso; (first | omega | (have z0_ := unhid h2_0; omega)))) (by first | exact hI | exact SCL_k hd1 hM (fun j _ => C215 j) (fun j _ => C216 j) (fun j _ _ => C234 j) | (exfalso; (first | omega | (have z0_ := unhid h2_0; omega)))) (by first | exact hI | exact SCL_k hd2 hM2 (fun j _ => C223 j) (fun j _ => C224 j) (fun j _ _ => C235 j) | (exfalso; (first | omega | (have z0_ := unhid h2_0; omega)))) (by first | exact hI | exact QRL_k hd3 hM (fun j _ => C220 j) (C234 1) (fun j _ _ => C234 j) | (exfalso; (first | omega | (have z0_ := unhid h2_0; omega)))) (by first | exact hI | exact QRL_k hd4 hM2 (fun j _ => C228 j) (C235 1) (fun j _ _ => C235 j) | (exfalso; (first | omega | (have z0_ := unhid h2_0; omega)))) (by first | exact hI | exact SDL_k hd5 hM (fun j _ => C221 j) (C234 1) (fun j _ _ => C234 j) (fun j _ _ => C234 j) | (exfalso; (first | omega | (have z0_ := unhid h2_0; omega)))) (by first | exact hI | exact SDL_k hd6 hM2 (fun j _ => C229 j) (C235 1) (fun j _ _ => C235 j) (fun j _ _ => C235 j) | (exfalso; (first | omega | (have z0_ := unhid h2_0; omega)))) (by first | exact hI | exact LWL_k hd7 hM (fun j _ => C217 j) (fun j _ => C218 j) (fun j _ => C219 j) (fun j _ _ => C234 j) | (exfalso; (first | omega | (have z0_ := unhid h2_0; omega)))) (by first | exact hI | exact LWL_k hd8 hM2 (fun j _ => C225 j) (fun j _ => C226 j) (fun j _ => C227 j) (fun j _ _ => C235 j) | (exfalso; (first | omega | (have z0_ := unhid h2_0; omega)))) (by first | exact hI | exact CHL_k hd9 hM (fun j _ => C222 j) (by (first | omega | (have z0_ := unhid h2_0; omega))) (fun j _ _ => C234 j) | (exfalso; (first | omega | (have z0_ := unhid h2_0; omega)))) (by first | exact hI | exact CHL_k hd10 hM2 (fun j _ => C230 j) (by (first | omega | (have z0_ := unhid h2_0; omega))) (fun j _ _ => C235 j) | (exfalso; (first | omega | (have z0_ := unhid h2_0; omega)))) (by first | exact hI | exact ANL_k hd11 hM (fun j _ => C231 j) (by (first | omega | (have z0_ := unhid h2_0; omega))) (by (first | omega | (have z0_ := unhid h2_0; omega))) (by (first | omega | (have z0_ := unhid h2_0; omega))) (fun j _ _ => C234 j) | (exfalso; (first | omega | (have z0_ := unhid h2_0; omega)))) (by first | exact hI | exact ANL_k hd12 hM2 (fun j _ => C232 j) (by (first | omega | (have z0_ := unhid h2_0; omega))) (by (first | omega | (have z0_ := unhid h2_0; omega))) (by (first | omega | (have z0_ := unhid h2_0; omega))) (fun j _ _ => C235 j) | (exfalso; (first | omega | (have z0_ := unhid h2_0; omega))))
    · skip
      obtain ⟨h177_0, h177_1, h177_2, h177_3, h177_4⟩ := h177
      replace h177_0 := hid h177_0
      have w237 : dt178 79 12 = dt 79 12 := h177_1.trans w34
      have w238 : dt178 79 2 = dt 79 2 := h177_2.trans w33
      have w239 : dt178 79 19 = dt 79 19 := h177_3.trans w35
      have w240 : dt178 79 21 = dt 79 21 := h177_4.trans w36
      have M2241 : MW (dt178 81) := MW_frk M2153 hF180 (by decide)
      have C242 : ∀ j : Nat, dt178 2 j = dt 2 j := fun j => (hF180 2 (by decide) j).trans (C154 j)
      have C243 : ∀ j : Nat, dt178 3 j = dt 3 j := fun j => (hF180 3 (by decide) j).trans (C155 j)
      have C244 : ∀ j : Nat, dt178 4 j = dt 4 j := fun j => (hF180 4 (by decide) j).trans (C156 j)
      have C245 : ∀ j : Nat, dt178 5 j = dt 5 j := fun j => (hF180 5 (by decide) j).trans (C157 j)
      have C246 : ∀ j : Nat, dt178 6 j = dt 6 j := fun j => (hF180 6 (by decide) j).trans (C158 j)
      have C247 : ∀ j : Nat, dt178 8 j = dt 8 j := fun j => (hF180 8 (by decide) j).trans (C159 j)
      have C248 : ∀ j : Nat, dt178 9 j = dt 9 j := fun j => (hF180 9 (by decide) j).trans (C160 j)
      have C249 : ∀ j : Nat, dt178 11 j = dt 11 j := fun j => (hF180 11 (by decide) j).trans (C161 j)
      have C250 : ∀ j : Nat, dt178 19 j = dt 19 j := fun j => (hF180 19 (by decide) j).trans (C162 j)
      have C251 : ∀ j : Nat, dt178 20 j = dt 20 j := fun j => (hF180 20 (by decide) j).trans (C163 j)
      have C252 : ∀ j : Nat, dt178 21 j = dt 21 j := fun j => (hF180 21 (by decide) j).trans (C164 j)
      have C253 : ∀ j : Nat, dt178 22 j = dt 22 j := fun j => (hF180 22 (by decide) j).trans (C165 j)
      have C254 : ∀ j : Nat, dt178 23 j = dt 23 j := fun j => (hF180 23 (by decide) j).trans (C166 j)
      have C255 : ∀ j : Nat, dt178 25 j = dt 25 j := fun j => (hF180 25 (by decide) j).trans (C167 j)
      have C256 : ∀ j : Nat, dt178 26 j = dt 26 j := fun j => (hF180 26 (by decide) j).trans (C168 j)
      have C257 : ∀ j : Nat, dt178 28 j = dt 28 j := fun j => (hF180 28 (by decide) j).trans (C169 j)
      have C258 : ∀ j : Nat, dt178 13 j = dt 13 j := fun j => (hF180 13 (by decide) j).trans (C170 j)
      have C259 : ∀ j : Nat, dt178 30 j = dt 30 j := fun j => (hF180 30 (by decide) j).trans (C171 j)
      have C260 : ∀ j : Nat, dt178 36 j = dt 36 j := fun j => (hF180 36 (by decide) j).trans (C172 j)
      have C261 : ∀ j : Nat, dt178 80 j = dt 80 j := fun j => (hF180 80 (by decide) j).trans (C173 j)
      have C262 : ∀ j : Nat, dt178 81 j = dt 81 j := fun j => (hF180 81 (by decide) j).trans (C174 j)
      have C263 : ∀ j : Nat, dt178 85 j = dt 85 j := fun j => (hF180 85 (by decide) j).trans (C175 j)
      refine go_toq PM267 (k := 2) (pc' := 1435) (L' := [some (.inr (.inr (some 3000))), some (.inr (.inr (some 0))), some (.inr (.inr (some 79))), some (.inl i)]) (st' := []) (w' := (SH, dt178)) rfl ?_
      exact K dt178 hI179 hM182 M2241 (w183.trans (hk0.trans w199.symm)) (w184.trans (hk1.trans w200.symm)) (w185.trans (hk2.trans w201.symm)) (w186.trans (hk3.trans w202.symm)) (w187.trans (hk4.trans w203.symm)) (w188.trans (hk5.trans w204.symm)) (w189.trans (hk6.trans w205.symm)) (w190.trans (hk7.trans w206.symm)) (w191.trans (hk8.trans w207.symm)) (w192.trans (hk9.trans w208.symm)) (w193.trans (hk10.trans w209.symm)) (w194.trans (hk11.trans w210.symm)) (w195.trans (hk12.trans w238.symm)) (w196.trans (hk13.trans w237.symm)) (w197.trans (hk14.trans w239.symm)) (w198.trans (hk15.trans w240.symm)) (by first | exact hI | exact TPL_k hd0 C260 C263 (by (first | omega | (have z0_ := unhid h2_0; have z1_ := unhid h177_0; omega))) | (exfalso; (first | omega | (have z0_ := unhid h2_0; have z1_ := unhid h177_0; omega)))) (by first | exact hI | exact SCL_k hd1 hM (fun j _ => C242 j) (fun j _ => C243 j) (fun j _ _ => C261 j) | (exfalso; (first | omega | (have z0_ := unhid h2_0; have z1_ := unhid h177_0; omega)))) (by first | exact hI | exact SCL_k hd2 hM2 (fun j _ => C250 j) (fun j _ => C251 j) (fun j _ _ => C262 j) | (exfalso; (first | omega | (have z0_ := unhid h2_0; have z1_ := unhid h177_0; omega)))) (by first | exact hI | exact QRL_k hd3 hM (fun j _ => C247 j) (C261 1) (fun j _ _ => C261 j) | (exfalso; (first | omega | (have z0_ := unhid h2_0; have z1_ := unhid h177_0; omega)))) (by first | exact hI | exact QRL_k hd4 hM2 (fun j _ => C255 j) (C262 1) (fun j _ _ => C262 j) | (exfalso; (first | omega | (have z0_ := unhid h2_0; have z1_ := unhid h177_0; omega)))) (by first | exact hI | exact SDL_k hd5 hM (fun j _ => C248 j) (C261 1) (fun j _ _ => C261 j) (fun j _ _ => C261 j) | (exfalso; (first | omega | (have z0_ := unhid h2_0; have z1_ := unhid h177_0; omega)))) (by first | exact hI | exact SDL_k hd6 hM2 (fun j _ => C256 j) (C262 1) (fun j _ _ => C262 j) (fun j _ _ => C262 j) | (exfalso; (first | omega | (have z0_ := unhid h2_0; have z1_ := unhid h177_0; omega)))) (by first | exact hI | exact LWL_k hd7 hM (fun j _ => C244 j) (fun j _ => C245 j) (fun j _ => C246 j) (fun j _ _ => C261 j) | (exfalso; (first | omega | (have z0_ := unhid h2_0; have z1_ := unhid h177_0; omega)))) (by first | exact hI | exact LWL_k hd8 hM2 (fun j _ => C252 j) (fun j _ => C253 j) (fun j _ => C254 j) (fun j _ _ => C262 j) | (exfalso; (first | omega | (have z0_ := unhid h2_0; have z1_ := unhid h177_0; omega)))) (by first | exact hI | exact CHL_k hd9 hM (fun j _ => C249 j) (by (first | omega | (have z0_ := unhid h2_0; have z1_ := unhid h177_0; omega))) (fun j _ _ => C261 j) | (exfalso; (first | omega | (have z0_ := unhid h2_0; have z1_ := unhid h177_0; omega)))) (by first | exact hI | exact CHL_k hd10 hM2 (fun j _ => C257 j) (by (first | omega | (have z0_ := unhid h2_0; have z1_ := unhid h177_0; omega))) (fun j _ _ => C262 j) | (exfalso; (first | omega | (have z0_ := unhid h2_0; have z1_ := unhid h177_0; omega)))) (by first | exact hI | exact ANL_k hd11 hM (fun j _ => C258 j) (by (first | omega | (have z0_ := unhid h2_0; have z1_ := unhid h177_0; omega))) (by (first | omega | (have z0_ := unhid h2_0; have z1_ := unhid h177_0; omega))) (by (first | omega | (have z0_ := unhid h2_0; have z1_ := unhid h177_0; omega))) (fun j _ _ => C261 j) | (exfalso; (first | omega | (have z0_ := unhid h2_0; have z1_ := unhid h177_0; omega)))) (by first | exact hI | exact ANL_k hd12 hM2 (fun j _ => C259 j) (by (first | omega | (have z0_ := unhid h2_0; have z1_ := unhid h177_0; omega))) (by (first | omega | (have z0_ := unhid h2_0; have z1_ := unhid h177_0; omega))) (by (first | omega | (have z0_ := unhid h2_0; have z1_ := unhid h177_0; omega))) (fun j _ _ => C262 j) | (exfalso; (first | omega | (have z0_ := unhid h2_0; have z1_ := unhid h177_0; omega))))
set_option maxRecDepth 20000 in
set_option maxHeartbeats 8000000 in
theorem sp_case3 (L : Nat) (xs : Nat → Int32) (sio : Option Nat) (d : Nat) (Q : Option AV → am_W → Prop) (hLL : L ≤ 3072) (i : Int) (hi : 0 ≤ i ∧ i ≤ 3066) (hil : i ≤ (L : Int) - 6) (dt : Nat → Nat → Int) (hI : InvC dt) (hM : MW (dt 80)) (hM2 : MW (dt 81)) (hk0 : dt 1 0 = dt 80 0) (hk1 : dt 7 3 = dt 80 1) (hk2 : dt 10 3 = dt 80 2) (hk3 : dt 12 3 = dt 80 3) (hk4 : dt 14 3 = dt 80 4) (hk5 : dt 16 3 = dt 80 5) (hk6 : dt 18 0 = dt 81 0) (hk7 : dt 24 3 = dt 81 1) (hk8 : dt 27 3 = dt 81 2) (hk9 : dt 29 3 = dt 81 3) (hk10 : dt 31 3 = dt 81 4) (hk11 : dt 33 3 = dt 81 5) (hk12 : dt 0 2 = dt 79 2) (hk13 : dt 35 1 = dt 79 12) (hk14 : dt 35 2 = dt 79 19) (hk15 : dt 35 3 = dt 79 21) (hd0 : TPL (dt 36) (dt 85) (dt 35 1)) (hd1 : SCL (dt 2) (dt 3) (dt 80)) (hd2 : SCL (dt 19) (dt 20) (dt 81)) (hd3 : QRL (dt 8) (dt 80)) (hd4 : QRL (dt 25) (dt 81)) (hd5 : SDL (dt 9) (dt 80)) (hd6 : SDL (dt 26) (dt 81)) (hd7 : LWL (dt 4) (dt 5) (dt 6) (dt 80)) (hd8 : LWL (dt 21) (dt 22) (dt 23) (dt 81)) (hd9 : CHL (dt 11) (dt 80)) (hd10 : CHL (dt 28) (dt 81)) (hd11 : ANL (dt 13) (dt 80)) (hd12 : ANL (dt 30) (dt 81)) (K : ∀ (dt : Nat → Nat → Int) (hI : InvC dt) (hM : MW (dt 80)) (hM2 : MW (dt 81)) (hk0 : dt 1 0 = dt 80 0) (hk1 : dt 7 3 = dt 80 1) (hk2 : dt 10 3 = dt 80 2) (hk3 : dt 12 3 = dt 80 3) (hk4 : dt 14 3 = dt 80 4) (hk5 : dt 16 3 = dt 80 5) (hk6 : dt 18 0 = dt 81 0) (hk7 : dt 24 3 = dt 81 1) (hk8 : dt 27 3 = dt 81 2) (hk9 : dt 29 3 = dt 81 3) (hk10 : dt 31 3 = dt 81 4) (hk11 : dt 33 3 = dt 81 5) (hk12 : dt 0 2 = dt 79 2) (hk13 : dt 35 1 = dt 79 12) (hk14 : dt 35 2 = dt 79 19) (hk15 : dt 35 3 = dt 79 21) (hd0 : TPL (dt 36) (dt 85) (dt 35 1)) (hd1 : SCL (dt 2) (dt 3) (dt 80)) (hd2 : SCL (dt 19) (dt 20) (dt 81)) (hd3 : QRL (dt 8) (dt 80)) (hd4 : QRL (dt 25) (dt 81)) (hd5 : SDL (dt 9) (dt 80)) (hd6 : SDL (dt 26) (dt 81)) (hd7 : LWL (dt 4) (dt 5) (dt 6) (dt 80)) (hd8 : LWL (dt 21) (dt 22) (dt 23) (dt 81)) (hd9 : CHL (dt 11) (dt 80)) (hd10 : CHL (dt 28) (dt 81)) (hd11 : ANL (dt 13) (dt 80)) (hd12 : ANL (dt 30) (dt 81)), GO (am_XX L xs sio) (d + 39) 267 1435 [some (.inr (.inr (some 3000))), some (.inr (.inr (some 0))), some (.inr (.inr (some 79))), some (.inl i)] [] (SH, dt) Q) : GO (am_XX L xs sio) (d + 39) 267 289 [some (.inr (.inr (some 3000))), some (.inr (.inr (some 0))), some (.inr (.inr (some 79))), some (.inl i)] [] (SH, dt) Q := by
  have hF : Fr [0, 1, 2, 3, 4, 5, 6, 7, 8, 9, 10, 11, 12, 13, 14, 15, 16, 17, 18, 19, 20, 21, 22, 23, 24, 25, 26, 27, 28, 29, 30, 31, 32, 33, 34, 35, 36, 37, 38, 39, 40, 41, 42, 43, 44, 45, 46, 47, 48, 49, 50, 51, 52, 53, 54, 55, 56, 57, 58, 59, 60, 61, 62, 63, 64, 65, 66, 67, 68, 69, 70, 71, 72, 73, 74, 75, 76, 77, 78, 79, 80, 81, 82, 83, 84, 85, 86, 87, 88, 89, 90, 91, 92, 93, 94, 95, 96, 97, 98, 99, 100, 101, 102, 103, 104] dt dt := Fr_refl
  have hqo := QOC_R hd3 hM hk1
  have hb1_ := hM.1.1
  have hb2_ := hM.1.2.1
  have hb3_ := hM.1.2.2.1
  have halk : ALK dt (dt 80) := ⟨hd7, hd3, hd5, hd9, hk1, hk2⟩
  have hav_ : ∀ i : Nat, (i : Int) < dt 12 3 → 0 ≤ dt 13 (6 * i + 1) ∧ dt 13 (6 * i + 1) < dt 7 3 := fun i hi => by have z := hd11 i (by omega); have y := z.2.2 1 (by decide); have w := z.2.1; omega
  have r1 : (-2147483648) ≤ dt 1 0 ∧ dt 1 0 ≤ 2147483647 := InvC_get hI 1 0 rfl rfl
  have r2 : 0 ≤ dt 7 3 ∧ dt 7 3 ≤ 12 := InvC_get hI 7 3 rfl rfl
  have r3 : 0 ≤ dt 10 3 ∧ dt 10 3 ≤ 40 := InvC_get hI 10 3 rfl rfl
  have r4 : 0 ≤ dt 12 3 ∧ dt 12 3 ≤ 300 := InvC_get hI 12 3 rfl rfl
  have r5 : 0 ≤ dt 14 3 ∧ dt 14 3 ≤ 40 := InvC_get hI 14 3 rfl rfl
  have r6 : 0 ≤ dt 16 3 ∧ dt 16 3 ≤ 20 := InvC_get hI 16 3 rfl rfl
  have r7 : (-2147483648) ≤ dt 18 0 ∧ dt 18 0 ≤ 2147483647 := InvC_get hI 18 0 rfl rfl
  have r8 : 0 ≤ dt 24 3 ∧ dt 24 3 ≤ 12 := InvC_get hI 24 3 rfl rfl
  have r9 : 0 ≤ dt 27 3 ∧ dt 27 3 ≤ 40 := InvC_get hI 27 3 rfl rfl
  have r10 : 0 ≤ dt 29 3 ∧ dt 29 3 ≤ 300 := InvC_get hI 29 3 rfl rfl
  have r11 : 0 ≤ dt 31 3 ∧ dt 31 3 ≤ 40 := InvC_get hI 31 3 rfl rfl
  have r12 : 0 ≤ dt 33 3 ∧ dt 33 3 ≤ 20 := InvC_get hI 33 3 rfl rfl
  have r13 : 0 ≤ dt 0 2 ∧ dt 0 2 ≤ 1 := InvC_get hI 0 2 rfl rfl
  have r14 : 0 ≤ dt 35 1 ∧ dt 35 1 ≤ 500 := InvC_get hI 35 1 rfl rfl
  have r15 : (-2147483648) ≤ dt 35 2 ∧ dt 35 2 ≤ 2147483647 := InvC_get hI 35 2 rfl rfl
  have r16 : (-2147483648) ≤ dt 35 3 ∧ dt 35 3 ≤ 2147483647 := InvC_get hI 35 3 rfl rfl
  have r17 : (-2147483648) ≤ dt 80 0 ∧ dt 80 0 ≤ 2147483647 := InvC_get hI 80 0 rfl rfl
  have r18 : (-2147483648) ≤ dt 80 1 ∧ dt 80 1 ≤ 2147483647 := InvC_get hI 80 1 rfl rfl
  have r19 := MW_n hM
  have r20 : (-2147483648) ≤ dt 80 2 ∧ dt 80 2 ≤ 2147483647 := InvC_get hI 80 2 rfl rfl
  have r21 : (-2147483648) ≤ dt 80 3 ∧ dt 80 3 ≤ 2147483647 := InvC_get hI 80 3 rfl rfl
  have r22 : (-2147483648) ≤ dt 80 4 ∧ dt 80 4 ≤ 2147483647 := InvC_get hI 80 4 rfl rfl
  have r23 : (-2147483648) ≤ dt 80 5 ∧ dt 80 5 ≤ 2147483647 := InvC_get hI 80 5 rfl rfl
  have r24 : (-2147483648) ≤ dt 81 0 ∧ dt 81 0 ≤ 2147483647 := InvC_get hI 81 0 rfl rfl
  have r25 : (-2147483648) ≤ dt 81 1 ∧ dt 81 1 ≤ 2147483647 := InvC_get hI 81 1 rfl rfl
  have r26 : (-2147483648) ≤ dt 81 2 ∧ dt 81 2 ≤ 2147483647 := InvC_get hI 81 2 rfl rfl
  have r27 : (-2147483648) ≤ dt 81 3 ∧ dt 81 3 ≤ 2147483647 := InvC_get hI 81 3 rfl rfl
  have r28 : (-2147483648) ≤ dt 81 4 ∧ dt 81 4 ≤ 2147483647 := InvC_get hI 81 4 rfl rfl
  have r29 : (-2147483648) ≤ dt 81 5 ∧ dt 81 5 ≤ 2147483647 := InvC_get hI 81 5 rfl rfl
  have r30 : 0 ≤ dt 79 2 ∧ dt 79 2 ≤ 1 := InvC_get hI 79 2 rfl rfl
  have r31 : 0 ≤ dt 79 12 ∧ dt 79 12 ≤ 500 := InvC_get hI 79 12 rfl rfl
  have r32 : (-2147483648) ≤ dt 79 19 ∧ dt 79 19 ≤ 2147483647 := InvC_get hI 79 19 rfl rfl
  have r33 : (-2147483648) ≤ dt 79 21 ∧ dt 79 21 ≤ 2147483647 := InvC_get hI 79 21 rfl rfl
  refine go_toq PM267 (k := 5) (pc' := 294) (L' := [some (.inr (.inr (some 3000))), some (.inr (.inr (some 0))), some (.inr (.inr (some 79))), some (.inl i)]) (st' := [.inl (i + 1), .inr (.inr (some 3000)), .inr (.inr (some 0))]) (w' := (SH, dt)) rfl ?_
  have r34 := i32_R (xs ((i + 1).toNat))
  refine go_smpq PM267 (L' := [some (.inr (.inr (some 3000))), some (.inr (.inr (some 0))), some (.inr (.inr (some 79))), some (.inl i)]) (st' := [.inl ((xs ((i + 1).toNat)).toInt), .inr (.inr (some 0))]) (w' := (SH, dt)) rfl rfl (s_iald (n := L) (f := fun j => (xs j).toInt) (am_scr hLL) ⟨by omega, by omega⟩) ?_
  refine go_toq PM267 (k := 4) (pc' := 299) (L' := [some (.inr (.inr (some 3000))), some (.inr (.inr (some 0))), some (.inr (.inr (some 79))), some (.inl i)]) (st' := [.inl (i + 2), .inr (.inr (some 3000)), .inl ((xs ((i + 1).toNat)).toInt), .inr (.inr (some 0))]) (w' := (SH, dt)) rfl ?_
  have r35 := i32_R (xs ((i + 2).toNat))
  refine go_smpq PM267 (L' := [some (.inr (.inr (some 3000))), some (.inr (.inr (some 0))), some (.inr (.inr (some 79))), some (.inl i)]) (st' := [.inl ((xs ((i + 2).toNat)).toInt), .inl ((xs ((i + 1).toNat)).toInt), .inr (.inr (some 0))]) (w' := (SH, dt)) rfl rfl (s_iald (n := L) (f := fun j => (xs j).toInt) (am_scr hLL) ⟨by omega, by omega⟩) ?_
  refine go_callq PM267 PM70 (Q' := _) rfl rfl rfl rfl (sp_X5_text_h L xs sio (d + 15) dt hI hM  ((xs ((i + 1).toNat)).toInt) ⟨by omega, by omega⟩ ((xs ((i + 2).toNat)).toInt) ⟨by omega, by omega⟩ (by first | exact True.intro | with_reducible assumption | rfl | omega | trivial | exact hM2 | exact hd1 | exact hqo | exact halk | exact hav_) (by first | exact True.intro | with_reducible assumption | rfl | omega | trivial | exact hM2 | exact hd1 | exact hqo | exact halk | exact hav_)) ?_
  rintro _ _ ⟨dt37, rfl, hI38, hF39, h36⟩
  refine ⟨rfl, ?_⟩
  have hF40 : Fr [0, 1, 2, 3, 4, 5, 6, 7, 8, 9, 10, 11, 12, 13, 14, 15, 16, 17, 18, 19, 20, 21, 22, 23, 24, 25, 26, 27, 28, 29, 30, 31, 32, 33, 34, 35, 36, 37, 38, 39, 40, 41, 42, 43, 44, 45, 46, 47, 48, 49, 50, 51, 52, 53, 54, 55, 56, 57, 58, 59, 60, 61, 62, 63, 64, 65, 66, 67, 68, 69, 70, 71, 72, 73, 74, 75, 76, 77, 78, 79, 80, 81, 82, 83, 84, 85, 86, 87, 88, 89, 90, 91, 92, 93, 94, 95, 96, 97, 98, 99, 100, 101, 102, 103, 104] dt dt37 := Fr_tr hF hF39 (by decide)
  have hM41 : MW (dt37 80) := MW_fr hM hF39 (by decide)
  have w42 : dt37 1 0 = dt 1 0 := hF39 1 (by decide) 0
  have w43 : dt37 7 3 = dt 7 3 := hF39 7 (by decide) 3
  have w44 : dt37 10 3 = dt 10 3 := hF39 10 (by decide) 3
  have w45 : dt37 12 3 = dt 12 3 := hF39 12 (by decide) 3
  have w46 : dt37 14 3 = dt 14 3 := hF39 14 (by decide) 3
  have w47 : dt37 16 3 = dt 16 3 := hF39 16 (by decide) 3
  have w48 : dt37 18 0 = dt 18 0 := hF39 18 (by decide) 0
  have w49 : dt37 24 3 = dt 24 3 := hF39 24 (by decide) 3
  have w50 : dt37 27 3 = dt 27 3 := hF39 27 (by decide) 3
  have w51 : dt37 29 3 = dt 29 3 := hF39 29 (by decide) 3
  have w52 : dt37 31 3 = dt 31 3 := hF39 31 (by decide) 3
  have w53 : dt37 33 3 = dt 33 3 := hF39 33 (by decide) 3
  have w54 : dt37 0 2 = dt 0 2 := hF39 0 (by decide) 2
  have w55 : dt37 80 0 = dt 80 0 := hF39 80 (by decide) 0
  have w56 : dt37 80 1 = dt 80 1 := hF39 80 (by decide) 1
  have w57 : dt37 80 2 = dt 80 2 := hF39 80 (by decide) 2
  have w58 : dt37 80 3 = dt 80 3 := hF39 80 (by decide) 3
  have w59 : dt37 80 4 = dt 80 4 := hF39 80 (by decide) 4
  have w60 : dt37 80 5 = dt 80 5 := hF39 80 (by decide) 5
  have w61 : dt37 81 0 = dt 81 0 := hF39 81 (by decide) 0
  have w62 : dt37 81 1 = dt 81 1 := hF39 81 (by decide) 1
  have w63 : dt37 81 2 = dt 81 2 := hF39 81 (by decide) 2
  have w64 : dt37 81 3 = dt 81 3 := hF39 81 (by decide) 3
  have w65 : dt37 81 4 = dt 81 4 := hF39 81 (by decide) 4
  have w66 : dt37 81 5 = dt 81 5 := hF39 81 (by decide) 5
  have w67 : dt37 79 2 = dt 79 2 := hF39 79 (by decide) 2
  have w68 : dt37 79 12 = dt 79 12 := hF39 79 (by decide) 12
  have w69 : dt37 79 19 = dt 79 19 := hF39 79 (by decide) 19
  have w70 : dt37 79 21 = dt 79 21 := hF39 79 (by decide) 21
  rcases h36 with ⟨v_h36, rfl, h36r, h36⟩
  obtain ⟨h36_0, h36_1, h36_2, h36_3, h36_4, h36_5, h36_6⟩ := h36
  have w71 : dt37 7 3 = dt 7 3 := h36_4
  have M272 : MW (dt37 81) := MW_frk hM2 hF39 (by decide)
  have C73 : ∀ j : Nat, dt37 8 j = dt 8 j := fun j => (hF39 8 (by decide) j).trans ((fun _ => rfl) j)
  have C74 : ∀ j : Nat, dt37 11 j = dt 11 j := fun j => (hF39 11 (by decide) j).trans ((fun _ => rfl) j)
  have C75 : ∀ j : Nat, dt37 19 j = dt 19 j := fun j => (hF39 19 (by decide) j).trans ((fun _ => rfl) j)
  have C76 : ∀ j : Nat, dt37 20 j = dt 20 j := fun j => (hF39 20 (by decide) j).trans ((fun _ => rfl) j)
  have C77 : ∀ j : Nat, dt37 21 j = dt 21 j := fun j => (hF39 21 (by decide) j).trans ((fun _ => rfl) j)
  have C78 : ∀ j : Nat, dt37 22 j = dt 22 j := fun j => (hF39 22 (by decide) j).trans ((fun _ => rfl) j)
  have C79 : ∀ j : Nat, dt37 23 j = dt 23 j := fun j => (hF39 23 (by decide) j).trans ((fun _ => rfl) j)
  have C80 : ∀ j : Nat, dt37 25 j = dt 25 j := fun j => (hF39 25 (by decide) j).trans ((fun _ => rfl) j)
  have C81 : ∀ j : Nat, dt37 26 j = dt 26 j := fun j => (hF39 26 (by decide) j).trans ((fun _ => rfl) j)
  have C82 : ∀ j : Nat, dt37 28 j = dt 28 j := fun j => (hF39 28 (by decide) j).trans ((fun _ => rfl) j)
  have C83 : ∀ j : Nat, dt37 13 j = dt 13 j := fun j => (hF39 13 (by decide) j).trans ((fun _ => rfl) j)
  have C84 : ∀ j : Nat, dt37 30 j = dt 30 j := fun j => (hF39 30 (by decide) j).trans ((fun _ => rfl) j)
  have C85 : ∀ j : Nat, dt37 36 j = dt 36 j := fun j => (hF39 36 (by decide) j).trans ((fun _ => rfl) j)
  have C86 : ∀ j : Nat, dt37 80 j = dt 80 j := fun j => (hF39 80 (by decide) j).trans ((fun _ => rfl) j)
  have C87 : ∀ j : Nat, dt37 81 j = dt 81 j := fun j => (hF39 81 (by decide) j).trans ((fun _ => rfl) j)
  have C88 : ∀ j : Nat, dt37 85 j = dt 85 j := fun j => (hF39 85 (by decide) j).trans ((fun _ => rfl) j)
  refine go_toq PM267 (k := 6) (pc' := 309) (L' := [some (.inr (.inr (some 3000))), some (.inr (.inr (some 0))), some (.inr (.inr (some 79))), some (.inl i)]) (st' := [.inl (i + 1), .inr (.inr (some 3000)), .inr (.inr (some 79))]) (w' := (SH, dt37)) rfl ?_
  have r89 := i32_R (xs ((i + 1).toNat))
  refine go_smpq PM267 (L' := [some (.inr (.inr (some 3000))), some (.inr (.inr (some 0))), some (.inr (.inr (some 79))), some (.inl i)]) (st' := [.inl ((xs ((i + 1).toNat)).toInt), .inr (.inr (some 79))]) (w' := (SH, dt37)) rfl rfl (s_iald (n := L) (f := fun j => (xs j).toInt) (am_scr hLL) ⟨by omega, by omega⟩) ?_
  refine go_toq PM267 (k := 4) (pc' := 314) (L' := [some (.inr (.inr (some 3000))), some (.inr (.inr (some 0))), some (.inr (.inr (some 79))), some (.inl i)]) (st' := [.inl (i + 2), .inr (.inr (some 3000)), .inl ((xs ((i + 1).toNat)).toInt), .inr (.inr (some 79))]) (w' := (SH, dt37)) rfl ?_
  have r90 := i32_R (xs ((i + 2).toNat))
  refine go_smpq PM267 (L' := [some (.inr (.inr (some 3000))), some (.inr (.inr (some 0))), some (.inr (.inr (some 79))), some (.inl i)]) (st' := [.inl ((xs ((i + 2).toNat)).toInt), .inl ((xs ((i + 1).toNat)).toInt), .inr (.inr (some 79))]) (w' := (SH, dt37)) rfl rfl (s_iald (n := L) (f := fun j => (xs j).toInt) (am_scr hLL) ⟨by omega, by omega⟩) ?_
  refine go_callq PM267 PM174 (Q' := _) rfl rfl rfl rfl (sp_X6_text_qg L xs sio (d + 0) dt37 hI38 hM41  ((xs ((i + 1).toNat)).toInt) ⟨by omega, by omega⟩ ((xs ((i + 2).toNat)).toInt) ⟨by omega, by omega⟩ ) ?_
  rintro _ _ ⟨dt92, rfl, hI93, hF94, h91⟩
  refine ⟨rfl, ?_⟩
  have hF95 : Fr [0, 1, 2, 3, 4, 5, 6, 7, 8, 9, 10, 11, 12, 13, 14, 15, 16, 17, 18, 19, 20, 21, 22, 23, 24, 25, 26, 27, 28, 29, 30, 31, 32, 33, 34, 35, 36, 37, 38, 39, 40, 41, 42, 43, 44, 45, 46, 47, 48, 49, 50, 51, 52, 53, 54, 55, 56, 57, 58, 59, 60, 61, 62, 63, 64, 65, 66, 67, 68, 69, 70, 71, 72, 73, 74, 75, 76, 77, 78, 79, 80, 81, 82, 83, 84, 85, 86, 87, 88, 89, 90, 91, 92, 93, 94, 95, 96, 97, 98, 99, 100, 101, 102, 103, 104] dt dt92 := Fr_tr hF40 hF94 (by decide)
  have w96 : dt92 1 0 = dt 1 0 := (hF94 1 (by decide) 0).trans w42
  have w97 : dt92 7 3 = dt 7 3 := (hF94 7 (by decide) 3).trans w71
  have w98 : dt92 10 3 = dt 10 3 := (hF94 10 (by decide) 3).trans w44
  have w99 : dt92 12 3 = dt 12 3 := (hF94 12 (by decide) 3).trans w45
  have w100 : dt92 14 3 = dt 14 3 := (hF94 14 (by decide) 3).trans w46
  have w101 : dt92 16 3 = dt 16 3 := (hF94 16 (by decide) 3).trans w47
  have w102 : dt92 18 0 = dt 18 0 := (hF94 18 (by decide) 0).trans w48
  have w103 : dt92 24 3 = dt 24 3 := (hF94 24 (by decide) 3).trans w49
  have w104 : dt92 27 3 = dt 27 3 := (hF94 27 (by decide) 3).trans w50
  have w105 : dt92 29 3 = dt 29 3 := (hF94 29 (by decide) 3).trans w51
  have w106 : dt92 31 3 = dt 31 3 := (hF94 31 (by decide) 3).trans w52
  have w107 : dt92 33 3 = dt 33 3 := (hF94 33 (by decide) 3).trans w53
  have w108 : dt92 0 2 = dt 0 2 := (hF94 0 (by decide) 2).trans w54
  have w109 : dt92 35 1 = dt37 35 1 := hF94 35 (by decide) 1
  have w110 : dt92 35 2 = dt37 35 2 := hF94 35 (by decide) 2
  have w111 : dt92 35 3 = dt37 35 3 := hF94 35 (by decide) 3
  have w112 : dt92 81 0 = dt 81 0 := (hF94 81 (by decide) 0).trans w61
  have w113 : dt92 81 1 = dt 81 1 := (hF94 81 (by decide) 1).trans w62
  have w114 : dt92 81 2 = dt 81 2 := (hF94 81 (by decide) 2).trans w63
  have w115 : dt92 81 3 = dt 81 3 := (hF94 81 (by decide) 3).trans w64
  have w116 : dt92 81 4 = dt 81 4 := (hF94 81 (by decide) 4).trans w65
  have w117 : dt92 81 5 = dt 81 5 := (hF94 81 (by decide) 5).trans w66
  rcases h91 with ⟨v_h91, rfl, h91r, h91⟩
  have hM118 : MW (dt92 80) := h91.2.2.1
  obtain ⟨h91_0, h91_1, h91_2, h91_3, h91_4, h91_5, h91_6, h91_7, h91_8, h91_9, h91_10, h91_11, h91_12, h91_13, h91_14⟩ := h91
  have w119 : dt92 79 2 = dt 79 2 := h91_1.trans w67
  have w120 : dt92 80 0 = dt 80 0 := h91_3.trans w55
  have w121 : dt92 80 1 = dt 80 1 := h91_4.trans w56
  have w122 : dt92 80 2 = dt 80 2 := h91_5.trans w57
  have w123 : dt92 80 3 = dt 80 3 := h91_6.trans w58
  have w124 : dt92 80 4 = dt 80 4 := h91_7.trans w59
  have w125 : dt92 80 5 = dt 80 5 := h91_8.trans w60
  have w126 : dt92 79 2 = dt 79 2 := h91_11.trans w67
  have M2127 : MW (dt92 81) := MW_frk M272 hF94 (by decide)
  have C128 : ∀ j : Nat, dt92 8 j = dt 8 j := fun j => (hF94 8 (by decide) j).trans (C73 j)
  have C129 : ∀ j : Nat, dt92 11 j = dt 11 j := fun j => (hF94 11 (by decide) j).trans (C74 j)
  have C130 : ∀ j : Nat, dt92 19 j = dt 19 j := fun j => (hF94 19 (by decide) j).trans (C75 j)
  have C131 : ∀ j : Nat, dt92 20 j = dt 20 j := fun j => (hF94 20 (by decide) j).trans (C76 j)
  have C132 : ∀ j : Nat, dt92 21 j = dt 21 j := fun j => (hF94 21 (by decide) j).trans (C77 j)
  have C133 : ∀ j : Nat, dt92 22 j = dt 22 j := fun j => (hF94 22 (by decide) j).trans (C78 j)
  have C134 : ∀ j : Nat, dt92 23 j = dt 23 j := fun j => (hF94 23 (by decide) j).trans (C79 j)
  have C135 : ∀ j : Nat, dt92 25 j = dt 25 j := fun j => (hF94 25 (by decide) j).trans (C80 j)
  have C136 : ∀ j : Nat, dt92 26 j = dt 26 j := fun j => (hF94 26 (by decide) j).trans (C81 j)
  have C137 : ∀ j : Nat, dt92 28 j = dt 28 j := fun j => (hF94 28 (by decide) j).trans (C82 j)
  have C138 : ∀ j : Nat, dt92 13 j = dt 13 j := fun j => (hF94 13 (by decide) j).trans (C83 j)
  have C139 : ∀ j : Nat, dt92 30 j = dt 30 j := fun j => (hF94 30 (by decide) j).trans (C84 j)
  have C140 : ∀ j : Nat, dt92 36 j = dt 36 j := fun j => (hF94 36 (by decide) j).trans (C85 j)
  have C141 : ∀ j : Nat, dt92 81 j = dt 81 j := fun j => (hF94 81 (by decide) j).trans (C87 j)
  have C142 : ∀ j : Nat, dt92 85 j = dt 85 j := fun j => (hF94 85 (by decide) j).trans (C88 j)
  have ts143 : _ := TSA_k h36_2 (hF94 2 (by decide)) (hF94 3 (by decide))
  have tl144 : _ := TLC_k h36_3 (hF94 4 (by decide)) (hF94 5 (by decide)) (hF94 6 (by decide))
  have z145 := h91_12
  rw [show dt37 85 = dt 85 from funext C88, show dt37 79 12 = dt 79 12 by first | with_reducible assumption | omega, ← mB_con (g := fun j => am_and (dt 36 j) 255) (g' := dt 85) hd0 (show dt 79 12 = dt 35 1 by omega), show dt 79 12 = dt 35 1 by first | with_reducible assumption | omega] at z145
  have y146 := TRS_u h36_1 z145
  have z147 := h91_13
  rw [show dt37 85 = dt 85 from funext C88, show dt37 79 12 = dt 79 12 by first | with_reducible assumption | omega, ← mB_con (g := fun j => am_and (dt 36 j) 255) (g' := dt 85) hd0 (show dt 79 12 = dt 35 1 by omega), show dt 79 12 = dt 35 1 by first | with_reducible assumption | omega, show dt37 80 = dt 80 from funext C86] at z147
  have z148 := h91_14
  rw [show dt37 85 = dt 85 from funext C88, show dt37 79 12 = dt 79 12 by first | with_reducible assumption | omega, ← mB_con (g := fun j => am_and (dt 36 j) 255) (g' := dt 85) hd0 (show dt 79 12 = dt 35 1 by omega), show dt 79 12 = dt 35 1 by first | with_reducible assumption | omega, show dt37 80 = dt 80 from funext C86] at z148
  have S149 : SCL (dt92 2) (dt92 3) (dt92 80) := SCL_t hd1 hM ts143 z147 (by omega) (by omega)
  have S150 : LWL (dt92 4) (dt92 5) (dt92 6) (dt92 80) := LWL_t hd7 hM tl144 z148 (by omega) (by omega) (KF_z TP_n) (by omega) (fun i_ hi_ => (VL_R hi_).1) (TRS_1 h36_1)
  have F151 : dt92 80 1 = dt 80 1 := (h91_9 1 (.inl rfl)).trans (C86 1)
  have F152 : ∀ j : Nat, 5320 ≤ j → j < 5380 → dt92 80 j = dt 80 j := fun j h1_ _ => (h91_9 j (.inr h1_)).trans (C86 j)
  have F153 : ∀ j : Nat, 5380 ≤ j → j < 5540 → dt92 80 j = dt 80 j := fun j h1_ _ => (h91_9 j (.inr (by omega))).trans (C86 j)
  have S154 : SDL (dt92 9) (dt92 80) := by by_cases z_ : (((xs ((i + 1).toNat)).toInt) = 0 ∧ (0 ≤ ((xs ((i + 2).toNat)).toInt) ∧ ((xs ((i + 2).toNat)).toInt) ≤ 7) ∧ dt37 35 2 = 0); (obtain ⟨F_, _, hSF_, hSA_⟩ := h36_6.1 z_; obtain ⟨_, y2_, _⟩ := z147.1 ⟨z_.1, z_.2.1, by omega⟩; rw [show dt37 2 = dt92 2 from (funext (hF94 2 (by decide))).symm, show dt37 3 = dt92 3 from (funext (hF94 3 (by decide))).symm] at hSF_; rw [show dt92 9 = dt37 9 from funext (hF94 9 (by decide))]; exact SDL_t (A2' := dt 0) (A3' := dt 0) hd5 hd3 hM hSA_ hSF_ S149 z_.2.1 hk1 F151 (fun j _ b_ c_ d_ => y2_ j b_ c_ d_) F152); exact SDL_k hd5 hM (fun j _ => (hF94 9 (by decide) j).trans (h36_6.2 z_ j)) F151 (fun j _ b_ => z147.2 (fun w_ => z_ ⟨w_.1, w_.2.1, by omega⟩) j b_) F152
  have F155 : ∀ j : Nat, 5540 ≤ j → j < 7340 → dt92 80 j = dt 80 j := fun j h1_ _ => (h91_9 j (.inr (by omega))).trans (C86 j)
  refine go_toq PM267 (k := 2) (pc' := 1435) (L' := [some (.inr (.inr (some 3000))), some (.inr (.inr (some 0))), some (.inr (.inr (some 79))), some (.inl i)]) (st' := []) (w' := (SH, dt92)) rfl ?_
  exact K dt92 hI93 hM118 M2127 (w96.trans (hk0.trans w120.symm)) (w97.trans (hk1.trans w121.symm)) (w98.trans (hk2.trans w122.symm)) (w99.trans (hk3.trans w123.symm)) (w100.trans (hk4.trans w124.symm)) (w101.trans (hk5.trans w125.symm)) (w102.trans (hk6.trans w112.symm)) (w103.trans (hk7.trans w113.symm)) (w104.trans (hk8.trans w114.symm)) (w105.trans (hk9.trans w115.symm)) (w106.trans (hk10.trans w116.symm)) (w107.trans (hk11.trans w117.symm)) (w108.trans (hk12.trans w126.symm)) (by omega) (by omega) (by omega) (by first | exact hI | exact TPL_k hd0 C140 C142 (by omega) | (exfalso; omega)) (by first | exact S149 | exact SCL_k hd1 hM hI hI hI | (exfalso; omega)) (by first | exact hI | exact SCL_k hd2 hM2 (fun j _ => C130 j) (fun j _ => C131 j) (fun j _ _ => C141 j) | (exfalso; omega)) (by first | exact hI | exact QRL_k hd3 hM (fun j _ => C128 j) F151 F152 | (exfalso; omega)) (by first | exact hI | exact QRL_k hd4 hM2 (fun j _ => C135 j) (C141 1) (fun j _ _ => C141 j) | (exfalso; omega)) (by first | exact S154 | exact SDL_k hd5 hM hI F151 hI F152 | (exfalso; omega)) (by first | exact hI | exact SDL_k hd6 hM2 (fun j _ => C136 j) (C141 1) (fun j _ _ => C141 j) (fun j _ _ => C141 j) | (exfalso; omega)) (by first | exact S150 | exact LWL_k hd7 hM hI hI hI hI | (exfalso; omega)) (by first | exact hI | exact LWL_k hd8 hM2 (fun j _ => C132 j) (fun j _ => C133 j) (fun j _ => C134 j) (fun j _ _ => C141 j) | (exfalso; omega)) (by first | exact hI | exact CHL_k hd9 hM (fun j _ => C129 j) (by omega) F153 | (exfalso; omega)) (by first | exact hI | exact CHL_k hd10 hM2 (fun j _ => C137 j) (by omega) (fun j _ _ => C141 j) | (exfalso; omega)) (by first | exact hI | exact ANL_k hd11 hM (fun j _ => C138 j) (by omega) (by omega) (by omega) F155 | (exfalso; omega)) (by first | exact hI | exact ANL_k hd12 hM2 (fun j _ => C139 j) (by omega) (by omega) (by omega) (fun j _ _ => C141 j) | (exfalso; omega))
set_option maxRecDepth 20000 in
set_option maxHeartbeats 8000000 in
theorem sp_case4 (L : Nat) (xs : Nat → Int32) (sio : Option Nat) (d : Nat) (Q : Option AV → am_W → Prop) (hLL : L ≤ 3072) (i : Int) (hi : 0 ≤ i ∧ i ≤ 3066) (hil : i ≤ (L : Int) - 6) (dt : Nat → Nat → Int) (hI : InvC dt) (hM : MW (dt 80)) (hM2 : MW (dt 81)) (hk0 : dt 1 0 = dt 80 0) (hk1 : dt 7 3 = dt 80 1) (hk2 : dt 10 3 = dt 80 2) (hk3 : dt 12 3 = dt 80 3) (hk4 : dt 14 3 = dt 80 4) (hk5 : dt 16 3 = dt 80 5) (hk6 : dt 18 0 = dt 81 0) (hk7 : dt 24 3 = dt 81 1) (hk8 : dt 27 3 = dt 81 2) (hk9 : dt 29 3 = dt 81 3) (hk10 : dt 31 3 = dt 81 4) (hk11 : dt 33 3 = dt 81 5) (hk12 : dt 0 2 = dt 79 2) (hk13 : dt 35 1 = dt 79 12) (hk14 : dt 35 2 = dt 79 19) (hk15 : dt 35 3 = dt 79 21) (hd0 : TPL (dt 36) (dt 85) (dt 35 1)) (hd1 : SCL (dt 2) (dt 3) (dt 80)) (hd2 : SCL (dt 19) (dt 20) (dt 81)) (hd3 : QRL (dt 8) (dt 80)) (hd4 : QRL (dt 25) (dt 81)) (hd5 : SDL (dt 9) (dt 80)) (hd6 : SDL (dt 26) (dt 81)) (hd7 : LWL (dt 4) (dt 5) (dt 6) (dt 80)) (hd8 : LWL (dt 21) (dt 22) (dt 23) (dt 81)) (hd9 : CHL (dt 11) (dt 80)) (hd10 : CHL (dt 28) (dt 81)) (hd11 : ANL (dt 13) (dt 80)) (hd12 : ANL (dt 30) (dt 81)) (K : ∀ (dt : Nat → Nat → Int) (hI : InvC dt) (hM : MW (dt 80)) (hM2 : MW (dt 81)) (hk0 : dt 1 0 = dt 80 0) (hk1 : dt 7 3 = dt 80 1) (hk2 : dt 10 3 = dt 80 2) (hk3 : dt 12 3 = dt 80 3) (hk4 : dt 14 3 = dt 80 4) (hk5 : dt 16 3 = dt 80 5) (hk6 : dt 18 0 = dt 81 0) (hk7 : dt 24 3 = dt 81 1) (hk8 : dt 27 3 = dt 81 2) (hk9 : dt 29 3 = dt 81 3) (hk10 : dt 31 3 = dt 81 4) (hk11 : dt 33 3 = dt 81 5) (hk12 : dt 0 2 = dt 79 2) (hk13 : dt 35 1 = dt 79 12) (hk14 : dt 35 2 = dt 79 19) (hk15 : dt 35 3 = dt 79 21) (hd0 : TPL (dt 36) (dt 85) (dt 35 1)) (hd1 : SCL (dt 2) (dt 3) (dt 80)) (hd2 : SCL (dt 19) (dt 20) (dt 81)) (hd3 : QRL (dt 8) (dt 80)) (hd4 : QRL (dt 25) (dt 81)) (hd5 : SDL (dt 9) (dt 80)) (hd6 : SDL (dt 26) (dt 81)) (hd7 : LWL (dt 4) (dt 5) (dt 6) (dt 80)) (hd8 : LWL (dt 21) (dt 22) (dt 23) (dt 81)) (hd9 : CHL (dt 11) (dt 80)) (hd10 : CHL (dt 28) (dt 81)) (hd11 : ANL (dt 13) (dt 80)) (hd12 : ANL (dt 30) (dt 81)), GO (am_XX L xs sio) (d + 39) 267 1435 [some (.inr (.inr (some 3000))), some (.inr (.inr (some 0))), some (.inr (.inr (some 79))), some (.inl i)] [] (SH, dt) Q) : GO (am_XX L xs sio) (d + 39) 267 322 [some (.inr (.inr (some 3000))), some (.inr (.inr (some 0))), some (.inr (.inr (some 79))), some (.inl i)] [] (SH, dt) Q := by
  have hF : Fr [0, 1, 2, 3, 4, 5, 6, 7, 8, 9, 10, 11, 12, 13, 14, 15, 16, 17, 18, 19, 20, 21, 22, 23, 24, 25, 26, 27, 28, 29, 30, 31, 32, 33, 34, 35, 36, 37, 38, 39, 40, 41, 42, 43, 44, 45, 46, 47, 48, 49, 50, 51, 52, 53, 54, 55, 56, 57, 58, 59, 60, 61, 62, 63, 64, 65, 66, 67, 68, 69, 70, 71, 72, 73, 74, 75, 76, 77, 78, 79, 80, 81, 82, 83, 84, 85, 86, 87, 88, 89, 90, 91, 92, 93, 94, 95, 96, 97, 98, 99, 100, 101, 102, 103, 104] dt dt := Fr_refl
  have hqo := QOC_R hd3 hM hk1
  have hb1_ := hM.1.1
  have hb2_ := hM.1.2.1
  have hb3_ := hM.1.2.2.1
  have halk : ALK dt (dt 80) := ⟨hd7, hd3, hd5, hd9, hk1, hk2⟩
  have hav_ : ∀ i : Nat, (i : Int) < dt 12 3 → 0 ≤ dt 13 (6 * i + 1) ∧ dt 13 (6 * i + 1) < dt 7 3 := fun i hi => by have z := hd11 i (by omega); have y := z.2.2 1 (by decide); have w := z.2.1; omega
  refine go_toq PM267 (k := 5) (pc' := 327) (L' := [some (.inr (.inr (some 3000))), some (.inr (.inr (some 0))), some (.inr (.inr (some 79))), some (.inl i)]) (st' := [.inl (i + 1), .inr (.inr (some 3000)), .inr (.inr (some 0))]) (w' := (SH, dt)) rfl ?_
  have r1 := i32_R (xs ((i + 1).toNat))
  refine go_smpq PM267 (L' := [some (.inr (.inr (some 3000))), some (.inr (.inr (some 0))), some (.inr (.inr (some 79))), some (.inl i)]) (st' := [.inl ((xs ((i + 1).toNat)).toInt), .inr (.inr (some 0))]) (w' := (SH, dt)) rfl rfl (s_iald (n := L) (f := fun j => (xs j).toInt) (am_scr hLL) ⟨by omega, by omega⟩) ?_
  refine go_callq PM267 PM71 (Q' := _) rfl rfl rfl rfl (sp_X5_fault_f L xs sio (d + 38) dt hI  ((xs ((i + 1).toNat)).toInt) ⟨by omega, by omega⟩ ) ?_
  rintro _ _ ⟨rfl, h2⟩
  refine ⟨rfl, ?_⟩
  rcases h2 with ⟨v_h2, rfl, h2r, h2⟩
  refine go_toq PM267 (k := 6) (pc' := 337) (L' := [some (.inr (.inr (some 3000))), some (.inr (.inr (some 0))), some (.inr (.inr (some 79))), some (.inl i)]) (st' := [.inl (i + 1), .inr (.inr (some 3000)), .inr (.inr (some 79))]) (w' := (SH, dt)) rfl ?_
  refine go_smpq PM267 (L' := [some (.inr (.inr (some 3000))), some (.inr (.inr (some 0))), some (.inr (.inr (some 79))), some (.inl i)]) (st' := [.inl ((xs ((i + 1).toNat)).toInt), .inr (.inr (some 79))]) (w' := (SH, dt)) rfl rfl (s_iald (n := L) (f := fun j => (xs j).toInt) (am_scr hLL) ⟨by omega, by omega⟩) ?_
  refine go_callq PM267 PM176 (Q' := _) rfl rfl rfl rfl (sp_X6_fault_f L xs sio (d + 38) dt hI  ((xs ((i + 1).toNat)).toInt) ⟨by omega, by omega⟩ ) ?_
  rintro _ _ ⟨rfl, h3⟩
  refine ⟨rfl, ?_⟩
  rcases h3 with ⟨v_h3, rfl, h3r, h3⟩
  refine go_toq PM267 (k := 2) (pc' := 1435) (L' := [some (.inr (.inr (some 3000))), some (.inr (.inr (some 0))), some (.inr (.inr (some 79))), some (.inl i)]) (st' := []) (w' := (SH, dt)) rfl ?_
  exact K dt hI hM hM2 hk0 hk1 hk2 hk3 hk4 hk5 hk6 hk7 hk8 hk9 hk10 hk11 hk12 hk13 hk14 hk15 (by first | exact hI | exact TPL_k hd0 (fun _ => rfl) (fun _ => rfl) (by omega) | (exfalso; omega)) (by first | exact hI | exact SCL_k hd1 hM (fun j _ => (fun _ => rfl) j) (fun j _ => (fun _ => rfl) j) (fun j _ _ => (fun _ => rfl) j) | (exfalso; omega)) (by first | exact hI | exact SCL_k hd2 hM2 (fun j _ => (fun _ => rfl) j) (fun j _ => (fun _ => rfl) j) (fun j _ _ => (fun _ => rfl) j) | (exfalso; omega)) (by first | exact hI | exact QRL_k hd3 hM (fun j _ => (fun _ => rfl) j) ((fun _ => rfl) 1) (fun j _ _ => (fun _ => rfl) j) | (exfalso; omega)) (by first | exact hI | exact QRL_k hd4 hM2 (fun j _ => (fun _ => rfl) j) ((fun _ => rfl) 1) (fun j _ _ => (fun _ => rfl) j) | (exfalso; omega)) (by first | exact hI | exact SDL_k hd5 hM (fun j _ => (fun _ => rfl) j) ((fun _ => rfl) 1) (fun j _ _ => (fun _ => rfl) j) (fun j _ _ => (fun _ => rfl) j) | (exfalso; omega)) (by first | exact hI | exact SDL_k hd6 hM2 (fun j _ => (fun _ => rfl) j) ((fun _ => rfl) 1) (fun j _ _ => (fun _ => rfl) j) (fun j _ _ => (fun _ => rfl) j) | (exfalso; omega)) (by first | exact hI | exact LWL_k hd7 hM (fun j _ => (fun _ => rfl) j) (fun j _ => (fun _ => rfl) j) (fun j _ => (fun _ => rfl) j) (fun j _ _ => (fun _ => rfl) j) | (exfalso; omega)) (by first | exact hI | exact LWL_k hd8 hM2 (fun j _ => (fun _ => rfl) j) (fun j _ => (fun _ => rfl) j) (fun j _ => (fun _ => rfl) j) (fun j _ _ => (fun _ => rfl) j) | (exfalso; omega)) (by first | exact hI | exact CHL_k hd9 hM (fun j _ => (fun _ => rfl) j) (by omega) (fun j _ _ => (fun _ => rfl) j) | (exfalso; omega)) (by first | exact hI | exact CHL_k hd10 hM2 (fun j _ => (fun _ => rfl) j) (by omega) (fun j _ _ => (fun _ => rfl) j) | (exfalso; omega)) (by first | exact hI | exact ANL_k hd11 hM (fun j _ => (fun _ => rfl) j) (by omega) (by omega) (by omega) (fun j _ _ => (fun _ => rfl) j) | (exfalso; omega)) (by first | exact hI | exact ANL_k hd12 hM2 (fun j _ => (fun _ => rfl) j) (by omega) (by omega) (by omega) (fun j _ _ => (fun _ => rfl) j) | (exfalso; omega))
set_option maxRecDepth 20000 in
set_option maxHeartbeats 8000000 in
theorem sp_case5 (L : Nat) (xs : Nat → Int32) (sio : Option Nat) (d : Nat) (Q : Option AV → am_W → Prop) (hLL : L ≤ 3072) (i : Int) (hi : 0 ≤ i ∧ i ≤ 3066) (hil : i ≤ (L : Int) - 6) (dt : Nat → Nat → Int) (hI : InvC dt) (hM : MW (dt 80)) (hM2 : MW (dt 81)) (hk0 : dt 1 0 = dt 80 0) (hk1 : dt 7 3 = dt 80 1) (hk2 : dt 10 3 = dt 80 2) (hk3 : dt 12 3 = dt 80 3) (hk4 : dt 14 3 = dt 80 4) (hk5 : dt 16 3 = dt 80 5) (hk6 : dt 18 0 = dt 81 0) (hk7 : dt 24 3 = dt 81 1) (hk8 : dt 27 3 = dt 81 2) (hk9 : dt 29 3 = dt 81 3) (hk10 : dt 31 3 = dt 81 4) (hk11 : dt 33 3 = dt 81 5) (hk12 : dt 0 2 = dt 79 2) (hk13 : dt 35 1 = dt 79 12) (hk14 : dt 35 2 = dt 79 19) (hk15 : dt 35 3 = dt 79 21) (hd0 : TPL (dt 36) (dt 85) (dt 35 1)) (hd1 : SCL (dt 2) (dt 3) (dt 80)) (hd2 : SCL (dt 19) (dt 20) (dt 81)) (hd3 : QRL (dt 8) (dt 80)) (hd4 : QRL (dt 25) (dt 81)) (hd5 : SDL (dt 9) (dt 80)) (hd6 : SDL (dt 26) (dt 81)) (hd7 : LWL (dt 4) (dt 5) (dt 6) (dt 80)) (hd8 : LWL (dt 21) (dt 22) (dt 23) (dt 81)) (hd9 : CHL (dt 11) (dt 80)) (hd10 : CHL (dt 28) (dt 81)) (hd11 : ANL (dt 13) (dt 80)) (hd12 : ANL (dt 30) (dt 81)) (K : ∀ (dt : Nat → Nat → Int) (hI : InvC dt) (hM : MW (dt 80)) (hM2 : MW (dt 81)) (hk0 : dt 1 0 = dt 80 0) (hk1 : dt 7 3 = dt 80 1) (hk2 : dt 10 3 = dt 80 2) (hk3 : dt 12 3 = dt 80 3) (hk4 : dt 14 3 = dt 80 4) (hk5 : dt 16 3 = dt 80 5) (hk6 : dt 18 0 = dt 81 0) (hk7 : dt 24 3 = dt 81 1) (hk8 : dt 27 3 = dt 81 2) (hk9 : dt 29 3 = dt 81 3) (hk10 : dt 31 3 = dt 81 4) (hk11 : dt 33 3 = dt 81 5) (hk12 : dt 0 2 = dt 79 2) (hk13 : dt 35 1 = dt 79 12) (hk14 : dt 35 2 = dt 79 19) (hk15 : dt 35 3 = dt 79 21) (hd0 : TPL (dt 36) (dt 85) (dt 35 1)) (hd1 : SCL (dt 2) (dt 3) (dt 80)) (hd2 : SCL (dt 19) (dt 20) (dt 81)) (hd3 : QRL (dt 8) (dt 80)) (hd4 : QRL (dt 25) (dt 81)) (hd5 : SDL (dt 9) (dt 80)) (hd6 : SDL (dt 26) (dt 81)) (hd7 : LWL (dt 4) (dt 5) (dt 6) (dt 80)) (hd8 : LWL (dt 21) (dt 22) (dt 23) (dt 81)) (hd9 : CHL (dt 11) (dt 80)) (hd10 : CHL (dt 28) (dt 81)) (hd11 : ANL (dt 13) (dt 80)) (hd12 : ANL (dt 30) (dt 81)), GO (am_XX L xs sio) (d + 39) 267 1435 [some (.inr (.inr (some 3000))), some (.inr (.inr (some 0))), some (.inr (.inr (some 79))), some (.inl i)] [] (SH, dt) Q) : GO (am_XX L xs sio) (d + 39) 267 345 [some (.inr (.inr (some 3000))), some (.inr (.inr (some 0))), some (.inr (.inr (some 79))), some (.inl i)] [] (SH, dt) Q := by
  have hF : Fr [0, 1, 2, 3, 4, 5, 6, 7, 8, 9, 10, 11, 12, 13, 14, 15, 16, 17, 18, 19, 20, 21, 22, 23, 24, 25, 26, 27, 28, 29, 30, 31, 32, 33, 34, 35, 36, 37, 38, 39, 40, 41, 42, 43, 44, 45, 46, 47, 48, 49, 50, 51, 52, 53, 54, 55, 56, 57, 58, 59, 60, 61, 62, 63, 64, 65, 66, 67, 68, 69, 70, 71, 72, 73, 74, 75, 76, 77, 78, 79, 80, 81, 82, 83, 84, 85, 86, 87, 88, 89, 90, 91, 92, 93, 94, 95, 96, 97, 98, 99, 100, 101, 102, 103, 104] dt dt := Fr_refl
  have hqo := QOC_R hd3 hM hk1
  have hb1_ := hM.1.1
  have hb2_ := hM.1.2.1
  have hb3_ := hM.1.2.2.1
  have halk : ALK dt (dt 80) := ⟨hd7, hd3, hd5, hd9, hk1, hk2⟩
  have hav_ : ∀ i : Nat, (i : Int) < dt 12 3 → 0 ≤ dt 13 (6 * i + 1) ∧ dt 13 (6 * i + 1) < dt 7 3 := fun i hi => by have z := hd11 i (by omega); have y := z.2.2 1 (by decide); have w := z.2.1; omega
  refine go_toq PM267 (k := 5) (pc' := 350) (L' := [some (.inr (.inr (some 3000))), some (.inr (.inr (some 0))), some (.inr (.inr (some 79))), some (.inl i)]) (st' := [.inl (i + 1), .inr (.inr (some 3000)), .inr (.inr (some 0))]) (w' := (SH, dt)) rfl ?_
  have r1 := i32_R (xs ((i + 1).toNat))
  refine go_smpq PM267 (L' := [some (.inr (.inr (some 3000))), some (.inr (.inr (some 0))), some (.inr (.inr (some 79))), some (.inl i)]) (st' := [.inl ((xs ((i + 1).toNat)).toInt), .inr (.inr (some 0))]) (w' := (SH, dt)) rfl rfl (s_iald (n := L) (f := fun j => (xs j).toInt) (am_scr hLL) ⟨by omega, by omega⟩) ?_
  refine go_toq PM267 (k := 4) (pc' := 355) (L' := [some (.inr (.inr (some 3000))), some (.inr (.inr (some 0))), some (.inr (.inr (some 79))), some (.inl i)]) (st' := [.inl (i + 2), .inr (.inr (some 3000)), .inl ((xs ((i + 1).toNat)).toInt), .inr (.inr (some 0))]) (w' := (SH, dt)) rfl ?_
  have r2 := i32_R (xs ((i + 2).toNat))
  refine go_smpq PM267 (L' := [some (.inr (.inr (some 3000))), some (.inr (.inr (some 0))), some (.inr (.inr (some 79))), some (.inl i)]) (st' := [.inl ((xs ((i + 2).toNat)).toInt), .inl ((xs ((i + 1).toNat)).toInt), .inr (.inr (some 0))]) (w' := (SH, dt)) rfl rfl (s_iald (n := L) (f := fun j => (xs j).toInt) (am_scr hLL) ⟨by omega, by omega⟩) ?_
  refine go_toq PM267 (k := 4) (pc' := 360) (L' := [some (.inr (.inr (some 3000))), some (.inr (.inr (some 0))), some (.inr (.inr (some 79))), some (.inl i)]) (st' := [.inl (i + 3), .inr (.inr (some 3000)), .inl ((xs ((i + 2).toNat)).toInt), .inl ((xs ((i + 1).toNat)).toInt), .inr (.inr (some 0))]) (w' := (SH, dt)) rfl ?_
  have r3 := i32_R (xs ((i + 3).toNat))
  refine go_smpq PM267 (L' := [some (.inr (.inr (some 3000))), some (.inr (.inr (some 0))), some (.inr (.inr (some 79))), some (.inl i)]) (st' := [.inl ((xs ((i + 3).toNat)).toInt), .inl ((xs ((i + 2).toNat)).toInt), .inl ((xs ((i + 1).toNat)).toInt), .inr (.inr (some 0))]) (w' := (SH, dt)) rfl rfl (s_iald (n := L) (f := fun j => (xs j).toInt) (am_scr hLL) ⟨by omega, by omega⟩) ?_
  refine go_toq PM267 (k := 4) (pc' := 365) (L' := [some (.inr (.inr (some 3000))), some (.inr (.inr (some 0))), some (.inr (.inr (some 79))), some (.inl i)]) (st' := [.inl (i + 4), .inr (.inr (some 3000)), .inl ((xs ((i + 3).toNat)).toInt), .inl ((xs ((i + 2).toNat)).toInt), .inl ((xs ((i + 1).toNat)).toInt), .inr (.inr (some 0))]) (w' := (SH, dt)) rfl ?_
  have r4 := i32_R (xs ((i + 4).toNat))
  refine go_smpq PM267 (L' := [some (.inr (.inr (some 3000))), some (.inr (.inr (some 0))), some (.inr (.inr (some 79))), some (.inl i)]) (st' := [.inl ((xs ((i + 4).toNat)).toInt), .inl ((xs ((i + 3).toNat)).toInt), .inl ((xs ((i + 2).toNat)).toInt), .inl ((xs ((i + 1).toNat)).toInt), .inr (.inr (some 0))]) (w' := (SH, dt)) rfl rfl (s_iald (n := L) (f := fun j => (xs j).toInt) (am_scr hLL) ⟨by omega, by omega⟩) ?_
  refine go_callq PM267 PM72 (Q' := _) rfl rfl rfl rfl (sp_X5_after L xs sio (d + 33) dt hI  ((xs ((i + 1).toNat)).toInt) ⟨by omega, by omega⟩ ((xs ((i + 2).toNat)).toInt) ⟨by omega, by omega⟩ ((xs ((i + 3).toNat)).toInt) ⟨by omega, by omega⟩ ((xs ((i + 4).toNat)).toInt) ⟨by omega, by omega⟩ ) ?_
  rintro _ _ ⟨dt6, rfl, hI7, hF8, h5⟩
  refine ⟨rfl, ?_⟩
  have hF9 : Fr [0, 1, 2, 3, 4, 5, 6, 7, 8, 9, 10, 11, 12, 13, 14, 15, 16, 17, 18, 19, 20, 21, 22, 23, 24, 25, 26, 27, 28, 29, 30, 31, 32, 33, 34, 35, 36, 37, 38, 39, 40, 41, 42, 43, 44, 45, 46, 47, 48, 49, 50, 51, 52, 53, 54, 55, 56, 57, 58, 59, 60, 61, 62, 63, 64, 65, 66, 67, 68, 69, 70, 71, 72, 73, 74, 75, 76, 77, 78, 79, 80, 81, 82, 83, 84, 85, 86, 87, 88, 89, 90, 91, 92, 93, 94, 95, 96, 97, 98, 99, 100, 101, 102, 103, 104] dt dt6 := Fr_tr hF hF8 (by decide)
  have hM10 : MW (dt6 80) := MW_fr hM hF8 (by decide)
  have w11 : dt6 1 0 = dt 1 0 := hF8 1 (by decide) 0
  have w12 : dt6 7 3 = dt 7 3 := hF8 7 (by decide) 3
  have w13 : dt6 10 3 = dt 10 3 := hF8 10 (by decide) 3
  have w14 : dt6 12 3 = dt 12 3 := hF8 12 (by decide) 3
  have w15 : dt6 14 3 = dt 14 3 := hF8 14 (by decide) 3
  have w16 : dt6 16 3 = dt 16 3 := hF8 16 (by decide) 3
  have w17 : dt6 18 0 = dt 18 0 := hF8 18 (by decide) 0
  have w18 : dt6 24 3 = dt 24 3 := hF8 24 (by decide) 3
  have w19 : dt6 27 3 = dt 27 3 := hF8 27 (by decide) 3
  have w20 : dt6 29 3 = dt 29 3 := hF8 29 (by decide) 3
  have w21 : dt6 31 3 = dt 31 3 := hF8 31 (by decide) 3
  have w22 : dt6 33 3 = dt 33 3 := hF8 33 (by decide) 3
  have w23 : dt6 0 2 = dt 0 2 := hF8 0 (by decide) 2
  have w24 : dt6 35 1 = dt 35 1 := hF8 35 (by decide) 1
  have w25 : dt6 35 2 = dt 35 2 := hF8 35 (by decide) 2
  have w26 : dt6 35 3 = dt 35 3 := hF8 35 (by decide) 3
  have w27 : dt6 80 0 = dt 80 0 := hF8 80 (by decide) 0
  have w28 : dt6 80 1 = dt 80 1 := hF8 80 (by decide) 1
  have w29 : dt6 80 2 = dt 80 2 := hF8 80 (by decide) 2
  have w30 : dt6 80 3 = dt 80 3 := hF8 80 (by decide) 3
  have w31 : dt6 80 4 = dt 80 4 := hF8 80 (by decide) 4
  have w32 : dt6 80 5 = dt 80 5 := hF8 80 (by decide) 5
  have w33 : dt6 81 0 = dt 81 0 := hF8 81 (by decide) 0
  have w34 : dt6 81 1 = dt 81 1 := hF8 81 (by decide) 1
  have w35 : dt6 81 2 = dt 81 2 := hF8 81 (by decide) 2
  have w36 : dt6 81 3 = dt 81 3 := hF8 81 (by decide) 3
  have w37 : dt6 81 4 = dt 81 4 := hF8 81 (by decide) 4
  have w38 : dt6 81 5 = dt 81 5 := hF8 81 (by decide) 5
  have w39 : dt6 79 2 = dt 79 2 := hF8 79 (by decide) 2
  have w40 : dt6 79 12 = dt 79 12 := hF8 79 (by decide) 12
  have w41 : dt6 79 19 = dt 79 19 := hF8 79 (by decide) 19
  have w42 : dt6 79 21 = dt 79 21 := hF8 79 (by decide) 21
  rcases h5 with ⟨v_h5, rfl, h5r, h5⟩
  have M243 : MW (dt6 81) := MW_frk hM2 hF8 (by decide)
  have C44 : ∀ j : Nat, dt6 2 j = dt 2 j := fun j => (hF8 2 (by decide) j).trans ((fun _ => rfl) j)
  have C45 : ∀ j : Nat, dt6 3 j = dt 3 j := fun j => (hF8 3 (by decide) j).trans ((fun _ => rfl) j)
  have C46 : ∀ j : Nat, dt6 4 j = dt 4 j := fun j => (hF8 4 (by decide) j).trans ((fun _ => rfl) j)
  have C47 : ∀ j : Nat, dt6 5 j = dt 5 j := fun j => (hF8 5 (by decide) j).trans ((fun _ => rfl) j)
  have C48 : ∀ j : Nat, dt6 6 j = dt 6 j := fun j => (hF8 6 (by decide) j).trans ((fun _ => rfl) j)
  have C49 : ∀ j : Nat, dt6 8 j = dt 8 j := fun j => (hF8 8 (by decide) j).trans ((fun _ => rfl) j)
  have C50 : ∀ j : Nat, dt6 9 j = dt 9 j := fun j => (hF8 9 (by decide) j).trans ((fun _ => rfl) j)
  have C51 : ∀ j : Nat, dt6 11 j = dt 11 j := fun j => (hF8 11 (by decide) j).trans ((fun _ => rfl) j)
  have C52 : ∀ j : Nat, dt6 19 j = dt 19 j := fun j => (hF8 19 (by decide) j).trans ((fun _ => rfl) j)
  have C53 : ∀ j : Nat, dt6 20 j = dt 20 j := fun j => (hF8 20 (by decide) j).trans ((fun _ => rfl) j)
  have C54 : ∀ j : Nat, dt6 21 j = dt 21 j := fun j => (hF8 21 (by decide) j).trans ((fun _ => rfl) j)
  have C55 : ∀ j : Nat, dt6 22 j = dt 22 j := fun j => (hF8 22 (by decide) j).trans ((fun _ => rfl) j)
  have C56 : ∀ j : Nat, dt6 23 j = dt 23 j := fun j => (hF8 23 (by decide) j).trans ((fun _ => rfl) j)
  have C57 : ∀ j : Nat, dt6 25 j = dt 25 j := fun j => (hF8 25 (by decide) j).trans ((fun _ => rfl) j)
  have C58 : ∀ j : Nat, dt6 26 j = dt 26 j := fun j => (hF8 26 (by decide) j).trans ((fun _ => rfl) j)
  have C59 : ∀ j : Nat, dt6 28 j = dt 28 j := fun j => (hF8 28 (by decide) j).trans ((fun _ => rfl) j)
  have C60 : ∀ j : Nat, dt6 13 j = dt 13 j := fun j => (hF8 13 (by decide) j).trans ((fun _ => rfl) j)
  have C61 : ∀ j : Nat, dt6 30 j = dt 30 j := fun j => (hF8 30 (by decide) j).trans ((fun _ => rfl) j)
  have C62 : ∀ j : Nat, dt6 36 j = dt 36 j := fun j => (hF8 36 (by decide) j).trans ((fun _ => rfl) j)
  have C63 : ∀ j : Nat, dt6 80 j = dt 80 j := fun j => (hF8 80 (by decide) j).trans ((fun _ => rfl) j)
  have C64 : ∀ j : Nat, dt6 81 j = dt 81 j := fun j => (hF8 81 (by decide) j).trans ((fun _ => rfl) j)
  have C65 : ∀ j : Nat, dt6 85 j = dt 85 j := fun j => (hF8 85 (by decide) j).trans ((fun _ => rfl) j)
  refine go_toq PM267 (k := 6) (pc' := 375) (L' := [some (.inr (.inr (some 3000))), some (.inr (.inr (some 0))), some (.inr (.inr (some 79))), some (.inl i)]) (st' := [.inl (i + 1), .inr (.inr (some 3000)), .inr (.inr (some 79))]) (w' := (SH, dt6)) rfl ?_
  have r66 := i32_R (xs ((i + 1).toNat))
  refine go_smpq PM267 (L' := [some (.inr (.inr (some 3000))), some (.inr (.inr (some 0))), some (.inr (.inr (some 79))), some (.inl i)]) (st' := [.inl ((xs ((i + 1).toNat)).toInt), .inr (.inr (some 79))]) (w' := (SH, dt6)) rfl rfl (s_iald (n := L) (f := fun j => (xs j).toInt) (am_scr hLL) ⟨by omega, by omega⟩) ?_
  refine go_toq PM267 (k := 4) (pc' := 380) (L' := [some (.inr (.inr (some 3000))), some (.inr (.inr (some 0))), some (.inr (.inr (some 79))), some (.inl i)]) (st' := [.inl (i + 2), .inr (.inr (some 3000)), .inl ((xs ((i + 1).toNat)).toInt), .inr (.inr (some 79))]) (w' := (SH, dt6)) rfl ?_
  have r67 := i32_R (xs ((i + 2).toNat))
  refine go_smpq PM267 (L' := [some (.inr (.inr (some 3000))), some (.inr (.inr (some 0))), some (.inr (.inr (some 79))), some (.inl i)]) (st' := [.inl ((xs ((i + 2).toNat)).toInt), .inl ((xs ((i + 1).toNat)).toInt), .inr (.inr (some 79))]) (w' := (SH, dt6)) rfl rfl (s_iald (n := L) (f := fun j => (xs j).toInt) (am_scr hLL) ⟨by omega, by omega⟩) ?_
  refine go_toq PM267 (k := 4) (pc' := 385) (L' := [some (.inr (.inr (some 3000))), some (.inr (.inr (some 0))), some (.inr (.inr (some 79))), some (.inl i)]) (st' := [.inl (i + 3), .inr (.inr (some 3000)), .inl ((xs ((i + 2).toNat)).toInt), .inl ((xs ((i + 1).toNat)).toInt), .inr (.inr (some 79))]) (w' := (SH, dt6)) rfl ?_
  have r68 := i32_R (xs ((i + 3).toNat))
  refine go_smpq PM267 (L' := [some (.inr (.inr (some 3000))), some (.inr (.inr (some 0))), some (.inr (.inr (some 79))), some (.inl i)]) (st' := [.inl ((xs ((i + 3).toNat)).toInt), .inl ((xs ((i + 2).toNat)).toInt), .inl ((xs ((i + 1).toNat)).toInt), .inr (.inr (some 79))]) (w' := (SH, dt6)) rfl rfl (s_iald (n := L) (f := fun j => (xs j).toInt) (am_scr hLL) ⟨by omega, by omega⟩) ?_
  refine go_toq PM267 (k := 4) (pc' := 390) (L' := [some (.inr (.inr (some 3000))), some (.inr (.inr (some 0))), some (.inr (.inr (some 79))), some (.inl i)]) (st' := [.inl (i + 4), .inr (.inr (some 3000)), .inl ((xs ((i + 3).toNat)).toInt), .inl ((xs ((i + 2).toNat)).toInt), .inl ((xs ((i + 1).toNat)).toInt), .inr (.inr (some 79))]) (w' := (SH, dt6)) rfl ?_
  have r69 := i32_R (xs ((i + 4).toNat))
  refine go_smpq PM267 (L' := [some (.inr (.inr (some 3000))), some (.inr (.inr (some 0))), some (.inr (.inr (some 79))), some (.inl i)]) (st' := [.inl ((xs ((i + 4).toNat)).toInt), .inl ((xs ((i + 3).toNat)).toInt), .inl ((xs ((i + 2).toNat)).toInt), .inl ((xs ((i + 1).toNat)).toInt), .inr (.inr (some 79))]) (w' := (SH, dt6)) rfl rfl (s_iald (n := L) (f := fun j => (xs j).toInt) (am_scr hLL) ⟨by omega, by omega⟩) ?_
  refine go_callq PM267 PM188 (Q' := _) rfl rfl rfl rfl (sp_X6_after L xs sio (d + 33) dt6 hI7 hM10  ((xs ((i + 1).toNat)).toInt) ⟨by omega, by omega⟩ ((xs ((i + 2).toNat)).toInt) ⟨by omega, by omega⟩ ((xs ((i + 3).toNat)).toInt) ⟨by omega, by omega⟩ ((xs ((i + 4).toNat)).toInt) ⟨by omega, by omega⟩ ) ?_
  rintro _ _ ⟨dt71, rfl, hI72, hF73, h70⟩
  refine ⟨rfl, ?_⟩
  have hF74 : Fr [0, 1, 2, 3, 4, 5, 6, 7, 8, 9, 10, 11, 12, 13, 14, 15, 16, 17, 18, 19, 20, 21, 22, 23, 24, 25, 26, 27, 28, 29, 30, 31, 32, 33, 34, 35, 36, 37, 38, 39, 40, 41, 42, 43, 44, 45, 46, 47, 48, 49, 50, 51, 52, 53, 54, 55, 56, 57, 58, 59, 60, 61, 62, 63, 64, 65, 66, 67, 68, 69, 70, 71, 72, 73, 74, 75, 76, 77, 78, 79, 80, 81, 82, 83, 84, 85, 86, 87, 88, 89, 90, 91, 92, 93, 94, 95, 96, 97, 98, 99, 100, 101, 102, 103, 104] dt dt71 := Fr_tr hF9 hF73 (by decide)
  have hM75 : MW (dt71 80) := MW_fr hM10 hF73 (by decide)
  have w76 : dt71 1 0 = dt 1 0 := (hF73 1 (by decide) 0).trans w11
  have w77 : dt71 7 3 = dt 7 3 := (hF73 7 (by decide) 3).trans w12
  have w78 : dt71 10 3 = dt 10 3 := (hF73 10 (by decide) 3).trans w13
  have w79 : dt71 12 3 = dt 12 3 := (hF73 12 (by decide) 3).trans w14
  have w80 : dt71 14 3 = dt 14 3 := (hF73 14 (by decide) 3).trans w15
  have w81 : dt71 16 3 = dt 16 3 := (hF73 16 (by decide) 3).trans w16
  have w82 : dt71 18 0 = dt 18 0 := (hF73 18 (by decide) 0).trans w17
  have w83 : dt71 24 3 = dt 24 3 := (hF73 24 (by decide) 3).trans w18
  have w84 : dt71 27 3 = dt 27 3 := (hF73 27 (by decide) 3).trans w19
  have w85 : dt71 29 3 = dt 29 3 := (hF73 29 (by decide) 3).trans w20
  have w86 : dt71 31 3 = dt 31 3 := (hF73 31 (by decide) 3).trans w21
  have w87 : dt71 33 3 = dt 33 3 := (hF73 33 (by decide) 3).trans w22
  have w88 : dt71 0 2 = dt 0 2 := (hF73 0 (by decide) 2).trans w23
  have w89 : dt71 35 1 = dt 35 1 := (hF73 35 (by decide) 1).trans w24
  have w90 : dt71 35 2 = dt 35 2 := (hF73 35 (by decide) 2).trans w25
  have w91 : dt71 35 3 = dt 35 3 := (hF73 35 (by decide) 3).trans w26
  have w92 : dt71 80 0 = dt 80 0 := (hF73 80 (by decide) 0).trans w27
  have w93 : dt71 80 1 = dt 80 1 := (hF73 80 (by decide) 1).trans w28
  have w94 : dt71 80 2 = dt 80 2 := (hF73 80 (by decide) 2).trans w29
  have w95 : dt71 80 3 = dt 80 3 := (hF73 80 (by decide) 3).trans w30
  have w96 : dt71 80 4 = dt 80 4 := (hF73 80 (by decide) 4).trans w31
  have w97 : dt71 80 5 = dt 80 5 := (hF73 80 (by decide) 5).trans w32
  have w98 : dt71 81 0 = dt 81 0 := (hF73 81 (by decide) 0).trans w33
  have w99 : dt71 81 1 = dt 81 1 := (hF73 81 (by decide) 1).trans w34
  have w100 : dt71 81 2 = dt 81 2 := (hF73 81 (by decide) 2).trans w35
  have w101 : dt71 81 3 = dt 81 3 := (hF73 81 (by decide) 3).trans w36
  have w102 : dt71 81 4 = dt 81 4 := (hF73 81 (by decide) 4).trans w37
  have w103 : dt71 81 5 = dt 81 5 := (hF73 81 (by decide) 5).trans w38
  have w104 : dt71 79 2 = dt 79 2 := (hF73 79 (by decide) 2).trans w39
  have w105 : dt71 79 12 = dt 79 12 := (hF73 79 (by decide) 12).trans w40
  have w106 : dt71 79 19 = dt 79 19 := (hF73 79 (by decide) 19).trans w41
  have w107 : dt71 79 21 = dt 79 21 := (hF73 79 (by decide) 21).trans w42
  rcases h70 with ⟨v_h70, rfl, h70r, h70⟩
  have M2108 : MW (dt71 81) := MW_frk M243 hF73 (by decide)
  have C109 : ∀ j : Nat, dt71 2 j = dt 2 j := fun j => (hF73 2 (by decide) j).trans (C44 j)
  have C110 : ∀ j : Nat, dt71 3 j = dt 3 j := fun j => (hF73 3 (by decide) j).trans (C45 j)
  have C111 : ∀ j : Nat, dt71 4 j = dt 4 j := fun j => (hF73 4 (by decide) j).trans (C46 j)
  have C112 : ∀ j : Nat, dt71 5 j = dt 5 j := fun j => (hF73 5 (by decide) j).trans (C47 j)
  have C113 : ∀ j : Nat, dt71 6 j = dt 6 j := fun j => (hF73 6 (by decide) j).trans (C48 j)
  have C114 : ∀ j : Nat, dt71 8 j = dt 8 j := fun j => (hF73 8 (by decide) j).trans (C49 j)
  have C115 : ∀ j : Nat, dt71 9 j = dt 9 j := fun j => (hF73 9 (by decide) j).trans (C50 j)
  have C116 : ∀ j : Nat, dt71 11 j = dt 11 j := fun j => (hF73 11 (by decide) j).trans (C51 j)
  have C117 : ∀ j : Nat, dt71 19 j = dt 19 j := fun j => (hF73 19 (by decide) j).trans (C52 j)
  have C118 : ∀ j : Nat, dt71 20 j = dt 20 j := fun j => (hF73 20 (by decide) j).trans (C53 j)
  have C119 : ∀ j : Nat, dt71 21 j = dt 21 j := fun j => (hF73 21 (by decide) j).trans (C54 j)
  have C120 : ∀ j : Nat, dt71 22 j = dt 22 j := fun j => (hF73 22 (by decide) j).trans (C55 j)
  have C121 : ∀ j : Nat, dt71 23 j = dt 23 j := fun j => (hF73 23 (by decide) j).trans (C56 j)
  have C122 : ∀ j : Nat, dt71 25 j = dt 25 j := fun j => (hF73 25 (by decide) j).trans (C57 j)
  have C123 : ∀ j : Nat, dt71 26 j = dt 26 j := fun j => (hF73 26 (by decide) j).trans (C58 j)
  have C124 : ∀ j : Nat, dt71 28 j = dt 28 j := fun j => (hF73 28 (by decide) j).trans (C59 j)
  have C125 : ∀ j : Nat, dt71 13 j = dt 13 j := fun j => (hF73 13 (by decide) j).trans (C60 j)
  have C126 : ∀ j : Nat, dt71 30 j = dt 30 j := fun j => (hF73 30 (by decide) j).trans (C61 j)
  have C127 : ∀ j : Nat, dt71 36 j = dt 36 j := fun j => (hF73 36 (by decide) j).trans (C62 j)
  have C128 : ∀ j : Nat, dt71 80 j = dt 80 j := fun j => (hF73 80 (by decide) j).trans (C63 j)
  have C129 : ∀ j : Nat, dt71 81 j = dt 81 j := fun j => (hF73 81 (by decide) j).trans (C64 j)
  have C130 : ∀ j : Nat, dt71 85 j = dt 85 j := fun j => (hF73 85 (by decide) j).trans (C65 j)
  refine go_toq PM267 (k := 2) (pc' := 1435) (L' := [some (.inr (.inr (some 3000))), some (.inr (.inr (some 0))), some (.inr (.inr (some 79))), some (.inl i)]) (st' := []) (w' := (SH, dt71)) rfl ?_
  exact K dt71 hI72 hM75 M2108 (w76.trans (hk0.trans w92.symm)) (w77.trans (hk1.trans w93.symm)) (w78.trans (hk2.trans w94.symm)) (w79.trans (hk3.trans w95.symm)) (w80.trans (hk4.trans w96.symm)) (w81.trans (hk5.trans w97.symm)) (w82.trans (hk6.trans w98.symm)) (w83.trans (hk7.trans w99.symm)) (w84.trans (hk8.trans w100.symm)) (w85.trans (hk9.trans w101.symm)) (w86.trans (hk10.trans w102.symm)) (w87.trans (hk11.trans w103.symm)) (w88.trans (hk12.trans w104.symm)) (w89.trans (hk13.trans w105.symm)) (w90.trans (hk14.trans w106.symm)) (w91.trans (hk15.trans w107.symm)) (by first | exact hI | exact TPL_k hd0 C127 C130 (by omega) | (exfalso; omega)) (by first | exact hI | exact SCL_k hd1 hM (fun j _ => C109 j) (fun j _ => C110 j) (fun j _ _ => C128 j) | (exfalso; omega)) (by first | exact hI | exact SCL_k hd2 hM2 (fun j _ => C117 j) (fun j _ => C118 j) (fun j _ _ => C129 j) | (exfalso; omega)) (by first | exact hI | exact QRL_k hd3 hM (fun j _ => C114 j) (C128 1) (fun j _ _ => C128 j) | (exfalso; omega)) (by first | exact hI | exact QRL_k hd4 hM2 (fun j _ => C122 j) (C129 1) (fun j _ _ => C129 j) | (exfalso; omega)) (by first | exact hI | exact SDL_k hd5 hM (fun j _ => C115 j) (C128 1) (fun j _ _ => C128 j) (fun j _ _ => C128 j) | (exfalso; omega)) (by first | exact hI | exact SDL_k hd6 hM2 (fun j _ => C123 j) (C129 1) (fun j _ _ => C129 j) (fun j _ _ => C129 j) | (exfalso; omega)) (by first | exact hI | exact LWL_k hd7 hM (fun j _ => C111 j) (fun j _ => C112 j) (fun j _ => C113 j) (fun j _ _ => C128 j) | (exfalso; omega)) (by first | exact hI | exact LWL_k hd8 hM2 (fun j _ => C119 j) (fun j _ => C120 j) (fun j _ => C121 j) (fun j _ _ => C129 j) | (exfalso; omega)) (by first | exact hI | exact CHL_k hd9 hM (fun j _ => C116 j) (by omega) (fun j _ _ => C128 j) | (exfalso; omega)) (by first | exact hI | exact CHL_k hd10 hM2 (fun j _ => C124 j) (by omega) (fun j _ _ => C129 j) | (exfalso; omega)) (by first | exact hI | exact ANL_k hd11 hM (fun j _ => C125 j) (by omega) (by omega) (by omega) (fun j _ _ => C128 j) | (exfalso; omega)) (by first | exact hI | exact ANL_k hd12 hM2 (fun j _ => C126 j) (by omega) (by omega) (by omega) (fun j _ _ => C129 j) | (exfalso; omega))
set_option maxRecDepth 20000 in
set_option maxHeartbeats 8000000 in
theorem sp_case6 (L : Nat) (xs : Nat → Int32) (sio : Option Nat) (d : Nat) (Q : Option AV → am_W → Prop) (hLL : L ≤ 3072) (i : Int) (hi : 0 ≤ i ∧ i ≤ 3066) (hil : i ≤ (L : Int) - 6) (dt : Nat → Nat → Int) (hI : InvC dt) (hM : MW (dt 80)) (hM2 : MW (dt 81)) (hk0 : dt 1 0 = dt 80 0) (hk1 : dt 7 3 = dt 80 1) (hk2 : dt 10 3 = dt 80 2) (hk3 : dt 12 3 = dt 80 3) (hk4 : dt 14 3 = dt 80 4) (hk5 : dt 16 3 = dt 80 5) (hk6 : dt 18 0 = dt 81 0) (hk7 : dt 24 3 = dt 81 1) (hk8 : dt 27 3 = dt 81 2) (hk9 : dt 29 3 = dt 81 3) (hk10 : dt 31 3 = dt 81 4) (hk11 : dt 33 3 = dt 81 5) (hk12 : dt 0 2 = dt 79 2) (hk13 : dt 35 1 = dt 79 12) (hk14 : dt 35 2 = dt 79 19) (hk15 : dt 35 3 = dt 79 21) (hd0 : TPL (dt 36) (dt 85) (dt 35 1)) (hd1 : SCL (dt 2) (dt 3) (dt 80)) (hd2 : SCL (dt 19) (dt 20) (dt 81)) (hd3 : QRL (dt 8) (dt 80)) (hd4 : QRL (dt 25) (dt 81)) (hd5 : SDL (dt 9) (dt 80)) (hd6 : SDL (dt 26) (dt 81)) (hd7 : LWL (dt 4) (dt 5) (dt 6) (dt 80)) (hd8 : LWL (dt 21) (dt 22) (dt 23) (dt 81)) (hd9 : CHL (dt 11) (dt 80)) (hd10 : CHL (dt 28) (dt 81)) (hd11 : ANL (dt 13) (dt 80)) (hd12 : ANL (dt 30) (dt 81)) (K : ∀ (dt : Nat → Nat → Int) (hI : InvC dt) (hM : MW (dt 80)) (hM2 : MW (dt 81)) (hk0 : dt 1 0 = dt 80 0) (hk1 : dt 7 3 = dt 80 1) (hk2 : dt 10 3 = dt 80 2) (hk3 : dt 12 3 = dt 80 3) (hk4 : dt 14 3 = dt 80 4) (hk5 : dt 16 3 = dt 80 5) (hk6 : dt 18 0 = dt 81 0) (hk7 : dt 24 3 = dt 81 1) (hk8 : dt 27 3 = dt 81 2) (hk9 : dt 29 3 = dt 81 3) (hk10 : dt 31 3 = dt 81 4) (hk11 : dt 33 3 = dt 81 5) (hk12 : dt 0 2 = dt 79 2) (hk13 : dt 35 1 = dt 79 12) (hk14 : dt 35 2 = dt 79 19) (hk15 : dt 35 3 = dt 79 21) (hd0 : TPL (dt 36) (dt 85) (dt 35 1)) (hd1 : SCL (dt 2) (dt 3) (dt 80)) (hd2 : SCL (dt 19) (dt 20) (dt 81)) (hd3 : QRL (dt 8) (dt 80)) (hd4 : QRL (dt 25) (dt 81)) (hd5 : SDL (dt 9) (dt 80)) (hd6 : SDL (dt 26) (dt 81)) (hd7 : LWL (dt 4) (dt 5) (dt 6) (dt 80)) (hd8 : LWL (dt 21) (dt 22) (dt 23) (dt 81)) (hd9 : CHL (dt 11) (dt 80)) (hd10 : CHL (dt 28) (dt 81)) (hd11 : ANL (dt 13) (dt 80)) (hd12 : ANL (dt 30) (dt 81)), GO (am_XX L xs sio) (d + 39) 267 1435 [some (.inr (.inr (some 3000))), some (.inr (.inr (some 0))), some (.inr (.inr (some 79))), some (.inl i)] [] (SH, dt) Q) : GO (am_XX L xs sio) (d + 39) 267 398 [some (.inr (.inr (some 3000))), some (.inr (.inr (some 0))), some (.inr (.inr (some 79))), some (.inl i)] [] (SH, dt) Q := by
  have hF : Fr [0, 1, 2, 3, 4, 5, 6, 7, 8, 9, 10, 11, 12, 13, 14, 15, 16, 17, 18, 19, 20, 21, 22, 23, 24, 25, 26, 27, 28, 29, 30, 31, 32, 33, 34, 35, 36, 37, 38, 39, 40, 41, 42, 43, 44, 45, 46, 47, 48, 49, 50, 51, 52, 53, 54, 55, 56, 57, 58, 59, 60, 61, 62, 63, 64, 65, 66, 67, 68, 69, 70, 71, 72, 73, 74, 75, 76, 77, 78, 79, 80, 81, 82, 83, 84, 85, 86, 87, 88, 89, 90, 91, 92, 93, 94, 95, 96, 97, 98, 99, 100, 101, 102, 103, 104] dt dt := Fr_refl
  have hqo := QOC_R hd3 hM hk1
  have hb1_ := hM.1.1
  have hb2_ := hM.1.2.1
  have hb3_ := hM.1.2.2.1
  have halk : ALK dt (dt 80) := ⟨hd7, hd3, hd5, hd9, hk1, hk2⟩
  have hav_ : ∀ i : Nat, (i : Int) < dt 12 3 → 0 ≤ dt 13 (6 * i + 1) ∧ dt 13 (6 * i + 1) < dt 7 3 := fun i hi => by have z := hd11 i (by omega); have y := z.2.2 1 (by decide); have w := z.2.1; omega
  refine go_toq PM267 (k := 5) (pc' := 403) (L' := [some (.inr (.inr (some 3000))), some (.inr (.inr (some 0))), some (.inr (.inr (some 79))), some (.inl i)]) (st' := [.inl (i + 1), .inr (.inr (some 3000)), .inr (.inr (some 0))]) (w' := (SH, dt)) rfl ?_
  have r1 := i32_R (xs ((i + 1).toNat))
  refine go_smpq PM267 (L' := [some (.inr (.inr (some 3000))), some (.inr (.inr (some 0))), some (.inr (.inr (some 79))), some (.inl i)]) (st' := [.inl ((xs ((i + 1).toNat)).toInt), .inr (.inr (some 0))]) (w' := (SH, dt)) rfl rfl (s_iald (n := L) (f := fun j => (xs j).toInt) (am_scr hLL) ⟨by omega, by omega⟩) ?_
  refine go_toq PM267 (k := 4) (pc' := 408) (L' := [some (.inr (.inr (some 3000))), some (.inr (.inr (some 0))), some (.inr (.inr (some 79))), some (.inl i)]) (st' := [.inl (i + 2), .inr (.inr (some 3000)), .inl ((xs ((i + 1).toNat)).toInt), .inr (.inr (some 0))]) (w' := (SH, dt)) rfl ?_
  have r2 := i32_R (xs ((i + 2).toNat))
  refine go_smpq PM267 (L' := [some (.inr (.inr (some 3000))), some (.inr (.inr (some 0))), some (.inr (.inr (some 79))), some (.inl i)]) (st' := [.inl ((xs ((i + 2).toNat)).toInt), .inl ((xs ((i + 1).toNat)).toInt), .inr (.inr (some 0))]) (w' := (SH, dt)) rfl rfl (s_iald (n := L) (f := fun j => (xs j).toInt) (am_scr hLL) ⟨by omega, by omega⟩) ?_
  refine go_toq PM267 (k := 4) (pc' := 413) (L' := [some (.inr (.inr (some 3000))), some (.inr (.inr (some 0))), some (.inr (.inr (some 79))), some (.inl i)]) (st' := [.inl (i + 3), .inr (.inr (some 3000)), .inl ((xs ((i + 2).toNat)).toInt), .inl ((xs ((i + 1).toNat)).toInt), .inr (.inr (some 0))]) (w' := (SH, dt)) rfl ?_
  have r3 := i32_R (xs ((i + 3).toNat))
  refine go_smpq PM267 (L' := [some (.inr (.inr (some 3000))), some (.inr (.inr (some 0))), some (.inr (.inr (some 79))), some (.inl i)]) (st' := [.inl ((xs ((i + 3).toNat)).toInt), .inl ((xs ((i + 2).toNat)).toInt), .inl ((xs ((i + 1).toNat)).toInt), .inr (.inr (some 0))]) (w' := (SH, dt)) rfl rfl (s_iald (n := L) (f := fun j => (xs j).toInt) (am_scr hLL) ⟨by omega, by omega⟩) ?_
  refine go_toq PM267 (k := 4) (pc' := 418) (L' := [some (.inr (.inr (some 3000))), some (.inr (.inr (some 0))), some (.inr (.inr (some 79))), some (.inl i)]) (st' := [.inl (i + 4), .inr (.inr (some 3000)), .inl ((xs ((i + 3).toNat)).toInt), .inl ((xs ((i + 2).toNat)).toInt), .inl ((xs ((i + 1).toNat)).toInt), .inr (.inr (some 0))]) (w' := (SH, dt)) rfl ?_
  have r4 := i32_R (xs ((i + 4).toNat))
  refine go_smpq PM267 (L' := [some (.inr (.inr (some 3000))), some (.inr (.inr (some 0))), some (.inr (.inr (some 79))), some (.inl i)]) (st' := [.inl ((xs ((i + 4).toNat)).toInt), .inl ((xs ((i + 3).toNat)).toInt), .inl ((xs ((i + 2).toNat)).toInt), .inl ((xs ((i + 1).toNat)).toInt), .inr (.inr (some 0))]) (w' := (SH, dt)) rfl rfl (s_iald (n := L) (f := fun j => (xs j).toInt) (am_scr hLL) ⟨by omega, by omega⟩) ?_
  refine go_callq PM267 PM73 (Q' := _) rfl rfl rfl rfl (sp_X5_thinks L xs sio (d + 33) dt hI  ((xs ((i + 1).toNat)).toInt) ⟨by omega, by omega⟩ ((xs ((i + 2).toNat)).toInt) ⟨by omega, by omega⟩ ((xs ((i + 3).toNat)).toInt) ⟨by omega, by omega⟩ ((xs ((i + 4).toNat)).toInt) ⟨by omega, by omega⟩ ) ?_
  rintro _ _ ⟨dt6, rfl, hI7, hF8, h5⟩
  refine ⟨rfl, ?_⟩
  have hF9 : Fr [0, 1, 2, 3, 4, 5, 6, 7, 8, 9, 10, 11, 12, 13, 14, 15, 16, 17, 18, 19, 20, 21, 22, 23, 24, 25, 26, 27, 28, 29, 30, 31, 32, 33, 34, 35, 36, 37, 38, 39, 40, 41, 42, 43, 44, 45, 46, 47, 48, 49, 50, 51, 52, 53, 54, 55, 56, 57, 58, 59, 60, 61, 62, 63, 64, 65, 66, 67, 68, 69, 70, 71, 72, 73, 74, 75, 76, 77, 78, 79, 80, 81, 82, 83, 84, 85, 86, 87, 88, 89, 90, 91, 92, 93, 94, 95, 96, 97, 98, 99, 100, 101, 102, 103, 104] dt dt6 := Fr_tr hF hF8 (by decide)
  have hM10 : MW (dt6 80) := MW_fr hM hF8 (by decide)
  have w11 : dt6 1 0 = dt 1 0 := hF8 1 (by decide) 0
  have w12 : dt6 7 3 = dt 7 3 := hF8 7 (by decide) 3
  have w13 : dt6 10 3 = dt 10 3 := hF8 10 (by decide) 3
  have w14 : dt6 12 3 = dt 12 3 := hF8 12 (by decide) 3
  have w15 : dt6 14 3 = dt 14 3 := hF8 14 (by decide) 3
  have w16 : dt6 16 3 = dt 16 3 := hF8 16 (by decide) 3
  have w17 : dt6 18 0 = dt 18 0 := hF8 18 (by decide) 0
  have w18 : dt6 24 3 = dt 24 3 := hF8 24 (by decide) 3
  have w19 : dt6 27 3 = dt 27 3 := hF8 27 (by decide) 3
  have w20 : dt6 29 3 = dt 29 3 := hF8 29 (by decide) 3
  have w21 : dt6 31 3 = dt 31 3 := hF8 31 (by decide) 3
  have w22 : dt6 33 3 = dt 33 3 := hF8 33 (by decide) 3
  have w23 : dt6 0 2 = dt 0 2 := hF8 0 (by decide) 2
  have w24 : dt6 35 1 = dt 35 1 := hF8 35 (by decide) 1
  have w25 : dt6 35 2 = dt 35 2 := hF8 35 (by decide) 2
  have w26 : dt6 35 3 = dt 35 3 := hF8 35 (by decide) 3
  have w27 : dt6 80 0 = dt 80 0 := hF8 80 (by decide) 0
  have w28 : dt6 80 1 = dt 80 1 := hF8 80 (by decide) 1
  have w29 : dt6 80 2 = dt 80 2 := hF8 80 (by decide) 2
  have w30 : dt6 80 3 = dt 80 3 := hF8 80 (by decide) 3
  have w31 : dt6 80 4 = dt 80 4 := hF8 80 (by decide) 4
  have w32 : dt6 80 5 = dt 80 5 := hF8 80 (by decide) 5
  have w33 : dt6 81 0 = dt 81 0 := hF8 81 (by decide) 0
  have w34 : dt6 81 1 = dt 81 1 := hF8 81 (by decide) 1
  have w35 : dt6 81 2 = dt 81 2 := hF8 81 (by decide) 2
  have w36 : dt6 81 3 = dt 81 3 := hF8 81 (by decide) 3
  have w37 : dt6 81 4 = dt 81 4 := hF8 81 (by decide) 4
  have w38 : dt6 81 5 = dt 81 5 := hF8 81 (by decide) 5
  have w39 : dt6 79 2 = dt 79 2 := hF8 79 (by decide) 2
  have w40 : dt6 79 12 = dt 79 12 := hF8 79 (by decide) 12
  have w41 : dt6 79 19 = dt 79 19 := hF8 79 (by decide) 19
  have w42 : dt6 79 21 = dt 79 21 := hF8 79 (by decide) 21
  rcases h5 with ⟨v_h5, rfl, h5r, h5⟩
  have M243 : MW (dt6 81) := MW_frk hM2 hF8 (by decide)
  have C44 : ∀ j : Nat, dt6 2 j = dt 2 j := fun j => (hF8 2 (by decide) j).trans ((fun _ => rfl) j)
  have C45 : ∀ j : Nat, dt6 3 j = dt 3 j := fun j => (hF8 3 (by decide) j).trans ((fun _ => rfl) j)
  have C46 : ∀ j : Nat, dt6 4 j = dt 4 j := fun j => (hF8 4 (by decide) j).trans ((fun _ => rfl) j)
  have C47 : ∀ j : Nat, dt6 5 j = dt 5 j := fun j => (hF8 5 (by decide) j).trans ((fun _ => rfl) j)
  have C48 : ∀ j : Nat, dt6 6 j = dt 6 j := fun j => (hF8 6 (by decide) j).trans ((fun _ => rfl) j)
  have C49 : ∀ j : Nat, dt6 8 j = dt 8 j := fun j => (hF8 8 (by decide) j).trans ((fun _ => rfl) j)
  have C50 : ∀ j : Nat, dt6 9 j = dt 9 j := fun j => (hF8 9 (by decide) j).trans ((fun _ => rfl) j)
  have C51 : ∀ j : Nat, dt6 11 j = dt 11 j := fun j => (hF8 11 (by decide) j).trans ((fun _ => rfl) j)
  have C52 : ∀ j : Nat, dt6 19 j = dt 19 j := fun j => (hF8 19 (by decide) j).trans ((fun _ => rfl) j)
  have C53 : ∀ j : Nat, dt6 20 j = dt 20 j := fun j => (hF8 20 (by decide) j).trans ((fun _ => rfl) j)
  have C54 : ∀ j : Nat, dt6 21 j = dt 21 j := fun j => (hF8 21 (by decide) j).trans ((fun _ => rfl) j)
  have C55 : ∀ j : Nat, dt6 22 j = dt 22 j := fun j => (hF8 22 (by decide) j).trans ((fun _ => rfl) j)
  have C56 : ∀ j : Nat, dt6 23 j = dt 23 j := fun j => (hF8 23 (by decide) j).trans ((fun _ => rfl) j)
  have C57 : ∀ j : Nat, dt6 25 j = dt 25 j := fun j => (hF8 25 (by decide) j).trans ((fun _ => rfl) j)
  have C58 : ∀ j : Nat, dt6 26 j = dt 26 j := fun j => (hF8 26 (by decide) j).trans ((fun _ => rfl) j)
  have C59 : ∀ j : Nat, dt6 28 j = dt 28 j := fun j => (hF8 28 (by decide) j).trans ((fun _ => rfl) j)
  have C60 : ∀ j : Nat, dt6 13 j = dt 13 j := fun j => (hF8 13 (by decide) j).trans ((fun _ => rfl) j)
  have C61 : ∀ j : Nat, dt6 30 j = dt 30 j := fun j => (hF8 30 (by decide) j).trans ((fun _ => rfl) j)
  have C62 : ∀ j : Nat, dt6 36 j = dt 36 j := fun j => (hF8 36 (by decide) j).trans ((fun _ => rfl) j)
  have C63 : ∀ j : Nat, dt6 80 j = dt 80 j := fun j => (hF8 80 (by decide) j).trans ((fun _ => rfl) j)
  have C64 : ∀ j : Nat, dt6 81 j = dt 81 j := fun j => (hF8 81 (by decide) j).trans ((fun _ => rfl) j)
  have C65 : ∀ j : Nat, dt6 85 j = dt 85 j := fun j => (hF8 85 (by decide) j).trans ((fun _ => rfl) j)
  refine go_toq PM267 (k := 6) (pc' := 428) (L' := [some (.inr (.inr (some 3000))), some (.inr (.inr (some 0))), some (.inr (.inr (some 79))), some (.inl i)]) (st' := [.inl (i + 1), .inr (.inr (some 3000)), .inr (.inr (some 79))]) (w' := (SH, dt6)) rfl ?_
  have r66 := i32_R (xs ((i + 1).toNat))
  refine go_smpq PM267 (L' := [some (.inr (.inr (some 3000))), some (.inr (.inr (some 0))), some (.inr (.inr (some 79))), some (.inl i)]) (st' := [.inl ((xs ((i + 1).toNat)).toInt), .inr (.inr (some 79))]) (w' := (SH, dt6)) rfl rfl (s_iald (n := L) (f := fun j => (xs j).toInt) (am_scr hLL) ⟨by omega, by omega⟩) ?_
  refine go_toq PM267 (k := 4) (pc' := 433) (L' := [some (.inr (.inr (some 3000))), some (.inr (.inr (some 0))), some (.inr (.inr (some 79))), some (.inl i)]) (st' := [.inl (i + 2), .inr (.inr (some 3000)), .inl ((xs ((i + 1).toNat)).toInt), .inr (.inr (some 79))]) (w' := (SH, dt6)) rfl ?_
  have r67 := i32_R (xs ((i + 2).toNat))
  refine go_smpq PM267 (L' := [some (.inr (.inr (some 3000))), some (.inr (.inr (some 0))), some (.inr (.inr (some 79))), some (.inl i)]) (st' := [.inl ((xs ((i + 2).toNat)).toInt), .inl ((xs ((i + 1).toNat)).toInt), .inr (.inr (some 79))]) (w' := (SH, dt6)) rfl rfl (s_iald (n := L) (f := fun j => (xs j).toInt) (am_scr hLL) ⟨by omega, by omega⟩) ?_
  refine go_toq PM267 (k := 4) (pc' := 438) (L' := [some (.inr (.inr (some 3000))), some (.inr (.inr (some 0))), some (.inr (.inr (some 79))), some (.inl i)]) (st' := [.inl (i + 3), .inr (.inr (some 3000)), .inl ((xs ((i + 2).toNat)).toInt), .inl ((xs ((i + 1).toNat)).toInt), .inr (.inr (some 79))]) (w' := (SH, dt6)) rfl ?_
  have r68 := i32_R (xs ((i + 3).toNat))
  refine go_smpq PM267 (L' := [some (.inr (.inr (some 3000))), some (.inr (.inr (some 0))), some (.inr (.inr (some 79))), some (.inl i)]) (st' := [.inl ((xs ((i + 3).toNat)).toInt), .inl ((xs ((i + 2).toNat)).toInt), .inl ((xs ((i + 1).toNat)).toInt), .inr (.inr (some 79))]) (w' := (SH, dt6)) rfl rfl (s_iald (n := L) (f := fun j => (xs j).toInt) (am_scr hLL) ⟨by omega, by omega⟩) ?_
  refine go_toq PM267 (k := 4) (pc' := 443) (L' := [some (.inr (.inr (some 3000))), some (.inr (.inr (some 0))), some (.inr (.inr (some 79))), some (.inl i)]) (st' := [.inl (i + 4), .inr (.inr (some 3000)), .inl ((xs ((i + 3).toNat)).toInt), .inl ((xs ((i + 2).toNat)).toInt), .inl ((xs ((i + 1).toNat)).toInt), .inr (.inr (some 79))]) (w' := (SH, dt6)) rfl ?_
  have r69 := i32_R (xs ((i + 4).toNat))
  refine go_smpq PM267 (L' := [some (.inr (.inr (some 3000))), some (.inr (.inr (some 0))), some (.inr (.inr (some 79))), some (.inl i)]) (st' := [.inl ((xs ((i + 4).toNat)).toInt), .inl ((xs ((i + 3).toNat)).toInt), .inl ((xs ((i + 2).toNat)).toInt), .inl ((xs ((i + 1).toNat)).toInt), .inr (.inr (some 79))]) (w' := (SH, dt6)) rfl rfl (s_iald (n := L) (f := fun j => (xs j).toInt) (am_scr hLL) ⟨by omega, by omega⟩) ?_
  refine go_callq PM267 PM189 (Q' := _) rfl rfl rfl rfl (sp_X6_thinks L xs sio (d + 33) dt6 hI7 hM10  ((xs ((i + 1).toNat)).toInt) ⟨by omega, by omega⟩ ((xs ((i + 2).toNat)).toInt) ⟨by omega, by omega⟩ ((xs ((i + 3).toNat)).toInt) ⟨by omega, by omega⟩ ((xs ((i + 4).toNat)).toInt) ⟨by omega, by omega⟩ ) ?_
  rintro _ _ ⟨dt71, rfl, hI72, hF73, h70⟩
  refine ⟨rfl, ?_⟩
  have hF74 : Fr [0, 1, 2, 3, 4, 5, 6, 7, 8, 9, 10, 11, 12, 13, 14, 15, 16, 17, 18, 19, 20, 21, 22, 23, 24, 25, 26, 27, 28, 29, 30, 31, 32, 33, 34, 35, 36, 37, 38, 39, 40, 41, 42, 43, 44, 45, 46, 47, 48, 49, 50, 51, 52, 53, 54, 55, 56, 57, 58, 59, 60, 61, 62, 63, 64, 65, 66, 67, 68, 69, 70, 71, 72, 73, 74, 75, 76, 77, 78, 79, 80, 81, 82, 83, 84, 85, 86, 87, 88, 89, 90, 91, 92, 93, 94, 95, 96, 97, 98, 99, 100, 101, 102, 103, 104] dt dt71 := Fr_tr hF9 hF73 (by decide)
  have hM75 : MW (dt71 80) := MW_fr hM10 hF73 (by decide)
  have w76 : dt71 1 0 = dt 1 0 := (hF73 1 (by decide) 0).trans w11
  have w77 : dt71 7 3 = dt 7 3 := (hF73 7 (by decide) 3).trans w12
  have w78 : dt71 10 3 = dt 10 3 := (hF73 10 (by decide) 3).trans w13
  have w79 : dt71 12 3 = dt 12 3 := (hF73 12 (by decide) 3).trans w14
  have w80 : dt71 14 3 = dt 14 3 := (hF73 14 (by decide) 3).trans w15
  have w81 : dt71 16 3 = dt 16 3 := (hF73 16 (by decide) 3).trans w16
  have w82 : dt71 18 0 = dt 18 0 := (hF73 18 (by decide) 0).trans w17
  have w83 : dt71 24 3 = dt 24 3 := (hF73 24 (by decide) 3).trans w18
  have w84 : dt71 27 3 = dt 27 3 := (hF73 27 (by decide) 3).trans w19
  have w85 : dt71 29 3 = dt 29 3 := (hF73 29 (by decide) 3).trans w20
  have w86 : dt71 31 3 = dt 31 3 := (hF73 31 (by decide) 3).trans w21
  have w87 : dt71 33 3 = dt 33 3 := (hF73 33 (by decide) 3).trans w22
  have w88 : dt71 0 2 = dt 0 2 := (hF73 0 (by decide) 2).trans w23
  have w89 : dt71 35 1 = dt 35 1 := (hF73 35 (by decide) 1).trans w24
  have w90 : dt71 35 2 = dt 35 2 := (hF73 35 (by decide) 2).trans w25
  have w91 : dt71 35 3 = dt 35 3 := (hF73 35 (by decide) 3).trans w26
  have w92 : dt71 80 0 = dt 80 0 := (hF73 80 (by decide) 0).trans w27
  have w93 : dt71 80 1 = dt 80 1 := (hF73 80 (by decide) 1).trans w28
  have w94 : dt71 80 2 = dt 80 2 := (hF73 80 (by decide) 2).trans w29
  have w95 : dt71 80 3 = dt 80 3 := (hF73 80 (by decide) 3).trans w30
  have w96 : dt71 80 4 = dt 80 4 := (hF73 80 (by decide) 4).trans w31
  have w97 : dt71 80 5 = dt 80 5 := (hF73 80 (by decide) 5).trans w32
  have w98 : dt71 81 0 = dt 81 0 := (hF73 81 (by decide) 0).trans w33
  have w99 : dt71 81 1 = dt 81 1 := (hF73 81 (by decide) 1).trans w34
  have w100 : dt71 81 2 = dt 81 2 := (hF73 81 (by decide) 2).trans w35
  have w101 : dt71 81 3 = dt 81 3 := (hF73 81 (by decide) 3).trans w36
  have w102 : dt71 81 4 = dt 81 4 := (hF73 81 (by decide) 4).trans w37
  have w103 : dt71 81 5 = dt 81 5 := (hF73 81 (by decide) 5).trans w38
  have w104 : dt71 79 2 = dt 79 2 := (hF73 79 (by decide) 2).trans w39
  have w105 : dt71 79 12 = dt 79 12 := (hF73 79 (by decide) 12).trans w40
  have w106 : dt71 79 19 = dt 79 19 := (hF73 79 (by decide) 19).trans w41
  have w107 : dt71 79 21 = dt 79 21 := (hF73 79 (by decide) 21).trans w42
  rcases h70 with ⟨v_h70, rfl, h70r, h70⟩
  have M2108 : MW (dt71 81) := MW_frk M243 hF73 (by decide)
  have C109 : ∀ j : Nat, dt71 2 j = dt 2 j := fun j => (hF73 2 (by decide) j).trans (C44 j)
  have C110 : ∀ j : Nat, dt71 3 j = dt 3 j := fun j => (hF73 3 (by decide) j).trans (C45 j)
  have C111 : ∀ j : Nat, dt71 4 j = dt 4 j := fun j => (hF73 4 (by decide) j).trans (C46 j)
  have C112 : ∀ j : Nat, dt71 5 j = dt 5 j := fun j => (hF73 5 (by decide) j).trans (C47 j)
  have C113 : ∀ j : Nat, dt71 6 j = dt 6 j := fun j => (hF73 6 (by decide) j).trans (C48 j)
  have C114 : ∀ j : Nat, dt71 8 j = dt 8 j := fun j => (hF73 8 (by decide) j).trans (C49 j)
  have C115 : ∀ j : Nat, dt71 9 j = dt 9 j := fun j => (hF73 9 (by decide) j).trans (C50 j)
  have C116 : ∀ j : Nat, dt71 11 j = dt 11 j := fun j => (hF73 11 (by decide) j).trans (C51 j)
  have C117 : ∀ j : Nat, dt71 19 j = dt 19 j := fun j => (hF73 19 (by decide) j).trans (C52 j)
  have C118 : ∀ j : Nat, dt71 20 j = dt 20 j := fun j => (hF73 20 (by decide) j).trans (C53 j)
  have C119 : ∀ j : Nat, dt71 21 j = dt 21 j := fun j => (hF73 21 (by decide) j).trans (C54 j)
  have C120 : ∀ j : Nat, dt71 22 j = dt 22 j := fun j => (hF73 22 (by decide) j).trans (C55 j)
  have C121 : ∀ j : Nat, dt71 23 j = dt 23 j := fun j => (hF73 23 (by decide) j).trans (C56 j)
  have C122 : ∀ j : Nat, dt71 25 j = dt 25 j := fun j => (hF73 25 (by decide) j).trans (C57 j)
  have C123 : ∀ j : Nat, dt71 26 j = dt 26 j := fun j => (hF73 26 (by decide) j).trans (C58 j)
  have C124 : ∀ j : Nat, dt71 28 j = dt 28 j := fun j => (hF73 28 (by decide) j).trans (C59 j)
  have C125 : ∀ j : Nat, dt71 13 j = dt 13 j := fun j => (hF73 13 (by decide) j).trans (C60 j)
  have C126 : ∀ j : Nat, dt71 30 j = dt 30 j := fun j => (hF73 30 (by decide) j).trans (C61 j)
  have C127 : ∀ j : Nat, dt71 36 j = dt 36 j := fun j => (hF73 36 (by decide) j).trans (C62 j)
  have C128 : ∀ j : Nat, dt71 80 j = dt 80 j := fun j => (hF73 80 (by decide) j).trans (C63 j)
  have C129 : ∀ j : Nat, dt71 81 j = dt 81 j := fun j => (hF73 81 (by decide) j).trans (C64 j)
  have C130 : ∀ j : Nat, dt71 85 j = dt 85 j := fun j => (hF73 85 (by decide) j).trans (C65 j)
  refine go_toq PM267 (k := 2) (pc' := 1435) (L' := [some (.inr (.inr (some 3000))), some (.inr (.inr (some 0))), some (.inr (.inr (some 79))), some (.inl i)]) (st' := []) (w' := (SH, dt71)) rfl ?_
  exact K dt71 hI72 hM75 M2108 (w76.trans (hk0.trans w92.symm)) (w77.trans (hk1.trans w93.symm)) (w78.trans (hk2.trans w94.symm)) (w79.trans (hk3.trans w95.symm)) (w80.trans (hk4.trans w96.symm)) (w81.trans (hk5.trans w97.symm)) (w82.trans (hk6.trans w98.symm)) (w83.trans (hk7.trans w99.symm)) (w84.trans (hk8.trans w100.symm)) (w85.trans (hk9.trans w101.symm)) (w86.trans (hk10.trans w102.symm)) (w87.trans (hk11.trans w103.symm)) (w88.trans (hk12.trans w104.symm)) (w89.trans (hk13.trans w105.symm)) (w90.trans (hk14.trans w106.symm)) (w91.trans (hk15.trans w107.symm)) (by first | exact hI | exact TPL_k hd0 C127 C130 (by omega) | (exfalso; omega)) (by first | exact hI | exact SCL_k hd1 hM (fun j _ => C109 j) (fun j _ => C110 j) (fun j _ _ => C128 j) | (exfalso; omega)) (by first | exact hI | exact SCL_k hd2 hM2 (fun j _ => C117 j) (fun j _ => C118 j) (fun j _ _ => C129 j) | (exfalso; omega)) (by first | exact hI | exact QRL_k hd3 hM (fun j _ => C114 j) (C128 1) (fun j _ _ => C128 j) | (exfalso; omega)) (by first | exact hI | exact QRL_k hd4 hM2 (fun j _ => C122 j) (C129 1) (fun j _ _ => C129 j) | (exfalso; omega)) (by first | exact hI | exact SDL_k hd5 hM (fun j _ => C115 j) (C128 1) (fun j _ _ => C128 j) (fun j _ _ => C128 j) | (exfalso; omega)) (by first | exact hI | exact SDL_k hd6 hM2 (fun j _ => C123 j) (C129 1) (fun j _ _ => C129 j) (fun j _ _ => C129 j) | (exfalso; omega)) (by first | exact hI | exact LWL_k hd7 hM (fun j _ => C111 j) (fun j _ => C112 j) (fun j _ => C113 j) (fun j _ _ => C128 j) | (exfalso; omega)) (by first | exact hI | exact LWL_k hd8 hM2 (fun j _ => C119 j) (fun j _ => C120 j) (fun j _ => C121 j) (fun j _ _ => C129 j) | (exfalso; omega)) (by first | exact hI | exact CHL_k hd9 hM (fun j _ => C116 j) (by omega) (fun j _ _ => C128 j) | (exfalso; omega)) (by first | exact hI | exact CHL_k hd10 hM2 (fun j _ => C124 j) (by omega) (fun j _ _ => C129 j) | (exfalso; omega)) (by first | exact hI | exact ANL_k hd11 hM (fun j _ => C125 j) (by omega) (by omega) (by omega) (fun j _ _ => C128 j) | (exfalso; omega)) (by first | exact hI | exact ANL_k hd12 hM2 (fun j _ => C126 j) (by omega) (by omega) (by omega) (fun j _ _ => C129 j) | (exfalso; omega))
set_option maxRecDepth 20000 in
set_option maxHeartbeats 8000000 in
theorem sp_case7 (L : Nat) (xs : Nat → Int32) (sio : Option Nat) (d : Nat) (Q : Option AV → am_W → Prop) (hLL : L ≤ 3072) (i : Int) (hi : 0 ≤ i ∧ i ≤ 3066) (hil : i ≤ (L : Int) - 6) (dt : Nat → Nat → Int) (hI : InvC dt) (hM : MW (dt 80)) (hM2 : MW (dt 81)) (hk0 : dt 1 0 = dt 80 0) (hk1 : dt 7 3 = dt 80 1) (hk2 : dt 10 3 = dt 80 2) (hk3 : dt 12 3 = dt 80 3) (hk4 : dt 14 3 = dt 80 4) (hk5 : dt 16 3 = dt 80 5) (hk6 : dt 18 0 = dt 81 0) (hk7 : dt 24 3 = dt 81 1) (hk8 : dt 27 3 = dt 81 2) (hk9 : dt 29 3 = dt 81 3) (hk10 : dt 31 3 = dt 81 4) (hk11 : dt 33 3 = dt 81 5) (hk12 : dt 0 2 = dt 79 2) (hk13 : dt 35 1 = dt 79 12) (hk14 : dt 35 2 = dt 79 19) (hk15 : dt 35 3 = dt 79 21) (hd0 : TPL (dt 36) (dt 85) (dt 35 1)) (hd1 : SCL (dt 2) (dt 3) (dt 80)) (hd2 : SCL (dt 19) (dt 20) (dt 81)) (hd3 : QRL (dt 8) (dt 80)) (hd4 : QRL (dt 25) (dt 81)) (hd5 : SDL (dt 9) (dt 80)) (hd6 : SDL (dt 26) (dt 81)) (hd7 : LWL (dt 4) (dt 5) (dt 6) (dt 80)) (hd8 : LWL (dt 21) (dt 22) (dt 23) (dt 81)) (hd9 : CHL (dt 11) (dt 80)) (hd10 : CHL (dt 28) (dt 81)) (hd11 : ANL (dt 13) (dt 80)) (hd12 : ANL (dt 30) (dt 81)) (K : ∀ (dt : Nat → Nat → Int) (hI : InvC dt) (hM : MW (dt 80)) (hM2 : MW (dt 81)) (hk0 : dt 1 0 = dt 80 0) (hk1 : dt 7 3 = dt 80 1) (hk2 : dt 10 3 = dt 80 2) (hk3 : dt 12 3 = dt 80 3) (hk4 : dt 14 3 = dt 80 4) (hk5 : dt 16 3 = dt 80 5) (hk6 : dt 18 0 = dt 81 0) (hk7 : dt 24 3 = dt 81 1) (hk8 : dt 27 3 = dt 81 2) (hk9 : dt 29 3 = dt 81 3) (hk10 : dt 31 3 = dt 81 4) (hk11 : dt 33 3 = dt 81 5) (hk12 : dt 0 2 = dt 79 2) (hk13 : dt 35 1 = dt 79 12) (hk14 : dt 35 2 = dt 79 19) (hk15 : dt 35 3 = dt 79 21) (hd0 : TPL (dt 36) (dt 85) (dt 35 1)) (hd1 : SCL (dt 2) (dt 3) (dt 80)) (hd2 : SCL (dt 19) (dt 20) (dt 81)) (hd3 : QRL (dt 8) (dt 80)) (hd4 : QRL (dt 25) (dt 81)) (hd5 : SDL (dt 9) (dt 80)) (hd6 : SDL (dt 26) (dt 81)) (hd7 : LWL (dt 4) (dt 5) (dt 6) (dt 80)) (hd8 : LWL (dt 21) (dt 22) (dt 23) (dt 81)) (hd9 : CHL (dt 11) (dt 80)) (hd10 : CHL (dt 28) (dt 81)) (hd11 : ANL (dt 13) (dt 80)) (hd12 : ANL (dt 30) (dt 81)), GO (am_XX L xs sio) (d + 39) 267 1435 [some (.inr (.inr (some 3000))), some (.inr (.inr (some 0))), some (.inr (.inr (some 79))), some (.inl i)] [] (SH, dt) Q) : GO (am_XX L xs sio) (d + 39) 267 451 [some (.inr (.inr (some 3000))), some (.inr (.inr (some 0))), some (.inr (.inr (some 79))), some (.inl i)] [] (SH, dt) Q := by
  have hF : Fr [0, 1, 2, 3, 4, 5, 6, 7, 8, 9, 10, 11, 12, 13, 14, 15, 16, 17, 18, 19, 20, 21, 22, 23, 24, 25, 26, 27, 28, 29, 30, 31, 32, 33, 34, 35, 36, 37, 38, 39, 40, 41, 42, 43, 44, 45, 46, 47, 48, 49, 50, 51, 52, 53, 54, 55, 56, 57, 58, 59, 60, 61, 62, 63, 64, 65, 66, 67, 68, 69, 70, 71, 72, 73, 74, 75, 76, 77, 78, 79, 80, 81, 82, 83, 84, 85, 86, 87, 88, 89, 90, 91, 92, 93, 94, 95, 96, 97, 98, 99, 100, 101, 102, 103, 104] dt dt := Fr_refl
  have hqo := QOC_R hd3 hM hk1
  have hb1_ := hM.1.1
  have hb2_ := hM.1.2.1
  have hb3_ := hM.1.2.2.1
  have halk : ALK dt (dt 80) := ⟨hd7, hd3, hd5, hd9, hk1, hk2⟩
  have hav_ : ∀ i : Nat, (i : Int) < dt 12 3 → 0 ≤ dt 13 (6 * i + 1) ∧ dt 13 (6 * i + 1) < dt 7 3 := fun i hi => by have z := hd11 i (by omega); have y := z.2.2 1 (by decide); have w := z.2.1; omega
  refine go_toq PM267 (k := 5) (pc' := 456) (L' := [some (.inr (.inr (some 3000))), some (.inr (.inr (some 0))), some (.inr (.inr (some 79))), some (.inl i)]) (st' := [.inl (i + 1), .inr (.inr (some 3000)), .inr (.inr (some 0))]) (w' := (SH, dt)) rfl ?_
  have r1 := i32_R (xs ((i + 1).toNat))
  refine go_smpq PM267 (L' := [some (.inr (.inr (some 3000))), some (.inr (.inr (some 0))), some (.inr (.inr (some 79))), some (.inl i)]) (st' := [.inl ((xs ((i + 1).toNat)).toInt), .inr (.inr (some 0))]) (w' := (SH, dt)) rfl rfl (s_iald (n := L) (f := fun j => (xs j).toInt) (am_scr hLL) ⟨by omega, by omega⟩) ?_
  refine go_toq PM267 (k := 4) (pc' := 461) (L' := [some (.inr (.inr (some 3000))), some (.inr (.inr (some 0))), some (.inr (.inr (some 79))), some (.inl i)]) (st' := [.inl (i + 2), .inr (.inr (some 3000)), .inl ((xs ((i + 1).toNat)).toInt), .inr (.inr (some 0))]) (w' := (SH, dt)) rfl ?_
  have r2 := i32_R (xs ((i + 2).toNat))
  refine go_smpq PM267 (L' := [some (.inr (.inr (some 3000))), some (.inr (.inr (some 0))), some (.inr (.inr (some 79))), some (.inl i)]) (st' := [.inl ((xs ((i + 2).toNat)).toInt), .inl ((xs ((i + 1).toNat)).toInt), .inr (.inr (some 0))]) (w' := (SH, dt)) rfl rfl (s_iald (n := L) (f := fun j => (xs j).toInt) (am_scr hLL) ⟨by omega, by omega⟩) ?_
  refine go_toq PM267 (k := 4) (pc' := 466) (L' := [some (.inr (.inr (some 3000))), some (.inr (.inr (some 0))), some (.inr (.inr (some 79))), some (.inl i)]) (st' := [.inl (i + 3), .inr (.inr (some 3000)), .inl ((xs ((i + 2).toNat)).toInt), .inl ((xs ((i + 1).toNat)).toInt), .inr (.inr (some 0))]) (w' := (SH, dt)) rfl ?_
  have r3 := i32_R (xs ((i + 3).toNat))
  refine go_smpq PM267 (L' := [some (.inr (.inr (some 3000))), some (.inr (.inr (some 0))), some (.inr (.inr (some 79))), some (.inl i)]) (st' := [.inl ((xs ((i + 3).toNat)).toInt), .inl ((xs ((i + 2).toNat)).toInt), .inl ((xs ((i + 1).toNat)).toInt), .inr (.inr (some 0))]) (w' := (SH, dt)) rfl rfl (s_iald (n := L) (f := fun j => (xs j).toInt) (am_scr hLL) ⟨by omega, by omega⟩) ?_
  refine go_callq PM267 PM74 (Q' := _) rfl rfl rfl rfl (sp_X5_here L xs sio (d + 33) dt hI  ((xs ((i + 1).toNat)).toInt) ⟨by omega, by omega⟩ ((xs ((i + 2).toNat)).toInt) ⟨by omega, by omega⟩ ((xs ((i + 3).toNat)).toInt) ⟨by omega, by omega⟩ ) ?_
  rintro _ _ ⟨dt5, rfl, hI6, hF7, h4⟩
  refine ⟨rfl, ?_⟩
  have hF8 : Fr [0, 1, 2, 3, 4, 5, 6, 7, 8, 9, 10, 11, 12, 13, 14, 15, 16, 17, 18, 19, 20, 21, 22, 23, 24, 25, 26, 27, 28, 29, 30, 31, 32, 33, 34, 35, 36, 37, 38, 39, 40, 41, 42, 43, 44, 45, 46, 47, 48, 49, 50, 51, 52, 53, 54, 55, 56, 57, 58, 59, 60, 61, 62, 63, 64, 65, 66, 67, 68, 69, 70, 71, 72, 73, 74, 75, 76, 77, 78, 79, 80, 81, 82, 83, 84, 85, 86, 87, 88, 89, 90, 91, 92, 93, 94, 95, 96, 97, 98, 99, 100, 101, 102, 103, 104] dt dt5 := Fr_tr hF hF7 (by decide)
  have hM9 : MW (dt5 80) := MW_fr hM hF7 (by decide)
  have w10 : dt5 1 0 = dt 1 0 := hF7 1 (by decide) 0
  have w11 : dt5 7 3 = dt 7 3 := hF7 7 (by decide) 3
  have w12 : dt5 10 3 = dt 10 3 := hF7 10 (by decide) 3
  have w13 : dt5 12 3 = dt 12 3 := hF7 12 (by decide) 3
  have w14 : dt5 14 3 = dt 14 3 := hF7 14 (by decide) 3
  have w15 : dt5 16 3 = dt 16 3 := hF7 16 (by decide) 3
  have w16 : dt5 18 0 = dt 18 0 := hF7 18 (by decide) 0
  have w17 : dt5 24 3 = dt 24 3 := hF7 24 (by decide) 3
  have w18 : dt5 27 3 = dt 27 3 := hF7 27 (by decide) 3
  have w19 : dt5 29 3 = dt 29 3 := hF7 29 (by decide) 3
  have w20 : dt5 31 3 = dt 31 3 := hF7 31 (by decide) 3
  have w21 : dt5 33 3 = dt 33 3 := hF7 33 (by decide) 3
  have w22 : dt5 0 2 = dt 0 2 := hF7 0 (by decide) 2
  have w23 : dt5 35 1 = dt 35 1 := hF7 35 (by decide) 1
  have w24 : dt5 35 2 = dt 35 2 := hF7 35 (by decide) 2
  have w25 : dt5 35 3 = dt 35 3 := hF7 35 (by decide) 3
  have w26 : dt5 80 0 = dt 80 0 := hF7 80 (by decide) 0
  have w27 : dt5 80 1 = dt 80 1 := hF7 80 (by decide) 1
  have w28 : dt5 80 2 = dt 80 2 := hF7 80 (by decide) 2
  have w29 : dt5 80 3 = dt 80 3 := hF7 80 (by decide) 3
  have w30 : dt5 80 4 = dt 80 4 := hF7 80 (by decide) 4
  have w31 : dt5 80 5 = dt 80 5 := hF7 80 (by decide) 5
  have w32 : dt5 81 0 = dt 81 0 := hF7 81 (by decide) 0
  have w33 : dt5 81 1 = dt 81 1 := hF7 81 (by decide) 1
  have w34 : dt5 81 2 = dt 81 2 := hF7 81 (by decide) 2
  have w35 : dt5 81 3 = dt 81 3 := hF7 81 (by decide) 3
  have w36 : dt5 81 4 = dt 81 4 := hF7 81 (by decide) 4
  have w37 : dt5 81 5 = dt 81 5 := hF7 81 (by decide) 5
  have w38 : dt5 79 2 = dt 79 2 := hF7 79 (by decide) 2
  have w39 : dt5 79 12 = dt 79 12 := hF7 79 (by decide) 12
  have w40 : dt5 79 19 = dt 79 19 := hF7 79 (by decide) 19
  have w41 : dt5 79 21 = dt 79 21 := hF7 79 (by decide) 21
  rcases h4 with ⟨v_h4, rfl, h4r, h4⟩
  have M242 : MW (dt5 81) := MW_frk hM2 hF7 (by decide)
  have C43 : ∀ j : Nat, dt5 2 j = dt 2 j := fun j => (hF7 2 (by decide) j).trans ((fun _ => rfl) j)
  have C44 : ∀ j : Nat, dt5 3 j = dt 3 j := fun j => (hF7 3 (by decide) j).trans ((fun _ => rfl) j)
  have C45 : ∀ j : Nat, dt5 4 j = dt 4 j := fun j => (hF7 4 (by decide) j).trans ((fun _ => rfl) j)
  have C46 : ∀ j : Nat, dt5 5 j = dt 5 j := fun j => (hF7 5 (by decide) j).trans ((fun _ => rfl) j)
  have C47 : ∀ j : Nat, dt5 6 j = dt 6 j := fun j => (hF7 6 (by decide) j).trans ((fun _ => rfl) j)
  have C48 : ∀ j : Nat, dt5 8 j = dt 8 j := fun j => (hF7 8 (by decide) j).trans ((fun _ => rfl) j)
  have C49 : ∀ j : Nat, dt5 9 j = dt 9 j := fun j => (hF7 9 (by decide) j).trans ((fun _ => rfl) j)
  have C50 : ∀ j : Nat, dt5 11 j = dt 11 j := fun j => (hF7 11 (by decide) j).trans ((fun _ => rfl) j)
  have C51 : ∀ j : Nat, dt5 19 j = dt 19 j := fun j => (hF7 19 (by decide) j).trans ((fun _ => rfl) j)
  have C52 : ∀ j : Nat, dt5 20 j = dt 20 j := fun j => (hF7 20 (by decide) j).trans ((fun _ => rfl) j)
  have C53 : ∀ j : Nat, dt5 21 j = dt 21 j := fun j => (hF7 21 (by decide) j).trans ((fun _ => rfl) j)
  have C54 : ∀ j : Nat, dt5 22 j = dt 22 j := fun j => (hF7 22 (by decide) j).trans ((fun _ => rfl) j)
  have C55 : ∀ j : Nat, dt5 23 j = dt 23 j := fun j => (hF7 23 (by decide) j).trans ((fun _ => rfl) j)
  have C56 : ∀ j : Nat, dt5 25 j = dt 25 j := fun j => (hF7 25 (by decide) j).trans ((fun _ => rfl) j)
  have C57 : ∀ j : Nat, dt5 26 j = dt 26 j := fun j => (hF7 26 (by decide) j).trans ((fun _ => rfl) j)
  have C58 : ∀ j : Nat, dt5 28 j = dt 28 j := fun j => (hF7 28 (by decide) j).trans ((fun _ => rfl) j)
  have C59 : ∀ j : Nat, dt5 13 j = dt 13 j := fun j => (hF7 13 (by decide) j).trans ((fun _ => rfl) j)
  have C60 : ∀ j : Nat, dt5 30 j = dt 30 j := fun j => (hF7 30 (by decide) j).trans ((fun _ => rfl) j)
  have C61 : ∀ j : Nat, dt5 36 j = dt 36 j := fun j => (hF7 36 (by decide) j).trans ((fun _ => rfl) j)
  have C62 : ∀ j : Nat, dt5 80 j = dt 80 j := fun j => (hF7 80 (by decide) j).trans ((fun _ => rfl) j)
  have C63 : ∀ j : Nat, dt5 81 j = dt 81 j := fun j => (hF7 81 (by decide) j).trans ((fun _ => rfl) j)
  have C64 : ∀ j : Nat, dt5 85 j = dt 85 j := fun j => (hF7 85 (by decide) j).trans ((fun _ => rfl) j)
  refine go_toq PM267 (k := 6) (pc' := 476) (L' := [some (.inr (.inr (some 3000))), some (.inr (.inr (some 0))), some (.inr (.inr (some 79))), some (.inl i)]) (st' := [.inl (i + 1), .inr (.inr (some 3000)), .inr (.inr (some 79))]) (w' := (SH, dt5)) rfl ?_
  have r65 := i32_R (xs ((i + 1).toNat))
  refine go_smpq PM267 (L' := [some (.inr (.inr (some 3000))), some (.inr (.inr (some 0))), some (.inr (.inr (some 79))), some (.inl i)]) (st' := [.inl ((xs ((i + 1).toNat)).toInt), .inr (.inr (some 79))]) (w' := (SH, dt5)) rfl rfl (s_iald (n := L) (f := fun j => (xs j).toInt) (am_scr hLL) ⟨by omega, by omega⟩) ?_
  refine go_toq PM267 (k := 4) (pc' := 481) (L' := [some (.inr (.inr (some 3000))), some (.inr (.inr (some 0))), some (.inr (.inr (some 79))), some (.inl i)]) (st' := [.inl (i + 2), .inr (.inr (some 3000)), .inl ((xs ((i + 1).toNat)).toInt), .inr (.inr (some 79))]) (w' := (SH, dt5)) rfl ?_
  have r66 := i32_R (xs ((i + 2).toNat))
  refine go_smpq PM267 (L' := [some (.inr (.inr (some 3000))), some (.inr (.inr (some 0))), some (.inr (.inr (some 79))), some (.inl i)]) (st' := [.inl ((xs ((i + 2).toNat)).toInt), .inl ((xs ((i + 1).toNat)).toInt), .inr (.inr (some 79))]) (w' := (SH, dt5)) rfl rfl (s_iald (n := L) (f := fun j => (xs j).toInt) (am_scr hLL) ⟨by omega, by omega⟩) ?_
  refine go_toq PM267 (k := 4) (pc' := 486) (L' := [some (.inr (.inr (some 3000))), some (.inr (.inr (some 0))), some (.inr (.inr (some 79))), some (.inl i)]) (st' := [.inl (i + 3), .inr (.inr (some 3000)), .inl ((xs ((i + 2).toNat)).toInt), .inl ((xs ((i + 1).toNat)).toInt), .inr (.inr (some 79))]) (w' := (SH, dt5)) rfl ?_
  have r67 := i32_R (xs ((i + 3).toNat))
  refine go_smpq PM267 (L' := [some (.inr (.inr (some 3000))), some (.inr (.inr (some 0))), some (.inr (.inr (some 79))), some (.inl i)]) (st' := [.inl ((xs ((i + 3).toNat)).toInt), .inl ((xs ((i + 2).toNat)).toInt), .inl ((xs ((i + 1).toNat)).toInt), .inr (.inr (some 79))]) (w' := (SH, dt5)) rfl rfl (s_iald (n := L) (f := fun j => (xs j).toInt) (am_scr hLL) ⟨by omega, by omega⟩) ?_
  refine go_callq PM267 PM190 (Q' := _) rfl rfl rfl rfl (sp_X6_here L xs sio (d + 33) dt5 hI6 hM9  ((xs ((i + 1).toNat)).toInt) ⟨by omega, by omega⟩ ((xs ((i + 2).toNat)).toInt) ⟨by omega, by omega⟩ ((xs ((i + 3).toNat)).toInt) ⟨by omega, by omega⟩ ) ?_
  rintro _ _ ⟨dt69, rfl, hI70, hF71, h68⟩
  refine ⟨rfl, ?_⟩
  have hF72 : Fr [0, 1, 2, 3, 4, 5, 6, 7, 8, 9, 10, 11, 12, 13, 14, 15, 16, 17, 18, 19, 20, 21, 22, 23, 24, 25, 26, 27, 28, 29, 30, 31, 32, 33, 34, 35, 36, 37, 38, 39, 40, 41, 42, 43, 44, 45, 46, 47, 48, 49, 50, 51, 52, 53, 54, 55, 56, 57, 58, 59, 60, 61, 62, 63, 64, 65, 66, 67, 68, 69, 70, 71, 72, 73, 74, 75, 76, 77, 78, 79, 80, 81, 82, 83, 84, 85, 86, 87, 88, 89, 90, 91, 92, 93, 94, 95, 96, 97, 98, 99, 100, 101, 102, 103, 104] dt dt69 := Fr_tr hF8 hF71 (by decide)
  have hM73 : MW (dt69 80) := MW_fr hM9 hF71 (by decide)
  have w74 : dt69 1 0 = dt 1 0 := (hF71 1 (by decide) 0).trans w10
  have w75 : dt69 7 3 = dt 7 3 := (hF71 7 (by decide) 3).trans w11
  have w76 : dt69 10 3 = dt 10 3 := (hF71 10 (by decide) 3).trans w12
  have w77 : dt69 12 3 = dt 12 3 := (hF71 12 (by decide) 3).trans w13
  have w78 : dt69 14 3 = dt 14 3 := (hF71 14 (by decide) 3).trans w14
  have w79 : dt69 16 3 = dt 16 3 := (hF71 16 (by decide) 3).trans w15
  have w80 : dt69 18 0 = dt 18 0 := (hF71 18 (by decide) 0).trans w16
  have w81 : dt69 24 3 = dt 24 3 := (hF71 24 (by decide) 3).trans w17
  have w82 : dt69 27 3 = dt 27 3 := (hF71 27 (by decide) 3).trans w18
  have w83 : dt69 29 3 = dt 29 3 := (hF71 29 (by decide) 3).trans w19
  have w84 : dt69 31 3 = dt 31 3 := (hF71 31 (by decide) 3).trans w20
  have w85 : dt69 33 3 = dt 33 3 := (hF71 33 (by decide) 3).trans w21
  have w86 : dt69 0 2 = dt 0 2 := (hF71 0 (by decide) 2).trans w22
  have w87 : dt69 35 1 = dt 35 1 := (hF71 35 (by decide) 1).trans w23
  have w88 : dt69 35 2 = dt 35 2 := (hF71 35 (by decide) 2).trans w24
  have w89 : dt69 35 3 = dt 35 3 := (hF71 35 (by decide) 3).trans w25
  have w90 : dt69 80 0 = dt 80 0 := (hF71 80 (by decide) 0).trans w26
  have w91 : dt69 80 1 = dt 80 1 := (hF71 80 (by decide) 1).trans w27
  have w92 : dt69 80 2 = dt 80 2 := (hF71 80 (by decide) 2).trans w28
  have w93 : dt69 80 3 = dt 80 3 := (hF71 80 (by decide) 3).trans w29
  have w94 : dt69 80 4 = dt 80 4 := (hF71 80 (by decide) 4).trans w30
  have w95 : dt69 80 5 = dt 80 5 := (hF71 80 (by decide) 5).trans w31
  have w96 : dt69 81 0 = dt 81 0 := (hF71 81 (by decide) 0).trans w32
  have w97 : dt69 81 1 = dt 81 1 := (hF71 81 (by decide) 1).trans w33
  have w98 : dt69 81 2 = dt 81 2 := (hF71 81 (by decide) 2).trans w34
  have w99 : dt69 81 3 = dt 81 3 := (hF71 81 (by decide) 3).trans w35
  have w100 : dt69 81 4 = dt 81 4 := (hF71 81 (by decide) 4).trans w36
  have w101 : dt69 81 5 = dt 81 5 := (hF71 81 (by decide) 5).trans w37
  have w102 : dt69 79 2 = dt 79 2 := (hF71 79 (by decide) 2).trans w38
  have w103 : dt69 79 12 = dt 79 12 := (hF71 79 (by decide) 12).trans w39
  have w104 : dt69 79 19 = dt 79 19 := (hF71 79 (by decide) 19).trans w40
  have w105 : dt69 79 21 = dt 79 21 := (hF71 79 (by decide) 21).trans w41
  rcases h68 with ⟨rfl, h68⟩ | ⟨rfl, h68⟩ | ⟨rfl, h68⟩
  · skip
    have M2106 : MW (dt69 81) := MW_frk M242 hF71 (by decide)
    have C107 : ∀ j : Nat, dt69 2 j = dt 2 j := fun j => (hF71 2 (by decide) j).trans (C43 j)
    have C108 : ∀ j : Nat, dt69 3 j = dt 3 j := fun j => (hF71 3 (by decide) j).trans (C44 j)
    have C109 : ∀ j : Nat, dt69 4 j = dt 4 j := fun j => (hF71 4 (by decide) j).trans (C45 j)
    have C110 : ∀ j : Nat, dt69 5 j = dt 5 j := fun j => (hF71 5 (by decide) j).trans (C46 j)
    have C111 : ∀ j : Nat, dt69 6 j = dt 6 j := fun j => (hF71 6 (by decide) j).trans (C47 j)
    have C112 : ∀ j : Nat, dt69 8 j = dt 8 j := fun j => (hF71 8 (by decide) j).trans (C48 j)
    have C113 : ∀ j : Nat, dt69 9 j = dt 9 j := fun j => (hF71 9 (by decide) j).trans (C49 j)
    have C114 : ∀ j : Nat, dt69 11 j = dt 11 j := fun j => (hF71 11 (by decide) j).trans (C50 j)
    have C115 : ∀ j : Nat, dt69 19 j = dt 19 j := fun j => (hF71 19 (by decide) j).trans (C51 j)
    have C116 : ∀ j : Nat, dt69 20 j = dt 20 j := fun j => (hF71 20 (by decide) j).trans (C52 j)
    have C117 : ∀ j : Nat, dt69 21 j = dt 21 j := fun j => (hF71 21 (by decide) j).trans (C53 j)
    have C118 : ∀ j : Nat, dt69 22 j = dt 22 j := fun j => (hF71 22 (by decide) j).trans (C54 j)
    have C119 : ∀ j : Nat, dt69 23 j = dt 23 j := fun j => (hF71 23 (by decide) j).trans (C55 j)
    have C120 : ∀ j : Nat, dt69 25 j = dt 25 j := fun j => (hF71 25 (by decide) j).trans (C56 j)
    have C121 : ∀ j : Nat, dt69 26 j = dt 26 j := fun j => (hF71 26 (by decide) j).trans (C57 j)
    have C122 : ∀ j : Nat, dt69 28 j = dt 28 j := fun j => (hF71 28 (by decide) j).trans (C58 j)
    have C123 : ∀ j : Nat, dt69 13 j = dt 13 j := fun j => (hF71 13 (by decide) j).trans (C59 j)
    have C124 : ∀ j : Nat, dt69 30 j = dt 30 j := fun j => (hF71 30 (by decide) j).trans (C60 j)
    have C125 : ∀ j : Nat, dt69 36 j = dt 36 j := fun j => (hF71 36 (by decide) j).trans (C61 j)
    have C126 : ∀ j : Nat, dt69 80 j = dt 80 j := fun j => (hF71 80 (by decide) j).trans (C62 j)
    have C127 : ∀ j : Nat, dt69 81 j = dt 81 j := fun j => (hF71 81 (by decide) j).trans (C63 j)
    have C128 : ∀ j : Nat, dt69 85 j = dt 85 j := fun j => (hF71 85 (by decide) j).trans (C64 j)
    refine go_toq PM267 (k := 2) (pc' := 1435) (L' := [some (.inr (.inr (some 3000))), some (.inr (.inr (some 0))), some (.inr (.inr (some 79))), some (.inl i)]) (st' := []) (w' := (SH, dt69)) rfl ?_
    exact K dt69 hI70 hM73 M2106 (w74.trans (hk0.trans w90.symm)) (w75.trans (hk1.trans w91.symm)) (w76.trans (hk2.trans w92.symm)) (w77.trans (hk3.trans w93.symm)) (w78.trans (hk4.trans w94.symm)) (w79.trans (hk5.trans w95.symm)) (w80.trans (hk6.trans w96.symm)) (w81.trans (hk7.trans w97.symm)) (w82.trans (hk8.trans w98.symm)) (w83.trans (hk9.trans w99.symm)) (w84.trans (hk10.trans w100.symm)) (w85.trans (hk11.trans w101.symm)) (w86.trans (hk12.trans w102.symm)) (w87.trans (hk13.trans w103.symm)) (w88.trans (hk14.trans w104.symm)) (w89.trans (hk15.trans w105.symm)) (by first | exact hI | exact TPL_k hd0 C125 C128 (by omega) | (exfalso; omega)) (by first | exact hI | exact SCL_k hd1 hM (fun j _ => C107 j) (fun j _ => C108 j) (fun j _ _ => C126 j) | (exfalso; omega)) (by first | exact hI | exact SCL_k hd2 hM2 (fun j _ => C115 j) (fun j _ => C116 j) (fun j _ _ => C127 j) | (exfalso; omega)) (by first | exact hI | exact QRL_k hd3 hM (fun j _ => C112 j) (C126 1) (fun j _ _ => C126 j) | (exfalso; omega)) (by first | exact hI | exact QRL_k hd4 hM2 (fun j _ => C120 j) (C127 1) (fun j _ _ => C127 j) | (exfalso; omega)) (by first | exact hI | exact SDL_k hd5 hM (fun j _ => C113 j) (C126 1) (fun j _ _ => C126 j) (fun j _ _ => C126 j) | (exfalso; omega)) (by first | exact hI | exact SDL_k hd6 hM2 (fun j _ => C121 j) (C127 1) (fun j _ _ => C127 j) (fun j _ _ => C127 j) | (exfalso; omega)) (by first | exact hI | exact LWL_k hd7 hM (fun j _ => C109 j) (fun j _ => C110 j) (fun j _ => C111 j) (fun j _ _ => C126 j) | (exfalso; omega)) (by first | exact hI | exact LWL_k hd8 hM2 (fun j _ => C117 j) (fun j _ => C118 j) (fun j _ => C119 j) (fun j _ _ => C127 j) | (exfalso; omega)) (by first | exact hI | exact CHL_k hd9 hM (fun j _ => C114 j) (by omega) (fun j _ _ => C126 j) | (exfalso; omega)) (by first | exact hI | exact CHL_k hd10 hM2 (fun j _ => C122 j) (by omega) (fun j _ _ => C127 j) | (exfalso; omega)) (by first | exact hI | exact ANL_k hd11 hM (fun j _ => C123 j) (by omega) (by omega) (by omega) (fun j _ _ => C126 j) | (exfalso; omega)) (by first | exact hI | exact ANL_k hd12 hM2 (fun j _ => C124 j) (by omega) (by omega) (by omega) (fun j _ _ => C127 j) | (exfalso; omega))
  · skip
    have M2129 : MW (dt69 81) := MW_frk M242 hF71 (by decide)
    have C130 : ∀ j : Nat, dt69 2 j = dt 2 j := fun j => (hF71 2 (by decide) j).trans (C43 j)
    have C131 : ∀ j : Nat, dt69 3 j = dt 3 j := fun j => (hF71 3 (by decide) j).trans (C44 j)
    have C132 : ∀ j : Nat, dt69 4 j = dt 4 j := fun j => (hF71 4 (by decide) j).trans (C45 j)
    have C133 : ∀ j : Nat, dt69 5 j = dt 5 j := fun j => (hF71 5 (by decide) j).trans (C46 j)
    have C134 : ∀ j : Nat, dt69 6 j = dt 6 j := fun j => (hF71 6 (by decide) j).trans (C47 j)
    have C135 : ∀ j : Nat, dt69 8 j = dt 8 j := fun j => (hF71 8 (by decide) j).trans (C48 j)
    have C136 : ∀ j : Nat, dt69 9 j = dt 9 j := fun j => (hF71 9 (by decide) j).trans (C49 j)
    have C137 : ∀ j : Nat, dt69 11 j = dt 11 j := fun j => (hF71 11 (by decide) j).trans (C50 j)
    have C138 : ∀ j : Nat, dt69 19 j = dt 19 j := fun j => (hF71 19 (by decide) j).trans (C51 j)
    have C139 : ∀ j : Nat, dt69 20 j = dt 20 j := fun j => (hF71 20 (by decide) j).trans (C52 j)
    have C140 : ∀ j : Nat, dt69 21 j = dt 21 j := fun j => (hF71 21 (by decide) j).trans (C53 j)
    have C141 : ∀ j : Nat, dt69 22 j = dt 22 j := fun j => (hF71 22 (by decide) j).trans (C54 j)
    have C142 : ∀ j : Nat, dt69 23 j = dt 23 j := fun j => (hF71 23 (by decide) j).trans (C55 j)
    have C143 : ∀ j : Nat, dt69 25 j = dt 25 j := fun j => (hF71 25 (by decide) j).trans (C56 j)
    have C144 : ∀ j : Nat, dt69 26 j = dt 26 j := fun j => (hF71 26 (by decide) j).trans (C57 j)
    have C145 : ∀ j : Nat, dt69 28 j = dt 28 j := fun j => (hF71 28 (by decide) j).trans (C58 j)
    have C146 : ∀ j : Nat, dt69 13 j = dt 13 j := fun j => (hF71 13 (by decide) j).trans (C59 j)
    have C147 : ∀ j : Nat, dt69 30 j = dt 30 j := fun j => (hF71 30 (by decide) j).trans (C60 j)
    have C148 : ∀ j : Nat, dt69 36 j = dt 36 j := fun j => (hF71 36 (by decide) j).trans (C61 j)
    have C149 : ∀ j : Nat, dt69 80 j = dt 80 j := fun j => (hF71 80 (by decide) j).trans (C62 j)
    have C150 : ∀ j : Nat, dt69 81 j = dt 81 j := fun j => (hF71 81 (by decide) j).trans (C63 j)
    have C151 : ∀ j : Nat, dt69 85 j = dt 85 j := fun j => (hF71 85 (by decide) j).trans (C64 j)
    refine go_toq PM267 (k := 2) (pc' := 1435) (L' := [some (.inr (.inr (some 3000))), some (.inr (.inr (some 0))), some (.inr (.inr (some 79))), some (.inl i)]) (st' := []) (w' := (SH, dt69)) rfl ?_
    exact K dt69 hI70 hM73 M2129 (w74.trans (hk0.trans w90.symm)) (w75.trans (hk1.trans w91.symm)) (w76.trans (hk2.trans w92.symm)) (w77.trans (hk3.trans w93.symm)) (w78.trans (hk4.trans w94.symm)) (w79.trans (hk5.trans w95.symm)) (w80.trans (hk6.trans w96.symm)) (w81.trans (hk7.trans w97.symm)) (w82.trans (hk8.trans w98.symm)) (w83.trans (hk9.trans w99.symm)) (w84.trans (hk10.trans w100.symm)) (w85.trans (hk11.trans w101.symm)) (w86.trans (hk12.trans w102.symm)) (w87.trans (hk13.trans w103.symm)) (w88.trans (hk14.trans w104.symm)) (w89.trans (hk15.trans w105.symm)) (by first | exact hI | exact TPL_k hd0 C148 C151 (by omega) | (exfalso; omega)) (by first | exact hI | exact SCL_k hd1 hM (fun j _ => C130 j) (fun j _ => C131 j) (fun j _ _ => C149 j) | (exfalso; omega)) (by first | exact hI | exact SCL_k hd2 hM2 (fun j _ => C138 j) (fun j _ => C139 j) (fun j _ _ => C150 j) | (exfalso; omega)) (by first | exact hI | exact QRL_k hd3 hM (fun j _ => C135 j) (C149 1) (fun j _ _ => C149 j) | (exfalso; omega)) (by first | exact hI | exact QRL_k hd4 hM2 (fun j _ => C143 j) (C150 1) (fun j _ _ => C150 j) | (exfalso; omega)) (by first | exact hI | exact SDL_k hd5 hM (fun j _ => C136 j) (C149 1) (fun j _ _ => C149 j) (fun j _ _ => C149 j) | (exfalso; omega)) (by first | exact hI | exact SDL_k hd6 hM2 (fun j _ => C144 j) (C150 1) (fun j _ _ => C150 j) (fun j _ _ => C150 j) | (exfalso; omega)) (by first | exact hI | exact LWL_k hd7 hM (fun j _ => C132 j) (fun j _ => C133 j) (fun j _ => C134 j) (fun j _ _ => C149 j) | (exfalso; omega)) (by first | exact hI | exact LWL_k hd8 hM2 (fun j _ => C140 j) (fun j _ => C141 j) (fun j _ => C142 j) (fun j _ _ => C150 j) | (exfalso; omega)) (by first | exact hI | exact CHL_k hd9 hM (fun j _ => C137 j) (by omega) (fun j _ _ => C149 j) | (exfalso; omega)) (by first | exact hI | exact CHL_k hd10 hM2 (fun j _ => C145 j) (by omega) (fun j _ _ => C150 j) | (exfalso; omega)) (by first | exact hI | exact ANL_k hd11 hM (fun j _ => C146 j) (by omega) (by omega) (by omega) (fun j _ _ => C149 j) | (exfalso; omega)) (by first | exact hI | exact ANL_k hd12 hM2 (fun j _ => C147 j) (by omega) (by omega) (by omega) (fun j _ _ => C150 j) | (exfalso; omega))
  · skip
    have M2152 : MW (dt69 81) := MW_frk M242 hF71 (by decide)
    have C153 : ∀ j : Nat, dt69 2 j = dt 2 j := fun j => (hF71 2 (by decide) j).trans (C43 j)
    have C154 : ∀ j : Nat, dt69 3 j = dt 3 j := fun j => (hF71 3 (by decide) j).trans (C44 j)
    have C155 : ∀ j : Nat, dt69 4 j = dt 4 j := fun j => (hF71 4 (by decide) j).trans (C45 j)
    have C156 : ∀ j : Nat, dt69 5 j = dt 5 j := fun j => (hF71 5 (by decide) j).trans (C46 j)
    have C157 : ∀ j : Nat, dt69 6 j = dt 6 j := fun j => (hF71 6 (by decide) j).trans (C47 j)
    have C158 : ∀ j : Nat, dt69 8 j = dt 8 j := fun j => (hF71 8 (by decide) j).trans (C48 j)
    have C159 : ∀ j : Nat, dt69 9 j = dt 9 j := fun j => (hF71 9 (by decide) j).trans (C49 j)
    have C160 : ∀ j : Nat, dt69 11 j = dt 11 j := fun j => (hF71 11 (by decide) j).trans (C50 j)
    have C161 : ∀ j : Nat, dt69 19 j = dt 19 j := fun j => (hF71 19 (by decide) j).trans (C51 j)
    have C162 : ∀ j : Nat, dt69 20 j = dt 20 j := fun j => (hF71 20 (by decide) j).trans (C52 j)
    have C163 : ∀ j : Nat, dt69 21 j = dt 21 j := fun j => (hF71 21 (by decide) j).trans (C53 j)
    have C164 : ∀ j : Nat, dt69 22 j = dt 22 j := fun j => (hF71 22 (by decide) j).trans (C54 j)
    have C165 : ∀ j : Nat, dt69 23 j = dt 23 j := fun j => (hF71 23 (by decide) j).trans (C55 j)
    have C166 : ∀ j : Nat, dt69 25 j = dt 25 j := fun j => (hF71 25 (by decide) j).trans (C56 j)
    have C167 : ∀ j : Nat, dt69 26 j = dt 26 j := fun j => (hF71 26 (by decide) j).trans (C57 j)
    have C168 : ∀ j : Nat, dt69 28 j = dt 28 j := fun j => (hF71 28 (by decide) j).trans (C58 j)
    have C169 : ∀ j : Nat, dt69 13 j = dt 13 j := fun j => (hF71 13 (by decide) j).trans (C59 j)
    have C170 : ∀ j : Nat, dt69 30 j = dt 30 j := fun j => (hF71 30 (by decide) j).trans (C60 j)
    have C171 : ∀ j : Nat, dt69 36 j = dt 36 j := fun j => (hF71 36 (by decide) j).trans (C61 j)
    have C172 : ∀ j : Nat, dt69 80 j = dt 80 j := fun j => (hF71 80 (by decide) j).trans (C62 j)
    have C173 : ∀ j : Nat, dt69 81 j = dt 81 j := fun j => (hF71 81 (by decide) j).trans (C63 j)
    have C174 : ∀ j : Nat, dt69 85 j = dt 85 j := fun j => (hF71 85 (by decide) j).trans (C64 j)
    refine go_toq PM267 (k := 2) (pc' := 1435) (L' := [some (.inr (.inr (some 3000))), some (.inr (.inr (some 0))), some (.inr (.inr (some 79))), some (.inl i)]) (st' := []) (w' := (SH, dt69)) rfl ?_
    exact K dt69 hI70 hM73 M2152 (w74.trans (hk0.trans w90.symm)) (w75.trans (hk1.trans w91.symm)) (w76.trans (hk2.trans w92.symm)) (w77.trans (hk3.trans w93.symm)) (w78.trans (hk4.trans w94.symm)) (w79.trans (hk5.trans w95.symm)) (w80.trans (hk6.trans w96.symm)) (w81.trans (hk7.trans w97.symm)) (w82.trans (hk8.trans w98.symm)) (w83.trans (hk9.trans w99.symm)) (w84.trans (hk10.trans w100.symm)) (w85.trans (hk11.trans w101.symm)) (w86.trans (hk12.trans w102.symm)) (w87.trans (hk13.trans w103.symm)) (w88.trans (hk14.trans w104.symm)) (w89.trans (hk15.trans w105.symm)) (by first | exact hI | exact TPL_k hd0 C171 C174 (by omega) | (exfalso; omega)) (by first | exact hI | exact SCL_k hd1 hM (fun j _ => C153 j) (fun j _ => C154 j) (fun j _ _ => C172 j) | (exfalso; omega)) (by first | exact hI | exact SCL_k hd2 hM2 (fun j _ => C161 j) (fun j _ => C162 j) (fun j _ _ => C173 j) | (exfalso; omega)) (by first | exact hI | exact QRL_k hd3 hM (fun j _ => C158 j) (C172 1) (fun j _ _ => C172 j) | (exfalso; omega)) (by first | exact hI | exact QRL_k hd4 hM2 (fun j _ => C166 j) (C173 1) (fun j _ _ => C173 j) | (exfalso; omega)) (by first | exact hI | exact SDL_k hd5 hM (fun j _ => C159 j) (C172 1) (fun j _ _ => C172 j) (fun j _ _ => C172 j) | (exfalso; omega)) (by first | exact hI | exact SDL_k hd6 hM2 (fun j _ => C167 j) (C173 1) (fun j _ _ => C173 j) (fun j _ _ => C173 j) | (exfalso; omega)) (by first | exact hI | exact LWL_k hd7 hM (fun j _ => C155 j) (fun j _ => C156 j) (fun j _ => C157 j) (fun j _ _ => C172 j) | (exfalso; omega)) (by first | exact hI | exact LWL_k hd8 hM2 (fun j _ => C163 j) (fun j _ => C164 j) (fun j _ => C165 j) (fun j _ _ => C173 j) | (exfalso; omega)) (by first | exact hI | exact CHL_k hd9 hM (fun j _ => C160 j) (by omega) (fun j _ _ => C172 j) | (exfalso; omega)) (by first | exact hI | exact CHL_k hd10 hM2 (fun j _ => C168 j) (by omega) (fun j _ _ => C173 j) | (exfalso; omega)) (by first | exact hI | exact ANL_k hd11 hM (fun j _ => C169 j) (by omega) (by omega) (by omega) (fun j _ _ => C172 j) | (exfalso; omega)) (by first | exact hI | exact ANL_k hd12 hM2 (fun j _ => C170 j) (by omega) (by omega) (by omega) (fun j _ _ => C173 j) | (exfalso; omega))
set_option maxRecDepth 20000 in
set_option maxHeartbeats 8000000 in
theorem sp_case8 (L : Nat) (xs : Nat → Int32) (sio : Option Nat) (d : Nat) (Q : Option AV → am_W → Prop) (hLL : L ≤ 3072) (i : Int) (hi : 0 ≤ i ∧ i ≤ 3066) (hil : i ≤ (L : Int) - 6) (dt : Nat → Nat → Int) (hI : InvC dt) (hM : MW (dt 80)) (hM2 : MW (dt 81)) (hk0 : dt 1 0 = dt 80 0) (hk1 : dt 7 3 = dt 80 1) (hk2 : dt 10 3 = dt 80 2) (hk3 : dt 12 3 = dt 80 3) (hk4 : dt 14 3 = dt 80 4) (hk5 : dt 16 3 = dt 80 5) (hk6 : dt 18 0 = dt 81 0) (hk7 : dt 24 3 = dt 81 1) (hk8 : dt 27 3 = dt 81 2) (hk9 : dt 29 3 = dt 81 3) (hk10 : dt 31 3 = dt 81 4) (hk11 : dt 33 3 = dt 81 5) (hk12 : dt 0 2 = dt 79 2) (hk13 : dt 35 1 = dt 79 12) (hk14 : dt 35 2 = dt 79 19) (hk15 : dt 35 3 = dt 79 21) (hd0 : TPL (dt 36) (dt 85) (dt 35 1)) (hd1 : SCL (dt 2) (dt 3) (dt 80)) (hd2 : SCL (dt 19) (dt 20) (dt 81)) (hd3 : QRL (dt 8) (dt 80)) (hd4 : QRL (dt 25) (dt 81)) (hd5 : SDL (dt 9) (dt 80)) (hd6 : SDL (dt 26) (dt 81)) (hd7 : LWL (dt 4) (dt 5) (dt 6) (dt 80)) (hd8 : LWL (dt 21) (dt 22) (dt 23) (dt 81)) (hd9 : CHL (dt 11) (dt 80)) (hd10 : CHL (dt 28) (dt 81)) (hd11 : ANL (dt 13) (dt 80)) (hd12 : ANL (dt 30) (dt 81)) (K : ∀ (dt : Nat → Nat → Int) (hI : InvC dt) (hM : MW (dt 80)) (hM2 : MW (dt 81)) (hk0 : dt 1 0 = dt 80 0) (hk1 : dt 7 3 = dt 80 1) (hk2 : dt 10 3 = dt 80 2) (hk3 : dt 12 3 = dt 80 3) (hk4 : dt 14 3 = dt 80 4) (hk5 : dt 16 3 = dt 80 5) (hk6 : dt 18 0 = dt 81 0) (hk7 : dt 24 3 = dt 81 1) (hk8 : dt 27 3 = dt 81 2) (hk9 : dt 29 3 = dt 81 3) (hk10 : dt 31 3 = dt 81 4) (hk11 : dt 33 3 = dt 81 5) (hk12 : dt 0 2 = dt 79 2) (hk13 : dt 35 1 = dt 79 12) (hk14 : dt 35 2 = dt 79 19) (hk15 : dt 35 3 = dt 79 21) (hd0 : TPL (dt 36) (dt 85) (dt 35 1)) (hd1 : SCL (dt 2) (dt 3) (dt 80)) (hd2 : SCL (dt 19) (dt 20) (dt 81)) (hd3 : QRL (dt 8) (dt 80)) (hd4 : QRL (dt 25) (dt 81)) (hd5 : SDL (dt 9) (dt 80)) (hd6 : SDL (dt 26) (dt 81)) (hd7 : LWL (dt 4) (dt 5) (dt 6) (dt 80)) (hd8 : LWL (dt 21) (dt 22) (dt 23) (dt 81)) (hd9 : CHL (dt 11) (dt 80)) (hd10 : CHL (dt 28) (dt 81)) (hd11 : ANL (dt 13) (dt 80)) (hd12 : ANL (dt 30) (dt 81)), GO (am_XX L xs sio) (d + 39) 267 1435 [some (.inr (.inr (some 3000))), some (.inr (.inr (some 0))), some (.inr (.inr (some 79))), some (.inl i)] [] (SH, dt) Q) : GO (am_XX L xs sio) (d + 39) 267 494 [some (.inr (.inr (some 3000))), some (.inr (.inr (some 0))), some (.inr (.inr (some 79))), some (.inl i)] [] (SH, dt) Q := by
  have hF : Fr [0, 1, 2, 3, 4, 5, 6, 7, 8, 9, 10, 11, 12, 13, 14, 15, 16, 17, 18, 19, 20, 21, 22, 23, 24, 25, 26, 27, 28, 29, 30, 31, 32, 33, 34, 35, 36, 37, 38, 39, 40, 41, 42, 43, 44, 45, 46, 47, 48, 49, 50, 51, 52, 53, 54, 55, 56, 57, 58, 59, 60, 61, 62, 63, 64, 65, 66, 67, 68, 69, 70, 71, 72, 73, 74, 75, 76, 77, 78, 79, 80, 81, 82, 83, 84, 85, 86, 87, 88, 89, 90, 91, 92, 93, 94, 95, 96, 97, 98, 99, 100, 101, 102, 103, 104] dt dt := Fr_refl
  have hqo := QOC_R hd3 hM hk1
  have hb1_ := hM.1.1
  have hb2_ := hM.1.2.1
  have hb3_ := hM.1.2.2.1
  have halk : ALK dt (dt 80) := ⟨hd7, hd3, hd5, hd9, hk1, hk2⟩
  have hav_ : ∀ i : Nat, (i : Int) < dt 12 3 → 0 ≤ dt 13 (6 * i + 1) ∧ dt 13 (6 * i + 1) < dt 7 3 := fun i hi => by have z := hd11 i (by omega); have y := z.2.2 1 (by decide); have w := z.2.1; omega
  refine go_toq PM267 (k := 5) (pc' := 499) (L' := [some (.inr (.inr (some 3000))), some (.inr (.inr (some 0))), some (.inr (.inr (some 79))), some (.inl i)]) (st' := [.inl (i + 1), .inr (.inr (some 3000)), .inr (.inr (some 0))]) (w' := (SH, dt)) rfl ?_
  have r1 := i32_R (xs ((i + 1).toNat))
  refine go_smpq PM267 (L' := [some (.inr (.inr (some 3000))), some (.inr (.inr (some 0))), some (.inr (.inr (some 79))), some (.inl i)]) (st' := [.inl ((xs ((i + 1).toNat)).toInt), .inr (.inr (some 0))]) (w' := (SH, dt)) rfl rfl (s_iald (n := L) (f := fun j => (xs j).toInt) (am_scr hLL) ⟨by omega, by omega⟩) ?_
  refine go_toq PM267 (k := 4) (pc' := 504) (L' := [some (.inr (.inr (some 3000))), some (.inr (.inr (some 0))), some (.inr (.inr (some 79))), some (.inl i)]) (st' := [.inl (i + 2), .inr (.inr (some 3000)), .inl ((xs ((i + 1).toNat)).toInt), .inr (.inr (some 0))]) (w' := (SH, dt)) rfl ?_
  have r2 := i32_R (xs ((i + 2).toNat))
  refine go_smpq PM267 (L' := [some (.inr (.inr (some 3000))), some (.inr (.inr (some 0))), some (.inr (.inr (some 79))), some (.inl i)]) (st' := [.inl ((xs ((i + 2).toNat)).toInt), .inl ((xs ((i + 1).toNat)).toInt), .inr (.inr (some 0))]) (w' := (SH, dt)) rfl rfl (s_iald (n := L) (f := fun j => (xs j).toInt) (am_scr hLL) ⟨by omega, by omega⟩) ?_
  refine go_toq PM267 (k := 4) (pc' := 509) (L' := [some (.inr (.inr (some 3000))), some (.inr (.inr (some 0))), some (.inr (.inr (some 79))), some (.inl i)]) (st' := [.inl (i + 3), .inr (.inr (some 3000)), .inl ((xs ((i + 2).toNat)).toInt), .inl ((xs ((i + 1).toNat)).toInt), .inr (.inr (some 0))]) (w' := (SH, dt)) rfl ?_
  have r3 := i32_R (xs ((i + 3).toNat))
  refine go_smpq PM267 (L' := [some (.inr (.inr (some 3000))), some (.inr (.inr (some 0))), some (.inr (.inr (some 79))), some (.inl i)]) (st' := [.inl ((xs ((i + 3).toNat)).toInt), .inl ((xs ((i + 2).toNat)).toInt), .inl ((xs ((i + 1).toNat)).toInt), .inr (.inr (some 0))]) (w' := (SH, dt)) rfl rfl (s_iald (n := L) (f := fun j => (xs j).toInt) (am_scr hLL) ⟨by omega, by omega⟩) ?_
  refine go_toq PM267 (k := 4) (pc' := 514) (L' := [some (.inr (.inr (some 3000))), some (.inr (.inr (some 0))), some (.inr (.inr (some 79))), some (.inl i)]) (st' := [.inl (i + 4), .inr (.inr (some 3000)), .inl ((xs ((i + 3).toNat)).toInt), .inl ((xs ((i + 2).toNat)).toInt), .inl ((xs ((i + 1).toNat)).toInt), .inr (.inr (some 0))]) (w' := (SH, dt)) rfl ?_
  have r4 := i32_R (xs ((i + 4).toNat))
  refine go_smpq PM267 (L' := [some (.inr (.inr (some 3000))), some (.inr (.inr (some 0))), some (.inr (.inr (some 79))), some (.inl i)]) (st' := [.inl ((xs ((i + 4).toNat)).toInt), .inl ((xs ((i + 3).toNat)).toInt), .inl ((xs ((i + 2).toNat)).toInt), .inl ((xs ((i + 1).toNat)).toInt), .inr (.inr (some 0))]) (w' := (SH, dt)) rfl rfl (s_iald (n := L) (f := fun j => (xs j).toInt) (am_scr hLL) ⟨by omega, by omega⟩) ?_
  refine go_toq PM267 (k := 4) (pc' := 519) (L' := [some (.inr (.inr (some 3000))), some (.inr (.inr (some 0))), some (.inr (.inr (some 79))), some (.inl i)]) (st' := [.inl (i + 5), .inr (.inr (some 3000)), .inl ((xs ((i + 4).toNat)).toInt), .inl ((xs ((i + 3).toNat)).toInt), .inl ((xs ((i + 2).toNat)).toInt), .inl ((xs ((i + 1).toNat)).toInt), .inr (.inr (some 0))]) (w' := (SH, dt)) rfl ?_
  have r5 := i32_R (xs ((i + 5).toNat))
  refine go_smpq PM267 (L' := [some (.inr (.inr (some 3000))), some (.inr (.inr (some 0))), some (.inr (.inr (some 79))), some (.inl i)]) (st' := [.inl ((xs ((i + 5).toNat)).toInt), .inl ((xs ((i + 4).toNat)).toInt), .inl ((xs ((i + 3).toNat)).toInt), .inl ((xs ((i + 2).toNat)).toInt), .inl ((xs ((i + 1).toNat)).toInt), .inr (.inr (some 0))]) (w' := (SH, dt)) rfl rfl (s_iald (n := L) (f := fun j => (xs j).toInt) (am_scr hLL) ⟨by omega, by omega⟩) ?_
  refine go_callq PM267 PM75 (Q' := _) rfl rfl rfl rfl (sp_X5_question_f L xs sio (d + 33) dt hI (dt 80) hM ((xs ((i + 1).toNat)).toInt) ⟨by omega, by omega⟩ ((xs ((i + 2).toNat)).toInt) ⟨by omega, by omega⟩ ((xs ((i + 3).toNat)).toInt) ⟨by omega, by omega⟩ ((xs ((i + 4).toNat)).toInt) ⟨by omega, by omega⟩ ((xs ((i + 5).toNat)).toInt) ⟨by omega, by omega⟩ (by first | exact True.intro | with_reducible assumption | rfl | omega | trivial | exact hM2 | exact hd1 | exact hqo | exact halk | exact hav_) (by first | exact True.intro | with_reducible assumption | rfl | omega | trivial | exact hM2 | exact hd1 | exact hqo | exact halk | exact hav_)) ?_
  rintro _ _ ⟨dt7, rfl, hI8, hF9, h6⟩
  refine ⟨rfl, ?_⟩
  have hF10 : Fr [0, 1, 2, 3, 4, 5, 6, 7, 8, 9, 10, 11, 12, 13, 14, 15, 16, 17, 18, 19, 20, 21, 22, 23, 24, 25, 26, 27, 28, 29, 30, 31, 32, 33, 34, 35, 36, 37, 38, 39, 40, 41, 42, 43, 44, 45, 46, 47, 48, 49, 50, 51, 52, 53, 54, 55, 56, 57, 58, 59, 60, 61, 62, 63, 64, 65, 66, 67, 68, 69, 70, 71, 72, 73, 74, 75, 76, 77, 78, 79, 80, 81, 82, 83, 84, 85, 86, 87, 88, 89, 90, 91, 92, 93, 94, 95, 96, 97, 98, 99, 100, 101, 102, 103, 104] dt dt7 := Fr_tr hF hF9 (by decide)
  have hM11 : MW (dt7 80) := MW_fr hM hF9 (by decide)
  have w12 : dt7 1 0 = dt 1 0 := hF9 1 (by decide) 0
  have w13 : dt7 10 3 = dt 10 3 := hF9 10 (by decide) 3
  have w14 : dt7 12 3 = dt 12 3 := hF9 12 (by decide) 3
  have w15 : dt7 14 3 = dt 14 3 := hF9 14 (by decide) 3
  have w16 : dt7 16 3 = dt 16 3 := hF9 16 (by decide) 3
  have w17 : dt7 18 0 = dt 18 0 := hF9 18 (by decide) 0
  have w18 : dt7 24 3 = dt 24 3 := hF9 24 (by decide) 3
  have w19 : dt7 27 3 = dt 27 3 := hF9 27 (by decide) 3
  have w20 : dt7 29 3 = dt 29 3 := hF9 29 (by decide) 3
  have w21 : dt7 31 3 = dt 31 3 := hF9 31 (by decide) 3
  have w22 : dt7 33 3 = dt 33 3 := hF9 33 (by decide) 3
  have w23 : dt7 0 2 = dt 0 2 := hF9 0 (by decide) 2
  have w24 : dt7 35 1 = dt 35 1 := hF9 35 (by decide) 1
  have w25 : dt7 35 2 = dt 35 2 := hF9 35 (by decide) 2
  have w26 : dt7 35 3 = dt 35 3 := hF9 35 (by decide) 3
  have w27 : dt7 80 0 = dt 80 0 := hF9 80 (by decide) 0
  have w28 : dt7 80 1 = dt 80 1 := hF9 80 (by decide) 1
  have w29 : dt7 80 2 = dt 80 2 := hF9 80 (by decide) 2
  have w30 : dt7 80 3 = dt 80 3 := hF9 80 (by decide) 3
  have w31 : dt7 80 4 = dt 80 4 := hF9 80 (by decide) 4
  have w32 : dt7 80 5 = dt 80 5 := hF9 80 (by decide) 5
  have w33 : dt7 81 0 = dt 81 0 := hF9 81 (by decide) 0
  have w34 : dt7 81 1 = dt 81 1 := hF9 81 (by decide) 1
  have w35 : dt7 81 2 = dt 81 2 := hF9 81 (by decide) 2
  have w36 : dt7 81 3 = dt 81 3 := hF9 81 (by decide) 3
  have w37 : dt7 81 4 = dt 81 4 := hF9 81 (by decide) 4
  have w38 : dt7 81 5 = dt 81 5 := hF9 81 (by decide) 5
  have w39 : dt7 79 2 = dt 79 2 := hF9 79 (by decide) 2
  have w40 : dt7 79 12 = dt 79 12 := hF9 79 (by decide) 12
  have w41 : dt7 79 19 = dt 79 19 := hF9 79 (by decide) 19
  have w42 : dt7 79 21 = dt 79 21 := hF9 79 (by decide) 21
  rcases h6 with ⟨rfl, h6⟩ | ⟨v_h6, rfl, h6r, h6⟩
  · skip
    obtain ⟨h6_0, h6_1, h6_2, h6_3⟩ := h6
    replace h6_0 := hid h6_0
    have w43 : dt7 7 3 = dt 7 3 := h6_1
    have M244 : MW (dt7 81) := MW_frk hM2 hF9 (by decide)
    have C45 : ∀ j : Nat, dt7 2 j = dt 2 j := fun j => (hF9 2 (by decide) j).trans ((fun _ => rfl) j)
    have C46 : ∀ j : Nat, dt7 3 j = dt 3 j := fun j => (hF9 3 (by decide) j).trans ((fun _ => rfl) j)
    have C47 : ∀ j : Nat, dt7 4 j = dt 4 j := fun j => (hF9 4 (by decide) j).trans ((fun _ => rfl) j)
    have C48 : ∀ j : Nat, dt7 5 j = dt 5 j := fun j => (hF9 5 (by decide) j).trans ((fun _ => rfl) j)
    have C49 : ∀ j : Nat, dt7 6 j = dt 6 j := fun j => (hF9 6 (by decide) j).trans ((fun _ => rfl) j)
    have C50 : ∀ j : Nat, dt7 8 j = dt 8 j := fun j => (h6_2 j).trans ((fun _ => rfl) j)
    have C51 : ∀ j : Nat, dt7 9 j = dt 9 j := fun j => (h6_3 j).trans ((fun _ => rfl) j)
    have C52 : ∀ j : Nat, dt7 11 j = dt 11 j := fun j => (hF9 11 (by decide) j).trans ((fun _ => rfl) j)
    have C53 : ∀ j : Nat, dt7 19 j = dt 19 j := fun j => (hF9 19 (by decide) j).trans ((fun _ => rfl) j)
    have C54 : ∀ j : Nat, dt7 20 j = dt 20 j := fun j => (hF9 20 (by decide) j).trans ((fun _ => rfl) j)
    have C55 : ∀ j : Nat, dt7 21 j = dt 21 j := fun j => (hF9 21 (by decide) j).trans ((fun _ => rfl) j)
    have C56 : ∀ j : Nat, dt7 22 j = dt 22 j := fun j => (hF9 22 (by decide) j).trans ((fun _ => rfl) j)
    have C57 : ∀ j : Nat, dt7 23 j = dt 23 j := fun j => (hF9 23 (by decide) j).trans ((fun _ => rfl) j)
    have C58 : ∀ j : Nat, dt7 25 j = dt 25 j := fun j => (hF9 25 (by decide) j).trans ((fun _ => rfl) j)
    have C59 : ∀ j : Nat, dt7 26 j = dt 26 j := fun j => (hF9 26 (by decide) j).trans ((fun _ => rfl) j)
    have C60 : ∀ j : Nat, dt7 28 j = dt 28 j := fun j => (hF9 28 (by decide) j).trans ((fun _ => rfl) j)
    have C61 : ∀ j : Nat, dt7 13 j = dt 13 j := fun j => (hF9 13 (by decide) j).trans ((fun _ => rfl) j)
    have C62 : ∀ j : Nat, dt7 30 j = dt 30 j := fun j => (hF9 30 (by decide) j).trans ((fun _ => rfl) j)
    have C63 : ∀ j : Nat, dt7 36 j = dt 36 j := fun j => (hF9 36 (by decide) j).trans ((fun _ => rfl) j)
    have C64 : ∀ j : Nat, dt7 80 j = dt 80 j := fun j => (hF9 80 (by decide) j).trans ((fun _ => rfl) j)
    have C65 : ∀ j : Nat, dt7 81 j = dt 81 j := fun j => (hF9 81 (by decide) j).trans ((fun _ => rfl) j)
    have C66 : ∀ j : Nat, dt7 85 j = dt 85 j := fun j => (hF9 85 (by decide) j).trans ((fun _ => rfl) j)
    refine go_toq PM267 (k := 6) (pc' := 529) (L' := [some (.inr (.inr (some 3000))), some (.inr (.inr (some 0))), some (.inr (.inr (some 79))), some (.inl i)]) (st' := [.inl (i + 1), .inr (.inr (some 3000)), .inr (.inr (some 79))]) (w' := (SH, dt7)) rfl ?_
    have r67 := i32_R (xs ((i + 1).toNat))
    refine go_smpq PM267 (L' := [some (.inr (.inr (some 3000))), some (.inr (.inr (some 0))), some (.inr (.inr (some 79))), some (.inl i)]) (st' := [.inl ((xs ((i + 1).toNat)).toInt), .inr (.inr (some 79))]) (w' := (SH, dt7)) rfl rfl (s_iald (n := L) (f := fun j => (xs j).toInt) (am_scr hLL) ⟨by (first | omega | (have z0_ := unhid h6_0; omega)), by (first | omega | (have z0_ := unhid h6_0; omega))⟩) ?_
    refine go_toq PM267 (k := 4) (pc' := 534) (L' := [some (.inr (.inr (some 3000))), some (.inr (.inr (some 0))), some (.inr (.inr (some 79))), some (.inl i)]) (st' := [.inl (i + 2), .inr (.inr (some 3000)), .inl ((xs ((i + 1).toNat)).toInt), .inr (.inr (some 79))]) (w' := (SH, dt7)) rfl ?_
    have r68 := i32_R (xs ((i + 2).toNat))
    refine go_smpq PM267 (L' := [some (.inr (.inr (some 3000))), some (.inr (.inr (some 0))), some (.inr (.inr (some 79))), some (.inl i)]) (st' := [.inl ((xs ((i + 2).toNat)).toInt), .inl ((xs ((i + 1).toNat)).toInt), .inr (.inr (some 79))]) (w' := (SH, dt7)) rfl rfl (s_iald (n := L) (f := fun j => (xs j).toInt) (am_scr hLL) ⟨by (first | omega | (have z0_ := unhid h6_0; omega)), by (first | omega | (have z0_ := unhid h6_0; omega))⟩) ?_
    refine go_toq PM267 (k := 4) (pc' := 539) (L' := [some (.inr (.inr (some 3000))), some (.inr (.inr (some 0))), some (.inr (.inr (some 79))), some (.inl i)]) (st' := [.inl (i + 3), .inr (.inr (some 3000)), .inl ((xs ((i + 2).toNat)).toInt), .inl ((xs ((i + 1).toNat)).toInt), .inr (.inr (some 79))]) (w' := (SH, dt7)) rfl ?_
    have r69 := i32_R (xs ((i + 3).toNat))
    refine go_smpq PM267 (L' := [some (.inr (.inr (some 3000))), some (.inr (.inr (some 0))), some (.inr (.inr (some 79))), some (.inl i)]) (st' := [.inl ((xs ((i + 3).toNat)).toInt), .inl ((xs ((i + 2).toNat)).toInt), .inl ((xs ((i + 1).toNat)).toInt), .inr (.inr (some 79))]) (w' := (SH, dt7)) rfl rfl (s_iald (n := L) (f := fun j => (xs j).toInt) (am_scr hLL) ⟨by (first | omega | (have z0_ := unhid h6_0; omega)), by (first | omega | (have z0_ := unhid h6_0; omega))⟩) ?_
    refine go_toq PM267 (k := 4) (pc' := 544) (L' := [some (.inr (.inr (some 3000))), some (.inr (.inr (some 0))), some (.inr (.inr (some 79))), some (.inl i)]) (st' := [.inl (i + 4), .inr (.inr (some 3000)), .inl ((xs ((i + 3).toNat)).toInt), .inl ((xs ((i + 2).toNat)).toInt), .inl ((xs ((i + 1).toNat)).toInt), .inr (.inr (some 79))]) (w' := (SH, dt7)) rfl ?_
    have r70 := i32_R (xs ((i + 4).toNat))
    refine go_smpq PM267 (L' := [some (.inr (.inr (some 3000))), some (.inr (.inr (some 0))), some (.inr (.inr (some 79))), some (.inl i)]) (st' := [.inl ((xs ((i + 4).toNat)).toInt), .inl ((xs ((i + 3).toNat)).toInt), .inl ((xs ((i + 2).toNat)).toInt), .inl ((xs ((i + 1).toNat)).toInt), .inr (.inr (some 79))]) (w' := (SH, dt7)) rfl rfl (s_iald (n := L) (f := fun j => (xs j).toInt) (am_scr hLL) ⟨by (first | omega | (have z0_ := unhid h6_0; omega)), by (first | omega | (have z0_ := unhid h6_0; omega))⟩) ?_
    refine go_toq PM267 (k := 4) (pc' := 549) (L' := [some (.inr (.inr (some 3000))), some (.inr (.inr (some 0))), some (.inr (.inr (some 79))), some (.inl i)]) (st' := [.inl (i + 5), .inr (.inr (some 3000)), .inl ((xs ((i + 4).toNat)).toInt), .inl ((xs ((i + 3).toNat)).toInt), .inl ((xs ((i + 2).toNat)).toInt), .inl ((xs ((i + 1).toNat)).toInt), .inr (.inr (some 79))]) (w' := (SH, dt7)) rfl ?_
    have r71 := i32_R (xs ((i + 5).toNat))
    refine go_smpq PM267 (L' := [some (.inr (.inr (some 3000))), some (.inr (.inr (some 0))), some (.inr (.inr (some 79))), some (.inl i)]) (st' := [.inl ((xs ((i + 5).toNat)).toInt), .inl ((xs ((i + 4).toNat)).toInt), .inl ((xs ((i + 3).toNat)).toInt), .inl ((xs ((i + 2).toNat)).toInt), .inl ((xs ((i + 1).toNat)).toInt), .inr (.inr (some 79))]) (w' := (SH, dt7)) rfl rfl (s_iald (n := L) (f := fun j => (xs j).toInt) (am_scr hLL) ⟨by (first | omega | (have z0_ := unhid h6_0; omega)), by (first | omega | (have z0_ := unhid h6_0; omega))⟩) ?_
    refine go_callq PM267 PM193 (Q' := _) rfl rfl rfl rfl (sp_X6_question_v L xs sio (d + 36) dt7 hI8 hM11  ((xs ((i + 1).toNat)).toInt) ⟨by (first | omega | (have z0_ := unhid h6_0; omega)), by (first | omega | (have z0_ := unhid h6_0; omega))⟩ ((xs ((i + 2).toNat)).toInt) ⟨by (first | omega | (have z0_ := unhid h6_0; omega)), by (first | omega | (have z0_ := unhid h6_0; omega))⟩ ((xs ((i + 3).toNat)).toInt) ⟨by (first | omega | (have z0_ := unhid h6_0; omega)), by (first | omega | (have z0_ := unhid h6_0; omega))⟩ ((xs ((i + 4).toNat)).toInt) ⟨by (first | omega | (have z0_ := unhid h6_0; omega)), by (first | omega | (have z0_ := unhid h6_0; omega))⟩ ((xs ((i + 5).toNat)).toInt) ⟨by (first | omega | (have z0_ := unhid h6_0; omega)), by (first | omega | (have z0_ := unhid h6_0; omega))⟩ ) ?_
    rintro _ _ ⟨dt73, rfl, hI74, hF75, h72⟩
    refine ⟨rfl, ?_⟩
    have hF76 : Fr [0, 1, 2, 3, 4, 5, 6, 7, 8, 9, 10, 11, 12, 13, 14, 15, 16, 17, 18, 19, 20, 21, 22, 23, 24, 25, 26, 27, 28, 29, 30, 31, 32, 33, 34, 35, 36, 37, 38, 39, 40, 41, 42, 43, 44, 45, 46, 47, 48, 49, 50, 51, 52, 53, 54, 55, 56, 57, 58, 59, 60, 61, 62, 63, 64, 65, 66, 67, 68, 69, 70, 71, 72, 73, 74, 75, 76, 77, 78, 79, 80, 81, 82, 83, 84, 85, 86, 87, 88, 89, 90, 91, 92, 93, 94, 95, 96, 97, 98, 99, 100, 101, 102, 103, 104] dt dt73 := Fr_tr hF10 hF75 (by decide)
    have w77 : dt73 1 0 = dt 1 0 := (hF75 1 (by decide) 0).trans w12
    have w78 : dt73 7 3 = dt 7 3 := (hF75 7 (by decide) 3).trans w43
    have w79 : dt73 10 3 = dt 10 3 := (hF75 10 (by decide) 3).trans w13
    have w80 : dt73 12 3 = dt 12 3 := (hF75 12 (by decide) 3).trans w14
    have w81 : dt73 14 3 = dt 14 3 := (hF75 14 (by decide) 3).trans w15
    have w82 : dt73 16 3 = dt 16 3 := (hF75 16 (by decide) 3).trans w16
    have w83 : dt73 18 0 = dt 18 0 := (hF75 18 (by decide) 0).trans w17
    have w84 : dt73 24 3 = dt 24 3 := (hF75 24 (by decide) 3).trans w18
    have w85 : dt73 27 3 = dt 27 3 := (hF75 27 (by decide) 3).trans w19
    have w86 : dt73 29 3 = dt 29 3 := (hF75 29 (by decide) 3).trans w20
    have w87 : dt73 31 3 = dt 31 3 := (hF75 31 (by decide) 3).trans w21
    have w88 : dt73 33 3 = dt 33 3 := (hF75 33 (by decide) 3).trans w22
    have w89 : dt73 0 2 = dt 0 2 := (hF75 0 (by decide) 2).trans w23
    have w90 : dt73 35 1 = dt 35 1 := (hF75 35 (by decide) 1).trans w24
    have w91 : dt73 35 2 = dt 35 2 := (hF75 35 (by decide) 2).trans w25
    have w92 : dt73 35 3 = dt 35 3 := (hF75 35 (by decide) 3).trans w26
    have w93 : dt73 81 0 = dt 81 0 := (hF75 81 (by decide) 0).trans w33
    have w94 : dt73 81 1 = dt 81 1 := (hF75 81 (by decide) 1).trans w34
    have w95 : dt73 81 2 = dt 81 2 := (hF75 81 (by decide) 2).trans w35
    have w96 : dt73 81 3 = dt 81 3 := (hF75 81 (by decide) 3).trans w36
    have w97 : dt73 81 4 = dt 81 4 := (hF75 81 (by decide) 4).trans w37
    have w98 : dt73 81 5 = dt 81 5 := (hF75 81 (by decide) 5).trans w38
    have w99 : dt73 79 2 = dt 79 2 := (hF75 79 (by decide) 2).trans w39
    have w100 : dt73 79 12 = dt 79 12 := (hF75 79 (by decide) 12).trans w40
    have w101 : dt73 79 19 = dt 79 19 := (hF75 79 (by decide) 19).trans w41
    have w102 : dt73 79 21 = dt 79 21 := (hF75 79 (by decide) 21).trans w42
    rcases h72 with ⟨rfl, h72⟩ | ⟨v_h72, rfl, h72r, h72⟩
    · skip
      have hM103 : MW (dt73 80) := h72.2.1
      obtain ⟨h72_0, h72_1, h72_2, h72_3, h72_4, h72_5, h72_6, h72_7, h72_8⟩ := h72
      replace h72_0 := hid h72_0
      have w104 : dt73 80 0 = dt 80 0 := h72_2.trans w27
      have w105 : dt73 80 1 = dt 80 1 := h72_3.trans w28
      have w106 : dt73 80 2 = dt 80 2 := h72_4.trans w29
      have w107 : dt73 80 3 = dt 80 3 := h72_5.trans w30
      have w108 : dt73 80 4 = dt 80 4 := h72_6.trans w31
      have w109 : dt73 80 5 = dt 80 5 := h72_7.trans w32
      have M2110 : MW (dt73 81) := MW_frk M244 hF75 (by decide)
      have C111 : ∀ j : Nat, dt73 2 j = dt 2 j := fun j => (hF75 2 (by decide) j).trans (C45 j)
      have C112 : ∀ j : Nat, dt73 3 j = dt 3 j := fun j => (hF75 3 (by decide) j).trans (C46 j)
      have C113 : ∀ j : Nat, dt73 4 j = dt 4 j := fun j => (hF75 4 (by decide) j).trans (C47 j)
      have C114 : ∀ j : Nat, dt73 5 j = dt 5 j := fun j => (hF75 5 (by decide) j).trans (C48 j)
      have C115 : ∀ j : Nat, dt73 6 j = dt 6 j := fun j => (hF75 6 (by decide) j).trans (C49 j)
      have C116 : ∀ j : Nat, dt73 8 j = dt 8 j := fun j => (hF75 8 (by decide) j).trans (C50 j)
      have C117 : ∀ j : Nat, dt73 9 j = dt 9 j := fun j => (hF75 9 (by decide) j).trans (C51 j)
      have C118 : ∀ j : Nat, dt73 11 j = dt 11 j := fun j => (hF75 11 (by decide) j).trans (C52 j)
      have C119 : ∀ j : Nat, dt73 19 j = dt 19 j := fun j => (hF75 19 (by decide) j).trans (C53 j)
      have C120 : ∀ j : Nat, dt73 20 j = dt 20 j := fun j => (hF75 20 (by decide) j).trans (C54 j)
      have C121 : ∀ j : Nat, dt73 21 j = dt 21 j := fun j => (hF75 21 (by decide) j).trans (C55 j)
      have C122 : ∀ j : Nat, dt73 22 j = dt 22 j := fun j => (hF75 22 (by decide) j).trans (C56 j)
      have C123 : ∀ j : Nat, dt73 23 j = dt 23 j := fun j => (hF75 23 (by decide) j).trans (C57 j)
      have C124 : ∀ j : Nat, dt73 25 j = dt 25 j := fun j => (hF75 25 (by decide) j).trans (C58 j)
      have C125 : ∀ j : Nat, dt73 26 j = dt 26 j := fun j => (hF75 26 (by decide) j).trans (C59 j)
      have C126 : ∀ j : Nat, dt73 28 j = dt 28 j := fun j => (hF75 28 (by decide) j).trans (C60 j)
      have C127 : ∀ j : Nat, dt73 13 j = dt 13 j := fun j => (hF75 13 (by decide) j).trans (C61 j)
      have C128 : ∀ j : Nat, dt73 30 j = dt 30 j := fun j => (hF75 30 (by decide) j).trans (C62 j)
      have C129 : ∀ j : Nat, dt73 36 j = dt 36 j := fun j => (hF75 36 (by decide) j).trans (C63 j)
      have C130 : ∀ j : Nat, dt73 80 j = dt 80 j := fun j => (h72_8 j).trans (C64 j)
      have C131 : ∀ j : Nat, dt73 81 j = dt 81 j := fun j => (hF75 81 (by decide) j).trans (C65 j)
      have C132 : ∀ j : Nat, dt73 85 j = dt 85 j := fun j => (hF75 85 (by decide) j).trans (C66 j)
      refine go_toq PM267 (k := 2) (pc' := 1435) (L' := [some (.inr (.inr (some 3000))), some (.inr (.inr (some 0))), some (.inr (.inr (some 79))), some (.inl i)]) (st' := []) (w' := (SH, dt73)) rfl ?_
      exact K dt73 hI74 hM103 M2110 (w77.trans (hk0.trans w104.symm)) (w78.trans (hk1.trans w105.symm)) (w79.trans (hk2.trans w106.symm)) (w80.trans (hk3.trans w107.symm)) (w81.trans (hk4.trans w108.symm)) (w82.trans (hk5.trans w109.symm)) (w83.trans (hk6.trans w93.symm)) (w84.trans (hk7.trans w94.symm)) (w85.trans (hk8.trans w95.symm)) (w86.trans (hk9.trans w96.symm)) (w87.trans (hk10.trans w97.symm)) (w88.trans (hk11.trans w98.symm)) (w89.trans (hk12.trans w99.symm)) (w90.trans (hk13.trans w100.symm)) (w91.trans (hk14.trans w101.symm)) (w92.trans (hk15.trans w102.symm)) (by first | exact hI | exact TPL_k hd0 C129 C132 (by (first | omega | (have z0_ := unhid h6_0; have z1_ := unhid h72_0; omega))) | (exfalso; (first | omega | (have z0_ := unhid h6_0; have z1_ := unhid h72_0; omega)))) (by first | exact hI | exact SCL_k hd1 hM (fun j _ => C111 j) (fun j _ => C112 j) (fun j _ _ => C130 j) | (exfalso; (first | omega | (have z0_ := unhid h6_0; have z1_ := unhid h72_0; omega)))) (by first | exact hI | exact SCL_k hd2 hM2 (fun j _ => C119 j) (fun j _ => C120 j) (fun j _ _ => C131 j) | (exfalso; (first | omega | (have z0_ := unhid h6_0; have z1_ := unhid h72_0; omega)))) (by first | exact hI | exact QRL_k hd3 hM (fun j _ => C116 j) (C130 1) (fun j _ _ => C130 j) | (exfalso; (first | omega | (have z0_ := unhid h6_0; have z1_ := unhid h72_0; omega)))) (by first | exact hI | exact QRL_k hd4 hM2 (fun j _ => C124 j) (C131 1) (fun j _ _ => C131 j) | (exfalso; (first | omega | (have z0_ := unhid h6_0; have z1_ := unhid h72_0; omega)))) (by first | exact hI | exact SDL_k hd5 hM (fun j _ => C117 j) (C130 1) (fun j _ _ => C130 j) (fun j _ _ => C130 j) | (exfalso; (first | omega | (have z0_ := unhid h6_0; have z1_ := unhid h72_0; omega)))) (by first | exact hI | exact SDL_k hd6 hM2 (fun j _ => C125 j) (C131 1) (fun j _ _ => C131 j) (fun j _ _ => C131 j) | (exfalso; (first | omega | (have z0_ := unhid h6_0; have z1_ := unhid h72_0; omega)))) (by first | exact hI | exact LWL_k hd7 hM (fun j _ => C113 j) (fun j _ => C114 j) (fun j _ => C115 j) (fun j _ _ => C130 j) | (exfalso; (first | omega | (have z0_ := unhid h6_0; have z1_ := unhid h72_0; omega)))) (by first | exact hI | exact LWL_k hd8 hM2 (fun j _ => C121 j) (fun j _ => C122 j) (fun j _ => C123 j) (fun j _ _ => C131 j) | (exfalso; (first | omega | (have z0_ := unhid h6_0; have z1_ := unhid h72_0; omega)))) (by first | exact hI | exact CHL_k hd9 hM (fun j _ => C118 j) (by (first | omega | (have z0_ := unhid h6_0; have z1_ := unhid h72_0; omega))) (fun j _ _ => C130 j) | (exfalso; (first | omega | (have z0_ := unhid h6_0; have z1_ := unhid h72_0; omega)))) (by first | exact hI | exact CHL_k hd10 hM2 (fun j _ => C126 j) (by (first | omega | (have z0_ := unhid h6_0; have z1_ := unhid h72_0; omega))) (fun j _ _ => C131 j) | (exfalso; (first | omega | (have z0_ := unhid h6_0; have z1_ := unhid h72_0; omega)))) (by first | exact hI | exact ANL_k hd11 hM (fun j _ => C127 j) (by (first | omega | (have z0_ := unhid h6_0; have z1_ := unhid h72_0; omega))) (by (first | omega | (have z0_ := unhid h6_0; have z1_ := unhid h72_0; omega))) (by (first | omega | (have z0_ := unhid h6_0; have z1_ := unhid h72_0; omega))) (fun j _ _ => C130 j) | (exfalso; (first | omega | (have z0_ := unhid h6_0; have z1_ := unhid h72_0; omega)))) (by first | exact hI | exact ANL_k hd12 hM2 (fun j _ => C128 j) (by (first | omega | (have z0_ := unhid h6_0; have z1_ := unhid h72_0; omega))) (by (first | omega | (have z0_ := unhid h6_0; have z1_ := unhid h72_0; omega))) (by (first | omega | (have z0_ := unhid h6_0; have z1_ := unhid h72_0; omega))) (fun j _ _ => C131 j) | (exfalso; (first | omega | (have z0_ := unhid h6_0; have z1_ := unhid h72_0; omega))))
    · skip
      have hM133 : MW (dt73 80) := h72.2.2.1
      obtain ⟨h72_0, h72_1, h72_2, h72_3, h72_4, h72_5, h72_6, h72_7, h72_8, h72_9, h72_10, h72_11, h72_12, h72_13, h72_14⟩ := h72
      have w134 : dt73 80 0 = dt 80 0 := h72_4.trans w27
      have w135 : dt73 80 2 = dt 80 2 := h72_5.trans w29
      have w136 : dt73 80 3 = dt 80 3 := h72_6.trans w30
      have w137 : dt73 80 4 = dt 80 4 := h72_7.trans w31
      have w138 : dt73 80 5 = dt 80 5 := h72_8.trans w32
      have M2139 : MW (dt73 81) := MW_frk M244 hF75 (by decide)
      have C140 : ∀ j : Nat, dt73 2 j = dt 2 j := fun j => (hF75 2 (by decide) j).trans (C45 j)
      have C141 : ∀ j : Nat, dt73 3 j = dt 3 j := fun j => (hF75 3 (by decide) j).trans (C46 j)
      have C142 : ∀ j : Nat, dt73 4 j = dt 4 j := fun j => (hF75 4 (by decide) j).trans (C47 j)
      have C143 : ∀ j : Nat, dt73 5 j = dt 5 j := fun j => (hF75 5 (by decide) j).trans (C48 j)
      have C144 : ∀ j : Nat, dt73 6 j = dt 6 j := fun j => (hF75 6 (by decide) j).trans (C49 j)
      have C145 : ∀ j : Nat, dt73 8 j = dt 8 j := fun j => (hF75 8 (by decide) j).trans (C50 j)
      have C146 : ∀ j : Nat, dt73 9 j = dt 9 j := fun j => (hF75 9 (by decide) j).trans (C51 j)
      have C147 : ∀ j : Nat, dt73 11 j = dt 11 j := fun j => (hF75 11 (by decide) j).trans (C52 j)
      have C148 : ∀ j : Nat, dt73 19 j = dt 19 j := fun j => (hF75 19 (by decide) j).trans (C53 j)
      have C149 : ∀ j : Nat, dt73 20 j = dt 20 j := fun j => (hF75 20 (by decide) j).trans (C54 j)
      have C150 : ∀ j : Nat, dt73 21 j = dt 21 j := fun j => (hF75 21 (by decide) j).trans (C55 j)
      have C151 : ∀ j : Nat, dt73 22 j = dt 22 j := fun j => (hF75 22 (by decide) j).trans (C56 j)
      have C152 : ∀ j : Nat, dt73 23 j = dt 23 j := fun j => (hF75 23 (by decide) j).trans (C57 j)
      have C153 : ∀ j : Nat, dt73 25 j = dt 25 j := fun j => (hF75 25 (by decide) j).trans (C58 j)
      have C154 : ∀ j : Nat, dt73 26 j = dt 26 j := fun j => (hF75 26 (by decide) j).trans (C59 j)
      have C155 : ∀ j : Nat, dt73 28 j = dt 28 j := fun j => (hF75 28 (by decide) j).trans (C60 j)
      have C156 : ∀ j : Nat, dt73 13 j = dt 13 j := fun j => (hF75 13 (by decide) j).trans (C61 j)
      have C157 : ∀ j : Nat, dt73 30 j = dt 30 j := fun j => (hF75 30 (by decide) j).trans (C62 j)
      have C158 : ∀ j : Nat, dt73 36 j = dt 36 j := fun j => (hF75 36 (by decide) j).trans (C63 j)
      have C159 : ∀ j : Nat, dt73 81 j = dt 81 j := fun j => (hF75 81 (by decide) j).trans (C65 j)
      have C160 : ∀ j : Nat, dt73 85 j = dt 85 j := fun j => (hF75 85 (by decide) j).trans (C66 j)
      have F161 : ∀ j : Nat, 6 ≤ j → j < 974 → dt73 80 j = dt 80 j := fun j h1_ h2_ => (h72_9 j (by (first | omega | (have z0_ := unhid h6_0; omega))) (by (first | omega | (have z0_ := unhid h6_0; omega)))).trans (C64 j)
      have F162 : ∀ j : Nat, 974 ≤ j → j < 5320 → dt73 80 j = dt 80 j := fun j h1_ h2_ => (h72_9 j (by (first | omega | (have z0_ := unhid h6_0; omega))) (by (first | omega | (have z0_ := unhid h6_0; omega)))).trans (C64 j)
      have F163 : ∀ j : Nat, 5380 ≤ j → j < 5540 → dt73 80 j = dt 80 j := fun j h1_ h2_ => (h72_9 j (by (first | omega | (have z0_ := unhid h6_0; omega))) (by (first | omega | (have z0_ := unhid h6_0; omega)))).trans (C64 j)
      have F164 : ∀ j : Nat, 5540 ≤ j → j < 7340 → dt73 80 j = dt 80 j := fun j h1_ h2_ => (h72_9 j (by (first | omega | (have z0_ := unhid h6_0; omega))) (by (first | omega | (have z0_ := unhid h6_0; omega)))).trans (C64 j)
      refine go_toq PM267 (k := 2) (pc' := 1435) (L' := [some (.inr (.inr (some 3000))), some (.inr (.inr (some 0))), some (.inr (.inr (some 79))), some (.inl i)]) (st' := []) (w' := (SH, dt73)) rfl ?_
      exact K dt73 hI74 hM133 M2139 (w77.trans (hk0.trans w134.symm)) (by (first | omega | (have z0_ := unhid h6_0; omega))) (w79.trans (hk2.trans w135.symm)) (w80.trans (hk3.trans w136.symm)) (w81.trans (hk4.trans w137.symm)) (w82.trans (hk5.trans w138.symm)) (w83.trans (hk6.trans w93.symm)) (w84.trans (hk7.trans w94.symm)) (w85.trans (hk8.trans w95.symm)) (w86.trans (hk9.trans w96.symm)) (w87.trans (hk10.trans w97.symm)) (w88.trans (hk11.trans w98.symm)) (w89.trans (hk12.trans w99.symm)) (w90.trans (hk13.trans w100.symm)) (w91.trans (hk14.trans w101.symm)) (w92.trans (hk15.trans w102.symm)) (by first | exact hI | exact TPL_k hd0 C158 C160 (by (first | omega | (have z0_ := unhid h6_0; omega))) | (exfalso; (first | omega | (have z0_ := unhid h6_0; omega)))) (by first | exact hI | exact SCL_k hd1 hM (fun j _ => C140 j) (fun j _ => C141 j) F161 | (exfalso; (first | omega | (have z0_ := unhid h6_0; omega)))) (by first | exact hI | exact SCL_k hd2 hM2 (fun j _ => C148 j) (fun j _ => C149 j) (fun j _ _ => C159 j) | (exfalso; (first | omega | (have z0_ := unhid h6_0; omega)))) (by first | exact hI | exact QRL_k hd3 hM (fun j _ => C145 j) hI hI | (exfalso; (first | omega | (have z0_ := unhid h6_0; omega)))) (by first | exact hI | exact QRL_k hd4 hM2 (fun j _ => C153 j) (C159 1) (fun j _ _ => C159 j) | (exfalso; (first | omega | (have z0_ := unhid h6_0; omega)))) (by first | exact hI | exact SDL_k hd5 hM (fun j _ => C146 j) hI F161 hI | (exfalso; (first | omega | (have z0_ := unhid h6_0; omega)))) (by first | exact hI | exact SDL_k hd6 hM2 (fun j _ => C154 j) (C159 1) (fun j _ _ => C159 j) (fun j _ _ => C159 j) | (exfalso; (first | omega | (have z0_ := unhid h6_0; omega)))) (by first | exact hI | exact LWL_k hd7 hM (fun j _ => C142 j) (fun j _ => C143 j) (fun j _ => C144 j) F162 | (exfalso; (first | omega | (have z0_ := unhid h6_0; omega)))) (by first | exact hI | exact LWL_k hd8 hM2 (fun j _ => C150 j) (fun j _ => C151 j) (fun j _ => C152 j) (fun j _ _ => C159 j) | (exfalso; (first | omega | (have z0_ := unhid h6_0; omega)))) (by first | exact hI | exact CHL_k hd9 hM (fun j _ => C147 j) (by (first | omega | (have z0_ := unhid h6_0; omega))) F163 | (exfalso; (first | omega | (have z0_ := unhid h6_0; omega)))) (by first | exact hI | exact CHL_k hd10 hM2 (fun j _ => C155 j) (by (first | omega | (have z0_ := unhid h6_0; omega))) (fun j _ _ => C159 j) | (exfalso; (first | omega | (have z0_ := unhid h6_0; omega)))) (by first | exact hI | exact ANL_k hd11 hM (fun j _ => C156 j) (by (first | omega | (have z0_ := unhid h6_0; omega))) (by (first | omega | (have z0_ := unhid h6_0; omega))) (by (first | omega | (have z0_ := unhid h6_0; omega))) F164 | (exfalso; (first | omega | (have z0_ := unhid h6_0; omega)))) (by first | exact hI | exact ANL_k hd12 hM2 (fun j _ => C157 j) (by (first | omega | (have z0_ := unhid h6_0; omega))) (by (first | omega | (have z0_ := unhid h6_0; omega))) (by (first | omega | (have z0_ := unhid h6_0; omega))) (fun j _ _ => C159 j) | (exfalso; (first | omega | (have z0_ := unhid h6_0; omega))))
  · skip
    obtain ⟨h6_0, h6_1, h6_2, h6_3, h6_4, h6_5, h6_6, h6_7, h6_8, h6_9, h6_10⟩ := h6
    have M2165 : MW (dt7 81) := MW_frk hM2 hF9 (by decide)
    have C166 : ∀ j : Nat, dt7 2 j = dt 2 j := fun j => (hF9 2 (by decide) j).trans ((fun _ => rfl) j)
    have C167 : ∀ j : Nat, dt7 3 j = dt 3 j := fun j => (hF9 3 (by decide) j).trans ((fun _ => rfl) j)
    have C168 : ∀ j : Nat, dt7 4 j = dt 4 j := fun j => (hF9 4 (by decide) j).trans ((fun _ => rfl) j)
    have C169 : ∀ j : Nat, dt7 5 j = dt 5 j := fun j => (hF9 5 (by decide) j).trans ((fun _ => rfl) j)
    have C170 : ∀ j : Nat, dt7 6 j = dt 6 j := fun j => (hF9 6 (by decide) j).trans ((fun _ => rfl) j)
    have C171 : ∀ j : Nat, dt7 11 j = dt 11 j := fun j => (hF9 11 (by decide) j).trans ((fun _ => rfl) j)
    have C172 : ∀ j : Nat, dt7 19 j = dt 19 j := fun j => (hF9 19 (by decide) j).trans ((fun _ => rfl) j)
    have C173 : ∀ j : Nat, dt7 20 j = dt 20 j := fun j => (hF9 20 (by decide) j).trans ((fun _ => rfl) j)
    have C174 : ∀ j : Nat, dt7 21 j = dt 21 j := fun j => (hF9 21 (by decide) j).trans ((fun _ => rfl) j)
    have C175 : ∀ j : Nat, dt7 22 j = dt 22 j := fun j => (hF9 22 (by decide) j).trans ((fun _ => rfl) j)
    have C176 : ∀ j : Nat, dt7 23 j = dt 23 j := fun j => (hF9 23 (by decide) j).trans ((fun _ => rfl) j)
    have C177 : ∀ j : Nat, dt7 25 j = dt 25 j := fun j => (hF9 25 (by decide) j).trans ((fun _ => rfl) j)
    have C178 : ∀ j : Nat, dt7 26 j = dt 26 j := fun j => (hF9 26 (by decide) j).trans ((fun _ => rfl) j)
    have C179 : ∀ j : Nat, dt7 28 j = dt 28 j := fun j => (hF9 28 (by decide) j).trans ((fun _ => rfl) j)
    have C180 : ∀ j : Nat, dt7 13 j = dt 13 j := fun j => (hF9 13 (by decide) j).trans ((fun _ => rfl) j)
    have C181 : ∀ j : Nat, dt7 30 j = dt 30 j := fun j => (hF9 30 (by decide) j).trans ((fun _ => rfl) j)
    have C182 : ∀ j : Nat, dt7 36 j = dt 36 j := fun j => (hF9 36 (by decide) j).trans ((fun _ => rfl) j)
    have C183 : ∀ j : Nat, dt7 80 j = dt 80 j := fun j => (hF9 80 (by decide) j).trans ((fun _ => rfl) j)
    have C184 : ∀ j : Nat, dt7 81 j = dt 81 j := fun j => (hF9 81 (by decide) j).trans ((fun _ => rfl) j)
    have C185 : ∀ j : Nat, dt7 85 j = dt 85 j := fun j => (hF9 85 (by decide) j).trans ((fun _ => rfl) j)
    refine go_toq PM267 (k := 6) (pc' := 529) (L' := [some (.inr (.inr (some 3000))), some (.inr (.inr (some 0))), some (.inr (.inr (some 79))), some (.inl i)]) (st' := [.inl (i + 1), .inr (.inr (some 3000)), .inr (.inr (some 79))]) (w' := (SH, dt7)) rfl ?_
    have r186 := i32_R (xs ((i + 1).toNat))
    refine go_smpq PM267 (L' := [some (.inr (.inr (some 3000))), some (.inr (.inr (some 0))), some (.inr (.inr (some 79))), some (.inl i)]) (st' := [.inl ((xs ((i + 1).toNat)).toInt), .inr (.inr (some 79))]) (w' := (SH, dt7)) rfl rfl (s_iald (n := L) (f := fun j => (xs j).toInt) (am_scr hLL) ⟨by omega, by omega⟩) ?_
    refine go_toq PM267 (k := 4) (pc' := 534) (L' := [some (.inr (.inr (some 3000))), some (.inr (.inr (some 0))), some (.inr (.inr (some 79))), some (.inl i)]) (st' := [.inl (i + 2), .inr (.inr (some 3000)), .inl ((xs ((i + 1).toNat)).toInt), .inr (.inr (some 79))]) (w' := (SH, dt7)) rfl ?_
    have r187 := i32_R (xs ((i + 2).toNat))
    refine go_smpq PM267 (L' := [some (.inr (.inr (some 3000))), some (.inr (.inr (some 0))), some (.inr (.inr (some 79))), some (.inl i)]) (st' := [.inl ((xs ((i + 2).toNat)).toInt), .inl ((xs ((i + 1).toNat)).toInt), .inr (.inr (some 79))]) (w' := (SH, dt7)) rfl rfl (s_iald (n := L) (f := fun j => (xs j).toInt) (am_scr hLL) ⟨by omega, by omega⟩) ?_
    refine go_toq PM267 (k := 4) (pc' := 539) (L' := [some (.inr (.inr (some 3000))), some (.inr (.inr (some 0))), some (.inr (.inr (some 79))), some (.inl i)]) (st' := [.inl (i + 3), .inr (.inr (some 3000)), .inl ((xs ((i + 2).toNat)).toInt), .inl ((xs ((i + 1).toNat)).toInt), .inr (.inr (some 79))]) (w' := (SH, dt7)) rfl ?_
    have r188 := i32_R (xs ((i + 3).toNat))
    refine go_smpq PM267 (L' := [some (.inr (.inr (some 3000))), some (.inr (.inr (some 0))), some (.inr (.inr (some 79))), some (.inl i)]) (st' := [.inl ((xs ((i + 3).toNat)).toInt), .inl ((xs ((i + 2).toNat)).toInt), .inl ((xs ((i + 1).toNat)).toInt), .inr (.inr (some 79))]) (w' := (SH, dt7)) rfl rfl (s_iald (n := L) (f := fun j => (xs j).toInt) (am_scr hLL) ⟨by omega, by omega⟩) ?_
    refine go_toq PM267 (k := 4) (pc' := 544) (L' := [some (.inr (.inr (some 3000))), some (.inr (.inr (some 0))), some (.inr (.inr (some 79))), some (.inl i)]) (st' := [.inl (i + 4), .inr (.inr (some 3000)), .inl ((xs ((i + 3).toNat)).toInt), .inl ((xs ((i + 2).toNat)).toInt), .inl ((xs ((i + 1).toNat)).toInt), .inr (.inr (some 79))]) (w' := (SH, dt7)) rfl ?_
    have r189 := i32_R (xs ((i + 4).toNat))
    refine go_smpq PM267 (L' := [some (.inr (.inr (some 3000))), some (.inr (.inr (some 0))), some (.inr (.inr (some 79))), some (.inl i)]) (st' := [.inl ((xs ((i + 4).toNat)).toInt), .inl ((xs ((i + 3).toNat)).toInt), .inl ((xs ((i + 2).toNat)).toInt), .inl ((xs ((i + 1).toNat)).toInt), .inr (.inr (some 79))]) (w' := (SH, dt7)) rfl rfl (s_iald (n := L) (f := fun j => (xs j).toInt) (am_scr hLL) ⟨by omega, by omega⟩) ?_
    refine go_toq PM267 (k := 4) (pc' := 549) (L' := [some (.inr (.inr (some 3000))), some (.inr (.inr (some 0))), some (.inr (.inr (some 79))), some (.inl i)]) (st' := [.inl (i + 5), .inr (.inr (some 3000)), .inl ((xs ((i + 4).toNat)).toInt), .inl ((xs ((i + 3).toNat)).toInt), .inl ((xs ((i + 2).toNat)).toInt), .inl ((xs ((i + 1).toNat)).toInt), .inr (.inr (some 79))]) (w' := (SH, dt7)) rfl ?_
    have r190 := i32_R (xs ((i + 5).toNat))
    refine go_smpq PM267 (L' := [some (.inr (.inr (some 3000))), some (.inr (.inr (some 0))), some (.inr (.inr (some 79))), some (.inl i)]) (st' := [.inl ((xs ((i + 5).toNat)).toInt), .inl ((xs ((i + 4).toNat)).toInt), .inl ((xs ((i + 3).toNat)).toInt), .inl ((xs ((i + 2).toNat)).toInt), .inl ((xs ((i + 1).toNat)).toInt), .inr (.inr (some 79))]) (w' := (SH, dt7)) rfl rfl (s_iald (n := L) (f := fun j => (xs j).toInt) (am_scr hLL) ⟨by omega, by omega⟩) ?_
    refine go_callq PM267 PM193 (Q' := _) rfl rfl rfl rfl (sp_X6_question_v L xs sio (d + 36) dt7 hI8 hM11  ((xs ((i + 1).toNat)).toInt) ⟨by omega, by omega⟩ ((xs ((i + 2).toNat)).toInt) ⟨by omega, by omega⟩ ((xs ((i + 3).toNat)).toInt) ⟨by omega, by omega⟩ ((xs ((i + 4).toNat)).toInt) ⟨by omega, by omega⟩ ((xs ((i + 5).toNat)).toInt) ⟨by omega, by omega⟩ ) ?_
    rintro _ _ ⟨dt192, rfl, hI193, hF194, h191⟩
    refine ⟨rfl, ?_⟩
    have hF195 : Fr [0, 1, 2, 3, 4, 5, 6, 7, 8, 9, 10, 11, 12, 13, 14, 15, 16, 17, 18, 19, 20, 21, 22, 23, 24, 25, 26, 27, 28, 29, 30, 31, 32, 33, 34, 35, 36, 37, 38, 39, 40, 41, 42, 43, 44, 45, 46, 47, 48, 49, 50, 51, 52, 53, 54, 55, 56, 57, 58, 59, 60, 61, 62, 63, 64, 65, 66, 67, 68, 69, 70, 71, 72, 73, 74, 75, 76, 77, 78, 79, 80, 81, 82, 83, 84, 85, 86, 87, 88, 89, 90, 91, 92, 93, 94, 95, 96, 97, 98, 99, 100, 101, 102, 103, 104] dt dt192 := Fr_tr hF10 hF194 (by decide)
    have w196 : dt192 1 0 = dt 1 0 := (hF194 1 (by decide) 0).trans w12
    have w197 : dt192 7 3 = dt7 7 3 := hF194 7 (by decide) 3
    have w198 : dt192 10 3 = dt 10 3 := (hF194 10 (by decide) 3).trans w13
    have w199 : dt192 12 3 = dt 12 3 := (hF194 12 (by decide) 3).trans w14
    have w200 : dt192 14 3 = dt 14 3 := (hF194 14 (by decide) 3).trans w15
    have w201 : dt192 16 3 = dt 16 3 := (hF194 16 (by decide) 3).trans w16
    have w202 : dt192 18 0 = dt 18 0 := (hF194 18 (by decide) 0).trans w17
    have w203 : dt192 24 3 = dt 24 3 := (hF194 24 (by decide) 3).trans w18
    have w204 : dt192 27 3 = dt 27 3 := (hF194 27 (by decide) 3).trans w19
    have w205 : dt192 29 3 = dt 29 3 := (hF194 29 (by decide) 3).trans w20
    have w206 : dt192 31 3 = dt 31 3 := (hF194 31 (by decide) 3).trans w21
    have w207 : dt192 33 3 = dt 33 3 := (hF194 33 (by decide) 3).trans w22
    have w208 : dt192 0 2 = dt 0 2 := (hF194 0 (by decide) 2).trans w23
    have w209 : dt192 35 1 = dt 35 1 := (hF194 35 (by decide) 1).trans w24
    have w210 : dt192 35 2 = dt 35 2 := (hF194 35 (by decide) 2).trans w25
    have w211 : dt192 35 3 = dt 35 3 := (hF194 35 (by decide) 3).trans w26
    have w212 : dt192 81 0 = dt 81 0 := (hF194 81 (by decide) 0).trans w33
    have w213 : dt192 81 1 = dt 81 1 := (hF194 81 (by decide) 1).trans w34
    have w214 : dt192 81 2 = dt 81 2 := (hF194 81 (by decide) 2).trans w35
    have w215 : dt192 81 3 = dt 81 3 := (hF194 81 (by decide) 3).trans w36
    have w216 : dt192 81 4 = dt 81 4 := (hF194 81 (by decide) 4).trans w37
    have w217 : dt192 81 5 = dt 81 5 := (hF194 81 (by decide) 5).trans w38
    have w218 : dt192 79 2 = dt 79 2 := (hF194 79 (by decide) 2).trans w39
    have w219 : dt192 79 12 = dt 79 12 := (hF194 79 (by decide) 12).trans w40
    have w220 : dt192 79 19 = dt 79 19 := (hF194 79 (by decide) 19).trans w41
    have w221 : dt192 79 21 = dt 79 21 := (hF194 79 (by decide) 21).trans w42
    rcases h191 with ⟨rfl, h191⟩ | ⟨v_h191, rfl, h191r, h191⟩
    · skip
      have hM222 : MW (dt192 80) := h191.2.1
      obtain ⟨h191_0, h191_1, h191_2, h191_3, h191_4, h191_5, h191_6, h191_7, h191_8⟩ := h191
      replace h191_0 := hid h191_0
      have w223 : dt192 80 0 = dt 80 0 := h191_2.trans w27
      have w224 : dt192 80 1 = dt 80 1 := h191_3.trans w28
      have w225 : dt192 80 2 = dt 80 2 := h191_4.trans w29
      have w226 : dt192 80 3 = dt 80 3 := h191_5.trans w30
      have w227 : dt192 80 4 = dt 80 4 := h191_6.trans w31
      have w228 : dt192 80 5 = dt 80 5 := h191_7.trans w32
      have M2229 : MW (dt192 81) := MW_frk M2165 hF194 (by decide)
      have C230 : ∀ j : Nat, dt192 2 j = dt 2 j := fun j => (hF194 2 (by decide) j).trans (C166 j)
      have C231 : ∀ j : Nat, dt192 3 j = dt 3 j := fun j => (hF194 3 (by decide) j).trans (C167 j)
      have C232 : ∀ j : Nat, dt192 4 j = dt 4 j := fun j => (hF194 4 (by decide) j).trans (C168 j)
      have C233 : ∀ j : Nat, dt192 5 j = dt 5 j := fun j => (hF194 5 (by decide) j).trans (C169 j)
      have C234 : ∀ j : Nat, dt192 6 j = dt 6 j := fun j => (hF194 6 (by decide) j).trans (C170 j)
      have C235 : ∀ j : Nat, dt192 11 j = dt 11 j := fun j => (hF194 11 (by decide) j).trans (C171 j)
      have C236 : ∀ j : Nat, dt192 19 j = dt 19 j := fun j => (hF194 19 (by decide) j).trans (C172 j)
      have C237 : ∀ j : Nat, dt192 20 j = dt 20 j := fun j => (hF194 20 (by decide) j).trans (C173 j)
      have C238 : ∀ j : Nat, dt192 21 j = dt 21 j := fun j => (hF194 21 (by decide) j).trans (C174 j)
      have C239 : ∀ j : Nat, dt192 22 j = dt 22 j := fun j => (hF194 22 (by decide) j).trans (C175 j)
      have C240 : ∀ j : Nat, dt192 23 j = dt 23 j := fun j => (hF194 23 (by decide) j).trans (C176 j)
      have C241 : ∀ j : Nat, dt192 25 j = dt 25 j := fun j => (hF194 25 (by decide) j).trans (C177 j)
      have C242 : ∀ j : Nat, dt192 26 j = dt 26 j := fun j => (hF194 26 (by decide) j).trans (C178 j)
      have C243 : ∀ j : Nat, dt192 28 j = dt 28 j := fun j => (hF194 28 (by decide) j).trans (C179 j)
      have C244 : ∀ j : Nat, dt192 13 j = dt 13 j := fun j => (hF194 13 (by decide) j).trans (C180 j)
      have C245 : ∀ j : Nat, dt192 30 j = dt 30 j := fun j => (hF194 30 (by decide) j).trans (C181 j)
      have C246 : ∀ j : Nat, dt192 36 j = dt 36 j := fun j => (hF194 36 (by decide) j).trans (C182 j)
      have C247 : ∀ j : Nat, dt192 80 j = dt 80 j := fun j => (h191_8 j).trans (C183 j)
      have C248 : ∀ j : Nat, dt192 81 j = dt 81 j := fun j => (hF194 81 (by decide) j).trans (C184 j)
      have C249 : ∀ j : Nat, dt192 85 j = dt 85 j := fun j => (hF194 85 (by decide) j).trans (C185 j)
      have N250 := fun (j : Nat) (hj : (j : Int) < 5 * dt 7 3) => (hF194 8 (by decide) j).trans (h6_3 j hj)
      have N251 := (hF194 8 (by decide) _).trans h6_4
      have N252 := (hF194 8 (by decide) _).trans h6_5
      have N253 := (hF194 8 (by decide) _).trans h6_6
      have N254 := (hF194 8 (by decide) _).trans h6_7
      have N255 := (hF194 8 (by decide) _).trans h6_8
      have N256 := fun (j : Nat) (hj : j < 11 * (dt 7 3).toNat) => (hF194 9 (by decide) j).trans (h6_9 j hj)
      have N257 := fun (r : Nat) (hr : r ≤ 10) => (hF194 9 (by decide) _).trans (h6_10 r hr)
      refine go_toq PM267 (k := 2) (pc' := 1435) (L' := [some (.inr (.inr (some 3000))), some (.inr (.inr (some 0))), some (.inr (.inr (some 79))), some (.inl i)]) (st' := []) (w' := (SH, dt192)) rfl ?_
      exact K dt192 hI193 hM222 M2229 (w196.trans (hk0.trans w223.symm)) (by (first | omega | (have z0_ := unhid h191_0; omega))) (w198.trans (hk2.trans w225.symm)) (w199.trans (hk3.trans w226.symm)) (w200.trans (hk4.trans w227.symm)) (w201.trans (hk5.trans w228.symm)) (w202.trans (hk6.trans w212.symm)) (w203.trans (hk7.trans w213.symm)) (w204.trans (hk8.trans w214.symm)) (w205.trans (hk9.trans w215.symm)) (w206.trans (hk10.trans w216.symm)) (w207.trans (hk11.trans w217.symm)) (w208.trans (hk12.trans w218.symm)) (w209.trans (hk13.trans w219.symm)) (w210.trans (hk14.trans w220.symm)) (w211.trans (hk15.trans w221.symm)) (by first | exact hI | exact TPL_k hd0 C246 C249 (by (first | omega | (have z0_ := unhid h191_0; omega))) | (exfalso; (first | omega | (have z0_ := unhid h191_0; omega)))) (by first | exact hI | exact SCL_k hd1 hM (fun j _ => C230 j) (fun j _ => C231 j) (fun j _ _ => C247 j) | (exfalso; (first | omega | (have z0_ := unhid h191_0; omega)))) (by first | exact hI | exact SCL_k hd2 hM2 (fun j _ => C236 j) (fun j _ => C237 j) (fun j _ _ => C248 j) | (exfalso; (first | omega | (have z0_ := unhid h191_0; omega)))) (by first | exact hI | exact QRL_k hd3 hM hI (C247 1) (fun j _ _ => C247 j) | (exfalso; (first | omega | (have z0_ := unhid h191_0; omega)))) (by first | exact hI | exact QRL_k hd4 hM2 (fun j _ => C241 j) (C248 1) (fun j _ _ => C248 j) | (exfalso; (first | omega | (have z0_ := unhid h191_0; omega)))) (by first | exact hI | exact SDL_k hd5 hM hI (C247 1) (fun j _ _ => C247 j) (fun j _ _ => C247 j) | (exfalso; (first | omega | (have z0_ := unhid h191_0; omega)))) (by first | exact hI | exact SDL_k hd6 hM2 (fun j _ => C242 j) (C248 1) (fun j _ _ => C248 j) (fun j _ _ => C248 j) | (exfalso; (first | omega | (have z0_ := unhid h191_0; omega)))) (by first | exact hI | exact LWL_k hd7 hM (fun j _ => C232 j) (fun j _ => C233 j) (fun j _ => C234 j) (fun j _ _ => C247 j) | (exfalso; (first | omega | (have z0_ := unhid h191_0; omega)))) (by first | exact hI | exact LWL_k hd8 hM2 (fun j _ => C238 j) (fun j _ => C239 j) (fun j _ => C240 j) (fun j _ _ => C248 j) | (exfalso; (first | omega | (have z0_ := unhid h191_0; omega)))) (by first | exact hI | exact CHL_k hd9 hM (fun j _ => C235 j) (by (first | omega | (have z0_ := unhid h191_0; omega))) (fun j _ _ => C247 j) | (exfalso; (first | omega | (have z0_ := unhid h191_0; omega)))) (by first | exact hI | exact CHL_k hd10 hM2 (fun j _ => C243 j) (by (first | omega | (have z0_ := unhid h191_0; omega))) (fun j _ _ => C248 j) | (exfalso; (first | omega | (have z0_ := unhid h191_0; omega)))) (by first | exact hI | exact ANL_k hd11 hM (fun j _ => C244 j) (by (first | omega | (have z0_ := unhid h191_0; omega))) (by (first | omega | (have z0_ := unhid h191_0; omega))) (by (first | omega | (have z0_ := unhid h191_0; omega))) (fun j _ _ => C247 j) | (exfalso; (first | omega | (have z0_ := unhid h191_0; omega)))) (by first | exact hI | exact ANL_k hd12 hM2 (fun j _ => C245 j) (by (first | omega | (have z0_ := unhid h191_0; omega))) (by (first | omega | (have z0_ := unhid h191_0; omega))) (by (first | omega | (have z0_ := unhid h191_0; omega))) (fun j _ _ => C248 j) | (exfalso; (first | omega | (have z0_ := unhid h191_0; omega))))
    · skip
      have hM258 : MW (dt192 80) := h191.2.2.1
      obtain ⟨h191_0, h191_1, h191_2, h191_3, h191_4, h191_5, h191_6, h191_7, h191_8, h191_9, h191_10, h191_11, h191_12, h191_13, h191_14⟩ := h191
      have w259 : dt192 80 0 = dt 80 0 := h191_4.trans w27
      have w260 : dt192 80 2 = dt 80 2 := h191_5.trans w29
      have w261 : dt192 80 3 = dt 80 3 := h191_6.trans w30
      have w262 : dt192 80 4 = dt 80 4 := h191_7.trans w31
      have w263 : dt192 80 5 = dt 80 5 := h191_8.trans w32
      have M2264 : MW (dt192 81) := MW_frk M2165 hF194 (by decide)
      have C265 : ∀ j : Nat, dt192 2 j = dt 2 j := fun j => (hF194 2 (by decide) j).trans (C166 j)
      have C266 : ∀ j : Nat, dt192 3 j = dt 3 j := fun j => (hF194 3 (by decide) j).trans (C167 j)
      have C267 : ∀ j : Nat, dt192 4 j = dt 4 j := fun j => (hF194 4 (by decide) j).trans (C168 j)
      have C268 : ∀ j : Nat, dt192 5 j = dt 5 j := fun j => (hF194 5 (by decide) j).trans (C169 j)
      have C269 : ∀ j : Nat, dt192 6 j = dt 6 j := fun j => (hF194 6 (by decide) j).trans (C170 j)
      have C270 : ∀ j : Nat, dt192 11 j = dt 11 j := fun j => (hF194 11 (by decide) j).trans (C171 j)
      have C271 : ∀ j : Nat, dt192 19 j = dt 19 j := fun j => (hF194 19 (by decide) j).trans (C172 j)
      have C272 : ∀ j : Nat, dt192 20 j = dt 20 j := fun j => (hF194 20 (by decide) j).trans (C173 j)
      have C273 : ∀ j : Nat, dt192 21 j = dt 21 j := fun j => (hF194 21 (by decide) j).trans (C174 j)
      have C274 : ∀ j : Nat, dt192 22 j = dt 22 j := fun j => (hF194 22 (by decide) j).trans (C175 j)
      have C275 : ∀ j : Nat, dt192 23 j = dt 23 j := fun j => (hF194 23 (by decide) j).trans (C176 j)
      have C276 : ∀ j : Nat, dt192 25 j = dt 25 j := fun j => (hF194 25 (by decide) j).trans (C177 j)
      have C277 : ∀ j : Nat, dt192 26 j = dt 26 j := fun j => (hF194 26 (by decide) j).trans (C178 j)
      have C278 : ∀ j : Nat, dt192 28 j = dt 28 j := fun j => (hF194 28 (by decide) j).trans (C179 j)
      have C279 : ∀ j : Nat, dt192 13 j = dt 13 j := fun j => (hF194 13 (by decide) j).trans (C180 j)
      have C280 : ∀ j : Nat, dt192 30 j = dt 30 j := fun j => (hF194 30 (by decide) j).trans (C181 j)
      have C281 : ∀ j : Nat, dt192 36 j = dt 36 j := fun j => (hF194 36 (by decide) j).trans (C182 j)
      have C282 : ∀ j : Nat, dt192 81 j = dt 81 j := fun j => (hF194 81 (by decide) j).trans (C184 j)
      have C283 : ∀ j : Nat, dt192 85 j = dt 85 j := fun j => (hF194 85 (by decide) j).trans (C185 j)
      have N284 := fun (j : Nat) (hj : (j : Int) < 5 * dt 7 3) => (hF194 8 (by decide) j).trans (h6_3 j hj)
      have N285 := (hF194 8 (by decide) _).trans h6_4
      have N286 := (hF194 8 (by decide) _).trans h6_5
      have N287 := (hF194 8 (by decide) _).trans h6_6
      have N288 := (hF194 8 (by decide) _).trans h6_7
      have N289 := (hF194 8 (by decide) _).trans h6_8
      have N290 := fun (j : Nat) (hj : j < 11 * (dt 7 3).toNat) => (hF194 9 (by decide) j).trans (h6_9 j hj)
      have N291 := fun (r : Nat) (hr : r ≤ 10) => (hF194 9 (by decide) _).trans (h6_10 r hr)
      have F292 : ∀ j : Nat, 6 ≤ j → j < 974 → dt192 80 j = dt 80 j := fun j h1_ h2_ => (h191_9 j (by omega) (by omega)).trans (C183 j)
      have F293 : ∀ j : Nat, 974 ≤ j → j < 5320 → dt192 80 j = dt 80 j := fun j h1_ h2_ => (h191_9 j (by omega) (by omega)).trans (C183 j)
      have N294 := h191_9
      rw [show dt7 80 = dt 80 from funext C183] at N294
      have N295 := h191_10
      rw [show dt7 80 = dt 80 from funext C183] at N295
      have N296 := h191_11
      rw [show dt7 80 = dt 80 from funext C183] at N296
      have N297 := h191_12
      rw [show dt7 80 = dt 80 from funext C183] at N297
      have N298 := h191_13
      rw [show dt7 80 = dt 80 from funext C183] at N298
      have N299 := h191_14
      rw [show dt7 80 = dt 80 from funext C183] at N299
      have S300 : QRL (dt192 8) (dt192 80) := by first | exact QRL_q hd3 hk1 (by omega) N284 N285 N286 N287 N288 N289 ⟨fun z_ => if_neg z_, fun z_ => if_pos z_⟩ (by omega) N294 N295 N296 N297 N298 N299 | (exfalso; omega)
      have S301 : SDL (dt192 9) (dt192 80) := by first | exact SDL_q hd5 hM hM258 hk1 (by omega) N290 N291 (fun z_ => if_neg z_) (by omega) N294 N295 N296 N297 N298 N299 (by omega) | (exfalso; omega)
      have F302 : ∀ j : Nat, 5380 ≤ j → j < 5540 → dt192 80 j = dt 80 j := fun j h1_ h2_ => (h191_9 j (by omega) (by omega)).trans (C183 j)
      have F303 : ∀ j : Nat, 5540 ≤ j → j < 7340 → dt192 80 j = dt 80 j := fun j h1_ h2_ => (h191_9 j (by omega) (by omega)).trans (C183 j)
      refine go_toq PM267 (k := 2) (pc' := 1435) (L' := [some (.inr (.inr (some 3000))), some (.inr (.inr (some 0))), some (.inr (.inr (some 79))), some (.inl i)]) (st' := []) (w' := (SH, dt192)) rfl ?_
      exact K dt192 hI193 hM258 M2264 (w196.trans (hk0.trans w259.symm)) (by omega) (w198.trans (hk2.trans w260.symm)) (w199.trans (hk3.trans w261.symm)) (w200.trans (hk4.trans w262.symm)) (w201.trans (hk5.trans w263.symm)) (w202.trans (hk6.trans w212.symm)) (w203.trans (hk7.trans w213.symm)) (w204.trans (hk8.trans w214.symm)) (w205.trans (hk9.trans w215.symm)) (w206.trans (hk10.trans w216.symm)) (w207.trans (hk11.trans w217.symm)) (w208.trans (hk12.trans w218.symm)) (w209.trans (hk13.trans w219.symm)) (w210.trans (hk14.trans w220.symm)) (w211.trans (hk15.trans w221.symm)) (by first | exact hI | exact TPL_k hd0 C281 C283 (by omega) | (exfalso; omega)) (by first | exact hI | exact SCL_k hd1 hM (fun j _ => C265 j) (fun j _ => C266 j) F292 | (exfalso; omega)) (by first | exact hI | exact SCL_k hd2 hM2 (fun j _ => C271 j) (fun j _ => C272 j) (fun j _ _ => C282 j) | (exfalso; omega)) (by first | exact S300 | exact QRL_k hd3 hM hI hI hI | (exfalso; omega)) (by first | exact hI | exact QRL_k hd4 hM2 (fun j _ => C276 j) (C282 1) (fun j _ _ => C282 j) | (exfalso; omega)) (by first | exact S301 | exact SDL_k hd5 hM hI hI F292 hI | (exfalso; omega)) (by first | exact hI | exact SDL_k hd6 hM2 (fun j _ => C277 j) (C282 1) (fun j _ _ => C282 j) (fun j _ _ => C282 j) | (exfalso; omega)) (by first | exact hI | exact LWL_k hd7 hM (fun j _ => C267 j) (fun j _ => C268 j) (fun j _ => C269 j) F293 | (exfalso; omega)) (by first | exact hI | exact LWL_k hd8 hM2 (fun j _ => C273 j) (fun j _ => C274 j) (fun j _ => C275 j) (fun j _ _ => C282 j) | (exfalso; omega)) (by first | exact hI | exact CHL_k hd9 hM (fun j _ => C270 j) (by omega) F302 | (exfalso; omega)) (by first | exact hI | exact CHL_k hd10 hM2 (fun j _ => C278 j) (by omega) (fun j _ _ => C282 j) | (exfalso; omega)) (by first | exact hI | exact ANL_k hd11 hM (fun j _ => C279 j) (by omega) (by omega) (by omega) F303 | (exfalso; omega)) (by first | exact hI | exact ANL_k hd12 hM2 (fun j _ => C280 j) (by omega) (by omega) (by omega) (fun j _ _ => C282 j) | (exfalso; omega))
set_option maxRecDepth 20000 in
set_option maxHeartbeats 8000000 in
theorem sp_case9 (L : Nat) (xs : Nat → Int32) (sio : Option Nat) (d : Nat) (Q : Option AV → am_W → Prop) (hLL : L ≤ 3072) (i : Int) (hi : 0 ≤ i ∧ i ≤ 3066) (hil : i ≤ (L : Int) - 6) (dt : Nat → Nat → Int) (hI : InvC dt) (hM : MW (dt 80)) (hM2 : MW (dt 81)) (hk0 : dt 1 0 = dt 80 0) (hk1 : dt 7 3 = dt 80 1) (hk2 : dt 10 3 = dt 80 2) (hk3 : dt 12 3 = dt 80 3) (hk4 : dt 14 3 = dt 80 4) (hk5 : dt 16 3 = dt 80 5) (hk6 : dt 18 0 = dt 81 0) (hk7 : dt 24 3 = dt 81 1) (hk8 : dt 27 3 = dt 81 2) (hk9 : dt 29 3 = dt 81 3) (hk10 : dt 31 3 = dt 81 4) (hk11 : dt 33 3 = dt 81 5) (hk12 : dt 0 2 = dt 79 2) (hk13 : dt 35 1 = dt 79 12) (hk14 : dt 35 2 = dt 79 19) (hk15 : dt 35 3 = dt 79 21) (hd0 : TPL (dt 36) (dt 85) (dt 35 1)) (hd1 : SCL (dt 2) (dt 3) (dt 80)) (hd2 : SCL (dt 19) (dt 20) (dt 81)) (hd3 : QRL (dt 8) (dt 80)) (hd4 : QRL (dt 25) (dt 81)) (hd5 : SDL (dt 9) (dt 80)) (hd6 : SDL (dt 26) (dt 81)) (hd7 : LWL (dt 4) (dt 5) (dt 6) (dt 80)) (hd8 : LWL (dt 21) (dt 22) (dt 23) (dt 81)) (hd9 : CHL (dt 11) (dt 80)) (hd10 : CHL (dt 28) (dt 81)) (hd11 : ANL (dt 13) (dt 80)) (hd12 : ANL (dt 30) (dt 81)) (K : ∀ (dt : Nat → Nat → Int) (hI : InvC dt) (hM : MW (dt 80)) (hM2 : MW (dt 81)) (hk0 : dt 1 0 = dt 80 0) (hk1 : dt 7 3 = dt 80 1) (hk2 : dt 10 3 = dt 80 2) (hk3 : dt 12 3 = dt 80 3) (hk4 : dt 14 3 = dt 80 4) (hk5 : dt 16 3 = dt 80 5) (hk6 : dt 18 0 = dt 81 0) (hk7 : dt 24 3 = dt 81 1) (hk8 : dt 27 3 = dt 81 2) (hk9 : dt 29 3 = dt 81 3) (hk10 : dt 31 3 = dt 81 4) (hk11 : dt 33 3 = dt 81 5) (hk12 : dt 0 2 = dt 79 2) (hk13 : dt 35 1 = dt 79 12) (hk14 : dt 35 2 = dt 79 19) (hk15 : dt 35 3 = dt 79 21) (hd0 : TPL (dt 36) (dt 85) (dt 35 1)) (hd1 : SCL (dt 2) (dt 3) (dt 80)) (hd2 : SCL (dt 19) (dt 20) (dt 81)) (hd3 : QRL (dt 8) (dt 80)) (hd4 : QRL (dt 25) (dt 81)) (hd5 : SDL (dt 9) (dt 80)) (hd6 : SDL (dt 26) (dt 81)) (hd7 : LWL (dt 4) (dt 5) (dt 6) (dt 80)) (hd8 : LWL (dt 21) (dt 22) (dt 23) (dt 81)) (hd9 : CHL (dt 11) (dt 80)) (hd10 : CHL (dt 28) (dt 81)) (hd11 : ANL (dt 13) (dt 80)) (hd12 : ANL (dt 30) (dt 81)), GO (am_XX L xs sio) (d + 39) 267 1435 [some (.inr (.inr (some 3000))), some (.inr (.inr (some 0))), some (.inr (.inr (some 79))), some (.inl i)] [] (SH, dt) Q) : GO (am_XX L xs sio) (d + 39) 267 557 [some (.inr (.inr (some 3000))), some (.inr (.inr (some 0))), some (.inr (.inr (some 79))), some (.inl i)] [] (SH, dt) Q := by
  have hF : Fr [0, 1, 2, 3, 4, 5, 6, 7, 8, 9, 10, 11, 12, 13, 14, 15, 16, 17, 18, 19, 20, 21, 22, 23, 24, 25, 26, 27, 28, 29, 30, 31, 32, 33, 34, 35, 36, 37, 38, 39, 40, 41, 42, 43, 44, 45, 46, 47, 48, 49, 50, 51, 52, 53, 54, 55, 56, 57, 58, 59, 60, 61, 62, 63, 64, 65, 66, 67, 68, 69, 70, 71, 72, 73, 74, 75, 76, 77, 78, 79, 80, 81, 82, 83, 84, 85, 86, 87, 88, 89, 90, 91, 92, 93, 94, 95, 96, 97, 98, 99, 100, 101, 102, 103, 104] dt dt := Fr_refl
  have hqo := QOC_R hd3 hM hk1
  have hb1_ := hM.1.1
  have hb2_ := hM.1.2.1
  have hb3_ := hM.1.2.2.1
  have halk : ALK dt (dt 80) := ⟨hd7, hd3, hd5, hd9, hk1, hk2⟩
  have hav_ : ∀ i : Nat, (i : Int) < dt 12 3 → 0 ≤ dt 13 (6 * i + 1) ∧ dt 13 (6 * i + 1) < dt 7 3 := fun i hi => by have z := hd11 i (by omega); have y := z.2.2 1 (by decide); have w := z.2.1; omega
  refine go_toq PM267 (k := 5) (pc' := 562) (L' := [some (.inr (.inr (some 3000))), some (.inr (.inr (some 0))), some (.inr (.inr (some 79))), some (.inl i)]) (st' := [.inl (i + 1), .inr (.inr (some 3000)), .inr (.inr (some 0))]) (w' := (SH, dt)) rfl ?_
  have r1 := i32_R (xs ((i + 1).toNat))
  refine go_smpq PM267 (L' := [some (.inr (.inr (some 3000))), some (.inr (.inr (some 0))), some (.inr (.inr (some 79))), some (.inl i)]) (st' := [.inl ((xs ((i + 1).toNat)).toInt), .inr (.inr (some 0))]) (w' := (SH, dt)) rfl rfl (s_iald (n := L) (f := fun j => (xs j).toInt) (am_scr hLL) ⟨by omega, by omega⟩) ?_
  refine go_toq PM267 (k := 4) (pc' := 567) (L' := [some (.inr (.inr (some 3000))), some (.inr (.inr (some 0))), some (.inr (.inr (some 79))), some (.inl i)]) (st' := [.inl (i + 2), .inr (.inr (some 3000)), .inl ((xs ((i + 1).toNat)).toInt), .inr (.inr (some 0))]) (w' := (SH, dt)) rfl ?_
  have r2 := i32_R (xs ((i + 2).toNat))
  refine go_smpq PM267 (L' := [some (.inr (.inr (some 3000))), some (.inr (.inr (some 0))), some (.inr (.inr (some 79))), some (.inl i)]) (st' := [.inl ((xs ((i + 2).toNat)).toInt), .inl ((xs ((i + 1).toNat)).toInt), .inr (.inr (some 0))]) (w' := (SH, dt)) rfl rfl (s_iald (n := L) (f := fun j => (xs j).toInt) (am_scr hLL) ⟨by omega, by omega⟩) ?_
  refine go_callq PM267 PM76 (Q' := _) rfl rfl rfl rfl (sp_X5_says_f L xs sio (d + 36) dt hI  ((xs ((i + 1).toNat)).toInt) ⟨by omega, by omega⟩ ((xs ((i + 2).toNat)).toInt) ⟨by omega, by omega⟩ ) ?_
  rintro _ _ ⟨rfl, h3⟩
  refine ⟨rfl, ?_⟩
  rcases h3 with ⟨rfl, h3⟩ | ⟨v_h3, rfl, h3r, h3⟩
  · skip
    refine go_toq PM267 (k := 6) (pc' := 577) (L' := [some (.inr (.inr (some 3000))), some (.inr (.inr (some 0))), some (.inr (.inr (some 79))), some (.inl i)]) (st' := [.inl (i + 1), .inr (.inr (some 3000)), .inr (.inr (some 79))]) (w' := (SH, dt)) rfl ?_
    refine go_smpq PM267 (L' := [some (.inr (.inr (some 3000))), some (.inr (.inr (some 0))), some (.inr (.inr (some 79))), some (.inl i)]) (st' := [.inl ((xs ((i + 1).toNat)).toInt), .inr (.inr (some 79))]) (w' := (SH, dt)) rfl rfl (s_iald (n := L) (f := fun j => (xs j).toInt) (am_scr hLL) ⟨by omega, by omega⟩) ?_
    refine go_toq PM267 (k := 4) (pc' := 582) (L' := [some (.inr (.inr (some 3000))), some (.inr (.inr (some 0))), some (.inr (.inr (some 79))), some (.inl i)]) (st' := [.inl (i + 2), .inr (.inr (some 3000)), .inl ((xs ((i + 1).toNat)).toInt), .inr (.inr (some 79))]) (w' := (SH, dt)) rfl ?_
    refine go_smpq PM267 (L' := [some (.inr (.inr (some 3000))), some (.inr (.inr (some 0))), some (.inr (.inr (some 79))), some (.inl i)]) (st' := [.inl ((xs ((i + 2).toNat)).toInt), .inl ((xs ((i + 1).toNat)).toInt), .inr (.inr (some 79))]) (w' := (SH, dt)) rfl rfl (s_iald (n := L) (f := fun j => (xs j).toInt) (am_scr hLL) ⟨by omega, by omega⟩) ?_
    refine go_callq PM267 PM197 (Q' := _) rfl rfl rfl rfl (sp_X6_says_f L xs sio (d + 32) dt hI hM  ((xs ((i + 1).toNat)).toInt) ⟨by omega, by omega⟩ ((xs ((i + 2).toNat)).toInt) ⟨by omega, by omega⟩ ) ?_
    rintro _ _ ⟨dt5, rfl, hI6, hF7, h4⟩
    refine ⟨rfl, ?_⟩
    have hF8 : Fr [0, 1, 2, 3, 4, 5, 6, 7, 8, 9, 10, 11, 12, 13, 14, 15, 16, 17, 18, 19, 20, 21, 22, 23, 24, 25, 26, 27, 28, 29, 30, 31, 32, 33, 34, 35, 36, 37, 38, 39, 40, 41, 42, 43, 44, 45, 46, 47, 48, 49, 50, 51, 52, 53, 54, 55, 56, 57, 58, 59, 60, 61, 62, 63, 64, 65, 66, 67, 68, 69, 70, 71, 72, 73, 74, 75, 76, 77, 78, 79, 80, 81, 82, 83, 84, 85, 86, 87, 88, 89, 90, 91, 92, 93, 94, 95, 96, 97, 98, 99, 100, 101, 102, 103, 104] dt dt5 := Fr_tr hF hF7 (by decide)
    have hM9 : MW (dt5 80) := MW_fr hM hF7 (by decide)
    have w10 : dt5 1 0 = dt 1 0 := hF7 1 (by decide) 0
    have w11 : dt5 7 3 = dt 7 3 := hF7 7 (by decide) 3
    have w12 : dt5 10 3 = dt 10 3 := hF7 10 (by decide) 3
    have w13 : dt5 12 3 = dt 12 3 := hF7 12 (by decide) 3
    have w14 : dt5 14 3 = dt 14 3 := hF7 14 (by decide) 3
    have w15 : dt5 16 3 = dt 16 3 := hF7 16 (by decide) 3
    have w16 : dt5 18 0 = dt 18 0 := hF7 18 (by decide) 0
    have w17 : dt5 24 3 = dt 24 3 := hF7 24 (by decide) 3
    have w18 : dt5 27 3 = dt 27 3 := hF7 27 (by decide) 3
    have w19 : dt5 29 3 = dt 29 3 := hF7 29 (by decide) 3
    have w20 : dt5 31 3 = dt 31 3 := hF7 31 (by decide) 3
    have w21 : dt5 33 3 = dt 33 3 := hF7 33 (by decide) 3
    have w22 : dt5 0 2 = dt 0 2 := hF7 0 (by decide) 2
    have w23 : dt5 35 1 = dt 35 1 := hF7 35 (by decide) 1
    have w24 : dt5 35 2 = dt 35 2 := hF7 35 (by decide) 2
    have w25 : dt5 35 3 = dt 35 3 := hF7 35 (by decide) 3
    have w26 : dt5 80 0 = dt 80 0 := hF7 80 (by decide) 0
    have w27 : dt5 80 1 = dt 80 1 := hF7 80 (by decide) 1
    have w28 : dt5 80 2 = dt 80 2 := hF7 80 (by decide) 2
    have w29 : dt5 80 3 = dt 80 3 := hF7 80 (by decide) 3
    have w30 : dt5 80 4 = dt 80 4 := hF7 80 (by decide) 4
    have w31 : dt5 80 5 = dt 80 5 := hF7 80 (by decide) 5
    have w32 : dt5 81 0 = dt 81 0 := hF7 81 (by decide) 0
    have w33 : dt5 81 1 = dt 81 1 := hF7 81 (by decide) 1
    have w34 : dt5 81 2 = dt 81 2 := hF7 81 (by decide) 2
    have w35 : dt5 81 3 = dt 81 3 := hF7 81 (by decide) 3
    have w36 : dt5 81 4 = dt 81 4 := hF7 81 (by decide) 4
    have w37 : dt5 81 5 = dt 81 5 := hF7 81 (by decide) 5
    have w38 : dt5 79 2 = dt 79 2 := hF7 79 (by decide) 2
    have w39 : dt5 79 12 = dt 79 12 := hF7 79 (by decide) 12
    have w40 : dt5 79 19 = dt 79 19 := hF7 79 (by decide) 19
    have w41 : dt5 79 21 = dt 79 21 := hF7 79 (by decide) 21
    rcases h4 with ⟨rfl, h4⟩ | ⟨v_h4, rfl, h4r, h4⟩
    · skip
      have M242 : MW (dt5 81) := MW_frk hM2 hF7 (by decide)
      have y43 : (0 ≤ ((xs ((i + 1).toNat)).toInt) ∧ ((xs ((i + 1).toNat)).toInt) < dt 7 3) → (0 ≤ ((xs ((i + 2).toNat)).toInt) ∧ ((xs ((i + 2).toNat)).toInt) ≤ 9) → SDC (dt 9) (((xs ((i + 1).toNat)).toInt)).toNat ((xs ((i + 2).toNat)).toInt) = SAID (dt 80) (((xs ((i + 1).toNat)).toInt)).toNat ((xs ((i + 2).toNat)).toInt) := fun h1_ h2_ => SDL_c hd5 (by omega) (by omega)
      replace y43 := hid y43
      have C44 : ∀ j : Nat, dt5 2 j = dt 2 j := fun j => (hF7 2 (by decide) j).trans ((fun _ => rfl) j)
      have C45 : ∀ j : Nat, dt5 3 j = dt 3 j := fun j => (hF7 3 (by decide) j).trans ((fun _ => rfl) j)
      have C46 : ∀ j : Nat, dt5 4 j = dt 4 j := fun j => (hF7 4 (by decide) j).trans ((fun _ => rfl) j)
      have C47 : ∀ j : Nat, dt5 5 j = dt 5 j := fun j => (hF7 5 (by decide) j).trans ((fun _ => rfl) j)
      have C48 : ∀ j : Nat, dt5 6 j = dt 6 j := fun j => (hF7 6 (by decide) j).trans ((fun _ => rfl) j)
      have C49 : ∀ j : Nat, dt5 8 j = dt 8 j := fun j => (hF7 8 (by decide) j).trans ((fun _ => rfl) j)
      have C50 : ∀ j : Nat, dt5 9 j = dt 9 j := fun j => (hF7 9 (by decide) j).trans ((fun _ => rfl) j)
      have C51 : ∀ j : Nat, dt5 11 j = dt 11 j := fun j => (hF7 11 (by decide) j).trans ((fun _ => rfl) j)
      have C52 : ∀ j : Nat, dt5 19 j = dt 19 j := fun j => (hF7 19 (by decide) j).trans ((fun _ => rfl) j)
      have C53 : ∀ j : Nat, dt5 20 j = dt 20 j := fun j => (hF7 20 (by decide) j).trans ((fun _ => rfl) j)
      have C54 : ∀ j : Nat, dt5 21 j = dt 21 j := fun j => (hF7 21 (by decide) j).trans ((fun _ => rfl) j)
      have C55 : ∀ j : Nat, dt5 22 j = dt 22 j := fun j => (hF7 22 (by decide) j).trans ((fun _ => rfl) j)
      have C56 : ∀ j : Nat, dt5 23 j = dt 23 j := fun j => (hF7 23 (by decide) j).trans ((fun _ => rfl) j)
      have C57 : ∀ j : Nat, dt5 25 j = dt 25 j := fun j => (hF7 25 (by decide) j).trans ((fun _ => rfl) j)
      have C58 : ∀ j : Nat, dt5 26 j = dt 26 j := fun j => (hF7 26 (by decide) j).trans ((fun _ => rfl) j)
      have C59 : ∀ j : Nat, dt5 28 j = dt 28 j := fun j => (hF7 28 (by decide) j).trans ((fun _ => rfl) j)
      have C60 : ∀ j : Nat, dt5 13 j = dt 13 j := fun j => (hF7 13 (by decide) j).trans ((fun _ => rfl) j)
      have C61 : ∀ j : Nat, dt5 30 j = dt 30 j := fun j => (hF7 30 (by decide) j).trans ((fun _ => rfl) j)
      have C62 : ∀ j : Nat, dt5 36 j = dt 36 j := fun j => (hF7 36 (by decide) j).trans ((fun _ => rfl) j)
      have C63 : ∀ j : Nat, dt5 80 j = dt 80 j := fun j => (hF7 80 (by decide) j).trans ((fun _ => rfl) j)
      have C64 : ∀ j : Nat, dt5 81 j = dt 81 j := fun j => (hF7 81 (by decide) j).trans ((fun _ => rfl) j)
      have C65 : ∀ j : Nat, dt5 85 j = dt 85 j := fun j => (hF7 85 (by decide) j).trans ((fun _ => rfl) j)
      refine go_toq PM267 (k := 2) (pc' := 1435) (L' := [some (.inr (.inr (some 3000))), some (.inr (.inr (some 0))), some (.inr (.inr (some 79))), some (.inl i)]) (st' := []) (w' := (SH, dt5)) rfl ?_
      exact K dt5 hI6 hM9 M242 (w10.trans (hk0.trans w26.symm)) (w11.trans (hk1.trans w27.symm)) (w12.trans (hk2.trans w28.symm)) (w13.trans (hk3.trans w29.symm)) (w14.trans (hk4.trans w30.symm)) (w15.trans (hk5.trans w31.symm)) (w16.trans (hk6.trans w32.symm)) (w17.trans (hk7.trans w33.symm)) (w18.trans (hk8.trans w34.symm)) (w19.trans (hk9.trans w35.symm)) (w20.trans (hk10.trans w36.symm)) (w21.trans (hk11.trans w37.symm)) (w22.trans (hk12.trans w38.symm)) (w23.trans (hk13.trans w39.symm)) (w24.trans (hk14.trans w40.symm)) (w25.trans (hk15.trans w41.symm)) (by first | exact hI | exact TPL_k hd0 C62 C65 (by (first | omega | (have z0_ := unhid y43; omega))) | (exfalso; (first | omega | (have z0_ := unhid y43; omega)))) (by first | exact hI | exact SCL_k hd1 hM (fun j _ => C44 j) (fun j _ => C45 j) (fun j _ _ => C63 j) | (exfalso; (first | omega | (have z0_ := unhid y43; omega)))) (by first | exact hI | exact SCL_k hd2 hM2 (fun j _ => C52 j) (fun j _ => C53 j) (fun j _ _ => C64 j) | (exfalso; (first | omega | (have z0_ := unhid y43; omega)))) (by first | exact hI | exact QRL_k hd3 hM (fun j _ => C49 j) (C63 1) (fun j _ _ => C63 j) | (exfalso; (first | omega | (have z0_ := unhid y43; omega)))) (by first | exact hI | exact QRL_k hd4 hM2 (fun j _ => C57 j) (C64 1) (fun j _ _ => C64 j) | (exfalso; (first | omega | (have z0_ := unhid y43; omega)))) (by first | exact hI | exact SDL_k hd5 hM (fun j _ => C50 j) (C63 1) (fun j _ _ => C63 j) (fun j _ _ => C63 j) | (exfalso; (first | omega | (have z0_ := unhid y43; omega)))) (by first | exact hI | exact SDL_k hd6 hM2 (fun j _ => C58 j) (C64 1) (fun j _ _ => C64 j) (fun j _ _ => C64 j) | (exfalso; (first | omega | (have z0_ := unhid y43; omega)))) (by first | exact hI | exact LWL_k hd7 hM (fun j _ => C46 j) (fun j _ => C47 j) (fun j _ => C48 j) (fun j _ _ => C63 j) | (exfalso; (first | omega | (have z0_ := unhid y43; omega)))) (by first | exact hI | exact LWL_k hd8 hM2 (fun j _ => C54 j) (fun j _ => C55 j) (fun j _ => C56 j) (fun j _ _ => C64 j) | (exfalso; (first | omega | (have z0_ := unhid y43; omega)))) (by first | exact hI | exact CHL_k hd9 hM (fun j _ => C51 j) (by (first | omega | (have z0_ := unhid y43; omega))) (fun j _ _ => C63 j) | (exfalso; (first | omega | (have z0_ := unhid y43; omega)))) (by first | exact hI | exact CHL_k hd10 hM2 (fun j _ => C59 j) (by (first | omega | (have z0_ := unhid y43; omega))) (fun j _ _ => C64 j) | (exfalso; (first | omega | (have z0_ := unhid y43; omega)))) (by first | exact hI | exact ANL_k hd11 hM (fun j _ => C60 j) (by (first | omega | (have z0_ := unhid y43; omega))) (by (first | omega | (have z0_ := unhid y43; omega))) (by (first | omega | (have z0_ := unhid y43; omega))) (fun j _ _ => C63 j) | (exfalso; (first | omega | (have z0_ := unhid y43; omega)))) (by first | exact hI | exact ANL_k hd12 hM2 (fun j _ => C61 j) (by (first | omega | (have z0_ := unhid y43; omega))) (by (first | omega | (have z0_ := unhid y43; omega))) (by (first | omega | (have z0_ := unhid y43; omega))) (fun j _ _ => C64 j) | (exfalso; (first | omega | (have z0_ := unhid y43; omega))))
    · skip
      obtain ⟨h4_0, h4_1⟩ := h4
      have M266 : MW (dt5 81) := MW_frk hM2 hF7 (by decide)
      have y67 : (0 ≤ ((xs ((i + 1).toNat)).toInt) ∧ ((xs ((i + 1).toNat)).toInt) < dt 7 3) → (0 ≤ ((xs ((i + 2).toNat)).toInt) ∧ ((xs ((i + 2).toNat)).toInt) ≤ 9) → SDC (dt 9) (((xs ((i + 1).toNat)).toInt)).toNat ((xs ((i + 2).toNat)).toInt) = SAID (dt 80) (((xs ((i + 1).toNat)).toInt)).toNat ((xs ((i + 2).toNat)).toInt) := fun h1_ h2_ => SDL_c hd5 (by omega) (by omega)
      replace y67 := hid y67
      have C68 : ∀ j : Nat, dt5 2 j = dt 2 j := fun j => (hF7 2 (by decide) j).trans ((fun _ => rfl) j)
      have C69 : ∀ j : Nat, dt5 3 j = dt 3 j := fun j => (hF7 3 (by decide) j).trans ((fun _ => rfl) j)
      have C70 : ∀ j : Nat, dt5 4 j = dt 4 j := fun j => (hF7 4 (by decide) j).trans ((fun _ => rfl) j)
      have C71 : ∀ j : Nat, dt5 5 j = dt 5 j := fun j => (hF7 5 (by decide) j).trans ((fun _ => rfl) j)
      have C72 : ∀ j : Nat, dt5 6 j = dt 6 j := fun j => (hF7 6 (by decide) j).trans ((fun _ => rfl) j)
      have C73 : ∀ j : Nat, dt5 8 j = dt 8 j := fun j => (hF7 8 (by decide) j).trans ((fun _ => rfl) j)
      have C74 : ∀ j : Nat, dt5 9 j = dt 9 j := fun j => (hF7 9 (by decide) j).trans ((fun _ => rfl) j)
      have C75 : ∀ j : Nat, dt5 11 j = dt 11 j := fun j => (hF7 11 (by decide) j).trans ((fun _ => rfl) j)
      have C76 : ∀ j : Nat, dt5 19 j = dt 19 j := fun j => (hF7 19 (by decide) j).trans ((fun _ => rfl) j)
      have C77 : ∀ j : Nat, dt5 20 j = dt 20 j := fun j => (hF7 20 (by decide) j).trans ((fun _ => rfl) j)
      have C78 : ∀ j : Nat, dt5 21 j = dt 21 j := fun j => (hF7 21 (by decide) j).trans ((fun _ => rfl) j)
      have C79 : ∀ j : Nat, dt5 22 j = dt 22 j := fun j => (hF7 22 (by decide) j).trans ((fun _ => rfl) j)
      have C80 : ∀ j : Nat, dt5 23 j = dt 23 j := fun j => (hF7 23 (by decide) j).trans ((fun _ => rfl) j)
      have C81 : ∀ j : Nat, dt5 25 j = dt 25 j := fun j => (hF7 25 (by decide) j).trans ((fun _ => rfl) j)
      have C82 : ∀ j : Nat, dt5 26 j = dt 26 j := fun j => (hF7 26 (by decide) j).trans ((fun _ => rfl) j)
      have C83 : ∀ j : Nat, dt5 28 j = dt 28 j := fun j => (hF7 28 (by decide) j).trans ((fun _ => rfl) j)
      have C84 : ∀ j : Nat, dt5 13 j = dt 13 j := fun j => (hF7 13 (by decide) j).trans ((fun _ => rfl) j)
      have C85 : ∀ j : Nat, dt5 30 j = dt 30 j := fun j => (hF7 30 (by decide) j).trans ((fun _ => rfl) j)
      have C86 : ∀ j : Nat, dt5 36 j = dt 36 j := fun j => (hF7 36 (by decide) j).trans ((fun _ => rfl) j)
      have C87 : ∀ j : Nat, dt5 80 j = dt 80 j := fun j => (hF7 80 (by decide) j).trans ((fun _ => rfl) j)
      have C88 : ∀ j : Nat, dt5 81 j = dt 81 j := fun j => (hF7 81 (by decide) j).trans ((fun _ => rfl) j)
      have C89 : ∀ j : Nat, dt5 85 j = dt 85 j := fun j => (hF7 85 (by decide) j).trans ((fun _ => rfl) j)
      refine go_toq PM267 (k := 2) (pc' := 1435) (L' := [some (.inr (.inr (some 3000))), some (.inr (.inr (some 0))), some (.inr (.inr (some 79))), some (.inl i)]) (st' := []) (w' := (SH, dt5)) rfl ?_
      exact K dt5 hI6 hM9 M266 (w10.trans (hk0.trans w26.symm)) (w11.trans (hk1.trans w27.symm)) (w12.trans (hk2.trans w28.symm)) (w13.trans (hk3.trans w29.symm)) (w14.trans (hk4.trans w30.symm)) (w15.trans (hk5.trans w31.symm)) (w16.trans (hk6.trans w32.symm)) (w17.trans (hk7.trans w33.symm)) (w18.trans (hk8.trans w34.symm)) (w19.trans (hk9.trans w35.symm)) (w20.trans (hk10.trans w36.symm)) (w21.trans (hk11.trans w37.symm)) (w22.trans (hk12.trans w38.symm)) (w23.trans (hk13.trans w39.symm)) (w24.trans (hk14.trans w40.symm)) (w25.trans (hk15.trans w41.symm)) (by first | exact hI | exact TPL_k hd0 C86 C89 (by (first | omega | (have z0_ := unhid y67; omega))) | (exfalso; (first | omega | (have z0_ := unhid y67; omega)))) (by first | exact hI | exact SCL_k hd1 hM (fun j _ => C68 j) (fun j _ => C69 j) (fun j _ _ => C87 j) | (exfalso; (first | omega | (have z0_ := unhid y67; omega)))) (by first | exact hI | exact SCL_k hd2 hM2 (fun j _ => C76 j) (fun j _ => C77 j) (fun j _ _ => C88 j) | (exfalso; (first | omega | (have z0_ := unhid y67; omega)))) (by first | exact hI | exact QRL_k hd3 hM (fun j _ => C73 j) (C87 1) (fun j _ _ => C87 j) | (exfalso; (first | omega | (have z0_ := unhid y67; omega)))) (by first | exact hI | exact QRL_k hd4 hM2 (fun j _ => C81 j) (C88 1) (fun j _ _ => C88 j) | (exfalso; (first | omega | (have z0_ := unhid y67; omega)))) (by first | exact hI | exact SDL_k hd5 hM (fun j _ => C74 j) (C87 1) (fun j _ _ => C87 j) (fun j _ _ => C87 j) | (exfalso; (first | omega | (have z0_ := unhid y67; omega)))) (by first | exact hI | exact SDL_k hd6 hM2 (fun j _ => C82 j) (C88 1) (fun j _ _ => C88 j) (fun j _ _ => C88 j) | (exfalso; (first | omega | (have z0_ := unhid y67; omega)))) (by first | exact hI | exact LWL_k hd7 hM (fun j _ => C70 j) (fun j _ => C71 j) (fun j _ => C72 j) (fun j _ _ => C87 j) | (exfalso; (first | omega | (have z0_ := unhid y67; omega)))) (by first | exact hI | exact LWL_k hd8 hM2 (fun j _ => C78 j) (fun j _ => C79 j) (fun j _ => C80 j) (fun j _ _ => C88 j) | (exfalso; (first | omega | (have z0_ := unhid y67; omega)))) (by first | exact hI | exact CHL_k hd9 hM (fun j _ => C75 j) (by (first | omega | (have z0_ := unhid y67; omega))) (fun j _ _ => C87 j) | (exfalso; (first | omega | (have z0_ := unhid y67; omega)))) (by first | exact hI | exact CHL_k hd10 hM2 (fun j _ => C83 j) (by (first | omega | (have z0_ := unhid y67; omega))) (fun j _ _ => C88 j) | (exfalso; (first | omega | (have z0_ := unhid y67; omega)))) (by first | exact hI | exact ANL_k hd11 hM (fun j _ => C84 j) (by (first | omega | (have z0_ := unhid y67; omega))) (by (first | omega | (have z0_ := unhid y67; omega))) (by (first | omega | (have z0_ := unhid y67; omega))) (fun j _ _ => C87 j) | (exfalso; (first | omega | (have z0_ := unhid y67; omega)))) (by first | exact hI | exact ANL_k hd12 hM2 (fun j _ => C85 j) (by (first | omega | (have z0_ := unhid y67; omega))) (by (first | omega | (have z0_ := unhid y67; omega))) (by (first | omega | (have z0_ := unhid y67; omega))) (fun j _ _ => C88 j) | (exfalso; (first | omega | (have z0_ := unhid y67; omega))))
  · skip
    obtain ⟨h3_0, h3_1⟩ := h3
    refine go_toq PM267 (k := 6) (pc' := 577) (L' := [some (.inr (.inr (some 3000))), some (.inr (.inr (some 0))), some (.inr (.inr (some 79))), some (.inl i)]) (st' := [.inl (i + 1), .inr (.inr (some 3000)), .inr (.inr (some 79))]) (w' := (SH, dt)) rfl ?_
    refine go_smpq PM267 (L' := [some (.inr (.inr (some 3000))), some (.inr (.inr (some 0))), some (.inr (.inr (some 79))), some (.inl i)]) (st' := [.inl ((xs ((i + 1).toNat)).toInt), .inr (.inr (some 79))]) (w' := (SH, dt)) rfl rfl (s_iald (n := L) (f := fun j => (xs j).toInt) (am_scr hLL) ⟨by omega, by omega⟩) ?_
    refine go_toq PM267 (k := 4) (pc' := 582) (L' := [some (.inr (.inr (some 3000))), some (.inr (.inr (some 0))), some (.inr (.inr (some 79))), some (.inl i)]) (st' := [.inl (i + 2), .inr (.inr (some 3000)), .inl ((xs ((i + 1).toNat)).toInt), .inr (.inr (some 79))]) (w' := (SH, dt)) rfl ?_
    refine go_smpq PM267 (L' := [some (.inr (.inr (some 3000))), some (.inr (.inr (some 0))), some (.inr (.inr (some 79))), some (.inl i)]) (st' := [.inl ((xs ((i + 2).toNat)).toInt), .inl ((xs ((i + 1).toNat)).toInt), .inr (.inr (some 79))]) (w' := (SH, dt)) rfl rfl (s_iald (n := L) (f := fun j => (xs j).toInt) (am_scr hLL) ⟨by omega, by omega⟩) ?_
    refine go_callq PM267 PM197 (Q' := _) rfl rfl rfl rfl (sp_X6_says_f L xs sio (d + 32) dt hI hM  ((xs ((i + 1).toNat)).toInt) ⟨by omega, by omega⟩ ((xs ((i + 2).toNat)).toInt) ⟨by omega, by omega⟩ ) ?_
    rintro _ _ ⟨dt91, rfl, hI92, hF93, h90⟩
    refine ⟨rfl, ?_⟩
    have hF94 : Fr [0, 1, 2, 3, 4, 5, 6, 7, 8, 9, 10, 11, 12, 13, 14, 15, 16, 17, 18, 19, 20, 21, 22, 23, 24, 25, 26, 27, 28, 29, 30, 31, 32, 33, 34, 35, 36, 37, 38, 39, 40, 41, 42, 43, 44, 45, 46, 47, 48, 49, 50, 51, 52, 53, 54, 55, 56, 57, 58, 59, 60, 61, 62, 63, 64, 65, 66, 67, 68, 69, 70, 71, 72, 73, 74, 75, 76, 77, 78, 79, 80, 81, 82, 83, 84, 85, 86, 87, 88, 89, 90, 91, 92, 93, 94, 95, 96, 97, 98, 99, 100, 101, 102, 103, 104] dt dt91 := Fr_tr hF hF93 (by decide)
    have hM95 : MW (dt91 80) := MW_fr hM hF93 (by decide)
    have w96 : dt91 1 0 = dt 1 0 := hF93 1 (by decide) 0
    have w97 : dt91 7 3 = dt 7 3 := hF93 7 (by decide) 3
    have w98 : dt91 10 3 = dt 10 3 := hF93 10 (by decide) 3
    have w99 : dt91 12 3 = dt 12 3 := hF93 12 (by decide) 3
    have w100 : dt91 14 3 = dt 14 3 := hF93 14 (by decide) 3
    have w101 : dt91 16 3 = dt 16 3 := hF93 16 (by decide) 3
    have w102 : dt91 18 0 = dt 18 0 := hF93 18 (by decide) 0
    have w103 : dt91 24 3 = dt 24 3 := hF93 24 (by decide) 3
    have w104 : dt91 27 3 = dt 27 3 := hF93 27 (by decide) 3
    have w105 : dt91 29 3 = dt 29 3 := hF93 29 (by decide) 3
    have w106 : dt91 31 3 = dt 31 3 := hF93 31 (by decide) 3
    have w107 : dt91 33 3 = dt 33 3 := hF93 33 (by decide) 3
    have w108 : dt91 0 2 = dt 0 2 := hF93 0 (by decide) 2
    have w109 : dt91 35 1 = dt 35 1 := hF93 35 (by decide) 1
    have w110 : dt91 35 2 = dt 35 2 := hF93 35 (by decide) 2
    have w111 : dt91 35 3 = dt 35 3 := hF93 35 (by decide) 3
    have w112 : dt91 80 0 = dt 80 0 := hF93 80 (by decide) 0
    have w113 : dt91 80 1 = dt 80 1 := hF93 80 (by decide) 1
    have w114 : dt91 80 2 = dt 80 2 := hF93 80 (by decide) 2
    have w115 : dt91 80 3 = dt 80 3 := hF93 80 (by decide) 3
    have w116 : dt91 80 4 = dt 80 4 := hF93 80 (by decide) 4
    have w117 : dt91 80 5 = dt 80 5 := hF93 80 (by decide) 5
    have w118 : dt91 81 0 = dt 81 0 := hF93 81 (by decide) 0
    have w119 : dt91 81 1 = dt 81 1 := hF93 81 (by decide) 1
    have w120 : dt91 81 2 = dt 81 2 := hF93 81 (by decide) 2
    have w121 : dt91 81 3 = dt 81 3 := hF93 81 (by decide) 3
    have w122 : dt91 81 4 = dt 81 4 := hF93 81 (by decide) 4
    have w123 : dt91 81 5 = dt 81 5 := hF93 81 (by decide) 5
    have w124 : dt91 79 2 = dt 79 2 := hF93 79 (by decide) 2
    have w125 : dt91 79 12 = dt 79 12 := hF93 79 (by decide) 12
    have w126 : dt91 79 19 = dt 79 19 := hF93 79 (by decide) 19
    have w127 : dt91 79 21 = dt 79 21 := hF93 79 (by decide) 21
    rcases h90 with ⟨rfl, h90⟩ | ⟨v_h90, rfl, h90r, h90⟩
    · skip
      have M2128 : MW (dt91 81) := MW_frk hM2 hF93 (by decide)
      have y129 : (0 ≤ ((xs ((i + 1).toNat)).toInt) ∧ ((xs ((i + 1).toNat)).toInt) < dt 7 3) → (0 ≤ ((xs ((i + 2).toNat)).toInt) ∧ ((xs ((i + 2).toNat)).toInt) ≤ 9) → SDC (dt 9) (((xs ((i + 1).toNat)).toInt)).toNat ((xs ((i + 2).toNat)).toInt) = SAID (dt 80) (((xs ((i + 1).toNat)).toInt)).toNat ((xs ((i + 2).toNat)).toInt) := fun h1_ h2_ => SDL_c hd5 (by omega) (by omega)
      replace y129 := hid y129
      have C130 : ∀ j : Nat, dt91 2 j = dt 2 j := fun j => (hF93 2 (by decide) j).trans ((fun _ => rfl) j)
      have C131 : ∀ j : Nat, dt91 3 j = dt 3 j := fun j => (hF93 3 (by decide) j).trans ((fun _ => rfl) j)
      have C132 : ∀ j : Nat, dt91 4 j = dt 4 j := fun j => (hF93 4 (by decide) j).trans ((fun _ => rfl) j)
      have C133 : ∀ j : Nat, dt91 5 j = dt 5 j := fun j => (hF93 5 (by decide) j).trans ((fun _ => rfl) j)
      have C134 : ∀ j : Nat, dt91 6 j = dt 6 j := fun j => (hF93 6 (by decide) j).trans ((fun _ => rfl) j)
      have C135 : ∀ j : Nat, dt91 8 j = dt 8 j := fun j => (hF93 8 (by decide) j).trans ((fun _ => rfl) j)
      have C136 : ∀ j : Nat, dt91 9 j = dt 9 j := fun j => (hF93 9 (by decide) j).trans ((fun _ => rfl) j)
      have C137 : ∀ j : Nat, dt91 11 j = dt 11 j := fun j => (hF93 11 (by decide) j).trans ((fun _ => rfl) j)
      have C138 : ∀ j : Nat, dt91 19 j = dt 19 j := fun j => (hF93 19 (by decide) j).trans ((fun _ => rfl) j)
      have C139 : ∀ j : Nat, dt91 20 j = dt 20 j := fun j => (hF93 20 (by decide) j).trans ((fun _ => rfl) j)
      have C140 : ∀ j : Nat, dt91 21 j = dt 21 j := fun j => (hF93 21 (by decide) j).trans ((fun _ => rfl) j)
      have C141 : ∀ j : Nat, dt91 22 j = dt 22 j := fun j => (hF93 22 (by decide) j).trans ((fun _ => rfl) j)
      have C142 : ∀ j : Nat, dt91 23 j = dt 23 j := fun j => (hF93 23 (by decide) j).trans ((fun _ => rfl) j)
      have C143 : ∀ j : Nat, dt91 25 j = dt 25 j := fun j => (hF93 25 (by decide) j).trans ((fun _ => rfl) j)
      have C144 : ∀ j : Nat, dt91 26 j = dt 26 j := fun j => (hF93 26 (by decide) j).trans ((fun _ => rfl) j)
      have C145 : ∀ j : Nat, dt91 28 j = dt 28 j := fun j => (hF93 28 (by decide) j).trans ((fun _ => rfl) j)
      have C146 : ∀ j : Nat, dt91 13 j = dt 13 j := fun j => (hF93 13 (by decide) j).trans ((fun _ => rfl) j)
      have C147 : ∀ j : Nat, dt91 30 j = dt 30 j := fun j => (hF93 30 (by decide) j).trans ((fun _ => rfl) j)
      have C148 : ∀ j : Nat, dt91 36 j = dt 36 j := fun j => (hF93 36 (by decide) j).trans ((fun _ => rfl) j)
      have C149 : ∀ j : Nat, dt91 80 j = dt 80 j := fun j => (hF93 80 (by decide) j).trans ((fun _ => rfl) j)
      have C150 : ∀ j : Nat, dt91 81 j = dt 81 j := fun j => (hF93 81 (by decide) j).trans ((fun _ => rfl) j)
      have C151 : ∀ j : Nat, dt91 85 j = dt 85 j := fun j => (hF93 85 (by decide) j).trans ((fun _ => rfl) j)
      refine go_toq PM267 (k := 2) (pc' := 1435) (L' := [some (.inr (.inr (some 3000))), some (.inr (.inr (some 0))), some (.inr (.inr (some 79))), some (.inl i)]) (st' := []) (w' := (SH, dt91)) rfl ?_
      exact K dt91 hI92 hM95 M2128 (w96.trans (hk0.trans w112.symm)) (w97.trans (hk1.trans w113.symm)) (w98.trans (hk2.trans w114.symm)) (w99.trans (hk3.trans w115.symm)) (w100.trans (hk4.trans w116.symm)) (w101.trans (hk5.trans w117.symm)) (w102.trans (hk6.trans w118.symm)) (w103.trans (hk7.trans w119.symm)) (w104.trans (hk8.trans w120.symm)) (w105.trans (hk9.trans w121.symm)) (w106.trans (hk10.trans w122.symm)) (w107.trans (hk11.trans w123.symm)) (w108.trans (hk12.trans w124.symm)) (w109.trans (hk13.trans w125.symm)) (w110.trans (hk14.trans w126.symm)) (w111.trans (hk15.trans w127.symm)) (by first | exact hI | exact TPL_k hd0 C148 C151 (by (first | omega | (have z0_ := unhid y129; omega))) | (exfalso; (first | omega | (have z0_ := unhid y129; omega)))) (by first | exact hI | exact SCL_k hd1 hM (fun j _ => C130 j) (fun j _ => C131 j) (fun j _ _ => C149 j) | (exfalso; (first | omega | (have z0_ := unhid y129; omega)))) (by first | exact hI | exact SCL_k hd2 hM2 (fun j _ => C138 j) (fun j _ => C139 j) (fun j _ _ => C150 j) | (exfalso; (first | omega | (have z0_ := unhid y129; omega)))) (by first | exact hI | exact QRL_k hd3 hM (fun j _ => C135 j) (C149 1) (fun j _ _ => C149 j) | (exfalso; (first | omega | (have z0_ := unhid y129; omega)))) (by first | exact hI | exact QRL_k hd4 hM2 (fun j _ => C143 j) (C150 1) (fun j _ _ => C150 j) | (exfalso; (first | omega | (have z0_ := unhid y129; omega)))) (by first | exact hI | exact SDL_k hd5 hM (fun j _ => C136 j) (C149 1) (fun j _ _ => C149 j) (fun j _ _ => C149 j) | (exfalso; (first | omega | (have z0_ := unhid y129; omega)))) (by first | exact hI | exact SDL_k hd6 hM2 (fun j _ => C144 j) (C150 1) (fun j _ _ => C150 j) (fun j _ _ => C150 j) | (exfalso; (first | omega | (have z0_ := unhid y129; omega)))) (by first | exact hI | exact LWL_k hd7 hM (fun j _ => C132 j) (fun j _ => C133 j) (fun j _ => C134 j) (fun j _ _ => C149 j) | (exfalso; (first | omega | (have z0_ := unhid y129; omega)))) (by first | exact hI | exact LWL_k hd8 hM2 (fun j _ => C140 j) (fun j _ => C141 j) (fun j _ => C142 j) (fun j _ _ => C150 j) | (exfalso; (first | omega | (have z0_ := unhid y129; omega)))) (by first | exact hI | exact CHL_k hd9 hM (fun j _ => C137 j) (by (first | omega | (have z0_ := unhid y129; omega))) (fun j _ _ => C149 j) | (exfalso; (first | omega | (have z0_ := unhid y129; omega)))) (by first | exact hI | exact CHL_k hd10 hM2 (fun j _ => C145 j) (by (first | omega | (have z0_ := unhid y129; omega))) (fun j _ _ => C150 j) | (exfalso; (first | omega | (have z0_ := unhid y129; omega)))) (by first | exact hI | exact ANL_k hd11 hM (fun j _ => C146 j) (by (first | omega | (have z0_ := unhid y129; omega))) (by (first | omega | (have z0_ := unhid y129; omega))) (by (first | omega | (have z0_ := unhid y129; omega))) (fun j _ _ => C149 j) | (exfalso; (first | omega | (have z0_ := unhid y129; omega)))) (by first | exact hI | exact ANL_k hd12 hM2 (fun j _ => C147 j) (by (first | omega | (have z0_ := unhid y129; omega))) (by (first | omega | (have z0_ := unhid y129; omega))) (by (first | omega | (have z0_ := unhid y129; omega))) (fun j _ _ => C150 j) | (exfalso; (first | omega | (have z0_ := unhid y129; omega))))
    · skip
      obtain ⟨h90_0, h90_1⟩ := h90
      have M2152 : MW (dt91 81) := MW_frk hM2 hF93 (by decide)
      have y153 : (0 ≤ ((xs ((i + 1).toNat)).toInt) ∧ ((xs ((i + 1).toNat)).toInt) < dt 7 3) → (0 ≤ ((xs ((i + 2).toNat)).toInt) ∧ ((xs ((i + 2).toNat)).toInt) ≤ 9) → SDC (dt 9) (((xs ((i + 1).toNat)).toInt)).toNat ((xs ((i + 2).toNat)).toInt) = SAID (dt 80) (((xs ((i + 1).toNat)).toInt)).toNat ((xs ((i + 2).toNat)).toInt) := fun h1_ h2_ => SDL_c hd5 (by omega) (by omega)
      replace y153 := hid y153
      have C154 : ∀ j : Nat, dt91 2 j = dt 2 j := fun j => (hF93 2 (by decide) j).trans ((fun _ => rfl) j)
      have C155 : ∀ j : Nat, dt91 3 j = dt 3 j := fun j => (hF93 3 (by decide) j).trans ((fun _ => rfl) j)
      have C156 : ∀ j : Nat, dt91 4 j = dt 4 j := fun j => (hF93 4 (by decide) j).trans ((fun _ => rfl) j)
      have C157 : ∀ j : Nat, dt91 5 j = dt 5 j := fun j => (hF93 5 (by decide) j).trans ((fun _ => rfl) j)
      have C158 : ∀ j : Nat, dt91 6 j = dt 6 j := fun j => (hF93 6 (by decide) j).trans ((fun _ => rfl) j)
      have C159 : ∀ j : Nat, dt91 8 j = dt 8 j := fun j => (hF93 8 (by decide) j).trans ((fun _ => rfl) j)
      have C160 : ∀ j : Nat, dt91 9 j = dt 9 j := fun j => (hF93 9 (by decide) j).trans ((fun _ => rfl) j)
      have C161 : ∀ j : Nat, dt91 11 j = dt 11 j := fun j => (hF93 11 (by decide) j).trans ((fun _ => rfl) j)
      have C162 : ∀ j : Nat, dt91 19 j = dt 19 j := fun j => (hF93 19 (by decide) j).trans ((fun _ => rfl) j)
      have C163 : ∀ j : Nat, dt91 20 j = dt 20 j := fun j => (hF93 20 (by decide) j).trans ((fun _ => rfl) j)
      have C164 : ∀ j : Nat, dt91 21 j = dt 21 j := fun j => (hF93 21 (by decide) j).trans ((fun _ => rfl) j)
      have C165 : ∀ j : Nat, dt91 22 j = dt 22 j := fun j => (hF93 22 (by decide) j).trans ((fun _ => rfl) j)
      have C166 : ∀ j : Nat, dt91 23 j = dt 23 j := fun j => (hF93 23 (by decide) j).trans ((fun _ => rfl) j)
      have C167 : ∀ j : Nat, dt91 25 j = dt 25 j := fun j => (hF93 25 (by decide) j).trans ((fun _ => rfl) j)
      have C168 : ∀ j : Nat, dt91 26 j = dt 26 j := fun j => (hF93 26 (by decide) j).trans ((fun _ => rfl) j)
      have C169 : ∀ j : Nat, dt91 28 j = dt 28 j := fun j => (hF93 28 (by decide) j).trans ((fun _ => rfl) j)
      have C170 : ∀ j : Nat, dt91 13 j = dt 13 j := fun j => (hF93 13 (by decide) j).trans ((fun _ => rfl) j)
      have C171 : ∀ j : Nat, dt91 30 j = dt 30 j := fun j => (hF93 30 (by decide) j).trans ((fun _ => rfl) j)
      have C172 : ∀ j : Nat, dt91 36 j = dt 36 j := fun j => (hF93 36 (by decide) j).trans ((fun _ => rfl) j)
      have C173 : ∀ j : Nat, dt91 80 j = dt 80 j := fun j => (hF93 80 (by decide) j).trans ((fun _ => rfl) j)
      have C174 : ∀ j : Nat, dt91 81 j = dt 81 j := fun j => (hF93 81 (by decide) j).trans ((fun _ => rfl) j)
      have C175 : ∀ j : Nat, dt91 85 j = dt 85 j := fun j => (hF93 85 (by decide) j).trans ((fun _ => rfl) j)
      refine go_toq PM267 (k := 2) (pc' := 1435) (L' := [some (.inr (.inr (some 3000))), some (.inr (.inr (some 0))), some (.inr (.inr (some 79))), some (.inl i)]) (st' := []) (w' := (SH, dt91)) rfl ?_
      exact K dt91 hI92 hM95 M2152 (w96.trans (hk0.trans w112.symm)) (w97.trans (hk1.trans w113.symm)) (w98.trans (hk2.trans w114.symm)) (w99.trans (hk3.trans w115.symm)) (w100.trans (hk4.trans w116.symm)) (w101.trans (hk5.trans w117.symm)) (w102.trans (hk6.trans w118.symm)) (w103.trans (hk7.trans w119.symm)) (w104.trans (hk8.trans w120.symm)) (w105.trans (hk9.trans w121.symm)) (w106.trans (hk10.trans w122.symm)) (w107.trans (hk11.trans w123.symm)) (w108.trans (hk12.trans w124.symm)) (w109.trans (hk13.trans w125.symm)) (w110.trans (hk14.trans w126.symm)) (w111.trans (hk15.trans w127.symm)) (by first | exact hI | exact TPL_k hd0 C172 C175 (by (first | omega | (have z0_ := unhid y153; omega))) | (exfalso; (first | omega | (have z0_ := unhid y153; omega)))) (by first | exact hI | exact SCL_k hd1 hM (fun j _ => C154 j) (fun j _ => C155 j) (fun j _ _ => C173 j) | (exfalso; (first | omega | (have z0_ := unhid y153; omega)))) (by first | exact hI | exact SCL_k hd2 hM2 (fun j _ => C162 j) (fun j _ => C163 j) (fun j _ _ => C174 j) | (exfalso; (first | omega | (have z0_ := unhid y153; omega)))) (by first | exact hI | exact QRL_k hd3 hM (fun j _ => C159 j) (C173 1) (fun j _ _ => C173 j) | (exfalso; (first | omega | (have z0_ := unhid y153; omega)))) (by first | exact hI | exact QRL_k hd4 hM2 (fun j _ => C167 j) (C174 1) (fun j _ _ => C174 j) | (exfalso; (first | omega | (have z0_ := unhid y153; omega)))) (by first | exact hI | exact SDL_k hd5 hM (fun j _ => C160 j) (C173 1) (fun j _ _ => C173 j) (fun j _ _ => C173 j) | (exfalso; (first | omega | (have z0_ := unhid y153; omega)))) (by first | exact hI | exact SDL_k hd6 hM2 (fun j _ => C168 j) (C174 1) (fun j _ _ => C174 j) (fun j _ _ => C174 j) | (exfalso; (first | omega | (have z0_ := unhid y153; omega)))) (by first | exact hI | exact LWL_k hd7 hM (fun j _ => C156 j) (fun j _ => C157 j) (fun j _ => C158 j) (fun j _ _ => C173 j) | (exfalso; (first | omega | (have z0_ := unhid y153; omega)))) (by first | exact hI | exact LWL_k hd8 hM2 (fun j _ => C164 j) (fun j _ => C165 j) (fun j _ => C166 j) (fun j _ _ => C174 j) | (exfalso; (first | omega | (have z0_ := unhid y153; omega)))) (by first | exact hI | exact CHL_k hd9 hM (fun j _ => C161 j) (by (first | omega | (have z0_ := unhid y153; omega))) (fun j _ _ => C173 j) | (exfalso; (first | omega | (have z0_ := unhid y153; omega)))) (by first | exact hI | exact CHL_k hd10 hM2 (fun j _ => C169 j) (by (first | omega | (have z0_ := unhid y153; omega))) (fun j _ _ => C174 j) | (exfalso; (first | omega | (have z0_ := unhid y153; omega)))) (by first | exact hI | exact ANL_k hd11 hM (fun j _ => C170 j) (by (first | omega | (have z0_ := unhid y153; omega))) (by (first | omega | (have z0_ := unhid y153; omega))) (by (first | omega | (have z0_ := unhid y153; omega))) (fun j _ _ => C173 j) | (exfalso; (first | omega | (have z0_ := unhid y153; omega)))) (by first | exact hI | exact ANL_k hd12 hM2 (fun j _ => C171 j) (by (first | omega | (have z0_ := unhid y153; omega))) (by (first | omega | (have z0_ := unhid y153; omega))) (by (first | omega | (have z0_ := unhid y153; omega))) (fun j _ _ => C174 j) | (exfalso; (first | omega | (have z0_ := unhid y153; omega))))
set_option maxRecDepth 20000 in
set_option maxHeartbeats 8000000 in
theorem sp_case10 (L : Nat) (xs : Nat → Int32) (sio : Option Nat) (d : Nat) (Q : Option AV → am_W → Prop) (hLL : L ≤ 3072) (i : Int) (hi : 0 ≤ i ∧ i ≤ 3066) (hil : i ≤ (L : Int) - 6) (dt : Nat → Nat → Int) (hI : InvC dt) (hM : MW (dt 80)) (hM2 : MW (dt 81)) (hk0 : dt 1 0 = dt 80 0) (hk1 : dt 7 3 = dt 80 1) (hk2 : dt 10 3 = dt 80 2) (hk3 : dt 12 3 = dt 80 3) (hk4 : dt 14 3 = dt 80 4) (hk5 : dt 16 3 = dt 80 5) (hk6 : dt 18 0 = dt 81 0) (hk7 : dt 24 3 = dt 81 1) (hk8 : dt 27 3 = dt 81 2) (hk9 : dt 29 3 = dt 81 3) (hk10 : dt 31 3 = dt 81 4) (hk11 : dt 33 3 = dt 81 5) (hk12 : dt 0 2 = dt 79 2) (hk13 : dt 35 1 = dt 79 12) (hk14 : dt 35 2 = dt 79 19) (hk15 : dt 35 3 = dt 79 21) (hd0 : TPL (dt 36) (dt 85) (dt 35 1)) (hd1 : SCL (dt 2) (dt 3) (dt 80)) (hd2 : SCL (dt 19) (dt 20) (dt 81)) (hd3 : QRL (dt 8) (dt 80)) (hd4 : QRL (dt 25) (dt 81)) (hd5 : SDL (dt 9) (dt 80)) (hd6 : SDL (dt 26) (dt 81)) (hd7 : LWL (dt 4) (dt 5) (dt 6) (dt 80)) (hd8 : LWL (dt 21) (dt 22) (dt 23) (dt 81)) (hd9 : CHL (dt 11) (dt 80)) (hd10 : CHL (dt 28) (dt 81)) (hd11 : ANL (dt 13) (dt 80)) (hd12 : ANL (dt 30) (dt 81)) (K : ∀ (dt : Nat → Nat → Int) (hI : InvC dt) (hM : MW (dt 80)) (hM2 : MW (dt 81)) (hk0 : dt 1 0 = dt 80 0) (hk1 : dt 7 3 = dt 80 1) (hk2 : dt 10 3 = dt 80 2) (hk3 : dt 12 3 = dt 80 3) (hk4 : dt 14 3 = dt 80 4) (hk5 : dt 16 3 = dt 80 5) (hk6 : dt 18 0 = dt 81 0) (hk7 : dt 24 3 = dt 81 1) (hk8 : dt 27 3 = dt 81 2) (hk9 : dt 29 3 = dt 81 3) (hk10 : dt 31 3 = dt 81 4) (hk11 : dt 33 3 = dt 81 5) (hk12 : dt 0 2 = dt 79 2) (hk13 : dt 35 1 = dt 79 12) (hk14 : dt 35 2 = dt 79 19) (hk15 : dt 35 3 = dt 79 21) (hd0 : TPL (dt 36) (dt 85) (dt 35 1)) (hd1 : SCL (dt 2) (dt 3) (dt 80)) (hd2 : SCL (dt 19) (dt 20) (dt 81)) (hd3 : QRL (dt 8) (dt 80)) (hd4 : QRL (dt 25) (dt 81)) (hd5 : SDL (dt 9) (dt 80)) (hd6 : SDL (dt 26) (dt 81)) (hd7 : LWL (dt 4) (dt 5) (dt 6) (dt 80)) (hd8 : LWL (dt 21) (dt 22) (dt 23) (dt 81)) (hd9 : CHL (dt 11) (dt 80)) (hd10 : CHL (dt 28) (dt 81)) (hd11 : ANL (dt 13) (dt 80)) (hd12 : ANL (dt 30) (dt 81)), GO (am_XX L xs sio) (d + 39) 267 1435 [some (.inr (.inr (some 3000))), some (.inr (.inr (some 0))), some (.inr (.inr (some 79))), some (.inl i)] [] (SH, dt) Q) : GO (am_XX L xs sio) (d + 39) 267 590 [some (.inr (.inr (some 3000))), some (.inr (.inr (some 0))), some (.inr (.inr (some 79))), some (.inl i)] [] (SH, dt) Q := by
  have hF : Fr [0, 1, 2, 3, 4, 5, 6, 7, 8, 9, 10, 11, 12, 13, 14, 15, 16, 17, 18, 19, 20, 21, 22, 23, 24, 25, 26, 27, 28, 29, 30, 31, 32, 33, 34, 35, 36, 37, 38, 39, 40, 41, 42, 43, 44, 45, 46, 47, 48, 49, 50, 51, 52, 53, 54, 55, 56, 57, 58, 59, 60, 61, 62, 63, 64, 65, 66, 67, 68, 69, 70, 71, 72, 73, 74, 75, 76, 77, 78, 79, 80, 81, 82, 83, 84, 85, 86, 87, 88, 89, 90, 91, 92, 93, 94, 95, 96, 97, 98, 99, 100, 101, 102, 103, 104] dt dt := Fr_refl
  have hqo := QOC_R hd3 hM hk1
  have hb1_ := hM.1.1
  have hb2_ := hM.1.2.1
  have hb3_ := hM.1.2.2.1
  have halk : ALK dt (dt 80) := ⟨hd7, hd3, hd5, hd9, hk1, hk2⟩
  have hav_ : ∀ i : Nat, (i : Int) < dt 12 3 → 0 ≤ dt 13 (6 * i + 1) ∧ dt 13 (6 * i + 1) < dt 7 3 := fun i hi => by have z := hd11 i (by omega); have y := z.2.2 1 (by decide); have w := z.2.1; omega
  refine go_toq PM267 (k := 5) (pc' := 595) (L' := [some (.inr (.inr (some 3000))), some (.inr (.inr (some 0))), some (.inr (.inr (some 79))), some (.inl i)]) (st' := [.inl (i + 1), .inr (.inr (some 3000)), .inr (.inr (some 0))]) (w' := (SH, dt)) rfl ?_
  have r1 := i32_R (xs ((i + 1).toNat))
  refine go_smpq PM267 (L' := [some (.inr (.inr (some 3000))), some (.inr (.inr (some 0))), some (.inr (.inr (some 79))), some (.inl i)]) (st' := [.inl ((xs ((i + 1).toNat)).toInt), .inr (.inr (some 0))]) (w' := (SH, dt)) rfl rfl (s_iald (n := L) (f := fun j => (xs j).toInt) (am_scr hLL) ⟨by omega, by omega⟩) ?_
  refine go_toq PM267 (k := 4) (pc' := 600) (L' := [some (.inr (.inr (some 3000))), some (.inr (.inr (some 0))), some (.inr (.inr (some 79))), some (.inl i)]) (st' := [.inl (i + 2), .inr (.inr (some 3000)), .inl ((xs ((i + 1).toNat)).toInt), .inr (.inr (some 0))]) (w' := (SH, dt)) rfl ?_
  have r2 := i32_R (xs ((i + 2).toNat))
  refine go_smpq PM267 (L' := [some (.inr (.inr (some 3000))), some (.inr (.inr (some 0))), some (.inr (.inr (some 79))), some (.inl i)]) (st' := [.inl ((xs ((i + 2).toNat)).toInt), .inl ((xs ((i + 1).toNat)).toInt), .inr (.inr (some 0))]) (w' := (SH, dt)) rfl rfl (s_iald (n := L) (f := fun j => (xs j).toInt) (am_scr hLL) ⟨by omega, by omega⟩) ?_
  refine go_toq PM267 (k := 4) (pc' := 605) (L' := [some (.inr (.inr (some 3000))), some (.inr (.inr (some 0))), some (.inr (.inr (some 79))), some (.inl i)]) (st' := [.inl (i + 3), .inr (.inr (some 3000)), .inl ((xs ((i + 2).toNat)).toInt), .inl ((xs ((i + 1).toNat)).toInt), .inr (.inr (some 0))]) (w' := (SH, dt)) rfl ?_
  have r3 := i32_R (xs ((i + 3).toNat))
  refine go_smpq PM267 (L' := [some (.inr (.inr (some 3000))), some (.inr (.inr (some 0))), some (.inr (.inr (some 79))), some (.inl i)]) (st' := [.inl ((xs ((i + 3).toNat)).toInt), .inl ((xs ((i + 2).toNat)).toInt), .inl ((xs ((i + 1).toNat)).toInt), .inr (.inr (some 0))]) (w' := (SH, dt)) rfl rfl (s_iald (n := L) (f := fun j => (xs j).toInt) (am_scr hLL) ⟨by omega, by omega⟩) ?_
  refine go_toq PM267 (k := 4) (pc' := 610) (L' := [some (.inr (.inr (some 3000))), some (.inr (.inr (some 0))), some (.inr (.inr (some 79))), some (.inl i)]) (st' := [.inl (i + 4), .inr (.inr (some 3000)), .inl ((xs ((i + 3).toNat)).toInt), .inl ((xs ((i + 2).toNat)).toInt), .inl ((xs ((i + 1).toNat)).toInt), .inr (.inr (some 0))]) (w' := (SH, dt)) rfl ?_
  have r4 := i32_R (xs ((i + 4).toNat))
  refine go_smpq PM267 (L' := [some (.inr (.inr (some 3000))), some (.inr (.inr (some 0))), some (.inr (.inr (some 79))), some (.inl i)]) (st' := [.inl ((xs ((i + 4).toNat)).toInt), .inl ((xs ((i + 3).toNat)).toInt), .inl ((xs ((i + 2).toNat)).toInt), .inl ((xs ((i + 1).toNat)).toInt), .inr (.inr (some 0))]) (w' := (SH, dt)) rfl rfl (s_iald (n := L) (f := fun j => (xs j).toInt) (am_scr hLL) ⟨by omega, by omega⟩) ?_
  refine go_callq PM267 PM77 (Q' := _) rfl rfl rfl rfl (sp_X5_child_f L xs sio (d + 36) dt hI  ((xs ((i + 1).toNat)).toInt) ⟨by omega, by omega⟩ ((xs ((i + 2).toNat)).toInt) ⟨by omega, by omega⟩ ((xs ((i + 3).toNat)).toInt) ⟨by omega, by omega⟩ ((xs ((i + 4).toNat)).toInt) ⟨by omega, by omega⟩ ) ?_
  rintro _ _ ⟨dt6, rfl, hI7, hF8, h5⟩
  refine ⟨rfl, ?_⟩
  have hF9 : Fr [0, 1, 2, 3, 4, 5, 6, 7, 8, 9, 10, 11, 12, 13, 14, 15, 16, 17, 18, 19, 20, 21, 22, 23, 24, 25, 26, 27, 28, 29, 30, 31, 32, 33, 34, 35, 36, 37, 38, 39, 40, 41, 42, 43, 44, 45, 46, 47, 48, 49, 50, 51, 52, 53, 54, 55, 56, 57, 58, 59, 60, 61, 62, 63, 64, 65, 66, 67, 68, 69, 70, 71, 72, 73, 74, 75, 76, 77, 78, 79, 80, 81, 82, 83, 84, 85, 86, 87, 88, 89, 90, 91, 92, 93, 94, 95, 96, 97, 98, 99, 100, 101, 102, 103, 104] dt dt6 := Fr_tr hF hF8 (by decide)
  have hM10 : MW (dt6 80) := MW_fr hM hF8 (by decide)
  have w11 : dt6 1 0 = dt 1 0 := hF8 1 (by decide) 0
  have w12 : dt6 7 3 = dt 7 3 := hF8 7 (by decide) 3
  have w13 : dt6 12 3 = dt 12 3 := hF8 12 (by decide) 3
  have w14 : dt6 14 3 = dt 14 3 := hF8 14 (by decide) 3
  have w15 : dt6 16 3 = dt 16 3 := hF8 16 (by decide) 3
  have w16 : dt6 18 0 = dt 18 0 := hF8 18 (by decide) 0
  have w17 : dt6 24 3 = dt 24 3 := hF8 24 (by decide) 3
  have w18 : dt6 27 3 = dt 27 3 := hF8 27 (by decide) 3
  have w19 : dt6 29 3 = dt 29 3 := hF8 29 (by decide) 3
  have w20 : dt6 31 3 = dt 31 3 := hF8 31 (by decide) 3
  have w21 : dt6 33 3 = dt 33 3 := hF8 33 (by decide) 3
  have w22 : dt6 0 2 = dt 0 2 := hF8 0 (by decide) 2
  have w23 : dt6 35 1 = dt 35 1 := hF8 35 (by decide) 1
  have w24 : dt6 35 2 = dt 35 2 := hF8 35 (by decide) 2
  have w25 : dt6 35 3 = dt 35 3 := hF8 35 (by decide) 3
  have w26 : dt6 80 0 = dt 80 0 := hF8 80 (by decide) 0
  have w27 : dt6 80 1 = dt 80 1 := hF8 80 (by decide) 1
  have w28 : dt6 80 2 = dt 80 2 := hF8 80 (by decide) 2
  have w29 : dt6 80 3 = dt 80 3 := hF8 80 (by decide) 3
  have w30 : dt6 80 4 = dt 80 4 := hF8 80 (by decide) 4
  have w31 : dt6 80 5 = dt 80 5 := hF8 80 (by decide) 5
  have w32 : dt6 81 0 = dt 81 0 := hF8 81 (by decide) 0
  have w33 : dt6 81 1 = dt 81 1 := hF8 81 (by decide) 1
  have w34 : dt6 81 2 = dt 81 2 := hF8 81 (by decide) 2
  have w35 : dt6 81 3 = dt 81 3 := hF8 81 (by decide) 3
  have w36 : dt6 81 4 = dt 81 4 := hF8 81 (by decide) 4
  have w37 : dt6 81 5 = dt 81 5 := hF8 81 (by decide) 5
  have w38 : dt6 79 2 = dt 79 2 := hF8 79 (by decide) 2
  have w39 : dt6 79 12 = dt 79 12 := hF8 79 (by decide) 12
  have w40 : dt6 79 19 = dt 79 19 := hF8 79 (by decide) 19
  have w41 : dt6 79 21 = dt 79 21 := hF8 79 (by decide) 21
  rcases h5 with ⟨rfl, h5⟩ | ⟨v_h5, rfl, h5r, h5⟩
  · skip
    obtain ⟨h5_0, h5_1, h5_2⟩ := h5
    replace h5_0 := hid h5_0
    have w42 : dt6 10 3 = dt 10 3 := h5_1
    have M243 : MW (dt6 81) := MW_frk hM2 hF8 (by decide)
    have C44 : ∀ j : Nat, dt6 2 j = dt 2 j := fun j => (hF8 2 (by decide) j).trans ((fun _ => rfl) j)
    have C45 : ∀ j : Nat, dt6 3 j = dt 3 j := fun j => (hF8 3 (by decide) j).trans ((fun _ => rfl) j)
    have C46 : ∀ j : Nat, dt6 4 j = dt 4 j := fun j => (hF8 4 (by decide) j).trans ((fun _ => rfl) j)
    have C47 : ∀ j : Nat, dt6 5 j = dt 5 j := fun j => (hF8 5 (by decide) j).trans ((fun _ => rfl) j)
    have C48 : ∀ j : Nat, dt6 6 j = dt 6 j := fun j => (hF8 6 (by decide) j).trans ((fun _ => rfl) j)
    have C49 : ∀ j : Nat, dt6 8 j = dt 8 j := fun j => (hF8 8 (by decide) j).trans ((fun _ => rfl) j)
    have C50 : ∀ j : Nat, dt6 9 j = dt 9 j := fun j => (hF8 9 (by decide) j).trans ((fun _ => rfl) j)
    have C51 : ∀ j : Nat, dt6 11 j = dt 11 j := fun j => (h5_2 j).trans ((fun _ => rfl) j)
    have C52 : ∀ j : Nat, dt6 19 j = dt 19 j := fun j => (hF8 19 (by decide) j).trans ((fun _ => rfl) j)
    have C53 : ∀ j : Nat, dt6 20 j = dt 20 j := fun j => (hF8 20 (by decide) j).trans ((fun _ => rfl) j)
    have C54 : ∀ j : Nat, dt6 21 j = dt 21 j := fun j => (hF8 21 (by decide) j).trans ((fun _ => rfl) j)
    have C55 : ∀ j : Nat, dt6 22 j = dt 22 j := fun j => (hF8 22 (by decide) j).trans ((fun _ => rfl) j)
    have C56 : ∀ j : Nat, dt6 23 j = dt 23 j := fun j => (hF8 23 (by decide) j).trans ((fun _ => rfl) j)
    have C57 : ∀ j : Nat, dt6 25 j = dt 25 j := fun j => (hF8 25 (by decide) j).trans ((fun _ => rfl) j)
    have C58 : ∀ j : Nat, dt6 26 j = dt 26 j := fun j => (hF8 26 (by decide) j).trans ((fun _ => rfl) j)
    have C59 : ∀ j : Nat, dt6 28 j = dt 28 j := fun j => (hF8 28 (by decide) j).trans ((fun _ => rfl) j)
    have C60 : ∀ j : Nat, dt6 13 j = dt 13 j := fun j => (hF8 13 (by decide) j).trans ((fun _ => rfl) j)
    have C61 : ∀ j : Nat, dt6 30 j = dt 30 j := fun j => (hF8 30 (by decide) j).trans ((fun _ => rfl) j)
    have C62 : ∀ j : Nat, dt6 36 j = dt 36 j := fun j => (hF8 36 (by decide) j).trans ((fun _ => rfl) j)
    have C63 : ∀ j : Nat, dt6 80 j = dt 80 j := fun j => (hF8 80 (by decide) j).trans ((fun _ => rfl) j)
    have C64 : ∀ j : Nat, dt6 81 j = dt 81 j := fun j => (hF8 81 (by decide) j).trans ((fun _ => rfl) j)
    have C65 : ∀ j : Nat, dt6 85 j = dt 85 j := fun j => (hF8 85 (by decide) j).trans ((fun _ => rfl) j)
    refine go_toq PM267 (k := 6) (pc' := 620) (L' := [some (.inr (.inr (some 3000))), some (.inr (.inr (some 0))), some (.inr (.inr (some 79))), some (.inl i)]) (st' := [.inl (i + 1), .inr (.inr (some 3000)), .inr (.inr (some 79))]) (w' := (SH, dt6)) rfl ?_
    have r66 := i32_R (xs ((i + 1).toNat))
    refine go_smpq PM267 (L' := [some (.inr (.inr (some 3000))), some (.inr (.inr (some 0))), some (.inr (.inr (some 79))), some (.inl i)]) (st' := [.inl ((xs ((i + 1).toNat)).toInt), .inr (.inr (some 79))]) (w' := (SH, dt6)) rfl rfl (s_iald (n := L) (f := fun j => (xs j).toInt) (am_scr hLL) ⟨by (first | omega | (have z0_ := unhid h5_0; omega)), by (first | omega | (have z0_ := unhid h5_0; omega))⟩) ?_
    refine go_toq PM267 (k := 4) (pc' := 625) (L' := [some (.inr (.inr (some 3000))), some (.inr (.inr (some 0))), some (.inr (.inr (some 79))), some (.inl i)]) (st' := [.inl (i + 2), .inr (.inr (some 3000)), .inl ((xs ((i + 1).toNat)).toInt), .inr (.inr (some 79))]) (w' := (SH, dt6)) rfl ?_
    have r67 := i32_R (xs ((i + 2).toNat))
    refine go_smpq PM267 (L' := [some (.inr (.inr (some 3000))), some (.inr (.inr (some 0))), some (.inr (.inr (some 79))), some (.inl i)]) (st' := [.inl ((xs ((i + 2).toNat)).toInt), .inl ((xs ((i + 1).toNat)).toInt), .inr (.inr (some 79))]) (w' := (SH, dt6)) rfl rfl (s_iald (n := L) (f := fun j => (xs j).toInt) (am_scr hLL) ⟨by (first | omega | (have z0_ := unhid h5_0; omega)), by (first | omega | (have z0_ := unhid h5_0; omega))⟩) ?_
    refine go_toq PM267 (k := 4) (pc' := 630) (L' := [some (.inr (.inr (some 3000))), some (.inr (.inr (some 0))), some (.inr (.inr (some 79))), some (.inl i)]) (st' := [.inl (i + 3), .inr (.inr (some 3000)), .inl ((xs ((i + 2).toNat)).toInt), .inl ((xs ((i + 1).toNat)).toInt), .inr (.inr (some 79))]) (w' := (SH, dt6)) rfl ?_
    have r68 := i32_R (xs ((i + 3).toNat))
    refine go_smpq PM267 (L' := [some (.inr (.inr (some 3000))), some (.inr (.inr (some 0))), some (.inr (.inr (some 79))), some (.inl i)]) (st' := [.inl ((xs ((i + 3).toNat)).toInt), .inl ((xs ((i + 2).toNat)).toInt), .inl ((xs ((i + 1).toNat)).toInt), .inr (.inr (some 79))]) (w' := (SH, dt6)) rfl rfl (s_iald (n := L) (f := fun j => (xs j).toInt) (am_scr hLL) ⟨by (first | omega | (have z0_ := unhid h5_0; omega)), by (first | omega | (have z0_ := unhid h5_0; omega))⟩) ?_
    refine go_toq PM267 (k := 4) (pc' := 635) (L' := [some (.inr (.inr (some 3000))), some (.inr (.inr (some 0))), some (.inr (.inr (some 79))), some (.inl i)]) (st' := [.inl (i + 4), .inr (.inr (some 3000)), .inl ((xs ((i + 3).toNat)).toInt), .inl ((xs ((i + 2).toNat)).toInt), .inl ((xs ((i + 1).toNat)).toInt), .inr (.inr (some 79))]) (w' := (SH, dt6)) rfl ?_
    have r69 := i32_R (xs ((i + 4).toNat))
    refine go_smpq PM267 (L' := [some (.inr (.inr (some 3000))), some (.inr (.inr (some 0))), some (.inr (.inr (some 79))), some (.inl i)]) (st' := [.inl ((xs ((i + 4).toNat)).toInt), .inl ((xs ((i + 3).toNat)).toInt), .inl ((xs ((i + 2).toNat)).toInt), .inl ((xs ((i + 1).toNat)).toInt), .inr (.inr (some 79))]) (w' := (SH, dt6)) rfl rfl (s_iald (n := L) (f := fun j => (xs j).toInt) (am_scr hLL) ⟨by (first | omega | (have z0_ := unhid h5_0; omega)), by (first | omega | (have z0_ := unhid h5_0; omega))⟩) ?_
    refine go_callq PM267 PM202 (Q' := _) rfl rfl rfl rfl (sp_X6_child_v L xs sio (d + 36) dt6 hI7 hM10  ((xs ((i + 1).toNat)).toInt) ⟨by (first | omega | (have z0_ := unhid h5_0; omega)), by (first | omega | (have z0_ := unhid h5_0; omega))⟩ ((xs ((i + 2).toNat)).toInt) ⟨by (first | omega | (have z0_ := unhid h5_0; omega)), by (first | omega | (have z0_ := unhid h5_0; omega))⟩ ((xs ((i + 3).toNat)).toInt) ⟨by (first | omega | (have z0_ := unhid h5_0; omega)), by (first | omega | (have z0_ := unhid h5_0; omega))⟩ ((xs ((i + 4).toNat)).toInt) ⟨by (first | omega | (have z0_ := unhid h5_0; omega)), by (first | omega | (have z0_ := unhid h5_0; omega))⟩ ) ?_
    rintro _ _ ⟨dt71, rfl, hI72, hF73, h70⟩
    refine ⟨rfl, ?_⟩
    have hF74 : Fr [0, 1, 2, 3, 4, 5, 6, 7, 8, 9, 10, 11, 12, 13, 14, 15, 16, 17, 18, 19, 20, 21, 22, 23, 24, 25, 26, 27, 28, 29, 30, 31, 32, 33, 34, 35, 36, 37, 38, 39, 40, 41, 42, 43, 44, 45, 46, 47, 48, 49, 50, 51, 52, 53, 54, 55, 56, 57, 58, 59, 60, 61, 62, 63, 64, 65, 66, 67, 68, 69, 70, 71, 72, 73, 74, 75, 76, 77, 78, 79, 80, 81, 82, 83, 84, 85, 86, 87, 88, 89, 90, 91, 92, 93, 94, 95, 96, 97, 98, 99, 100, 101, 102, 103, 104] dt dt71 := Fr_tr hF9 hF73 (by decide)
    have w75 : dt71 1 0 = dt 1 0 := (hF73 1 (by decide) 0).trans w11
    have w76 : dt71 7 3 = dt 7 3 := (hF73 7 (by decide) 3).trans w12
    have w77 : dt71 10 3 = dt 10 3 := (hF73 10 (by decide) 3).trans w42
    have w78 : dt71 12 3 = dt 12 3 := (hF73 12 (by decide) 3).trans w13
    have w79 : dt71 14 3 = dt 14 3 := (hF73 14 (by decide) 3).trans w14
    have w80 : dt71 16 3 = dt 16 3 := (hF73 16 (by decide) 3).trans w15
    have w81 : dt71 18 0 = dt 18 0 := (hF73 18 (by decide) 0).trans w16
    have w82 : dt71 24 3 = dt 24 3 := (hF73 24 (by decide) 3).trans w17
    have w83 : dt71 27 3 = dt 27 3 := (hF73 27 (by decide) 3).trans w18
    have w84 : dt71 29 3 = dt 29 3 := (hF73 29 (by decide) 3).trans w19
    have w85 : dt71 31 3 = dt 31 3 := (hF73 31 (by decide) 3).trans w20
    have w86 : dt71 33 3 = dt 33 3 := (hF73 33 (by decide) 3).trans w21
    have w87 : dt71 0 2 = dt 0 2 := (hF73 0 (by decide) 2).trans w22
    have w88 : dt71 35 1 = dt 35 1 := (hF73 35 (by decide) 1).trans w23
    have w89 : dt71 35 2 = dt 35 2 := (hF73 35 (by decide) 2).trans w24
    have w90 : dt71 35 3 = dt 35 3 := (hF73 35 (by decide) 3).trans w25
    have w91 : dt71 81 0 = dt 81 0 := (hF73 81 (by decide) 0).trans w32
    have w92 : dt71 81 1 = dt 81 1 := (hF73 81 (by decide) 1).trans w33
    have w93 : dt71 81 2 = dt 81 2 := (hF73 81 (by decide) 2).trans w34
    have w94 : dt71 81 3 = dt 81 3 := (hF73 81 (by decide) 3).trans w35
    have w95 : dt71 81 4 = dt 81 4 := (hF73 81 (by decide) 4).trans w36
    have w96 : dt71 81 5 = dt 81 5 := (hF73 81 (by decide) 5).trans w37
    have w97 : dt71 79 2 = dt 79 2 := (hF73 79 (by decide) 2).trans w38
    have w98 : dt71 79 12 = dt 79 12 := (hF73 79 (by decide) 12).trans w39
    have w99 : dt71 79 19 = dt 79 19 := (hF73 79 (by decide) 19).trans w40
    have w100 : dt71 79 21 = dt 79 21 := (hF73 79 (by decide) 21).trans w41
    rcases h70 with ⟨rfl, h70⟩ | ⟨v_h70, rfl, h70r, h70⟩
    · skip
      have hM101 : MW (dt71 80) := h70.2.1
      obtain ⟨h70_0, h70_1, h70_2, h70_3, h70_4, h70_5, h70_6, h70_7, h70_8⟩ := h70
      replace h70_0 := hid h70_0
      have w102 : dt71 80 0 = dt 80 0 := h70_2.trans w26
      have w103 : dt71 80 1 = dt 80 1 := h70_3.trans w27
      have w104 : dt71 80 2 = dt 80 2 := h70_4.trans w28
      have w105 : dt71 80 3 = dt 80 3 := h70_5.trans w29
      have w106 : dt71 80 4 = dt 80 4 := h70_6.trans w30
      have w107 : dt71 80 5 = dt 80 5 := h70_7.trans w31
      have M2108 : MW (dt71 81) := MW_frk M243 hF73 (by decide)
      have C109 : ∀ j : Nat, dt71 2 j = dt 2 j := fun j => (hF73 2 (by decide) j).trans (C44 j)
      have C110 : ∀ j : Nat, dt71 3 j = dt 3 j := fun j => (hF73 3 (by decide) j).trans (C45 j)
      have C111 : ∀ j : Nat, dt71 4 j = dt 4 j := fun j => (hF73 4 (by decide) j).trans (C46 j)
      have C112 : ∀ j : Nat, dt71 5 j = dt 5 j := fun j => (hF73 5 (by decide) j).trans (C47 j)
      have C113 : ∀ j : Nat, dt71 6 j = dt 6 j := fun j => (hF73 6 (by decide) j).trans (C48 j)
      have C114 : ∀ j : Nat, dt71 8 j = dt 8 j := fun j => (hF73 8 (by decide) j).trans (C49 j)
      have C115 : ∀ j : Nat, dt71 9 j = dt 9 j := fun j => (hF73 9 (by decide) j).trans (C50 j)
      have C116 : ∀ j : Nat, dt71 11 j = dt 11 j := fun j => (hF73 11 (by decide) j).trans (C51 j)
      have C117 : ∀ j : Nat, dt71 19 j = dt 19 j := fun j => (hF73 19 (by decide) j).trans (C52 j)
      have C118 : ∀ j : Nat, dt71 20 j = dt 20 j := fun j => (hF73 20 (by decide) j).trans (C53 j)
      have C119 : ∀ j : Nat, dt71 21 j = dt 21 j := fun j => (hF73 21 (by decide) j).trans (C54 j)
      have C120 : ∀ j : Nat, dt71 22 j = dt 22 j := fun j => (hF73 22 (by decide) j).trans (C55 j)
      have C121 : ∀ j : Nat, dt71 23 j = dt 23 j := fun j => (hF73 23 (by decide) j).trans (C56 j)
      have C122 : ∀ j : Nat, dt71 25 j = dt 25 j := fun j => (hF73 25 (by decide) j).trans (C57 j)
      have C123 : ∀ j : Nat, dt71 26 j = dt 26 j := fun j => (hF73 26 (by decide) j).trans (C58 j)
      have C124 : ∀ j : Nat, dt71 28 j = dt 28 j := fun j => (hF73 28 (by decide) j).trans (C59 j)
      have C125 : ∀ j : Nat, dt71 13 j = dt 13 j := fun j => (hF73 13 (by decide) j).trans (C60 j)
      have C126 : ∀ j : Nat, dt71 30 j = dt 30 j := fun j => (hF73 30 (by decide) j).trans (C61 j)
      have C127 : ∀ j : Nat, dt71 36 j = dt 36 j := fun j => (hF73 36 (by decide) j).trans (C62 j)
      have C128 : ∀ j : Nat, dt71 80 j = dt 80 j := fun j => (h70_8 j).trans (C63 j)
      have C129 : ∀ j : Nat, dt71 81 j = dt 81 j := fun j => (hF73 81 (by decide) j).trans (C64 j)
      have C130 : ∀ j : Nat, dt71 85 j = dt 85 j := fun j => (hF73 85 (by decide) j).trans (C65 j)
      refine go_toq PM267 (k := 2) (pc' := 1435) (L' := [some (.inr (.inr (some 3000))), some (.inr (.inr (some 0))), some (.inr (.inr (some 79))), some (.inl i)]) (st' := []) (w' := (SH, dt71)) rfl ?_
      exact K dt71 hI72 hM101 M2108 (w75.trans (hk0.trans w102.symm)) (w76.trans (hk1.trans w103.symm)) (w77.trans (hk2.trans w104.symm)) (w78.trans (hk3.trans w105.symm)) (w79.trans (hk4.trans w106.symm)) (w80.trans (hk5.trans w107.symm)) (w81.trans (hk6.trans w91.symm)) (w82.trans (hk7.trans w92.symm)) (w83.trans (hk8.trans w93.symm)) (w84.trans (hk9.trans w94.symm)) (w85.trans (hk10.trans w95.symm)) (w86.trans (hk11.trans w96.symm)) (w87.trans (hk12.trans w97.symm)) (w88.trans (hk13.trans w98.symm)) (w89.trans (hk14.trans w99.symm)) (w90.trans (hk15.trans w100.symm)) (by first | exact hI | exact TPL_k hd0 C127 C130 (by (first | omega | (have z0_ := unhid h5_0; have z1_ := unhid h70_0; omega))) | (exfalso; (first | omega | (have z0_ := unhid h5_0; have z1_ := unhid h70_0; omega)))) (by first | exact hI | exact SCL_k hd1 hM (fun j _ => C109 j) (fun j _ => C110 j) (fun j _ _ => C128 j) | (exfalso; (first | omega | (have z0_ := unhid h5_0; have z1_ := unhid h70_0; omega)))) (by first | exact hI | exact SCL_k hd2 hM2 (fun j _ => C117 j) (fun j _ => C118 j) (fun j _ _ => C129 j) | (exfalso; (first | omega | (have z0_ := unhid h5_0; have z1_ := unhid h70_0; omega)))) (by first | exact hI | exact QRL_k hd3 hM (fun j _ => C114 j) (C128 1) (fun j _ _ => C128 j) | (exfalso; (first | omega | (have z0_ := unhid h5_0; have z1_ := unhid h70_0; omega)))) (by first | exact hI | exact QRL_k hd4 hM2 (fun j _ => C122 j) (C129 1) (fun j _ _ => C129 j) | (exfalso; (first | omega | (have z0_ := unhid h5_0; have z1_ := unhid h70_0; omega)))) (by first | exact hI | exact SDL_k hd5 hM (fun j _ => C115 j) (C128 1) (fun j _ _ => C128 j) (fun j _ _ => C128 j) | (exfalso; (first | omega | (have z0_ := unhid h5_0; have z1_ := unhid h70_0; omega)))) (by first | exact hI | exact SDL_k hd6 hM2 (fun j _ => C123 j) (C129 1) (fun j _ _ => C129 j) (fun j _ _ => C129 j) | (exfalso; (first | omega | (have z0_ := unhid h5_0; have z1_ := unhid h70_0; omega)))) (by first | exact hI | exact LWL_k hd7 hM (fun j _ => C111 j) (fun j _ => C112 j) (fun j _ => C113 j) (fun j _ _ => C128 j) | (exfalso; (first | omega | (have z0_ := unhid h5_0; have z1_ := unhid h70_0; omega)))) (by first | exact hI | exact LWL_k hd8 hM2 (fun j _ => C119 j) (fun j _ => C120 j) (fun j _ => C121 j) (fun j _ _ => C129 j) | (exfalso; (first | omega | (have z0_ := unhid h5_0; have z1_ := unhid h70_0; omega)))) (by first | exact hI | exact CHL_k hd9 hM (fun j _ => C116 j) (by (first | omega | (have z0_ := unhid h5_0; have z1_ := unhid h70_0; omega))) (fun j _ _ => C128 j) | (exfalso; (first | omega | (have z0_ := unhid h5_0; have z1_ := unhid h70_0; omega)))) (by first | exact hI | exact CHL_k hd10 hM2 (fun j _ => C124 j) (by (first | omega | (have z0_ := unhid h5_0; have z1_ := unhid h70_0; omega))) (fun j _ _ => C129 j) | (exfalso; (first | omega | (have z0_ := unhid h5_0; have z1_ := unhid h70_0; omega)))) (by first | exact hI | exact ANL_k hd11 hM (fun j _ => C125 j) (by (first | omega | (have z0_ := unhid h5_0; have z1_ := unhid h70_0; omega))) (by (first | omega | (have z0_ := unhid h5_0; have z1_ := unhid h70_0; omega))) (by (first | omega | (have z0_ := unhid h5_0; have z1_ := unhid h70_0; omega))) (fun j _ _ => C128 j) | (exfalso; (first | omega | (have z0_ := unhid h5_0; have z1_ := unhid h70_0; omega)))) (by first | exact hI | exact ANL_k hd12 hM2 (fun j _ => C126 j) (by (first | omega | (have z0_ := unhid h5_0; have z1_ := unhid h70_0; omega))) (by (first | omega | (have z0_ := unhid h5_0; have z1_ := unhid h70_0; omega))) (by (first | omega | (have z0_ := unhid h5_0; have z1_ := unhid h70_0; omega))) (fun j _ _ => C129 j) | (exfalso; (first | omega | (have z0_ := unhid h5_0; have z1_ := unhid h70_0; omega))))
    · skip
      have hM131 : MW (dt71 80) := h70.2.2.1
      obtain ⟨h70_0, h70_1, h70_2, h70_3, h70_4, h70_5, h70_6, h70_7, h70_8, h70_9, h70_10, h70_11, h70_12, h70_13⟩ := h70
      have w132 : dt71 80 0 = dt 80 0 := h70_4.trans w26
      have w133 : dt71 80 1 = dt 80 1 := h70_5.trans w27
      have w134 : dt71 80 3 = dt 80 3 := h70_6.trans w29
      have w135 : dt71 80 4 = dt 80 4 := h70_7.trans w30
      have w136 : dt71 80 5 = dt 80 5 := h70_8.trans w31
      have M2137 : MW (dt71 81) := MW_frk M243 hF73 (by decide)
      have C138 : ∀ j : Nat, dt71 2 j = dt 2 j := fun j => (hF73 2 (by decide) j).trans (C44 j)
      have C139 : ∀ j : Nat, dt71 3 j = dt 3 j := fun j => (hF73 3 (by decide) j).trans (C45 j)
      have C140 : ∀ j : Nat, dt71 4 j = dt 4 j := fun j => (hF73 4 (by decide) j).trans (C46 j)
      have C141 : ∀ j : Nat, dt71 5 j = dt 5 j := fun j => (hF73 5 (by decide) j).trans (C47 j)
      have C142 : ∀ j : Nat, dt71 6 j = dt 6 j := fun j => (hF73 6 (by decide) j).trans (C48 j)
      have C143 : ∀ j : Nat, dt71 8 j = dt 8 j := fun j => (hF73 8 (by decide) j).trans (C49 j)
      have C144 : ∀ j : Nat, dt71 9 j = dt 9 j := fun j => (hF73 9 (by decide) j).trans (C50 j)
      have C145 : ∀ j : Nat, dt71 11 j = dt 11 j := fun j => (hF73 11 (by decide) j).trans (C51 j)
      have C146 : ∀ j : Nat, dt71 19 j = dt 19 j := fun j => (hF73 19 (by decide) j).trans (C52 j)
      have C147 : ∀ j : Nat, dt71 20 j = dt 20 j := fun j => (hF73 20 (by decide) j).trans (C53 j)
      have C148 : ∀ j : Nat, dt71 21 j = dt 21 j := fun j => (hF73 21 (by decide) j).trans (C54 j)
      have C149 : ∀ j : Nat, dt71 22 j = dt 22 j := fun j => (hF73 22 (by decide) j).trans (C55 j)
      have C150 : ∀ j : Nat, dt71 23 j = dt 23 j := fun j => (hF73 23 (by decide) j).trans (C56 j)
      have C151 : ∀ j : Nat, dt71 25 j = dt 25 j := fun j => (hF73 25 (by decide) j).trans (C57 j)
      have C152 : ∀ j : Nat, dt71 26 j = dt 26 j := fun j => (hF73 26 (by decide) j).trans (C58 j)
      have C153 : ∀ j : Nat, dt71 28 j = dt 28 j := fun j => (hF73 28 (by decide) j).trans (C59 j)
      have C154 : ∀ j : Nat, dt71 13 j = dt 13 j := fun j => (hF73 13 (by decide) j).trans (C60 j)
      have C155 : ∀ j : Nat, dt71 30 j = dt 30 j := fun j => (hF73 30 (by decide) j).trans (C61 j)
      have C156 : ∀ j : Nat, dt71 36 j = dt 36 j := fun j => (hF73 36 (by decide) j).trans (C62 j)
      have C157 : ∀ j : Nat, dt71 81 j = dt 81 j := fun j => (hF73 81 (by decide) j).trans (C64 j)
      have C158 : ∀ j : Nat, dt71 85 j = dt 85 j := fun j => (hF73 85 (by decide) j).trans (C65 j)
      have F159 : ∀ j : Nat, 6 ≤ j → j < 974 → dt71 80 j = dt 80 j := fun j h1_ h2_ => (h70_9 j (by (first | omega | (have z0_ := unhid h5_0; omega))) (by (first | omega | (have z0_ := unhid h5_0; omega)))).trans (C63 j)
      have F160 : ∀ j : Nat, 974 ≤ j → j < 5320 → dt71 80 j = dt 80 j := fun j h1_ h2_ => (h70_9 j (by (first | omega | (have z0_ := unhid h5_0; omega))) (by (first | omega | (have z0_ := unhid h5_0; omega)))).trans (C63 j)
      have F161 : ∀ j : Nat, 5320 ≤ j → j < 5380 → dt71 80 j = dt 80 j := fun j h1_ h2_ => (h70_9 j (by (first | omega | (have z0_ := unhid h5_0; omega))) (by (first | omega | (have z0_ := unhid h5_0; omega)))).trans (C63 j)
      have F162 : dt71 80 1 = dt 80 1 := (h70_9 1 (by (first | omega | (have z0_ := unhid h5_0; omega))) (by (first | omega | (have z0_ := unhid h5_0; omega)))).trans (C63 1)
      have F163 : ∀ j : Nat, 5540 ≤ j → j < 7340 → dt71 80 j = dt 80 j := fun j h1_ h2_ => (h70_9 j (by (first | omega | (have z0_ := unhid h5_0; omega))) (by (first | omega | (have z0_ := unhid h5_0; omega)))).trans (C63 j)
      refine go_toq PM267 (k := 2) (pc' := 1435) (L' := [some (.inr (.inr (some 3000))), some (.inr (.inr (some 0))), some (.inr (.inr (some 79))), some (.inl i)]) (st' := []) (w' := (SH, dt71)) rfl ?_
      exact K dt71 hI72 hM131 M2137 (w75.trans (hk0.trans w132.symm)) (w76.trans (hk1.trans w133.symm)) (by (first | omega | (have z0_ := unhid h5_0; omega))) (w78.trans (hk3.trans w134.symm)) (w79.trans (hk4.trans w135.symm)) (w80.trans (hk5.trans w136.symm)) (w81.trans (hk6.trans w91.symm)) (w82.trans (hk7.trans w92.symm)) (w83.trans (hk8.trans w93.symm)) (w84.trans (hk9.trans w94.symm)) (w85.trans (hk10.trans w95.symm)) (w86.trans (hk11.trans w96.symm)) (w87.trans (hk12.trans w97.symm)) (w88.trans (hk13.trans w98.symm)) (w89.trans (hk14.trans w99.symm)) (w90.trans (hk15.trans w100.symm)) (by first | exact hI | exact TPL_k hd0 C156 C158 (by (first | omega | (have z0_ := unhid h5_0; omega))) | (exfalso; (first | omega | (have z0_ := unhid h5_0; omega)))) (by first | exact hI | exact SCL_k hd1 hM (fun j _ => C138 j) (fun j _ => C139 j) F159 | (exfalso; (first | omega | (have z0_ := unhid h5_0; omega)))) (by first | exact hI | exact SCL_k hd2 hM2 (fun j _ => C146 j) (fun j _ => C147 j) (fun j _ _ => C157 j) | (exfalso; (first | omega | (have z0_ := unhid h5_0; omega)))) (by first | exact hI | exact QRL_k hd3 hM (fun j _ => C143 j) F162 F161 | (exfalso; (first | omega | (have z0_ := unhid h5_0; omega)))) (by first | exact hI | exact QRL_k hd4 hM2 (fun j _ => C151 j) (C157 1) (fun j _ _ => C157 j) | (exfalso; (first | omega | (have z0_ := unhid h5_0; omega)))) (by first | exact hI | exact SDL_k hd5 hM (fun j _ => C144 j) F162 F159 F161 | (exfalso; (first | omega | (have z0_ := unhid h5_0; omega)))) (by first | exact hI | exact SDL_k hd6 hM2 (fun j _ => C152 j) (C157 1) (fun j _ _ => C157 j) (fun j _ _ => C157 j) | (exfalso; (first | omega | (have z0_ := unhid h5_0; omega)))) (by first | exact hI | exact LWL_k hd7 hM (fun j _ => C140 j) (fun j _ => C141 j) (fun j _ => C142 j) F160 | (exfalso; (first | omega | (have z0_ := unhid h5_0; omega)))) (by first | exact hI | exact LWL_k hd8 hM2 (fun j _ => C148 j) (fun j _ => C149 j) (fun j _ => C150 j) (fun j _ _ => C157 j) | (exfalso; (first | omega | (have z0_ := unhid h5_0; omega)))) (by first | exact hI | exact CHL_k hd9 hM (fun j _ => C145 j) (by (first | omega | (have z0_ := unhid h5_0; omega))) hI | (exfalso; (first | omega | (have z0_ := unhid h5_0; omega)))) (by first | exact hI | exact CHL_k hd10 hM2 (fun j _ => C153 j) (by (first | omega | (have z0_ := unhid h5_0; omega))) (fun j _ _ => C157 j) | (exfalso; (first | omega | (have z0_ := unhid h5_0; omega)))) (by first | exact hI | exact ANL_k hd11 hM (fun j _ => C154 j) (by (first | omega | (have z0_ := unhid h5_0; omega))) (by (first | omega | (have z0_ := unhid h5_0; omega))) (by (first | omega | (have z0_ := unhid h5_0; omega))) F163 | (exfalso; (first | omega | (have z0_ := unhid h5_0; omega)))) (by first | exact hI | exact ANL_k hd12 hM2 (fun j _ => C155 j) (by (first | omega | (have z0_ := unhid h5_0; omega))) (by (first | omega | (have z0_ := unhid h5_0; omega))) (by (first | omega | (have z0_ := unhid h5_0; omega))) (fun j _ _ => C157 j) | (exfalso; (first | omega | (have z0_ := unhid h5_0; omega))))
  · skip
    obtain ⟨h5_0, h5_1, h5_2, h5_3, h5_4, h5_5, h5_6, h5_7⟩ := h5
    have M2164 : MW (dt6 81) := MW_frk hM2 hF8 (by decide)
    have C165 : ∀ j : Nat, dt6 2 j = dt 2 j := fun j => (hF8 2 (by decide) j).trans ((fun _ => rfl) j)
    have C166 : ∀ j : Nat, dt6 3 j = dt 3 j := fun j => (hF8 3 (by decide) j).trans ((fun _ => rfl) j)
    have C167 : ∀ j : Nat, dt6 4 j = dt 4 j := fun j => (hF8 4 (by decide) j).trans ((fun _ => rfl) j)
    have C168 : ∀ j : Nat, dt6 5 j = dt 5 j := fun j => (hF8 5 (by decide) j).trans ((fun _ => rfl) j)
    have C169 : ∀ j : Nat, dt6 6 j = dt 6 j := fun j => (hF8 6 (by decide) j).trans ((fun _ => rfl) j)
    have C170 : ∀ j : Nat, dt6 8 j = dt 8 j := fun j => (hF8 8 (by decide) j).trans ((fun _ => rfl) j)
    have C171 : ∀ j : Nat, dt6 9 j = dt 9 j := fun j => (hF8 9 (by decide) j).trans ((fun _ => rfl) j)
    have C172 : ∀ j : Nat, dt6 19 j = dt 19 j := fun j => (hF8 19 (by decide) j).trans ((fun _ => rfl) j)
    have C173 : ∀ j : Nat, dt6 20 j = dt 20 j := fun j => (hF8 20 (by decide) j).trans ((fun _ => rfl) j)
    have C174 : ∀ j : Nat, dt6 21 j = dt 21 j := fun j => (hF8 21 (by decide) j).trans ((fun _ => rfl) j)
    have C175 : ∀ j : Nat, dt6 22 j = dt 22 j := fun j => (hF8 22 (by decide) j).trans ((fun _ => rfl) j)
    have C176 : ∀ j : Nat, dt6 23 j = dt 23 j := fun j => (hF8 23 (by decide) j).trans ((fun _ => rfl) j)
    have C177 : ∀ j : Nat, dt6 25 j = dt 25 j := fun j => (hF8 25 (by decide) j).trans ((fun _ => rfl) j)
    have C178 : ∀ j : Nat, dt6 26 j = dt 26 j := fun j => (hF8 26 (by decide) j).trans ((fun _ => rfl) j)
    have C179 : ∀ j : Nat, dt6 28 j = dt 28 j := fun j => (hF8 28 (by decide) j).trans ((fun _ => rfl) j)
    have C180 : ∀ j : Nat, dt6 13 j = dt 13 j := fun j => (hF8 13 (by decide) j).trans ((fun _ => rfl) j)
    have C181 : ∀ j : Nat, dt6 30 j = dt 30 j := fun j => (hF8 30 (by decide) j).trans ((fun _ => rfl) j)
    have C182 : ∀ j : Nat, dt6 36 j = dt 36 j := fun j => (hF8 36 (by decide) j).trans ((fun _ => rfl) j)
    have C183 : ∀ j : Nat, dt6 80 j = dt 80 j := fun j => (hF8 80 (by decide) j).trans ((fun _ => rfl) j)
    have C184 : ∀ j : Nat, dt6 81 j = dt 81 j := fun j => (hF8 81 (by decide) j).trans ((fun _ => rfl) j)
    have C185 : ∀ j : Nat, dt6 85 j = dt 85 j := fun j => (hF8 85 (by decide) j).trans ((fun _ => rfl) j)
    refine go_toq PM267 (k := 6) (pc' := 620) (L' := [some (.inr (.inr (some 3000))), some (.inr (.inr (some 0))), some (.inr (.inr (some 79))), some (.inl i)]) (st' := [.inl (i + 1), .inr (.inr (some 3000)), .inr (.inr (some 79))]) (w' := (SH, dt6)) rfl ?_
    have r186 := i32_R (xs ((i + 1).toNat))
    refine go_smpq PM267 (L' := [some (.inr (.inr (some 3000))), some (.inr (.inr (some 0))), some (.inr (.inr (some 79))), some (.inl i)]) (st' := [.inl ((xs ((i + 1).toNat)).toInt), .inr (.inr (some 79))]) (w' := (SH, dt6)) rfl rfl (s_iald (n := L) (f := fun j => (xs j).toInt) (am_scr hLL) ⟨by omega, by omega⟩) ?_
    refine go_toq PM267 (k := 4) (pc' := 625) (L' := [some (.inr (.inr (some 3000))), some (.inr (.inr (some 0))), some (.inr (.inr (some 79))), some (.inl i)]) (st' := [.inl (i + 2), .inr (.inr (some 3000)), .inl ((xs ((i + 1).toNat)).toInt), .inr (.inr (some 79))]) (w' := (SH, dt6)) rfl ?_
    have r187 := i32_R (xs ((i + 2).toNat))
    refine go_smpq PM267 (L' := [some (.inr (.inr (some 3000))), some (.inr (.inr (some 0))), some (.inr (.inr (some 79))), some (.inl i)]) (st' := [.inl ((xs ((i + 2).toNat)).toInt), .inl ((xs ((i + 1).toNat)).toInt), .inr (.inr (some 79))]) (w' := (SH, dt6)) rfl rfl (s_iald (n := L) (f := fun j => (xs j).toInt) (am_scr hLL) ⟨by omega, by omega⟩) ?_
    refine go_toq PM267 (k := 4) (pc' := 630) (L' := [some (.inr (.inr (some 3000))), some (.inr (.inr (some 0))), some (.inr (.inr (some 79))), some (.inl i)]) (st' := [.inl (i + 3), .inr (.inr (some 3000)), .inl ((xs ((i + 2).toNat)).toInt), .inl ((xs ((i + 1).toNat)).toInt), .inr (.inr (some 79))]) (w' := (SH, dt6)) rfl ?_
    have r188 := i32_R (xs ((i + 3).toNat))
    refine go_smpq PM267 (L' := [some (.inr (.inr (some 3000))), some (.inr (.inr (some 0))), some (.inr (.inr (some 79))), some (.inl i)]) (st' := [.inl ((xs ((i + 3).toNat)).toInt), .inl ((xs ((i + 2).toNat)).toInt), .inl ((xs ((i + 1).toNat)).toInt), .inr (.inr (some 79))]) (w' := (SH, dt6)) rfl rfl (s_iald (n := L) (f := fun j => (xs j).toInt) (am_scr hLL) ⟨by omega, by omega⟩) ?_
    refine go_toq PM267 (k := 4) (pc' := 635) (L' := [some (.inr (.inr (some 3000))), some (.inr (.inr (some 0))), some (.inr (.inr (some 79))), some (.inl i)]) (st' := [.inl (i + 4), .inr (.inr (some 3000)), .inl ((xs ((i + 3).toNat)).toInt), .inl ((xs ((i + 2).toNat)).toInt), .inl ((xs ((i + 1).toNat)).toInt), .inr (.inr (some 79))]) (w' := (SH, dt6)) rfl ?_
    have r189 := i32_R (xs ((i + 4).toNat))
    refine go_smpq PM267 (L' := [some (.inr (.inr (some 3000))), some (.inr (.inr (some 0))), some (.inr (.inr (some 79))), some (.inl i)]) (st' := [.inl ((xs ((i + 4).toNat)).toInt), .inl ((xs ((i + 3).toNat)).toInt), .inl ((xs ((i + 2).toNat)).toInt), .inl ((xs ((i + 1).toNat)).toInt), .inr (.inr (some 79))]) (w' := (SH, dt6)) rfl rfl (s_iald (n := L) (f := fun j => (xs j).toInt) (am_scr hLL) ⟨by omega, by omega⟩) ?_
    refine go_callq PM267 PM202 (Q' := _) rfl rfl rfl rfl (sp_X6_child_v L xs sio (d + 36) dt6 hI7 hM10  ((xs ((i + 1).toNat)).toInt) ⟨by omega, by omega⟩ ((xs ((i + 2).toNat)).toInt) ⟨by omega, by omega⟩ ((xs ((i + 3).toNat)).toInt) ⟨by omega, by omega⟩ ((xs ((i + 4).toNat)).toInt) ⟨by omega, by omega⟩ ) ?_
    rintro _ _ ⟨dt191, rfl, hI192, hF193, h190⟩
    refine ⟨rfl, ?_⟩
    have hF194 : Fr [0, 1, 2, 3, 4, 5, 6, 7, 8, 9, 10, 11, 12, 13, 14, 15, 16, 17, 18, 19, 20, 21, 22, 23, 24, 25, 26, 27, 28, 29, 30, 31, 32, 33, 34, 35, 36, 37, 38, 39, 40, 41, 42, 43, 44, 45, 46, 47, 48, 49, 50, 51, 52, 53, 54, 55, 56, 57, 58, 59, 60, 61, 62, 63, 64, 65, 66, 67, 68, 69, 70, 71, 72, 73, 74, 75, 76, 77, 78, 79, 80, 81, 82, 83, 84, 85, 86, 87, 88, 89, 90, 91, 92, 93, 94, 95, 96, 97, 98, 99, 100, 101, 102, 103, 104] dt dt191 := Fr_tr hF9 hF193 (by decide)
    have w195 : dt191 1 0 = dt 1 0 := (hF193 1 (by decide) 0).trans w11
    have w196 : dt191 7 3 = dt 7 3 := (hF193 7 (by decide) 3).trans w12
    have w197 : dt191 10 3 = dt6 10 3 := hF193 10 (by decide) 3
    have w198 : dt191 12 3 = dt 12 3 := (hF193 12 (by decide) 3).trans w13
    have w199 : dt191 14 3 = dt 14 3 := (hF193 14 (by decide) 3).trans w14
    have w200 : dt191 16 3 = dt 16 3 := (hF193 16 (by decide) 3).trans w15
    have w201 : dt191 18 0 = dt 18 0 := (hF193 18 (by decide) 0).trans w16
    have w202 : dt191 24 3 = dt 24 3 := (hF193 24 (by decide) 3).trans w17
    have w203 : dt191 27 3 = dt 27 3 := (hF193 27 (by decide) 3).trans w18
    have w204 : dt191 29 3 = dt 29 3 := (hF193 29 (by decide) 3).trans w19
    have w205 : dt191 31 3 = dt 31 3 := (hF193 31 (by decide) 3).trans w20
    have w206 : dt191 33 3 = dt 33 3 := (hF193 33 (by decide) 3).trans w21
    have w207 : dt191 0 2 = dt 0 2 := (hF193 0 (by decide) 2).trans w22
    have w208 : dt191 35 1 = dt 35 1 := (hF193 35 (by decide) 1).trans w23
    have w209 : dt191 35 2 = dt 35 2 := (hF193 35 (by decide) 2).trans w24
    have w210 : dt191 35 3 = dt 35 3 := (hF193 35 (by decide) 3).trans w25
    have w211 : dt191 81 0 = dt 81 0 := (hF193 81 (by decide) 0).trans w32
    have w212 : dt191 81 1 = dt 81 1 := (hF193 81 (by decide) 1).trans w33
    have w213 : dt191 81 2 = dt 81 2 := (hF193 81 (by decide) 2).trans w34
    have w214 : dt191 81 3 = dt 81 3 := (hF193 81 (by decide) 3).trans w35
    have w215 : dt191 81 4 = dt 81 4 := (hF193 81 (by decide) 4).trans w36
    have w216 : dt191 81 5 = dt 81 5 := (hF193 81 (by decide) 5).trans w37
    have w217 : dt191 79 2 = dt 79 2 := (hF193 79 (by decide) 2).trans w38
    have w218 : dt191 79 12 = dt 79 12 := (hF193 79 (by decide) 12).trans w39
    have w219 : dt191 79 19 = dt 79 19 := (hF193 79 (by decide) 19).trans w40
    have w220 : dt191 79 21 = dt 79 21 := (hF193 79 (by decide) 21).trans w41
    rcases h190 with ⟨rfl, h190⟩ | ⟨v_h190, rfl, h190r, h190⟩
    · skip
      have hM221 : MW (dt191 80) := h190.2.1
      obtain ⟨h190_0, h190_1, h190_2, h190_3, h190_4, h190_5, h190_6, h190_7, h190_8⟩ := h190
      replace h190_0 := hid h190_0
      have w222 : dt191 80 0 = dt 80 0 := h190_2.trans w26
      have w223 : dt191 80 1 = dt 80 1 := h190_3.trans w27
      have w224 : dt191 80 2 = dt 80 2 := h190_4.trans w28
      have w225 : dt191 80 3 = dt 80 3 := h190_5.trans w29
      have w226 : dt191 80 4 = dt 80 4 := h190_6.trans w30
      have w227 : dt191 80 5 = dt 80 5 := h190_7.trans w31
      have M2228 : MW (dt191 81) := MW_frk M2164 hF193 (by decide)
      have C229 : ∀ j : Nat, dt191 2 j = dt 2 j := fun j => (hF193 2 (by decide) j).trans (C165 j)
      have C230 : ∀ j : Nat, dt191 3 j = dt 3 j := fun j => (hF193 3 (by decide) j).trans (C166 j)
      have C231 : ∀ j : Nat, dt191 4 j = dt 4 j := fun j => (hF193 4 (by decide) j).trans (C167 j)
      have C232 : ∀ j : Nat, dt191 5 j = dt 5 j := fun j => (hF193 5 (by decide) j).trans (C168 j)
      have C233 : ∀ j : Nat, dt191 6 j = dt 6 j := fun j => (hF193 6 (by decide) j).trans (C169 j)
      have C234 : ∀ j : Nat, dt191 8 j = dt 8 j := fun j => (hF193 8 (by decide) j).trans (C170 j)
      have C235 : ∀ j : Nat, dt191 9 j = dt 9 j := fun j => (hF193 9 (by decide) j).trans (C171 j)
      have C236 : ∀ j : Nat, dt191 19 j = dt 19 j := fun j => (hF193 19 (by decide) j).trans (C172 j)
      have C237 : ∀ j : Nat, dt191 20 j = dt 20 j := fun j => (hF193 20 (by decide) j).trans (C173 j)
      have C238 : ∀ j : Nat, dt191 21 j = dt 21 j := fun j => (hF193 21 (by decide) j).trans (C174 j)
      have C239 : ∀ j : Nat, dt191 22 j = dt 22 j := fun j => (hF193 22 (by decide) j).trans (C175 j)
      have C240 : ∀ j : Nat, dt191 23 j = dt 23 j := fun j => (hF193 23 (by decide) j).trans (C176 j)
      have C241 : ∀ j : Nat, dt191 25 j = dt 25 j := fun j => (hF193 25 (by decide) j).trans (C177 j)
      have C242 : ∀ j : Nat, dt191 26 j = dt 26 j := fun j => (hF193 26 (by decide) j).trans (C178 j)
      have C243 : ∀ j : Nat, dt191 28 j = dt 28 j := fun j => (hF193 28 (by decide) j).trans (C179 j)
      have C244 : ∀ j : Nat, dt191 13 j = dt 13 j := fun j => (hF193 13 (by decide) j).trans (C180 j)
      have C245 : ∀ j : Nat, dt191 30 j = dt 30 j := fun j => (hF193 30 (by decide) j).trans (C181 j)
      have C246 : ∀ j : Nat, dt191 36 j = dt 36 j := fun j => (hF193 36 (by decide) j).trans (C182 j)
      have C247 : ∀ j : Nat, dt191 80 j = dt 80 j := fun j => (h190_8 j).trans (C183 j)
      have C248 : ∀ j : Nat, dt191 81 j = dt 81 j := fun j => (hF193 81 (by decide) j).trans (C184 j)
      have C249 : ∀ j : Nat, dt191 85 j = dt 85 j := fun j => (hF193 85 (by decide) j).trans (C185 j)
      have N250 := fun (j : Nat) (hj : (j : Int) < 4 * dt 10 3) => (hF193 11 (by decide) j).trans (h5_3 j hj)
      have N251 := (hF193 11 (by decide) _).trans h5_4
      have N252 := (hF193 11 (by decide) _).trans h5_5
      have N253 := (hF193 11 (by decide) _).trans h5_6
      have N254 := (hF193 11 (by decide) _).trans h5_7
      refine go_toq PM267 (k := 2) (pc' := 1435) (L' := [some (.inr (.inr (some 3000))), some (.inr (.inr (some 0))), some (.inr (.inr (some 79))), some (.inl i)]) (st' := []) (w' := (SH, dt191)) rfl ?_
      exact K dt191 hI192 hM221 M2228 (w195.trans (hk0.trans w222.symm)) (w196.trans (hk1.trans w223.symm)) (by (first | omega | (have z0_ := unhid h190_0; omega))) (w198.trans (hk3.trans w225.symm)) (w199.trans (hk4.trans w226.symm)) (w200.trans (hk5.trans w227.symm)) (w201.trans (hk6.trans w211.symm)) (w202.trans (hk7.trans w212.symm)) (w203.trans (hk8.trans w213.symm)) (w204.trans (hk9.trans w214.symm)) (w205.trans (hk10.trans w215.symm)) (w206.trans (hk11.trans w216.symm)) (w207.trans (hk12.trans w217.symm)) (w208.trans (hk13.trans w218.symm)) (w209.trans (hk14.trans w219.symm)) (w210.trans (hk15.trans w220.symm)) (by first | exact hI | exact TPL_k hd0 C246 C249 (by (first | omega | (have z0_ := unhid h190_0; omega))) | (exfalso; (first | omega | (have z0_ := unhid h190_0; omega)))) (by first | exact hI | exact SCL_k hd1 hM (fun j _ => C229 j) (fun j _ => C230 j) (fun j _ _ => C247 j) | (exfalso; (first | omega | (have z0_ := unhid h190_0; omega)))) (by first | exact hI | exact SCL_k hd2 hM2 (fun j _ => C236 j) (fun j _ => C237 j) (fun j _ _ => C248 j) | (exfalso; (first | omega | (have z0_ := unhid h190_0; omega)))) (by first | exact hI | exact QRL_k hd3 hM (fun j _ => C234 j) (C247 1) (fun j _ _ => C247 j) | (exfalso; (first | omega | (have z0_ := unhid h190_0; omega)))) (by first | exact hI | exact QRL_k hd4 hM2 (fun j _ => C241 j) (C248 1) (fun j _ _ => C248 j) | (exfalso; (first | omega | (have z0_ := unhid h190_0; omega)))) (by first | exact hI | exact SDL_k hd5 hM (fun j _ => C235 j) (C247 1) (fun j _ _ => C247 j) (fun j _ _ => C247 j) | (exfalso; (first | omega | (have z0_ := unhid h190_0; omega)))) (by first | exact hI | exact SDL_k hd6 hM2 (fun j _ => C242 j) (C248 1) (fun j _ _ => C248 j) (fun j _ _ => C248 j) | (exfalso; (first | omega | (have z0_ := unhid h190_0; omega)))) (by first | exact hI | exact LWL_k hd7 hM (fun j _ => C231 j) (fun j _ => C232 j) (fun j _ => C233 j) (fun j _ _ => C247 j) | (exfalso; (first | omega | (have z0_ := unhid h190_0; omega)))) (by first | exact hI | exact LWL_k hd8 hM2 (fun j _ => C238 j) (fun j _ => C239 j) (fun j _ => C240 j) (fun j _ _ => C248 j) | (exfalso; (first | omega | (have z0_ := unhid h190_0; omega)))) (by first | exact hI | exact CHL_k hd9 hM hI (by (first | omega | (have z0_ := unhid h190_0; omega))) (fun j _ _ => C247 j) | (exfalso; (first | omega | (have z0_ := unhid h190_0; omega)))) (by first | exact hI | exact CHL_k hd10 hM2 (fun j _ => C243 j) (by (first | omega | (have z0_ := unhid h190_0; omega))) (fun j _ _ => C248 j) | (exfalso; (first | omega | (have z0_ := unhid h190_0; omega)))) (by first | exact hI | exact ANL_k hd11 hM (fun j _ => C244 j) (by (first | omega | (have z0_ := unhid h190_0; omega))) (by (first | omega | (have z0_ := unhid h190_0; omega))) (by (first | omega | (have z0_ := unhid h190_0; omega))) (fun j _ _ => C247 j) | (exfalso; (first | omega | (have z0_ := unhid h190_0; omega)))) (by first | exact hI | exact ANL_k hd12 hM2 (fun j _ => C245 j) (by (first | omega | (have z0_ := unhid h190_0; omega))) (by (first | omega | (have z0_ := unhid h190_0; omega))) (by (first | omega | (have z0_ := unhid h190_0; omega))) (fun j _ _ => C248 j) | (exfalso; (first | omega | (have z0_ := unhid h190_0; omega))))
    · skip
      have hM255 : MW (dt191 80) := h190.2.2.1
      obtain ⟨h190_0, h190_1, h190_2, h190_3, h190_4, h190_5, h190_6, h190_7, h190_8, h190_9, h190_10, h190_11, h190_12, h190_13⟩ := h190
      have w256 : dt191 80 0 = dt 80 0 := h190_4.trans w26
      have w257 : dt191 80 1 = dt 80 1 := h190_5.trans w27
      have w258 : dt191 80 3 = dt 80 3 := h190_6.trans w29
      have w259 : dt191 80 4 = dt 80 4 := h190_7.trans w30
      have w260 : dt191 80 5 = dt 80 5 := h190_8.trans w31
      have M2261 : MW (dt191 81) := MW_frk M2164 hF193 (by decide)
      have C262 : ∀ j : Nat, dt191 2 j = dt 2 j := fun j => (hF193 2 (by decide) j).trans (C165 j)
      have C263 : ∀ j : Nat, dt191 3 j = dt 3 j := fun j => (hF193 3 (by decide) j).trans (C166 j)
      have C264 : ∀ j : Nat, dt191 4 j = dt 4 j := fun j => (hF193 4 (by decide) j).trans (C167 j)
      have C265 : ∀ j : Nat, dt191 5 j = dt 5 j := fun j => (hF193 5 (by decide) j).trans (C168 j)
      have C266 : ∀ j : Nat, dt191 6 j = dt 6 j := fun j => (hF193 6 (by decide) j).trans (C169 j)
      have C267 : ∀ j : Nat, dt191 8 j = dt 8 j := fun j => (hF193 8 (by decide) j).trans (C170 j)
      have C268 : ∀ j : Nat, dt191 9 j = dt 9 j := fun j => (hF193 9 (by decide) j).trans (C171 j)
      have C269 : ∀ j : Nat, dt191 19 j = dt 19 j := fun j => (hF193 19 (by decide) j).trans (C172 j)
      have C270 : ∀ j : Nat, dt191 20 j = dt 20 j := fun j => (hF193 20 (by decide) j).trans (C173 j)
      have C271 : ∀ j : Nat, dt191 21 j = dt 21 j := fun j => (hF193 21 (by decide) j).trans (C174 j)
      have C272 : ∀ j : Nat, dt191 22 j = dt 22 j := fun j => (hF193 22 (by decide) j).trans (C175 j)
      have C273 : ∀ j : Nat, dt191 23 j = dt 23 j := fun j => (hF193 23 (by decide) j).trans (C176 j)
      have C274 : ∀ j : Nat, dt191 25 j = dt 25 j := fun j => (hF193 25 (by decide) j).trans (C177 j)
      have C275 : ∀ j : Nat, dt191 26 j = dt 26 j := fun j => (hF193 26 (by decide) j).trans (C178 j)
      have C276 : ∀ j : Nat, dt191 28 j = dt 28 j := fun j => (hF193 28 (by decide) j).trans (C179 j)
      have C277 : ∀ j : Nat, dt191 13 j = dt 13 j := fun j => (hF193 13 (by decide) j).trans (C180 j)
      have C278 : ∀ j : Nat, dt191 30 j = dt 30 j := fun j => (hF193 30 (by decide) j).trans (C181 j)
      have C279 : ∀ j : Nat, dt191 36 j = dt 36 j := fun j => (hF193 36 (by decide) j).trans (C182 j)
      have C280 : ∀ j : Nat, dt191 81 j = dt 81 j := fun j => (hF193 81 (by decide) j).trans (C184 j)
      have C281 : ∀ j : Nat, dt191 85 j = dt 85 j := fun j => (hF193 85 (by decide) j).trans (C185 j)
      have N282 := fun (j : Nat) (hj : (j : Int) < 4 * dt 10 3) => (hF193 11 (by decide) j).trans (h5_3 j hj)
      have N283 := (hF193 11 (by decide) _).trans h5_4
      have N284 := (hF193 11 (by decide) _).trans h5_5
      have N285 := (hF193 11 (by decide) _).trans h5_6
      have N286 := (hF193 11 (by decide) _).trans h5_7
      have F287 : ∀ j : Nat, 6 ≤ j → j < 974 → dt191 80 j = dt 80 j := fun j h1_ h2_ => (h190_9 j (by omega) (by omega)).trans (C183 j)
      have F288 : ∀ j : Nat, 974 ≤ j → j < 5320 → dt191 80 j = dt 80 j := fun j h1_ h2_ => (h190_9 j (by omega) (by omega)).trans (C183 j)
      have F289 : ∀ j : Nat, 5320 ≤ j → j < 5380 → dt191 80 j = dt 80 j := fun j h1_ h2_ => (h190_9 j (by omega) (by omega)).trans (C183 j)
      have F290 : dt191 80 1 = dt 80 1 := (h190_9 1 (by omega) (by omega)).trans (C183 1)
      have N291 := h190_9
      rw [show dt6 80 = dt 80 from funext C183] at N291
      have N292 := h190_10
      rw [show dt6 80 = dt 80 from funext C183] at N292
      have N293 := h190_11
      rw [show dt6 80 = dt 80 from funext C183] at N293
      have N294 := h190_12
      rw [show dt6 80 = dt 80 from funext C183] at N294
      have N295 := h190_13
      rw [show dt6 80 = dt 80 from funext C183] at N295
      have S296 : CHL (dt191 11) (dt191 80) := by first | exact CHL_a hd9 hk2 (by omega) N282 N283 N284 N285 N286 (by omega) N291 N292 N293 N294 N295 | (exfalso; omega)
      have F297 : ∀ j : Nat, 5540 ≤ j → j < 7340 → dt191 80 j = dt 80 j := fun j h1_ h2_ => (h190_9 j (by omega) (by omega)).trans (C183 j)
      refine go_toq PM267 (k := 2) (pc' := 1435) (L' := [some (.inr (.inr (some 3000))), some (.inr (.inr (some 0))), some (.inr (.inr (some 79))), some (.inl i)]) (st' := []) (w' := (SH, dt191)) rfl ?_
      exact K dt191 hI192 hM255 M2261 (w195.trans (hk0.trans w256.symm)) (w196.trans (hk1.trans w257.symm)) (by omega) (w198.trans (hk3.trans w258.symm)) (w199.trans (hk4.trans w259.symm)) (w200.trans (hk5.trans w260.symm)) (w201.trans (hk6.trans w211.symm)) (w202.trans (hk7.trans w212.symm)) (w203.trans (hk8.trans w213.symm)) (w204.trans (hk9.trans w214.symm)) (w205.trans (hk10.trans w215.symm)) (w206.trans (hk11.trans w216.symm)) (w207.trans (hk12.trans w217.symm)) (w208.trans (hk13.trans w218.symm)) (w209.trans (hk14.trans w219.symm)) (w210.trans (hk15.trans w220.symm)) (by first | exact hI | exact TPL_k hd0 C279 C281 (by omega) | (exfalso; omega)) (by first | exact hI | exact SCL_k hd1 hM (fun j _ => C262 j) (fun j _ => C263 j) F287 | (exfalso; omega)) (by first | exact hI | exact SCL_k hd2 hM2 (fun j _ => C269 j) (fun j _ => C270 j) (fun j _ _ => C280 j) | (exfalso; omega)) (by first | exact hI | exact QRL_k hd3 hM (fun j _ => C267 j) F290 F289 | (exfalso; omega)) (by first | exact hI | exact QRL_k hd4 hM2 (fun j _ => C274 j) (C280 1) (fun j _ _ => C280 j) | (exfalso; omega)) (by first | exact hI | exact SDL_k hd5 hM (fun j _ => C268 j) F290 F287 F289 | (exfalso; omega)) (by first | exact hI | exact SDL_k hd6 hM2 (fun j _ => C275 j) (C280 1) (fun j _ _ => C280 j) (fun j _ _ => C280 j) | (exfalso; omega)) (by first | exact hI | exact LWL_k hd7 hM (fun j _ => C264 j) (fun j _ => C265 j) (fun j _ => C266 j) F288 | (exfalso; omega)) (by first | exact hI | exact LWL_k hd8 hM2 (fun j _ => C271 j) (fun j _ => C272 j) (fun j _ => C273 j) (fun j _ _ => C280 j) | (exfalso; omega)) (by first | exact S296 | exact CHL_k hd9 hM hI (by omega) hI | (exfalso; omega)) (by first | exact hI | exact CHL_k hd10 hM2 (fun j _ => C276 j) (by omega) (fun j _ _ => C280 j) | (exfalso; omega)) (by first | exact hI | exact ANL_k hd11 hM (fun j _ => C277 j) (by omega) (by omega) (by omega) F297 | (exfalso; omega)) (by first | exact hI | exact ANL_k hd12 hM2 (fun j _ => C278 j) (by omega) (by omega) (by omega) (fun j _ _ => C280 j) | (exfalso; omega))
