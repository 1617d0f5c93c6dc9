theorem am_scr {L : Nat} {xs : Nat → Int32} {sio : Option Nat} {dt : Nat → Nat → Int} (h : L ≤ 3072) : am_arr (am_XX L xs sio) (SH, dt) 3000 = some (0, L, fun j => (xs j).toInt) := by
  have e : SH[3000]? = none := by decide +kernel
  unfold am_arr
  rw [show (SH, dt).1[3000]? = none from e]
  dsimp only [am_XX]
  rw [if_pos rfl]
  dsimp only
  have : Nat.blt L 2147483648 = true := Nat.blt_eq.mpr (by omega)
  rw [this]
  rfl
theorem s_alen {X : am_X} {L : am_L} {w : am_W} {tg : List Nat} {cv : Int} {r n ty : Nat} {f : Nat → Int} {rest : List AV} (hw : am_arr X w r = some (ty, n, f)) (h : Nat.blt ty 4 = true) : am_smp X .arraylength tg cv L (.inr (.inr (some r)) :: rest) w = some (L, .inl (n : Int) :: rest, w) := by
  simp only [am_smp, hw, h, cond_true]

set_option maxRecDepth 20000 in
set_option maxHeartbeats 8000000 in
theorem sp_case0 (L : Nat) (xs : Nat → Int32) (sio : Option Nat) (d : Nat) (Q : Option AV → am_W → Prop) (hLL : L ≤ 3072) (i : Int) (hi : 0 ≤ i ∧ i ≤ 3066) (hil : i ≤ (L : Int) - 6) (dt : Nat → Nat → Int) (hI : InvC dt) (hM : MW (dt 80)) (hM2 : MW (dt 81)) (hk0 : dt 1 0 = dt 80 0) (hk1 : dt 7 3 = dt 80 1) (hk2 : dt 10 3 = dt 80 2) (hk3 : dt 12 3 = dt 80 3) (hk4 : dt 14 3 = dt 80 4) (hk5 : dt 16 3 = dt 80 5) (hk6 : dt 18 0 = dt 81 0) (hk7 : dt 24 3 = dt 81 1) (hk8 : dt 27 3 = dt 81 2) (hk9 : dt 29 3 = dt 81 3) (hk10 : dt 31 3 = dt 81 4) (hk11 : dt 33 3 = dt 81 5) (hk12 : dt 0 2 = dt 79 2) (hk13 : dt 35 1 = dt 79 12) (hk14 : dt 35 2 = dt 79 19) (hk15 : dt 35 3 = dt 79 21) (hd0 : TPL (dt 36) (dt 85) (dt 35 1)) (hd1 : SCL (dt 2) (dt 3) (dt 80)) (hd2 : SCL (dt 19) (dt 20) (dt 81)) (K : ∀ (dt : Nat → Nat → Int) (hI : InvC dt) (hM : MW (dt 80)) (hM2 : MW (dt 81)) (hk0 : dt 1 0 = dt 80 0) (hk1 : dt 7 3 = dt 80 1) (hk2 : dt 10 3 = dt 80 2) (hk3 : dt 12 3 = dt 80 3) (hk4 : dt 14 3 = dt 80 4) (hk5 : dt 16 3 = dt 80 5) (hk6 : dt 18 0 = dt 81 0) (hk7 : dt 24 3 = dt 81 1) (hk8 : dt 27 3 = dt 81 2) (hk9 : dt 29 3 = dt 81 3) (hk10 : dt 31 3 = dt 81 4) (hk11 : dt 33 3 = dt 81 5) (hk12 : dt 0 2 = dt 79 2) (hk13 : dt 35 1 = dt 79 12) (hk14 : dt 35 2 = dt 79 19) (hk15 : dt 35 3 = dt 79 21) (hd0 : TPL (dt 36) (dt 85) (dt 35 1)) (hd1 : SCL (dt 2) (dt 3) (dt 80)) (hd2 : SCL (dt 19) (dt 20) (dt 81)), GO (am_XX L xs sio) (d + 39) 267 1435 [some (.inr (.inr (some 3000))), some (.inr (.inr (some 0))), some (.inr (.inr (some 79))), some (.inl i)] [] (SH, dt) Q) : GO (am_XX L xs sio) (d + 39) 267 180 [some (.inr (.inr (some 3000))), some (.inr (.inr (some 0))), some (.inr (.inr (some 79))), some (.inl i)] [] (SH, dt) Q := by
  have hF : Fr [0, 1, 2, 3, 4, 5, 6, 7, 8, 9, 10, 11, 12, 13, 14, 15, 16, 17, 18, 19, 20, 21, 22, 23, 24, 25, 26, 27, 28, 29, 30, 31, 32, 33, 34, 35, 36, 37, 38, 39, 40, 41, 42, 43, 44, 45, 46, 47, 48, 49, 50, 51, 52, 53, 54, 55, 56, 57, 58, 59, 60, 61, 62, 63, 64, 65, 66, 67, 68, 69, 70, 71, 72, 73, 74, 75, 76, 77, 78, 79, 80, 81, 82, 83, 84, 85, 86, 87, 88, 89, 90, 91, 92, 93, 94, 95, 96, 97, 98, 99, 100, 101, 102, 103, 104] dt dt := Fr_refl
  refine go_toq PM267 (k := 5) (pc' := 185) (L' := [some (.inr (.inr (some 3000))), some (.inr (.inr (some 0))), some (.inr (.inr (some 79))), some (.inl i)]) (st' := [.inl (i + 1), .inr (.inr (some 3000)), .inr (.inr (some 0))]) (w' := (SH, dt)) rfl ?_
  have r1 := i32_R (xs ((i + 1).toNat))
  refine go_smpq PM267 (L' := [some (.inr (.inr (some 3000))), some (.inr (.inr (some 0))), some (.inr (.inr (some 79))), some (.inl i)]) (st' := [.inl ((xs ((i + 1).toNat)).toInt), .inr (.inr (some 0))]) (w' := (SH, dt)) rfl rfl (s_iald (n := L) (f := fun j => (xs j).toInt) (am_scr hLL) ⟨by omega, by omega⟩) ?_
  refine go_callq PM267 PM67 (Q' := _) rfl rfl rfl rfl (sp_X5_state L xs sio (d + 38) dt hI  ((xs ((i + 1).toNat)).toInt) ⟨by omega, by omega⟩ ) ?_
  rintro _ _ ⟨dt3, rfl, hI4, hF5, h2⟩
  refine ⟨rfl, ?_⟩
  have hF6 : Fr [0, 1, 2, 3, 4, 5, 6, 7, 8, 9, 10, 11, 12, 13, 14, 15, 16, 17, 18, 19, 20, 21, 22, 23, 24, 25, 26, 27, 28, 29, 30, 31, 32, 33, 34, 35, 36, 37, 38, 39, 40, 41, 42, 43, 44, 45, 46, 47, 48, 49, 50, 51, 52, 53, 54, 55, 56, 57, 58, 59, 60, 61, 62, 63, 64, 65, 66, 67, 68, 69, 70, 71, 72, 73, 74, 75, 76, 77, 78, 79, 80, 81, 82, 83, 84, 85, 86, 87, 88, 89, 90, 91, 92, 93, 94, 95, 96, 97, 98, 99, 100, 101, 102, 103, 104] dt dt3 := Fr_tr hF hF5 (by decide)
  have hM7 : MW (dt3 80) := MW_fr hM hF5 (by decide)
  have w8 : dt3 7 3 = dt 7 3 := hF5 7 (by decide) 3
  have w9 : dt3 10 3 = dt 10 3 := hF5 10 (by decide) 3
  have w10 : dt3 12 3 = dt 12 3 := hF5 12 (by decide) 3
  have w11 : dt3 14 3 = dt 14 3 := hF5 14 (by decide) 3
  have w12 : dt3 16 3 = dt 16 3 := hF5 16 (by decide) 3
  have w13 : dt3 18 0 = dt 18 0 := hF5 18 (by decide) 0
  have w14 : dt3 24 3 = dt 24 3 := hF5 24 (by decide) 3
  have w15 : dt3 27 3 = dt 27 3 := hF5 27 (by decide) 3
  have w16 : dt3 29 3 = dt 29 3 := hF5 29 (by decide) 3
  have w17 : dt3 31 3 = dt 31 3 := hF5 31 (by decide) 3
  have w18 : dt3 33 3 = dt 33 3 := hF5 33 (by decide) 3
  have w19 : dt3 0 2 = dt 0 2 := hF5 0 (by decide) 2
  have w20 : dt3 35 1 = dt 35 1 := hF5 35 (by decide) 1
  have w21 : dt3 35 2 = dt 35 2 := hF5 35 (by decide) 2
  have w22 : dt3 35 3 = dt 35 3 := hF5 35 (by decide) 3
  have w23 : dt3 80 0 = dt 80 0 := hF5 80 (by decide) 0
  have w24 : dt3 80 1 = dt 80 1 := hF5 80 (by decide) 1
  have w25 : dt3 80 2 = dt 80 2 := hF5 80 (by decide) 2
  have w26 : dt3 80 3 = dt 80 3 := hF5 80 (by decide) 3
  have w27 : dt3 80 4 = dt 80 4 := hF5 80 (by decide) 4
  have w28 : dt3 80 5 = dt 80 5 := hF5 80 (by decide) 5
  have w29 : dt3 81 0 = dt 81 0 := hF5 81 (by decide) 0
  have w30 : dt3 81 1 = dt 81 1 := hF5 81 (by decide) 1
  have w31 : dt3 81 2 = dt 81 2 := hF5 81 (by decide) 2
  have w32 : dt3 81 3 = dt 81 3 := hF5 81 (by decide) 3
  have w33 : dt3 81 4 = dt 81 4 := hF5 81 (by decide) 4
  have w34 : dt3 81 5 = dt 81 5 := hF5 81 (by decide) 5
  have w35 : dt3 79 2 = dt 79 2 := hF5 79 (by decide) 2
  have w36 : dt3 79 12 = dt 79 12 := hF5 79 (by decide) 12
  have w37 : dt3 79 19 = dt 79 19 := hF5 79 (by decide) 19
  have w38 : dt3 79 21 = dt 79 21 := hF5 79 (by decide) 21
  rcases h2 with ⟨rfl, h2⟩
  have M239 : MW (dt3 81) := MW_frk hM2 hF5 (by decide)
  have C40 : ∀ j : Nat, dt3 2 j = dt 2 j := fun j => (hF5 2 (by decide) j).trans ((fun _ => rfl) j)
  have C41 : ∀ j : Nat, dt3 3 j = dt 3 j := fun j => (hF5 3 (by decide) j).trans ((fun _ => rfl) j)
  have C42 : ∀ j : Nat, dt3 19 j = dt 19 j := fun j => (hF5 19 (by decide) j).trans ((fun _ => rfl) j)
  have C43 : ∀ j : Nat, dt3 20 j = dt 20 j := fun j => (hF5 20 (by decide) j).trans ((fun _ => rfl) j)
  have C44 : ∀ j : Nat, dt3 36 j = dt 36 j := fun j => (hF5 36 (by decide) j).trans ((fun _ => rfl) j)
  have C45 : ∀ j : Nat, dt3 80 j = dt 80 j := fun j => (hF5 80 (by decide) j).trans ((fun _ => rfl) j)
  have C46 : ∀ j : Nat, dt3 81 j = dt 81 j := fun j => (hF5 81 (by decide) j).trans ((fun _ => rfl) j)
  have C47 : ∀ j : Nat, dt3 85 j = dt 85 j := fun j => (hF5 85 (by decide) j).trans ((fun _ => rfl) j)
  refine go_toq PM267 (k := 6) (pc' := 195) (L' := [some (.inr (.inr (some 3000))), some (.inr (.inr (some 0))), some (.inr (.inr (some 79))), some (.inl i)]) (st' := [.inl (i + 1), .inr (.inr (some 3000)), .inr (.inr (some 79))]) (w' := (SH, dt3)) rfl ?_
  have r48 := i32_R (xs ((i + 1).toNat))
  refine go_smpq PM267 (L' := [some (.inr (.inr (some 3000))), some (.inr (.inr (some 0))), some (.inr (.inr (some 79))), some (.inl i)]) (st' := [.inl ((xs ((i + 1).toNat)).toInt), .inr (.inr (some 79))]) (w' := (SH, dt3)) rfl rfl (s_iald (n := L) (f := fun j => (xs j).toInt) (am_scr hLL) ⟨by omega, by omega⟩) ?_
  refine go_callq PM267 PM149 (Q' := _) rfl rfl rfl rfl (sp_X6_state_v L xs sio (d + 38) dt3 hI4 hM7  ((xs ((i + 1).toNat)).toInt) ⟨by omega, by omega⟩ ) ?_
  rintro _ _ ⟨dt50, rfl, hI51, hF52, h49⟩
  refine ⟨rfl, ?_⟩
  have hF53 : Fr [0, 1, 2, 3, 4, 5, 6, 7, 8, 9, 10, 11, 12, 13, 14, 15, 16, 17, 18, 19, 20, 21, 22, 23, 24, 25, 26, 27, 28, 29, 30, 31, 32, 33, 34, 35, 36, 37, 38, 39, 40, 41, 42, 43, 44, 45, 46, 47, 48, 49, 50, 51, 52, 53, 54, 55, 56, 57, 58, 59, 60, 61, 62, 63, 64, 65, 66, 67, 68, 69, 70, 71, 72, 73, 74, 75, 76, 77, 78, 79, 80, 81, 82, 83, 84, 85, 86, 87, 88, 89, 90, 91, 92, 93, 94, 95, 96, 97, 98, 99, 100, 101, 102, 103, 104] dt dt50 := Fr_tr hF6 hF52 (by decide)
  have w54 : dt50 1 0 = dt3 1 0 := hF52 1 (by decide) 0
  have w55 : dt50 7 3 = dt 7 3 := (hF52 7 (by decide) 3).trans w8
  have w56 : dt50 10 3 = dt 10 3 := (hF52 10 (by decide) 3).trans w9
  have w57 : dt50 12 3 = dt 12 3 := (hF52 12 (by decide) 3).trans w10
  have w58 : dt50 14 3 = dt 14 3 := (hF52 14 (by decide) 3).trans w11
  have w59 : dt50 16 3 = dt 16 3 := (hF52 16 (by decide) 3).trans w12
  have w60 : dt50 18 0 = dt 18 0 := (hF52 18 (by decide) 0).trans w13
  have w61 : dt50 24 3 = dt 24 3 := (hF52 24 (by decide) 3).trans w14
  have w62 : dt50 27 3 = dt 27 3 := (hF52 27 (by decide) 3).trans w15
  have w63 : dt50 29 3 = dt 29 3 := (hF52 29 (by decide) 3).trans w16
  have w64 : dt50 31 3 = dt 31 3 := (hF52 31 (by decide) 3).trans w17
  have w65 : dt50 33 3 = dt 33 3 := (hF52 33 (by decide) 3).trans w18
  have w66 : dt50 0 2 = dt 0 2 := (hF52 0 (by decide) 2).trans w19
  have w67 : dt50 35 1 = dt 35 1 := (hF52 35 (by decide) 1).trans w20
  have w68 : dt50 35 2 = dt 35 2 := (hF52 35 (by decide) 2).trans w21
  have w69 : dt50 35 3 = dt 35 3 := (hF52 35 (by decide) 3).trans w22
  have w70 : dt50 81 0 = dt 81 0 := (hF52 81 (by decide) 0).trans w29
  have w71 : dt50 81 1 = dt 81 1 := (hF52 81 (by decide) 1).trans w30
  have w72 : dt50 81 2 = dt 81 2 := (hF52 81 (by decide) 2).trans w31
  have w73 : dt50 81 3 = dt 81 3 := (hF52 81 (by decide) 3).trans w32
  have w74 : dt50 81 4 = dt 81 4 := (hF52 81 (by decide) 4).trans w33
  have w75 : dt50 81 5 = dt 81 5 := (hF52 81 (by decide) 5).trans w34
  have w76 : dt50 79 2 = dt 79 2 := (hF52 79 (by decide) 2).trans w35
  have w77 : dt50 79 12 = dt 79 12 := (hF52 79 (by decide) 12).trans w36
  have w78 : dt50 79 19 = dt 79 19 := (hF52 79 (by decide) 19).trans w37
  have w79 : dt50 79 21 = dt 79 21 := (hF52 79 (by decide) 21).trans w38
  rcases h49 with ⟨rfl, h49⟩
  have hM80 : MW (dt50 80) := h49.2.1
  obtain ⟨h49_0, h49_1, h49_2, h49_3, h49_4, h49_5, h49_6, h49_7⟩ := h49
  have w81 : dt50 80 1 = dt 80 1 := h49_2.trans w24
  have w82 : dt50 80 2 = dt 80 2 := h49_3.trans w25
  have w83 : dt50 80 3 = dt 80 3 := h49_4.trans w26
  have w84 : dt50 80 4 = dt 80 4 := h49_5.trans w27
  have w85 : dt50 80 5 = dt 80 5 := h49_6.trans w28
  have M286 : MW (dt50 81) := MW_frk M239 hF52 (by decide)
  have C87 : ∀ j : Nat, dt50 2 j = dt 2 j := fun j => (hF52 2 (by decide) j).trans (C40 j)
  have C88 : ∀ j : Nat, dt50 3 j = dt 3 j := fun j => (hF52 3 (by decide) j).trans (C41 j)
  have C89 : ∀ j : Nat, dt50 19 j = dt 19 j := fun j => (hF52 19 (by decide) j).trans (C42 j)
  have C90 : ∀ j : Nat, dt50 20 j = dt 20 j := fun j => (hF52 20 (by decide) j).trans (C43 j)
  have C91 : ∀ j : Nat, dt50 36 j = dt 36 j := fun j => (hF52 36 (by decide) j).trans (C44 j)
  have C92 : ∀ j : Nat, dt50 81 j = dt 81 j := fun j => (hF52 81 (by decide) j).trans (C46 j)
  have C93 : ∀ j : Nat, dt50 85 j = dt 85 j := fun j => (hF52 85 (by decide) j).trans (C47 j)
  have F94 : ∀ j : Nat, 6 ≤ j → j < 974 → dt50 80 j = dt 80 j := fun j h1_ h2_ => (h49_7 j (by omega)).trans (C45 j)
  refine go_toq PM267 (k := 2) (pc' := 1435) (L' := [some (.inr (.inr (some 3000))), some (.inr (.inr (some 0))), some (.inr (.inr (some 79))), some (.inl i)]) (st' := []) (w' := (SH, dt50)) rfl ?_
  exact K dt50 hI51 hM80 M286 (by first | omega | (simp only [*]; done) | simp only [*]) (w55.trans (hk1.trans w81.symm)) (w56.trans (hk2.trans w82.symm)) (w57.trans (hk3.trans w83.symm)) (w58.trans (hk4.trans w84.symm)) (w59.trans (hk5.trans w85.symm)) (w60.trans (hk6.trans w70.symm)) (w61.trans (hk7.trans w71.symm)) (w62.trans (hk8.trans w72.symm)) (w63.trans (hk9.trans w73.symm)) (w64.trans (hk10.trans w74.symm)) (w65.trans (hk11.trans w75.symm)) (w66.trans (hk12.trans w76.symm)) (w67.trans (hk13.trans w77.symm)) (w68.trans (hk14.trans w78.symm)) (w69.trans (hk15.trans w79.symm)) (by first | exact hI | exact TPL_k hd0 C91 C93 (by omega) | (exfalso; omega)) (by first | exact hI | exact SCL_k hd1 hM (fun j _ => C87 j) (fun j _ => C88 j) F94 | (exfalso; omega)) (by first | exact hI | exact SCL_k hd2 hM2 (fun j _ => C89 j) (fun j _ => C90 j) (fun j _ _ => C92 j) | (exfalso; omega))
set_option maxRecDepth 20000 in
set_option maxHeartbeats 8000000 in
theorem sp_case1 (L : Nat) (xs : Nat → Int32) (sio : Option Nat) (d : Nat) (Q : Option AV → am_W → Prop) (hLL : L ≤ 3072) (i : Int) (hi : 0 ≤ i ∧ i ≤ 3066) (hil : i ≤ (L : Int) - 6) (dt : Nat → Nat → Int) (hI : InvC dt) (hM : MW (dt 80)) (hM2 : MW (dt 81)) (hk0 : dt 1 0 = dt 80 0) (hk1 : dt 7 3 = dt 80 1) (hk2 : dt 10 3 = dt 80 2) (hk3 : dt 12 3 = dt 80 3) (hk4 : dt 14 3 = dt 80 4) (hk5 : dt 16 3 = dt 80 5) (hk6 : dt 18 0 = dt 81 0) (hk7 : dt 24 3 = dt 81 1) (hk8 : dt 27 3 = dt 81 2) (hk9 : dt 29 3 = dt 81 3) (hk10 : dt 31 3 = dt 81 4) (hk11 : dt 33 3 = dt 81 5) (hk12 : dt 0 2 = dt 79 2) (hk13 : dt 35 1 = dt 79 12) (hk14 : dt 35 2 = dt 79 19) (hk15 : dt 35 3 = dt 79 21) (hd0 : TPL (dt 36) (dt 85) (dt 35 1)) (hd1 : SCL (dt 2) (dt 3) (dt 80)) (hd2 : SCL (dt 19) (dt 20) (dt 81)) (K : ∀ (dt : Nat → Nat → Int) (hI : InvC dt) (hM : MW (dt 80)) (hM2 : MW (dt 81)) (hk0 : dt 1 0 = dt 80 0) (hk1 : dt 7 3 = dt 80 1) (hk2 : dt 10 3 = dt 80 2) (hk3 : dt 12 3 = dt 80 3) (hk4 : dt 14 3 = dt 80 4) (hk5 : dt 16 3 = dt 80 5) (hk6 : dt 18 0 = dt 81 0) (hk7 : dt 24 3 = dt 81 1) (hk8 : dt 27 3 = dt 81 2) (hk9 : dt 29 3 = dt 81 3) (hk10 : dt 31 3 = dt 81 4) (hk11 : dt 33 3 = dt 81 5) (hk12 : dt 0 2 = dt 79 2) (hk13 : dt 35 1 = dt 79 12) (hk14 : dt 35 2 = dt 79 19) (hk15 : dt 35 3 = dt 79 21) (hd0 : TPL (dt 36) (dt 85) (dt 35 1)) (hd1 : SCL (dt 2) (dt 3) (dt 80)) (hd2 : SCL (dt 19) (dt 20) (dt 81)), GO (am_XX L xs sio) (d + 39) 267 1435 [some (.inr (.inr (some 3000))), some (.inr (.inr (some 0))), some (.inr (.inr (some 79))), some (.inl i)] [] (SH, dt) Q) : GO (am_XX L xs sio) (d + 39) 267 203 [some (.inr (.inr (some 3000))), some (.inr (.inr (some 0))), some (.inr (.inr (some 79))), some (.inl i)] [] (SH, dt) Q := by
  have hF : Fr [0, 1, 2, 3, 4, 5, 6, 7, 8, 9, 10, 11, 12, 13, 14, 15, 16, 17, 18, 19, 20, 21, 22, 23, 24, 25, 26, 27, 28, 29, 30, 31, 32, 33, 34, 35, 36, 37, 38, 39, 40, 41, 42, 43, 44, 45, 46, 47, 48, 49, 50, 51, 52, 53, 54, 55, 56, 57, 58, 59, 60, 61, 62, 63, 64, 65, 66, 67, 68, 69, 70, 71, 72, 73, 74, 75, 76, 77, 78, 79, 80, 81, 82, 83, 84, 85, 86, 87, 88, 89, 90, 91, 92, 93, 94, 95, 96, 97, 98, 99, 100, 101, 102, 103, 104] dt dt := Fr_refl
  refine go_toq PM267 (k := 5) (pc' := 208) (L' := [some (.inr (.inr (some 3000))), some (.inr (.inr (some 0))), some (.inr (.inr (some 79))), some (.inl i)]) (st' := [.inl (i + 1), .inr (.inr (some 3000)), .inr (.inr (some 0))]) (w' := (SH, dt)) rfl ?_
  have r1 := i32_R (xs ((i + 1).toNat))
  refine go_smpq PM267 (L' := [some (.inr (.inr (some 3000))), some (.inr (.inr (some 0))), some (.inr (.inr (some 79))), some (.inl i)]) (st' := [.inl ((xs ((i + 1).toNat)).toInt), .inr (.inr (some 0))]) (w' := (SH, dt)) rfl rfl (s_iald (n := L) (f := fun j => (xs j).toInt) (am_scr hLL) ⟨by omega, by omega⟩) ?_
  refine go_toq PM267 (k := 4) (pc' := 213) (L' := [some (.inr (.inr (some 3000))), some (.inr (.inr (some 0))), some (.inr (.inr (some 79))), some (.inl i)]) (st' := [.inl (i + 2), .inr (.inr (some 3000)), .inl ((xs ((i + 1).toNat)).toInt), .inr (.inr (some 0))]) (w' := (SH, dt)) rfl ?_
  have r2 := i32_R (xs ((i + 2).toNat))
  refine go_smpq PM267 (L' := [some (.inr (.inr (some 3000))), some (.inr (.inr (some 0))), some (.inr (.inr (some 79))), some (.inl i)]) (st' := [.inl ((xs ((i + 2).toNat)).toInt), .inl ((xs ((i + 1).toNat)).toInt), .inr (.inr (some 0))]) (w' := (SH, dt)) rfl rfl (s_iald (n := L) (f := fun j => (xs j).toInt) (am_scr hLL) ⟨by omega, by omega⟩) ?_
  refine go_toq PM267 (k := 4) (pc' := 218) (L' := [some (.inr (.inr (some 3000))), some (.inr (.inr (some 0))), some (.inr (.inr (some 79))), some (.inl i)]) (st' := [.inl (i + 3), .inr (.inr (some 3000)), .inl ((xs ((i + 2).toNat)).toInt), .inl ((xs ((i + 1).toNat)).toInt), .inr (.inr (some 0))]) (w' := (SH, dt)) rfl ?_
  have r3 := i32_R (xs ((i + 3).toNat))
  refine go_smpq PM267 (L' := [some (.inr (.inr (some 3000))), some (.inr (.inr (some 0))), some (.inr (.inr (some 79))), some (.inl i)]) (st' := [.inl ((xs ((i + 3).toNat)).toInt), .inl ((xs ((i + 2).toNat)).toInt), .inl ((xs ((i + 1).toNat)).toInt), .inr (.inr (some 0))]) (w' := (SH, dt)) rfl rfl (s_iald (n := L) (f := fun j => (xs j).toInt) (am_scr hLL) ⟨by omega, by omega⟩) ?_
  refine go_toq PM267 (k := 4) (pc' := 223) (L' := [some (.inr (.inr (some 3000))), some (.inr (.inr (some 0))), some (.inr (.inr (some 79))), some (.inl i)]) (st' := [.inl (i + 4), .inr (.inr (some 3000)), .inl ((xs ((i + 3).toNat)).toInt), .inl ((xs ((i + 2).toNat)).toInt), .inl ((xs ((i + 1).toNat)).toInt), .inr (.inr (some 0))]) (w' := (SH, dt)) rfl ?_
  have r4 := i32_R (xs ((i + 4).toNat))
  refine go_smpq PM267 (L' := [some (.inr (.inr (some 3000))), some (.inr (.inr (some 0))), some (.inr (.inr (some 79))), some (.inl i)]) (st' := [.inl ((xs ((i + 4).toNat)).toInt), .inl ((xs ((i + 3).toNat)).toInt), .inl ((xs ((i + 2).toNat)).toInt), .inl ((xs ((i + 1).toNat)).toInt), .inr (.inr (some 0))]) (w' := (SH, dt)) rfl rfl (s_iald (n := L) (f := fun j => (xs j).toInt) (am_scr hLL) ⟨by omega, by omega⟩) ?_
  refine go_toq PM267 (k := 4) (pc' := 228) (L' := [some (.inr (.inr (some 3000))), some (.inr (.inr (some 0))), some (.inr (.inr (some 79))), some (.inl i)]) (st' := [.inl (i + 5), .inr (.inr (some 3000)), .inl ((xs ((i + 4).toNat)).toInt), .inl ((xs ((i + 3).toNat)).toInt), .inl ((xs ((i + 2).toNat)).toInt), .inl ((xs ((i + 1).toNat)).toInt), .inr (.inr (some 0))]) (w' := (SH, dt)) rfl ?_
  have r5 := i32_R (xs ((i + 5).toNat))
  refine go_smpq PM267 (L' := [some (.inr (.inr (some 3000))), some (.inr (.inr (some 0))), some (.inr (.inr (some 79))), some (.inl i)]) (st' := [.inl ((xs ((i + 5).toNat)).toInt), .inl ((xs ((i + 4).toNat)).toInt), .inl ((xs ((i + 3).toNat)).toInt), .inl ((xs ((i + 2).toNat)).toInt), .inl ((xs ((i + 1).toNat)).toInt), .inr (.inr (some 0))]) (w' := (SH, dt)) rfl rfl (s_iald (n := L) (f := fun j => (xs j).toInt) (am_scr hLL) ⟨by omega, by omega⟩) ?_
  refine go_callq PM267 PM68 (Q' := _) rfl rfl rfl rfl (sp_X5_feed_f L xs sio (d + 37) dt hI  ((xs ((i + 1).toNat)).toInt) ⟨by omega, by omega⟩ ((xs ((i + 2).toNat)).toInt) ⟨by omega, by omega⟩ ((xs ((i + 3).toNat)).toInt) ⟨by omega, by omega⟩ ((xs ((i + 4).toNat)).toInt) ⟨by omega, by omega⟩ ((xs ((i + 5).toNat)).toInt) ⟨by omega, by omega⟩ ) ?_
  rintro _ _ ⟨dt7, rfl, hI8, hF9, h6⟩
  refine ⟨rfl, ?_⟩
  have hF10 : Fr [0, 1, 2, 3, 4, 5, 6, 7, 8, 9, 10, 11, 12, 13, 14, 15, 16, 17, 18, 19, 20, 21, 22, 23, 24, 25, 26, 27, 28, 29, 30, 31, 32, 33, 34, 35, 36, 37, 38, 39, 40, 41, 42, 43, 44, 45, 46, 47, 48, 49, 50, 51, 52, 53, 54, 55, 56, 57, 58, 59, 60, 61, 62, 63, 64, 65, 66, 67, 68, 69, 70, 71, 72, 73, 74, 75, 76, 77, 78, 79, 80, 81, 82, 83, 84, 85, 86, 87, 88, 89, 90, 91, 92, 93, 94, 95, 96, 97, 98, 99, 100, 101, 102, 103, 104] dt dt7 := Fr_tr hF hF9 (by decide)
  have hM11 : MW (dt7 80) := MW_fr hM hF9 (by decide)
  have w12 : dt7 1 0 = dt 1 0 := hF9 1 (by decide) 0
  have w13 : dt7 7 3 = dt 7 3 := hF9 7 (by decide) 3
  have w14 : dt7 10 3 = dt 10 3 := hF9 10 (by decide) 3
  have w15 : dt7 12 3 = dt 12 3 := hF9 12 (by decide) 3
  have w16 : dt7 14 3 = dt 14 3 := hF9 14 (by decide) 3
  have w17 : dt7 16 3 = dt 16 3 := hF9 16 (by decide) 3
  have w18 : dt7 18 0 = dt 18 0 := hF9 18 (by decide) 0
  have w19 : dt7 24 3 = dt 24 3 := hF9 24 (by decide) 3
  have w20 : dt7 27 3 = dt 27 3 := hF9 27 (by decide) 3
  have w21 : dt7 29 3 = dt 29 3 := hF9 29 (by decide) 3
  have w22 : dt7 31 3 = dt 31 3 := hF9 31 (by decide) 3
  have w23 : dt7 33 3 = dt 33 3 := hF9 33 (by decide) 3
  have w24 : dt7 0 2 = dt 0 2 := hF9 0 (by decide) 2
  have w25 : dt7 80 0 = dt 80 0 := hF9 80 (by decide) 0
  have w26 : dt7 80 1 = dt 80 1 := hF9 80 (by decide) 1
  have w27 : dt7 80 2 = dt 80 2 := hF9 80 (by decide) 2
  have w28 : dt7 80 3 = dt 80 3 := hF9 80 (by decide) 3
  have w29 : dt7 80 4 = dt 80 4 := hF9 80 (by decide) 4
  have w30 : dt7 80 5 = dt 80 5 := hF9 80 (by decide) 5
  have w31 : dt7 81 0 = dt 81 0 := hF9 81 (by decide) 0
  have w32 : dt7 81 1 = dt 81 1 := hF9 81 (by decide) 1
  have w33 : dt7 81 2 = dt 81 2 := hF9 81 (by decide) 2
  have w34 : dt7 81 3 = dt 81 3 := hF9 81 (by decide) 3
  have w35 : dt7 81 4 = dt 81 4 := hF9 81 (by decide) 4
  have w36 : dt7 81 5 = dt 81 5 := hF9 81 (by decide) 5
  have w37 : dt7 79 2 = dt 79 2 := hF9 79 (by decide) 2
  have w38 : dt7 79 12 = dt 79 12 := hF9 79 (by decide) 12
  have w39 : dt7 79 19 = dt 79 19 := hF9 79 (by decide) 19
  have w40 : dt7 79 21 = dt 79 21 := hF9 79 (by decide) 21
  rcases h6 with ⟨rfl, h6⟩ | ⟨v_h6, rfl, h6r, h6⟩
  · skip
    obtain ⟨h6_0, h6_1, h6_2, h6_3, h6_4⟩ := h6
    have w41 : dt7 35 1 = dt 35 1 := h6_1
    have w42 : dt7 35 2 = dt 35 2 := h6_3
    have w43 : dt7 35 3 = dt 35 3 := h6_4
    have M244 : MW (dt7 81) := MW_frk hM2 hF9 (by decide)
    have C45 : ∀ j : Nat, dt7 2 j = dt 2 j := fun j => (hF9 2 (by decide) j).trans ((fun _ => rfl) j)
    have C46 : ∀ j : Nat, dt7 3 j = dt 3 j := fun j => (hF9 3 (by decide) j).trans ((fun _ => rfl) j)
    have C47 : ∀ j : Nat, dt7 19 j = dt 19 j := fun j => (hF9 19 (by decide) j).trans ((fun _ => rfl) j)
    have C48 : ∀ j : Nat, dt7 20 j = dt 20 j := fun j => (hF9 20 (by decide) j).trans ((fun _ => rfl) j)
    have C49 : ∀ j : Nat, dt7 36 j = dt 36 j := fun j => (h6_2 j).trans ((fun _ => rfl) j)
    have C50 : ∀ j : Nat, dt7 80 j = dt 80 j := fun j => (hF9 80 (by decide) j).trans ((fun _ => rfl) j)
    have C51 : ∀ j : Nat, dt7 81 j = dt 81 j := fun j => (hF9 81 (by decide) j).trans ((fun _ => rfl) j)
    have C52 : ∀ j : Nat, dt7 85 j = dt 85 j := fun j => (hF9 85 (by decide) j).trans ((fun _ => rfl) j)
    refine go_toq PM267 (k := 6) (pc' := 238) (L' := [some (.inr (.inr (some 3000))), some (.inr (.inr (some 0))), some (.inr (.inr (some 79))), some (.inl i)]) (st' := [.inl (i + 1), .inr (.inr (some 3000)), .inr (.inr (some 79))]) (w' := (SH, dt7)) rfl ?_
    have r53 := i32_R (xs ((i + 1).toNat))
    refine go_smpq PM267 (L' := [some (.inr (.inr (some 3000))), some (.inr (.inr (some 0))), some (.inr (.inr (some 79))), some (.inl i)]) (st' := [.inl ((xs ((i + 1).toNat)).toInt), .inr (.inr (some 79))]) (w' := (SH, dt7)) rfl rfl (s_iald (n := L) (f := fun j => (xs j).toInt) (am_scr hLL) ⟨by omega, by omega⟩) ?_
    refine go_toq PM267 (k := 4) (pc' := 243) (L' := [some (.inr (.inr (some 3000))), some (.inr (.inr (some 0))), some (.inr (.inr (some 79))), some (.inl i)]) (st' := [.inl (i + 2), .inr (.inr (some 3000)), .inl ((xs ((i + 1).toNat)).toInt), .inr (.inr (some 79))]) (w' := (SH, dt7)) rfl ?_
    have r54 := i32_R (xs ((i + 2).toNat))
    refine go_smpq PM267 (L' := [some (.inr (.inr (some 3000))), some (.inr (.inr (some 0))), some (.inr (.inr (some 79))), some (.inl i)]) (st' := [.inl ((xs ((i + 2).toNat)).toInt), .inl ((xs ((i + 1).toNat)).toInt), .inr (.inr (some 79))]) (w' := (SH, dt7)) rfl rfl (s_iald (n := L) (f := fun j => (xs j).toInt) (am_scr hLL) ⟨by omega, by omega⟩) ?_
    refine go_toq PM267 (k := 4) (pc' := 248) (L' := [some (.inr (.inr (some 3000))), some (.inr (.inr (some 0))), some (.inr (.inr (some 79))), some (.inl i)]) (st' := [.inl (i + 3), .inr (.inr (some 3000)), .inl ((xs ((i + 2).toNat)).toInt), .inl ((xs ((i + 1).toNat)).toInt), .inr (.inr (some 79))]) (w' := (SH, dt7)) rfl ?_
    have r55 := i32_R (xs ((i + 3).toNat))
    refine go_smpq PM267 (L' := [some (.inr (.inr (some 3000))), some (.inr (.inr (some 0))), some (.inr (.inr (some 79))), some (.inl i)]) (st' := [.inl ((xs ((i + 3).toNat)).toInt), .inl ((xs ((i + 2).toNat)).toInt), .inl ((xs ((i + 1).toNat)).toInt), .inr (.inr (some 79))]) (w' := (SH, dt7)) rfl rfl (s_iald (n := L) (f := fun j => (xs j).toInt) (am_scr hLL) ⟨by omega, by omega⟩) ?_
    refine go_toq PM267 (k := 4) (pc' := 253) (L' := [some (.inr (.inr (some 3000))), some (.inr (.inr (some 0))), some (.inr (.inr (some 79))), some (.inl i)]) (st' := [.inl (i + 4), .inr (.inr (some 3000)), .inl ((xs ((i + 3).toNat)).toInt), .inl ((xs ((i + 2).toNat)).toInt), .inl ((xs ((i + 1).toNat)).toInt), .inr (.inr (some 79))]) (w' := (SH, dt7)) rfl ?_
    have r56 := i32_R (xs ((i + 4).toNat))
    refine go_smpq PM267 (L' := [some (.inr (.inr (some 3000))), some (.inr (.inr (some 0))), some (.inr (.inr (some 79))), some (.inl i)]) (st' := [.inl ((xs ((i + 4).toNat)).toInt), .inl ((xs ((i + 3).toNat)).toInt), .inl ((xs ((i + 2).toNat)).toInt), .inl ((xs ((i + 1).toNat)).toInt), .inr (.inr (some 79))]) (w' := (SH, dt7)) rfl rfl (s_iald (n := L) (f := fun j => (xs j).toInt) (am_scr hLL) ⟨by omega, by omega⟩) ?_
    refine go_toq PM267 (k := 4) (pc' := 258) (L' := [some (.inr (.inr (some 3000))), some (.inr (.inr (some 0))), some (.inr (.inr (some 79))), some (.inl i)]) (st' := [.inl (i + 5), .inr (.inr (some 3000)), .inl ((xs ((i + 4).toNat)).toInt), .inl ((xs ((i + 3).toNat)).toInt), .inl ((xs ((i + 2).toNat)).toInt), .inl ((xs ((i + 1).toNat)).toInt), .inr (.inr (some 79))]) (w' := (SH, dt7)) rfl ?_
    have r57 := i32_R (xs ((i + 5).toNat))
    refine go_smpq PM267 (L' := [some (.inr (.inr (some 3000))), some (.inr (.inr (some 0))), some (.inr (.inr (some 79))), some (.inl i)]) (st' := [.inl ((xs ((i + 5).toNat)).toInt), .inl ((xs ((i + 4).toNat)).toInt), .inl ((xs ((i + 3).toNat)).toInt), .inl ((xs ((i + 2).toNat)).toInt), .inl ((xs ((i + 1).toNat)).toInt), .inr (.inr (some 79))]) (w' := (SH, dt7)) rfl rfl (s_iald (n := L) (f := fun j => (xs j).toInt) (am_scr hLL) ⟨by omega, by omega⟩) ?_
    refine go_callq PM267 PM151 (Q' := _) rfl rfl rfl rfl (sp_X6_feed_f L xs sio (d + 38) dt7 hI8  ((xs ((i + 1).toNat)).toInt) ⟨by omega, by omega⟩ ((xs ((i + 2).toNat)).toInt) ⟨by omega, by omega⟩ ((xs ((i + 3).toNat)).toInt) ⟨by omega, by omega⟩ ((xs ((i + 4).toNat)).toInt) ⟨by omega, by omega⟩ ((xs ((i + 5).toNat)).toInt) ⟨by omega, by omega⟩ ) ?_
    rintro _ _ ⟨dt59, rfl, hI60, hF61, h58⟩
    refine ⟨rfl, ?_⟩
    have hF62 : Fr [0, 1, 2, 3, 4, 5, 6, 7, 8, 9, 10, 11, 12, 13, 14, 15, 16, 17, 18, 19, 20, 21, 22, 23, 24, 25, 26, 27, 28, 29, 30, 31, 32, 33, 34, 35, 36, 37, 38, 39, 40, 41, 42, 43, 44, 45, 46, 47, 48, 49, 50, 51, 52, 53, 54, 55, 56, 57, 58, 59, 60, 61, 62, 63, 64, 65, 66, 67, 68, 69, 70, 71, 72, 73, 74, 75, 76, 77, 78, 79, 80, 81, 82, 83, 84, 85, 86, 87, 88, 89, 90, 91, 92, 93, 94, 95, 96, 97, 98, 99, 100, 101, 102, 103, 104] dt dt59 := Fr_tr hF10 hF61 (by decide)
    have hM63 : MW (dt59 80) := MW_fr hM11 hF61 (by decide)
    have w64 : dt59 1 0 = dt 1 0 := (hF61 1 (by decide) 0).trans w12
    have w65 : dt59 7 3 = dt 7 3 := (hF61 7 (by decide) 3).trans w13
    have w66 : dt59 10 3 = dt 10 3 := (hF61 10 (by decide) 3).trans w14
    have w67 : dt59 12 3 = dt 12 3 := (hF61 12 (by decide) 3).trans w15
    have w68 : dt59 14 3 = dt 14 3 := (hF61 14 (by decide) 3).trans w16
    have w69 : dt59 16 3 = dt 16 3 := (hF61 16 (by decide) 3).trans w17
    have w70 : dt59 18 0 = dt 18 0 := (hF61 18 (by decide) 0).trans w18
    have w71 : dt59 24 3 = dt 24 3 := (hF61 24 (by decide) 3).trans w19
    have w72 : dt59 27 3 = dt 27 3 := (hF61 27 (by decide) 3).trans w20
    have w73 : dt59 29 3 = dt 29 3 := (hF61 29 (by decide) 3).trans w21
    have w74 : dt59 31 3 = dt 31 3 := (hF61 31 (by decide) 3).trans w22
    have w75 : dt59 33 3 = dt 33 3 := (hF61 33 (by decide) 3).trans w23
    have w76 : dt59 0 2 = dt 0 2 := (hF61 0 (by decide) 2).trans w24
    have w77 : dt59 35 1 = dt 35 1 := (hF61 35 (by decide) 1).trans w41
    have w78 : dt59 35 2 = dt 35 2 := (hF61 35 (by decide) 2).trans w42
    have w79 : dt59 35 3 = dt 35 3 := (hF61 35 (by decide) 3).trans w43
    have w80 : dt59 80 0 = dt 80 0 := (hF61 80 (by decide) 0).trans w25
    have w81 : dt59 80 1 = dt 80 1 := (hF61 80 (by decide) 1).trans w26
    have w82 : dt59 80 2 = dt 80 2 := (hF61 80 (by decide) 2).trans w27
    have w83 : dt59 80 3 = dt 80 3 := (hF61 80 (by decide) 3).trans w28
    have w84 : dt59 80 4 = dt 80 4 := (hF61 80 (by decide) 4).trans w29
    have w85 : dt59 80 5 = dt 80 5 := (hF61 80 (by decide) 5).trans w30
    have w86 : dt59 81 0 = dt 81 0 := (hF61 81 (by decide) 0).trans w31
    have w87 : dt59 81 1 = dt 81 1 := (hF61 81 (by decide) 1).trans w32
    have w88 : dt59 81 2 = dt 81 2 := (hF61 81 (by decide) 2).trans w33
    have w89 : dt59 81 3 = dt 81 3 := (hF61 81 (by decide) 3).trans w34
    have w90 : dt59 81 4 = dt 81 4 := (hF61 81 (by decide) 4).trans w35
    have w91 : dt59 81 5 = dt 81 5 := (hF61 81 (by decide) 5).trans w36
    rcases h58 with ⟨rfl, h58⟩ | ⟨v_h58, rfl, h58r, h58⟩
    · skip
      obtain ⟨h58_0, h58_1, h58_2, h58_3, h58_4, h58_5⟩ := h58
      have w92 : dt59 79 12 = dt 79 12 := h58_1.trans w38
      have w93 : dt59 79 2 = dt 79 2 := h58_3.trans w37
      have w94 : dt59 79 19 = dt 79 19 := h58_4.trans w39
      have w95 : dt59 79 21 = dt 79 21 := h58_5.trans w40
      have M296 : MW (dt59 81) := MW_frk M244 hF61 (by decide)
      have C97 : ∀ j : Nat, dt59 2 j = dt 2 j := fun j => (hF61 2 (by decide) j).trans (C45 j)
      have C98 : ∀ j : Nat, dt59 3 j = dt 3 j := fun j => (hF61 3 (by decide) j).trans (C46 j)
      have C99 : ∀ j : Nat, dt59 19 j = dt 19 j := fun j => (hF61 19 (by decide) j).trans (C47 j)
      have C100 : ∀ j : Nat, dt59 20 j = dt 20 j := fun j => (hF61 20 (by decide) j).trans (C48 j)
      have C101 : ∀ j : Nat, dt59 36 j = dt 36 j := fun j => (hF61 36 (by decide) j).trans (C49 j)
      have C102 : ∀ j : Nat, dt59 80 j = dt 80 j := fun j => (hF61 80 (by decide) j).trans (C50 j)
      have C103 : ∀ j : Nat, dt59 81 j = dt 81 j := fun j => (hF61 81 (by decide) j).trans (C51 j)
      have C104 : ∀ j : Nat, dt59 85 j = dt 85 j := fun j => (h58_2 j).trans (C52 j)
      refine go_toq PM267 (k := 2) (pc' := 1435) (L' := [some (.inr (.inr (some 3000))), some (.inr (.inr (some 0))), some (.inr (.inr (some 79))), some (.inl i)]) (st' := []) (w' := (SH, dt59)) rfl ?_
      exact K dt59 hI60 hM63 M296 (w64.trans (hk0.trans w80.symm)) (w65.trans (hk1.trans w81.symm)) (w66.trans (hk2.trans w82.symm)) (w67.trans (hk3.trans w83.symm)) (w68.trans (hk4.trans w84.symm)) (w69.trans (hk5.trans w85.symm)) (w70.trans (hk6.trans w86.symm)) (w71.trans (hk7.trans w87.symm)) (w72.trans (hk8.trans w88.symm)) (w73.trans (hk9.trans w89.symm)) (w74.trans (hk10.trans w90.symm)) (w75.trans (hk11.trans w91.symm)) (w76.trans (hk12.trans w93.symm)) (w77.trans (hk13.trans w92.symm)) (w78.trans (hk14.trans w94.symm)) (w79.trans (hk15.trans w95.symm)) (by first | exact hI | exact TPL_k hd0 C101 C104 (by omega) | (exfalso; omega)) (by first | exact hI | exact SCL_k hd1 hM (fun j _ => C97 j) (fun j _ => C98 j) (fun j _ _ => C102 j) | (exfalso; omega)) (by first | exact hI | exact SCL_k hd2 hM2 (fun j _ => C99 j) (fun j _ => C100 j) (fun j _ _ => C103 j) | (exfalso; omega))
    · skip
      obtain ⟨h58_0, h58_1, h58_2, h58_3, h58_4, h58_5, h58_6⟩ := h58
      have w105 : dt59 79 2 = dt 79 2 := h58_4.trans w37
      have w106 : dt59 79 19 = dt 79 19 := h58_5.trans w39
      have w107 : dt59 79 21 = dt 79 21 := h58_6.trans w40
      have M2108 : MW (dt59 81) := MW_frk M244 hF61 (by decide)
      have C109 : ∀ j : Nat, dt59 2 j = dt 2 j := fun j => (hF61 2 (by decide) j).trans (C45 j)
      have C110 : ∀ j : Nat, dt59 3 j = dt 3 j := fun j => (hF61 3 (by decide) j).trans (C46 j)
      have C111 : ∀ j : Nat, dt59 19 j = dt 19 j := fun j => (hF61 19 (by decide) j).trans (C47 j)
      have C112 : ∀ j : Nat, dt59 20 j = dt 20 j := fun j => (hF61 20 (by decide) j).trans (C48 j)
      have C113 : ∀ j : Nat, dt59 36 j = dt 36 j := fun j => (hF61 36 (by decide) j).trans (C49 j)
      have C114 : ∀ j : Nat, dt59 80 j = dt 80 j := fun j => (hF61 80 (by decide) j).trans (C50 j)
      have C115 : ∀ j : Nat, dt59 81 j = dt 81 j := fun j => (hF61 81 (by decide) j).trans (C51 j)
      have E116 : TPL (dt7 36) (dt59 85) (dt7 35 1) := by first | exact TPL_f hd0 hI (show FDX (dt 85) (dt59 85) (dt 35 1) (dt7 35 1) _ from by have z_ := h58_3; rw [show dt7 79 12 = dt 35 1 by first | with_reducible assumption | omega, show dt59 79 12 = dt7 35 1 by first | with_reducible assumption | omega, show dt7 85 = dt 85 from funext C52] at z_; exact z_) rfl rfl | (exfalso; omega)
      have E117 : TPL (dt59 36) (dt59 85) (dt59 35 1) := by have z_ := E116; rw [show dt59 36 = dt7 36 from (funext (hF61 36 (by decide))), show dt59 35 1 = dt7 35 1 by first | with_reducible assumption | omega]; exact z_
      refine go_toq PM267 (k := 2) (pc' := 1435) (L' := [some (.inr (.inr (some 3000))), some (.inr (.inr (some 0))), some (.inr (.inr (some 79))), some (.inl i)]) (st' := []) (w' := (SH, dt59)) rfl ?_
      exact K dt59 hI60 hM63 M2108 (w64.trans (hk0.trans w80.symm)) (w65.trans (hk1.trans w81.symm)) (w66.trans (hk2.trans w82.symm)) (w67.trans (hk3.trans w83.symm)) (w68.trans (hk4.trans w84.symm)) (w69.trans (hk5.trans w85.symm)) (w70.trans (hk6.trans w86.symm)) (w71.trans (hk7.trans w87.symm)) (w72.trans (hk8.trans w88.symm)) (w73.trans (hk9.trans w89.symm)) (w74.trans (hk10.trans w90.symm)) (w75.trans (hk11.trans w91.symm)) (w76.trans (hk12.trans w105.symm)) (by omega) (w78.trans (hk14.trans w106.symm)) (w79.trans (hk15.trans w107.symm)) (by first | exact E117 | exact TPL_k hd0 C113 hI (by omega) | (exfalso; omega)) (by first | exact hI | exact SCL_k hd1 hM (fun j _ => C109 j) (fun j _ => C110 j) (fun j _ _ => C114 j) | (exfalso; omega)) (by first | exact hI | exact SCL_k hd2 hM2 (fun j _ => C111 j) (fun j _ => C112 j) (fun j _ _ => C115 j) | (exfalso; omega))
  · skip
    obtain ⟨h6_0, h6_1, h6_2, h6_3, h6_4, h6_5⟩ := h6
    have w118 : dt7 35 2 = dt 35 2 := h6_4
    have w119 : dt7 35 3 = dt 35 3 := h6_5
    have M2120 : MW (dt7 81) := MW_frk hM2 hF9 (by decide)
    have C121 : ∀ j : Nat, dt7 2 j = dt 2 j := fun j => (hF9 2 (by decide) j).trans ((fun _ => rfl) j)
    have C122 : ∀ j : Nat, dt7 3 j = dt 3 j := fun j => (hF9 3 (by decide) j).trans ((fun _ => rfl) j)
    have C123 : ∀ j : Nat, dt7 19 j = dt 19 j := fun j => (hF9 19 (by decide) j).trans ((fun _ => rfl) j)
    have C124 : ∀ j : Nat, dt7 20 j = dt 20 j := fun j => (hF9 20 (by decide) j).trans ((fun _ => rfl) j)
    have C125 : ∀ j : Nat, dt7 80 j = dt 80 j := fun j => (hF9 80 (by decide) j).trans ((fun _ => rfl) j)
    have C126 : ∀ j : Nat, dt7 81 j = dt 81 j := fun j => (hF9 81 (by decide) j).trans ((fun _ => rfl) j)
    have C127 : ∀ j : Nat, dt7 85 j = dt 85 j := fun j => (hF9 85 (by decide) j).trans ((fun _ => rfl) j)
    refine go_toq PM267 (k := 6) (pc' := 238) (L' := [some (.inr (.inr (some 3000))), some (.inr (.inr (some 0))), some (.inr (.inr (some 79))), some (.inl i)]) (st' := [.inl (i + 1), .inr (.inr (some 3000)), .inr (.inr (some 79))]) (w' := (SH, dt7)) rfl ?_
    have r128 := i32_R (xs ((i + 1).toNat))
    refine go_smpq PM267 (L' := [some (.inr (.inr (some 3000))), some (.inr (.inr (some 0))), some (.inr (.inr (some 79))), some (.inl i)]) (st' := [.inl ((xs ((i + 1).toNat)).toInt), .inr (.inr (some 79))]) (w' := (SH, dt7)) rfl rfl (s_iald (n := L) (f := fun j => (xs j).toInt) (am_scr hLL) ⟨by omega, by omega⟩) ?_
    refine go_toq PM267 (k := 4) (pc' := 243) (L' := [some (.inr (.inr (some 3000))), some (.inr (.inr (some 0))), some (.inr (.inr (some 79))), some (.inl i)]) (st' := [.inl (i + 2), .inr (.inr (some 3000)), .inl ((xs ((i + 1).toNat)).toInt), .inr (.inr (some 79))]) (w' := (SH, dt7)) rfl ?_
    have r129 := i32_R (xs ((i + 2).toNat))
    refine go_smpq PM267 (L' := [some (.inr (.inr (some 3000))), some (.inr (.inr (some 0))), some (.inr (.inr (some 79))), some (.inl i)]) (st' := [.inl ((xs ((i + 2).toNat)).toInt), .inl ((xs ((i + 1).toNat)).toInt), .inr (.inr (some 79))]) (w' := (SH, dt7)) rfl rfl (s_iald (n := L) (f := fun j => (xs j).toInt) (am_scr hLL) ⟨by omega, by omega⟩) ?_
    refine go_toq PM267 (k := 4) (pc' := 248) (L' := [some (.inr (.inr (some 3000))), some (.inr (.inr (some 0))), some (.inr (.inr (some 79))), some (.inl i)]) (st' := [.inl (i + 3), .inr (.inr (some 3000)), .inl ((xs ((i + 2).toNat)).toInt), .inl ((xs ((i + 1).toNat)).toInt), .inr (.inr (some 79))]) (w' := (SH, dt7)) rfl ?_
    have r130 := i32_R (xs ((i + 3).toNat))
    refine go_smpq PM267 (L' := [some (.inr (.inr (some 3000))), some (.inr (.inr (some 0))), some (.inr (.inr (some 79))), some (.inl i)]) (st' := [.inl ((xs ((i + 3).toNat)).toInt), .inl ((xs ((i + 2).toNat)).toInt), .inl ((xs ((i + 1).toNat)).toInt), .inr (.inr (some 79))]) (w' := (SH, dt7)) rfl rfl (s_iald (n := L) (f := fun j => (xs j).toInt) (am_scr hLL) ⟨by omega, by omega⟩) ?_
    refine go_toq PM267 (k := 4) (pc' := 253) (L' := [some (.inr (.inr (some 3000))), some (.inr (.inr (some 0))), some (.inr (.inr (some 79))), some (.inl i)]) (st' := [.inl (i + 4), .inr (.inr (some 3000)), .inl ((xs ((i + 3).toNat)).toInt), .inl ((xs ((i + 2).toNat)).toInt), .inl ((xs ((i + 1).toNat)).toInt), .inr (.inr (some 79))]) (w' := (SH, dt7)) rfl ?_
    have r131 := i32_R (xs ((i + 4).toNat))
    refine go_smpq PM267 (L' := [some (.inr (.inr (some 3000))), some (.inr (.inr (some 0))), some (.inr (.inr (some 79))), some (.inl i)]) (st' := [.inl ((xs ((i + 4).toNat)).toInt), .inl ((xs ((i + 3).toNat)).toInt), .inl ((xs ((i + 2).toNat)).toInt), .inl ((xs ((i + 1).toNat)).toInt), .inr (.inr (some 79))]) (w' := (SH, dt7)) rfl rfl (s_iald (n := L) (f := fun j => (xs j).toInt) (am_scr hLL) ⟨by omega, by omega⟩) ?_
    refine go_toq PM267 (k := 4) (pc' := 258) (L' := [some (.inr (.inr (some 3000))), some (.inr (.inr (some 0))), some (.inr (.inr (some 79))), some (.inl i)]) (st' := [.inl (i + 5), .inr (.inr (some 3000)), .inl ((xs ((i + 4).toNat)).toInt), .inl ((xs ((i + 3).toNat)).toInt), .inl ((xs ((i + 2).toNat)).toInt), .inl ((xs ((i + 1).toNat)).toInt), .inr (.inr (some 79))]) (w' := (SH, dt7)) rfl ?_
    have r132 := i32_R (xs ((i + 5).toNat))
    refine go_smpq PM267 (L' := [some (.inr (.inr (some 3000))), some (.inr (.inr (some 0))), some (.inr (.inr (some 79))), some (.inl i)]) (st' := [.inl ((xs ((i + 5).toNat)).toInt), .inl ((xs ((i + 4).toNat)).toInt), .inl ((xs ((i + 3).toNat)).toInt), .inl ((xs ((i + 2).toNat)).toInt), .inl ((xs ((i + 1).toNat)).toInt), .inr (.inr (some 79))]) (w' := (SH, dt7)) rfl rfl (s_iald (n := L) (f := fun j => (xs j).toInt) (am_scr hLL) ⟨by omega, by omega⟩) ?_
    refine go_callq PM267 PM151 (Q' := _) rfl rfl rfl rfl (sp_X6_feed_f L xs sio (d + 38) dt7 hI8  ((xs ((i + 1).toNat)).toInt) ⟨by omega, by omega⟩ ((xs ((i + 2).toNat)).toInt) ⟨by omega, by omega⟩ ((xs ((i + 3).toNat)).toInt) ⟨by omega, by omega⟩ ((xs ((i + 4).toNat)).toInt) ⟨by omega, by omega⟩ ((xs ((i + 5).toNat)).toInt) ⟨by omega, by omega⟩ ) ?_
    rintro _ _ ⟨dt134, rfl, hI135, hF136, h133⟩
    refine ⟨rfl, ?_⟩
    have hF137 : Fr [0, 1, 2, 3, 4, 5, 6, 7, 8, 9, 10, 11, 12, 13, 14, 15, 16, 17, 18, 19, 20, 21, 22, 23, 24, 25, 26, 27, 28, 29, 30, 31, 32, 33, 34, 35, 36, 37, 38, 39, 40, 41, 42, 43, 44, 45, 46, 47, 48, 49, 50, 51, 52, 53, 54, 55, 56, 57, 58, 59, 60, 61, 62, 63, 64, 65, 66, 67, 68, 69, 70, 71, 72, 73, 74, 75, 76, 77, 78, 79, 80, 81, 82, 83, 84, 85, 86, 87, 88, 89, 90, 91, 92, 93, 94, 95, 96, 97, 98, 99, 100, 101, 102, 103, 104] dt dt134 := Fr_tr hF10 hF136 (by decide)
    have hM138 : MW (dt134 80) := MW_fr hM11 hF136 (by decide)
    have w139 : dt134 1 0 = dt 1 0 := (hF136 1 (by decide) 0).trans w12
    have w140 : dt134 7 3 = dt 7 3 := (hF136 7 (by decide) 3).trans w13
    have w141 : dt134 10 3 = dt 10 3 := (hF136 10 (by decide) 3).trans w14
    have w142 : dt134 12 3 = dt 12 3 := (hF136 12 (by decide) 3).trans w15
    have w143 : dt134 14 3 = dt 14 3 := (hF136 14 (by decide) 3).trans w16
    have w144 : dt134 16 3 = dt 16 3 := (hF136 16 (by decide) 3).trans w17
    have w145 : dt134 18 0 = dt 18 0 := (hF136 18 (by decide) 0).trans w18
    have w146 : dt134 24 3 = dt 24 3 := (hF136 24 (by decide) 3).trans w19
    have w147 : dt134 27 3 = dt 27 3 := (hF136 27 (by decide) 3).trans w20
    have w148 : dt134 29 3 = dt 29 3 := (hF136 29 (by decide) 3).trans w21
    have w149 : dt134 31 3 = dt 31 3 := (hF136 31 (by decide) 3).trans w22
    have w150 : dt134 33 3 = dt 33 3 := (hF136 33 (by decide) 3).trans w23
    have w151 : dt134 0 2 = dt 0 2 := (hF136 0 (by decide) 2).trans w24
    have w152 : dt134 35 1 = dt7 35 1 := hF136 35 (by decide) 1
    have w153 : dt134 35 2 = dt 35 2 := (hF136 35 (by decide) 2).trans w118
    have w154 : dt134 35 3 = dt 35 3 := (hF136 35 (by decide) 3).trans w119
    have w155 : dt134 80 0 = dt 80 0 := (hF136 80 (by decide) 0).trans w25
    have w156 : dt134 80 1 = dt 80 1 := (hF136 80 (by decide) 1).trans w26
    have w157 : dt134 80 2 = dt 80 2 := (hF136 80 (by decide) 2).trans w27
    have w158 : dt134 80 3 = dt 80 3 := (hF136 80 (by decide) 3).trans w28
    have w159 : dt134 80 4 = dt 80 4 := (hF136 80 (by decide) 4).trans w29
    have w160 : dt134 80 5 = dt 80 5 := (hF136 80 (by decide) 5).trans w30
    have w161 : dt134 81 0 = dt 81 0 := (hF136 81 (by decide) 0).trans w31
    have w162 : dt134 81 1 = dt 81 1 := (hF136 81 (by decide) 1).trans w32
    have w163 : dt134 81 2 = dt 81 2 := (hF136 81 (by decide) 2).trans w33
    have w164 : dt134 81 3 = dt 81 3 := (hF136 81 (by decide) 3).trans w34
    have w165 : dt134 81 4 = dt 81 4 := (hF136 81 (by decide) 4).trans w35
    have w166 : dt134 81 5 = dt 81 5 := (hF136 81 (by decide) 5).trans w36
    rcases h133 with ⟨rfl, h133⟩ | ⟨v_h133, rfl, h133r, h133⟩
    · skip
      obtain ⟨h133_0, h133_1, h133_2, h133_3, h133_4, h133_5⟩ := h133
      have w167 : dt134 79 12 = dt 79 12 := h133_1.trans w38
      have w168 : dt134 79 2 = dt 79 2 := h133_3.trans w37
      have w169 : dt134 79 19 = dt 79 19 := h133_4.trans w39
      have w170 : dt134 79 21 = dt 79 21 := h133_5.trans w40
      have M2171 : MW (dt134 81) := MW_frk M2120 hF136 (by decide)
      have C172 : ∀ j : Nat, dt134 2 j = dt 2 j := fun j => (hF136 2 (by decide) j).trans (C121 j)
      have C173 : ∀ j : Nat, dt134 3 j = dt 3 j := fun j => (hF136 3 (by decide) j).trans (C122 j)
      have C174 : ∀ j : Nat, dt134 19 j = dt 19 j := fun j => (hF136 19 (by decide) j).trans (C123 j)
      have C175 : ∀ j : Nat, dt134 20 j = dt 20 j := fun j => (hF136 20 (by decide) j).trans (C124 j)
      have C176 : ∀ j : Nat, dt134 80 j = dt 80 j := fun j => (hF136 80 (by decide) j).trans (C125 j)
      have C177 : ∀ j : Nat, dt134 81 j = dt 81 j := fun j => (hF136 81 (by decide) j).trans (C126 j)
      have C178 : ∀ j : Nat, dt134 85 j = dt 85 j := fun j => (h133_2 j).trans (C127 j)
      refine go_toq PM267 (k := 2) (pc' := 1435) (L' := [some (.inr (.inr (some 3000))), some (.inr (.inr (some 0))), some (.inr (.inr (some 79))), some (.inl i)]) (st' := []) (w' := (SH, dt134)) rfl ?_
      exact K dt134 hI135 hM138 M2171 (w139.trans (hk0.trans w155.symm)) (w140.trans (hk1.trans w156.symm)) (w141.trans (hk2.trans w157.symm)) (w142.trans (hk3.trans w158.symm)) (w143.trans (hk4.trans w159.symm)) (w144.trans (hk5.trans w160.symm)) (w145.trans (hk6.trans w161.symm)) (w146.trans (hk7.trans w162.symm)) (w147.trans (hk8.trans w163.symm)) (w148.trans (hk9.trans w164.symm)) (w149.trans (hk10.trans w165.symm)) (w150.trans (hk11.trans w166.symm)) (w151.trans (hk12.trans w168.symm)) (by omega) (w153.trans (hk14.trans w169.symm)) (w154.trans (hk15.trans w170.symm)) (by first | exact hI | exact TPL_k hd0 hI C178 (by omega) | (exfalso; omega)) (by first | exact hI | exact SCL_k hd1 hM (fun j _ => C172 j) (fun j _ => C173 j) (fun j _ _ => C176 j) | (exfalso; omega)) (by first | exact hI | exact SCL_k hd2 hM2 (fun j _ => C174 j) (fun j _ => C175 j) (fun j _ _ => C177 j) | (exfalso; omega))
    · skip
      obtain ⟨h133_0, h133_1, h133_2, h133_3, h133_4, h133_5, h133_6⟩ := h133
      have w179 : dt134 79 2 = dt 79 2 := h133_4.trans w37
      have w180 : dt134 79 19 = dt 79 19 := h133_5.trans w39
      have w181 : dt134 79 21 = dt 79 21 := h133_6.trans w40
      have M2182 : MW (dt134 81) := MW_frk M2120 hF136 (by decide)
      have C183 : ∀ j : Nat, dt134 2 j = dt 2 j := fun j => (hF136 2 (by decide) j).trans (C121 j)
      have C184 : ∀ j : Nat, dt134 3 j = dt 3 j := fun j => (hF136 3 (by decide) j).trans (C122 j)
      have C185 : ∀ j : Nat, dt134 19 j = dt 19 j := fun j => (hF136 19 (by decide) j).trans (C123 j)
      have C186 : ∀ j : Nat, dt134 20 j = dt 20 j := fun j => (hF136 20 (by decide) j).trans (C124 j)
      have C187 : ∀ j : Nat, dt134 80 j = dt 80 j := fun j => (hF136 80 (by decide) j).trans (C125 j)
      have C188 : ∀ j : Nat, dt134 81 j = dt 81 j := fun j => (hF136 81 (by decide) j).trans (C126 j)
      have E189 : TPL (dt7 36) (dt134 85) (dt7 35 1) := by first | exact TPL_f hd0 h6_3 (show FDX (dt 85) (dt134 85) (dt 35 1) (dt7 35 1) _ from by have z_ := h133_3; rw [show dt7 79 12 = dt 35 1 by first | with_reducible assumption | omega, show dt134 79 12 = dt7 35 1 by first | with_reducible assumption | omega, show dt7 85 = dt 85 from funext C127] at z_; exact z_) rfl rfl | (exfalso; omega)
      have E190 : TPL (dt134 36) (dt134 85) (dt134 35 1) := by have z_ := E189; rw [show dt134 36 = dt7 36 from (funext (hF136 36 (by decide))), show dt134 35 1 = dt7 35 1 by first | with_reducible assumption | omega]; exact z_
      refine go_toq PM267 (k := 2) (pc' := 1435) (L' := [some (.inr (.inr (some 3000))), some (.inr (.inr (some 0))), some (.inr (.inr (some 79))), some (.inl i)]) (st' := []) (w' := (SH, dt134)) rfl ?_
      exact K dt134 hI135 hM138 M2182 (w139.trans (hk0.trans w155.symm)) (w140.trans (hk1.trans w156.symm)) (w141.trans (hk2.trans w157.symm)) (w142.trans (hk3.trans w158.symm)) (w143.trans (hk4.trans w159.symm)) (w144.trans (hk5.trans w160.symm)) (w145.trans (hk6.trans w161.symm)) (w146.trans (hk7.trans w162.symm)) (w147.trans (hk8.trans w163.symm)) (w148.trans (hk9.trans w164.symm)) (w149.trans (hk10.trans w165.symm)) (w150.trans (hk11.trans w166.symm)) (w151.trans (hk12.trans w179.symm)) (by omega) (w153.trans (hk14.trans w180.symm)) (w154.trans (hk15.trans w181.symm)) (by first | exact E190 | exact TPL_k hd0 hI hI (by omega) | (exfalso; omega)) (by first | exact hI | exact SCL_k hd1 hM (fun j _ => C183 j) (fun j _ => C184 j) (fun j _ _ => C187 j) | (exfalso; omega)) (by first | exact hI | exact SCL_k hd2 hM2 (fun j _ => C185 j) (fun j _ => C186 j) (fun j _ _ => C188 j) | (exfalso; omega))
set_option maxRecDepth 20000 in
set_option maxHeartbeats 8000000 in
theorem sp_case2 (L : Nat) (xs : Nat → Int32) (sio : Option Nat) (d : Nat) (Q : Option AV → am_W → Prop) (hLL : L ≤ 3072) (i : Int) (hi : 0 ≤ i ∧ i ≤ 3066) (hil : i ≤ (L : Int) - 6) (dt : Nat → Nat → Int) (hI : InvC dt) (hM : MW (dt 80)) (hM2 : MW (dt 81)) (hk0 : dt 1 0 = dt 80 0) (hk1 : dt 7 3 = dt 80 1) (hk2 : dt 10 3 = dt 80 2) (hk3 : dt 12 3 = dt 80 3) (hk4 : dt 14 3 = dt 80 4) (hk5 : dt 16 3 = dt 80 5) (hk6 : dt 18 0 = dt 81 0) (hk7 : dt 24 3 = dt 81 1) (hk8 : dt 27 3 = dt 81 2) (hk9 : dt 29 3 = dt 81 3) (hk10 : dt 31 3 = dt 81 4) (hk11 : dt 33 3 = dt 81 5) (hk12 : dt 0 2 = dt 79 2) (hk13 : dt 35 1 = dt 79 12) (hk14 : dt 35 2 = dt 79 19) (hk15 : dt 35 3 = dt 79 21) (hd0 : TPL (dt 36) (dt 85) (dt 35 1)) (hd1 : SCL (dt 2) (dt 3) (dt 80)) (hd2 : SCL (dt 19) (dt 20) (dt 81)) (K : ∀ (dt : Nat → Nat → Int) (hI : InvC dt) (hM : MW (dt 80)) (hM2 : MW (dt 81)) (hk0 : dt 1 0 = dt 80 0) (hk1 : dt 7 3 = dt 80 1) (hk2 : dt 10 3 = dt 80 2) (hk3 : dt 12 3 = dt 80 3) (hk4 : dt 14 3 = dt 80 4) (hk5 : dt 16 3 = dt 80 5) (hk6 : dt 18 0 = dt 81 0) (hk7 : dt 24 3 = dt 81 1) (hk8 : dt 27 3 = dt 81 2) (hk9 : dt 29 3 = dt 81 3) (hk10 : dt 31 3 = dt 81 4) (hk11 : dt 33 3 = dt 81 5) (hk12 : dt 0 2 = dt 79 2) (hk13 : dt 35 1 = dt 79 12) (hk14 : dt 35 2 = dt 79 19) (hk15 : dt 35 3 = dt 79 21) (hd0 : TPL (dt 36) (dt 85) (dt 35 1)) (hd1 : SCL (dt 2) (dt 3) (dt 80)) (hd2 : SCL (dt 19) (dt 20) (dt 81)), GO (am_XX L xs sio) (d + 39) 267 1435 [some (.inr (.inr (some 3000))), some (.inr (.inr (some 0))), some (.inr (.inr (some 79))), some (.inl i)] [] (SH, dt) Q) : GO (am_XX L xs sio) (d + 39) 267 266 [some (.inr (.inr (some 3000))), some (.inr (.inr (some 0))), some (.inr (.inr (some 79))), some (.inl i)] [] (SH, dt) Q := by
  have hF : Fr [0, 1, 2, 3, 4, 5, 6, 7, 8, 9, 10, 11, 12, 13, 14, 15, 16, 17, 18, 19, 20, 21, 22, 23, 24, 25, 26, 27, 28, 29, 30, 31, 32, 33, 34, 35, 36, 37, 38, 39, 40, 41, 42, 43, 44, 45, 46, 47, 48, 49, 50, 51, 52, 53, 54, 55, 56, 57, 58, 59, 60, 61, 62, 63, 64, 65, 66, 67, 68, 69, 70, 71, 72, 73, 74, 75, 76, 77, 78, 79, 80, 81, 82, 83, 84, 85, 86, 87, 88, 89, 90, 91, 92, 93, 94, 95, 96, 97, 98, 99, 100, 101, 102, 103, 104] dt dt := Fr_refl
  refine go_toq PM267 (k := 5) (pc' := 271) (L' := [some (.inr (.inr (some 3000))), some (.inr (.inr (some 0))), some (.inr (.inr (some 79))), some (.inl i)]) (st' := [.inl (i + 1), .inr (.inr (some 3000)), .inr (.inr (some 0))]) (w' := (SH, dt)) rfl ?_
  have r1 := i32_R (xs ((i + 1).toNat))
  refine go_smpq PM267 (L' := [some (.inr (.inr (some 3000))), some (.inr (.inr (some 0))), some (.inr (.inr (some 79))), some (.inl i)]) (st' := [.inl ((xs ((i + 1).toNat)).toInt), .inr (.inr (some 0))]) (w' := (SH, dt)) rfl rfl (s_iald (n := L) (f := fun j => (xs j).toInt) (am_scr hLL) ⟨by omega, by omega⟩) ?_
  refine go_callq PM267 PM69 (Q' := _) rfl rfl rfl rfl (sp_X5_end_f L xs sio (d + 37) dt hI  ((xs ((i + 1).toNat)).toInt) ⟨by omega, by omega⟩ ) ?_
  rintro _ _ ⟨dt3, rfl, hI4, hF5, h2⟩
  refine ⟨rfl, ?_⟩
  have hF6 : Fr [0, 1, 2, 3, 4, 5, 6, 7, 8, 9, 10, 11, 12, 13, 14, 15, 16, 17, 18, 19, 20, 21, 22, 23, 24, 25, 26, 27, 28, 29, 30, 31, 32, 33, 34, 35, 36, 37, 38, 39, 40, 41, 42, 43, 44, 45, 46, 47, 48, 49, 50, 51, 52, 53, 54, 55, 56, 57, 58, 59, 60, 61, 62, 63, 64, 65, 66, 67, 68, 69, 70, 71, 72, 73, 74, 75, 76, 77, 78, 79, 80, 81, 82, 83, 84, 85, 86, 87, 88, 89, 90, 91, 92, 93, 94, 95, 96, 97, 98, 99, 100, 101, 102, 103, 104] dt dt3 := Fr_tr hF hF5 (by decide)
  have hM7 : MW (dt3 80) := MW_fr hM hF5 (by decide)
  have w8 : dt3 1 0 = dt 1 0 := hF5 1 (by decide) 0
  have w9 : dt3 7 3 = dt 7 3 := hF5 7 (by decide) 3
  have w10 : dt3 10 3 = dt 10 3 := hF5 10 (by decide) 3
  have w11 : dt3 12 3 = dt 12 3 := hF5 12 (by decide) 3
  have w12 : dt3 14 3 = dt 14 3 := hF5 14 (by decide) 3
  have w13 : dt3 16 3 = dt 16 3 := hF5 16 (by decide) 3
  have w14 : dt3 18 0 = dt 18 0 := hF5 18 (by decide) 0
  have w15 : dt3 24 3 = dt 24 3 := hF5 24 (by decide) 3
  have w16 : dt3 27 3 = dt 27 3 := hF5 27 (by decide) 3
  have w17 : dt3 29 3 = dt 29 3 := hF5 29 (by decide) 3
  have w18 : dt3 31 3 = dt 31 3 := hF5 31 (by decide) 3
  have w19 : dt3 33 3 = dt 33 3 := hF5 33 (by decide) 3
  have w20 : dt3 0 2 = dt 0 2 := hF5 0 (by decide) 2
  have w21 : dt3 80 0 = dt 80 0 := hF5 80 (by decide) 0
  have w22 : dt3 80 1 = dt 80 1 := hF5 80 (by decide) 1
  have w23 : dt3 80 2 = dt 80 2 := hF5 80 (by decide) 2
  have w24 : dt3 80 3 = dt 80 3 := hF5 80 (by decide) 3
  have w25 : dt3 80 4 = dt 80 4 := hF5 80 (by decide) 4
  have w26 : dt3 80 5 = dt 80 5 := hF5 80 (by decide) 5
  have w27 : dt3 81 0 = dt 81 0 := hF5 81 (by decide) 0
  have w28 : dt3 81 1 = dt 81 1 := hF5 81 (by decide) 1
  have w29 : dt3 81 2 = dt 81 2 := hF5 81 (by decide) 2
  have w30 : dt3 81 3 = dt 81 3 := hF5 81 (by decide) 3
  have w31 : dt3 81 4 = dt 81 4 := hF5 81 (by decide) 4
  have w32 : dt3 81 5 = dt 81 5 := hF5 81 (by decide) 5
  have w33 : dt3 79 2 = dt 79 2 := hF5 79 (by decide) 2
  have w34 : dt3 79 12 = dt 79 12 := hF5 79 (by decide) 12
  have w35 : dt3 79 19 = dt 79 19 := hF5 79 (by decide) 19
  have w36 : dt3 79 21 = dt 79 21 := hF5 79 (by decide) 21
  rcases h2 with ⟨rfl, h2⟩ | ⟨rfl, h2⟩
  · skip
    obtain ⟨h2_0, h2_1, h2_2, h2_3⟩ := h2
    have w37 : dt3 35 2 = dt 35 2 := h2_2
    have w38 : dt3 35 3 = dt 35 3 := h2_3
    have M239 : MW (dt3 81) := MW_frk hM2 hF5 (by decide)
    have C40 : ∀ j : Nat, dt3 2 j = dt 2 j := fun j => (hF5 2 (by decide) j).trans ((fun _ => rfl) j)
    have C41 : ∀ j : Nat, dt3 3 j = dt 3 j := fun j => (hF5 3 (by decide) j).trans ((fun _ => rfl) j)
    have C42 : ∀ j : Nat, dt3 19 j = dt 19 j := fun j => (hF5 19 (by decide) j).trans ((fun _ => rfl) j)
    have C43 : ∀ j : Nat, dt3 20 j = dt 20 j := fun j => (hF5 20 (by decide) j).trans ((fun _ => rfl) j)
    have C44 : ∀ j : Nat, dt3 36 j = dt 36 j := fun j => (hF5 36 (by decide) j).trans ((fun _ => rfl) j)
    have C45 : ∀ j : Nat, dt3 80 j = dt 80 j := fun j => (hF5 80 (by decide) j).trans ((fun _ => rfl) j)
    have C46 : ∀ j : Nat, dt3 81 j = dt 81 j := fun j => (hF5 81 (by decide) j).trans ((fun _ => rfl) j)
    have C47 : ∀ j : Nat, dt3 85 j = dt 85 j := fun j => (hF5 85 (by decide) j).trans ((fun _ => rfl) j)
    refine go_toq PM267 (k := 6) (pc' := 281) (L' := [some (.inr (.inr (some 3000))), some (.inr (.inr (some 0))), some (.inr (.inr (some 79))), some (.inl i)]) (st' := [.inl (i + 1), .inr (.inr (some 3000)), .inr (.inr (some 79))]) (w' := (SH, dt3)) rfl ?_
    have r48 := i32_R (xs ((i + 1).toNat))
    refine go_smpq PM267 (L' := [some (.inr (.inr (some 3000))), some (.inr (.inr (some 0))), some (.inr (.inr (some 79))), some (.inl i)]) (st' := [.inl ((xs ((i + 1).toNat)).toInt), .inr (.inr (some 79))]) (w' := (SH, dt3)) rfl rfl (s_iald (n := L) (f := fun j => (xs j).toInt) (am_scr hLL) ⟨by omega, by omega⟩) ?_
    refine go_callq PM267 PM152 (Q' := _) rfl rfl rfl rfl (sp_X6_end_f L xs sio (d + 37) dt3 hI4  ((xs ((i + 1).toNat)).toInt) ⟨by omega, by omega⟩ ) ?_
    rintro _ _ ⟨dt50, rfl, hI51, hF52, h49⟩
    refine ⟨rfl, ?_⟩
    have hF53 : Fr [0, 1, 2, 3, 4, 5, 6, 7, 8, 9, 10, 11, 12, 13, 14, 15, 16, 17, 18, 19, 20, 21, 22, 23, 24, 25, 26, 27, 28, 29, 30, 31, 32, 33, 34, 35, 36, 37, 38, 39, 40, 41, 42, 43, 44, 45, 46, 47, 48, 49, 50, 51, 52, 53, 54, 55, 56, 57, 58, 59, 60, 61, 62, 63, 64, 65, 66, 67, 68, 69, 70, 71, 72, 73, 74, 75, 76, 77, 78, 79, 80, 81, 82, 83, 84, 85, 86, 87, 88, 89, 90, 91, 92, 93, 94, 95, 96, 97, 98, 99, 100, 101, 102, 103, 104] dt dt50 := Fr_tr hF6 hF52 (by decide)
    have hM54 : MW (dt50 80) := MW_fr hM7 hF52 (by decide)
    have w55 : dt50 1 0 = dt 1 0 := (hF52 1 (by decide) 0).trans w8
    have w56 : dt50 7 3 = dt 7 3 := (hF52 7 (by decide) 3).trans w9
    have w57 : dt50 10 3 = dt 10 3 := (hF52 10 (by decide) 3).trans w10
    have w58 : dt50 12 3 = dt 12 3 := (hF52 12 (by decide) 3).trans w11
    have w59 : dt50 14 3 = dt 14 3 := (hF52 14 (by decide) 3).trans w12
    have w60 : dt50 16 3 = dt 16 3 := (hF52 16 (by decide) 3).trans w13
    have w61 : dt50 18 0 = dt 18 0 := (hF52 18 (by decide) 0).trans w14
    have w62 : dt50 24 3 = dt 24 3 := (hF52 24 (by decide) 3).trans w15
    have w63 : dt50 27 3 = dt 27 3 := (hF52 27 (by decide) 3).trans w16
    have w64 : dt50 29 3 = dt 29 3 := (hF52 29 (by decide) 3).trans w17
    have w65 : dt50 31 3 = dt 31 3 := (hF52 31 (by decide) 3).trans w18
    have w66 : dt50 33 3 = dt 33 3 := (hF52 33 (by decide) 3).trans w19
    have w67 : dt50 0 2 = dt 0 2 := (hF52 0 (by decide) 2).trans w20
    have w68 : dt50 35 1 = dt3 35 1 := hF52 35 (by decide) 1
    have w69 : dt50 35 2 = dt 35 2 := (hF52 35 (by decide) 2).trans w37
    have w70 : dt50 35 3 = dt 35 3 := (hF52 35 (by decide) 3).trans w38
    have w71 : dt50 80 0 = dt 80 0 := (hF52 80 (by decide) 0).trans w21
    have w72 : dt50 80 1 = dt 80 1 := (hF52 80 (by decide) 1).trans w22
    have w73 : dt50 80 2 = dt 80 2 := (hF52 80 (by decide) 2).trans w23
    have w74 : dt50 80 3 = dt 80 3 := (hF52 80 (by decide) 3).trans w24
    have w75 : dt50 80 4 = dt 80 4 := (hF52 80 (by decide) 4).trans w25
    have w76 : dt50 80 5 = dt 80 5 := (hF52 80 (by decide) 5).trans w26
    have w77 : dt50 81 0 = dt 81 0 := (hF52 81 (by decide) 0).trans w27
    have w78 : dt50 81 1 = dt 81 1 := (hF52 81 (by decide) 1).trans w28
    have w79 : dt50 81 2 = dt 81 2 := (hF52 81 (by decide) 2).trans w29
    have w80 : dt50 81 3 = dt 81 3 := (hF52 81 (by decide) 3).trans w30
    have w81 : dt50 81 4 = dt 81 4 := (hF52 81 (by decide) 4).trans w31
    have w82 : dt50 81 5 = dt 81 5 := (hF52 81 (by decide) 5).trans w32
    rcases h49 with ⟨rfl, h49⟩ | ⟨rfl, h49⟩
    · skip
      obtain ⟨h49_0, h49_1, h49_2, h49_3, h49_4⟩ := h49
      have w83 : dt50 79 2 = dt 79 2 := h49_2.trans w33
      have w84 : dt50 79 19 = dt 79 19 := h49_3.trans w35
      have w85 : dt50 79 21 = dt 79 21 := h49_4.trans w36
      have M286 : MW (dt50 81) := MW_frk M239 hF52 (by decide)
      have C87 : ∀ j : Nat, dt50 2 j = dt 2 j := fun j => (hF52 2 (by decide) j).trans (C40 j)
      have C88 : ∀ j : Nat, dt50 3 j = dt 3 j := fun j => (hF52 3 (by decide) j).trans (C41 j)
      have C89 : ∀ j : Nat, dt50 19 j = dt 19 j := fun j => (hF52 19 (by decide) j).trans (C42 j)
      have C90 : ∀ j : Nat, dt50 20 j = dt 20 j := fun j => (hF52 20 (by decide) j).trans (C43 j)
      have C91 : ∀ j : Nat, dt50 36 j = dt 36 j := fun j => (hF52 36 (by decide) j).trans (C44 j)
      have C92 : ∀ j : Nat, dt50 80 j = dt 80 j := fun j => (hF52 80 (by decide) j).trans (C45 j)
      have C93 : ∀ j : Nat, dt50 81 j = dt 81 j := fun j => (hF52 81 (by decide) j).trans (C46 j)
      have C94 : ∀ j : Nat, dt50 85 j = dt 85 j := fun j => (hF52 85 (by decide) j).trans (C47 j)
      refine go_toq PM267 (k := 2) (pc' := 1435) (L' := [some (.inr (.inr (some 3000))), some (.inr (.inr (some 0))), some (.inr (.inr (some 79))), some (.inl i)]) (st' := []) (w' := (SH, dt50)) rfl ?_
      exact K dt50 hI51 hM54 M286 (w55.trans (hk0.trans w71.symm)) (w56.trans (hk1.trans w72.symm)) (w57.trans (hk2.trans w73.symm)) (w58.trans (hk3.trans w74.symm)) (w59.trans (hk4.trans w75.symm)) (w60.trans (hk5.trans w76.symm)) (w61.trans (hk6.trans w77.symm)) (w62.trans (hk7.trans w78.symm)) (w63.trans (hk8.trans w79.symm)) (w64.trans (hk9.trans w80.symm)) (w65.trans (hk10.trans w81.symm)) (w66.trans (hk11.trans w82.symm)) (w67.trans (hk12.trans w83.symm)) (by omega) (w69.trans (hk14.trans w84.symm)) (w70.trans (hk15.trans w85.symm)) (by first | exact hI | exact TPL_k hd0 C91 C94 (by omega) | (exfalso; omega)) (by first | exact hI | exact SCL_k hd1 hM (fun j _ => C87 j) (fun j _ => C88 j) (fun j _ _ => C92 j) | (exfalso; omega)) (by first | exact hI | exact SCL_k hd2 hM2 (fun j _ => C89 j) (fun j _ => C90 j) (fun j _ _ => C93 j) | (exfalso; omega))
    · skip
      obtain ⟨h49_0, h49_1, h49_2, h49_3, h49_4⟩ := h49
      replace h49_0 := hid h49_0
      have w95 : dt50 79 12 = dt 79 12 := h49_1.trans w34
      have w96 : dt50 79 2 = dt 79 2 := h49_2.trans w33
      have w97 : dt50 79 19 = dt 79 19 := h49_3.trans w35
      have w98 : dt50 79 21 = dt 79 21 := h49_4.trans w36
      have M299 : MW (dt50 81) := MW_frk M239 hF52 (by decide)
      have C100 : ∀ j : Nat, dt50 2 j = dt 2 j := fun j => (hF52 2 (by decide) j).trans (C40 j)
      have C101 : ∀ j : Nat, dt50 3 j = dt 3 j := fun j => (hF52 3 (by decide) j).trans (C41 j)
      have C102 : ∀ j : Nat, dt50 19 j = dt 19 j := fun j => (hF52 19 (by decide) j).trans (C42 j)
      have C103 : ∀ j : Nat, dt50 20 j = dt 20 j := fun j => (hF52 20 (by decide) j).trans (C43 j)
      have C104 : ∀ j : Nat, dt50 36 j = dt 36 j := fun j => (hF52 36 (by decide) j).trans (C44 j)
      have C105 : ∀ j : Nat, dt50 80 j = dt 80 j := fun j => (hF52 80 (by decide) j).trans (C45 j)
      have C106 : ∀ j : Nat, dt50 81 j = dt 81 j := fun j => (hF52 81 (by decide) j).trans (C46 j)
      have C107 : ∀ j : Nat, dt50 85 j = dt 85 j := fun j => (hF52 85 (by decide) j).trans (C47 j)
      refine go_toq PM267 (k := 2) (pc' := 1435) (L' := [some (.inr (.inr (some 3000))), some (.inr (.inr (some 0))), some (.inr (.inr (some 79))), some (.inl i)]) (st' := []) (w' := (SH, dt50)) rfl ?_
      exact K dt50 hI51 hM54 M299 (w55.trans (hk0.trans w71.symm)) (w56.trans (hk1.trans w72.symm)) (w57.trans (hk2.trans w73.symm)) (w58.trans (hk3.trans w74.symm)) (w59.trans (hk4.trans w75.symm)) (w60.trans (hk5.trans w76.symm)) (w61.trans (hk6.trans w77.symm)) (w62.trans (hk7.trans w78.symm)) (w63.trans (hk8.trans w79.symm)) (w64.trans (hk9.trans w80.symm)) (w65.trans (hk10.trans w81.symm)) (w66.trans (hk11.trans w82.symm)) (w67.trans (hk12.trans w96.symm)) (by (first | omega | (have z0_ := unhid h49_0; omega))) (w69.trans (hk14.trans w97.symm)) (w70.trans (hk15.trans w98.symm)) (by first | exact hI | exact TPL_k hd0 C104 C107 (by (first | omega | (have z0_ := unhid h49_0; omega))) | (exfalso; (first | omega | (have z0_ := unhid h49_0; omega)))) (by first | exact hI | exact SCL_k hd1 hM (fun j _ => C100 j) (fun j _ => C101 j) (fun j _ _ => C105 j) | (exfalso; (first | omega | (have z0_ := unhid h49_0; omega)))) (by first | exact hI | exact SCL_k hd2 hM2 (fun j _ => C102 j) (fun j _ => C103 j) (fun j _ _ => C106 j) | (exfalso; (first | omega | (have z0_ := unhid h49_0; omega))))
  · skip
    obtain ⟨h2_0, h2_1, h2_2, h2_3⟩ := h2
    replace h2_0 := hid h2_0
    have w108 : dt3 35 1 = dt 35 1 := h2_1
    have w109 : dt3 35 2 = dt 35 2 := h2_2
    have w110 : dt3 35 3 = dt 35 3 := h2_3
    have M2111 : MW (dt3 81) := MW_frk hM2 hF5 (by decide)
    have C112 : ∀ j : Nat, dt3 2 j = dt 2 j := fun j => (hF5 2 (by decide) j).trans ((fun _ => rfl) j)
    have C113 : ∀ j : Nat, dt3 3 j = dt 3 j := fun j => (hF5 3 (by decide) j).trans ((fun _ => rfl) j)
    have C114 : ∀ j : Nat, dt3 19 j = dt 19 j := fun j => (hF5 19 (by decide) j).trans ((fun _ => rfl) j)
    have C115 : ∀ j : Nat, dt3 20 j = dt 20 j := fun j => (hF5 20 (by decide) j).trans ((fun _ => rfl) j)
    have C116 : ∀ j : Nat, dt3 36 j = dt 36 j := fun j => (hF5 36 (by decide) j).trans ((fun _ => rfl) j)
    have C117 : ∀ j : Nat, dt3 80 j = dt 80 j := fun j => (hF5 80 (by decide) j).trans ((fun _ => rfl) j)
    have C118 : ∀ j : Nat, dt3 81 j = dt 81 j := fun j => (hF5 81 (by decide) j).trans ((fun _ => rfl) j)
    have C119 : ∀ j : Nat, dt3 85 j = dt 85 j := fun j => (hF5 85 (by decide) j).trans ((fun _ => rfl) j)
    refine go_toq PM267 (k := 6) (pc' := 281) (L' := [some (.inr (.inr (some 3000))), some (.inr (.inr (some 0))), some (.inr (.inr (some 79))), some (.inl i)]) (st' := [.inl (i + 1), .inr (.inr (some 3000)), .inr (.inr (some 79))]) (w' := (SH, dt3)) rfl ?_
    have r120 := i32_R (xs ((i + 1).toNat))
    refine go_smpq PM267 (L' := [some (.inr (.inr (some 3000))), some (.inr (.inr (some 0))), some (.inr (.inr (some 79))), some (.inl i)]) (st' := [.inl ((xs ((i + 1).toNat)).toInt), .inr (.inr (some 79))]) (w' := (SH, dt3)) rfl rfl (s_iald (n := L) (f := fun j => (xs j).toInt) (am_scr hLL) ⟨by (first | omega | (have z0_ := unhid h2_0; omega)), by (first | omega | (have z0_ := unhid h2_0; omega))⟩) ?_
    refine go_callq PM267 PM152 (Q' := _) rfl rfl rfl rfl (sp_X6_end_f L xs sio (d + 37) dt3 hI4  ((xs ((i + 1).toNat)).toInt) ⟨by (first | omega | (have z0_ := unhid h2_0; omega)), by (first | omega | (have z0_ := unhid h2_0; omega))⟩ ) ?_
    rintro _ _ ⟨dt122, rfl, hI123, hF124, h121⟩
    refine ⟨rfl, ?_⟩
    have hF125 : Fr [0, 1, 2, 3, 4, 5, 6, 7, 8, 9, 10, 11, 12, 13, 14, 15, 16, 17, 18, 19, 20, 21, 22, 23, 24, 25, 26, 27, 28, 29, 30, 31, 32, 33, 34, 35, 36, 37, 38, 39, 40, 41, 42, 43, 44, 45, 46, 47, 48, 49, 50, 51, 52, 53, 54, 55, 56, 57, 58, 59, 60, 61, 62, 63, 64, 65, 66, 67, 68, 69, 70, 71, 72, 73, 74, 75, 76, 77, 78, 79, 80, 81, 82, 83, 84, 85, 86, 87, 88, 89, 90, 91, 92, 93, 94, 95, 96, 97, 98, 99, 100, 101, 102, 103, 104] dt dt122 := Fr_tr hF6 hF124 (by decide)
    have hM126 : MW (dt122 80) := MW_fr hM7 hF124 (by decide)
    have w127 : dt122 1 0 = dt 1 0 := (hF124 1 (by decide) 0).trans w8
    have w128 : dt122 7 3 = dt 7 3 := (hF124 7 (by decide) 3).trans w9
    have w129 : dt122 10 3 = dt 10 3 := (hF124 10 (by decide) 3).trans w10
    have w130 : dt122 12 3 = dt 12 3 := (hF124 12 (by decide) 3).trans w11
    have w131 : dt122 14 3 = dt 14 3 := (hF124 14 (by decide) 3).trans w12
    have w132 : dt122 16 3 = dt 16 3 := (hF124 16 (by decide) 3).trans w13
    have w133 : dt122 18 0 = dt 18 0 := (hF124 18 (by decide) 0).trans w14
    have w134 : dt122 24 3 = dt 24 3 := (hF124 24 (by decide) 3).trans w15
    have w135 : dt122 27 3 = dt 27 3 := (hF124 27 (by decide) 3).trans w16
    have w136 : dt122 29 3 = dt 29 3 := (hF124 29 (by decide) 3).trans w17
    have w137 : dt122 31 3 = dt 31 3 := (hF124 31 (by decide) 3).trans w18
    have w138 : dt122 33 3 = dt 33 3 := (hF124 33 (by decide) 3).trans w19
    have w139 : dt122 0 2 = dt 0 2 := (hF124 0 (by decide) 2).trans w20
    have w140 : dt122 35 1 = dt 35 1 := (hF124 35 (by decide) 1).trans w108
    have w141 : dt122 35 2 = dt 35 2 := (hF124 35 (by decide) 2).trans w109
    have w142 : dt122 35 3 = dt 35 3 := (hF124 35 (by decide) 3).trans w110
    have w143 : dt122 80 0 = dt 80 0 := (hF124 80 (by decide) 0).trans w21
    have w144 : dt122 80 1 = dt 80 1 := (hF124 80 (by decide) 1).trans w22
    have w145 : dt122 80 2 = dt 80 2 := (hF124 80 (by decide) 2).trans w23
    have w146 : dt122 80 3 = dt 80 3 := (hF124 80 (by decide) 3).trans w24
    have w147 : dt122 80 4 = dt 80 4 := (hF124 80 (by decide) 4).trans w25
    have w148 : dt122 80 5 = dt 80 5 := (hF124 80 (by decide) 5).trans w26
    have w149 : dt122 81 0 = dt 81 0 := (hF124 81 (by decide) 0).trans w27
    have w150 : dt122 81 1 = dt 81 1 := (hF124 81 (by decide) 1).trans w28
    have w151 : dt122 81 2 = dt 81 2 := (hF124 81 (by decide) 2).trans w29
    have w152 : dt122 81 3 = dt 81 3 := (hF124 81 (by decide) 3).trans w30
    have w153 : dt122 81 4 = dt 81 4 := (hF124 81 (by decide) 4).trans w31
    have w154 : dt122 81 5 = dt 81 5 := (hF124 81 (by decide) 5).trans w32
    rcases h121 with ⟨rfl, h121⟩ | ⟨rfl, h121⟩
    · skip
      obtain ⟨h121_0, h121_1, h121_2, h121_3, h121_4⟩ := h121
      have w155 : dt122 79 2 = dt 79 2 := h121_2.trans w33
      have w156 : dt122 79 19 = dt 79 19 := h121_3.trans w35
      have w157 : dt122 79 21 = dt 79 21 := h121_4.trans w36
      have M2158 : MW (dt122 81) := MW_frk M2111 hF124 (by decide)
      have C159 : ∀ j : Nat, dt122 2 j = dt 2 j := fun j => (hF124 2 (by decide) j).trans (C112 j)
      have C160 : ∀ j : Nat, dt122 3 j = dt 3 j := fun j => (hF124 3 (by decide) j).trans (C113 j)
      have C161 : ∀ j : Nat, dt122 19 j = dt 19 j := fun j => (hF124 19 (by decide) j).trans (C114 j)
      have C162 : ∀ j : Nat, dt122 20 j = dt 20 j := fun j => (hF124 20 (by decide) j).trans (C115 j)
      have C163 : ∀ j : Nat, dt122 36 j = dt 36 j := fun j => (hF124 36 (by decide) j).trans (C116 j)
      have C164 : ∀ j : Nat, dt122 80 j = dt 80 j := fun j => (hF124 80 (by decide) j).trans (C117 j)
      have C165 : ∀ j : Nat, dt122 81 j = dt 81 j := fun j => (hF124 81 (by decide) j).trans (C118 j)
      have C166 : ∀ j : Nat, dt122 85 j = dt 85 j := fun j => (hF124 85 (by decide) j).trans (C119 j)
      refine go_toq PM267 (k := 2) (pc' := 1435) (L' := [some (.inr (.inr (some 3000))), some (.inr (.inr (some 0))), some (.inr (.inr (some 79))), some (.inl i)]) (st' := []) (w' := (SH, dt122)) rfl ?_
      exact K dt122 hI123 hM126 M2158 (w127.trans (hk0.trans w143.symm)) (w128.trans (hk1.trans w144.symm)) (w129.trans (hk2.trans w145.symm)) (w130.trans (hk3.trans w146.symm)) (w131.trans (hk4.trans w147.symm)) (w132.trans (hk5.trans w148.symm)) (w133.trans (hk6.trans w149.symm)) (w134.trans (hk7.trans w150.symm)) (w135.trans (hk8.trans w151.symm)) (w136.trans (hk9.trans w152.symm)) (w137.trans (hk10.trans w153.symm)) (w138.trans (hk11.trans w154.symm)) (w139.trans (hk12.trans w155.symm)) (by (first | omega | (have z0_ := unhid h2_0; omega))) (w141.trans (hk14.trans w156.symm)) (w142.trans (hk15.trans w157.symm)) (by first | exact hI | exact TPL_k hd0 C163 C166 (by (first | omega | (have z0_ := unhid h2_0; omega))) | (exfalso; (first | omega | (have z0_ := unhid h2_0; omega)))) (by first | exact hI | exact SCL_k hd1 hM (fun j _ => C159 j) (fun j _ => C160 j) (fun j _ _ => C164 j) | (exfalso; (first | omega | (have z0_ := unhid h2_0; omega)))) (by first | exact hI | exact SCL_k hd2 hM2 (fun j _ => C161 j) (fun j _ => C162 j) (fun j _ _ => C165 j) | (exfalso; (first | omega | (have z0_ := unhid h2_0; omega))))
    · skip
      obtain ⟨h121_0, h121_1, h121_2, h121_3, h121_4⟩ := h121
      replace h121_0 := hid h121_0
      have w167 : dt122 79 12 = dt 79 12 := h121_1.trans w34
      have w168 : dt122 79 2 = dt 79 2 := h121_2.trans w33
      have w169 : dt122 79 19 = dt 79 19 := h121_3.trans w35
      have w170 : dt122 79 21 = dt 79 21 := h121_4.trans w36
      have M2171 : MW (dt122 81) := MW_frk M2111 hF124 (by decide)
      have C172 : ∀ j : Nat, dt122 2 j = dt 2 j := fun j => (hF124 2 (by decide) j).trans (C112 j)
      have C173 : ∀ j : Nat, dt122 3 j = dt 3 j := fun j => (hF124 3 (by decide) j).trans (C113 j)
      have C174 : ∀ j : Nat, dt122 19 j = dt 19 j := fun j => (hF124 19 (by decide) j).trans (C114 j)
      have C175 : ∀ j : Nat, dt122 20 j = dt 20 j := fun j => (hF124 20 (by decide) j).trans (C115 j)
      have C176 : ∀ j : Nat, dt122 36 j = dt 36 j := fun j => (hF124 36 (by decide) j).trans (C116 j)
      have C177 : ∀ j : Nat, dt122 80 j = dt 80 j := fun j => (hF124 80 (by decide) j).trans (C117 j)
      have C178 : ∀ j : Nat, dt122 81 j = dt 81 j := fun j => (hF124 81 (by decide) j).trans (C118 j)
      have C179 : ∀ j : Nat, dt122 85 j = dt 85 j := fun j => (hF124 85 (by decide) j).trans (C119 j)
      refine go_toq PM267 (k := 2) (pc' := 1435) (L' := [some (.inr (.inr (some 3000))), some (.inr (.inr (some 0))), some (.inr (.inr (some 79))), some (.inl i)]) (st' := []) (w' := (SH, dt122)) rfl ?_
      exact K dt122 hI123 hM126 M2171 (w127.trans (hk0.trans w143.symm)) (w128.trans (hk1.trans w144.symm)) (w129.trans (hk2.trans w145.symm)) (w130.trans (hk3.trans w146.symm)) (w131.trans (hk4.trans w147.symm)) (w132.trans (hk5.trans w148.symm)) (w133.trans (hk6.trans w149.symm)) (w134.trans (hk7.trans w150.symm)) (w135.trans (hk8.trans w151.symm)) (w136.trans (hk9.trans w152.symm)) (w137.trans (hk10.trans w153.symm)) (w138.trans (hk11.trans w154.symm)) (w139.trans (hk12.trans w168.symm)) (w140.trans (hk13.trans w167.symm)) (w141.trans (hk14.trans w169.symm)) (w142.trans (hk15.trans w170.symm)) (by first | exact hI | exact TPL_k hd0 C176 C179 (by (first | omega | (have z0_ := unhid h2_0; have z1_ := unhid h121_0; omega))) | (exfalso; (first | omega | (have z0_ := unhid h2_0; have z1_ := unhid h121_0; omega)))) (by first | exact hI | exact SCL_k hd1 hM (fun j _ => C172 j) (fun j _ => C173 j) (fun j _ _ => C177 j) | (exfalso; (first | omega | (have z0_ := unhid h2_0; have z1_ := unhid h121_0; omega)))) (by first | exact hI | exact SCL_k hd2 hM2 (fun j _ => C174 j) (fun j _ => C175 j) (fun j _ _ => C178 j) | (exfalso; (first | omega | (have z0_ := unhid h2_0; have z1_ := unhid h121_0; omega))))
set_option maxRecDepth 20000 in
set_option maxHeartbeats 8000000 in
theorem sp_case3 (L : Nat) (xs : Nat → Int32) (sio : Option Nat) (d : Nat) (Q : Option AV → am_W → Prop) (hLL : L ≤ 3072) (i : Int) (hi : 0 ≤ i ∧ i ≤ 3066) (hil : i ≤ (L : Int) - 6) (dt : Nat → Nat → Int) (hI : InvC dt) (hM : MW (dt 80)) (hM2 : MW (dt 81)) (hk0 : dt 1 0 = dt 80 0) (hk1 : dt 7 3 = dt 80 1) (hk2 : dt 10 3 = dt 80 2) (hk3 : dt 12 3 = dt 80 3) (hk4 : dt 14 3 = dt 80 4) (hk5 : dt 16 3 = dt 80 5) (hk6 : dt 18 0 = dt 81 0) (hk7 : dt 24 3 = dt 81 1) (hk8 : dt 27 3 = dt 81 2) (hk9 : dt 29 3 = dt 81 3) (hk10 : dt 31 3 = dt 81 4) (hk11 : dt 33 3 = dt 81 5) (hk12 : dt 0 2 = dt 79 2) (hk13 : dt 35 1 = dt 79 12) (hk14 : dt 35 2 = dt 79 19) (hk15 : dt 35 3 = dt 79 21) (hd0 : TPL (dt 36) (dt 85) (dt 35 1)) (hd1 : SCL (dt 2) (dt 3) (dt 80)) (hd2 : SCL (dt 19) (dt 20) (dt 81)) (K : ∀ (dt : Nat → Nat → Int) (hI : InvC dt) (hM : MW (dt 80)) (hM2 : MW (dt 81)) (hk0 : dt 1 0 = dt 80 0) (hk1 : dt 7 3 = dt 80 1) (hk2 : dt 10 3 = dt 80 2) (hk3 : dt 12 3 = dt 80 3) (hk4 : dt 14 3 = dt 80 4) (hk5 : dt 16 3 = dt 80 5) (hk6 : dt 18 0 = dt 81 0) (hk7 : dt 24 3 = dt 81 1) (hk8 : dt 27 3 = dt 81 2) (hk9 : dt 29 3 = dt 81 3) (hk10 : dt 31 3 = dt 81 4) (hk11 : dt 33 3 = dt 81 5) (hk12 : dt 0 2 = dt 79 2) (hk13 : dt 35 1 = dt 79 12) (hk14 : dt 35 2 = dt 79 19) (hk15 : dt 35 3 = dt 79 21) (hd0 : TPL (dt 36) (dt 85) (dt 35 1)) (hd1 : SCL (dt 2) (dt 3) (dt 80)) (hd2 : SCL (dt 19) (dt 20) (dt 81)), GO (am_XX L xs sio) (d + 39) 267 1435 [some (.inr (.inr (some 3000))), some (.inr (.inr (some 0))), some (.inr (.inr (some 79))), some (.inl i)] [] (SH, dt) Q) : GO (am_XX L xs sio) (d + 39) 267 289 [some (.inr (.inr (some 3000))), some (.inr (.inr (some 0))), some (.inr (.inr (some 79))), some (.inl i)] [] (SH, dt) Q := by
  have hF : Fr [0, 1, 2, 3, 4, 5, 6, 7, 8, 9, 10, 11, 12, 13, 14, 15, 16, 17, 18, 19, 20, 21, 22, 23, 24, 25, 26, 27, 28, 29, 30, 31, 32, 33, 34, 35, 36, 37, 38, 39, 40, 41, 42, 43, 44, 45, 46, 47, 48, 49, 50, 51, 52, 53, 54, 55, 56, 57, 58, 59, 60, 61, 62, 63, 64, 65, 66, 67, 68, 69, 70, 71, 72, 73, 74, 75, 76, 77, 78, 79, 80, 81, 82, 83, 84, 85, 86, 87, 88, 89, 90, 91, 92, 93, 94, 95, 96, 97, 98, 99, 100, 101, 102, 103, 104] dt dt := Fr_refl
  have r1 : (-2147483648) ≤ dt 1 0 ∧ dt 1 0 ≤ 2147483647 := InvC_get hI 1 0 rfl rfl
  have r2 : 0 ≤ dt 7 3 ∧ dt 7 3 ≤ 12 := InvC_get hI 7 3 rfl rfl
  have r3 : 0 ≤ dt 10 3 ∧ dt 10 3 ≤ 40 := InvC_get hI 10 3 rfl rfl
  have r4 : 0 ≤ dt 12 3 ∧ dt 12 3 ≤ 300 := InvC_get hI 12 3 rfl rfl
  have r5 : 0 ≤ dt 14 3 ∧ dt 14 3 ≤ 40 := InvC_get hI 14 3 rfl rfl
  have r6 : 0 ≤ dt 16 3 ∧ dt 16 3 ≤ 20 := InvC_get hI 16 3 rfl rfl
  have r7 : (-2147483648) ≤ dt 18 0 ∧ dt 18 0 ≤ 2147483647 := InvC_get hI 18 0 rfl rfl
  have r8 : 0 ≤ dt 24 3 ∧ dt 24 3 ≤ 12 := InvC_get hI 24 3 rfl rfl
  have r9 : 0 ≤ dt 27 3 ∧ dt 27 3 ≤ 40 := InvC_get hI 27 3 rfl rfl
  have r10 : 0 ≤ dt 29 3 ∧ dt 29 3 ≤ 300 := InvC_get hI 29 3 rfl rfl
  have r11 : 0 ≤ dt 31 3 ∧ dt 31 3 ≤ 40 := InvC_get hI 31 3 rfl rfl
  have r12 : 0 ≤ dt 33 3 ∧ dt 33 3 ≤ 20 := InvC_get hI 33 3 rfl rfl
  have r13 : 0 ≤ dt 0 2 ∧ dt 0 2 ≤ 1 := InvC_get hI 0 2 rfl rfl
  have r14 : 0 ≤ dt 35 1 ∧ dt 35 1 ≤ 500 := InvC_get hI 35 1 rfl rfl
  have r15 : (-2147483648) ≤ dt 35 2 ∧ dt 35 2 ≤ 2147483647 := InvC_get hI 35 2 rfl rfl
  have r16 : (-2147483648) ≤ dt 35 3 ∧ dt 35 3 ≤ 2147483647 := InvC_get hI 35 3 rfl rfl
  have r17 : (-2147483648) ≤ dt 80 0 ∧ dt 80 0 ≤ 2147483647 := InvC_get hI 80 0 rfl rfl
  have r18 : (-2147483648) ≤ dt 80 1 ∧ dt 80 1 ≤ 2147483647 := InvC_get hI 80 1 rfl rfl
  have r19 := MW_n hM
  have r20 : (-2147483648) ≤ dt 80 2 ∧ dt 80 2 ≤ 2147483647 := InvC_get hI 80 2 rfl rfl
  have r21 : (-2147483648) ≤ dt 80 3 ∧ dt 80 3 ≤ 2147483647 := InvC_get hI 80 3 rfl rfl
  have r22 : (-2147483648) ≤ dt 80 4 ∧ dt 80 4 ≤ 2147483647 := InvC_get hI 80 4 rfl rfl
  have r23 : (-2147483648) ≤ dt 80 5 ∧ dt 80 5 ≤ 2147483647 := InvC_get hI 80 5 rfl rfl
  have r24 : (-2147483648) ≤ dt 81 0 ∧ dt 81 0 ≤ 2147483647 := InvC_get hI 81 0 rfl rfl
  have r25 : (-2147483648) ≤ dt 81 1 ∧ dt 81 1 ≤ 2147483647 := InvC_get hI 81 1 rfl rfl
  have r26 : (-2147483648) ≤ dt 81 2 ∧ dt 81 2 ≤ 2147483647 := InvC_get hI 81 2 rfl rfl
  have r27 : (-2147483648) ≤ dt 81 3 ∧ dt 81 3 ≤ 2147483647 := InvC_get hI 81 3 rfl rfl
  have r28 : (-2147483648) ≤ dt 81 4 ∧ dt 81 4 ≤ 2147483647 := InvC_get hI 81 4 rfl rfl
  have r29 : (-2147483648) ≤ dt 81 5 ∧ dt 81 5 ≤ 2147483647 := InvC_get hI 81 5 rfl rfl
  have r30 : 0 ≤ dt 79 2 ∧ dt 79 2 ≤ 1 := InvC_get hI 79 2 rfl rfl
  have r31 : 0 ≤ dt 79 12 ∧ dt 79 12 ≤ 500 := InvC_get hI 79 12 rfl rfl
  have r32 : (-2147483648) ≤ dt 79 19 ∧ dt 79 19 ≤ 2147483647 := InvC_get hI 79 19 rfl rfl
  have r33 : (-2147483648) ≤ dt 79 21 ∧ dt 79 21 ≤ 2147483647 := InvC_get hI 79 21 rfl rfl
  refine go_toq PM267 (k := 5) (pc' := 294) (L' := [some (.inr (.inr (some 3000))), some (.inr (.inr (some 0))), some (.inr (.inr (some 79))), some (.inl i)]) (st' := [.inl (i + 1), .inr (.inr (some 3000)), .inr (.inr (some 0))]) (w' := (SH, dt)) rfl ?_
  have r34 := i32_R (xs ((i + 1).toNat))
  refine go_smpq PM267 (L' := [some (.inr (.inr (some 3000))), some (.inr (.inr (some 0))), some (.inr (.inr (some 79))), some (.inl i)]) (st' := [.inl ((xs ((i + 1).toNat)).toInt), .inr (.inr (some 0))]) (w' := (SH, dt)) rfl rfl (s_iald (n := L) (f := fun j => (xs j).toInt) (am_scr hLL) ⟨by omega, by omega⟩) ?_
  refine go_toq PM267 (k := 4) (pc' := 299) (L' := [some (.inr (.inr (some 3000))), some (.inr (.inr (some 0))), some (.inr (.inr (some 79))), some (.inl i)]) (st' := [.inl (i + 2), .inr (.inr (some 3000)), .inl ((xs ((i + 1).toNat)).toInt), .inr (.inr (some 0))]) (w' := (SH, dt)) rfl ?_
  have r35 := i32_R (xs ((i + 2).toNat))
  refine go_smpq PM267 (L' := [some (.inr (.inr (some 3000))), some (.inr (.inr (some 0))), some (.inr (.inr (some 79))), some (.inl i)]) (st' := [.inl ((xs ((i + 2).toNat)).toInt), .inl ((xs ((i + 1).toNat)).toInt), .inr (.inr (some 0))]) (w' := (SH, dt)) rfl rfl (s_iald (n := L) (f := fun j => (xs j).toInt) (am_scr hLL) ⟨by omega, by omega⟩) ?_
  refine go_callq PM267 PM70 (Q' := _) rfl rfl rfl rfl (sp_X5_text_f L xs sio (d + 15) dt hI  ((xs ((i + 1).toNat)).toInt) ⟨by omega, by omega⟩ ((xs ((i + 2).toNat)).toInt) ⟨by omega, by omega⟩ ) ?_
  rintro _ _ ⟨dt37, rfl, hI38, hF39, h36⟩
  refine ⟨rfl, ?_⟩
  have hF40 : Fr [0, 1, 2, 3, 4, 5, 6, 7, 8, 9, 10, 11, 12, 13, 14, 15, 16, 17, 18, 19, 20, 21, 22, 23, 24, 25, 26, 27, 28, 29, 30, 31, 32, 33, 34, 35, 36, 37, 38, 39, 40, 41, 42, 43, 44, 45, 46, 47, 48, 49, 50, 51, 52, 53, 54, 55, 56, 57, 58, 59, 60, 61, 62, 63, 64, 65, 66, 67, 68, 69, 70, 71, 72, 73, 74, 75, 76, 77, 78, 79, 80, 81, 82, 83, 84, 85, 86, 87, 88, 89, 90, 91, 92, 93, 94, 95, 96, 97, 98, 99, 100, 101, 102, 103, 104] dt dt37 := Fr_tr hF hF39 (by decide)
  have hM41 : MW (dt37 80) := MW_fr hM hF39 (by decide)
  have w42 : dt37 1 0 = dt 1 0 := hF39 1 (by decide) 0
  have w43 : dt37 7 3 = dt 7 3 := hF39 7 (by decide) 3
  have w44 : dt37 10 3 = dt 10 3 := hF39 10 (by decide) 3
  have w45 : dt37 12 3 = dt 12 3 := hF39 12 (by decide) 3
  have w46 : dt37 14 3 = dt 14 3 := hF39 14 (by decide) 3
  have w47 : dt37 16 3 = dt 16 3 := hF39 16 (by decide) 3
  have w48 : dt37 18 0 = dt 18 0 := hF39 18 (by decide) 0
  have w49 : dt37 24 3 = dt 24 3 := hF39 24 (by decide) 3
  have w50 : dt37 27 3 = dt 27 3 := hF39 27 (by decide) 3
  have w51 : dt37 29 3 = dt 29 3 := hF39 29 (by decide) 3
  have w52 : dt37 31 3 = dt 31 3 := hF39 31 (by decide) 3
  have w53 : dt37 33 3 = dt 33 3 := hF39 33 (by decide) 3
  have w54 : dt37 0 2 = dt 0 2 := hF39 0 (by decide) 2
  have w55 : dt37 80 0 = dt 80 0 := hF39 80 (by decide) 0
  have w56 : dt37 80 1 = dt 80 1 := hF39 80 (by decide) 1
  have w57 : dt37 80 2 = dt 80 2 := hF39 80 (by decide) 2
  have w58 : dt37 80 3 = dt 80 3 := hF39 80 (by decide) 3
  have w59 : dt37 80 4 = dt 80 4 := hF39 80 (by decide) 4
  have w60 : dt37 80 5 = dt 80 5 := hF39 80 (by decide) 5
  have w61 : dt37 81 0 = dt 81 0 := hF39 81 (by decide) 0
  have w62 : dt37 81 1 = dt 81 1 := hF39 81 (by decide) 1
  have w63 : dt37 81 2 = dt 81 2 := hF39 81 (by decide) 2
  have w64 : dt37 81 3 = dt 81 3 := hF39 81 (by decide) 3
  have w65 : dt37 81 4 = dt 81 4 := hF39 81 (by decide) 4
  have w66 : dt37 81 5 = dt 81 5 := hF39 81 (by decide) 5
  have w67 : dt37 79 2 = dt 79 2 := hF39 79 (by decide) 2
  have w68 : dt37 79 12 = dt 79 12 := hF39 79 (by decide) 12
  have w69 : dt37 79 19 = dt 79 19 := hF39 79 (by decide) 19
  have w70 : dt37 79 21 = dt 79 21 := hF39 79 (by decide) 21
  rcases h36 with ⟨v_h36, rfl, h36r, h36⟩
  obtain ⟨h36_0, h36_1, h36_2⟩ := h36
  have M271 : MW (dt37 81) := MW_frk hM2 hF39 (by decide)
  have C72 : ∀ j : Nat, dt37 19 j = dt 19 j := fun j => (hF39 19 (by decide) j).trans ((fun _ => rfl) j)
  have C73 : ∀ j : Nat, dt37 20 j = dt 20 j := fun j => (hF39 20 (by decide) j).trans ((fun _ => rfl) j)
  have C74 : ∀ j : Nat, dt37 36 j = dt 36 j := fun j => (hF39 36 (by decide) j).trans ((fun _ => rfl) j)
  have C75 : ∀ j : Nat, dt37 80 j = dt 80 j := fun j => (hF39 80 (by decide) j).trans ((fun _ => rfl) j)
  have C76 : ∀ j : Nat, dt37 81 j = dt 81 j := fun j => (hF39 81 (by decide) j).trans ((fun _ => rfl) j)
  have C77 : ∀ j : Nat, dt37 85 j = dt 85 j := fun j => (hF39 85 (by decide) j).trans ((fun _ => rfl) j)
  refine go_toq PM267 (k := 6) (pc' := 309) (L' := [some (.inr (.inr (some 3000))), some (.inr (.inr (some 0))), some (.inr (.inr (some 79))), some (.inl i)]) (st' := [.inl (i + 1), .inr (.inr (some 3000)), .inr (.inr (some 79))]) (w' := (SH, dt37)) rfl ?_
  have r78 := i32_R (xs ((i + 1).toNat))
  refine go_smpq PM267 (L' := [some (.inr (.inr (some 3000))), some (.inr (.inr (some 0))), some (.inr (.inr (some 79))), some (.inl i)]) (st' := [.inl ((xs ((i + 1).toNat)).toInt), .inr (.inr (some 79))]) (w' := (SH, dt37)) rfl rfl (s_iald (n := L) (f := fun j => (xs j).toInt) (am_scr hLL) ⟨by omega, by omega⟩) ?_
  refine go_toq PM267 (k := 4) (pc' := 314) (L' := [some (.inr (.inr (some 3000))), some (.inr (.inr (some 0))), some (.inr (.inr (some 79))), some (.inl i)]) (st' := [.inl (i + 2), .inr (.inr (some 3000)), .inl ((xs ((i + 1).toNat)).toInt), .inr (.inr (some 79))]) (w' := (SH, dt37)) rfl ?_
  have r79 := i32_R (xs ((i + 2).toNat))
  refine go_smpq PM267 (L' := [some (.inr (.inr (some 3000))), some (.inr (.inr (some 0))), some (.inr (.inr (some 79))), some (.inl i)]) (st' := [.inl ((xs ((i + 2).toNat)).toInt), .inl ((xs ((i + 1).toNat)).toInt), .inr (.inr (some 79))]) (w' := (SH, dt37)) rfl rfl (s_iald (n := L) (f := fun j => (xs j).toInt) (am_scr hLL) ⟨by omega, by omega⟩) ?_
  refine go_callq PM267 PM174 (Q' := _) rfl rfl rfl rfl (sp_X6_text_og L xs sio (d + 0) dt37 hI38 hM41  ((xs ((i + 1).toNat)).toInt) ⟨by omega, by omega⟩ ((xs ((i + 2).toNat)).toInt) ⟨by omega, by omega⟩ ) ?_
  rintro _ _ ⟨dt81, rfl, hI82, hF83, h80⟩
  refine ⟨rfl, ?_⟩
  have hF84 : Fr [0, 1, 2, 3, 4, 5, 6, 7, 8, 9, 10, 11, 12, 13, 14, 15, 16, 17, 18, 19, 20, 21, 22, 23, 24, 25, 26, 27, 28, 29, 30, 31, 32, 33, 34, 35, 36, 37, 38, 39, 40, 41, 42, 43, 44, 45, 46, 47, 48, 49, 50, 51, 52, 53, 54, 55, 56, 57, 58, 59, 60, 61, 62, 63, 64, 65, 66, 67, 68, 69, 70, 71, 72, 73, 74, 75, 76, 77, 78, 79, 80, 81, 82, 83, 84, 85, 86, 87, 88, 89, 90, 91, 92, 93, 94, 95, 96, 97, 98, 99, 100, 101, 102, 103, 104] dt dt81 := Fr_tr hF40 hF83 (by decide)
  have w85 : dt81 1 0 = dt 1 0 := (hF83 1 (by decide) 0).trans w42
  have w86 : dt81 7 3 = dt 7 3 := (hF83 7 (by decide) 3).trans w43
  have w87 : dt81 10 3 = dt 10 3 := (hF83 10 (by decide) 3).trans w44
  have w88 : dt81 12 3 = dt 12 3 := (hF83 12 (by decide) 3).trans w45
  have w89 : dt81 14 3 = dt 14 3 := (hF83 14 (by decide) 3).trans w46
  have w90 : dt81 16 3 = dt 16 3 := (hF83 16 (by decide) 3).trans w47
  have w91 : dt81 18 0 = dt 18 0 := (hF83 18 (by decide) 0).trans w48
  have w92 : dt81 24 3 = dt 24 3 := (hF83 24 (by decide) 3).trans w49
  have w93 : dt81 27 3 = dt 27 3 := (hF83 27 (by decide) 3).trans w50
  have w94 : dt81 29 3 = dt 29 3 := (hF83 29 (by decide) 3).trans w51
  have w95 : dt81 31 3 = dt 31 3 := (hF83 31 (by decide) 3).trans w52
  have w96 : dt81 33 3 = dt 33 3 := (hF83 33 (by decide) 3).trans w53
  have w97 : dt81 0 2 = dt 0 2 := (hF83 0 (by decide) 2).trans w54
  have w98 : dt81 35 1 = dt37 35 1 := hF83 35 (by decide) 1
  have w99 : dt81 35 2 = dt37 35 2 := hF83 35 (by decide) 2
  have w100 : dt81 35 3 = dt37 35 3 := hF83 35 (by decide) 3
  have w101 : dt81 81 0 = dt 81 0 := (hF83 81 (by decide) 0).trans w61
  have w102 : dt81 81 1 = dt 81 1 := (hF83 81 (by decide) 1).trans w62
  have w103 : dt81 81 2 = dt 81 2 := (hF83 81 (by decide) 2).trans w63
  have w104 : dt81 81 3 = dt 81 3 := (hF83 81 (by decide) 3).trans w64
  have w105 : dt81 81 4 = dt 81 4 := (hF83 81 (by decide) 4).trans w65
  have w106 : dt81 81 5 = dt 81 5 := (hF83 81 (by decide) 5).trans w66
  rcases h80 with ⟨v_h80, rfl, h80r, h80⟩
  have hM107 : MW (dt81 80) := h80.2.2.1
  obtain ⟨h80_0, h80_1, h80_2, h80_3, h80_4, h80_5, h80_6, h80_7, h80_8, h80_9, h80_10, h80_11, h80_12⟩ := h80
  have w108 : dt81 79 2 = dt 79 2 := h80_1.trans w67
  have w109 : dt81 80 0 = dt 80 0 := h80_3.trans w55
  have w110 : dt81 80 1 = dt 80 1 := h80_4.trans w56
  have w111 : dt81 80 2 = dt 80 2 := h80_5.trans w57
  have w112 : dt81 80 3 = dt 80 3 := h80_6.trans w58
  have w113 : dt81 80 4 = dt 80 4 := h80_7.trans w59
  have w114 : dt81 80 5 = dt 80 5 := h80_8.trans w60
  have w115 : dt81 79 2 = dt 79 2 := h80_10.trans w67
  have M2116 : MW (dt81 81) := MW_frk M271 hF83 (by decide)
  have C117 : ∀ j : Nat, dt81 19 j = dt 19 j := fun j => (hF83 19 (by decide) j).trans (C72 j)
  have C118 : ∀ j : Nat, dt81 20 j = dt 20 j := fun j => (hF83 20 (by decide) j).trans (C73 j)
  have C119 : ∀ j : Nat, dt81 36 j = dt 36 j := fun j => (hF83 36 (by decide) j).trans (C74 j)
  have C120 : ∀ j : Nat, dt81 81 j = dt 81 j := fun j => (hF83 81 (by decide) j).trans (C76 j)
  have C121 : ∀ j : Nat, dt81 85 j = dt 85 j := fun j => (hF83 85 (by decide) j).trans (C77 j)
  have ts122 : _ := TSA_k h36_2 (hF83 2 (by decide)) (hF83 3 (by decide))
  have z123 := h80_11
  rw [show dt37 85 = dt 85 from funext C77, show dt37 79 12 = dt 79 12 by first | with_reducible assumption | omega, ← mB_con (g := fun j => am_and (dt 36 j) 255) (g' := dt 85) hd0 (show dt 79 12 = dt 35 1 by omega), show dt 79 12 = dt 35 1 by first | with_reducible assumption | omega] at z123
  have y124 := TRS_u h36_1 z123
  have z125 := h80_12
  rw [show dt37 85 = dt 85 from funext C77, show dt37 79 12 = dt 79 12 by first | with_reducible assumption | omega, ← mB_con (g := fun j => am_and (dt 36 j) 255) (g' := dt 85) hd0 (show dt 79 12 = dt 35 1 by omega), show dt 79 12 = dt 35 1 by first | with_reducible assumption | omega, show dt37 80 = dt 80 from funext C75] at z125
  have S126 : SCL (dt81 2) (dt81 3) (dt81 80) := SCL_t hd1 hM ts122 z125 (by omega) (by omega)
  refine go_toq PM267 (k := 2) (pc' := 1435) (L' := [some (.inr (.inr (some 3000))), some (.inr (.inr (some 0))), some (.inr (.inr (some 79))), some (.inl i)]) (st' := []) (w' := (SH, dt81)) rfl ?_
  exact K dt81 hI82 hM107 M2116 (w85.trans (hk0.trans w109.symm)) (w86.trans (hk1.trans w110.symm)) (w87.trans (hk2.trans w111.symm)) (w88.trans (hk3.trans w112.symm)) (w89.trans (hk4.trans w113.symm)) (w90.trans (hk5.trans w114.symm)) (w91.trans (hk6.trans w101.symm)) (w92.trans (hk7.trans w102.symm)) (w93.trans (hk8.trans w103.symm)) (w94.trans (hk9.trans w104.symm)) (w95.trans (hk10.trans w105.symm)) (w96.trans (hk11.trans w106.symm)) (w97.trans (hk12.trans w115.symm)) (by omega) (by omega) (by omega) (by first | exact hI | exact TPL_k hd0 C119 C121 (by omega) | (exfalso; omega)) (by first | exact S126 | exact SCL_k hd1 hM (fun j _ => hI j) (fun j _ => hI j) hI | (exfalso; omega)) (by first | exact hI | exact SCL_k hd2 hM2 (fun j _ => C117 j) (fun j _ => C118 j) (fun j _ _ => C120 j) | (exfalso; omega))
set_option maxRecDepth 20000 in
set_option maxHeartbeats 8000000 in
theorem sp_case4 (L : Nat) (xs : Nat → Int32) (sio : Option Nat) (d : Nat) (Q : Option AV → am_W → Prop) (hLL : L ≤ 3072) (i : Int) (hi : 0 ≤ i ∧ i ≤ 3066) (hil : i ≤ (L : Int) - 6) (dt : Nat → Nat → Int) (hI : InvC dt) (hM : MW (dt 80)) (hM2 : MW (dt 81)) (hk0 : dt 1 0 = dt 80 0) (hk1 : dt 7 3 = dt 80 1) (hk2 : dt 10 3 = dt 80 2) (hk3 : dt 12 3 = dt 80 3) (hk4 : dt 14 3 = dt 80 4) (hk5 : dt 16 3 = dt 80 5) (hk6 : dt 18 0 = dt 81 0) (hk7 : dt 24 3 = dt 81 1) (hk8 : dt 27 3 = dt 81 2) (hk9 : dt 29 3 = dt 81 3) (hk10 : dt 31 3 = dt 81 4) (hk11 : dt 33 3 = dt 81 5) (hk12 : dt 0 2 = dt 79 2) (hk13 : dt 35 1 = dt 79 12) (hk14 : dt 35 2 = dt 79 19) (hk15 : dt 35 3 = dt 79 21) (hd0 : TPL (dt 36) (dt 85) (dt 35 1)) (hd1 : SCL (dt 2) (dt 3) (dt 80)) (hd2 : SCL (dt 19) (dt 20) (dt 81)) (K : ∀ (dt : Nat → Nat → Int) (hI : InvC dt) (hM : MW (dt 80)) (hM2 : MW (dt 81)) (hk0 : dt 1 0 = dt 80 0) (hk1 : dt 7 3 = dt 80 1) (hk2 : dt 10 3 = dt 80 2) (hk3 : dt 12 3 = dt 80 3) (hk4 : dt 14 3 = dt 80 4) (hk5 : dt 16 3 = dt 80 5) (hk6 : dt 18 0 = dt 81 0) (hk7 : dt 24 3 = dt 81 1) (hk8 : dt 27 3 = dt 81 2) (hk9 : dt 29 3 = dt 81 3) (hk10 : dt 31 3 = dt 81 4) (hk11 : dt 33 3 = dt 81 5) (hk12 : dt 0 2 = dt 79 2) (hk13 : dt 35 1 = dt 79 12) (hk14 : dt 35 2 = dt 79 19) (hk15 : dt 35 3 = dt 79 21) (hd0 : TPL (dt 36) (dt 85) (dt 35 1)) (hd1 : SCL (dt 2) (dt 3) (dt 80)) (hd2 : SCL (dt 19) (dt 20) (dt 81)), GO (am_XX L xs sio) (d + 39) 267 1435 [some (.inr (.inr (some 3000))), some (.inr (.inr (some 0))), some (.inr (.inr (some 79))), some (.inl i)] [] (SH, dt) Q) : GO (am_XX L xs sio) (d + 39) 267 322 [some (.inr (.inr (some 3000))), some (.inr (.inr (some 0))), some (.inr (.inr (some 79))), some (.inl i)] [] (SH, dt) Q := by
  have hF : Fr [0, 1, 2, 3, 4, 5, 6, 7, 8, 9, 10, 11, 12, 13, 14, 15, 16, 17, 18, 19, 20, 21, 22, 23, 24, 25, 26, 27, 28, 29, 30, 31, 32, 33, 34, 35, 36, 37, 38, 39, 40, 41, 42, 43, 44, 45, 46, 47, 48, 49, 50, 51, 52, 53, 54, 55, 56, 57, 58, 59, 60, 61, 62, 63, 64, 65, 66, 67, 68, 69, 70, 71, 72, 73, 74, 75, 76, 77, 78, 79, 80, 81, 82, 83, 84, 85, 86, 87, 88, 89, 90, 91, 92, 93, 94, 95, 96, 97, 98, 99, 100, 101, 102, 103, 104] dt dt := Fr_refl
  refine go_toq PM267 (k := 5) (pc' := 327) (L' := [some (.inr (.inr (some 3000))), some (.inr (.inr (some 0))), some (.inr (.inr (some 79))), some (.inl i)]) (st' := [.inl (i + 1), .inr (.inr (some 3000)), .inr (.inr (some 0))]) (w' := (SH, dt)) rfl ?_
  have r1 := i32_R (xs ((i + 1).toNat))
  refine go_smpq PM267 (L' := [some (.inr (.inr (some 3000))), some (.inr (.inr (some 0))), some (.inr (.inr (some 79))), some (.inl i)]) (st' := [.inl ((xs ((i + 1).toNat)).toInt), .inr (.inr (some 0))]) (w' := (SH, dt)) rfl rfl (s_iald (n := L) (f := fun j => (xs j).toInt) (am_scr hLL) ⟨by omega, by omega⟩) ?_
  refine go_callq PM267 PM71 (Q' := _) rfl rfl rfl rfl (sp_X5_fault_f L xs sio (d + 38) dt hI  ((xs ((i + 1).toNat)).toInt) ⟨by omega, by omega⟩ ) ?_
  rintro _ _ ⟨rfl, h2⟩
  refine ⟨rfl, ?_⟩
  rcases h2 with ⟨v_h2, rfl, h2r, h2⟩
  refine go_toq PM267 (k := 6) (pc' := 337) (L' := [some (.inr (.inr (some 3000))), some (.inr (.inr (some 0))), some (.inr (.inr (some 79))), some (.inl i)]) (st' := [.inl (i + 1), .inr (.inr (some 3000)), .inr (.inr (some 79))]) (w' := (SH, dt)) rfl ?_
  refine go_smpq PM267 (L' := [some (.inr (.inr (some 3000))), some (.inr (.inr (some 0))), some (.inr (.inr (some 79))), some (.inl i)]) (st' := [.inl ((xs ((i + 1).toNat)).toInt), .inr (.inr (some 79))]) (w' := (SH, dt)) rfl rfl (s_iald (n := L) (f := fun j => (xs j).toInt) (am_scr hLL) ⟨by omega, by omega⟩) ?_
  refine go_callq PM267 PM176 (Q' := _) rfl rfl rfl rfl (sp_X6_fault_f L xs sio (d + 38) dt hI  ((xs ((i + 1).toNat)).toInt) ⟨by omega, by omega⟩ ) ?_
  rintro _ _ ⟨rfl, h3⟩
  refine ⟨rfl, ?_⟩
  rcases h3 with ⟨v_h3, rfl, h3r, h3⟩
  refine go_toq PM267 (k := 2) (pc' := 1435) (L' := [some (.inr (.inr (some 3000))), some (.inr (.inr (some 0))), some (.inr (.inr (some 79))), some (.inl i)]) (st' := []) (w' := (SH, dt)) rfl ?_
  exact K dt hI hM hM2 hk0 hk1 hk2 hk3 hk4 hk5 hk6 hk7 hk8 hk9 hk10 hk11 hk12 hk13 hk14 hk15 (by first | exact hI | exact TPL_k hd0 (fun _ => rfl) (fun _ => rfl) (by omega) | (exfalso; omega)) (by first | exact hI | exact SCL_k hd1 hM (fun j _ => (fun _ => rfl) j) (fun j _ => (fun _ => rfl) j) (fun j _ _ => (fun _ => rfl) j) | (exfalso; omega)) (by first | exact hI | exact SCL_k hd2 hM2 (fun j _ => (fun _ => rfl) j) (fun j _ => (fun _ => rfl) j) (fun j _ _ => (fun _ => rfl) j) | (exfalso; omega))
set_option maxRecDepth 20000 in
set_option maxHeartbeats 8000000 in
theorem sp_case5 (L : Nat) (xs : Nat → Int32) (sio : Option Nat) (d : Nat) (Q : Option AV → am_W → Prop) (hLL : L ≤ 3072) (i : Int) (hi : 0 ≤ i ∧ i ≤ 3066) (hil : i ≤ (L : Int) - 6) (dt : Nat → Nat → Int) (hI : InvC dt) (hM : MW (dt 80)) (hM2 : MW (dt 81)) (hk0 : dt 1 0 = dt 80 0) (hk1 : dt 7 3 = dt 80 1) (hk2 : dt 10 3 = dt 80 2) (hk3 : dt 12 3 = dt 80 3) (hk4 : dt 14 3 = dt 80 4) (hk5 : dt 16 3 = dt 80 5) (hk6 : dt 18 0 = dt 81 0) (hk7 : dt 24 3 = dt 81 1) (hk8 : dt 27 3 = dt 81 2) (hk9 : dt 29 3 = dt 81 3) (hk10 : dt 31 3 = dt 81 4) (hk11 : dt 33 3 = dt 81 5) (hk12 : dt 0 2 = dt 79 2) (hk13 : dt 35 1 = dt 79 12) (hk14 : dt 35 2 = dt 79 19) (hk15 : dt 35 3 = dt 79 21) (hd0 : TPL (dt 36) (dt 85) (dt 35 1)) (hd1 : SCL (dt 2) (dt 3) (dt 80)) (hd2 : SCL (dt 19) (dt 20) (dt 81)) (K : ∀ (dt : Nat → Nat → Int) (hI : InvC dt) (hM : MW (dt 80)) (hM2 : MW (dt 81)) (hk0 : dt 1 0 = dt 80 0) (hk1 : dt 7 3 = dt 80 1) (hk2 : dt 10 3 = dt 80 2) (hk3 : dt 12 3 = dt 80 3) (hk4 : dt 14 3 = dt 80 4) (hk5 : dt 16 3 = dt 80 5) (hk6 : dt 18 0 = dt 81 0) (hk7 : dt 24 3 = dt 81 1) (hk8 : dt 27 3 = dt 81 2) (hk9 : dt 29 3 = dt 81 3) (hk10 : dt 31 3 = dt 81 4) (hk11 : dt 33 3 = dt 81 5) (hk12 : dt 0 2 = dt 79 2) (hk13 : dt 35 1 = dt 79 12) (hk14 : dt 35 2 = dt 79 19) (hk15 : dt 35 3 = dt 79 21) (hd0 : TPL (dt 36) (dt 85) (dt 35 1)) (hd1 : SCL (dt 2) (dt 3) (dt 80)) (hd2 : SCL (dt 19) (dt 20) (dt 81)), GO (am_XX L xs sio) (d + 39) 267 1435 [some (.inr (.inr (some 3000))), some (.inr (.inr (some 0))), some (.inr (.inr (some 79))), some (.inl i)] [] (SH, dt) Q) : GO (am_XX L xs sio) (d + 39) 267 345 [some (.inr (.inr (some 3000))), some (.inr (.inr (some 0))), some (.inr (.inr (some 79))), some (.inl i)] [] (SH, dt) Q := by
  have hF : Fr [0, 1, 2, 3, 4, 5, 6, 7, 8, 9, 10, 11, 12, 13, 14, 15, 16, 17, 18, 19, 20, 21, 22, 23, 24, 25, 26, 27, 28, 29, 30, 31, 32, 33, 34, 35, 36, 37, 38, 39, 40, 41, 42, 43, 44, 45, 46, 47, 48, 49, 50, 51, 52, 53, 54, 55, 56, 57, 58, 59, 60, 61, 62, 63, 64, 65, 66, 67, 68, 69, 70, 71, 72, 73, 74, 75, 76, 77, 78, 79, 80, 81, 82, 83, 84, 85, 86, 87, 88, 89, 90, 91, 92, 93, 94, 95, 96, 97, 98, 99, 100, 101, 102, 103, 104] dt dt := Fr_refl
  refine go_toq PM267 (k := 5) (pc' := 350) (L' := [some (.inr (.inr (some 3000))), some (.inr (.inr (some 0))), some (.inr (.inr (some 79))), some (.inl i)]) (st' := [.inl (i + 1), .inr (.inr (some 3000)), .inr (.inr (some 0))]) (w' := (SH, dt)) rfl ?_
  have r1 := i32_R (xs ((i + 1).toNat))
  refine go_smpq PM267 (L' := [some (.inr (.inr (some 3000))), some (.inr (.inr (some 0))), some (.inr (.inr (some 79))), some (.inl i)]) (st' := [.inl ((xs ((i + 1).toNat)).toInt), .inr (.inr (some 0))]) (w' := (SH, dt)) rfl rfl (s_iald (n := L) (f := fun j => (xs j).toInt) (am_scr hLL) ⟨by omega, by omega⟩) ?_
  refine go_toq PM267 (k := 4) (pc' := 355) (L' := [some (.inr (.inr (some 3000))), some (.inr (.inr (some 0))), some (.inr (.inr (some 79))), some (.inl i)]) (st' := [.inl (i + 2), .inr (.inr (some 3000)), .inl ((xs ((i + 1).toNat)).toInt), .inr (.inr (some 0))]) (w' := (SH, dt)) rfl ?_
  have r2 := i32_R (xs ((i + 2).toNat))
  refine go_smpq PM267 (L' := [some (.inr (.inr (some 3000))), some (.inr (.inr (some 0))), some (.inr (.inr (some 79))), some (.inl i)]) (st' := [.inl ((xs ((i + 2).toNat)).toInt), .inl ((xs ((i + 1).toNat)).toInt), .inr (.inr (some 0))]) (w' := (SH, dt)) rfl rfl (s_iald (n := L) (f := fun j => (xs j).toInt) (am_scr hLL) ⟨by omega, by omega⟩) ?_
  refine go_toq PM267 (k := 4) (pc' := 360) (L' := [some (.inr (.inr (some 3000))), some (.inr (.inr (some 0))), some (.inr (.inr (some 79))), some (.inl i)]) (st' := [.inl (i + 3), .inr (.inr (some 3000)), .inl ((xs ((i + 2).toNat)).toInt), .inl ((xs ((i + 1).toNat)).toInt), .inr (.inr (some 0))]) (w' := (SH, dt)) rfl ?_
  have r3 := i32_R (xs ((i + 3).toNat))
  refine go_smpq PM267 (L' := [some (.inr (.inr (some 3000))), some (.inr (.inr (some 0))), some (.inr (.inr (some 79))), some (.inl i)]) (st' := [.inl ((xs ((i + 3).toNat)).toInt), .inl ((xs ((i + 2).toNat)).toInt), .inl ((xs ((i + 1).toNat)).toInt), .inr (.inr (some 0))]) (w' := (SH, dt)) rfl rfl (s_iald (n := L) (f := fun j => (xs j).toInt) (am_scr hLL) ⟨by omega, by omega⟩) ?_
  refine go_toq PM267 (k := 4) (pc' := 365) (L' := [some (.inr (.inr (some 3000))), some (.inr (.inr (some 0))), some (.inr (.inr (some 79))), some (.inl i)]) (st' := [.inl (i + 4), .inr (.inr (some 3000)), .inl ((xs ((i + 3).toNat)).toInt), .inl ((xs ((i + 2).toNat)).toInt), .inl ((xs ((i + 1).toNat)).toInt), .inr (.inr (some 0))]) (w' := (SH, dt)) rfl ?_
  have r4 := i32_R (xs ((i + 4).toNat))
  refine go_smpq PM267 (L' := [some (.inr (.inr (some 3000))), some (.inr (.inr (some 0))), some (.inr (.inr (some 79))), some (.inl i)]) (st' := [.inl ((xs ((i + 4).toNat)).toInt), .inl ((xs ((i + 3).toNat)).toInt), .inl ((xs ((i + 2).toNat)).toInt), .inl ((xs ((i + 1).toNat)).toInt), .inr (.inr (some 0))]) (w' := (SH, dt)) rfl rfl (s_iald (n := L) (f := fun j => (xs j).toInt) (am_scr hLL) ⟨by omega, by omega⟩) ?_
  refine go_callq PM267 PM72 (Q' := _) rfl rfl rfl rfl (sp_X5_after_w L xs sio (d + 33) dt hI hM  ((xs ((i + 1).toNat)).toInt) ⟨by omega, by omega⟩ ((xs ((i + 2).toNat)).toInt) ⟨by omega, by omega⟩ ((xs ((i + 3).toNat)).toInt) ⟨by omega, by omega⟩ ((xs ((i + 4).toNat)).toInt) ⟨by omega, by omega⟩ (by first | exact True.intro | with_reducible assumption | rfl | omega | trivial | exact hM2 | exact hd1)) ?_
  rintro _ _ ⟨dt6, rfl, hI7, hF8, h5⟩
  refine ⟨rfl, ?_⟩
  have hF9 : Fr [0, 1, 2, 3, 4, 5, 6, 7, 8, 9, 10, 11, 12, 13, 14, 15, 16, 17, 18, 19, 20, 21, 22, 23, 24, 25, 26, 27, 28, 29, 30, 31, 32, 33, 34, 35, 36, 37, 38, 39, 40, 41, 42, 43, 44, 45, 46, 47, 48, 49, 50, 51, 52, 53, 54, 55, 56, 57, 58, 59, 60, 61, 62, 63, 64, 65, 66, 67, 68, 69, 70, 71, 72, 73, 74, 75, 76, 77, 78, 79, 80, 81, 82, 83, 84, 85, 86, 87, 88, 89, 90, 91, 92, 93, 94, 95, 96, 97, 98, 99, 100, 101, 102, 103, 104] dt dt6 := Fr_tr hF hF8 (by decide)
  have hM10 : MW (dt6 80) := MW_fr hM hF8 (by decide)
  have w11 : dt6 1 0 = dt 1 0 := hF8 1 (by decide) 0
  have w12 : dt6 7 3 = dt 7 3 := hF8 7 (by decide) 3
  have w13 : dt6 10 3 = dt 10 3 := hF8 10 (by decide) 3
  have w14 : dt6 12 3 = dt 12 3 := hF8 12 (by decide) 3
  have w15 : dt6 14 3 = dt 14 3 := hF8 14 (by decide) 3
  have w16 : dt6 16 3 = dt 16 3 := hF8 16 (by decide) 3
  have w17 : dt6 18 0 = dt 18 0 := hF8 18 (by decide) 0
  have w18 : dt6 24 3 = dt 24 3 := hF8 24 (by decide) 3
  have w19 : dt6 27 3 = dt 27 3 := hF8 27 (by decide) 3
  have w20 : dt6 29 3 = dt 29 3 := hF8 29 (by decide) 3
  have w21 : dt6 31 3 = dt 31 3 := hF8 31 (by decide) 3
  have w22 : dt6 33 3 = dt 33 3 := hF8 33 (by decide) 3
  have w23 : dt6 0 2 = dt 0 2 := hF8 0 (by decide) 2
  have w24 : dt6 35 1 = dt 35 1 := hF8 35 (by decide) 1
  have w25 : dt6 35 2 = dt 35 2 := hF8 35 (by decide) 2
  have w26 : dt6 35 3 = dt 35 3 := hF8 35 (by decide) 3
  have w27 : dt6 80 0 = dt 80 0 := hF8 80 (by decide) 0
  have w28 : dt6 80 1 = dt 80 1 := hF8 80 (by decide) 1
  have w29 : dt6 80 2 = dt 80 2 := hF8 80 (by decide) 2
  have w30 : dt6 80 3 = dt 80 3 := hF8 80 (by decide) 3
  have w31 : dt6 80 4 = dt 80 4 := hF8 80 (by decide) 4
  have w32 : dt6 80 5 = dt 80 5 := hF8 80 (by decide) 5
  have w33 : dt6 81 0 = dt 81 0 := hF8 81 (by decide) 0
  have w34 : dt6 81 1 = dt 81 1 := hF8 81 (by decide) 1
  have w35 : dt6 81 2 = dt 81 2 := hF8 81 (by decide) 2
  have w36 : dt6 81 3 = dt 81 3 := hF8 81 (by decide) 3
  have w37 : dt6 81 4 = dt 81 4 := hF8 81 (by decide) 4
  have w38 : dt6 81 5 = dt 81 5 := hF8 81 (by decide) 5
  have w39 : dt6 79 2 = dt 79 2 := hF8 79 (by decide) 2
  have w40 : dt6 79 12 = dt 79 12 := hF8 79 (by decide) 12
  have w41 : dt6 79 19 = dt 79 19 := hF8 79 (by decide) 19
  have w42 : dt6 79 21 = dt 79 21 := hF8 79 (by decide) 21
  rcases h5 with ⟨rfl, h5⟩ | ⟨v_h5, rfl, h5r, h5⟩
  · skip
    have M243 : MW (dt6 81) := MW_frk hM2 hF8 (by decide)
    have C44 : ∀ j : Nat, dt6 2 j = dt 2 j := fun j => (hF8 2 (by decide) j).trans ((fun _ => rfl) j)
    have C45 : ∀ j : Nat, dt6 3 j = dt 3 j := fun j => (hF8 3 (by decide) j).trans ((fun _ => rfl) j)
    have C46 : ∀ j : Nat, dt6 19 j = dt 19 j := fun j => (hF8 19 (by decide) j).trans ((fun _ => rfl) j)
    have C47 : ∀ j : Nat, dt6 20 j = dt 20 j := fun j => (hF8 20 (by decide) j).trans ((fun _ => rfl) j)
    have C48 : ∀ j : Nat, dt6 36 j = dt 36 j := fun j => (hF8 36 (by decide) j).trans ((fun _ => rfl) j)
    have C49 : ∀ j : Nat, dt6 80 j = dt 80 j := fun j => (hF8 80 (by decide) j).trans ((fun _ => rfl) j)
    have C50 : ∀ j : Nat, dt6 81 j = dt 81 j := fun j => (hF8 81 (by decide) j).trans ((fun _ => rfl) j)
    have C51 : ∀ j : Nat, dt6 85 j = dt 85 j := fun j => (hF8 85 (by decide) j).trans ((fun _ => rfl) j)
    refine go_toq PM267 (k := 6) (pc' := 375) (L' := [some (.inr (.inr (some 3000))), some (.inr (.inr (some 0))), some (.inr (.inr (some 79))), some (.inl i)]) (st' := [.inl (i + 1), .inr (.inr (some 3000)), .inr (.inr (some 79))]) (w' := (SH, dt6)) rfl ?_
    have r52 := i32_R (xs ((i + 1).toNat))
    refine go_smpq PM267 (L' := [some (.inr (.inr (some 3000))), some (.inr (.inr (some 0))), some (.inr (.inr (some 79))), some (.inl i)]) (st' := [.inl ((xs ((i + 1).toNat)).toInt), .inr (.inr (some 79))]) (w' := (SH, dt6)) rfl rfl (s_iald (n := L) (f := fun j => (xs j).toInt) (am_scr hLL) ⟨by omega, by omega⟩) ?_
    refine go_toq PM267 (k := 4) (pc' := 380) (L' := [some (.inr (.inr (some 3000))), some (.inr (.inr (some 0))), some (.inr (.inr (some 79))), some (.inl i)]) (st' := [.inl (i + 2), .inr (.inr (some 3000)), .inl ((xs ((i + 1).toNat)).toInt), .inr (.inr (some 79))]) (w' := (SH, dt6)) rfl ?_
    have r53 := i32_R (xs ((i + 2).toNat))
    refine go_smpq PM267 (L' := [some (.inr (.inr (some 3000))), some (.inr (.inr (some 0))), some (.inr (.inr (some 79))), some (.inl i)]) (st' := [.inl ((xs ((i + 2).toNat)).toInt), .inl ((xs ((i + 1).toNat)).toInt), .inr (.inr (some 79))]) (w' := (SH, dt6)) rfl rfl (s_iald (n := L) (f := fun j => (xs j).toInt) (am_scr hLL) ⟨by omega, by omega⟩) ?_
    refine go_toq PM267 (k := 4) (pc' := 385) (L' := [some (.inr (.inr (some 3000))), some (.inr (.inr (some 0))), some (.inr (.inr (some 79))), some (.inl i)]) (st' := [.inl (i + 3), .inr (.inr (some 3000)), .inl ((xs ((i + 2).toNat)).toInt), .inl ((xs ((i + 1).toNat)).toInt), .inr (.inr (some 79))]) (w' := (SH, dt6)) rfl ?_
    have r54 := i32_R (xs ((i + 3).toNat))
    refine go_smpq PM267 (L' := [some (.inr (.inr (some 3000))), some (.inr (.inr (some 0))), some (.inr (.inr (some 79))), some (.inl i)]) (st' := [.inl ((xs ((i + 3).toNat)).toInt), .inl ((xs ((i + 2).toNat)).toInt), .inl ((xs ((i + 1).toNat)).toInt), .inr (.inr (some 79))]) (w' := (SH, dt6)) rfl rfl (s_iald (n := L) (f := fun j => (xs j).toInt) (am_scr hLL) ⟨by omega, by omega⟩) ?_
    refine go_toq PM267 (k := 4) (pc' := 390) (L' := [some (.inr (.inr (some 3000))), some (.inr (.inr (some 0))), some (.inr (.inr (some 79))), some (.inl i)]) (st' := [.inl (i + 4), .inr (.inr (some 3000)), .inl ((xs ((i + 3).toNat)).toInt), .inl ((xs ((i + 2).toNat)).toInt), .inl ((xs ((i + 1).toNat)).toInt), .inr (.inr (some 79))]) (w' := (SH, dt6)) rfl ?_
    have r55 := i32_R (xs ((i + 4).toNat))
    refine go_smpq PM267 (L' := [some (.inr (.inr (some 3000))), some (.inr (.inr (some 0))), some (.inr (.inr (some 79))), some (.inl i)]) (st' := [.inl ((xs ((i + 4).toNat)).toInt), .inl ((xs ((i + 3).toNat)).toInt), .inl ((xs ((i + 2).toNat)).toInt), .inl ((xs ((i + 1).toNat)).toInt), .inr (.inr (some 79))]) (w' := (SH, dt6)) rfl rfl (s_iald (n := L) (f := fun j => (xs j).toInt) (am_scr hLL) ⟨by omega, by omega⟩) ?_
    refine go_callq PM267 PM188 (Q' := _) rfl rfl rfl rfl (sp_X6_after_w L xs sio (d + 33) dt6 hI7 hM10  ((xs ((i + 1).toNat)).toInt) ⟨by omega, by omega⟩ ((xs ((i + 2).toNat)).toInt) ⟨by omega, by omega⟩ ((xs ((i + 3).toNat)).toInt) ⟨by omega, by omega⟩ ((xs ((i + 4).toNat)).toInt) ⟨by omega, by omega⟩ ) ?_
    rintro _ _ ⟨dt57, rfl, hI58, hF59, h56⟩
    refine ⟨rfl, ?_⟩
    have hF60 : Fr [0, 1, 2, 3, 4, 5, 6, 7, 8, 9, 10, 11, 12, 13, 14, 15, 16, 17, 18, 19, 20, 21, 22, 23, 24, 25, 26, 27, 28, 29, 30, 31, 32, 33, 34, 35, 36, 37, 38, 39, 40, 41, 42, 43, 44, 45, 46, 47, 48, 49, 50, 51, 52, 53, 54, 55, 56, 57, 58, 59, 60, 61, 62, 63, 64, 65, 66, 67, 68, 69, 70, 71, 72, 73, 74, 75, 76, 77, 78, 79, 80, 81, 82, 83, 84, 85, 86, 87, 88, 89, 90, 91, 92, 93, 94, 95, 96, 97, 98, 99, 100, 101, 102, 103, 104] dt dt57 := Fr_tr hF9 hF59 (by decide)
    have hM61 : MW (dt57 80) := MW_fr hM10 hF59 (by decide)
    have w62 : dt57 1 0 = dt 1 0 := (hF59 1 (by decide) 0).trans w11
    have w63 : dt57 7 3 = dt 7 3 := (hF59 7 (by decide) 3).trans w12
    have w64 : dt57 10 3 = dt 10 3 := (hF59 10 (by decide) 3).trans w13
    have w65 : dt57 12 3 = dt 12 3 := (hF59 12 (by decide) 3).trans w14
    have w66 : dt57 14 3 = dt 14 3 := (hF59 14 (by decide) 3).trans w15
    have w67 : dt57 16 3 = dt 16 3 := (hF59 16 (by decide) 3).trans w16
    have w68 : dt57 18 0 = dt 18 0 := (hF59 18 (by decide) 0).trans w17
    have w69 : dt57 24 3 = dt 24 3 := (hF59 24 (by decide) 3).trans w18
    have w70 : dt57 27 3 = dt 27 3 := (hF59 27 (by decide) 3).trans w19
    have w71 : dt57 29 3 = dt 29 3 := (hF59 29 (by decide) 3).trans w20
    have w72 : dt57 31 3 = dt 31 3 := (hF59 31 (by decide) 3).trans w21
    have w73 : dt57 33 3 = dt 33 3 := (hF59 33 (by decide) 3).trans w22
    have w74 : dt57 0 2 = dt 0 2 := (hF59 0 (by decide) 2).trans w23
    have w75 : dt57 35 1 = dt 35 1 := (hF59 35 (by decide) 1).trans w24
    have w76 : dt57 35 2 = dt 35 2 := (hF59 35 (by decide) 2).trans w25
    have w77 : dt57 35 3 = dt 35 3 := (hF59 35 (by decide) 3).trans w26
    have w78 : dt57 80 0 = dt 80 0 := (hF59 80 (by decide) 0).trans w27
    have w79 : dt57 80 1 = dt 80 1 := (hF59 80 (by decide) 1).trans w28
    have w80 : dt57 80 2 = dt 80 2 := (hF59 80 (by decide) 2).trans w29
    have w81 : dt57 80 3 = dt 80 3 := (hF59 80 (by decide) 3).trans w30
    have w82 : dt57 80 4 = dt 80 4 := (hF59 80 (by decide) 4).trans w31
    have w83 : dt57 80 5 = dt 80 5 := (hF59 80 (by decide) 5).trans w32
    have w84 : dt57 81 0 = dt 81 0 := (hF59 81 (by decide) 0).trans w33
    have w85 : dt57 81 1 = dt 81 1 := (hF59 81 (by decide) 1).trans w34
    have w86 : dt57 81 2 = dt 81 2 := (hF59 81 (by decide) 2).trans w35
    have w87 : dt57 81 3 = dt 81 3 := (hF59 81 (by decide) 3).trans w36
    have w88 : dt57 81 4 = dt 81 4 := (hF59 81 (by decide) 4).trans w37
    have w89 : dt57 81 5 = dt 81 5 := (hF59 81 (by decide) 5).trans w38
    have w90 : dt57 79 2 = dt 79 2 := (hF59 79 (by decide) 2).trans w39
    have w91 : dt57 79 12 = dt 79 12 := (hF59 79 (by decide) 12).trans w40
    have w92 : dt57 79 19 = dt 79 19 := (hF59 79 (by decide) 19).trans w41
    have w93 : dt57 79 21 = dt 79 21 := (hF59 79 (by decide) 21).trans w42
    rcases h56 with ⟨rfl, h56⟩ | ⟨v_h56, rfl, h56r, h56⟩
    · skip
      have M294 : MW (dt57 81) := MW_frk M243 hF59 (by decide)
      have C95 : ∀ j : Nat, dt57 2 j = dt 2 j := fun j => (hF59 2 (by decide) j).trans (C44 j)
      have C96 : ∀ j : Nat, dt57 3 j = dt 3 j := fun j => (hF59 3 (by decide) j).trans (C45 j)
      have C97 : ∀ j : Nat, dt57 19 j = dt 19 j := fun j => (hF59 19 (by decide) j).trans (C46 j)
      have C98 : ∀ j : Nat, dt57 20 j = dt 20 j := fun j => (hF59 20 (by decide) j).trans (C47 j)
      have C99 : ∀ j : Nat, dt57 36 j = dt 36 j := fun j => (hF59 36 (by decide) j).trans (C48 j)
      have C100 : ∀ j : Nat, dt57 80 j = dt 80 j := fun j => (hF59 80 (by decide) j).trans (C49 j)
      have C101 : ∀ j : Nat, dt57 81 j = dt 81 j := fun j => (hF59 81 (by decide) j).trans (C50 j)
      have C102 : ∀ j : Nat, dt57 85 j = dt 85 j := fun j => (hF59 85 (by decide) j).trans (C51 j)
      refine go_toq PM267 (k := 2) (pc' := 1435) (L' := [some (.inr (.inr (some 3000))), some (.inr (.inr (some 0))), some (.inr (.inr (some 79))), some (.inl i)]) (st' := []) (w' := (SH, dt57)) rfl ?_
      exact K dt57 hI58 hM61 M294 (w62.trans (hk0.trans w78.symm)) (w63.trans (hk1.trans w79.symm)) (w64.trans (hk2.trans w80.symm)) (w65.trans (hk3.trans w81.symm)) (w66.trans (hk4.trans w82.symm)) (w67.trans (hk5.trans w83.symm)) (w68.trans (hk6.trans w84.symm)) (w69.trans (hk7.trans w85.symm)) (w70.trans (hk8.trans w86.symm)) (w71.trans (hk9.trans w87.symm)) (w72.trans (hk10.trans w88.symm)) (w73.trans (hk11.trans w89.symm)) (w74.trans (hk12.trans w90.symm)) (w75.trans (hk13.trans w91.symm)) (w76.trans (hk14.trans w92.symm)) (w77.trans (hk15.trans w93.symm)) (by first | exact hI | exact TPL_k hd0 C99 C102 (by omega) | (exfalso; omega)) (by first | exact hI | exact SCL_k hd1 hM (fun j _ => C95 j) (fun j _ => C96 j) (fun j _ _ => C100 j) | (exfalso; omega)) (by first | exact hI | exact SCL_k hd2 hM2 (fun j _ => C97 j) (fun j _ => C98 j) (fun j _ _ => C101 j) | (exfalso; omega))
    · skip
      obtain ⟨h56_0, h56_1⟩ := h56
      have M2103 : MW (dt57 81) := MW_frk M243 hF59 (by decide)
      have C104 : ∀ j : Nat, dt57 2 j = dt 2 j := fun j => (hF59 2 (by decide) j).trans (C44 j)
      have C105 : ∀ j : Nat, dt57 3 j = dt 3 j := fun j => (hF59 3 (by decide) j).trans (C45 j)
      have C106 : ∀ j : Nat, dt57 19 j = dt 19 j := fun j => (hF59 19 (by decide) j).trans (C46 j)
      have C107 : ∀ j : Nat, dt57 20 j = dt 20 j := fun j => (hF59 20 (by decide) j).trans (C47 j)
      have C108 : ∀ j : Nat, dt57 36 j = dt 36 j := fun j => (hF59 36 (by decide) j).trans (C48 j)
      have C109 : ∀ j : Nat, dt57 80 j = dt 80 j := fun j => (hF59 80 (by decide) j).trans (C49 j)
      have C110 : ∀ j : Nat, dt57 81 j = dt 81 j := fun j => (hF59 81 (by decide) j).trans (C50 j)
      have C111 : ∀ j : Nat, dt57 85 j = dt 85 j := fun j => (hF59 85 (by decide) j).trans (C51 j)
      rw [show dt6 80 = dt 80 from funext C49] at h56_1
      refine go_toq PM267 (k := 2) (pc' := 1435) (L' := [some (.inr (.inr (some 3000))), some (.inr (.inr (some 0))), some (.inr (.inr (some 79))), some (.inl i)]) (st' := []) (w' := (SH, dt57)) rfl ?_
      exact K dt57 hI58 hM61 M2103 (w62.trans (hk0.trans w78.symm)) (w63.trans (hk1.trans w79.symm)) (w64.trans (hk2.trans w80.symm)) (w65.trans (hk3.trans w81.symm)) (w66.trans (hk4.trans w82.symm)) (w67.trans (hk5.trans w83.symm)) (w68.trans (hk6.trans w84.symm)) (w69.trans (hk7.trans w85.symm)) (w70.trans (hk8.trans w86.symm)) (w71.trans (hk9.trans w87.symm)) (w72.trans (hk10.trans w88.symm)) (w73.trans (hk11.trans w89.symm)) (w74.trans (hk12.trans w90.symm)) (w75.trans (hk13.trans w91.symm)) (w76.trans (hk14.trans w92.symm)) (w77.trans (hk15.trans w93.symm)) (by first | exact hI | exact TPL_k hd0 C108 C111 (by omega) | (exfalso; omega)) (by first | exact hI | exact SCL_k hd1 hM (fun j _ => C104 j) (fun j _ => C105 j) (fun j _ _ => C109 j) | (exfalso; omega)) (by first | exact hI | exact SCL_k hd2 hM2 (fun j _ => C106 j) (fun j _ => C107 j) (fun j _ _ => C110 j) | (exfalso; omega))
  · skip
    obtain ⟨h5_0, h5_1⟩ := h5
    have M2112 : MW (dt6 81) := MW_frk hM2 hF8 (by decide)
    have C113 : ∀ j : Nat, dt6 2 j = dt 2 j := fun j => (hF8 2 (by decide) j).trans ((fun _ => rfl) j)
    have C114 : ∀ j : Nat, dt6 3 j = dt 3 j := fun j => (hF8 3 (by decide) j).trans ((fun _ => rfl) j)
    have C115 : ∀ j : Nat, dt6 19 j = dt 19 j := fun j => (hF8 19 (by decide) j).trans ((fun _ => rfl) j)
    have C116 : ∀ j : Nat, dt6 20 j = dt 20 j := fun j => (hF8 20 (by decide) j).trans ((fun _ => rfl) j)
    have C117 : ∀ j : Nat, dt6 36 j = dt 36 j := fun j => (hF8 36 (by decide) j).trans ((fun _ => rfl) j)
    have C118 : ∀ j : Nat, dt6 80 j = dt 80 j := fun j => (hF8 80 (by decide) j).trans ((fun _ => rfl) j)
    have C119 : ∀ j : Nat, dt6 81 j = dt 81 j := fun j => (hF8 81 (by decide) j).trans ((fun _ => rfl) j)
    have C120 : ∀ j : Nat, dt6 85 j = dt 85 j := fun j => (hF8 85 (by decide) j).trans ((fun _ => rfl) j)
    refine go_toq PM267 (k := 6) (pc' := 375) (L' := [some (.inr (.inr (some 3000))), some (.inr (.inr (some 0))), some (.inr (.inr (some 79))), some (.inl i)]) (st' := [.inl (i + 1), .inr (.inr (some 3000)), .inr (.inr (some 79))]) (w' := (SH, dt6)) rfl ?_
    have r121 := i32_R (xs ((i + 1).toNat))
    refine go_smpq PM267 (L' := [some (.inr (.inr (some 3000))), some (.inr (.inr (some 0))), some (.inr (.inr (some 79))), some (.inl i)]) (st' := [.inl ((xs ((i + 1).toNat)).toInt), .inr (.inr (some 79))]) (w' := (SH, dt6)) rfl rfl (s_iald (n := L) (f := fun j => (xs j).toInt) (am_scr hLL) ⟨by omega, by omega⟩) ?_
    refine go_toq PM267 (k := 4) (pc' := 380) (L' := [some (.inr (.inr (some 3000))), some (.inr (.inr (some 0))), some (.inr (.inr (some 79))), some (.inl i)]) (st' := [.inl (i + 2), .inr (.inr (some 3000)), .inl ((xs ((i + 1).toNat)).toInt), .inr (.inr (some 79))]) (w' := (SH, dt6)) rfl ?_
    have r122 := i32_R (xs ((i + 2).toNat))
    refine go_smpq PM267 (L' := [some (.inr (.inr (some 3000))), some (.inr (.inr (some 0))), some (.inr (.inr (some 79))), some (.inl i)]) (st' := [.inl ((xs ((i + 2).toNat)).toInt), .inl ((xs ((i + 1).toNat)).toInt), .inr (.inr (some 79))]) (w' := (SH, dt6)) rfl rfl (s_iald (n := L) (f := fun j => (xs j).toInt) (am_scr hLL) ⟨by omega, by omega⟩) ?_
    refine go_toq PM267 (k := 4) (pc' := 385) (L' := [some (.inr (.inr (some 3000))), some (.inr (.inr (some 0))), some (.inr (.inr (some 79))), some (.inl i)]) (st' := [.inl (i + 3), .inr (.inr (some 3000)), .inl ((xs ((i + 2).toNat)).toInt), .inl ((xs ((i + 1).toNat)).toInt), .inr (.inr (some 79))]) (w' := (SH, dt6)) rfl ?_
    have r123 := i32_R (xs ((i + 3).toNat))
    refine go_smpq PM267 (L' := [some (.inr (.inr (some 3000))), some (.inr (.inr (some 0))), some (.inr (.inr (some 79))), some (.inl i)]) (st' := [.inl ((xs ((i + 3).toNat)).toInt), .inl ((xs ((i + 2).toNat)).toInt), .inl ((xs ((i + 1).toNat)).toInt), .inr (.inr (some 79))]) (w' := (SH, dt6)) rfl rfl (s_iald (n := L) (f := fun j => (xs j).toInt) (am_scr hLL) ⟨by omega, by omega⟩) ?_
    refine go_toq PM267 (k := 4) (pc' := 390) (L' := [some (.inr (.inr (some 3000))), some (.inr (.inr (some 0))), some (.inr (.inr (some 79))), some (.inl i)]) (st' := [.inl (i + 4), .inr (.inr (some 3000)), .inl ((xs ((i + 3).toNat)).toInt), .inl ((xs ((i + 2).toNat)).toInt), .inl ((xs ((i + 1).toNat)).toInt), .inr (.inr (some 79))]) (w' := (SH, dt6)) rfl ?_
    have r124 := i32_R (xs ((i + 4).toNat))
    refine go_smpq PM267 (L' := [some (.inr (.inr (some 3000))), some (.inr (.inr (some 0))), some (.inr (.inr (some 79))), some (.inl i)]) (st' := [.inl ((xs ((i + 4).toNat)).toInt), .inl ((xs ((i + 3).toNat)).toInt), .inl ((xs ((i + 2).toNat)).toInt), .inl ((xs ((i + 1).toNat)).toInt), .inr (.inr (some 79))]) (w' := (SH, dt6)) rfl rfl (s_iald (n := L) (f := fun j => (xs j).toInt) (am_scr hLL) ⟨by omega, by omega⟩) ?_
    refine go_callq PM267 PM188 (Q' := _) rfl rfl rfl rfl (sp_X6_after_w L xs sio (d + 33) dt6 hI7 hM10  ((xs ((i + 1).toNat)).toInt) ⟨by omega, by omega⟩ ((xs ((i + 2).toNat)).toInt) ⟨by omega, by omega⟩ ((xs ((i + 3).toNat)).toInt) ⟨by omega, by omega⟩ ((xs ((i + 4).toNat)).toInt) ⟨by omega, by omega⟩ ) ?_
    rintro _ _ ⟨dt126, rfl, hI127, hF128, h125⟩
    refine ⟨rfl, ?_⟩
    have hF129 : Fr [0, 1, 2, 3, 4, 5, 6, 7, 8, 9, 10, 11, 12, 13, 14, 15, 16, 17, 18, 19, 20, 21, 22, 23, 24, 25, 26, 27, 28, 29, 30, 31, 32, 33, 34, 35, 36, 37, 38, 39, 40, 41, 42, 43, 44, 45, 46, 47, 48, 49, 50, 51, 52, 53, 54, 55, 56, 57, 58, 59, 60, 61, 62, 63, 64, 65, 66, 67, 68, 69, 70, 71, 72, 73, 74, 75, 76, 77, 78, 79, 80, 81, 82, 83, 84, 85, 86, 87, 88, 89, 90, 91, 92, 93, 94, 95, 96, 97, 98, 99, 100, 101, 102, 103, 104] dt dt126 := Fr_tr hF9 hF128 (by decide)
    have hM130 : MW (dt126 80) := MW_fr hM10 hF128 (by decide)
    have w131 : dt126 1 0 = dt 1 0 := (hF128 1 (by decide) 0).trans w11
    have w132 : dt126 7 3 = dt 7 3 := (hF128 7 (by decide) 3).trans w12
    have w133 : dt126 10 3 = dt 10 3 := (hF128 10 (by decide) 3).trans w13
    have w134 : dt126 12 3 = dt 12 3 := (hF128 12 (by decide) 3).trans w14
    have w135 : dt126 14 3 = dt 14 3 := (hF128 14 (by decide) 3).trans w15
    have w136 : dt126 16 3 = dt 16 3 := (hF128 16 (by decide) 3).trans w16
    have w137 : dt126 18 0 = dt 18 0 := (hF128 18 (by decide) 0).trans w17
    have w138 : dt126 24 3 = dt 24 3 := (hF128 24 (by decide) 3).trans w18
    have w139 : dt126 27 3 = dt 27 3 := (hF128 27 (by decide) 3).trans w19
    have w140 : dt126 29 3 = dt 29 3 := (hF128 29 (by decide) 3).trans w20
    have w141 : dt126 31 3 = dt 31 3 := (hF128 31 (by decide) 3).trans w21
    have w142 : dt126 33 3 = dt 33 3 := (hF128 33 (by decide) 3).trans w22
    have w143 : dt126 0 2 = dt 0 2 := (hF128 0 (by decide) 2).trans w23
    have w144 : dt126 35 1 = dt 35 1 := (hF128 35 (by decide) 1).trans w24
    have w145 : dt126 35 2 = dt 35 2 := (hF128 35 (by decide) 2).trans w25
    have w146 : dt126 35 3 = dt 35 3 := (hF128 35 (by decide) 3).trans w26
    have w147 : dt126 80 0 = dt 80 0 := (hF128 80 (by decide) 0).trans w27
    have w148 : dt126 80 1 = dt 80 1 := (hF128 80 (by decide) 1).trans w28
    have w149 : dt126 80 2 = dt 80 2 := (hF128 80 (by decide) 2).trans w29
    have w150 : dt126 80 3 = dt 80 3 := (hF128 80 (by decide) 3).trans w30
    have w151 : dt126 80 4 = dt 80 4 := (hF128 80 (by decide) 4).trans w31
    have w152 : dt126 80 5 = dt 80 5 := (hF128 80 (by decide) 5).trans w32
    have w153 : dt126 81 0 = dt 81 0 := (hF128 81 (by decide) 0).trans w33
    have w154 : dt126 81 1 = dt 81 1 := (hF128 81 (by decide) 1).trans w34
    have w155 : dt126 81 2 = dt 81 2 := (hF128 81 (by decide) 2).trans w35
    have w156 : dt126 81 3 = dt 81 3 := (hF128 81 (by decide) 3).trans w36
    have w157 : dt126 81 4 = dt 81 4 := (hF128 81 (by decide) 4).trans w37
    have w158 : dt126 81 5 = dt 81 5 := (hF128 81 (by decide) 5).trans w38
    have w159 : dt126 79 2 = dt 79 2 := (hF128 79 (by decide) 2).trans w39
    have w160 : dt126 79 12 = dt 79 12 := (hF128 79 (by decide) 12).trans w40
    have w161 : dt126 79 19 = dt 79 19 := (hF128 79 (by decide) 19).trans w41
    have w162 : dt126 79 21 = dt 79 21 := (hF128 79 (by decide) 21).trans w42
    rcases h125 with ⟨rfl, h125⟩ | ⟨v_h125, rfl, h125r, h125⟩
    · skip
      have M2163 : MW (dt126 81) := MW_frk M2112 hF128 (by decide)
      have C164 : ∀ j : Nat, dt126 2 j = dt 2 j := fun j => (hF128 2 (by decide) j).trans (C113 j)
      have C165 : ∀ j : Nat, dt126 3 j = dt 3 j := fun j => (hF128 3 (by decide) j).trans (C114 j)
      have C166 : ∀ j : Nat, dt126 19 j = dt 19 j := fun j => (hF128 19 (by decide) j).trans (C115 j)
      have C167 : ∀ j : Nat, dt126 20 j = dt 20 j := fun j => (hF128 20 (by decide) j).trans (C116 j)
      have C168 : ∀ j : Nat, dt126 36 j = dt 36 j := fun j => (hF128 36 (by decide) j).trans (C117 j)
      have C169 : ∀ j : Nat, dt126 80 j = dt 80 j := fun j => (hF128 80 (by decide) j).trans (C118 j)
      have C170 : ∀ j : Nat, dt126 81 j = dt 81 j := fun j => (hF128 81 (by decide) j).trans (C119 j)
      have C171 : ∀ j : Nat, dt126 85 j = dt 85 j := fun j => (hF128 85 (by decide) j).trans (C120 j)
      refine go_toq PM267 (k := 2) (pc' := 1435) (L' := [some (.inr (.inr (some 3000))), some (.inr (.inr (some 0))), some (.inr (.inr (some 79))), some (.inl i)]) (st' := []) (w' := (SH, dt126)) rfl ?_
      exact K dt126 hI127 hM130 M2163 (w131.trans (hk0.trans w147.symm)) (w132.trans (hk1.trans w148.symm)) (w133.trans (hk2.trans w149.symm)) (w134.trans (hk3.trans w150.symm)) (w135.trans (hk4.trans w151.symm)) (w136.trans (hk5.trans w152.symm)) (w137.trans (hk6.trans w153.symm)) (w138.trans (hk7.trans w154.symm)) (w139.trans (hk8.trans w155.symm)) (w140.trans (hk9.trans w156.symm)) (w141.trans (hk10.trans w157.symm)) (w142.trans (hk11.trans w158.symm)) (w143.trans (hk12.trans w159.symm)) (w144.trans (hk13.trans w160.symm)) (w145.trans (hk14.trans w161.symm)) (w146.trans (hk15.trans w162.symm)) (by first | exact hI | exact TPL_k hd0 C168 C171 (by omega) | (exfalso; omega)) (by first | exact hI | exact SCL_k hd1 hM (fun j _ => C164 j) (fun j _ => C165 j) (fun j _ _ => C169 j) | (exfalso; omega)) (by first | exact hI | exact SCL_k hd2 hM2 (fun j _ => C166 j) (fun j _ => C167 j) (fun j _ _ => C170 j) | (exfalso; omega))
    · skip
      obtain ⟨h125_0, h125_1⟩ := h125
      have M2172 : MW (dt126 81) := MW_frk M2112 hF128 (by decide)
      have C173 : ∀ j : Nat, dt126 2 j = dt 2 j := fun j => (hF128 2 (by decide) j).trans (C113 j)
      have C174 : ∀ j : Nat, dt126 3 j = dt 3 j := fun j => (hF128 3 (by decide) j).trans (C114 j)
      have C175 : ∀ j : Nat, dt126 19 j = dt 19 j := fun j => (hF128 19 (by decide) j).trans (C115 j)
      have C176 : ∀ j : Nat, dt126 20 j = dt 20 j := fun j => (hF128 20 (by decide) j).trans (C116 j)
      have C177 : ∀ j : Nat, dt126 36 j = dt 36 j := fun j => (hF128 36 (by decide) j).trans (C117 j)
      have C178 : ∀ j : Nat, dt126 80 j = dt 80 j := fun j => (hF128 80 (by decide) j).trans (C118 j)
      have C179 : ∀ j : Nat, dt126 81 j = dt 81 j := fun j => (hF128 81 (by decide) j).trans (C119 j)
      have C180 : ∀ j : Nat, dt126 85 j = dt 85 j := fun j => (hF128 85 (by decide) j).trans (C120 j)
      rw [show dt6 80 = dt 80 from funext C118] at h125_1
      have y181 : wr v_h5 = wr v_h125 := congrArg wr (h5_1.trans h125_1.symm)
      refine go_toq PM267 (k := 2) (pc' := 1435) (L' := [some (.inr (.inr (some 3000))), some (.inr (.inr (some 0))), some (.inr (.inr (some 79))), some (.inl i)]) (st' := []) (w' := (SH, dt126)) rfl ?_
      exact K dt126 hI127 hM130 M2172 (w131.trans (hk0.trans w147.symm)) (w132.trans (hk1.trans w148.symm)) (w133.trans (hk2.trans w149.symm)) (w134.trans (hk3.trans w150.symm)) (w135.trans (hk4.trans w151.symm)) (w136.trans (hk5.trans w152.symm)) (w137.trans (hk6.trans w153.symm)) (w138.trans (hk7.trans w154.symm)) (w139.trans (hk8.trans w155.symm)) (w140.trans (hk9.trans w156.symm)) (w141.trans (hk10.trans w157.symm)) (w142.trans (hk11.trans w158.symm)) (w143.trans (hk12.trans w159.symm)) (w144.trans (hk13.trans w160.symm)) (w145.trans (hk14.trans w161.symm)) (w146.trans (hk15.trans w162.symm)) (by first | exact hI | exact TPL_k hd0 C177 C180 (by omega) | (exfalso; omega)) (by first | exact hI | exact SCL_k hd1 hM (fun j _ => C173 j) (fun j _ => C174 j) (fun j _ _ => C178 j) | (exfalso; omega)) (by first | exact hI | exact SCL_k hd2 hM2 (fun j _ => C175 j) (fun j _ => C176 j) (fun j _ _ => C179 j) | (exfalso; omega))
set_option maxRecDepth 20000 in
set_option maxHeartbeats 8000000 in
theorem sp_case6 (L : Nat) (xs : Nat → Int32) (sio : Option Nat) (d : Nat) (Q : Option AV → am_W → Prop) (hLL : L ≤ 3072) (i : Int) (hi : 0 ≤ i ∧ i ≤ 3066) (hil : i ≤ (L : Int) - 6) (dt : Nat → Nat → Int) (hI : InvC dt) (hM : MW (dt 80)) (hM2 : MW (dt 81)) (hk0 : dt 1 0 = dt 80 0) (hk1 : dt 7 3 = dt 80 1) (hk2 : dt 10 3 = dt 80 2) (hk3 : dt 12 3 = dt 80 3) (hk4 : dt 14 3 = dt 80 4) (hk5 : dt 16 3 = dt 80 5) (hk6 : dt 18 0 = dt 81 0) (hk7 : dt 24 3 = dt 81 1) (hk8 : dt 27 3 = dt 81 2) (hk9 : dt 29 3 = dt 81 3) (hk10 : dt 31 3 = dt 81 4) (hk11 : dt 33 3 = dt 81 5) (hk12 : dt 0 2 = dt 79 2) (hk13 : dt 35 1 = dt 79 12) (hk14 : dt 35 2 = dt 79 19) (hk15 : dt 35 3 = dt 79 21) (hd0 : TPL (dt 36) (dt 85) (dt 35 1)) (hd1 : SCL (dt 2) (dt 3) (dt 80)) (hd2 : SCL (dt 19) (dt 20) (dt 81)) (K : ∀ (dt : Nat → Nat → Int) (hI : InvC dt) (hM : MW (dt 80)) (hM2 : MW (dt 81)) (hk0 : dt 1 0 = dt 80 0) (hk1 : dt 7 3 = dt 80 1) (hk2 : dt 10 3 = dt 80 2) (hk3 : dt 12 3 = dt 80 3) (hk4 : dt 14 3 = dt 80 4) (hk5 : dt 16 3 = dt 80 5) (hk6 : dt 18 0 = dt 81 0) (hk7 : dt 24 3 = dt 81 1) (hk8 : dt 27 3 = dt 81 2) (hk9 : dt 29 3 = dt 81 3) (hk10 : dt 31 3 = dt 81 4) (hk11 : dt 33 3 = dt 81 5) (hk12 : dt 0 2 = dt 79 2) (hk13 : dt 35 1 = dt 79 12) (hk14 : dt 35 2 = dt 79 19) (hk15 : dt 35 3 = dt 79 21) (hd0 : TPL (dt 36) (dt 85) (dt 35 1)) (hd1 : SCL (dt 2) (dt 3) (dt 80)) (hd2 : SCL (dt 19) (dt 20) (dt 81)), GO (am_XX L xs sio) (d + 39) 267 1435 [some (.inr (.inr (some 3000))), some (.inr (.inr (some 0))), some (.inr (.inr (some 79))), some (.inl i)] [] (SH, dt) Q) : GO (am_XX L xs sio) (d + 39) 267 398 [some (.inr (.inr (some 3000))), some (.inr (.inr (some 0))), some (.inr (.inr (some 79))), some (.inl i)] [] (SH, dt) Q := by
  have hF : Fr [0, 1, 2, 3, 4, 5, 6, 7, 8, 9, 10, 11, 12, 13, 14, 15, 16, 17, 18, 19, 20, 21, 22, 23, 24, 25, 26, 27, 28, 29, 30, 31, 32, 33, 34, 35, 36, 37, 38, 39, 40, 41, 42, 43, 44, 45, 46, 47, 48, 49, 50, 51, 52, 53, 54, 55, 56, 57, 58, 59, 60, 61, 62, 63, 64, 65, 66, 67, 68, 69, 70, 71, 72, 73, 74, 75, 76, 77, 78, 79, 80, 81, 82, 83, 84, 85, 86, 87, 88, 89, 90, 91, 92, 93, 94, 95, 96, 97, 98, 99, 100, 101, 102, 103, 104] dt dt := Fr_refl
  refine go_toq PM267 (k := 5) (pc' := 403) (L' := [some (.inr (.inr (some 3000))), some (.inr (.inr (some 0))), some (.inr (.inr (some 79))), some (.inl i)]) (st' := [.inl (i + 1), .inr (.inr (some 3000)), .inr (.inr (some 0))]) (w' := (SH, dt)) rfl ?_
  have r1 := i32_R (xs ((i + 1).toNat))
  refine go_smpq PM267 (L' := [some (.inr (.inr (some 3000))), some (.inr (.inr (some 0))), some (.inr (.inr (some 79))), some (.inl i)]) (st' := [.inl ((xs ((i + 1).toNat)).toInt), .inr (.inr (some 0))]) (w' := (SH, dt)) rfl rfl (s_iald (n := L) (f := fun j => (xs j).toInt) (am_scr hLL) ⟨by omega, by omega⟩) ?_
  refine go_toq PM267 (k := 4) (pc' := 408) (L' := [some (.inr (.inr (some 3000))), some (.inr (.inr (some 0))), some (.inr (.inr (some 79))), some (.inl i)]) (st' := [.inl (i + 2), .inr (.inr (some 3000)), .inl ((xs ((i + 1).toNat)).toInt), .inr (.inr (some 0))]) (w' := (SH, dt)) rfl ?_
  have r2 := i32_R (xs ((i + 2).toNat))
  refine go_smpq PM267 (L' := [some (.inr (.inr (some 3000))), some (.inr (.inr (some 0))), some (.inr (.inr (some 79))), some (.inl i)]) (st' := [.inl ((xs ((i + 2).toNat)).toInt), .inl ((xs ((i + 1).toNat)).toInt), .inr (.inr (some 0))]) (w' := (SH, dt)) rfl rfl (s_iald (n := L) (f := fun j => (xs j).toInt) (am_scr hLL) ⟨by omega, by omega⟩) ?_
  refine go_toq PM267 (k := 4) (pc' := 413) (L' := [some (.inr (.inr (some 3000))), some (.inr (.inr (some 0))), some (.inr (.inr (some 79))), some (.inl i)]) (st' := [.inl (i + 3), .inr (.inr (some 3000)), .inl ((xs ((i + 2).toNat)).toInt), .inl ((xs ((i + 1).toNat)).toInt), .inr (.inr (some 0))]) (w' := (SH, dt)) rfl ?_
  have r3 := i32_R (xs ((i + 3).toNat))
  refine go_smpq PM267 (L' := [some (.inr (.inr (some 3000))), some (.inr (.inr (some 0))), some (.inr (.inr (some 79))), some (.inl i)]) (st' := [.inl ((xs ((i + 3).toNat)).toInt), .inl ((xs ((i + 2).toNat)).toInt), .inl ((xs ((i + 1).toNat)).toInt), .inr (.inr (some 0))]) (w' := (SH, dt)) rfl rfl (s_iald (n := L) (f := fun j => (xs j).toInt) (am_scr hLL) ⟨by omega, by omega⟩) ?_
  refine go_toq PM267 (k := 4) (pc' := 418) (L' := [some (.inr (.inr (some 3000))), some (.inr (.inr (some 0))), some (.inr (.inr (some 79))), some (.inl i)]) (st' := [.inl (i + 4), .inr (.inr (some 3000)), .inl ((xs ((i + 3).toNat)).toInt), .inl ((xs ((i + 2).toNat)).toInt), .inl ((xs ((i + 1).toNat)).toInt), .inr (.inr (some 0))]) (w' := (SH, dt)) rfl ?_
  have r4 := i32_R (xs ((i + 4).toNat))
  refine go_smpq PM267 (L' := [some (.inr (.inr (some 3000))), some (.inr (.inr (some 0))), some (.inr (.inr (some 79))), some (.inl i)]) (st' := [.inl ((xs ((i + 4).toNat)).toInt), .inl ((xs ((i + 3).toNat)).toInt), .inl ((xs ((i + 2).toNat)).toInt), .inl ((xs ((i + 1).toNat)).toInt), .inr (.inr (some 0))]) (w' := (SH, dt)) rfl rfl (s_iald (n := L) (f := fun j => (xs j).toInt) (am_scr hLL) ⟨by omega, by omega⟩) ?_
  refine go_callq PM267 PM73 (Q' := _) rfl rfl rfl rfl (sp_X5_thinks_w L xs sio (d + 33) dt hI hM  ((xs ((i + 1).toNat)).toInt) ⟨by omega, by omega⟩ ((xs ((i + 2).toNat)).toInt) ⟨by omega, by omega⟩ ((xs ((i + 3).toNat)).toInt) ⟨by omega, by omega⟩ ((xs ((i + 4).toNat)).toInt) ⟨by omega, by omega⟩ (by first | exact True.intro | with_reducible assumption | rfl | omega | trivial | exact hM2 | exact hd1)) ?_
  rintro _ _ ⟨dt6, rfl, hI7, hF8, h5⟩
  refine ⟨rfl, ?_⟩
  have hF9 : Fr [0, 1, 2, 3, 4, 5, 6, 7, 8, 9, 10, 11, 12, 13, 14, 15, 16, 17, 18, 19, 20, 21, 22, 23, 24, 25, 26, 27, 28, 29, 30, 31, 32, 33, 34, 35, 36, 37, 38, 39, 40, 41, 42, 43, 44, 45, 46, 47, 48, 49, 50, 51, 52, 53, 54, 55, 56, 57, 58, 59, 60, 61, 62, 63, 64, 65, 66, 67, 68, 69, 70, 71, 72, 73, 74, 75, 76, 77, 78, 79, 80, 81, 82, 83, 84, 85, 86, 87, 88, 89, 90, 91, 92, 93, 94, 95, 96, 97, 98, 99, 100, 101, 102, 103, 104] dt dt6 := Fr_tr hF hF8 (by decide)
  have hM10 : MW (dt6 80) := MW_fr hM hF8 (by decide)
  have w11 : dt6 1 0 = dt 1 0 := hF8 1 (by decide) 0
  have w12 : dt6 7 3 = dt 7 3 := hF8 7 (by decide) 3
  have w13 : dt6 10 3 = dt 10 3 := hF8 10 (by decide) 3
  have w14 : dt6 12 3 = dt 12 3 := hF8 12 (by decide) 3
  have w15 : dt6 14 3 = dt 14 3 := hF8 14 (by decide) 3
  have w16 : dt6 16 3 = dt 16 3 := hF8 16 (by decide) 3
  have w17 : dt6 18 0 = dt 18 0 := hF8 18 (by decide) 0
  have w18 : dt6 24 3 = dt 24 3 := hF8 24 (by decide) 3
  have w19 : dt6 27 3 = dt 27 3 := hF8 27 (by decide) 3
  have w20 : dt6 29 3 = dt 29 3 := hF8 29 (by decide) 3
  have w21 : dt6 31 3 = dt 31 3 := hF8 31 (by decide) 3
  have w22 : dt6 33 3 = dt 33 3 := hF8 33 (by decide) 3
  have w23 : dt6 0 2 = dt 0 2 := hF8 0 (by decide) 2
  have w24 : dt6 35 1 = dt 35 1 := hF8 35 (by decide) 1
  have w25 : dt6 35 2 = dt 35 2 := hF8 35 (by decide) 2
  have w26 : dt6 35 3 = dt 35 3 := hF8 35 (by decide) 3
  have w27 : dt6 80 0 = dt 80 0 := hF8 80 (by decide) 0
  have w28 : dt6 80 1 = dt 80 1 := hF8 80 (by decide) 1
  have w29 : dt6 80 2 = dt 80 2 := hF8 80 (by decide) 2
  have w30 : dt6 80 3 = dt 80 3 := hF8 80 (by decide) 3
  have w31 : dt6 80 4 = dt 80 4 := hF8 80 (by decide) 4
  have w32 : dt6 80 5 = dt 80 5 := hF8 80 (by decide) 5
  have w33 : dt6 81 0 = dt 81 0 := hF8 81 (by decide) 0
  have w34 : dt6 81 1 = dt 81 1 := hF8 81 (by decide) 1
  have w35 : dt6 81 2 = dt 81 2 := hF8 81 (by decide) 2
  have w36 : dt6 81 3 = dt 81 3 := hF8 81 (by decide) 3
  have w37 : dt6 81 4 = dt 81 4 := hF8 81 (by decide) 4
  have w38 : dt6 81 5 = dt 81 5 := hF8 81 (by decide) 5
  have w39 : dt6 79 2 = dt 79 2 := hF8 79 (by decide) 2
  have w40 : dt6 79 12 = dt 79 12 := hF8 79 (by decide) 12
  have w41 : dt6 79 19 = dt 79 19 := hF8 79 (by decide) 19
  have w42 : dt6 79 21 = dt 79 21 := hF8 79 (by decide) 21
  rcases h5 with ⟨rfl, h5⟩ | ⟨v_h5, rfl, h5r, h5⟩
  · skip
    have M243 : MW (dt6 81) := MW_frk hM2 hF8 (by decide)
    have C44 : ∀ j : Nat, dt6 2 j = dt 2 j := fun j => (hF8 2 (by decide) j).trans ((fun _ => rfl) j)
    have C45 : ∀ j : Nat, dt6 3 j = dt 3 j := fun j => (hF8 3 (by decide) j).trans ((fun _ => rfl) j)
    have C46 : ∀ j : Nat, dt6 19 j = dt 19 j := fun j => (hF8 19 (by decide) j).trans ((fun _ => rfl) j)
    have C47 : ∀ j : Nat, dt6 20 j = dt 20 j := fun j => (hF8 20 (by decide) j).trans ((fun _ => rfl) j)
    have C48 : ∀ j : Nat, dt6 36 j = dt 36 j := fun j => (hF8 36 (by decide) j).trans ((fun _ => rfl) j)
    have C49 : ∀ j : Nat, dt6 80 j = dt 80 j := fun j => (hF8 80 (by decide) j).trans ((fun _ => rfl) j)
    have C50 : ∀ j : Nat, dt6 81 j = dt 81 j := fun j => (hF8 81 (by decide) j).trans ((fun _ => rfl) j)
    have C51 : ∀ j : Nat, dt6 85 j = dt 85 j := fun j => (hF8 85 (by decide) j).trans ((fun _ => rfl) j)
    refine go_toq PM267 (k := 6) (pc' := 428) (L' := [some (.inr (.inr (some 3000))), some (.inr (.inr (some 0))), some (.inr (.inr (some 79))), some (.inl i)]) (st' := [.inl (i + 1), .inr (.inr (some 3000)), .inr (.inr (some 79))]) (w' := (SH, dt6)) rfl ?_
    have r52 := i32_R (xs ((i + 1).toNat))
    refine go_smpq PM267 (L' := [some (.inr (.inr (some 3000))), some (.inr (.inr (some 0))), some (.inr (.inr (some 79))), some (.inl i)]) (st' := [.inl ((xs ((i + 1).toNat)).toInt), .inr (.inr (some 79))]) (w' := (SH, dt6)) rfl rfl (s_iald (n := L) (f := fun j => (xs j).toInt) (am_scr hLL) ⟨by omega, by omega⟩) ?_
    refine go_toq PM267 (k := 4) (pc' := 433) (L' := [some (.inr (.inr (some 3000))), some (.inr (.inr (some 0))), some (.inr (.inr (some 79))), some (.inl i)]) (st' := [.inl (i + 2), .inr (.inr (some 3000)), .inl ((xs ((i + 1).toNat)).toInt), .inr (.inr (some 79))]) (w' := (SH, dt6)) rfl ?_
    have r53 := i32_R (xs ((i + 2).toNat))
    refine go_smpq PM267 (L' := [some (.inr (.inr (some 3000))), some (.inr (.inr (some 0))), some (.inr (.inr (some 79))), some (.inl i)]) (st' := [.inl ((xs ((i + 2).toNat)).toInt), .inl ((xs ((i + 1).toNat)).toInt), .inr (.inr (some 79))]) (w' := (SH, dt6)) rfl rfl (s_iald (n := L) (f := fun j => (xs j).toInt) (am_scr hLL) ⟨by omega, by omega⟩) ?_
    refine go_toq PM267 (k := 4) (pc' := 438) (L' := [some (.inr (.inr (some 3000))), some (.inr (.inr (some 0))), some (.inr (.inr (some 79))), some (.inl i)]) (st' := [.inl (i + 3), .inr (.inr (some 3000)), .inl ((xs ((i + 2).toNat)).toInt), .inl ((xs ((i + 1).toNat)).toInt), .inr (.inr (some 79))]) (w' := (SH, dt6)) rfl ?_
    have r54 := i32_R (xs ((i + 3).toNat))
    refine go_smpq PM267 (L' := [some (.inr (.inr (some 3000))), some (.inr (.inr (some 0))), some (.inr (.inr (some 79))), some (.inl i)]) (st' := [.inl ((xs ((i + 3).toNat)).toInt), .inl ((xs ((i + 2).toNat)).toInt), .inl ((xs ((i + 1).toNat)).toInt), .inr (.inr (some 79))]) (w' := (SH, dt6)) rfl rfl (s_iald (n := L) (f := fun j => (xs j).toInt) (am_scr hLL) ⟨by omega, by omega⟩) ?_
    refine go_toq PM267 (k := 4) (pc' := 443) (L' := [some (.inr (.inr (some 3000))), some (.inr (.inr (some 0))), some (.inr (.inr (some 79))), some (.inl i)]) (st' := [.inl (i + 4), .inr (.inr (some 3000)), .inl ((xs ((i + 3).toNat)).toInt), .inl ((xs ((i + 2).toNat)).toInt), .inl ((xs ((i + 1).toNat)).toInt), .inr (.inr (some 79))]) (w' := (SH, dt6)) rfl ?_
    have r55 := i32_R (xs ((i + 4).toNat))
    refine go_smpq PM267 (L' := [some (.inr (.inr (some 3000))), some (.inr (.inr (some 0))), some (.inr (.inr (some 79))), some (.inl i)]) (st' := [.inl ((xs ((i + 4).toNat)).toInt), .inl ((xs ((i + 3).toNat)).toInt), .inl ((xs ((i + 2).toNat)).toInt), .inl ((xs ((i + 1).toNat)).toInt), .inr (.inr (some 79))]) (w' := (SH, dt6)) rfl rfl (s_iald (n := L) (f := fun j => (xs j).toInt) (am_scr hLL) ⟨by omega, by omega⟩) ?_
    refine go_callq PM267 PM189 (Q' := _) rfl rfl rfl rfl (sp_X6_thinks_w L xs sio (d + 33) dt6 hI7 hM10  ((xs ((i + 1).toNat)).toInt) ⟨by omega, by omega⟩ ((xs ((i + 2).toNat)).toInt) ⟨by omega, by omega⟩ ((xs ((i + 3).toNat)).toInt) ⟨by omega, by omega⟩ ((xs ((i + 4).toNat)).toInt) ⟨by omega, by omega⟩ ) ?_
    rintro _ _ ⟨dt57, rfl, hI58, hF59, h56⟩
    refine ⟨rfl, ?_⟩
    have hF60 : Fr [0, 1, 2, 3, 4, 5, 6, 7, 8, 9, 10, 11, 12, 13, 14, 15, 16, 17, 18, 19, 20, 21, 22, 23, 24, 25, 26, 27, 28, 29, 30, 31, 32, 33, 34, 35, 36, 37, 38, 39, 40, 41, 42, 43, 44, 45, 46, 47, 48, 49, 50, 51, 52, 53, 54, 55, 56, 57, 58, 59, 60, 61, 62, 63, 64, 65, 66, 67, 68, 69, 70, 71, 72, 73, 74, 75, 76, 77, 78, 79, 80, 81, 82, 83, 84, 85, 86, 87, 88, 89, 90, 91, 92, 93, 94, 95, 96, 97, 98, 99, 100, 101, 102, 103, 104] dt dt57 := Fr_tr hF9 hF59 (by decide)
    have hM61 : MW (dt57 80) := MW_fr hM10 hF59 (by decide)
    have w62 : dt57 1 0 = dt 1 0 := (hF59 1 (by decide) 0).trans w11
    have w63 : dt57 7 3 = dt 7 3 := (hF59 7 (by decide) 3).trans w12
    have w64 : dt57 10 3 = dt 10 3 := (hF59 10 (by decide) 3).trans w13
    have w65 : dt57 12 3 = dt 12 3 := (hF59 12 (by decide) 3).trans w14
    have w66 : dt57 14 3 = dt 14 3 := (hF59 14 (by decide) 3).trans w15
    have w67 : dt57 16 3 = dt 16 3 := (hF59 16 (by decide) 3).trans w16
    have w68 : dt57 18 0 = dt 18 0 := (hF59 18 (by decide) 0).trans w17
    have w69 : dt57 24 3 = dt 24 3 := (hF59 24 (by decide) 3).trans w18
    have w70 : dt57 27 3 = dt 27 3 := (hF59 27 (by decide) 3).trans w19
    have w71 : dt57 29 3 = dt 29 3 := (hF59 29 (by decide) 3).trans w20
    have w72 : dt57 31 3 = dt 31 3 := (hF59 31 (by decide) 3).trans w21
    have w73 : dt57 33 3 = dt 33 3 := (hF59 33 (by decide) 3).trans w22
    have w74 : dt57 0 2 = dt 0 2 := (hF59 0 (by decide) 2).trans w23
    have w75 : dt57 35 1 = dt 35 1 := (hF59 35 (by decide) 1).trans w24
    have w76 : dt57 35 2 = dt 35 2 := (hF59 35 (by decide) 2).trans w25
    have w77 : dt57 35 3 = dt 35 3 := (hF59 35 (by decide) 3).trans w26
    have w78 : dt57 80 0 = dt 80 0 := (hF59 80 (by decide) 0).trans w27
    have w79 : dt57 80 1 = dt 80 1 := (hF59 80 (by decide) 1).trans w28
    have w80 : dt57 80 2 = dt 80 2 := (hF59 80 (by decide) 2).trans w29
    have w81 : dt57 80 3 = dt 80 3 := (hF59 80 (by decide) 3).trans w30
    have w82 : dt57 80 4 = dt 80 4 := (hF59 80 (by decide) 4).trans w31
    have w83 : dt57 80 5 = dt 80 5 := (hF59 80 (by decide) 5).trans w32
    have w84 : dt57 81 0 = dt 81 0 := (hF59 81 (by decide) 0).trans w33
    have w85 : dt57 81 1 = dt 81 1 := (hF59 81 (by decide) 1).trans w34
    have w86 : dt57 81 2 = dt 81 2 := (hF59 81 (by decide) 2).trans w35
    have w87 : dt57 81 3 = dt 81 3 := (hF59 81 (by decide) 3).trans w36
    have w88 : dt57 81 4 = dt 81 4 := (hF59 81 (by decide) 4).trans w37
    have w89 : dt57 81 5 = dt 81 5 := (hF59 81 (by decide) 5).trans w38
    have w90 : dt57 79 2 = dt 79 2 := (hF59 79 (by decide) 2).trans w39
    have w91 : dt57 79 12 = dt 79 12 := (hF59 79 (by decide) 12).trans w40
    have w92 : dt57 79 19 = dt 79 19 := (hF59 79 (by decide) 19).trans w41
    have w93 : dt57 79 21 = dt 79 21 := (hF59 79 (by decide) 21).trans w42
    rcases h56 with ⟨rfl, h56⟩ | ⟨v_h56, rfl, h56r, h56⟩
    · skip
      have M294 : MW (dt57 81) := MW_frk M243 hF59 (by decide)
      have C95 : ∀ j : Nat, dt57 2 j = dt 2 j := fun j => (hF59 2 (by decide) j).trans (C44 j)
      have C96 : ∀ j : Nat, dt57 3 j = dt 3 j := fun j => (hF59 3 (by decide) j).trans (C45 j)
      have C97 : ∀ j : Nat, dt57 19 j = dt 19 j := fun j => (hF59 19 (by decide) j).trans (C46 j)
      have C98 : ∀ j : Nat, dt57 20 j = dt 20 j := fun j => (hF59 20 (by decide) j).trans (C47 j)
      have C99 : ∀ j : Nat, dt57 36 j = dt 36 j := fun j => (hF59 36 (by decide) j).trans (C48 j)
      have C100 : ∀ j : Nat, dt57 80 j = dt 80 j := fun j => (hF59 80 (by decide) j).trans (C49 j)
      have C101 : ∀ j : Nat, dt57 81 j = dt 81 j := fun j => (hF59 81 (by decide) j).trans (C50 j)
      have C102 : ∀ j : Nat, dt57 85 j = dt 85 j := fun j => (hF59 85 (by decide) j).trans (C51 j)
      refine go_toq PM267 (k := 2) (pc' := 1435) (L' := [some (.inr (.inr (some 3000))), some (.inr (.inr (some 0))), some (.inr (.inr (some 79))), some (.inl i)]) (st' := []) (w' := (SH, dt57)) rfl ?_
      exact K dt57 hI58 hM61 M294 (w62.trans (hk0.trans w78.symm)) (w63.trans (hk1.trans w79.symm)) (w64.trans (hk2.trans w80.symm)) (w65.trans (hk3.trans w81.symm)) (w66.trans (hk4.trans w82.symm)) (w67.trans (hk5.trans w83.symm)) (w68.trans (hk6.trans w84.symm)) (w69.trans (hk7.trans w85.symm)) (w70.trans (hk8.trans w86.symm)) (w71.trans (hk9.trans w87.symm)) (w72.trans (hk10.trans w88.symm)) (w73.trans (hk11.trans w89.symm)) (w74.trans (hk12.trans w90.symm)) (w75.trans (hk13.trans w91.symm)) (w76.trans (hk14.trans w92.symm)) (w77.trans (hk15.trans w93.symm)) (by first | exact hI | exact TPL_k hd0 C99 C102 (by omega) | (exfalso; omega)) (by first | exact hI | exact SCL_k hd1 hM (fun j _ => C95 j) (fun j _ => C96 j) (fun j _ _ => C100 j) | (exfalso; omega)) (by first | exact hI | exact SCL_k hd2 hM2 (fun j _ => C97 j) (fun j _ => C98 j) (fun j _ _ => C101 j) | (exfalso; omega))
    · skip
      obtain ⟨h56_0, h56_1⟩ := h56
      have M2103 : MW (dt57 81) := MW_frk M243 hF59 (by decide)
      have C104 : ∀ j : Nat, dt57 2 j = dt 2 j := fun j => (hF59 2 (by decide) j).trans (C44 j)
      have C105 : ∀ j : Nat, dt57 3 j = dt 3 j := fun j => (hF59 3 (by decide) j).trans (C45 j)
      have C106 : ∀ j : Nat, dt57 19 j = dt 19 j := fun j => (hF59 19 (by decide) j).trans (C46 j)
      have C107 : ∀ j : Nat, dt57 20 j = dt 20 j := fun j => (hF59 20 (by decide) j).trans (C47 j)
      have C108 : ∀ j : Nat, dt57 36 j = dt 36 j := fun j => (hF59 36 (by decide) j).trans (C48 j)
      have C109 : ∀ j : Nat, dt57 80 j = dt 80 j := fun j => (hF59 80 (by decide) j).trans (C49 j)
      have C110 : ∀ j : Nat, dt57 81 j = dt 81 j := fun j => (hF59 81 (by decide) j).trans (C50 j)
      have C111 : ∀ j : Nat, dt57 85 j = dt 85 j := fun j => (hF59 85 (by decide) j).trans (C51 j)
      rw [show dt6 80 = dt 80 from funext C49] at h56_1
      refine go_toq PM267 (k := 2) (pc' := 1435) (L' := [some (.inr (.inr (some 3000))), some (.inr (.inr (some 0))), some (.inr (.inr (some 79))), some (.inl i)]) (st' := []) (w' := (SH, dt57)) rfl ?_
      exact K dt57 hI58 hM61 M2103 (w62.trans (hk0.trans w78.symm)) (w63.trans (hk1.trans w79.symm)) (w64.trans (hk2.trans w80.symm)) (w65.trans (hk3.trans w81.symm)) (w66.trans (hk4.trans w82.symm)) (w67.trans (hk5.trans w83.symm)) (w68.trans (hk6.trans w84.symm)) (w69.trans (hk7.trans w85.symm)) (w70.trans (hk8.trans w86.symm)) (w71.trans (hk9.trans w87.symm)) (w72.trans (hk10.trans w88.symm)) (w73.trans (hk11.trans w89.symm)) (w74.trans (hk12.trans w90.symm)) (w75.trans (hk13.trans w91.symm)) (w76.trans (hk14.trans w92.symm)) (w77.trans (hk15.trans w93.symm)) (by first | exact hI | exact TPL_k hd0 C108 C111 (by omega) | (exfalso; omega)) (by first | exact hI | exact SCL_k hd1 hM (fun j _ => C104 j) (fun j _ => C105 j) (fun j _ _ => C109 j) | (exfalso; omega)) (by first | exact hI | exact SCL_k hd2 hM2 (fun j _ => C106 j) (fun j _ => C107 j) (fun j _ _ => C110 j) | (exfalso; omega))
  · skip
    obtain ⟨h5_0, h5_1⟩ := h5
    have M2112 : MW (dt6 81) := MW_frk hM2 hF8 (by decide)
    have C113 : ∀ j : Nat, dt6 2 j = dt 2 j := fun j => (hF8 2 (by decide) j).trans ((fun _ => rfl) j)
    have C114 : ∀ j : Nat, dt6 3 j = dt 3 j := fun j => (hF8 3 (by decide) j).trans ((fun _ => rfl) j)
    have C115 : ∀ j : Nat, dt6 19 j = dt 19 j := fun j => (hF8 19 (by decide) j).trans ((fun _ => rfl) j)
    have C116 : ∀ j : Nat, dt6 20 j = dt 20 j := fun j => (hF8 20 (by decide) j).trans ((fun _ => rfl) j)
    have C117 : ∀ j : Nat, dt6 36 j = dt 36 j := fun j => (hF8 36 (by decide) j).trans ((fun _ => rfl) j)
    have C118 : ∀ j : Nat, dt6 80 j = dt 80 j := fun j => (hF8 80 (by decide) j).trans ((fun _ => rfl) j)
    have C119 : ∀ j : Nat, dt6 81 j = dt 81 j := fun j => (hF8 81 (by decide) j).trans ((fun _ => rfl) j)
    have C120 : ∀ j : Nat, dt6 85 j = dt 85 j := fun j => (hF8 85 (by decide) j).trans ((fun _ => rfl) j)
    refine go_toq PM267 (k := 6) (pc' := 428) (L' := [some (.inr (.inr (some 3000))), some (.inr (.inr (some 0))), some (.inr (.inr (some 79))), some (.inl i)]) (st' := [.inl (i + 1), .inr (.inr (some 3000)), .inr (.inr (some 79))]) (w' := (SH, dt6)) rfl ?_
    have r121 := i32_R (xs ((i + 1).toNat))
    refine go_smpq PM267 (L' := [some (.inr (.inr (some 3000))), some (.inr (.inr (some 0))), some (.inr (.inr (some 79))), some (.inl i)]) (st' := [.inl ((xs ((i + 1).toNat)).toInt), .inr (.inr (some 79))]) (w' := (SH, dt6)) rfl rfl (s_iald (n := L) (f := fun j => (xs j).toInt) (am_scr hLL) ⟨by omega, by omega⟩) ?_
    refine go_toq PM267 (k := 4) (pc' := 433) (L' := [some (.inr (.inr (some 3000))), some (.inr (.inr (some 0))), some (.inr (.inr (some 79))), some (.inl i)]) (st' := [.inl (i + 2), .inr (.inr (some 3000)), .inl ((xs ((i + 1).toNat)).toInt), .inr (.inr (some 79))]) (w' := (SH, dt6)) rfl ?_
    have r122 := i32_R (xs ((i + 2).toNat))
    refine go_smpq PM267 (L' := [some (.inr (.inr (some 3000))), some (.inr (.inr (some 0))), some (.inr (.inr (some 79))), some (.inl i)]) (st' := [.inl ((xs ((i + 2).toNat)).toInt), .inl ((xs ((i + 1).toNat)).toInt), .inr (.inr (some 79))]) (w' := (SH, dt6)) rfl rfl (s_iald (n := L) (f := fun j => (xs j).toInt) (am_scr hLL) ⟨by omega, by omega⟩) ?_
    refine go_toq PM267 (k := 4) (pc' := 438) (L' := [some (.inr (.inr (some 3000))), some (.inr (.inr (some 0))), some (.inr (.inr (some 79))), some (.inl i)]) (st' := [.inl (i + 3), .inr (.inr (some 3000)), .inl ((xs ((i + 2).toNat)).toInt), .inl ((xs ((i + 1).toNat)).toInt), .inr (.inr (some 79))]) (w' := (SH, dt6)) rfl ?_
    have r123 := i32_R (xs ((i + 3).toNat))
    refine go_smpq PM267 (L' := [some (.inr (.inr (some 3000))), some (.inr (.inr (some 0))), some (.inr (.inr (some 79))), some (.inl i)]) (st' := [.inl ((xs ((i + 3).toNat)).toInt), .inl ((xs ((i + 2).toNat)).toInt), .inl ((xs ((i + 1).toNat)).toInt), .inr (.inr (some 79))]) (w' := (SH, dt6)) rfl rfl (s_iald (n := L) (f := fun j => (xs j).toInt) (am_scr hLL) ⟨by omega, by omega⟩) ?_
    refine go_toq PM267 (k := 4) (pc' := 443) (L' := [some (.inr (.inr (some 3000))), some (.inr (.inr (some 0))), some (.inr (.inr (some 79))), some (.inl i)]) (st' := [.inl (i + 4), .inr (.inr (some 3000)), .inl ((xs ((i + 3).toNat)).toInt), .inl ((xs ((i + 2).toNat)).toInt), .inl ((xs ((i + 1).toNat)).toInt), .inr (.inr (some 79))]) (w' := (SH, dt6)) rfl ?_
    have r124 := i32_R (xs ((i + 4).toNat))
    refine go_smpq PM267 (L' := [some (.inr (.inr (some 3000))), some (.inr (.inr (some 0))), some (.inr (.inr (some 79))), some (.inl i)]) (st' := [.inl ((xs ((i + 4).toNat)).toInt), .inl ((xs ((i + 3).toNat)).toInt), .inl ((xs ((i + 2).toNat)).toInt), .inl ((xs ((i + 1).toNat)).toInt), .inr (.inr (some 79))]) (w' := (SH, dt6)) rfl rfl (s_iald (n := L) (f := fun j => (xs j).toInt) (am_scr hLL) ⟨by omega, by omega⟩) ?_
    refine go_callq PM267 PM189 (Q' := _) rfl rfl rfl rfl (sp_X6_thinks_w L xs sio (d + 33) dt6 hI7 hM10  ((xs ((i + 1).toNat)).toInt) ⟨by omega, by omega⟩ ((xs ((i + 2).toNat)).toInt) ⟨by omega, by omega⟩ ((xs ((i + 3).toNat)).toInt) ⟨by omega, by omega⟩ ((xs ((i + 4).toNat)).toInt) ⟨by omega, by omega⟩ ) ?_
    rintro _ _ ⟨dt126, rfl, hI127, hF128, h125⟩
    refine ⟨rfl, ?_⟩
    have hF129 : Fr [0, 1, 2, 3, 4, 5, 6, 7, 8, 9, 10, 11, 12, 13, 14, 15, 16, 17, 18, 19, 20, 21, 22, 23, 24, 25, 26, 27, 28, 29, 30, 31, 32, 33, 34, 35, 36, 37, 38, 39, 40, 41, 42, 43, 44, 45, 46, 47, 48, 49, 50, 51, 52, 53, 54, 55, 56, 57, 58, 59, 60, 61, 62, 63, 64, 65, 66, 67, 68, 69, 70, 71, 72, 73, 74, 75, 76, 77, 78, 79, 80, 81, 82, 83, 84, 85, 86, 87, 88, 89, 90, 91, 92, 93, 94, 95, 96, 97, 98, 99, 100, 101, 102, 103, 104] dt dt126 := Fr_tr hF9 hF128 (by decide)
    have hM130 : MW (dt126 80) := MW_fr hM10 hF128 (by decide)
    have w131 : dt126 1 0 = dt 1 0 := (hF128 1 (by decide) 0).trans w11
    have w132 : dt126 7 3 = dt 7 3 := (hF128 7 (by decide) 3).trans w12
    have w133 : dt126 10 3 = dt 10 3 := (hF128 10 (by decide) 3).trans w13
    have w134 : dt126 12 3 = dt 12 3 := (hF128 12 (by decide) 3).trans w14
    have w135 : dt126 14 3 = dt 14 3 := (hF128 14 (by decide) 3).trans w15
    have w136 : dt126 16 3 = dt 16 3 := (hF128 16 (by decide) 3).trans w16
    have w137 : dt126 18 0 = dt 18 0 := (hF128 18 (by decide) 0).trans w17
    have w138 : dt126 24 3 = dt 24 3 := (hF128 24 (by decide) 3).trans w18
    have w139 : dt126 27 3 = dt 27 3 := (hF128 27 (by decide) 3).trans w19
    have w140 : dt126 29 3 = dt 29 3 := (hF128 29 (by decide) 3).trans w20
    have w141 : dt126 31 3 = dt 31 3 := (hF128 31 (by decide) 3).trans w21
    have w142 : dt126 33 3 = dt 33 3 := (hF128 33 (by decide) 3).trans w22
    have w143 : dt126 0 2 = dt 0 2 := (hF128 0 (by decide) 2).trans w23
    have w144 : dt126 35 1 = dt 35 1 := (hF128 35 (by decide) 1).trans w24
    have w145 : dt126 35 2 = dt 35 2 := (hF128 35 (by decide) 2).trans w25
    have w146 : dt126 35 3 = dt 35 3 := (hF128 35 (by decide) 3).trans w26
    have w147 : dt126 80 0 = dt 80 0 := (hF128 80 (by decide) 0).trans w27
    have w148 : dt126 80 1 = dt 80 1 := (hF128 80 (by decide) 1).trans w28
    have w149 : dt126 80 2 = dt 80 2 := (hF128 80 (by decide) 2).trans w29
    have w150 : dt126 80 3 = dt 80 3 := (hF128 80 (by decide) 3).trans w30
    have w151 : dt126 80 4 = dt 80 4 := (hF128 80 (by decide) 4).trans w31
    have w152 : dt126 80 5 = dt 80 5 := (hF128 80 (by decide) 5).trans w32
    have w153 : dt126 81 0 = dt 81 0 := (hF128 81 (by decide) 0).trans w33
    have w154 : dt126 81 1 = dt 81 1 := (hF128 81 (by decide) 1).trans w34
    have w155 : dt126 81 2 = dt 81 2 := (hF128 81 (by decide) 2).trans w35
    have w156 : dt126 81 3 = dt 81 3 := (hF128 81 (by decide) 3).trans w36
    have w157 : dt126 81 4 = dt 81 4 := (hF128 81 (by decide) 4).trans w37
    have w158 : dt126 81 5 = dt 81 5 := (hF128 81 (by decide) 5).trans w38
    have w159 : dt126 79 2 = dt 79 2 := (hF128 79 (by decide) 2).trans w39
    have w160 : dt126 79 12 = dt 79 12 := (hF128 79 (by decide) 12).trans w40
    have w161 : dt126 79 19 = dt 79 19 := (hF128 79 (by decide) 19).trans w41
    have w162 : dt126 79 21 = dt 79 21 := (hF128 79 (by decide) 21).trans w42
    rcases h125 with ⟨rfl, h125⟩ | ⟨v_h125, rfl, h125r, h125⟩
    · skip
      have M2163 : MW (dt126 81) := MW_frk M2112 hF128 (by decide)
      have C164 : ∀ j : Nat, dt126 2 j = dt 2 j := fun j => (hF128 2 (by decide) j).trans (C113 j)
      have C165 : ∀ j : Nat, dt126 3 j = dt 3 j := fun j => (hF128 3 (by decide) j).trans (C114 j)
      have C166 : ∀ j : Nat, dt126 19 j = dt 19 j := fun j => (hF128 19 (by decide) j).trans (C115 j)
      have C167 : ∀ j : Nat, dt126 20 j = dt 20 j := fun j => (hF128 20 (by decide) j).trans (C116 j)
      have C168 : ∀ j : Nat, dt126 36 j = dt 36 j := fun j => (hF128 36 (by decide) j).trans (C117 j)
      have C169 : ∀ j : Nat, dt126 80 j = dt 80 j := fun j => (hF128 80 (by decide) j).trans (C118 j)
      have C170 : ∀ j : Nat, dt126 81 j = dt 81 j := fun j => (hF128 81 (by decide) j).trans (C119 j)
      have C171 : ∀ j : Nat, dt126 85 j = dt 85 j := fun j => (hF128 85 (by decide) j).trans (C120 j)
      refine go_toq PM267 (k := 2) (pc' := 1435) (L' := [some (.inr (.inr (some 3000))), some (.inr (.inr (some 0))), some (.inr (.inr (some 79))), some (.inl i)]) (st' := []) (w' := (SH, dt126)) rfl ?_
      exact K dt126 hI127 hM130 M2163 (w131.trans (hk0.trans w147.symm)) (w132.trans (hk1.trans w148.symm)) (w133.trans (hk2.trans w149.symm)) (w134.trans (hk3.trans w150.symm)) (w135.trans (hk4.trans w151.symm)) (w136.trans (hk5.trans w152.symm)) (w137.trans (hk6.trans w153.symm)) (w138.trans (hk7.trans w154.symm)) (w139.trans (hk8.trans w155.symm)) (w140.trans (hk9.trans w156.symm)) (w141.trans (hk10.trans w157.symm)) (w142.trans (hk11.trans w158.symm)) (w143.trans (hk12.trans w159.symm)) (w144.trans (hk13.trans w160.symm)) (w145.trans (hk14.trans w161.symm)) (w146.trans (hk15.trans w162.symm)) (by first | exact hI | exact TPL_k hd0 C168 C171 (by omega) | (exfalso; omega)) (by first | exact hI | exact SCL_k hd1 hM (fun j _ => C164 j) (fun j _ => C165 j) (fun j _ _ => C169 j) | (exfalso; omega)) (by first | exact hI | exact SCL_k hd2 hM2 (fun j _ => C166 j) (fun j _ => C167 j) (fun j _ _ => C170 j) | (exfalso; omega))
    · skip
      obtain ⟨h125_0, h125_1⟩ := h125
      have M2172 : MW (dt126 81) := MW_frk M2112 hF128 (by decide)
      have C173 : ∀ j : Nat, dt126 2 j = dt 2 j := fun j => (hF128 2 (by decide) j).trans (C113 j)
      have C174 : ∀ j : Nat, dt126 3 j = dt 3 j := fun j => (hF128 3 (by decide) j).trans (C114 j)
      have C175 : ∀ j : Nat, dt126 19 j = dt 19 j := fun j => (hF128 19 (by decide) j).trans (C115 j)
      have C176 : ∀ j : Nat, dt126 20 j = dt 20 j := fun j => (hF128 20 (by decide) j).trans (C116 j)
      have C177 : ∀ j : Nat, dt126 36 j = dt 36 j := fun j => (hF128 36 (by decide) j).trans (C117 j)
      have C178 : ∀ j : Nat, dt126 80 j = dt 80 j := fun j => (hF128 80 (by decide) j).trans (C118 j)
      have C179 : ∀ j : Nat, dt126 81 j = dt 81 j := fun j => (hF128 81 (by decide) j).trans (C119 j)
      have C180 : ∀ j : Nat, dt126 85 j = dt 85 j := fun j => (hF128 85 (by decide) j).trans (C120 j)
      rw [show dt6 80 = dt 80 from funext C118] at h125_1
      have y181 : wr v_h5 = wr v_h125 := congrArg wr (h5_1.trans h125_1.symm)
      refine go_toq PM267 (k := 2) (pc' := 1435) (L' := [some (.inr (.inr (some 3000))), some (.inr (.inr (some 0))), some (.inr (.inr (some 79))), some (.inl i)]) (st' := []) (w' := (SH, dt126)) rfl ?_
      exact K dt126 hI127 hM130 M2172 (w131.trans (hk0.trans w147.symm)) (w132.trans (hk1.trans w148.symm)) (w133.trans (hk2.trans w149.symm)) (w134.trans (hk3.trans w150.symm)) (w135.trans (hk4.trans w151.symm)) (w136.trans (hk5.trans w152.symm)) (w137.trans (hk6.trans w153.symm)) (w138.trans (hk7.trans w154.symm)) (w139.trans (hk8.trans w155.symm)) (w140.trans (hk9.trans w156.symm)) (w141.trans (hk10.trans w157.symm)) (w142.trans (hk11.trans w158.symm)) (w143.trans (hk12.trans w159.symm)) (w144.trans (hk13.trans w160.symm)) (w145.trans (hk14.trans w161.symm)) (w146.trans (hk15.trans w162.symm)) (by first | exact hI | exact TPL_k hd0 C177 C180 (by omega) | (exfalso; omega)) (by first | exact hI | exact SCL_k hd1 hM (fun j _ => C173 j) (fun j _ => C174 j) (fun j _ _ => C178 j) | (exfalso; omega)) (by first | exact hI | exact SCL_k hd2 hM2 (fun j _ => C175 j) (fun j _ => C176 j) (fun j _ _ => C179 j) | (exfalso; omega))
set_option maxRecDepth 20000 in
set_option maxHeartbeats 8000000 in
theorem sp_case7 (L : Nat) (xs : Nat → Int32) (sio : Option Nat) (d : Nat) (Q : Option AV → am_W → Prop) (hLL : L ≤ 3072) (i : Int) (hi : 0 ≤ i ∧ i ≤ 3066) (hil : i ≤ (L : Int) - 6) (dt : Nat → Nat → Int) (hI : InvC dt) (hM : MW (dt 80)) (hM2 : MW (dt 81)) (hk0 : dt 1 0 = dt 80 0) (hk1 : dt 7 3 = dt 80 1) (hk2 : dt 10 3 = dt 80 2) (hk3 : dt 12 3 = dt 80 3) (hk4 : dt 14 3 = dt 80 4) (hk5 : dt 16 3 = dt 80 5) (hk6 : dt 18 0 = dt 81 0) (hk7 : dt 24 3 = dt 81 1) (hk8 : dt 27 3 = dt 81 2) (hk9 : dt 29 3 = dt 81 3) (hk10 : dt 31 3 = dt 81 4) (hk11 : dt 33 3 = dt 81 5) (hk12 : dt 0 2 = dt 79 2) (hk13 : dt 35 1 = dt 79 12) (hk14 : dt 35 2 = dt 79 19) (hk15 : dt 35 3 = dt 79 21) (hd0 : TPL (dt 36) (dt 85) (dt 35 1)) (hd1 : SCL (dt 2) (dt 3) (dt 80)) (hd2 : SCL (dt 19) (dt 20) (dt 81)) (K : ∀ (dt : Nat → Nat → Int) (hI : InvC dt) (hM : MW (dt 80)) (hM2 : MW (dt 81)) (hk0 : dt 1 0 = dt 80 0) (hk1 : dt 7 3 = dt 80 1) (hk2 : dt 10 3 = dt 80 2) (hk3 : dt 12 3 = dt 80 3) (hk4 : dt 14 3 = dt 80 4) (hk5 : dt 16 3 = dt 80 5) (hk6 : dt 18 0 = dt 81 0) (hk7 : dt 24 3 = dt 81 1) (hk8 : dt 27 3 = dt 81 2) (hk9 : dt 29 3 = dt 81 3) (hk10 : dt 31 3 = dt 81 4) (hk11 : dt 33 3 = dt 81 5) (hk12 : dt 0 2 = dt 79 2) (hk13 : dt 35 1 = dt 79 12) (hk14 : dt 35 2 = dt 79 19) (hk15 : dt 35 3 = dt 79 21) (hd0 : TPL (dt 36) (dt 85) (dt 35 1)) (hd1 : SCL (dt 2) (dt 3) (dt 80)) (hd2 : SCL (dt 19) (dt 20) (dt 81)), GO (am_XX L xs sio) (d + 39) 267 1435 [some (.inr (.inr (some 3000))), some (.inr (.inr (some 0))), some (.inr (.inr (some 79))), some (.inl i)] [] (SH, dt) Q) : GO (am_XX L xs sio) (d + 39) 267 451 [some (.inr (.inr (some 3000))), some (.inr (.inr (some 0))), some (.inr (.inr (some 79))), some (.inl i)] [] (SH, dt) Q := by
  have hF : Fr [0, 1, 2, 3, 4, 5, 6, 7, 8, 9, 10, 11, 12, 13, 14, 15, 16, 17, 18, 19, 20, 21, 22, 23, 24, 25, 26, 27, 28, 29, 30, 31, 32, 33, 34, 35, 36, 37, 38, 39, 40, 41, 42, 43, 44, 45, 46, 47, 48, 49, 50, 51, 52, 53, 54, 55, 56, 57, 58, 59, 60, 61, 62, 63, 64, 65, 66, 67, 68, 69, 70, 71, 72, 73, 74, 75, 76, 77, 78, 79, 80, 81, 82, 83, 84, 85, 86, 87, 88, 89, 90, 91, 92, 93, 94, 95, 96, 97, 98, 99, 100, 101, 102, 103, 104] dt dt := Fr_refl
  have r1 : (-2147483648) ≤ dt 1 0 ∧ dt 1 0 ≤ 2147483647 := InvC_get hI 1 0 rfl rfl
  have r2 : 0 ≤ dt 7 3 ∧ dt 7 3 ≤ 12 := InvC_get hI 7 3 rfl rfl
  have r3 : 0 ≤ dt 10 3 ∧ dt 10 3 ≤ 40 := InvC_get hI 10 3 rfl rfl
  have r4 : 0 ≤ dt 12 3 ∧ dt 12 3 ≤ 300 := InvC_get hI 12 3 rfl rfl
  have r5 : 0 ≤ dt 14 3 ∧ dt 14 3 ≤ 40 := InvC_get hI 14 3 rfl rfl
  have r6 : 0 ≤ dt 16 3 ∧ dt 16 3 ≤ 20 := InvC_get hI 16 3 rfl rfl
  have r7 : (-2147483648) ≤ dt 18 0 ∧ dt 18 0 ≤ 2147483647 := InvC_get hI 18 0 rfl rfl
  have r8 : 0 ≤ dt 24 3 ∧ dt 24 3 ≤ 12 := InvC_get hI 24 3 rfl rfl
  have r9 : 0 ≤ dt 27 3 ∧ dt 27 3 ≤ 40 := InvC_get hI 27 3 rfl rfl
  have r10 : 0 ≤ dt 29 3 ∧ dt 29 3 ≤ 300 := InvC_get hI 29 3 rfl rfl
  have r11 : 0 ≤ dt 31 3 ∧ dt 31 3 ≤ 40 := InvC_get hI 31 3 rfl rfl
  have r12 : 0 ≤ dt 33 3 ∧ dt 33 3 ≤ 20 := InvC_get hI 33 3 rfl rfl
  have r13 : 0 ≤ dt 0 2 ∧ dt 0 2 ≤ 1 := InvC_get hI 0 2 rfl rfl
  have r14 : 0 ≤ dt 35 1 ∧ dt 35 1 ≤ 500 := InvC_get hI 35 1 rfl rfl
  have r15 : (-2147483648) ≤ dt 35 2 ∧ dt 35 2 ≤ 2147483647 := InvC_get hI 35 2 rfl rfl
  have r16 : (-2147483648) ≤ dt 35 3 ∧ dt 35 3 ≤ 2147483647 := InvC_get hI 35 3 rfl rfl
  have r17 : (-2147483648) ≤ dt 80 0 ∧ dt 80 0 ≤ 2147483647 := InvC_get hI 80 0 rfl rfl
  have r18 : (-2147483648) ≤ dt 80 1 ∧ dt 80 1 ≤ 2147483647 := InvC_get hI 80 1 rfl rfl
  have r19 := MW_n hM
  have r20 : (-2147483648) ≤ dt 80 2 ∧ dt 80 2 ≤ 2147483647 := InvC_get hI 80 2 rfl rfl
  have r21 : (-2147483648) ≤ dt 80 3 ∧ dt 80 3 ≤ 2147483647 := InvC_get hI 80 3 rfl rfl
  have r22 : (-2147483648) ≤ dt 80 4 ∧ dt 80 4 ≤ 2147483647 := InvC_get hI 80 4 rfl rfl
  have r23 : (-2147483648) ≤ dt 80 5 ∧ dt 80 5 ≤ 2147483647 := InvC_get hI 80 5 rfl rfl
  have r24 : (-2147483648) ≤ dt 81 0 ∧ dt 81 0 ≤ 2147483647 := InvC_get hI 81 0 rfl rfl
  have r25 : (-2147483648) ≤ dt 81 1 ∧ dt 81 1 ≤ 2147483647 := InvC_get hI 81 1 rfl rfl
  have r26 : (-2147483648) ≤ dt 81 2 ∧ dt 81 2 ≤ 2147483647 := InvC_get hI 81 2 rfl rfl
  have r27 : (-2147483648) ≤ dt 81 3 ∧ dt 81 3 ≤ 2147483647 := InvC_get hI 81 3 rfl rfl
  have r28 : (-2147483648) ≤ dt 81 4 ∧ dt 81 4 ≤ 2147483647 := InvC_get hI 81 4 rfl rfl
  have r29 : (-2147483648) ≤ dt 81 5 ∧ dt 81 5 ≤ 2147483647 := InvC_get hI 81 5 rfl rfl
  have r30 : 0 ≤ dt 79 2 ∧ dt 79 2 ≤ 1 := InvC_get hI 79 2 rfl rfl
  have r31 : 0 ≤ dt 79 12 ∧ dt 79 12 ≤ 500 := InvC_get hI 79 12 rfl rfl
  have r32 : (-2147483648) ≤ dt 79 19 ∧ dt 79 19 ≤ 2147483647 := InvC_get hI 79 19 rfl rfl
  have r33 : (-2147483648) ≤ dt 79 21 ∧ dt 79 21 ≤ 2147483647 := InvC_get hI 79 21 rfl rfl
  refine go_toq PM267 (k := 5) (pc' := 456) (L' := [some (.inr (.inr (some 3000))), some (.inr (.inr (some 0))), some (.inr (.inr (some 79))), some (.inl i)]) (st' := [.inl (i + 1), .inr (.inr (some 3000)), .inr (.inr (some 0))]) (w' := (SH, dt)) rfl ?_
  have r34 := i32_R (xs ((i + 1).toNat))
  refine go_smpq PM267 (L' := [some (.inr (.inr (some 3000))), some (.inr (.inr (some 0))), some (.inr (.inr (some 79))), some (.inl i)]) (st' := [.inl ((xs ((i + 1).toNat)).toInt), .inr (.inr (some 0))]) (w' := (SH, dt)) rfl rfl (s_iald (n := L) (f := fun j => (xs j).toInt) (am_scr hLL) ⟨by omega, by omega⟩) ?_
  refine go_toq PM267 (k := 4) (pc' := 461) (L' := [some (.inr (.inr (some 3000))), some (.inr (.inr (some 0))), some (.inr (.inr (some 79))), some (.inl i)]) (st' := [.inl (i + 2), .inr (.inr (some 3000)), .inl ((xs ((i + 1).toNat)).toInt), .inr (.inr (some 0))]) (w' := (SH, dt)) rfl ?_
  have r35 := i32_R (xs ((i + 2).toNat))
  refine go_smpq PM267 (L' := [some (.inr (.inr (some 3000))), some (.inr (.inr (some 0))), some (.inr (.inr (some 79))), some (.inl i)]) (st' := [.inl ((xs ((i + 2).toNat)).toInt), .inl ((xs ((i + 1).toNat)).toInt), .inr (.inr (some 0))]) (w' := (SH, dt)) rfl rfl (s_iald (n := L) (f := fun j => (xs j).toInt) (am_scr hLL) ⟨by omega, by omega⟩) ?_
  refine go_toq PM267 (k := 4) (pc' := 466) (L' := [some (.inr (.inr (some 3000))), some (.inr (.inr (some 0))), some (.inr (.inr (some 79))), some (.inl i)]) (st' := [.inl (i + 3), .inr (.inr (some 3000)), .inl ((xs ((i + 2).toNat)).toInt), .inl ((xs ((i + 1).toNat)).toInt), .inr (.inr (some 0))]) (w' := (SH, dt)) rfl ?_
  have r36 := i32_R (xs ((i + 3).toNat))
  refine go_smpq PM267 (L' := [some (.inr (.inr (some 3000))), some (.inr (.inr (some 0))), some (.inr (.inr (some 79))), some (.inl i)]) (st' := [.inl ((xs ((i + 3).toNat)).toInt), .inl ((xs ((i + 2).toNat)).toInt), .inl ((xs ((i + 1).toNat)).toInt), .inr (.inr (some 0))]) (w' := (SH, dt)) rfl rfl (s_iald (n := L) (f := fun j => (xs j).toInt) (am_scr hLL) ⟨by omega, by omega⟩) ?_
  refine go_callq PM267 PM74 (Q' := _) rfl rfl rfl rfl (sp_X5_here_w L xs sio (d + 33) dt hI hM  ((xs ((i + 1).toNat)).toInt) ⟨by omega, by omega⟩ ((xs ((i + 2).toNat)).toInt) ⟨by omega, by omega⟩ ((xs ((i + 3).toNat)).toInt) ⟨by omega, by omega⟩ (by first | exact True.intro | with_reducible assumption | rfl | omega | trivial | exact hM2 | exact hd1)) ?_
  rintro _ _ ⟨dt38, rfl, hI39, hF40, h37⟩
  refine ⟨rfl, ?_⟩
  have hF41 : Fr [0, 1, 2, 3, 4, 5, 6, 7, 8, 9, 10, 11, 12, 13, 14, 15, 16, 17, 18, 19, 20, 21, 22, 23, 24, 25, 26, 27, 28, 29, 30, 31, 32, 33, 34, 35, 36, 37, 38, 39, 40, 41, 42, 43, 44, 45, 46, 47, 48, 49, 50, 51, 52, 53, 54, 55, 56, 57, 58, 59, 60, 61, 62, 63, 64, 65, 66, 67, 68, 69, 70, 71, 72, 73, 74, 75, 76, 77, 78, 79, 80, 81, 82, 83, 84, 85, 86, 87, 88, 89, 90, 91, 92, 93, 94, 95, 96, 97, 98, 99, 100, 101, 102, 103, 104] dt dt38 := Fr_tr hF hF40 (by decide)
  have hM42 : MW (dt38 80) := MW_fr hM hF40 (by decide)
  have w43 : dt38 1 0 = dt 1 0 := hF40 1 (by decide) 0
  have w44 : dt38 7 3 = dt 7 3 := hF40 7 (by decide) 3
  have w45 : dt38 10 3 = dt 10 3 := hF40 10 (by decide) 3
  have w46 : dt38 12 3 = dt 12 3 := hF40 12 (by decide) 3
  have w47 : dt38 14 3 = dt 14 3 := hF40 14 (by decide) 3
  have w48 : dt38 16 3 = dt 16 3 := hF40 16 (by decide) 3
  have w49 : dt38 18 0 = dt 18 0 := hF40 18 (by decide) 0
  have w50 : dt38 24 3 = dt 24 3 := hF40 24 (by decide) 3
  have w51 : dt38 27 3 = dt 27 3 := hF40 27 (by decide) 3
  have w52 : dt38 29 3 = dt 29 3 := hF40 29 (by decide) 3
  have w53 : dt38 31 3 = dt 31 3 := hF40 31 (by decide) 3
  have w54 : dt38 33 3 = dt 33 3 := hF40 33 (by decide) 3
  have w55 : dt38 0 2 = dt 0 2 := hF40 0 (by decide) 2
  have w56 : dt38 35 1 = dt 35 1 := hF40 35 (by decide) 1
  have w57 : dt38 35 2 = dt 35 2 := hF40 35 (by decide) 2
  have w58 : dt38 35 3 = dt 35 3 := hF40 35 (by decide) 3
  have w59 : dt38 80 0 = dt 80 0 := hF40 80 (by decide) 0
  have w60 : dt38 80 1 = dt 80 1 := hF40 80 (by decide) 1
  have w61 : dt38 80 2 = dt 80 2 := hF40 80 (by decide) 2
  have w62 : dt38 80 3 = dt 80 3 := hF40 80 (by decide) 3
  have w63 : dt38 80 4 = dt 80 4 := hF40 80 (by decide) 4
  have w64 : dt38 80 5 = dt 80 5 := hF40 80 (by decide) 5
  have w65 : dt38 81 0 = dt 81 0 := hF40 81 (by decide) 0
  have w66 : dt38 81 1 = dt 81 1 := hF40 81 (by decide) 1
  have w67 : dt38 81 2 = dt 81 2 := hF40 81 (by decide) 2
  have w68 : dt38 81 3 = dt 81 3 := hF40 81 (by decide) 3
  have w69 : dt38 81 4 = dt 81 4 := hF40 81 (by decide) 4
  have w70 : dt38 81 5 = dt 81 5 := hF40 81 (by decide) 5
  have w71 : dt38 79 2 = dt 79 2 := hF40 79 (by decide) 2
  have w72 : dt38 79 12 = dt 79 12 := hF40 79 (by decide) 12
  have w73 : dt38 79 19 = dt 79 19 := hF40 79 (by decide) 19
  have w74 : dt38 79 21 = dt 79 21 := hF40 79 (by decide) 21
  rcases h37 with ⟨rfl, h37⟩ | ⟨v_h37, rfl, h37r, h37⟩
  · skip
    have M275 : MW (dt38 81) := MW_frk hM2 hF40 (by decide)
    have C76 : ∀ j : Nat, dt38 2 j = dt 2 j := fun j => (hF40 2 (by decide) j).trans ((fun _ => rfl) j)
    have C77 : ∀ j : Nat, dt38 3 j = dt 3 j := fun j => (hF40 3 (by decide) j).trans ((fun _ => rfl) j)
    have C78 : ∀ j : Nat, dt38 19 j = dt 19 j := fun j => (hF40 19 (by decide) j).trans ((fun _ => rfl) j)
    have C79 : ∀ j : Nat, dt38 20 j = dt 20 j := fun j => (hF40 20 (by decide) j).trans ((fun _ => rfl) j)
    have C80 : ∀ j : Nat, dt38 36 j = dt 36 j := fun j => (hF40 36 (by decide) j).trans ((fun _ => rfl) j)
    have C81 : ∀ j : Nat, dt38 80 j = dt 80 j := fun j => (hF40 80 (by decide) j).trans ((fun _ => rfl) j)
    have C82 : ∀ j : Nat, dt38 81 j = dt 81 j := fun j => (hF40 81 (by decide) j).trans ((fun _ => rfl) j)
    have C83 : ∀ j : Nat, dt38 85 j = dt 85 j := fun j => (hF40 85 (by decide) j).trans ((fun _ => rfl) j)
    refine go_toq PM267 (k := 5) (pc' := 475) (L' := [some (.inr (.inr (some 3000))), some (.inr (.inr (some 0))), some (.inr (.inr (some 79))), some (.inl i)]) (st' := [.inl (i + 1), .inr (.inr (some 3000)), .inr (.inr (some 79)), .inl (-1)]) (w' := (SH, dt38)) rfl ?_
    have r84 := i32_R (xs ((i + 1).toNat))
    refine go_smpq PM267 (L' := [some (.inr (.inr (some 3000))), some (.inr (.inr (some 0))), some (.inr (.inr (some 79))), some (.inl i)]) (st' := [.inl ((xs ((i + 1).toNat)).toInt), .inr (.inr (some 79)), .inl (-1)]) (w' := (SH, dt38)) rfl rfl (s_iald (n := L) (f := fun j => (xs j).toInt) (am_scr hLL) ⟨by omega, by omega⟩) ?_
    refine go_toq PM267 (k := 4) (pc' := 480) (L' := [some (.inr (.inr (some 3000))), some (.inr (.inr (some 0))), some (.inr (.inr (some 79))), some (.inl i)]) (st' := [.inl (i + 2), .inr (.inr (some 3000)), .inl ((xs ((i + 1).toNat)).toInt), .inr (.inr (some 79)), .inl (-1)]) (w' := (SH, dt38)) rfl ?_
    have r85 := i32_R (xs ((i + 2).toNat))
    refine go_smpq PM267 (L' := [some (.inr (.inr (some 3000))), some (.inr (.inr (some 0))), some (.inr (.inr (some 79))), some (.inl i)]) (st' := [.inl ((xs ((i + 2).toNat)).toInt), .inl ((xs ((i + 1).toNat)).toInt), .inr (.inr (some 79)), .inl (-1)]) (w' := (SH, dt38)) rfl rfl (s_iald (n := L) (f := fun j => (xs j).toInt) (am_scr hLL) ⟨by omega, by omega⟩) ?_
    refine go_toq PM267 (k := 4) (pc' := 485) (L' := [some (.inr (.inr (some 3000))), some (.inr (.inr (some 0))), some (.inr (.inr (some 79))), some (.inl i)]) (st' := [.inl (i + 3), .inr (.inr (some 3000)), .inl ((xs ((i + 2).toNat)).toInt), .inl ((xs ((i + 1).toNat)).toInt), .inr (.inr (some 79)), .inl (-1)]) (w' := (SH, dt38)) rfl ?_
    have r86 := i32_R (xs ((i + 3).toNat))
    refine go_smpq PM267 (L' := [some (.inr (.inr (some 3000))), some (.inr (.inr (some 0))), some (.inr (.inr (some 79))), some (.inl i)]) (st' := [.inl ((xs ((i + 3).toNat)).toInt), .inl ((xs ((i + 2).toNat)).toInt), .inl ((xs ((i + 1).toNat)).toInt), .inr (.inr (some 79)), .inl (-1)]) (w' := (SH, dt38)) rfl rfl (s_iald (n := L) (f := fun j => (xs j).toInt) (am_scr hLL) ⟨by omega, by omega⟩) ?_
    refine go_callq PM267 PM190 (Q' := _) rfl rfl rfl rfl (sp_X6_here_w L xs sio (d + 33) dt38 hI39 hM42  ((xs ((i + 1).toNat)).toInt) ⟨by omega, by omega⟩ ((xs ((i + 2).toNat)).toInt) ⟨by omega, by omega⟩ ((xs ((i + 3).toNat)).toInt) ⟨by omega, by omega⟩ ) ?_
    rintro _ _ ⟨dt88, rfl, hI89, hF90, h87⟩
    refine ⟨rfl, ?_⟩
    have hF91 : Fr [0, 1, 2, 3, 4, 5, 6, 7, 8, 9, 10, 11, 12, 13, 14, 15, 16, 17, 18, 19, 20, 21, 22, 23, 24, 25, 26, 27, 28, 29, 30, 31, 32, 33, 34, 35, 36, 37, 38, 39, 40, 41, 42, 43, 44, 45, 46, 47, 48, 49, 50, 51, 52, 53, 54, 55, 56, 57, 58, 59, 60, 61, 62, 63, 64, 65, 66, 67, 68, 69, 70, 71, 72, 73, 74, 75, 76, 77, 78, 79, 80, 81, 82, 83, 84, 85, 86, 87, 88, 89, 90, 91, 92, 93, 94, 95, 96, 97, 98, 99, 100, 101, 102, 103, 104] dt dt88 := Fr_tr hF41 hF90 (by decide)
    have hM92 : MW (dt88 80) := MW_fr hM42 hF90 (by decide)
    have w93 : dt88 1 0 = dt 1 0 := (hF90 1 (by decide) 0).trans w43
    have w94 : dt88 7 3 = dt 7 3 := (hF90 7 (by decide) 3).trans w44
    have w95 : dt88 10 3 = dt 10 3 := (hF90 10 (by decide) 3).trans w45
    have w96 : dt88 12 3 = dt 12 3 := (hF90 12 (by decide) 3).trans w46
    have w97 : dt88 14 3 = dt 14 3 := (hF90 14 (by decide) 3).trans w47
    have w98 : dt88 16 3 = dt 16 3 := (hF90 16 (by decide) 3).trans w48
    have w99 : dt88 18 0 = dt 18 0 := (hF90 18 (by decide) 0).trans w49
    have w100 : dt88 24 3 = dt 24 3 := (hF90 24 (by decide) 3).trans w50
    have w101 : dt88 27 3 = dt 27 3 := (hF90 27 (by decide) 3).trans w51
    have w102 : dt88 29 3 = dt 29 3 := (hF90 29 (by decide) 3).trans w52
    have w103 : dt88 31 3 = dt 31 3 := (hF90 31 (by decide) 3).trans w53
    have w104 : dt88 33 3 = dt 33 3 := (hF90 33 (by decide) 3).trans w54
    have w105 : dt88 0 2 = dt 0 2 := (hF90 0 (by decide) 2).trans w55
    have w106 : dt88 35 1 = dt 35 1 := (hF90 35 (by decide) 1).trans w56
    have w107 : dt88 35 2 = dt 35 2 := (hF90 35 (by decide) 2).trans w57
    have w108 : dt88 35 3 = dt 35 3 := (hF90 35 (by decide) 3).trans w58
    have w109 : dt88 80 0 = dt 80 0 := (hF90 80 (by decide) 0).trans w59
    have w110 : dt88 80 1 = dt 80 1 := (hF90 80 (by decide) 1).trans w60
    have w111 : dt88 80 2 = dt 80 2 := (hF90 80 (by decide) 2).trans w61
    have w112 : dt88 80 3 = dt 80 3 := (hF90 80 (by decide) 3).trans w62
    have w113 : dt88 80 4 = dt 80 4 := (hF90 80 (by decide) 4).trans w63
    have w114 : dt88 80 5 = dt 80 5 := (hF90 80 (by decide) 5).trans w64
    have w115 : dt88 81 0 = dt 81 0 := (hF90 81 (by decide) 0).trans w65
    have w116 : dt88 81 1 = dt 81 1 := (hF90 81 (by decide) 1).trans w66
    have w117 : dt88 81 2 = dt 81 2 := (hF90 81 (by decide) 2).trans w67
    have w118 : dt88 81 3 = dt 81 3 := (hF90 81 (by decide) 3).trans w68
    have w119 : dt88 81 4 = dt 81 4 := (hF90 81 (by decide) 4).trans w69
    have w120 : dt88 81 5 = dt 81 5 := (hF90 81 (by decide) 5).trans w70
    have w121 : dt88 79 2 = dt 79 2 := (hF90 79 (by decide) 2).trans w71
    have w122 : dt88 79 12 = dt 79 12 := (hF90 79 (by decide) 12).trans w72
    have w123 : dt88 79 19 = dt 79 19 := (hF90 79 (by decide) 19).trans w73
    have w124 : dt88 79 21 = dt 79 21 := (hF90 79 (by decide) 21).trans w74
    rcases h87 with ⟨rfl, h87⟩ | ⟨v_h87, rfl, h87r, h87⟩
    · skip
      have M2125 : MW (dt88 81) := MW_frk M275 hF90 (by decide)
      have C126 : ∀ j : Nat, dt88 2 j = dt 2 j := fun j => (hF90 2 (by decide) j).trans (C76 j)
      have C127 : ∀ j : Nat, dt88 3 j = dt 3 j := fun j => (hF90 3 (by decide) j).trans (C77 j)
      have C128 : ∀ j : Nat, dt88 19 j = dt 19 j := fun j => (hF90 19 (by decide) j).trans (C78 j)
      have C129 : ∀ j : Nat, dt88 20 j = dt 20 j := fun j => (hF90 20 (by decide) j).trans (C79 j)
      have C130 : ∀ j : Nat, dt88 36 j = dt 36 j := fun j => (hF90 36 (by decide) j).trans (C80 j)
      have C131 : ∀ j : Nat, dt88 80 j = dt 80 j := fun j => (hF90 80 (by decide) j).trans (C81 j)
      have C132 : ∀ j : Nat, dt88 81 j = dt 81 j := fun j => (hF90 81 (by decide) j).trans (C82 j)
      have C133 : ∀ j : Nat, dt88 85 j = dt 85 j := fun j => (hF90 85 (by decide) j).trans (C83 j)
      refine go_toq PM267 (k := 1) (pc' := 1435) (L' := [some (.inr (.inr (some 3000))), some (.inr (.inr (some 0))), some (.inr (.inr (some 79))), some (.inl i)]) (st' := []) (w' := (SH, dt88)) rfl ?_
      exact K dt88 hI89 hM92 M2125 (w93.trans (hk0.trans w109.symm)) (w94.trans (hk1.trans w110.symm)) (w95.trans (hk2.trans w111.symm)) (w96.trans (hk3.trans w112.symm)) (w97.trans (hk4.trans w113.symm)) (w98.trans (hk5.trans w114.symm)) (w99.trans (hk6.trans w115.symm)) (w100.trans (hk7.trans w116.symm)) (w101.trans (hk8.trans w117.symm)) (w102.trans (hk9.trans w118.symm)) (w103.trans (hk10.trans w119.symm)) (w104.trans (hk11.trans w120.symm)) (w105.trans (hk12.trans w121.symm)) (w106.trans (hk13.trans w122.symm)) (w107.trans (hk14.trans w123.symm)) (w108.trans (hk15.trans w124.symm)) (by first | exact hI | exact TPL_k hd0 C130 C133 (by omega) | (exfalso; omega)) (by first | exact hI | exact SCL_k hd1 hM (fun j _ => C126 j) (fun j _ => C127 j) (fun j _ _ => C131 j) | (exfalso; omega)) (by first | exact hI | exact SCL_k hd2 hM2 (fun j _ => C128 j) (fun j _ => C129 j) (fun j _ _ => C132 j) | (exfalso; omega))
    · skip
      obtain ⟨h87_0, h87_1⟩ := h87
      have M2134 : MW (dt88 81) := MW_frk M275 hF90 (by decide)
      have C135 : ∀ j : Nat, dt88 2 j = dt 2 j := fun j => (hF90 2 (by decide) j).trans (C76 j)
      have C136 : ∀ j : Nat, dt88 3 j = dt 3 j := fun j => (hF90 3 (by decide) j).trans (C77 j)
      have C137 : ∀ j : Nat, dt88 19 j = dt 19 j := fun j => (hF90 19 (by decide) j).trans (C78 j)
      have C138 : ∀ j : Nat, dt88 20 j = dt 20 j := fun j => (hF90 20 (by decide) j).trans (C79 j)
      have C139 : ∀ j : Nat, dt88 36 j = dt 36 j := fun j => (hF90 36 (by decide) j).trans (C80 j)
      have C140 : ∀ j : Nat, dt88 80 j = dt 80 j := fun j => (hF90 80 (by decide) j).trans (C81 j)
      have C141 : ∀ j : Nat, dt88 81 j = dt 81 j := fun j => (hF90 81 (by decide) j).trans (C82 j)
      have C142 : ∀ j : Nat, dt88 85 j = dt 85 j := fun j => (hF90 85 (by decide) j).trans (C83 j)
      rw [show dt38 80 = dt 80 from funext C81] at h87_1
      have r144 := wr_RR (-1)
      have r145 := wr_RR v_h87
      refine go_ifq PM267 (k := 0) (p1 := 1435) (p2 := 492) (L' := [some (.inr (.inr (some 3000))), some (.inr (.inr (some 0))), some (.inr (.inr (some 79))), some (.inl i)]) (st' := []) (w' := (SH, dt88)) rfl (u_eq (a := wr (-1)) (b := wr v_h87)) (fun c143 => ?_) (fun c143 => ?_)
      · skip
        exact K dt88 hI89 hM92 M2134 (w93.trans (hk0.trans w109.symm)) (w94.trans (hk1.trans w110.symm)) (w95.trans (hk2.trans w111.symm)) (w96.trans (hk3.trans w112.symm)) (w97.trans (hk4.trans w113.symm)) (w98.trans (hk5.trans w114.symm)) (w99.trans (hk6.trans w115.symm)) (w100.trans (hk7.trans w116.symm)) (w101.trans (hk8.trans w117.symm)) (w102.trans (hk9.trans w118.symm)) (w103.trans (hk10.trans w119.symm)) (w104.trans (hk11.trans w120.symm)) (w105.trans (hk12.trans w121.symm)) (w106.trans (hk13.trans w122.symm)) (w107.trans (hk14.trans w123.symm)) (w108.trans (hk15.trans w124.symm)) (by first | exact hI | exact TPL_k hd0 C139 C142 (by omega) | (exfalso; omega)) (by first | exact hI | exact SCL_k hd1 hM (fun j _ => C135 j) (fun j _ => C136 j) (fun j _ _ => C140 j) | (exfalso; omega)) (by first | exact hI | exact SCL_k hd2 hM2 (fun j _ => C137 j) (fun j _ => C138 j) (fun j _ _ => C141 j) | (exfalso; omega))
      · skip
        exfalso; omega
  · skip
    obtain ⟨h37_0, h37_1⟩ := h37
    have M2146 : MW (dt38 81) := MW_frk hM2 hF40 (by decide)
    have C147 : ∀ j : Nat, dt38 2 j = dt 2 j := fun j => (hF40 2 (by decide) j).trans ((fun _ => rfl) j)
    have C148 : ∀ j : Nat, dt38 3 j = dt 3 j := fun j => (hF40 3 (by decide) j).trans ((fun _ => rfl) j)
    have C149 : ∀ j : Nat, dt38 19 j = dt 19 j := fun j => (hF40 19 (by decide) j).trans ((fun _ => rfl) j)
    have C150 : ∀ j : Nat, dt38 20 j = dt 20 j := fun j => (hF40 20 (by decide) j).trans ((fun _ => rfl) j)
    have C151 : ∀ j : Nat, dt38 36 j = dt 36 j := fun j => (hF40 36 (by decide) j).trans ((fun _ => rfl) j)
    have C152 : ∀ j : Nat, dt38 80 j = dt 80 j := fun j => (hF40 80 (by decide) j).trans ((fun _ => rfl) j)
    have C153 : ∀ j : Nat, dt38 81 j = dt 81 j := fun j => (hF40 81 (by decide) j).trans ((fun _ => rfl) j)
    have C154 : ∀ j : Nat, dt38 85 j = dt 85 j := fun j => (hF40 85 (by decide) j).trans ((fun _ => rfl) j)
    refine go_toq PM267 (k := 5) (pc' := 475) (L' := [some (.inr (.inr (some 3000))), some (.inr (.inr (some 0))), some (.inr (.inr (some 79))), some (.inl i)]) (st' := [.inl (i + 1), .inr (.inr (some 3000)), .inr (.inr (some 79)), .inl v_h37]) (w' := (SH, dt38)) rfl ?_
    have r155 := i32_R (xs ((i + 1).toNat))
    refine go_smpq PM267 (L' := [some (.inr (.inr (some 3000))), some (.inr (.inr (some 0))), some (.inr (.inr (some 79))), some (.inl i)]) (st' := [.inl ((xs ((i + 1).toNat)).toInt), .inr (.inr (some 79)), .inl v_h37]) (w' := (SH, dt38)) rfl rfl (s_iald (n := L) (f := fun j => (xs j).toInt) (am_scr hLL) ⟨by omega, by omega⟩) ?_
    refine go_toq PM267 (k := 4) (pc' := 480) (L' := [some (.inr (.inr (some 3000))), some (.inr (.inr (some 0))), some (.inr (.inr (some 79))), some (.inl i)]) (st' := [.inl (i + 2), .inr (.inr (some 3000)), .inl ((xs ((i + 1).toNat)).toInt), .inr (.inr (some 79)), .inl v_h37]) (w' := (SH, dt38)) rfl ?_
    have r156 := i32_R (xs ((i + 2).toNat))
    refine go_smpq PM267 (L' := [some (.inr (.inr (some 3000))), some (.inr (.inr (some 0))), some (.inr (.inr (some 79))), some (.inl i)]) (st' := [.inl ((xs ((i + 2).toNat)).toInt), .inl ((xs ((i + 1).toNat)).toInt), .inr (.inr (some 79)), .inl v_h37]) (w' := (SH, dt38)) rfl rfl (s_iald (n := L) (f := fun j => (xs j).toInt) (am_scr hLL) ⟨by omega, by omega⟩) ?_
    refine go_toq PM267 (k := 4) (pc' := 485) (L' := [some (.inr (.inr (some 3000))), some (.inr (.inr (some 0))), some (.inr (.inr (some 79))), some (.inl i)]) (st' := [.inl (i + 3), .inr (.inr (some 3000)), .inl ((xs ((i + 2).toNat)).toInt), .inl ((xs ((i + 1).toNat)).toInt), .inr (.inr (some 79)), .inl v_h37]) (w' := (SH, dt38)) rfl ?_
    have r157 := i32_R (xs ((i + 3).toNat))
    refine go_smpq PM267 (L' := [some (.inr (.inr (some 3000))), some (.inr (.inr (some 0))), some (.inr (.inr (some 79))), some (.inl i)]) (st' := [.inl ((xs ((i + 3).toNat)).toInt), .inl ((xs ((i + 2).toNat)).toInt), .inl ((xs ((i + 1).toNat)).toInt), .inr (.inr (some 79)), .inl v_h37]) (w' := (SH, dt38)) rfl rfl (s_iald (n := L) (f := fun j => (xs j).toInt) (am_scr hLL) ⟨by omega, by omega⟩) ?_
    refine go_callq PM267 PM190 (Q' := _) rfl rfl rfl rfl (sp_X6_here_w L xs sio (d + 33) dt38 hI39 hM42  ((xs ((i + 1).toNat)).toInt) ⟨by omega, by omega⟩ ((xs ((i + 2).toNat)).toInt) ⟨by omega, by omega⟩ ((xs ((i + 3).toNat)).toInt) ⟨by omega, by omega⟩ ) ?_
    rintro _ _ ⟨dt159, rfl, hI160, hF161, h158⟩
    refine ⟨rfl, ?_⟩
    have hF162 : Fr [0, 1, 2, 3, 4, 5, 6, 7, 8, 9, 10, 11, 12, 13, 14, 15, 16, 17, 18, 19, 20, 21, 22, 23, 24, 25, 26, 27, 28, 29, 30, 31, 32, 33, 34, 35, 36, 37, 38, 39, 40, 41, 42, 43, 44, 45, 46, 47, 48, 49, 50, 51, 52, 53, 54, 55, 56, 57, 58, 59, 60, 61, 62, 63, 64, 65, 66, 67, 68, 69, 70, 71, 72, 73, 74, 75, 76, 77, 78, 79, 80, 81, 82, 83, 84, 85, 86, 87, 88, 89, 90, 91, 92, 93, 94, 95, 96, 97, 98, 99, 100, 101, 102, 103, 104] dt dt159 := Fr_tr hF41 hF161 (by decide)
    have hM163 : MW (dt159 80) := MW_fr hM42 hF161 (by decide)
    have w164 : dt159 1 0 = dt 1 0 := (hF161 1 (by decide) 0).trans w43
    have w165 : dt159 7 3 = dt 7 3 := (hF161 7 (by decide) 3).trans w44
    have w166 : dt159 10 3 = dt 10 3 := (hF161 10 (by decide) 3).trans w45
    have w167 : dt159 12 3 = dt 12 3 := (hF161 12 (by decide) 3).trans w46
    have w168 : dt159 14 3 = dt 14 3 := (hF161 14 (by decide) 3).trans w47
    have w169 : dt159 16 3 = dt 16 3 := (hF161 16 (by decide) 3).trans w48
    have w170 : dt159 18 0 = dt 18 0 := (hF161 18 (by decide) 0).trans w49
    have w171 : dt159 24 3 = dt 24 3 := (hF161 24 (by decide) 3).trans w50
    have w172 : dt159 27 3 = dt 27 3 := (hF161 27 (by decide) 3).trans w51
    have w173 : dt159 29 3 = dt 29 3 := (hF161 29 (by decide) 3).trans w52
    have w174 : dt159 31 3 = dt 31 3 := (hF161 31 (by decide) 3).trans w53
    have w175 : dt159 33 3 = dt 33 3 := (hF161 33 (by decide) 3).trans w54
    have w176 : dt159 0 2 = dt 0 2 := (hF161 0 (by decide) 2).trans w55
    have w177 : dt159 35 1 = dt 35 1 := (hF161 35 (by decide) 1).trans w56
    have w178 : dt159 35 2 = dt 35 2 := (hF161 35 (by decide) 2).trans w57
    have w179 : dt159 35 3 = dt 35 3 := (hF161 35 (by decide) 3).trans w58
    have w180 : dt159 80 0 = dt 80 0 := (hF161 80 (by decide) 0).trans w59
    have w181 : dt159 80 1 = dt 80 1 := (hF161 80 (by decide) 1).trans w60
    have w182 : dt159 80 2 = dt 80 2 := (hF161 80 (by decide) 2).trans w61
    have w183 : dt159 80 3 = dt 80 3 := (hF161 80 (by decide) 3).trans w62
    have w184 : dt159 80 4 = dt 80 4 := (hF161 80 (by decide) 4).trans w63
    have w185 : dt159 80 5 = dt 80 5 := (hF161 80 (by decide) 5).trans w64
    have w186 : dt159 81 0 = dt 81 0 := (hF161 81 (by decide) 0).trans w65
    have w187 : dt159 81 1 = dt 81 1 := (hF161 81 (by decide) 1).trans w66
    have w188 : dt159 81 2 = dt 81 2 := (hF161 81 (by decide) 2).trans w67
    have w189 : dt159 81 3 = dt 81 3 := (hF161 81 (by decide) 3).trans w68
    have w190 : dt159 81 4 = dt 81 4 := (hF161 81 (by decide) 4).trans w69
    have w191 : dt159 81 5 = dt 81 5 := (hF161 81 (by decide) 5).trans w70
    have w192 : dt159 79 2 = dt 79 2 := (hF161 79 (by decide) 2).trans w71
    have w193 : dt159 79 12 = dt 79 12 := (hF161 79 (by decide) 12).trans w72
    have w194 : dt159 79 19 = dt 79 19 := (hF161 79 (by decide) 19).trans w73
    have w195 : dt159 79 21 = dt 79 21 := (hF161 79 (by decide) 21).trans w74
    rcases h158 with ⟨rfl, h158⟩ | ⟨v_h158, rfl, h158r, h158⟩
    · skip
      have M2196 : MW (dt159 81) := MW_frk M2146 hF161 (by decide)
      have C197 : ∀ j : Nat, dt159 2 j = dt 2 j := fun j => (hF161 2 (by decide) j).trans (C147 j)
      have C198 : ∀ j : Nat, dt159 3 j = dt 3 j := fun j => (hF161 3 (by decide) j).trans (C148 j)
      have C199 : ∀ j : Nat, dt159 19 j = dt 19 j := fun j => (hF161 19 (by decide) j).trans (C149 j)
      have C200 : ∀ j : Nat, dt159 20 j = dt 20 j := fun j => (hF161 20 (by decide) j).trans (C150 j)
      have C201 : ∀ j : Nat, dt159 36 j = dt 36 j := fun j => (hF161 36 (by decide) j).trans (C151 j)
      have C202 : ∀ j : Nat, dt159 80 j = dt 80 j := fun j => (hF161 80 (by decide) j).trans (C152 j)
      have C203 : ∀ j : Nat, dt159 81 j = dt 81 j := fun j => (hF161 81 (by decide) j).trans (C153 j)
      have C204 : ∀ j : Nat, dt159 85 j = dt 85 j := fun j => (hF161 85 (by decide) j).trans (C154 j)
      have r206 := wr_RR v_h37
      have r207 := wr_RR (-1)
      refine go_ifq PM267 (k := 0) (p1 := 1435) (p2 := 492) (L' := [some (.inr (.inr (some 3000))), some (.inr (.inr (some 0))), some (.inr (.inr (some 79))), some (.inl i)]) (st' := []) (w' := (SH, dt159)) rfl (u_eq (a := wr v_h37) (b := wr (-1))) (fun c205 => ?_) (fun c205 => ?_)
      · skip
        exact K dt159 hI160 hM163 M2196 (w164.trans (hk0.trans w180.symm)) (w165.trans (hk1.trans w181.symm)) (w166.trans (hk2.trans w182.symm)) (w167.trans (hk3.trans w183.symm)) (w168.trans (hk4.trans w184.symm)) (w169.trans (hk5.trans w185.symm)) (w170.trans (hk6.trans w186.symm)) (w171.trans (hk7.trans w187.symm)) (w172.trans (hk8.trans w188.symm)) (w173.trans (hk9.trans w189.symm)) (w174.trans (hk10.trans w190.symm)) (w175.trans (hk11.trans w191.symm)) (w176.trans (hk12.trans w192.symm)) (w177.trans (hk13.trans w193.symm)) (w178.trans (hk14.trans w194.symm)) (w179.trans (hk15.trans w195.symm)) (by first | exact hI | exact TPL_k hd0 C201 C204 (by omega) | (exfalso; omega)) (by first | exact hI | exact SCL_k hd1 hM (fun j _ => C197 j) (fun j _ => C198 j) (fun j _ _ => C202 j) | (exfalso; omega)) (by first | exact hI | exact SCL_k hd2 hM2 (fun j _ => C199 j) (fun j _ => C200 j) (fun j _ _ => C203 j) | (exfalso; omega))
      · skip
        exfalso; omega
    · skip
      obtain ⟨h158_0, h158_1⟩ := h158
      have M2208 : MW (dt159 81) := MW_frk M2146 hF161 (by decide)
      have C209 : ∀ j : Nat, dt159 2 j = dt 2 j := fun j => (hF161 2 (by decide) j).trans (C147 j)
      have C210 : ∀ j : Nat, dt159 3 j = dt 3 j := fun j => (hF161 3 (by decide) j).trans (C148 j)
      have C211 : ∀ j : Nat, dt159 19 j = dt 19 j := fun j => (hF161 19 (by decide) j).trans (C149 j)
      have C212 : ∀ j : Nat, dt159 20 j = dt 20 j := fun j => (hF161 20 (by decide) j).trans (C150 j)
      have C213 : ∀ j : Nat, dt159 36 j = dt 36 j := fun j => (hF161 36 (by decide) j).trans (C151 j)
      have C214 : ∀ j : Nat, dt159 80 j = dt 80 j := fun j => (hF161 80 (by decide) j).trans (C152 j)
      have C215 : ∀ j : Nat, dt159 81 j = dt 81 j := fun j => (hF161 81 (by decide) j).trans (C153 j)
      have C216 : ∀ j : Nat, dt159 85 j = dt 85 j := fun j => (hF161 85 (by decide) j).trans (C154 j)
      rw [show dt38 80 = dt 80 from funext C152] at h158_1
      have y217 : wr v_h37 = wr v_h158 := congrArg wr (h37_1.trans h158_1.symm)
      have r219 := wr_RR v_h37
      have r220 := wr_RR v_h158
      refine go_ifq PM267 (k := 0) (p1 := 1435) (p2 := 492) (L' := [some (.inr (.inr (some 3000))), some (.inr (.inr (some 0))), some (.inr (.inr (some 79))), some (.inl i)]) (st' := []) (w' := (SH, dt159)) rfl (u_eq (a := wr v_h37) (b := wr v_h158)) (fun c218 => ?_) (fun c218 => ?_)
      · skip
        exact K dt159 hI160 hM163 M2208 (w164.trans (hk0.trans w180.symm)) (w165.trans (hk1.trans w181.symm)) (w166.trans (hk2.trans w182.symm)) (w167.trans (hk3.trans w183.symm)) (w168.trans (hk4.trans w184.symm)) (w169.trans (hk5.trans w185.symm)) (w170.trans (hk6.trans w186.symm)) (w171.trans (hk7.trans w187.symm)) (w172.trans (hk8.trans w188.symm)) (w173.trans (hk9.trans w189.symm)) (w174.trans (hk10.trans w190.symm)) (w175.trans (hk11.trans w191.symm)) (w176.trans (hk12.trans w192.symm)) (w177.trans (hk13.trans w193.symm)) (w178.trans (hk14.trans w194.symm)) (w179.trans (hk15.trans w195.symm)) (by first | exact hI | exact TPL_k hd0 C213 C216 (by omega) | (exfalso; omega)) (by first | exact hI | exact SCL_k hd1 hM (fun j _ => C209 j) (fun j _ => C210 j) (fun j _ _ => C214 j) | (exfalso; omega)) (by first | exact hI | exact SCL_k hd2 hM2 (fun j _ => C211 j) (fun j _ => C212 j) (fun j _ _ => C215 j) | (exfalso; omega))
      · skip
        exfalso; omega
set_option maxRecDepth 20000 in
set_option maxHeartbeats 8000000 in
theorem sp_case8 (L : Nat) (xs : Nat → Int32) (sio : Option Nat) (d : Nat) (Q : Option AV → am_W → Prop) (hLL : L ≤ 3072) (i : Int) (hi : 0 ≤ i ∧ i ≤ 3066) (hil : i ≤ (L : Int) - 6) (dt : Nat → Nat → Int) (hI : InvC dt) (hM : MW (dt 80)) (hM2 : MW (dt 81)) (hk0 : dt 1 0 = dt 80 0) (hk1 : dt 7 3 = dt 80 1) (hk2 : dt 10 3 = dt 80 2) (hk3 : dt 12 3 = dt 80 3) (hk4 : dt 14 3 = dt 80 4) (hk5 : dt 16 3 = dt 80 5) (hk6 : dt 18 0 = dt 81 0) (hk7 : dt 24 3 = dt 81 1) (hk8 : dt 27 3 = dt 81 2) (hk9 : dt 29 3 = dt 81 3) (hk10 : dt 31 3 = dt 81 4) (hk11 : dt 33 3 = dt 81 5) (hk12 : dt 0 2 = dt 79 2) (hk13 : dt 35 1 = dt 79 12) (hk14 : dt 35 2 = dt 79 19) (hk15 : dt 35 3 = dt 79 21) (hd0 : TPL (dt 36) (dt 85) (dt 35 1)) (hd1 : SCL (dt 2) (dt 3) (dt 80)) (hd2 : SCL (dt 19) (dt 20) (dt 81)) (K : ∀ (dt : Nat → Nat → Int) (hI : InvC dt) (hM : MW (dt 80)) (hM2 : MW (dt 81)) (hk0 : dt 1 0 = dt 80 0) (hk1 : dt 7 3 = dt 80 1) (hk2 : dt 10 3 = dt 80 2) (hk3 : dt 12 3 = dt 80 3) (hk4 : dt 14 3 = dt 80 4) (hk5 : dt 16 3 = dt 80 5) (hk6 : dt 18 0 = dt 81 0) (hk7 : dt 24 3 = dt 81 1) (hk8 : dt 27 3 = dt 81 2) (hk9 : dt 29 3 = dt 81 3) (hk10 : dt 31 3 = dt 81 4) (hk11 : dt 33 3 = dt 81 5) (hk12 : dt 0 2 = dt 79 2) (hk13 : dt 35 1 = dt 79 12) (hk14 : dt 35 2 = dt 79 19) (hk15 : dt 35 3 = dt 79 21) (hd0 : TPL (dt 36) (dt 85) (dt 35 1)) (hd1 : SCL (dt 2) (dt 3) (dt 80)) (hd2 : SCL (dt 19) (dt 20) (dt 81)), GO (am_XX L xs sio) (d + 39) 267 1435 [some (.inr (.inr (some 3000))), some (.inr (.inr (some 0))), some (.inr (.inr (some 79))), some (.inl i)] [] (SH, dt) Q) : GO (am_XX L xs sio) (d + 39) 267 494 [some (.inr (.inr (some 3000))), some (.inr (.inr (some 0))), some (.inr (.inr (some 79))), some (.inl i)] [] (SH, dt) Q := by
  have hF : Fr [0, 1, 2, 3, 4, 5, 6, 7, 8, 9, 10, 11, 12, 13, 14, 15, 16, 17, 18, 19, 20, 21, 22, 23, 24, 25, 26, 27, 28, 29, 30, 31, 32, 33, 34, 35, 36, 37, 38, 39, 40, 41, 42, 43, 44, 45, 46, 47, 48, 49, 50, 51, 52, 53, 54, 55, 56, 57, 58, 59, 60, 61, 62, 63, 64, 65, 66, 67, 68, 69, 70, 71, 72, 73, 74, 75, 76, 77, 78, 79, 80, 81, 82, 83, 84, 85, 86, 87, 88, 89, 90, 91, 92, 93, 94, 95, 96, 97, 98, 99, 100, 101, 102, 103, 104] dt dt := Fr_refl
  refine go_toq PM267 (k := 5) (pc' := 499) (L' := [some (.inr (.inr (some 3000))), some (.inr (.inr (some 0))), some (.inr (.inr (some 79))), some (.inl i)]) (st' := [.inl (i + 1), .inr (.inr (some 3000)), .inr (.inr (some 0))]) (w' := (SH, dt)) rfl ?_
  have r1 := i32_R (xs ((i + 1).toNat))
  refine go_smpq PM267 (L' := [some (.inr (.inr (some 3000))), some (.inr (.inr (some 0))), some (.inr (.inr (some 79))), some (.inl i)]) (st' := [.inl ((xs ((i + 1).toNat)).toInt), .inr (.inr (some 0))]) (w' := (SH, dt)) rfl rfl (s_iald (n := L) (f := fun j => (xs j).toInt) (am_scr hLL) ⟨by omega, by omega⟩) ?_
  refine go_toq PM267 (k := 4) (pc' := 504) (L' := [some (.inr (.inr (some 3000))), some (.inr (.inr (some 0))), some (.inr (.inr (some 79))), some (.inl i)]) (st' := [.inl (i + 2), .inr (.inr (some 3000)), .inl ((xs ((i + 1).toNat)).toInt), .inr (.inr (some 0))]) (w' := (SH, dt)) rfl ?_
  have r2 := i32_R (xs ((i + 2).toNat))
  refine go_smpq PM267 (L' := [some (.inr (.inr (some 3000))), some (.inr (.inr (some 0))), some (.inr (.inr (some 79))), some (.inl i)]) (st' := [.inl ((xs ((i + 2).toNat)).toInt), .inl ((xs ((i + 1).toNat)).toInt), .inr (.inr (some 0))]) (w' := (SH, dt)) rfl rfl (s_iald (n := L) (f := fun j => (xs j).toInt) (am_scr hLL) ⟨by omega, by omega⟩) ?_
  refine go_toq PM267 (k := 4) (pc' := 509) (L' := [some (.inr (.inr (some 3000))), some (.inr (.inr (some 0))), some (.inr (.inr (some 79))), some (.inl i)]) (st' := [.inl (i + 3), .inr (.inr (some 3000)), .inl ((xs ((i + 2).toNat)).toInt), .inl ((xs ((i + 1).toNat)).toInt), .inr (.inr (some 0))]) (w' := (SH, dt)) rfl ?_
  have r3 := i32_R (xs ((i + 3).toNat))
  refine go_smpq PM267 (L' := [some (.inr (.inr (some 3000))), some (.inr (.inr (some 0))), some (.inr (.inr (some 79))), some (.inl i)]) (st' := [.inl ((xs ((i + 3).toNat)).toInt), .inl ((xs ((i + 2).toNat)).toInt), .inl ((xs ((i + 1).toNat)).toInt), .inr (.inr (some 0))]) (w' := (SH, dt)) rfl rfl (s_iald (n := L) (f := fun j => (xs j).toInt) (am_scr hLL) ⟨by omega, by omega⟩) ?_
  refine go_toq PM267 (k := 4) (pc' := 514) (L' := [some (.inr (.inr (some 3000))), some (.inr (.inr (some 0))), some (.inr (.inr (some 79))), some (.inl i)]) (st' := [.inl (i + 4), .inr (.inr (some 3000)), .inl ((xs ((i + 3).toNat)).toInt), .inl ((xs ((i + 2).toNat)).toInt), .inl ((xs ((i + 1).toNat)).toInt), .inr (.inr (some 0))]) (w' := (SH, dt)) rfl ?_
  have r4 := i32_R (xs ((i + 4).toNat))
  refine go_smpq PM267 (L' := [some (.inr (.inr (some 3000))), some (.inr (.inr (some 0))), some (.inr (.inr (some 79))), some (.inl i)]) (st' := [.inl ((xs ((i + 4).toNat)).toInt), .inl ((xs ((i + 3).toNat)).toInt), .inl ((xs ((i + 2).toNat)).toInt), .inl ((xs ((i + 1).toNat)).toInt), .inr (.inr (some 0))]) (w' := (SH, dt)) rfl rfl (s_iald (n := L) (f := fun j => (xs j).toInt) (am_scr hLL) ⟨by omega, by omega⟩) ?_
  refine go_toq PM267 (k := 4) (pc' := 519) (L' := [some (.inr (.inr (some 3000))), some (.inr (.inr (some 0))), some (.inr (.inr (some 79))), some (.inl i)]) (st' := [.inl (i + 5), .inr (.inr (some 3000)), .inl ((xs ((i + 4).toNat)).toInt), .inl ((xs ((i + 3).toNat)).toInt), .inl ((xs ((i + 2).toNat)).toInt), .inl ((xs ((i + 1).toNat)).toInt), .inr (.inr (some 0))]) (w' := (SH, dt)) rfl ?_
  have r5 := i32_R (xs ((i + 5).toNat))
  refine go_smpq PM267 (L' := [some (.inr (.inr (some 3000))), some (.inr (.inr (some 0))), some (.inr (.inr (some 79))), some (.inl i)]) (st' := [.inl ((xs ((i + 5).toNat)).toInt), .inl ((xs ((i + 4).toNat)).toInt), .inl ((xs ((i + 3).toNat)).toInt), .inl ((xs ((i + 2).toNat)).toInt), .inl ((xs ((i + 1).toNat)).toInt), .inr (.inr (some 0))]) (w' := (SH, dt)) rfl rfl (s_iald (n := L) (f := fun j => (xs j).toInt) (am_scr hLL) ⟨by omega, by omega⟩) ?_
  refine go_callq PM267 PM75 (Q' := _) rfl rfl rfl rfl (sp_X5_question L xs sio (d + 33) dt hI  ((xs ((i + 1).toNat)).toInt) ⟨by omega, by omega⟩ ((xs ((i + 2).toNat)).toInt) ⟨by omega, by omega⟩ ((xs ((i + 3).toNat)).toInt) ⟨by omega, by omega⟩ ((xs ((i + 4).toNat)).toInt) ⟨by omega, by omega⟩ ((xs ((i + 5).toNat)).toInt) ⟨by omega, by omega⟩ ) ?_
  rintro _ _ ⟨dt7, rfl, hI8, hF9, h6⟩
  refine ⟨rfl, ?_⟩
  have hF10 : Fr [0, 1, 2, 3, 4, 5, 6, 7, 8, 9, 10, 11, 12, 13, 14, 15, 16, 17, 18, 19, 20, 21, 22, 23, 24, 25, 26, 27, 28, 29, 30, 31, 32, 33, 34, 35, 36, 37, 38, 39, 40, 41, 42, 43, 44, 45, 46, 47, 48, 49, 50, 51, 52, 53, 54, 55, 56, 57, 58, 59, 60, 61, 62, 63, 64, 65, 66, 67, 68, 69, 70, 71, 72, 73, 74, 75, 76, 77, 78, 79, 80, 81, 82, 83, 84, 85, 86, 87, 88, 89, 90, 91, 92, 93, 94, 95, 96, 97, 98, 99, 100, 101, 102, 103, 104] dt dt7 := Fr_tr hF hF9 (by decide)
  have hM11 : MW (dt7 80) := MW_fr hM hF9 (by decide)
  have w12 : dt7 1 0 = dt 1 0 := hF9 1 (by decide) 0
  have w13 : dt7 10 3 = dt 10 3 := hF9 10 (by decide) 3
  have w14 : dt7 12 3 = dt 12 3 := hF9 12 (by decide) 3
  have w15 : dt7 14 3 = dt 14 3 := hF9 14 (by decide) 3
  have w16 : dt7 16 3 = dt 16 3 := hF9 16 (by decide) 3
  have w17 : dt7 18 0 = dt 18 0 := hF9 18 (by decide) 0
  have w18 : dt7 24 3 = dt 24 3 := hF9 24 (by decide) 3
  have w19 : dt7 27 3 = dt 27 3 := hF9 27 (by decide) 3
  have w20 : dt7 29 3 = dt 29 3 := hF9 29 (by decide) 3
  have w21 : dt7 31 3 = dt 31 3 := hF9 31 (by decide) 3
  have w22 : dt7 33 3 = dt 33 3 := hF9 33 (by decide) 3
  have w23 : dt7 0 2 = dt 0 2 := hF9 0 (by decide) 2
  have w24 : dt7 35 1 = dt 35 1 := hF9 35 (by decide) 1
  have w25 : dt7 35 2 = dt 35 2 := hF9 35 (by decide) 2
  have w26 : dt7 35 3 = dt 35 3 := hF9 35 (by decide) 3
  have w27 : dt7 80 0 = dt 80 0 := hF9 80 (by decide) 0
  have w28 : dt7 80 1 = dt 80 1 := hF9 80 (by decide) 1
  have w29 : dt7 80 2 = dt 80 2 := hF9 80 (by decide) 2
  have w30 : dt7 80 3 = dt 80 3 := hF9 80 (by decide) 3
  have w31 : dt7 80 4 = dt 80 4 := hF9 80 (by decide) 4
  have w32 : dt7 80 5 = dt 80 5 := hF9 80 (by decide) 5
  have w33 : dt7 81 0 = dt 81 0 := hF9 81 (by decide) 0
  have w34 : dt7 81 1 = dt 81 1 := hF9 81 (by decide) 1
  have w35 : dt7 81 2 = dt 81 2 := hF9 81 (by decide) 2
  have w36 : dt7 81 3 = dt 81 3 := hF9 81 (by decide) 3
  have w37 : dt7 81 4 = dt 81 4 := hF9 81 (by decide) 4
  have w38 : dt7 81 5 = dt 81 5 := hF9 81 (by decide) 5
  have w39 : dt7 79 2 = dt 79 2 := hF9 79 (by decide) 2
  have w40 : dt7 79 12 = dt 79 12 := hF9 79 (by decide) 12
  have w41 : dt7 79 19 = dt 79 19 := hF9 79 (by decide) 19
  have w42 : dt7 79 21 = dt 79 21 := hF9 79 (by decide) 21
  rcases h6 with ⟨rfl, h6⟩ | ⟨v_h6, rfl, h6r, h6⟩
  · skip
    obtain ⟨h6_0, h6_1⟩ := h6
    replace h6_0 := hid h6_0
    have w43 : dt7 7 3 = dt 7 3 := h6_1
    have M244 : MW (dt7 81) := MW_frk hM2 hF9 (by decide)
    have C45 : ∀ j : Nat, dt7 2 j = dt 2 j := fun j => (hF9 2 (by decide) j).trans ((fun _ => rfl) j)
    have C46 : ∀ j : Nat, dt7 3 j = dt 3 j := fun j => (hF9 3 (by decide) j).trans ((fun _ => rfl) j)
    have C47 : ∀ j : Nat, dt7 19 j = dt 19 j := fun j => (hF9 19 (by decide) j).trans ((fun _ => rfl) j)
    have C48 : ∀ j : Nat, dt7 20 j = dt 20 j := fun j => (hF9 20 (by decide) j).trans ((fun _ => rfl) j)
    have C49 : ∀ j : Nat, dt7 36 j = dt 36 j := fun j => (hF9 36 (by decide) j).trans ((fun _ => rfl) j)
    have C50 : ∀ j : Nat, dt7 80 j = dt 80 j := fun j => (hF9 80 (by decide) j).trans ((fun _ => rfl) j)
    have C51 : ∀ j : Nat, dt7 81 j = dt 81 j := fun j => (hF9 81 (by decide) j).trans ((fun _ => rfl) j)
    have C52 : ∀ j : Nat, dt7 85 j = dt 85 j := fun j => (hF9 85 (by decide) j).trans ((fun _ => rfl) j)
    refine go_toq PM267 (k := 6) (pc' := 529) (L' := [some (.inr (.inr (some 3000))), some (.inr (.inr (some 0))), some (.inr (.inr (some 79))), some (.inl i)]) (st' := [.inl (i + 1), .inr (.inr (some 3000)), .inr (.inr (some 79))]) (w' := (SH, dt7)) rfl ?_
    have r53 := i32_R (xs ((i + 1).toNat))
    refine go_smpq PM267 (L' := [some (.inr (.inr (some 3000))), some (.inr (.inr (some 0))), some (.inr (.inr (some 79))), some (.inl i)]) (st' := [.inl ((xs ((i + 1).toNat)).toInt), .inr (.inr (some 79))]) (w' := (SH, dt7)) rfl rfl (s_iald (n := L) (f := fun j => (xs j).toInt) (am_scr hLL) ⟨by (first | omega | (have z0_ := unhid h6_0; omega)), by (first | omega | (have z0_ := unhid h6_0; omega))⟩) ?_
    refine go_toq PM267 (k := 4) (pc' := 534) (L' := [some (.inr (.inr (some 3000))), some (.inr (.inr (some 0))), some (.inr (.inr (some 79))), some (.inl i)]) (st' := [.inl (i + 2), .inr (.inr (some 3000)), .inl ((xs ((i + 1).toNat)).toInt), .inr (.inr (some 79))]) (w' := (SH, dt7)) rfl ?_
    have r54 := i32_R (xs ((i + 2).toNat))
    refine go_smpq PM267 (L' := [some (.inr (.inr (some 3000))), some (.inr (.inr (some 0))), some (.inr (.inr (some 79))), some (.inl i)]) (st' := [.inl ((xs ((i + 2).toNat)).toInt), .inl ((xs ((i + 1).toNat)).toInt), .inr (.inr (some 79))]) (w' := (SH, dt7)) rfl rfl (s_iald (n := L) (f := fun j => (xs j).toInt) (am_scr hLL) ⟨by (first | omega | (have z0_ := unhid h6_0; omega)), by (first | omega | (have z0_ := unhid h6_0; omega))⟩) ?_
    refine go_toq PM267 (k := 4) (pc' := 539) (L' := [some (.inr (.inr (some 3000))), some (.inr (.inr (some 0))), some (.inr (.inr (some 79))), some (.inl i)]) (st' := [.inl (i + 3), .inr (.inr (some 3000)), .inl ((xs ((i + 2).toNat)).toInt), .inl ((xs ((i + 1).toNat)).toInt), .inr (.inr (some 79))]) (w' := (SH, dt7)) rfl ?_
    have r55 := i32_R (xs ((i + 3).toNat))
    refine go_smpq PM267 (L' := [some (.inr (.inr (some 3000))), some (.inr (.inr (some 0))), some (.inr (.inr (some 79))), some (.inl i)]) (st' := [.inl ((xs ((i + 3).toNat)).toInt), .inl ((xs ((i + 2).toNat)).toInt), .inl ((xs ((i + 1).toNat)).toInt), .inr (.inr (some 79))]) (w' := (SH, dt7)) rfl rfl (s_iald (n := L) (f := fun j => (xs j).toInt) (am_scr hLL) ⟨by (first | omega | (have z0_ := unhid h6_0; omega)), by (first | omega | (have z0_ := unhid h6_0; omega))⟩) ?_
    refine go_toq PM267 (k := 4) (pc' := 544) (L' := [some (.inr (.inr (some 3000))), some (.inr (.inr (some 0))), some (.inr (.inr (some 79))), some (.inl i)]) (st' := [.inl (i + 4), .inr (.inr (some 3000)), .inl ((xs ((i + 3).toNat)).toInt), .inl ((xs ((i + 2).toNat)).toInt), .inl ((xs ((i + 1).toNat)).toInt), .inr (.inr (some 79))]) (w' := (SH, dt7)) rfl ?_
    have r56 := i32_R (xs ((i + 4).toNat))
    refine go_smpq PM267 (L' := [some (.inr (.inr (some 3000))), some (.inr (.inr (some 0))), some (.inr (.inr (some 79))), some (.inl i)]) (st' := [.inl ((xs ((i + 4).toNat)).toInt), .inl ((xs ((i + 3).toNat)).toInt), .inl ((xs ((i + 2).toNat)).toInt), .inl ((xs ((i + 1).toNat)).toInt), .inr (.inr (some 79))]) (w' := (SH, dt7)) rfl rfl (s_iald (n := L) (f := fun j => (xs j).toInt) (am_scr hLL) ⟨by (first | omega | (have z0_ := unhid h6_0; omega)), by (first | omega | (have z0_ := unhid h6_0; omega))⟩) ?_
    refine go_toq PM267 (k := 4) (pc' := 549) (L' := [some (.inr (.inr (some 3000))), some (.inr (.inr (some 0))), some (.inr (.inr (some 79))), some (.inl i)]) (st' := [.inl (i + 5), .inr (.inr (some 3000)), .inl ((xs ((i + 4).toNat)).toInt), .inl ((xs ((i + 3).toNat)).toInt), .inl ((xs ((i + 2).toNat)).toInt), .inl ((xs ((i + 1).toNat)).toInt), .inr (.inr (some 79))]) (w' := (SH, dt7)) rfl ?_
    have r57 := i32_R (xs ((i + 5).toNat))
    refine go_smpq PM267 (L' := [some (.inr (.inr (some 3000))), some (.inr (.inr (some 0))), some (.inr (.inr (some 79))), some (.inl i)]) (st' := [.inl ((xs ((i + 5).toNat)).toInt), .inl ((xs ((i + 4).toNat)).toInt), .inl ((xs ((i + 3).toNat)).toInt), .inl ((xs ((i + 2).toNat)).toInt), .inl ((xs ((i + 1).toNat)).toInt), .inr (.inr (some 79))]) (w' := (SH, dt7)) rfl rfl (s_iald (n := L) (f := fun j => (xs j).toInt) (am_scr hLL) ⟨by (first | omega | (have z0_ := unhid h6_0; omega)), by (first | omega | (have z0_ := unhid h6_0; omega))⟩) ?_
    refine go_callq PM267 PM193 (Q' := _) rfl rfl rfl rfl (sp_X6_question_v L xs sio (d + 36) dt7 hI8 hM11  ((xs ((i + 1).toNat)).toInt) ⟨by (first | omega | (have z0_ := unhid h6_0; omega)), by (first | omega | (have z0_ := unhid h6_0; omega))⟩ ((xs ((i + 2).toNat)).toInt) ⟨by (first | omega | (have z0_ := unhid h6_0; omega)), by (first | omega | (have z0_ := unhid h6_0; omega))⟩ ((xs ((i + 3).toNat)).toInt) ⟨by (first | omega | (have z0_ := unhid h6_0; omega)), by (first | omega | (have z0_ := unhid h6_0; omega))⟩ ((xs ((i + 4).toNat)).toInt) ⟨by (first | omega | (have z0_ := unhid h6_0; omega)), by (first | omega | (have z0_ := unhid h6_0; omega))⟩ ((xs ((i + 5).toNat)).toInt) ⟨by (first | omega | (have z0_ := unhid h6_0; omega)), by (first | omega | (have z0_ := unhid h6_0; omega))⟩ ) ?_
    rintro _ _ ⟨dt59, rfl, hI60, hF61, h58⟩
    refine ⟨rfl, ?_⟩
    have hF62 : Fr [0, 1, 2, 3, 4, 5, 6, 7, 8, 9, 10, 11, 12, 13, 14, 15, 16, 17, 18, 19, 20, 21, 22, 23, 24, 25, 26, 27, 28, 29, 30, 31, 32, 33, 34, 35, 36, 37, 38, 39, 40, 41, 42, 43, 44, 45, 46, 47, 48, 49, 50, 51, 52, 53, 54, 55, 56, 57, 58, 59, 60, 61, 62, 63, 64, 65, 66, 67, 68, 69, 70, 71, 72, 73, 74, 75, 76, 77, 78, 79, 80, 81, 82, 83, 84, 85, 86, 87, 88, 89, 90, 91, 92, 93, 94, 95, 96, 97, 98, 99, 100, 101, 102, 103, 104] dt dt59 := Fr_tr hF10 hF61 (by decide)
    have w63 : dt59 1 0 = dt 1 0 := (hF61 1 (by decide) 0).trans w12
    have w64 : dt59 7 3 = dt 7 3 := (hF61 7 (by decide) 3).trans w43
    have w65 : dt59 10 3 = dt 10 3 := (hF61 10 (by decide) 3).trans w13
    have w66 : dt59 12 3 = dt 12 3 := (hF61 12 (by decide) 3).trans w14
    have w67 : dt59 14 3 = dt 14 3 := (hF61 14 (by decide) 3).trans w15
    have w68 : dt59 16 3 = dt 16 3 := (hF61 16 (by decide) 3).trans w16
    have w69 : dt59 18 0 = dt 18 0 := (hF61 18 (by decide) 0).trans w17
    have w70 : dt59 24 3 = dt 24 3 := (hF61 24 (by decide) 3).trans w18
    have w71 : dt59 27 3 = dt 27 3 := (hF61 27 (by decide) 3).trans w19
    have w72 : dt59 29 3 = dt 29 3 := (hF61 29 (by decide) 3).trans w20
    have w73 : dt59 31 3 = dt 31 3 := (hF61 31 (by decide) 3).trans w21
    have w74 : dt59 33 3 = dt 33 3 := (hF61 33 (by decide) 3).trans w22
    have w75 : dt59 0 2 = dt 0 2 := (hF61 0 (by decide) 2).trans w23
    have w76 : dt59 35 1 = dt 35 1 := (hF61 35 (by decide) 1).trans w24
    have w77 : dt59 35 2 = dt 35 2 := (hF61 35 (by decide) 2).trans w25
    have w78 : dt59 35 3 = dt 35 3 := (hF61 35 (by decide) 3).trans w26
    have w79 : dt59 81 0 = dt 81 0 := (hF61 81 (by decide) 0).trans w33
    have w80 : dt59 81 1 = dt 81 1 := (hF61 81 (by decide) 1).trans w34
    have w81 : dt59 81 2 = dt 81 2 := (hF61 81 (by decide) 2).trans w35
    have w82 : dt59 81 3 = dt 81 3 := (hF61 81 (by decide) 3).trans w36
    have w83 : dt59 81 4 = dt 81 4 := (hF61 81 (by decide) 4).trans w37
    have w84 : dt59 81 5 = dt 81 5 := (hF61 81 (by decide) 5).trans w38
    have w85 : dt59 79 2 = dt 79 2 := (hF61 79 (by decide) 2).trans w39
    have w86 : dt59 79 12 = dt 79 12 := (hF61 79 (by decide) 12).trans w40
    have w87 : dt59 79 19 = dt 79 19 := (hF61 79 (by decide) 19).trans w41
    have w88 : dt59 79 21 = dt 79 21 := (hF61 79 (by decide) 21).trans w42
    rcases h58 with ⟨rfl, h58⟩ | ⟨v_h58, rfl, h58r, h58⟩
    · skip
      have hM89 : MW (dt59 80) := h58.2.1
      obtain ⟨h58_0, h58_1, h58_2, h58_3, h58_4, h58_5, h58_6, h58_7, h58_8⟩ := h58
      replace h58_0 := hid h58_0
      have w90 : dt59 80 0 = dt 80 0 := h58_2.trans w27
      have w91 : dt59 80 1 = dt 80 1 := h58_3.trans w28
      have w92 : dt59 80 2 = dt 80 2 := h58_4.trans w29
      have w93 : dt59 80 3 = dt 80 3 := h58_5.trans w30
      have w94 : dt59 80 4 = dt 80 4 := h58_6.trans w31
      have w95 : dt59 80 5 = dt 80 5 := h58_7.trans w32
      have M296 : MW (dt59 81) := MW_frk M244 hF61 (by decide)
      have C97 : ∀ j : Nat, dt59 2 j = dt 2 j := fun j => (hF61 2 (by decide) j).trans (C45 j)
      have C98 : ∀ j : Nat, dt59 3 j = dt 3 j := fun j => (hF61 3 (by decide) j).trans (C46 j)
      have C99 : ∀ j : Nat, dt59 19 j = dt 19 j := fun j => (hF61 19 (by decide) j).trans (C47 j)
      have C100 : ∀ j : Nat, dt59 20 j = dt 20 j := fun j => (hF61 20 (by decide) j).trans (C48 j)
      have C101 : ∀ j : Nat, dt59 36 j = dt 36 j := fun j => (hF61 36 (by decide) j).trans (C49 j)
      have C102 : ∀ j : Nat, dt59 80 j = dt 80 j := fun j => (h58_8 j).trans (C50 j)
      have C103 : ∀ j : Nat, dt59 81 j = dt 81 j := fun j => (hF61 81 (by decide) j).trans (C51 j)
      have C104 : ∀ j : Nat, dt59 85 j = dt 85 j := fun j => (hF61 85 (by decide) j).trans (C52 j)
      refine go_toq PM267 (k := 2) (pc' := 1435) (L' := [some (.inr (.inr (some 3000))), some (.inr (.inr (some 0))), some (.inr (.inr (some 79))), some (.inl i)]) (st' := []) (w' := (SH, dt59)) rfl ?_
      exact K dt59 hI60 hM89 M296 (w63.trans (hk0.trans w90.symm)) (w64.trans (hk1.trans w91.symm)) (w65.trans (hk2.trans w92.symm)) (w66.trans (hk3.trans w93.symm)) (w67.trans (hk4.trans w94.symm)) (w68.trans (hk5.trans w95.symm)) (w69.trans (hk6.trans w79.symm)) (w70.trans (hk7.trans w80.symm)) (w71.trans (hk8.trans w81.symm)) (w72.trans (hk9.trans w82.symm)) (w73.trans (hk10.trans w83.symm)) (w74.trans (hk11.trans w84.symm)) (w75.trans (hk12.trans w85.symm)) (w76.trans (hk13.trans w86.symm)) (w77.trans (hk14.trans w87.symm)) (w78.trans (hk15.trans w88.symm)) (by first | exact hI | exact TPL_k hd0 C101 C104 (by (first | omega | (have z0_ := unhid h6_0; have z1_ := unhid h58_0; omega))) | (exfalso; (first | omega | (have z0_ := unhid h6_0; have z1_ := unhid h58_0; omega)))) (by first | exact hI | exact SCL_k hd1 hM (fun j _ => C97 j) (fun j _ => C98 j) (fun j _ _ => C102 j) | (exfalso; (first | omega | (have z0_ := unhid h6_0; have z1_ := unhid h58_0; omega)))) (by first | exact hI | exact SCL_k hd2 hM2 (fun j _ => C99 j) (fun j _ => C100 j) (fun j _ _ => C103 j) | (exfalso; (first | omega | (have z0_ := unhid h6_0; have z1_ := unhid h58_0; omega))))
    · skip
      have hM105 : MW (dt59 80) := h58.2.2.1
      obtain ⟨h58_0, h58_1, h58_2, h58_3, h58_4, h58_5, h58_6, h58_7, h58_8, h58_9, h58_10, h58_11, h58_12, h58_13, h58_14⟩ := h58
      have w106 : dt59 80 0 = dt 80 0 := h58_4.trans w27
      have w107 : dt59 80 2 = dt 80 2 := h58_5.trans w29
      have w108 : dt59 80 3 = dt 80 3 := h58_6.trans w30
      have w109 : dt59 80 4 = dt 80 4 := h58_7.trans w31
      have w110 : dt59 80 5 = dt 80 5 := h58_8.trans w32
      have M2111 : MW (dt59 81) := MW_frk M244 hF61 (by decide)
      have C112 : ∀ j : Nat, dt59 2 j = dt 2 j := fun j => (hF61 2 (by decide) j).trans (C45 j)
      have C113 : ∀ j : Nat, dt59 3 j = dt 3 j := fun j => (hF61 3 (by decide) j).trans (C46 j)
      have C114 : ∀ j : Nat, dt59 19 j = dt 19 j := fun j => (hF61 19 (by decide) j).trans (C47 j)
      have C115 : ∀ j : Nat, dt59 20 j = dt 20 j := fun j => (hF61 20 (by decide) j).trans (C48 j)
      have C116 : ∀ j : Nat, dt59 36 j = dt 36 j := fun j => (hF61 36 (by decide) j).trans (C49 j)
      have C117 : ∀ j : Nat, dt59 81 j = dt 81 j := fun j => (hF61 81 (by decide) j).trans (C51 j)
      have C118 : ∀ j : Nat, dt59 85 j = dt 85 j := fun j => (hF61 85 (by decide) j).trans (C52 j)
      have F119 : ∀ j : Nat, 6 ≤ j → j < 974 → dt59 80 j = dt 80 j := fun j h1_ h2_ => (h58_9 j (by (first | omega | (have z0_ := unhid h6_0; omega))) (by (first | omega | (have z0_ := unhid h6_0; omega)))).trans (C50 j)
      refine go_toq PM267 (k := 2) (pc' := 1435) (L' := [some (.inr (.inr (some 3000))), some (.inr (.inr (some 0))), some (.inr (.inr (some 79))), some (.inl i)]) (st' := []) (w' := (SH, dt59)) rfl ?_
      exact K dt59 hI60 hM105 M2111 (w63.trans (hk0.trans w106.symm)) (by (first | omega | (have z0_ := unhid h6_0; omega))) (w65.trans (hk2.trans w107.symm)) (w66.trans (hk3.trans w108.symm)) (w67.trans (hk4.trans w109.symm)) (w68.trans (hk5.trans w110.symm)) (w69.trans (hk6.trans w79.symm)) (w70.trans (hk7.trans w80.symm)) (w71.trans (hk8.trans w81.symm)) (w72.trans (hk9.trans w82.symm)) (w73.trans (hk10.trans w83.symm)) (w74.trans (hk11.trans w84.symm)) (w75.trans (hk12.trans w85.symm)) (w76.trans (hk13.trans w86.symm)) (w77.trans (hk14.trans w87.symm)) (w78.trans (hk15.trans w88.symm)) (by first | exact hI | exact TPL_k hd0 C116 C118 (by (first | omega | (have z0_ := unhid h6_0; omega))) | (exfalso; (first | omega | (have z0_ := unhid h6_0; omega)))) (by first | exact hI | exact SCL_k hd1 hM (fun j _ => C112 j) (fun j _ => C113 j) F119 | (exfalso; (first | omega | (have z0_ := unhid h6_0; omega)))) (by first | exact hI | exact SCL_k hd2 hM2 (fun j _ => C114 j) (fun j _ => C115 j) (fun j _ _ => C117 j) | (exfalso; (first | omega | (have z0_ := unhid h6_0; omega))))
  · skip
    obtain ⟨h6_0, h6_1, h6_2⟩ := h6
    have M2120 : MW (dt7 81) := MW_frk hM2 hF9 (by decide)
    have C121 : ∀ j : Nat, dt7 2 j = dt 2 j := fun j => (hF9 2 (by decide) j).trans ((fun _ => rfl) j)
    have C122 : ∀ j : Nat, dt7 3 j = dt 3 j := fun j => (hF9 3 (by decide) j).trans ((fun _ => rfl) j)
    have C123 : ∀ j : Nat, dt7 19 j = dt 19 j := fun j => (hF9 19 (by decide) j).trans ((fun _ => rfl) j)
    have C124 : ∀ j : Nat, dt7 20 j = dt 20 j := fun j => (hF9 20 (by decide) j).trans ((fun _ => rfl) j)
    have C125 : ∀ j : Nat, dt7 36 j = dt 36 j := fun j => (hF9 36 (by decide) j).trans ((fun _ => rfl) j)
    have C126 : ∀ j : Nat, dt7 80 j = dt 80 j := fun j => (hF9 80 (by decide) j).trans ((fun _ => rfl) j)
    have C127 : ∀ j : Nat, dt7 81 j = dt 81 j := fun j => (hF9 81 (by decide) j).trans ((fun _ => rfl) j)
    have C128 : ∀ j : Nat, dt7 85 j = dt 85 j := fun j => (hF9 85 (by decide) j).trans ((fun _ => rfl) j)
    refine go_toq PM267 (k := 6) (pc' := 529) (L' := [some (.inr (.inr (some 3000))), some (.inr (.inr (some 0))), some (.inr (.inr (some 79))), some (.inl i)]) (st' := [.inl (i + 1), .inr (.inr (some 3000)), .inr (.inr (some 79))]) (w' := (SH, dt7)) rfl ?_
    have r129 := i32_R (xs ((i + 1).toNat))
    refine go_smpq PM267 (L' := [some (.inr (.inr (some 3000))), some (.inr (.inr (some 0))), some (.inr (.inr (some 79))), some (.inl i)]) (st' := [.inl ((xs ((i + 1).toNat)).toInt), .inr (.inr (some 79))]) (w' := (SH, dt7)) rfl rfl (s_iald (n := L) (f := fun j => (xs j).toInt) (am_scr hLL) ⟨by omega, by omega⟩) ?_
    refine go_toq PM267 (k := 4) (pc' := 534) (L' := [some (.inr (.inr (some 3000))), some (.inr (.inr (some 0))), some (.inr (.inr (some 79))), some (.inl i)]) (st' := [.inl (i + 2), .inr (.inr (some 3000)), .inl ((xs ((i + 1).toNat)).toInt), .inr (.inr (some 79))]) (w' := (SH, dt7)) rfl ?_
    have r130 := i32_R (xs ((i + 2).toNat))
    refine go_smpq PM267 (L' := [some (.inr (.inr (some 3000))), some (.inr (.inr (some 0))), some (.inr (.inr (some 79))), some (.inl i)]) (st' := [.inl ((xs ((i + 2).toNat)).toInt), .inl ((xs ((i + 1).toNat)).toInt), .inr (.inr (some 79))]) (w' := (SH, dt7)) rfl rfl (s_iald (n := L) (f := fun j => (xs j).toInt) (am_scr hLL) ⟨by omega, by omega⟩) ?_
    refine go_toq PM267 (k := 4) (pc' := 539) (L' := [some (.inr (.inr (some 3000))), some (.inr (.inr (some 0))), some (.inr (.inr (some 79))), some (.inl i)]) (st' := [.inl (i + 3), .inr (.inr (some 3000)), .inl ((xs ((i + 2).toNat)).toInt), .inl ((xs ((i + 1).toNat)).toInt), .inr (.inr (some 79))]) (w' := (SH, dt7)) rfl ?_
    have r131 := i32_R (xs ((i + 3).toNat))
    refine go_smpq PM267 (L' := [some (.inr (.inr (some 3000))), some (.inr (.inr (some 0))), some (.inr (.inr (some 79))), some (.inl i)]) (st' := [.inl ((xs ((i + 3).toNat)).toInt), .inl ((xs ((i + 2).toNat)).toInt), .inl ((xs ((i + 1).toNat)).toInt), .inr (.inr (some 79))]) (w' := (SH, dt7)) rfl rfl (s_iald (n := L) (f := fun j => (xs j).toInt) (am_scr hLL) ⟨by omega, by omega⟩) ?_
    refine go_toq PM267 (k := 4) (pc' := 544) (L' := [some (.inr (.inr (some 3000))), some (.inr (.inr (some 0))), some (.inr (.inr (some 79))), some (.inl i)]) (st' := [.inl (i + 4), .inr (.inr (some 3000)), .inl ((xs ((i + 3).toNat)).toInt), .inl ((xs ((i + 2).toNat)).toInt), .inl ((xs ((i + 1).toNat)).toInt), .inr (.inr (some 79))]) (w' := (SH, dt7)) rfl ?_
    have r132 := i32_R (xs ((i + 4).toNat))
    refine go_smpq PM267 (L' := [some (.inr (.inr (some 3000))), some (.inr (.inr (some 0))), some (.inr (.inr (some 79))), some (.inl i)]) (st' := [.inl ((xs ((i + 4).toNat)).toInt), .inl ((xs ((i + 3).toNat)).toInt), .inl ((xs ((i + 2).toNat)).toInt), .inl ((xs ((i + 1).toNat)).toInt), .inr (.inr (some 79))]) (w' := (SH, dt7)) rfl rfl (s_iald (n := L) (f := fun j => (xs j).toInt) (am_scr hLL) ⟨by omega, by omega⟩) ?_
    refine go_toq PM267 (k := 4) (pc' := 549) (L' := [some (.inr (.inr (some 3000))), some (.inr (.inr (some 0))), some (.inr (.inr (some 79))), some (.inl i)]) (st' := [.inl (i + 5), .inr (.inr (some 3000)), .inl ((xs ((i + 4).toNat)).toInt), .inl ((xs ((i + 3).toNat)).toInt), .inl ((xs ((i + 2).toNat)).toInt), .inl ((xs ((i + 1).toNat)).toInt), .inr (.inr (some 79))]) (w' := (SH, dt7)) rfl ?_
    have r133 := i32_R (xs ((i + 5).toNat))
    refine go_smpq PM267 (L' := [some (.inr (.inr (some 3000))), some (.inr (.inr (some 0))), some (.inr (.inr (some 79))), some (.inl i)]) (st' := [.inl ((xs ((i + 5).toNat)).toInt), .inl ((xs ((i + 4).toNat)).toInt), .inl ((xs ((i + 3).toNat)).toInt), .inl ((xs ((i + 2).toNat)).toInt), .inl ((xs ((i + 1).toNat)).toInt), .inr (.inr (some 79))]) (w' := (SH, dt7)) rfl rfl (s_iald (n := L) (f := fun j => (xs j).toInt) (am_scr hLL) ⟨by omega, by omega⟩) ?_
    refine go_callq PM267 PM193 (Q' := _) rfl rfl rfl rfl (sp_X6_question_v L xs sio (d + 36) dt7 hI8 hM11  ((xs ((i + 1).toNat)).toInt) ⟨by omega, by omega⟩ ((xs ((i + 2).toNat)).toInt) ⟨by omega, by omega⟩ ((xs ((i + 3).toNat)).toInt) ⟨by omega, by omega⟩ ((xs ((i + 4).toNat)).toInt) ⟨by omega, by omega⟩ ((xs ((i + 5).toNat)).toInt) ⟨by omega, by omega⟩ ) ?_
    rintro _ _ ⟨dt135, rfl, hI136, hF137, h134⟩
    refine ⟨rfl, ?_⟩
    have hF138 : Fr [0, 1, 2, 3, 4, 5, 6, 7, 8, 9, 10, 11, 12, 13, 14, 15, 16, 17, 18, 19, 20, 21, 22, 23, 24, 25, 26, 27, 28, 29, 30, 31, 32, 33, 34, 35, 36, 37, 38, 39, 40, 41, 42, 43, 44, 45, 46, 47, 48, 49, 50, 51, 52, 53, 54, 55, 56, 57, 58, 59, 60, 61, 62, 63, 64, 65, 66, 67, 68, 69, 70, 71, 72, 73, 74, 75, 76, 77, 78, 79, 80, 81, 82, 83, 84, 85, 86, 87, 88, 89, 90, 91, 92, 93, 94, 95, 96, 97, 98, 99, 100, 101, 102, 103, 104] dt dt135 := Fr_tr hF10 hF137 (by decide)
    have w139 : dt135 1 0 = dt 1 0 := (hF137 1 (by decide) 0).trans w12
    have w140 : dt135 7 3 = dt7 7 3 := hF137 7 (by decide) 3
    have w141 : dt135 10 3 = dt 10 3 := (hF137 10 (by decide) 3).trans w13
    have w142 : dt135 12 3 = dt 12 3 := (hF137 12 (by decide) 3).trans w14
    have w143 : dt135 14 3 = dt 14 3 := (hF137 14 (by decide) 3).trans w15
    have w144 : dt135 16 3 = dt 16 3 := (hF137 16 (by decide) 3).trans w16
    have w145 : dt135 18 0 = dt 18 0 := (hF137 18 (by decide) 0).trans w17
    have w146 : dt135 24 3 = dt 24 3 := (hF137 24 (by decide) 3).trans w18
    have w147 : dt135 27 3 = dt 27 3 := (hF137 27 (by decide) 3).trans w19
    have w148 : dt135 29 3 = dt 29 3 := (hF137 29 (by decide) 3).trans w20
    have w149 : dt135 31 3 = dt 31 3 := (hF137 31 (by decide) 3).trans w21
    have w150 : dt135 33 3 = dt 33 3 := (hF137 33 (by decide) 3).trans w22
    have w151 : dt135 0 2 = dt 0 2 := (hF137 0 (by decide) 2).trans w23
    have w152 : dt135 35 1 = dt 35 1 := (hF137 35 (by decide) 1).trans w24
    have w153 : dt135 35 2 = dt 35 2 := (hF137 35 (by decide) 2).trans w25
    have w154 : dt135 35 3 = dt 35 3 := (hF137 35 (by decide) 3).trans w26
    have w155 : dt135 81 0 = dt 81 0 := (hF137 81 (by decide) 0).trans w33
    have w156 : dt135 81 1 = dt 81 1 := (hF137 81 (by decide) 1).trans w34
    have w157 : dt135 81 2 = dt 81 2 := (hF137 81 (by decide) 2).trans w35
    have w158 : dt135 81 3 = dt 81 3 := (hF137 81 (by decide) 3).trans w36
    have w159 : dt135 81 4 = dt 81 4 := (hF137 81 (by decide) 4).trans w37
    have w160 : dt135 81 5 = dt 81 5 := (hF137 81 (by decide) 5).trans w38
    have w161 : dt135 79 2 = dt 79 2 := (hF137 79 (by decide) 2).trans w39
    have w162 : dt135 79 12 = dt 79 12 := (hF137 79 (by decide) 12).trans w40
    have w163 : dt135 79 19 = dt 79 19 := (hF137 79 (by decide) 19).trans w41
    have w164 : dt135 79 21 = dt 79 21 := (hF137 79 (by decide) 21).trans w42
    rcases h134 with ⟨rfl, h134⟩ | ⟨v_h134, rfl, h134r, h134⟩
    · skip
      have hM165 : MW (dt135 80) := h134.2.1
      obtain ⟨h134_0, h134_1, h134_2, h134_3, h134_4, h134_5, h134_6, h134_7, h134_8⟩ := h134
      replace h134_0 := hid h134_0
      have w166 : dt135 80 0 = dt 80 0 := h134_2.trans w27
      have w167 : dt135 80 1 = dt 80 1 := h134_3.trans w28
      have w168 : dt135 80 2 = dt 80 2 := h134_4.trans w29
      have w169 : dt135 80 3 = dt 80 3 := h134_5.trans w30
      have w170 : dt135 80 4 = dt 80 4 := h134_6.trans w31
      have w171 : dt135 80 5 = dt 80 5 := h134_7.trans w32
      have M2172 : MW (dt135 81) := MW_frk M2120 hF137 (by decide)
      have C173 : ∀ j : Nat, dt135 2 j = dt 2 j := fun j => (hF137 2 (by decide) j).trans (C121 j)
      have C174 : ∀ j : Nat, dt135 3 j = dt 3 j := fun j => (hF137 3 (by decide) j).trans (C122 j)
      have C175 : ∀ j : Nat, dt135 19 j = dt 19 j := fun j => (hF137 19 (by decide) j).trans (C123 j)
      have C176 : ∀ j : Nat, dt135 20 j = dt 20 j := fun j => (hF137 20 (by decide) j).trans (C124 j)
      have C177 : ∀ j : Nat, dt135 36 j = dt 36 j := fun j => (hF137 36 (by decide) j).trans (C125 j)
      have C178 : ∀ j : Nat, dt135 80 j = dt 80 j := fun j => (h134_8 j).trans (C126 j)
      have C179 : ∀ j : Nat, dt135 81 j = dt 81 j := fun j => (hF137 81 (by decide) j).trans (C127 j)
      have C180 : ∀ j : Nat, dt135 85 j = dt 85 j := fun j => (hF137 85 (by decide) j).trans (C128 j)
      refine go_toq PM267 (k := 2) (pc' := 1435) (L' := [some (.inr (.inr (some 3000))), some (.inr (.inr (some 0))), some (.inr (.inr (some 79))), some (.inl i)]) (st' := []) (w' := (SH, dt135)) rfl ?_
      exact K dt135 hI136 hM165 M2172 (w139.trans (hk0.trans w166.symm)) (by (first | omega | (have z0_ := unhid h134_0; omega))) (w141.trans (hk2.trans w168.symm)) (w142.trans (hk3.trans w169.symm)) (w143.trans (hk4.trans w170.symm)) (w144.trans (hk5.trans w171.symm)) (w145.trans (hk6.trans w155.symm)) (w146.trans (hk7.trans w156.symm)) (w147.trans (hk8.trans w157.symm)) (w148.trans (hk9.trans w158.symm)) (w149.trans (hk10.trans w159.symm)) (w150.trans (hk11.trans w160.symm)) (w151.trans (hk12.trans w161.symm)) (w152.trans (hk13.trans w162.symm)) (w153.trans (hk14.trans w163.symm)) (w154.trans (hk15.trans w164.symm)) (by first | exact hI | exact TPL_k hd0 C177 C180 (by (first | omega | (have z0_ := unhid h134_0; omega))) | (exfalso; (first | omega | (have z0_ := unhid h134_0; omega)))) (by first | exact hI | exact SCL_k hd1 hM (fun j _ => C173 j) (fun j _ => C174 j) (fun j _ _ => C178 j) | (exfalso; (first | omega | (have z0_ := unhid h134_0; omega)))) (by first | exact hI | exact SCL_k hd2 hM2 (fun j _ => C175 j) (fun j _ => C176 j) (fun j _ _ => C179 j) | (exfalso; (first | omega | (have z0_ := unhid h134_0; omega))))
    · skip
      have hM181 : MW (dt135 80) := h134.2.2.1
      obtain ⟨h134_0, h134_1, h134_2, h134_3, h134_4, h134_5, h134_6, h134_7, h134_8, h134_9, h134_10, h134_11, h134_12, h134_13, h134_14⟩ := h134
      have w182 : dt135 80 0 = dt 80 0 := h134_4.trans w27
      have w183 : dt135 80 2 = dt 80 2 := h134_5.trans w29
      have w184 : dt135 80 3 = dt 80 3 := h134_6.trans w30
      have w185 : dt135 80 4 = dt 80 4 := h134_7.trans w31
      have w186 : dt135 80 5 = dt 80 5 := h134_8.trans w32
      have M2187 : MW (dt135 81) := MW_frk M2120 hF137 (by decide)
      have C188 : ∀ j : Nat, dt135 2 j = dt 2 j := fun j => (hF137 2 (by decide) j).trans (C121 j)
      have C189 : ∀ j : Nat, dt135 3 j = dt 3 j := fun j => (hF137 3 (by decide) j).trans (C122 j)
      have C190 : ∀ j : Nat, dt135 19 j = dt 19 j := fun j => (hF137 19 (by decide) j).trans (C123 j)
      have C191 : ∀ j : Nat, dt135 20 j = dt 20 j := fun j => (hF137 20 (by decide) j).trans (C124 j)
      have C192 : ∀ j : Nat, dt135 36 j = dt 36 j := fun j => (hF137 36 (by decide) j).trans (C125 j)
      have C193 : ∀ j : Nat, dt135 81 j = dt 81 j := fun j => (hF137 81 (by decide) j).trans (C127 j)
      have C194 : ∀ j : Nat, dt135 85 j = dt 85 j := fun j => (hF137 85 (by decide) j).trans (C128 j)
      have F195 : ∀ j : Nat, 6 ≤ j → j < 974 → dt135 80 j = dt 80 j := fun j h1_ h2_ => (h134_9 j (by omega) (by omega)).trans (C126 j)
      refine go_toq PM267 (k := 2) (pc' := 1435) (L' := [some (.inr (.inr (some 3000))), some (.inr (.inr (some 0))), some (.inr (.inr (some 79))), some (.inl i)]) (st' := []) (w' := (SH, dt135)) rfl ?_
      exact K dt135 hI136 hM181 M2187 (w139.trans (hk0.trans w182.symm)) (by omega) (w141.trans (hk2.trans w183.symm)) (w142.trans (hk3.trans w184.symm)) (w143.trans (hk4.trans w185.symm)) (w144.trans (hk5.trans w186.symm)) (w145.trans (hk6.trans w155.symm)) (w146.trans (hk7.trans w156.symm)) (w147.trans (hk8.trans w157.symm)) (w148.trans (hk9.trans w158.symm)) (w149.trans (hk10.trans w159.symm)) (w150.trans (hk11.trans w160.symm)) (w151.trans (hk12.trans w161.symm)) (w152.trans (hk13.trans w162.symm)) (w153.trans (hk14.trans w163.symm)) (w154.trans (hk15.trans w164.symm)) (by first | exact hI | exact TPL_k hd0 C192 C194 (by omega) | (exfalso; omega)) (by first | exact hI | exact SCL_k hd1 hM (fun j _ => C188 j) (fun j _ => C189 j) F195 | (exfalso; omega)) (by first | exact hI | exact SCL_k hd2 hM2 (fun j _ => C190 j) (fun j _ => C191 j) (fun j _ _ => C193 j) | (exfalso; omega))
set_option maxRecDepth 20000 in
set_option maxHeartbeats 8000000 in
theorem sp_case9 (L : Nat) (xs : Nat → Int32) (sio : Option Nat) (d : Nat) (Q : Option AV → am_W → Prop) (hLL : L ≤ 3072) (i : Int) (hi : 0 ≤ i ∧ i ≤ 3066) (hil : i ≤ (L : Int) - 6) (dt : Nat → Nat → Int) (hI : InvC dt) (hM : MW (dt 80)) (hM2 : MW (dt 81)) (hk0 : dt 1 0 = dt 80 0) (hk1 : dt 7 3 = dt 80 1) (hk2 : dt 10 3 = dt 80 2) (hk3 : dt 12 3 = dt 80 3) (hk4 : dt 14 3 = dt 80 4) (hk5 : dt 16 3 = dt 80 5) (hk6 : dt 18 0 = dt 81 0) (hk7 : dt 24 3 = dt 81 1) (hk8 : dt 27 3 = dt 81 2) (hk9 : dt 29 3 = dt 81 3) (hk10 : dt 31 3 = dt 81 4) (hk11 : dt 33 3 = dt 81 5) (hk12 : dt 0 2 = dt 79 2) (hk13 : dt 35 1 = dt 79 12) (hk14 : dt 35 2 = dt 79 19) (hk15 : dt 35 3 = dt 79 21) (hd0 : TPL (dt 36) (dt 85) (dt 35 1)) (hd1 : SCL (dt 2) (dt 3) (dt 80)) (hd2 : SCL (dt 19) (dt 20) (dt 81)) (K : ∀ (dt : Nat → Nat → Int) (hI : InvC dt) (hM : MW (dt 80)) (hM2 : MW (dt 81)) (hk0 : dt 1 0 = dt 80 0) (hk1 : dt 7 3 = dt 80 1) (hk2 : dt 10 3 = dt 80 2) (hk3 : dt 12 3 = dt 80 3) (hk4 : dt 14 3 = dt 80 4) (hk5 : dt 16 3 = dt 80 5) (hk6 : dt 18 0 = dt 81 0) (hk7 : dt 24 3 = dt 81 1) (hk8 : dt 27 3 = dt 81 2) (hk9 : dt 29 3 = dt 81 3) (hk10 : dt 31 3 = dt 81 4) (hk11 : dt 33 3 = dt 81 5) (hk12 : dt 0 2 = dt 79 2) (hk13 : dt 35 1 = dt 79 12) (hk14 : dt 35 2 = dt 79 19) (hk15 : dt 35 3 = dt 79 21) (hd0 : TPL (dt 36) (dt 85) (dt 35 1)) (hd1 : SCL (dt 2) (dt 3) (dt 80)) (hd2 : SCL (dt 19) (dt 20) (dt 81)), GO (am_XX L xs sio) (d + 39) 267 1435 [some (.inr (.inr (some 3000))), some (.inr (.inr (some 0))), some (.inr (.inr (some 79))), some (.inl i)] [] (SH, dt) Q) : GO (am_XX L xs sio) (d + 39) 267 557 [some (.inr (.inr (some 3000))), some (.inr (.inr (some 0))), some (.inr (.inr (some 79))), some (.inl i)] [] (SH, dt) Q := by
  have hF : Fr [0, 1, 2, 3, 4, 5, 6, 7, 8, 9, 10, 11, 12, 13, 14, 15, 16, 17, 18, 19, 20, 21, 22, 23, 24, 25, 26, 27, 28, 29, 30, 31, 32, 33, 34, 35, 36, 37, 38, 39, 40, 41, 42, 43, 44, 45, 46, 47, 48, 49, 50, 51, 52, 53, 54, 55, 56, 57, 58, 59, 60, 61, 62, 63, 64, 65, 66, 67, 68, 69, 70, 71, 72, 73, 74, 75, 76, 77, 78, 79, 80, 81, 82, 83, 84, 85, 86, 87, 88, 89, 90, 91, 92, 93, 94, 95, 96, 97, 98, 99, 100, 101, 102, 103, 104] dt dt := Fr_refl
  refine go_toq PM267 (k := 5) (pc' := 562) (L' := [some (.inr (.inr (some 3000))), some (.inr (.inr (some 0))), some (.inr (.inr (some 79))), some (.inl i)]) (st' := [.inl (i + 1), .inr (.inr (some 3000)), .inr (.inr (some 0))]) (w' := (SH, dt)) rfl ?_
  have r1 := i32_R (xs ((i + 1).toNat))
  refine go_smpq PM267 (L' := [some (.inr (.inr (some 3000))), some (.inr (.inr (some 0))), some (.inr (.inr (some 79))), some (.inl i)]) (st' := [.inl ((xs ((i + 1).toNat)).toInt), .inr (.inr (some 0))]) (w' := (SH, dt)) rfl rfl (s_iald (n := L) (f := fun j => (xs j).toInt) (am_scr hLL) ⟨by omega, by omega⟩) ?_
  refine go_toq PM267 (k := 4) (pc' := 567) (L' := [some (.inr (.inr (some 3000))), some (.inr (.inr (some 0))), some (.inr (.inr (some 79))), some (.inl i)]) (st' := [.inl (i + 2), .inr (.inr (some 3000)), .inl ((xs ((i + 1).toNat)).toInt), .inr (.inr (some 0))]) (w' := (SH, dt)) rfl ?_
  have r2 := i32_R (xs ((i + 2).toNat))
  refine go_smpq PM267 (L' := [some (.inr (.inr (some 3000))), some (.inr (.inr (some 0))), some (.inr (.inr (some 79))), some (.inl i)]) (st' := [.inl ((xs ((i + 2).toNat)).toInt), .inl ((xs ((i + 1).toNat)).toInt), .inr (.inr (some 0))]) (w' := (SH, dt)) rfl rfl (s_iald (n := L) (f := fun j => (xs j).toInt) (am_scr hLL) ⟨by omega, by omega⟩) ?_
  refine go_callq PM267 PM76 (Q' := _) rfl rfl rfl rfl (sp_X5_says L xs sio (d + 36) dt hI  ((xs ((i + 1).toNat)).toInt) ⟨by omega, by omega⟩ ((xs ((i + 2).toNat)).toInt) ⟨by omega, by omega⟩ ) ?_
  rintro _ _ ⟨rfl, h3⟩
  refine ⟨rfl, ?_⟩
  rcases h3 with ⟨v_h3, rfl, h3r, h3⟩
  refine go_toq PM267 (k := 6) (pc' := 577) (L' := [some (.inr (.inr (some 3000))), some (.inr (.inr (some 0))), some (.inr (.inr (some 79))), some (.inl i)]) (st' := [.inl (i + 1), .inr (.inr (some 3000)), .inr (.inr (some 79))]) (w' := (SH, dt)) rfl ?_
  refine go_smpq PM267 (L' := [some (.inr (.inr (some 3000))), some (.inr (.inr (some 0))), some (.inr (.inr (some 79))), some (.inl i)]) (st' := [.inl ((xs ((i + 1).toNat)).toInt), .inr (.inr (some 79))]) (w' := (SH, dt)) rfl rfl (s_iald (n := L) (f := fun j => (xs j).toInt) (am_scr hLL) ⟨by omega, by omega⟩) ?_
  refine go_toq PM267 (k := 4) (pc' := 582) (L' := [some (.inr (.inr (some 3000))), some (.inr (.inr (some 0))), some (.inr (.inr (some 79))), some (.inl i)]) (st' := [.inl (i + 2), .inr (.inr (some 3000)), .inl ((xs ((i + 1).toNat)).toInt), .inr (.inr (some 79))]) (w' := (SH, dt)) rfl ?_
  refine go_smpq PM267 (L' := [some (.inr (.inr (some 3000))), some (.inr (.inr (some 0))), some (.inr (.inr (some 79))), some (.inl i)]) (st' := [.inl ((xs ((i + 2).toNat)).toInt), .inl ((xs ((i + 1).toNat)).toInt), .inr (.inr (some 79))]) (w' := (SH, dt)) rfl rfl (s_iald (n := L) (f := fun j => (xs j).toInt) (am_scr hLL) ⟨by omega, by omega⟩) ?_
  refine go_callq PM267 PM197 (Q' := _) rfl rfl rfl rfl (sp_X6_says L xs sio (d + 32) dt hI hM  ((xs ((i + 1).toNat)).toInt) ⟨by omega, by omega⟩ ((xs ((i + 2).toNat)).toInt) ⟨by omega, by omega⟩ ) ?_
  rintro _ _ ⟨dt5, rfl, hI6, hF7, h4⟩
  refine ⟨rfl, ?_⟩
  have hF8 : Fr [0, 1, 2, 3, 4, 5, 6, 7, 8, 9, 10, 11, 12, 13, 14, 15, 16, 17, 18, 19, 20, 21, 22, 23, 24, 25, 26, 27, 28, 29, 30, 31, 32, 33, 34, 35, 36, 37, 38, 39, 40, 41, 42, 43, 44, 45, 46, 47, 48, 49, 50, 51, 52, 53, 54, 55, 56, 57, 58, 59, 60, 61, 62, 63, 64, 65, 66, 67, 68, 69, 70, 71, 72, 73, 74, 75, 76, 77, 78, 79, 80, 81, 82, 83, 84, 85, 86, 87, 88, 89, 90, 91, 92, 93, 94, 95, 96, 97, 98, 99, 100, 101, 102, 103, 104] dt dt5 := Fr_tr hF hF7 (by decide)
  have hM9 : MW (dt5 80) := MW_fr hM hF7 (by decide)
  have w10 : dt5 1 0 = dt 1 0 := hF7 1 (by decide) 0
  have w11 : dt5 7 3 = dt 7 3 := hF7 7 (by decide) 3
  have w12 : dt5 10 3 = dt 10 3 := hF7 10 (by decide) 3
  have w13 : dt5 12 3 = dt 12 3 := hF7 12 (by decide) 3
  have w14 : dt5 14 3 = dt 14 3 := hF7 14 (by decide) 3
  have w15 : dt5 16 3 = dt 16 3 := hF7 16 (by decide) 3
  have w16 : dt5 18 0 = dt 18 0 := hF7 18 (by decide) 0
  have w17 : dt5 24 3 = dt 24 3 := hF7 24 (by decide) 3
  have w18 : dt5 27 3 = dt 27 3 := hF7 27 (by decide) 3
  have w19 : dt5 29 3 = dt 29 3 := hF7 29 (by decide) 3
  have w20 : dt5 31 3 = dt 31 3 := hF7 31 (by decide) 3
  have w21 : dt5 33 3 = dt 33 3 := hF7 33 (by decide) 3
  have w22 : dt5 0 2 = dt 0 2 := hF7 0 (by decide) 2
  have w23 : dt5 35 1 = dt 35 1 := hF7 35 (by decide) 1
  have w24 : dt5 35 2 = dt 35 2 := hF7 35 (by decide) 2
  have w25 : dt5 35 3 = dt 35 3 := hF7 35 (by decide) 3
  have w26 : dt5 80 0 = dt 80 0 := hF7 80 (by decide) 0
  have w27 : dt5 80 1 = dt 80 1 := hF7 80 (by decide) 1
  have w28 : dt5 80 2 = dt 80 2 := hF7 80 (by decide) 2
  have w29 : dt5 80 3 = dt 80 3 := hF7 80 (by decide) 3
  have w30 : dt5 80 4 = dt 80 4 := hF7 80 (by decide) 4
  have w31 : dt5 80 5 = dt 80 5 := hF7 80 (by decide) 5
  have w32 : dt5 81 0 = dt 81 0 := hF7 81 (by decide) 0
  have w33 : dt5 81 1 = dt 81 1 := hF7 81 (by decide) 1
  have w34 : dt5 81 2 = dt 81 2 := hF7 81 (by decide) 2
  have w35 : dt5 81 3 = dt 81 3 := hF7 81 (by decide) 3
  have w36 : dt5 81 4 = dt 81 4 := hF7 81 (by decide) 4
  have w37 : dt5 81 5 = dt 81 5 := hF7 81 (by decide) 5
  have w38 : dt5 79 2 = dt 79 2 := hF7 79 (by decide) 2
  have w39 : dt5 79 12 = dt 79 12 := hF7 79 (by decide) 12
  have w40 : dt5 79 19 = dt 79 19 := hF7 79 (by decide) 19
  have w41 : dt5 79 21 = dt 79 21 := hF7 79 (by decide) 21
  rcases h4 with ⟨v_h4, rfl, h4r, h4⟩
  have M242 : MW (dt5 81) := MW_frk hM2 hF7 (by decide)
  have C43 : ∀ j : Nat, dt5 2 j = dt 2 j := fun j => (hF7 2 (by decide) j).trans ((fun _ => rfl) j)
  have C44 : ∀ j : Nat, dt5 3 j = dt 3 j := fun j => (hF7 3 (by decide) j).trans ((fun _ => rfl) j)
  have C45 : ∀ j : Nat, dt5 19 j = dt 19 j := fun j => (hF7 19 (by decide) j).trans ((fun _ => rfl) j)
  have C46 : ∀ j : Nat, dt5 20 j = dt 20 j := fun j => (hF7 20 (by decide) j).trans ((fun _ => rfl) j)
  have C47 : ∀ j : Nat, dt5 36 j = dt 36 j := fun j => (hF7 36 (by decide) j).trans ((fun _ => rfl) j)
  have C48 : ∀ j : Nat, dt5 80 j = dt 80 j := fun j => (hF7 80 (by decide) j).trans ((fun _ => rfl) j)
  have C49 : ∀ j : Nat, dt5 81 j = dt 81 j := fun j => (hF7 81 (by decide) j).trans ((fun _ => rfl) j)
  have C50 : ∀ j : Nat, dt5 85 j = dt 85 j := fun j => (hF7 85 (by decide) j).trans ((fun _ => rfl) j)
  refine go_toq PM267 (k := 2) (pc' := 1435) (L' := [some (.inr (.inr (some 3000))), some (.inr (.inr (some 0))), some (.inr (.inr (some 79))), some (.inl i)]) (st' := []) (w' := (SH, dt5)) rfl ?_
  exact K dt5 hI6 hM9 M242 (w10.trans (hk0.trans w26.symm)) (w11.trans (hk1.trans w27.symm)) (w12.trans (hk2.trans w28.symm)) (w13.trans (hk3.trans w29.symm)) (w14.trans (hk4.trans w30.symm)) (w15.trans (hk5.trans w31.symm)) (w16.trans (hk6.trans w32.symm)) (w17.trans (hk7.trans w33.symm)) (w18.trans (hk8.trans w34.symm)) (w19.trans (hk9.trans w35.symm)) (w20.trans (hk10.trans w36.symm)) (w21.trans (hk11.trans w37.symm)) (w22.trans (hk12.trans w38.symm)) (w23.trans (hk13.trans w39.symm)) (w24.trans (hk14.trans w40.symm)) (w25.trans (hk15.trans w41.symm)) (by first | exact hI | exact TPL_k hd0 C47 C50 (by omega) | (exfalso; omega)) (by first | exact hI | exact SCL_k hd1 hM (fun j _ => C43 j) (fun j _ => C44 j) (fun j _ _ => C48 j) | (exfalso; omega)) (by first | exact hI | exact SCL_k hd2 hM2 (fun j _ => C45 j) (fun j _ => C46 j) (fun j _ _ => C49 j) | (exfalso; omega))
set_option maxRecDepth 20000 in
set_option maxHeartbeats 8000000 in
theorem sp_case10 (L : Nat) (xs : Nat → Int32) (sio : Option Nat) (d : Nat) (Q : Option AV → am_W → Prop) (hLL : L ≤ 3072) (i : Int) (hi : 0 ≤ i ∧ i ≤ 3066) (hil : i ≤ (L : Int) - 6) (dt : Nat → Nat → Int) (hI : InvC dt) (hM : MW (dt 80)) (hM2 : MW (dt 81)) (hk0 : dt 1 0 = dt 80 0) (hk1 : dt 7 3 = dt 80 1) (hk2 : dt 10 3 = dt 80 2) (hk3 : dt 12 3 = dt 80 3) (hk4 : dt 14 3 = dt 80 4) (hk5 : dt 16 3 = dt 80 5) (hk6 : dt 18 0 = dt 81 0) (hk7 : dt 24 3 = dt 81 1) (hk8 : dt 27 3 = dt 81 2) (hk9 : dt 29 3 = dt 81 3) (hk10 : dt 31 3 = dt 81 4) (hk11 : dt 33 3 = dt 81 5) (hk12 : dt 0 2 = dt 79 2) (hk13 : dt 35 1 = dt 79 12) (hk14 : dt 35 2 = dt 79 19) (hk15 : dt 35 3 = dt 79 21) (hd0 : TPL (dt 36) (dt 85) (dt 35 1)) (hd1 : SCL (dt 2) (dt 3) (dt 80)) (hd2 : SCL (dt 19) (dt 20) (dt 81)) (K : ∀ (dt : Nat → Nat → Int) (hI : InvC dt) (hM : MW (dt 80)) (hM2 : MW (dt 81)) (hk0 : dt 1 0 = dt 80 0) (hk1 : dt 7 3 = dt 80 1) (hk2 : dt 10 3 = dt 80 2) (hk3 : dt 12 3 = dt 80 3) (hk4 : dt 14 3 = dt 80 4) (hk5 : dt 16 3 = dt 80 5) (hk6 : dt 18 0 = dt 81 0) (hk7 : dt 24 3 = dt 81 1) (hk8 : dt 27 3 = dt 81 2) (hk9 : dt 29 3 = dt 81 3) (hk10 : dt 31 3 = dt 81 4) (hk11 : dt 33 3 = dt 81 5) (hk12 : dt 0 2 = dt 79 2) (hk13 : dt 35 1 = dt 79 12) (hk14 : dt 35 2 = dt 79 19) (hk15 : dt 35 3 = dt 79 21) (hd0 : TPL (dt 36) (dt 85) (dt 35 1)) (hd1 : SCL (dt 2) (dt 3) (dt 80)) (hd2 : SCL (dt 19) (dt 20) (dt 81)), GO (am_XX L xs sio) (d + 39) 267 1435 [some (.inr (.inr (some 3000))), some (.inr (.inr (some 0))), some (.inr (.inr (some 79))), some (.inl i)] [] (SH, dt) Q) : GO (am_XX L xs sio) (d + 39) 267 590 [some (.inr (.inr (some 3000))), some (.inr (.inr (some 0))), some (.inr (.inr (some 79))), some (.inl i)] [] (SH, dt) Q := by
  have hF : Fr [0, 1, 2, 3, 4, 5, 6, 7, 8, 9, 10, 11, 12, 13, 14, 15, 16, 17, 18, 19, 20, 21, 22, 23, 24, 25, 26, 27, 28, 29, 30, 31, 32, 33, 34, 35, 36, 37, 38, 39, 40, 41, 42, 43, 44, 45, 46, 47, 48, 49, 50, 51, 52, 53, 54, 55, 56, 57, 58, 59, 60, 61, 62, 63, 64, 65, 66, 67, 68, 69, 70, 71, 72, 73, 74, 75, 76, 77, 78, 79, 80, 81, 82, 83, 84, 85, 86, 87, 88, 89, 90, 91, 92, 93, 94, 95, 96, 97, 98, 99, 100, 101, 102, 103, 104] dt dt := Fr_refl
  refine go_toq PM267 (k := 5) (pc' := 595) (L' := [some (.inr (.inr (some 3000))), some (.inr (.inr (some 0))), some (.inr (.inr (some 79))), some (.inl i)]) (st' := [.inl (i + 1), .inr (.inr (some 3000)), .inr (.inr (some 0))]) (w' := (SH, dt)) rfl ?_
  have r1 := i32_R (xs ((i + 1).toNat))
  refine go_smpq PM267 (L' := [some (.inr (.inr (some 3000))), some (.inr (.inr (some 0))), some (.inr (.inr (some 79))), some (.inl i)]) (st' := [.inl ((xs ((i + 1).toNat)).toInt), .inr (.inr (some 0))]) (w' := (SH, dt)) rfl rfl (s_iald (n := L) (f := fun j => (xs j).toInt) (am_scr hLL) ⟨by omega, by omega⟩) ?_
  refine go_toq PM267 (k := 4) (pc' := 600) (L' := [some (.inr (.inr (some 3000))), some (.inr (.inr (some 0))), some (.inr (.inr (some 79))), some (.inl i)]) (st' := [.inl (i + 2), .inr (.inr (some 3000)), .inl ((xs ((i + 1).toNat)).toInt), .inr (.inr (some 0))]) (w' := (SH, dt)) rfl ?_
  have r2 := i32_R (xs ((i + 2).toNat))
  refine go_smpq PM267 (L' := [some (.inr (.inr (some 3000))), some (.inr (.inr (some 0))), some (.inr (.inr (some 79))), some (.inl i)]) (st' := [.inl ((xs ((i + 2).toNat)).toInt), .inl ((xs ((i + 1).toNat)).toInt), .inr (.inr (some 0))]) (w' := (SH, dt)) rfl rfl (s_iald (n := L) (f := fun j => (xs j).toInt) (am_scr hLL) ⟨by omega, by omega⟩) ?_
  refine go_toq PM267 (k := 4) (pc' := 605) (L' := [some (.inr (.inr (some 3000))), some (.inr (.inr (some 0))), some (.inr (.inr (some 79))), some (.inl i)]) (st' := [.inl (i + 3), .inr (.inr (some 3000)), .inl ((xs ((i + 2).toNat)).toInt), .inl ((xs ((i + 1).toNat)).toInt), .inr (.inr (some 0))]) (w' := (SH, dt)) rfl ?_
  have r3 := i32_R (xs ((i + 3).toNat))
  refine go_smpq PM267 (L' := [some (.inr (.inr (some 3000))), some (.inr (.inr (some 0))), some (.inr (.inr (some 79))), some (.inl i)]) (st' := [.inl ((xs ((i + 3).toNat)).toInt), .inl ((xs ((i + 2).toNat)).toInt), .inl ((xs ((i + 1).toNat)).toInt), .inr (.inr (some 0))]) (w' := (SH, dt)) rfl rfl (s_iald (n := L) (f := fun j => (xs j).toInt) (am_scr hLL) ⟨by omega, by omega⟩) ?_
  refine go_toq PM267 (k := 4) (pc' := 610) (L' := [some (.inr (.inr (some 3000))), some (.inr (.inr (some 0))), some (.inr (.inr (some 79))), some (.inl i)]) (st' := [.inl (i + 4), .inr (.inr (some 3000)), .inl ((xs ((i + 3).toNat)).toInt), .inl ((xs ((i + 2).toNat)).toInt), .inl ((xs ((i + 1).toNat)).toInt), .inr (.inr (some 0))]) (w' := (SH, dt)) rfl ?_
  have r4 := i32_R (xs ((i + 4).toNat))
  refine go_smpq PM267 (L' := [some (.inr (.inr (some 3000))), some (.inr (.inr (some 0))), some (.inr (.inr (some 79))), some (.inl i)]) (st' := [.inl ((xs ((i + 4).toNat)).toInt), .inl ((xs ((i + 3).toNat)).toInt), .inl ((xs ((i + 2).toNat)).toInt), .inl ((xs ((i + 1).toNat)).toInt), .inr (.inr (some 0))]) (w' := (SH, dt)) rfl rfl (s_iald (n := L) (f := fun j => (xs j).toInt) (am_scr hLL) ⟨by omega, by omega⟩) ?_
  refine go_callq PM267 PM77 (Q' := _) rfl rfl rfl rfl (sp_X5_child L xs sio (d + 36) dt hI  ((xs ((i + 1).toNat)).toInt) ⟨by omega, by omega⟩ ((xs ((i + 2).toNat)).toInt) ⟨by omega, by omega⟩ ((xs ((i + 3).toNat)).toInt) ⟨by omega, by omega⟩ ((xs ((i + 4).toNat)).toInt) ⟨by omega, by omega⟩ ) ?_
  rintro _ _ ⟨dt6, rfl, hI7, hF8, h5⟩
  refine ⟨rfl, ?_⟩
  have hF9 : Fr [0, 1, 2, 3, 4, 5, 6, 7, 8, 9, 10, 11, 12, 13, 14, 15, 16, 17, 18, 19, 20, 21, 22, 23, 24, 25, 26, 27, 28, 29, 30, 31, 32, 33, 34, 35, 36, 37, 38, 39, 40, 41, 42, 43, 44, 45, 46, 47, 48, 49, 50, 51, 52, 53, 54, 55, 56, 57, 58, 59, 60, 61, 62, 63, 64, 65, 66, 67, 68, 69, 70, 71, 72, 73, 74, 75, 76, 77, 78, 79, 80, 81, 82, 83, 84, 85, 86, 87, 88, 89, 90, 91, 92, 93, 94, 95, 96, 97, 98, 99, 100, 101, 102, 103, 104] dt dt6 := Fr_tr hF hF8 (by decide)
  have hM10 : MW (dt6 80) := MW_fr hM hF8 (by decide)
  have w11 : dt6 1 0 = dt 1 0 := hF8 1 (by decide) 0
  have w12 : dt6 7 3 = dt 7 3 := hF8 7 (by decide) 3
  have w13 : dt6 12 3 = dt 12 3 := hF8 12 (by decide) 3
  have w14 : dt6 14 3 = dt 14 3 := hF8 14 (by decide) 3
  have w15 : dt6 16 3 = dt 16 3 := hF8 16 (by decide) 3
  have w16 : dt6 18 0 = dt 18 0 := hF8 18 (by decide) 0
  have w17 : dt6 24 3 = dt 24 3 := hF8 24 (by decide) 3
  have w18 : dt6 27 3 = dt 27 3 := hF8 27 (by decide) 3
  have w19 : dt6 29 3 = dt 29 3 := hF8 29 (by decide) 3
  have w20 : dt6 31 3 = dt 31 3 := hF8 31 (by decide) 3
  have w21 : dt6 33 3 = dt 33 3 := hF8 33 (by decide) 3
  have w22 : dt6 0 2 = dt 0 2 := hF8 0 (by decide) 2
  have w23 : dt6 35 1 = dt 35 1 := hF8 35 (by decide) 1
  have w24 : dt6 35 2 = dt 35 2 := hF8 35 (by decide) 2
  have w25 : dt6 35 3 = dt 35 3 := hF8 35 (by decide) 3
  have w26 : dt6 80 0 = dt 80 0 := hF8 80 (by decide) 0
  have w27 : dt6 80 1 = dt 80 1 := hF8 80 (by decide) 1
  have w28 : dt6 80 2 = dt 80 2 := hF8 80 (by decide) 2
  have w29 : dt6 80 3 = dt 80 3 := hF8 80 (by decide) 3
  have w30 : dt6 80 4 = dt 80 4 := hF8 80 (by decide) 4
  have w31 : dt6 80 5 = dt 80 5 := hF8 80 (by decide) 5
  have w32 : dt6 81 0 = dt 81 0 := hF8 81 (by decide) 0
  have w33 : dt6 81 1 = dt 81 1 := hF8 81 (by decide) 1
  have w34 : dt6 81 2 = dt 81 2 := hF8 81 (by decide) 2
  have w35 : dt6 81 3 = dt 81 3 := hF8 81 (by decide) 3
  have w36 : dt6 81 4 = dt 81 4 := hF8 81 (by decide) 4
  have w37 : dt6 81 5 = dt 81 5 := hF8 81 (by decide) 5
  have w38 : dt6 79 2 = dt 79 2 := hF8 79 (by decide) 2
  have w39 : dt6 79 12 = dt 79 12 := hF8 79 (by decide) 12
  have w40 : dt6 79 19 = dt 79 19 := hF8 79 (by decide) 19
  have w41 : dt6 79 21 = dt 79 21 := hF8 79 (by decide) 21
  rcases h5 with ⟨rfl, h5⟩ | ⟨v_h5, rfl, h5r, h5⟩
  · skip
    obtain ⟨h5_0, h5_1⟩ := h5
    replace h5_0 := hid h5_0
    have w42 : dt6 10 3 = dt 10 3 := h5_1
    have M243 : MW (dt6 81) := MW_frk hM2 hF8 (by decide)
    have C44 : ∀ j : Nat, dt6 2 j = dt 2 j := fun j => (hF8 2 (by decide) j).trans ((fun _ => rfl) j)
    have C45 : ∀ j : Nat, dt6 3 j = dt 3 j := fun j => (hF8 3 (by decide) j).trans ((fun _ => rfl) j)
    have C46 : ∀ j : Nat, dt6 19 j = dt 19 j := fun j => (hF8 19 (by decide) j).trans ((fun _ => rfl) j)
    have C47 : ∀ j : Nat, dt6 20 j = dt 20 j := fun j => (hF8 20 (by decide) j).trans ((fun _ => rfl) j)
    have C48 : ∀ j : Nat, dt6 36 j = dt 36 j := fun j => (hF8 36 (by decide) j).trans ((fun _ => rfl) j)
    have C49 : ∀ j : Nat, dt6 80 j = dt 80 j := fun j => (hF8 80 (by decide) j).trans ((fun _ => rfl) j)
    have C50 : ∀ j : Nat, dt6 81 j = dt 81 j := fun j => (hF8 81 (by decide) j).trans ((fun _ => rfl) j)
    have C51 : ∀ j : Nat, dt6 85 j = dt 85 j := fun j => (hF8 85 (by decide) j).trans ((fun _ => rfl) j)
    refine go_toq PM267 (k := 6) (pc' := 620) (L' := [some (.inr (.inr (some 3000))), some (.inr (.inr (some 0))), some (.inr (.inr (some 79))), some (.inl i)]) (st' := [.inl (i + 1), .inr (.inr (some 3000)), .inr (.inr (some 79))]) (w' := (SH, dt6)) rfl ?_
    have r52 := i32_R (xs ((i + 1).toNat))
    refine go_smpq PM267 (L' := [some (.inr (.inr (some 3000))), some (.inr (.inr (some 0))), some (.inr (.inr (some 79))), some (.inl i)]) (st' := [.inl ((xs ((i + 1).toNat)).toInt), .inr (.inr (some 79))]) (w' := (SH, dt6)) rfl rfl (s_iald (n := L) (f := fun j => (xs j).toInt) (am_scr hLL) ⟨by (first | omega | (have z0_ := unhid h5_0; omega)), by (first | omega | (have z0_ := unhid h5_0; omega))⟩) ?_
    refine go_toq PM267 (k := 4) (pc' := 625) (L' := [some (.inr (.inr (some 3000))), some (.inr (.inr (some 0))), some (.inr (.inr (some 79))), some (.inl i)]) (st' := [.inl (i + 2), .inr (.inr (some 3000)), .inl ((xs ((i + 1).toNat)).toInt), .inr (.inr (some 79))]) (w' := (SH, dt6)) rfl ?_
    have r53 := i32_R (xs ((i + 2).toNat))
    refine go_smpq PM267 (L' := [some (.inr (.inr (some 3000))), some (.inr (.inr (some 0))), some (.inr (.inr (some 79))), some (.inl i)]) (st' := [.inl ((xs ((i + 2).toNat)).toInt), .inl ((xs ((i + 1).toNat)).toInt), .inr (.inr (some 79))]) (w' := (SH, dt6)) rfl rfl (s_iald (n := L) (f := fun j => (xs j).toInt) (am_scr hLL) ⟨by (first | omega | (have z0_ := unhid h5_0; omega)), by (first | omega | (have z0_ := unhid h5_0; omega))⟩) ?_
    refine go_toq PM267 (k := 4) (pc' := 630) (L' := [some (.inr (.inr (some 3000))), some (.inr (.inr (some 0))), some (.inr (.inr (some 79))), some (.inl i)]) (st' := [.inl (i + 3), .inr (.inr (some 3000)), .inl ((xs ((i + 2).toNat)).toInt), .inl ((xs ((i + 1).toNat)).toInt), .inr (.inr (some 79))]) (w' := (SH, dt6)) rfl ?_
    have r54 := i32_R (xs ((i + 3).toNat))
    refine go_smpq PM267 (L' := [some (.inr (.inr (some 3000))), some (.inr (.inr (some 0))), some (.inr (.inr (some 79))), some (.inl i)]) (st' := [.inl ((xs ((i + 3).toNat)).toInt), .inl ((xs ((i + 2).toNat)).toInt), .inl ((xs ((i + 1).toNat)).toInt), .inr (.inr (some 79))]) (w' := (SH, dt6)) rfl rfl (s_iald (n := L) (f := fun j => (xs j).toInt) (am_scr hLL) ⟨by (first | omega | (have z0_ := unhid h5_0; omega)), by (first | omega | (have z0_ := unhid h5_0; omega))⟩) ?_
    refine go_toq PM267 (k := 4) (pc' := 635) (L' := [some (.inr (.inr (some 3000))), some (.inr (.inr (some 0))), some (.inr (.inr (some 79))), some (.inl i)]) (st' := [.inl (i + 4), .inr (.inr (some 3000)), .inl ((xs ((i + 3).toNat)).toInt), .inl ((xs ((i + 2).toNat)).toInt), .inl ((xs ((i + 1).toNat)).toInt), .inr (.inr (some 79))]) (w' := (SH, dt6)) rfl ?_
    have r55 := i32_R (xs ((i + 4).toNat))
    refine go_smpq PM267 (L' := [some (.inr (.inr (some 3000))), some (.inr (.inr (some 0))), some (.inr (.inr (some 79))), some (.inl i)]) (st' := [.inl ((xs ((i + 4).toNat)).toInt), .inl ((xs ((i + 3).toNat)).toInt), .inl ((xs ((i + 2).toNat)).toInt), .inl ((xs ((i + 1).toNat)).toInt), .inr (.inr (some 79))]) (w' := (SH, dt6)) rfl rfl (s_iald (n := L) (f := fun j => (xs j).toInt) (am_scr hLL) ⟨by (first | omega | (have z0_ := unhid h5_0; omega)), by (first | omega | (have z0_ := unhid h5_0; omega))⟩) ?_
    refine go_callq PM267 PM202 (Q' := _) rfl rfl rfl rfl (sp_X6_child_v L xs sio (d + 36) dt6 hI7 hM10  ((xs ((i + 1).toNat)).toInt) ⟨by (first | omega | (have z0_ := unhid h5_0; omega)), by (first | omega | (have z0_ := unhid h5_0; omega))⟩ ((xs ((i + 2).toNat)).toInt) ⟨by (first | omega | (have z0_ := unhid h5_0; omega)), by (first | omega | (have z0_ := unhid h5_0; omega))⟩ ((xs ((i + 3).toNat)).toInt) ⟨by (first | omega | (have z0_ := unhid h5_0; omega)), by (first | omega | (have z0_ := unhid h5_0; omega))⟩ ((xs ((i + 4).toNat)).toInt) ⟨by (first | omega | (have z0_ := unhid h5_0; omega)), by (first | omega | (have z0_ := unhid h5_0; omega))⟩ ) ?_
    rintro _ _ ⟨dt57, rfl, hI58, hF59, h56⟩
    refine ⟨rfl, ?_⟩
    have hF60 : Fr [0, 1, 2, 3, 4, 5, 6, 7, 8, 9, 10, 11, 12, 13, 14, 15, 16, 17, 18, 19, 20, 21, 22, 23, 24, 25, 26, 27, 28, 29, 30, 31, 32, 33, 34, 35, 36, 37, 38, 39, 40, 41, 42, 43, 44, 45, 46, 47, 48, 49, 50, 51, 52, 53, 54, 55, 56, 57, 58, 59, 60, 61, 62, 63, 64, 65, 66, 67, 68, 69, 70, 71, 72, 73, 74, 75, 76, 77, 78, 79, 80, 81, 82, 83, 84, 85, 86, 87, 88, 89, 90, 91, 92, 93, 94, 95, 96, 97, 98, 99, 100, 101, 102, 103, 104] dt dt57 := Fr_tr hF9 hF59 (by decide)
    have w61 : dt57 1 0 = dt 1 0 := (hF59 1 (by decide) 0).trans w11
    have w62 : dt57 7 3 = dt 7 3 := (hF59 7 (by decide) 3).trans w12
    have w63 : dt57 10 3 = dt 10 3 := (hF59 10 (by decide) 3).trans w42
    have w64 : dt57 12 3 = dt 12 3 := (hF59 12 (by decide) 3).trans w13
    have w65 : dt57 14 3 = dt 14 3 := (hF59 14 (by decide) 3).trans w14
    have w66 : dt57 16 3 = dt 16 3 := (hF59 16 (by decide) 3).trans w15
    have w67 : dt57 18 0 = dt 18 0 := (hF59 18 (by decide) 0).trans w16
    have w68 : dt57 24 3 = dt 24 3 := (hF59 24 (by decide) 3).trans w17
    have w69 : dt57 27 3 = dt 27 3 := (hF59 27 (by decide) 3).trans w18
    have w70 : dt57 29 3 = dt 29 3 := (hF59 29 (by decide) 3).trans w19
    have w71 : dt57 31 3 = dt 31 3 := (hF59 31 (by decide) 3).trans w20
    have w72 : dt57 33 3 = dt 33 3 := (hF59 33 (by decide) 3).trans w21
    have w73 : dt57 0 2 = dt 0 2 := (hF59 0 (by decide) 2).trans w22
    have w74 : dt57 35 1 = dt 35 1 := (hF59 35 (by decide) 1).trans w23
    have w75 : dt57 35 2 = dt 35 2 := (hF59 35 (by decide) 2).trans w24
    have w76 : dt57 35 3 = dt 35 3 := (hF59 35 (by decide) 3).trans w25
    have w77 : dt57 81 0 = dt 81 0 := (hF59 81 (by decide) 0).trans w32
    have w78 : dt57 81 1 = dt 81 1 := (hF59 81 (by decide) 1).trans w33
    have w79 : dt57 81 2 = dt 81 2 := (hF59 81 (by decide) 2).trans w34
    have w80 : dt57 81 3 = dt 81 3 := (hF59 81 (by decide) 3).trans w35
    have w81 : dt57 81 4 = dt 81 4 := (hF59 81 (by decide) 4).trans w36
    have w82 : dt57 81 5 = dt 81 5 := (hF59 81 (by decide) 5).trans w37
    have w83 : dt57 79 2 = dt 79 2 := (hF59 79 (by decide) 2).trans w38
    have w84 : dt57 79 12 = dt 79 12 := (hF59 79 (by decide) 12).trans w39
    have w85 : dt57 79 19 = dt 79 19 := (hF59 79 (by decide) 19).trans w40
    have w86 : dt57 79 21 = dt 79 21 := (hF59 79 (by decide) 21).trans w41
    rcases h56 with ⟨rfl, h56⟩ | ⟨v_h56, rfl, h56r, h56⟩
    · skip
      have hM87 : MW (dt57 80) := h56.2.1
      obtain ⟨h56_0, h56_1, h56_2, h56_3, h56_4, h56_5, h56_6, h56_7, h56_8⟩ := h56
      replace h56_0 := hid h56_0
      have w88 : dt57 80 0 = dt 80 0 := h56_2.trans w26
      have w89 : dt57 80 1 = dt 80 1 := h56_3.trans w27
      have w90 : dt57 80 2 = dt 80 2 := h56_4.trans w28
      have w91 : dt57 80 3 = dt 80 3 := h56_5.trans w29
      have w92 : dt57 80 4 = dt 80 4 := h56_6.trans w30
      have w93 : dt57 80 5 = dt 80 5 := h56_7.trans w31
      have M294 : MW (dt57 81) := MW_frk M243 hF59 (by decide)
      have C95 : ∀ j : Nat, dt57 2 j = dt 2 j := fun j => (hF59 2 (by decide) j).trans (C44 j)
      have C96 : ∀ j : Nat, dt57 3 j = dt 3 j := fun j => (hF59 3 (by decide) j).trans (C45 j)
      have C97 : ∀ j : Nat, dt57 19 j = dt 19 j := fun j => (hF59 19 (by decide) j).trans (C46 j)
      have C98 : ∀ j : Nat, dt57 20 j = dt 20 j := fun j => (hF59 20 (by decide) j).trans (C47 j)
      have C99 : ∀ j : Nat, dt57 36 j = dt 36 j := fun j => (hF59 36 (by decide) j).trans (C48 j)
      have C100 : ∀ j : Nat, dt57 80 j = dt 80 j := fun j => (h56_8 j).trans (C49 j)
      have C101 : ∀ j : Nat, dt57 81 j = dt 81 j := fun j => (hF59 81 (by decide) j).trans (C50 j)
      have C102 : ∀ j : Nat, dt57 85 j = dt 85 j := fun j => (hF59 85 (by decide) j).trans (C51 j)
      refine go_toq PM267 (k := 2) (pc' := 1435) (L' := [some (.inr (.inr (some 3000))), some (.inr (.inr (some 0))), some (.inr (.inr (some 79))), some (.inl i)]) (st' := []) (w' := (SH, dt57)) rfl ?_
      exact K dt57 hI58 hM87 M294 (w61.trans (hk0.trans w88.symm)) (w62.trans (hk1.trans w89.symm)) (w63.trans (hk2.trans w90.symm)) (w64.trans (hk3.trans w91.symm)) (w65.trans (hk4.trans w92.symm)) (w66.trans (hk5.trans w93.symm)) (w67.trans (hk6.trans w77.symm)) (w68.trans (hk7.trans w78.symm)) (w69.trans (hk8.trans w79.symm)) (w70.trans (hk9.trans w80.symm)) (w71.trans (hk10.trans w81.symm)) (w72.trans (hk11.trans w82.symm)) (w73.trans (hk12.trans w83.symm)) (w74.trans (hk13.trans w84.symm)) (w75.trans (hk14.trans w85.symm)) (w76.trans (hk15.trans w86.symm)) (by first | exact hI | exact TPL_k hd0 C99 C102 (by (first | omega | (have z0_ := unhid h5_0; have z1_ := unhid h56_0; omega))) | (exfalso; (first | omega | (have z0_ := unhid h5_0; have z1_ := unhid h56_0; omega)))) (by first | exact hI | exact SCL_k hd1 hM (fun j _ => C95 j) (fun j _ => C96 j) (fun j _ _ => C100 j) | (exfalso; (first | omega | (have z0_ := unhid h5_0; have z1_ := unhid h56_0; omega)))) (by first | exact hI | exact SCL_k hd2 hM2 (fun j _ => C97 j) (fun j _ => C98 j) (fun j _ _ => C101 j) | (exfalso; (first | omega | (have z0_ := unhid h5_0; have z1_ := unhid h56_0; omega))))
    · skip
      have hM103 : MW (dt57 80) := h56.2.2.1
      obtain ⟨h56_0, h56_1, h56_2, h56_3, h56_4, h56_5, h56_6, h56_7, h56_8, h56_9, h56_10, h56_11, h56_12, h56_13⟩ := h56
      have w104 : dt57 80 0 = dt 80 0 := h56_4.trans w26
      have w105 : dt57 80 1 = dt 80 1 := h56_5.trans w27
      have w106 : dt57 80 3 = dt 80 3 := h56_6.trans w29
      have w107 : dt57 80 4 = dt 80 4 := h56_7.trans w30
      have w108 : dt57 80 5 = dt 80 5 := h56_8.trans w31
      have M2109 : MW (dt57 81) := MW_frk M243 hF59 (by decide)
      have C110 : ∀ j : Nat, dt57 2 j = dt 2 j := fun j => (hF59 2 (by decide) j).trans (C44 j)
      have C111 : ∀ j : Nat, dt57 3 j = dt 3 j := fun j => (hF59 3 (by decide) j).trans (C45 j)
      have C112 : ∀ j : Nat, dt57 19 j = dt 19 j := fun j => (hF59 19 (by decide) j).trans (C46 j)
      have C113 : ∀ j : Nat, dt57 20 j = dt 20 j := fun j => (hF59 20 (by decide) j).trans (C47 j)
      have C114 : ∀ j : Nat, dt57 36 j = dt 36 j := fun j => (hF59 36 (by decide) j).trans (C48 j)
      have C115 : ∀ j : Nat, dt57 81 j = dt 81 j := fun j => (hF59 81 (by decide) j).trans (C50 j)
      have C116 : ∀ j : Nat, dt57 85 j = dt 85 j := fun j => (hF59 85 (by decide) j).trans (C51 j)
      have F117 : ∀ j : Nat, 6 ≤ j → j < 974 → dt57 80 j = dt 80 j := fun j h1_ h2_ => (h56_9 j (by (first | omega | (have z0_ := unhid h5_0; omega))) (by (first | omega | (have z0_ := unhid h5_0; omega)))).trans (C49 j)
      refine go_toq PM267 (k := 2) (pc' := 1435) (L' := [some (.inr (.inr (some 3000))), some (.inr (.inr (some 0))), some (.inr (.inr (some 79))), some (.inl i)]) (st' := []) (w' := (SH, dt57)) rfl ?_
      exact K dt57 hI58 hM103 M2109 (w61.trans (hk0.trans w104.symm)) (w62.trans (hk1.trans w105.symm)) (by (first | omega | (have z0_ := unhid h5_0; omega))) (w64.trans (hk3.trans w106.symm)) (w65.trans (hk4.trans w107.symm)) (w66.trans (hk5.trans w108.symm)) (w67.trans (hk6.trans w77.symm)) (w68.trans (hk7.trans w78.symm)) (w69.trans (hk8.trans w79.symm)) (w70.trans (hk9.trans w80.symm)) (w71.trans (hk10.trans w81.symm)) (w72.trans (hk11.trans w82.symm)) (w73.trans (hk12.trans w83.symm)) (w74.trans (hk13.trans w84.symm)) (w75.trans (hk14.trans w85.symm)) (w76.trans (hk15.trans w86.symm)) (by first | exact hI | exact TPL_k hd0 C114 C116 (by (first | omega | (have z0_ := unhid h5_0; omega))) | (exfalso; (first | omega | (have z0_ := unhid h5_0; omega)))) (by first | exact hI | exact SCL_k hd1 hM (fun j _ => C110 j) (fun j _ => C111 j) F117 | (exfalso; (first | omega | (have z0_ := unhid h5_0; omega)))) (by first | exact hI | exact SCL_k hd2 hM2 (fun j _ => C112 j) (fun j _ => C113 j) (fun j _ _ => C115 j) | (exfalso; (first | omega | (have z0_ := unhid h5_0; omega))))
  · skip
    obtain ⟨h5_0, h5_1, h5_2⟩ := h5
    have M2118 : MW (dt6 81) := MW_frk hM2 hF8 (by decide)
    have C119 : ∀ j : Nat, dt6 2 j = dt 2 j := fun j => (hF8 2 (by decide) j).trans ((fun _ => rfl) j)
    have C120 : ∀ j : Nat, dt6 3 j = dt 3 j := fun j => (hF8 3 (by decide) j).trans ((fun _ => rfl) j)
    have C121 : ∀ j : Nat, dt6 19 j = dt 19 j := fun j => (hF8 19 (by decide) j).trans ((fun _ => rfl) j)
    have C122 : ∀ j : Nat, dt6 20 j = dt 20 j := fun j => (hF8 20 (by decide) j).trans ((fun _ => rfl) j)
    have C123 : ∀ j : Nat, dt6 36 j = dt 36 j := fun j => (hF8 36 (by decide) j).trans ((fun _ => rfl) j)
    have C124 : ∀ j : Nat, dt6 80 j = dt 80 j := fun j => (hF8 80 (by decide) j).trans ((fun _ => rfl) j)
    have C125 : ∀ j : Nat, dt6 81 j = dt 81 j := fun j => (hF8 81 (by decide) j).trans ((fun _ => rfl) j)
    have C126 : ∀ j : Nat, dt6 85 j = dt 85 j := fun j => (hF8 85 (by decide) j).trans ((fun _ => rfl) j)
    refine go_toq PM267 (k := 6) (pc' := 620) (L' := [some (.inr (.inr (some 3000))), some (.inr (.inr (some 0))), some (.inr (.inr (some 79))), some (.inl i)]) (st' := [.inl (i + 1), .inr (.inr (some 3000)), .inr (.inr (some 79))]) (w' := (SH, dt6)) rfl ?_
    have r127 := i32_R (xs ((i + 1).toNat))
    refine go_smpq PM267 (L' := [some (.inr (.inr (some 3000))), some (.inr (.inr (some 0))), some (.inr (.inr (some 79))), some (.inl i)]) (st' := [.inl ((xs ((i + 1).toNat)).toInt), .inr (.inr (some 79))]) (w' := (SH, dt6)) rfl rfl (s_iald (n := L) (f := fun j => (xs j).toInt) (am_scr hLL) ⟨by omega, by omega⟩) ?_
    refine go_toq PM267 (k := 4) (pc' := 625) (L' := [some (.inr (.inr (some 3000))), some (.inr (.inr (some 0))), some (.inr (.inr (some 79))), some (.inl i)]) (st' := [.inl (i + 2), .inr (.inr (some 3000)), .inl ((xs ((i + 1).toNat)).toInt), .inr (.inr (some 79))]) (w' := (SH, dt6)) rfl ?_
    have r128 := i32_R (xs ((i + 2).toNat))
    refine go_smpq PM267 (L' := [some (.inr (.inr (some 3000))), some (.inr (.inr (some 0))), some (.inr (.inr (some 79))), some (.inl i)]) (st' := [.inl ((xs ((i + 2).toNat)).toInt), .inl ((xs ((i + 1).toNat)).toInt), .inr (.inr (some 79))]) (w' := (SH, dt6)) rfl rfl (s_iald (n := L) (f := fun j => (xs j).toInt) (am_scr hLL) ⟨by omega, by omega⟩) ?_
    refine go_toq PM267 (k := 4) (pc' := 630) (L' := [some (.inr (.inr (some 3000))), some (.inr (.inr (some 0))), some (.inr (.inr (some 79))), some (.inl i)]) (st' := [.inl (i + 3), .inr (.inr (some 3000)), .inl ((xs ((i + 2).toNat)).toInt), .inl ((xs ((i + 1).toNat)).toInt), .inr (.inr (some 79))]) (w' := (SH, dt6)) rfl ?_
    have r129 := i32_R (xs ((i + 3).toNat))
    refine go_smpq PM267 (L' := [some (.inr (.inr (some 3000))), some (.inr (.inr (some 0))), some (.inr (.inr (some 79))), some (.inl i)]) (st' := [.inl ((xs ((i + 3).toNat)).toInt), .inl ((xs ((i + 2).toNat)).toInt), .inl ((xs ((i + 1).toNat)).toInt), .inr (.inr (some 79))]) (w' := (SH, dt6)) rfl rfl (s_iald (n := L) (f := fun j => (xs j).toInt) (am_scr hLL) ⟨by omega, by omega⟩) ?_
    refine go_toq PM267 (k := 4) (pc' := 635) (L' := [some (.inr (.inr (some 3000))), some (.inr (.inr (some 0))), some (.inr (.inr (some 79))), some (.inl i)]) (st' := [.inl (i + 4), .inr (.inr (some 3000)), .inl ((xs ((i + 3).toNat)).toInt), .inl ((xs ((i + 2).toNat)).toInt), .inl ((xs ((i + 1).toNat)).toInt), .inr (.inr (some 79))]) (w' := (SH, dt6)) rfl ?_
    have r130 := i32_R (xs ((i + 4).toNat))
    refine go_smpq PM267 (L' := [some (.inr (.inr (some 3000))), some (.inr (.inr (some 0))), some (.inr (.inr (some 79))), some (.inl i)]) (st' := [.inl ((xs ((i + 4).toNat)).toInt), .inl ((xs ((i + 3).toNat)).toInt), .inl ((xs ((i + 2).toNat)).toInt), .inl ((xs ((i + 1).toNat)).toInt), .inr (.inr (some 79))]) (w' := (SH, dt6)) rfl rfl (s_iald (n := L) (f := fun j => (xs j).toInt) (am_scr hLL) ⟨by omega, by omega⟩) ?_
    refine go_callq PM267 PM202 (Q' := _) rfl rfl rfl rfl (sp_X6_child_v L xs sio (d + 36) dt6 hI7 hM10  ((xs ((i + 1).toNat)).toInt) ⟨by omega, by omega⟩ ((xs ((i + 2).toNat)).toInt) ⟨by omega, by omega⟩ ((xs ((i + 3).toNat)).toInt) ⟨by omega, by omega⟩ ((xs ((i + 4).toNat)).toInt) ⟨by omega, by omega⟩ ) ?_
    rintro _ _ ⟨dt132, rfl, hI133, hF134, h131⟩
    refine ⟨rfl, ?_⟩
    have hF135 : Fr [0, 1, 2, 3, 4, 5, 6, 7, 8, 9, 10, 11, 12, 13, 14, 15, 16, 17, 18, 19, 20, 21, 22, 23, 24, 25, 26, 27, 28, 29, 30, 31, 32, 33, 34, 35, 36, 37, 38, 39, 40, 41, 42, 43, 44, 45, 46, 47, 48, 49, 50, 51, 52, 53, 54, 55, 56, 57, 58, 59, 60, 61, 62, 63, 64, 65, 66, 67, 68, 69, 70, 71, 72, 73, 74, 75, 76, 77, 78, 79, 80, 81, 82, 83, 84, 85, 86, 87, 88, 89, 90, 91, 92, 93, 94, 95, 96, 97, 98, 99, 100, 101, 102, 103, 104] dt dt132 := Fr_tr hF9 hF134 (by decide)
    have w136 : dt132 1 0 = dt 1 0 := (hF134 1 (by decide) 0).trans w11
    have w137 : dt132 7 3 = dt 7 3 := (hF134 7 (by decide) 3).trans w12
    have w138 : dt132 10 3 = dt6 10 3 := hF134 10 (by decide) 3
    have w139 : dt132 12 3 = dt 12 3 := (hF134 12 (by decide) 3).trans w13
    have w140 : dt132 14 3 = dt 14 3 := (hF134 14 (by decide) 3).trans w14
    have w141 : dt132 16 3 = dt 16 3 := (hF134 16 (by decide) 3).trans w15
    have w142 : dt132 18 0 = dt 18 0 := (hF134 18 (by decide) 0).trans w16
    have w143 : dt132 24 3 = dt 24 3 := (hF134 24 (by decide) 3).trans w17
    have w144 : dt132 27 3 = dt 27 3 := (hF134 27 (by decide) 3).trans w18
    have w145 : dt132 29 3 = dt 29 3 := (hF134 29 (by decide) 3).trans w19
    have w146 : dt132 31 3 = dt 31 3 := (hF134 31 (by decide) 3).trans w20
    have w147 : dt132 33 3 = dt 33 3 := (hF134 33 (by decide) 3).trans w21
    have w148 : dt132 0 2 = dt 0 2 := (hF134 0 (by decide) 2).trans w22
    have w149 : dt132 35 1 = dt 35 1 := (hF134 35 (by decide) 1).trans w23
    have w150 : dt132 35 2 = dt 35 2 := (hF134 35 (by decide) 2).trans w24
    have w151 : dt132 35 3 = dt 35 3 := (hF134 35 (by decide) 3).trans w25
    have w152 : dt132 81 0 = dt 81 0 := (hF134 81 (by decide) 0).trans w32
    have w153 : dt132 81 1 = dt 81 1 := (hF134 81 (by decide) 1).trans w33
    have w154 : dt132 81 2 = dt 81 2 := (hF134 81 (by decide) 2).trans w34
    have w155 : dt132 81 3 = dt 81 3 := (hF134 81 (by decide) 3).trans w35
    have w156 : dt132 81 4 = dt 81 4 := (hF134 81 (by decide) 4).trans w36
    have w157 : dt132 81 5 = dt 81 5 := (hF134 81 (by decide) 5).trans w37
    have w158 : dt132 79 2 = dt 79 2 := (hF134 79 (by decide) 2).trans w38
    have w159 : dt132 79 12 = dt 79 12 := (hF134 79 (by decide) 12).trans w39
    have w160 : dt132 79 19 = dt 79 19 := (hF134 79 (by decide) 19).trans w40
    have w161 : dt132 79 21 = dt 79 21 := (hF134 79 (by decide) 21).trans w41
    rcases h131 with ⟨rfl, h131⟩ | ⟨v_h131, rfl, h131r, h131⟩
    · skip
      have hM162 : MW (dt132 80) := h131.2.1
      obtain ⟨h131_0, h131_1, h131_2, h131_3, h131_4, h131_5, h131_6, h131_7, h131_8⟩ := h131
      replace h131_0 := hid h131_0
      have w163 : dt132 80 0 = dt 80 0 := h131_2.trans w26
      have w164 : dt132 80 1 = dt 80 1 := h131_3.trans w27
      have w165 : dt132 80 2 = dt 80 2 := h131_4.trans w28
      have w166 : dt132 80 3 = dt 80 3 := h131_5.trans w29
      have w167 : dt132 80 4 = dt 80 4 := h131_6.trans w30
      have w168 : dt132 80 5 = dt 80 5 := h131_7.trans w31
      have M2169 : MW (dt132 81) := MW_frk M2118 hF134 (by decide)
      have C170 : ∀ j : Nat, dt132 2 j = dt 2 j := fun j => (hF134 2 (by decide) j).trans (C119 j)
      have C171 : ∀ j : Nat, dt132 3 j = dt 3 j := fun j => (hF134 3 (by decide) j).trans (C120 j)
      have C172 : ∀ j : Nat, dt132 19 j = dt 19 j := fun j => (hF134 19 (by decide) j).trans (C121 j)
      have C173 : ∀ j : Nat, dt132 20 j = dt 20 j := fun j => (hF134 20 (by decide) j).trans (C122 j)
      have C174 : ∀ j : Nat, dt132 36 j = dt 36 j := fun j => (hF134 36 (by decide) j).trans (C123 j)
      have C175 : ∀ j : Nat, dt132 80 j = dt 80 j := fun j => (h131_8 j).trans (C124 j)
      have C176 : ∀ j : Nat, dt132 81 j = dt 81 j := fun j => (hF134 81 (by decide) j).trans (C125 j)
      have C177 : ∀ j : Nat, dt132 85 j = dt 85 j := fun j => (hF134 85 (by decide) j).trans (C126 j)
      refine go_toq PM267 (k := 2) (pc' := 1435) (L' := [some (.inr (.inr (some 3000))), some (.inr (.inr (some 0))), some (.inr (.inr (some 79))), some (.inl i)]) (st' := []) (w' := (SH, dt132)) rfl ?_
      exact K dt132 hI133 hM162 M2169 (w136.trans (hk0.trans w163.symm)) (w137.trans (hk1.trans w164.symm)) (by (first | omega | (have z0_ := unhid h131_0; omega))) (w139.trans (hk3.trans w166.symm)) (w140.trans (hk4.trans w167.symm)) (w141.trans (hk5.trans w168.symm)) (w142.trans (hk6.trans w152.symm)) (w143.trans (hk7.trans w153.symm)) (w144.trans (hk8.trans w154.symm)) (w145.trans (hk9.trans w155.symm)) (w146.trans (hk10.trans w156.symm)) (w147.trans (hk11.trans w157.symm)) (w148.trans (hk12.trans w158.symm)) (w149.trans (hk13.trans w159.symm)) (w150.trans (hk14.trans w160.symm)) (w151.trans (hk15.trans w161.symm)) (by first | exact hI | exact TPL_k hd0 C174 C177 (by (first | omega | (have z0_ := unhid h131_0; omega))) | (exfalso; (first | omega | (have z0_ := unhid h131_0; omega)))) (by first | exact hI | exact SCL_k hd1 hM (fun j _ => C170 j) (fun j _ => C171 j) (fun j _ _ => C175 j) | (exfalso; (first | omega | (have z0_ := unhid h131_0; omega)))) (by first | exact hI | exact SCL_k hd2 hM2 (fun j _ => C172 j) (fun j _ => C173 j) (fun j _ _ => C176 j) | (exfalso; (first | omega | (have z0_ := unhid h131_0; omega))))
    · skip
      have hM178 : MW (dt132 80) := h131.2.2.1
      obtain ⟨h131_0, h131_1, h131_2, h131_3, h131_4, h131_5, h131_6, h131_7, h131_8, h131_9, h131_10, h131_11, h131_12, h131_13⟩ := h131
      have w179 : dt132 80 0 = dt 80 0 := h131_4.trans w26
      have w180 : dt132 80 1 = dt 80 1 := h131_5.trans w27
      have w181 : dt132 80 3 = dt 80 3 := h131_6.trans w29
      have w182 : dt132 80 4 = dt 80 4 := h131_7.trans w30
      have w183 : dt132 80 5 = dt 80 5 := h131_8.trans w31
      have M2184 : MW (dt132 81) := MW_frk M2118 hF134 (by decide)
      have C185 : ∀ j : Nat, dt132 2 j = dt 2 j := fun j => (hF134 2 (by decide) j).trans (C119 j)
      have C186 : ∀ j : Nat, dt132 3 j = dt 3 j := fun j => (hF134 3 (by decide) j).trans (C120 j)
      have C187 : ∀ j : Nat, dt132 19 j = dt 19 j := fun j => (hF134 19 (by decide) j).trans (C121 j)
      have C188 : ∀ j : Nat, dt132 20 j = dt 20 j := fun j => (hF134 20 (by decide) j).trans (C122 j)
      have C189 : ∀ j : Nat, dt132 36 j = dt 36 j := fun j => (hF134 36 (by decide) j).trans (C123 j)
      have C190 : ∀ j : Nat, dt132 81 j = dt 81 j := fun j => (hF134 81 (by decide) j).trans (C125 j)
      have C191 : ∀ j : Nat, dt132 85 j = dt 85 j := fun j => (hF134 85 (by decide) j).trans (C126 j)
      have F192 : ∀ j : Nat, 6 ≤ j → j < 974 → dt132 80 j = dt 80 j := fun j h1_ h2_ => (h131_9 j (by omega) (by omega)).trans (C124 j)
      refine go_toq PM267 (k := 2) (pc' := 1435) (L' := [some (.inr (.inr (some 3000))), some (.inr (.inr (some 0))), some (.inr (.inr (some 79))), some (.inl i)]) (st' := []) (w' := (SH, dt132)) rfl ?_
      exact K dt132 hI133 hM178 M2184 (w136.trans (hk0.trans w179.symm)) (w137.trans (hk1.trans w180.symm)) (by omega) (w139.trans (hk3.trans w181.symm)) (w140.trans (hk4.trans w182.symm)) (w141.trans (hk5.trans w183.symm)) (w142.trans (hk6.trans w152.symm)) (w143.trans (hk7.trans w153.symm)) (w144.trans (hk8.trans w154.symm)) (w145.trans (hk9.trans w155.symm)) (w146.trans (hk10.trans w156.symm)) (w147.trans (hk11.trans w157.symm)) (w148.trans (hk12.trans w158.symm)) (w149.trans (hk13.trans w159.symm)) (w150.trans (hk14.trans w160.symm)) (w151.trans (hk15.trans w161.symm)) (by first | exact hI | exact TPL_k hd0 C189 C191 (by omega) | (exfalso; omega)) (by first | exact hI | exact SCL_k hd1 hM (fun j _ => C185 j) (fun j _ => C186 j) F192 | (exfalso; omega)) (by first | exact hI | exact SCL_k hd2 hM2 (fun j _ => C187 j) (fun j _ => C188 j) (fun j _ _ => C190 j) | (exfalso; omega))
