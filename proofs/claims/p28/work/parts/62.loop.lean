theorem am_scr {L : Nat} {xs : Nat → Int32} {sio : Option Nat} {dt : Nat → Nat → Int} (h : L ≤ 3072) : am_arr (am_XX L xs sio) (SH, dt) 3000 = some (0, L, fun j => (xs j).toInt) := by
  have e : SH[3000]? = none := by decide +kernel
  unfold am_arr
  rw [show (SH, dt).1[3000]? = none from e]
  dsimp only [am_XX]
  rw [if_pos rfl]
  dsimp only
  have : Nat.blt L 2147483648 = true := Nat.blt_eq.mpr (by omega)
  rw [this]
  rfl
theorem s_alen {X : am_X} {L : am_L} {w : am_W} {tg : List Nat} {cv : Int} {r n ty : Nat} {f : Nat → Int} {rest : List AV} (hw : am_arr X w r = some (ty, n, f)) (h : Nat.blt ty 4 = true) : am_smp X .arraylength tg cv L (.inr (.inr (some r)) :: rest) w = some (L, .inl (n : Int) :: rest, w) := by
  simp only [am_smp, hw, h, cond_true]

set_option maxRecDepth 20000 in
set_option maxHeartbeats 8000000 in
theorem sp_case0 (L : Nat) (xs : Nat → Int32) (sio : Option Nat) (d : Nat) (Q : Option AV → am_W → Prop) (hLL : L ≤ 3072) (i : Int) (hi : 0 ≤ i ∧ i ≤ 3066) (hil : i ≤ (L : Int) - 6) (dt : Nat → Nat → Int) (hI : InvC dt) (hM : MW (dt 80)) (hM2 : MW (dt 81)) (hk0 : dt 1 0 = dt 80 0) (hk1 : dt 7 3 = dt 80 1) (hk2 : dt 10 3 = dt 80 2) (hk3 : dt 12 3 = dt 80 3) (hk4 : dt 14 3 = dt 80 4) (hk5 : dt 16 3 = dt 80 5) (hk6 : dt 18 0 = dt 81 0) (hk7 : dt 24 3 = dt 81 1) (hk8 : dt 27 3 = dt 81 2) (hk9 : dt 29 3 = dt 81 3) (hk10 : dt 31 3 = dt 81 4) (hk11 : dt 33 3 = dt 81 5) (hk12 : dt 0 2 = dt 79 2) (hk13 : dt 35 1 = dt 79 12) (hd0 : RW2 (dt 15) (dt 80) (dt 80 4) 7340) (hd1 : RW2 (dt 32) (dt 81) (dt 81 4) 7340) (hd2 : RW2 (dt 17) (dt 80) (dt 80 5) 7420) (hd3 : RW2 (dt 34) (dt 81) (dt 81 5) 7420) (K : ∀ (dt : Nat → Nat → Int) (hI : InvC dt) (hM : MW (dt 80)) (hM2 : MW (dt 81)) (hk0 : dt 1 0 = dt 80 0) (hk1 : dt 7 3 = dt 80 1) (hk2 : dt 10 3 = dt 80 2) (hk3 : dt 12 3 = dt 80 3) (hk4 : dt 14 3 = dt 80 4) (hk5 : dt 16 3 = dt 80 5) (hk6 : dt 18 0 = dt 81 0) (hk7 : dt 24 3 = dt 81 1) (hk8 : dt 27 3 = dt 81 2) (hk9 : dt 29 3 = dt 81 3) (hk10 : dt 31 3 = dt 81 4) (hk11 : dt 33 3 = dt 81 5) (hk12 : dt 0 2 = dt 79 2) (hk13 : dt 35 1 = dt 79 12) (hd0 : RW2 (dt 15) (dt 80) (dt 80 4) 7340) (hd1 : RW2 (dt 32) (dt 81) (dt 81 4) 7340) (hd2 : RW2 (dt 17) (dt 80) (dt 80 5) 7420) (hd3 : RW2 (dt 34) (dt 81) (dt 81 5) 7420), GO (am_XX L xs sio) (d + 39) 267 1435 [some (.inr (.inr (some 3000))), some (.inr (.inr (some 0))), some (.inr (.inr (some 79))), some (.inl i)] [] (SH, dt) Q) : GO (am_XX L xs sio) (d + 39) 267 180 [some (.inr (.inr (some 3000))), some (.inr (.inr (some 0))), some (.inr (.inr (some 79))), some (.inl i)] [] (SH, dt) Q := by
  have hF : Fr [0, 1, 2, 3, 4, 5, 6, 7, 8, 9, 10, 11, 12, 13, 14, 15, 16, 17, 18, 19, 20, 21, 22, 23, 24, 25, 26, 27, 28, 29, 30, 31, 32, 33, 34, 35, 36, 37, 38, 39, 40, 41, 42, 43, 44, 45, 46, 47, 48, 49, 50, 51, 52, 53, 54, 55, 56, 57, 58, 59, 60, 61, 62, 63, 64, 65, 66, 67, 68, 69, 70, 71, 72, 73, 74, 75, 76, 77, 78, 79, 80, 81, 82, 83, 84, 85, 86, 87, 88, 89, 90, 91, 92, 93, 94, 95, 96, 97, 98, 99, 100, 101, 102, 103, 104] dt dt := Fr_refl
  have hmn := MW_n hM
  have hmn2 := MW_n hM2
  refine go_toq PM267 (k := 5) (pc' := 185) (L' := [some (.inr (.inr (some 3000))), some (.inr (.inr (some 0))), some (.inr (.inr (some 79))), some (.inl i)]) (st' := [.inl (i + 1), .inr (.inr (some 3000)), .inr (.inr (some 0))]) (w' := (SH, dt)) rfl ?_
  have r1 := i32_R (xs ((i + 1).toNat))
  refine go_smpq PM267 (L' := [some (.inr (.inr (some 3000))), some (.inr (.inr (some 0))), some (.inr (.inr (some 79))), some (.inl i)]) (st' := [.inl ((xs ((i + 1).toNat)).toInt), .inr (.inr (some 0))]) (w' := (SH, dt)) rfl rfl (s_iald (n := L) (f := fun j => (xs j).toInt) (am_scr hLL) ⟨by omega, by omega⟩) ?_
  refine go_callq PM267 PM67 (Q' := _) rfl rfl rfl rfl (sp_X5_state L xs sio (d + 38) dt hI  ((xs ((i + 1).toNat)).toInt) ⟨by omega, by omega⟩ ) ?_
  rintro _ _ ⟨dt3, rfl, hI4, hF5, h2⟩
  refine ⟨rfl, ?_⟩
  have hF6 : Fr [0, 1, 2, 3, 4, 5, 6, 7, 8, 9, 10, 11, 12, 13, 14, 15, 16, 17, 18, 19, 20, 21, 22, 23, 24, 25, 26, 27, 28, 29, 30, 31, 32, 33, 34, 35, 36, 37, 38, 39, 40, 41, 42, 43, 44, 45, 46, 47, 48, 49, 50, 51, 52, 53, 54, 55, 56, 57, 58, 59, 60, 61, 62, 63, 64, 65, 66, 67, 68, 69, 70, 71, 72, 73, 74, 75, 76, 77, 78, 79, 80, 81, 82, 83, 84, 85, 86, 87, 88, 89, 90, 91, 92, 93, 94, 95, 96, 97, 98, 99, 100, 101, 102, 103, 104] dt dt3 := Fr_tr hF hF5 (by decide)
  have hM7 : MW (dt3 80) := MW_fr hM hF5 (by decide)
  have w8 : dt3 7 3 = dt 7 3 := hF5 7 (by decide) 3
  have w9 : dt3 10 3 = dt 10 3 := hF5 10 (by decide) 3
  have w10 : dt3 12 3 = dt 12 3 := hF5 12 (by decide) 3
  have w11 : dt3 14 3 = dt 14 3 := hF5 14 (by decide) 3
  have w12 : dt3 16 3 = dt 16 3 := hF5 16 (by decide) 3
  have w13 : dt3 18 0 = dt 18 0 := hF5 18 (by decide) 0
  have w14 : dt3 24 3 = dt 24 3 := hF5 24 (by decide) 3
  have w15 : dt3 27 3 = dt 27 3 := hF5 27 (by decide) 3
  have w16 : dt3 29 3 = dt 29 3 := hF5 29 (by decide) 3
  have w17 : dt3 31 3 = dt 31 3 := hF5 31 (by decide) 3
  have w18 : dt3 33 3 = dt 33 3 := hF5 33 (by decide) 3
  have w19 : dt3 0 2 = dt 0 2 := hF5 0 (by decide) 2
  have w20 : dt3 35 1 = dt 35 1 := hF5 35 (by decide) 1
  have w21 : dt3 80 0 = dt 80 0 := hF5 80 (by decide) 0
  have w22 : dt3 80 1 = dt 80 1 := hF5 80 (by decide) 1
  have w23 : dt3 80 2 = dt 80 2 := hF5 80 (by decide) 2
  have w24 : dt3 80 3 = dt 80 3 := hF5 80 (by decide) 3
  have w25 : dt3 80 4 = dt 80 4 := hF5 80 (by decide) 4
  have w26 : dt3 80 5 = dt 80 5 := hF5 80 (by decide) 5
  have w27 : dt3 81 0 = dt 81 0 := hF5 81 (by decide) 0
  have w28 : dt3 81 1 = dt 81 1 := hF5 81 (by decide) 1
  have w29 : dt3 81 2 = dt 81 2 := hF5 81 (by decide) 2
  have w30 : dt3 81 3 = dt 81 3 := hF5 81 (by decide) 3
  have w31 : dt3 81 4 = dt 81 4 := hF5 81 (by decide) 4
  have w32 : dt3 81 5 = dt 81 5 := hF5 81 (by decide) 5
  have w33 : dt3 79 2 = dt 79 2 := hF5 79 (by decide) 2
  have w34 : dt3 79 12 = dt 79 12 := hF5 79 (by decide) 12
  rcases h2 with ⟨rfl, h2⟩
  have M235 : MW (dt3 81) := MW_frk hM2 hF5 (by decide)
  have C36 : ∀ j : Nat, dt3 15 j = dt 15 j := fun j => (hF5 15 (by decide) j).trans ((fun _ => rfl) j)
  have C37 : ∀ j : Nat, dt3 17 j = dt 17 j := fun j => (hF5 17 (by decide) j).trans ((fun _ => rfl) j)
  have C38 : ∀ j : Nat, dt3 32 j = dt 32 j := fun j => (hF5 32 (by decide) j).trans ((fun _ => rfl) j)
  have C39 : ∀ j : Nat, dt3 34 j = dt 34 j := fun j => (hF5 34 (by decide) j).trans ((fun _ => rfl) j)
  have F40 : ∀ j : Nat, 7340 ≤ j → dt3 81 j = dt 81 j := fun j hj => (hF5 81 (by decide) j).trans ((fun _ _ => rfl) j hj)
  have F41 : ∀ j : Nat, 7340 ≤ j → dt3 80 j = dt 80 j := fun j hj => (hF5 80 (by decide) j).trans ((fun _ _ => rfl) j hj)
  have F42 : ∀ j : Nat, dt3 80 j = dt 80 j := fun j => (hF5 80 (by decide) j).trans ((fun _ => rfl) j)
  have F43 : ∀ j : Nat, dt3 81 j = dt 81 j := fun j => (hF5 81 (by decide) j).trans ((fun _ => rfl) j)
  refine go_toq PM267 (k := 6) (pc' := 195) (L' := [some (.inr (.inr (some 3000))), some (.inr (.inr (some 0))), some (.inr (.inr (some 79))), some (.inl i)]) (st' := [.inl (i + 1), .inr (.inr (some 3000)), .inr (.inr (some 79))]) (w' := (SH, dt3)) rfl ?_
  have r44 := i32_R (xs ((i + 1).toNat))
  refine go_smpq PM267 (L' := [some (.inr (.inr (some 3000))), some (.inr (.inr (some 0))), some (.inr (.inr (some 79))), some (.inl i)]) (st' := [.inl ((xs ((i + 1).toNat)).toInt), .inr (.inr (some 79))]) (w' := (SH, dt3)) rfl rfl (s_iald (n := L) (f := fun j => (xs j).toInt) (am_scr hLL) ⟨by omega, by omega⟩) ?_
  refine go_callq PM267 PM149 (Q' := _) rfl rfl rfl rfl (sp_X6_state_u L xs sio (d + 38) dt3 hI4 hM7  ((xs ((i + 1).toNat)).toInt) ⟨by omega, by omega⟩ ) ?_
  rintro _ _ ⟨dt46, rfl, hI47, hF48, h45⟩
  refine ⟨rfl, ?_⟩
  have hF49 : Fr [0, 1, 2, 3, 4, 5, 6, 7, 8, 9, 10, 11, 12, 13, 14, 15, 16, 17, 18, 19, 20, 21, 22, 23, 24, 25, 26, 27, 28, 29, 30, 31, 32, 33, 34, 35, 36, 37, 38, 39, 40, 41, 42, 43, 44, 45, 46, 47, 48, 49, 50, 51, 52, 53, 54, 55, 56, 57, 58, 59, 60, 61, 62, 63, 64, 65, 66, 67, 68, 69, 70, 71, 72, 73, 74, 75, 76, 77, 78, 79, 80, 81, 82, 83, 84, 85, 86, 87, 88, 89, 90, 91, 92, 93, 94, 95, 96, 97, 98, 99, 100, 101, 102, 103, 104] dt dt46 := Fr_tr hF6 hF48 (by decide)
  have w50 : dt46 1 0 = dt3 1 0 := hF48 1 (by decide) 0
  have w51 : dt46 7 3 = dt3 7 3 := hF48 7 (by decide) 3
  have w52 : dt46 10 3 = dt3 10 3 := hF48 10 (by decide) 3
  have w53 : dt46 12 3 = dt3 12 3 := hF48 12 (by decide) 3
  have w54 : dt46 14 3 = dt3 14 3 := hF48 14 (by decide) 3
  have w55 : dt46 16 3 = dt3 16 3 := hF48 16 (by decide) 3
  have w56 : dt46 18 0 = dt3 18 0 := hF48 18 (by decide) 0
  have w57 : dt46 24 3 = dt3 24 3 := hF48 24 (by decide) 3
  have w58 : dt46 27 3 = dt3 27 3 := hF48 27 (by decide) 3
  have w59 : dt46 29 3 = dt3 29 3 := hF48 29 (by decide) 3
  have w60 : dt46 31 3 = dt3 31 3 := hF48 31 (by decide) 3
  have w61 : dt46 33 3 = dt3 33 3 := hF48 33 (by decide) 3
  have w62 : dt46 0 2 = dt3 0 2 := hF48 0 (by decide) 2
  have w63 : dt46 35 1 = dt3 35 1 := hF48 35 (by decide) 1
  have w64 : dt46 81 0 = dt3 81 0 := hF48 81 (by decide) 0
  have w65 : dt46 81 1 = dt3 81 1 := hF48 81 (by decide) 1
  have w66 : dt46 81 2 = dt3 81 2 := hF48 81 (by decide) 2
  have w67 : dt46 81 3 = dt3 81 3 := hF48 81 (by decide) 3
  have w68 : dt46 81 4 = dt3 81 4 := hF48 81 (by decide) 4
  have w69 : dt46 81 5 = dt3 81 5 := hF48 81 (by decide) 5
  have w70 : dt46 79 2 = dt3 79 2 := hF48 79 (by decide) 2
  have w71 : dt46 79 12 = dt3 79 12 := hF48 79 (by decide) 12
  rcases h45 with ⟨rfl, h45⟩
  have hM72 : MW (dt46 80) := h45.2.1
  obtain ⟨h45_0, h45_1, h45_2, h45_3, h45_4, h45_5, h45_6, h45_7⟩ := h45
  have M273 : MW (dt46 81) := MW_frk M235 hF48 (by decide)
  have C74 : ∀ j : Nat, dt46 15 j = dt 15 j := fun j => (hF48 15 (by decide) j).trans (C36 j)
  have C75 : ∀ j : Nat, dt46 17 j = dt 17 j := fun j => (hF48 17 (by decide) j).trans (C37 j)
  have C76 : ∀ j : Nat, dt46 32 j = dt 32 j := fun j => (hF48 32 (by decide) j).trans (C38 j)
  have C77 : ∀ j : Nat, dt46 34 j = dt 34 j := fun j => (hF48 34 (by decide) j).trans (C39 j)
  have F78 : ∀ j : Nat, 7340 ≤ j → dt46 81 j = dt 81 j := fun j hj => (hF48 81 (by decide) j).trans (F40 j hj)
  have F79 : ∀ j : Nat, 7340 ≤ j → dt46 80 j = dt 80 j := fun j hj => (h45_7 j hj).trans (F41 j hj)
  have F80 : ∀ j : Nat, dt46 81 j = dt 81 j := fun j => (hF48 81 (by decide) j).trans (F43 j)
  refine go_toq PM267 (k := 2) (pc' := 1435) (L' := [some (.inr (.inr (some 3000))), some (.inr (.inr (some 0))), some (.inr (.inr (some 79))), some (.inl i)]) (st' := []) (w' := (SH, dt46)) rfl ?_
  exact K dt46 hI47 hM72 M273 (by first | omega | (simp only [*]; done) | simp only [*]) (by omega) (by omega) (by omega) (by omega) (by omega) (by omega) (by omega) (by omega) (by omega) (by omega) (by omega) (by omega) (by omega) (by first | exact hI | exact RW2_k hd0 C74 F79 (by decide) (by omega) | (exfalso; omega)) (by first | exact hI | exact RW2_k hd1 C76 F78 (by decide) (by omega) | (exfalso; omega)) (by first | exact hI | exact RW2_k hd2 C75 F79 (by decide) (by omega) | (exfalso; omega)) (by first | exact hI | exact RW2_k hd3 C77 F78 (by decide) (by omega) | (exfalso; omega))
set_option maxRecDepth 20000 in
set_option maxHeartbeats 8000000 in
theorem sp_case1 (L : Nat) (xs : Nat → Int32) (sio : Option Nat) (d : Nat) (Q : Option AV → am_W → Prop) (hLL : L ≤ 3072) (i : Int) (hi : 0 ≤ i ∧ i ≤ 3066) (hil : i ≤ (L : Int) - 6) (dt : Nat → Nat → Int) (hI : InvC dt) (hM : MW (dt 80)) (hM2 : MW (dt 81)) (hk0 : dt 1 0 = dt 80 0) (hk1 : dt 7 3 = dt 80 1) (hk2 : dt 10 3 = dt 80 2) (hk3 : dt 12 3 = dt 80 3) (hk4 : dt 14 3 = dt 80 4) (hk5 : dt 16 3 = dt 80 5) (hk6 : dt 18 0 = dt 81 0) (hk7 : dt 24 3 = dt 81 1) (hk8 : dt 27 3 = dt 81 2) (hk9 : dt 29 3 = dt 81 3) (hk10 : dt 31 3 = dt 81 4) (hk11 : dt 33 3 = dt 81 5) (hk12 : dt 0 2 = dt 79 2) (hk13 : dt 35 1 = dt 79 12) (hd0 : RW2 (dt 15) (dt 80) (dt 80 4) 7340) (hd1 : RW2 (dt 32) (dt 81) (dt 81 4) 7340) (hd2 : RW2 (dt 17) (dt 80) (dt 80 5) 7420) (hd3 : RW2 (dt 34) (dt 81) (dt 81 5) 7420) (K : ∀ (dt : Nat → Nat → Int) (hI : InvC dt) (hM : MW (dt 80)) (hM2 : MW (dt 81)) (hk0 : dt 1 0 = dt 80 0) (hk1 : dt 7 3 = dt 80 1) (hk2 : dt 10 3 = dt 80 2) (hk3 : dt 12 3 = dt 80 3) (hk4 : dt 14 3 = dt 80 4) (hk5 : dt 16 3 = dt 80 5) (hk6 : dt 18 0 = dt 81 0) (hk7 : dt 24 3 = dt 81 1) (hk8 : dt 27 3 = dt 81 2) (hk9 : dt 29 3 = dt 81 3) (hk10 : dt 31 3 = dt 81 4) (hk11 : dt 33 3 = dt 81 5) (hk12 : dt 0 2 = dt 79 2) (hk13 : dt 35 1 = dt 79 12) (hd0 : RW2 (dt 15) (dt 80) (dt 80 4) 7340) (hd1 : RW2 (dt 32) (dt 81) (dt 81 4) 7340) (hd2 : RW2 (dt 17) (dt 80) (dt 80 5) 7420) (hd3 : RW2 (dt 34) (dt 81) (dt 81 5) 7420), GO (am_XX L xs sio) (d + 39) 267 1435 [some (.inr (.inr (some 3000))), some (.inr (.inr (some 0))), some (.inr (.inr (some 79))), some (.inl i)] [] (SH, dt) Q) : GO (am_XX L xs sio) (d + 39) 267 203 [some (.inr (.inr (some 3000))), some (.inr (.inr (some 0))), some (.inr (.inr (some 79))), some (.inl i)] [] (SH, dt) Q := by
  have hF : Fr [0, 1, 2, 3, 4, 5, 6, 7, 8, 9, 10, 11, 12, 13, 14, 15, 16, 17, 18, 19, 20, 21, 22, 23, 24, 25, 26, 27, 28, 29, 30, 31, 32, 33, 34, 35, 36, 37, 38, 39, 40, 41, 42, 43, 44, 45, 46, 47, 48, 49, 50, 51, 52, 53, 54, 55, 56, 57, 58, 59, 60, 61, 62, 63, 64, 65, 66, 67, 68, 69, 70, 71, 72, 73, 74, 75, 76, 77, 78, 79, 80, 81, 82, 83, 84, 85, 86, 87, 88, 89, 90, 91, 92, 93, 94, 95, 96, 97, 98, 99, 100, 101, 102, 103, 104] dt dt := Fr_refl
  have hmn := MW_n hM
  have hmn2 := MW_n hM2
  refine go_toq PM267 (k := 5) (pc' := 208) (L' := [some (.inr (.inr (some 3000))), some (.inr (.inr (some 0))), some (.inr (.inr (some 79))), some (.inl i)]) (st' := [.inl (i + 1), .inr (.inr (some 3000)), .inr (.inr (some 0))]) (w' := (SH, dt)) rfl ?_
  have r1 := i32_R (xs ((i + 1).toNat))
  refine go_smpq PM267 (L' := [some (.inr (.inr (some 3000))), some (.inr (.inr (some 0))), some (.inr (.inr (some 79))), some (.inl i)]) (st' := [.inl ((xs ((i + 1).toNat)).toInt), .inr (.inr (some 0))]) (w' := (SH, dt)) rfl rfl (s_iald (n := L) (f := fun j => (xs j).toInt) (am_scr hLL) ⟨by omega, by omega⟩) ?_
  refine go_toq PM267 (k := 4) (pc' := 213) (L' := [some (.inr (.inr (some 3000))), some (.inr (.inr (some 0))), some (.inr (.inr (some 79))), some (.inl i)]) (st' := [.inl (i + 2), .inr (.inr (some 3000)), .inl ((xs ((i + 1).toNat)).toInt), .inr (.inr (some 0))]) (w' := (SH, dt)) rfl ?_
  have r2 := i32_R (xs ((i + 2).toNat))
  refine go_smpq PM267 (L' := [some (.inr (.inr (some 3000))), some (.inr (.inr (some 0))), some (.inr (.inr (some 79))), some (.inl i)]) (st' := [.inl ((xs ((i + 2).toNat)).toInt), .inl ((xs ((i + 1).toNat)).toInt), .inr (.inr (some 0))]) (w' := (SH, dt)) rfl rfl (s_iald (n := L) (f := fun j => (xs j).toInt) (am_scr hLL) ⟨by omega, by omega⟩) ?_
  refine go_toq PM267 (k := 4) (pc' := 218) (L' := [some (.inr (.inr (some 3000))), some (.inr (.inr (some 0))), some (.inr (.inr (some 79))), some (.inl i)]) (st' := [.inl (i + 3), .inr (.inr (some 3000)), .inl ((xs ((i + 2).toNat)).toInt), .inl ((xs ((i + 1).toNat)).toInt), .inr (.inr (some 0))]) (w' := (SH, dt)) rfl ?_
  have r3 := i32_R (xs ((i + 3).toNat))
  refine go_smpq PM267 (L' := [some (.inr (.inr (some 3000))), some (.inr (.inr (some 0))), some (.inr (.inr (some 79))), some (.inl i)]) (st' := [.inl ((xs ((i + 3).toNat)).toInt), .inl ((xs ((i + 2).toNat)).toInt), .inl ((xs ((i + 1).toNat)).toInt), .inr (.inr (some 0))]) (w' := (SH, dt)) rfl rfl (s_iald (n := L) (f := fun j => (xs j).toInt) (am_scr hLL) ⟨by omega, by omega⟩) ?_
  refine go_toq PM267 (k := 4) (pc' := 223) (L' := [some (.inr (.inr (some 3000))), some (.inr (.inr (some 0))), some (.inr (.inr (some 79))), some (.inl i)]) (st' := [.inl (i + 4), .inr (.inr (some 3000)), .inl ((xs ((i + 3).toNat)).toInt), .inl ((xs ((i + 2).toNat)).toInt), .inl ((xs ((i + 1).toNat)).toInt), .inr (.inr (some 0))]) (w' := (SH, dt)) rfl ?_
  have r4 := i32_R (xs ((i + 4).toNat))
  refine go_smpq PM267 (L' := [some (.inr (.inr (some 3000))), some (.inr (.inr (some 0))), some (.inr (.inr (some 79))), some (.inl i)]) (st' := [.inl ((xs ((i + 4).toNat)).toInt), .inl ((xs ((i + 3).toNat)).toInt), .inl ((xs ((i + 2).toNat)).toInt), .inl ((xs ((i + 1).toNat)).toInt), .inr (.inr (some 0))]) (w' := (SH, dt)) rfl rfl (s_iald (n := L) (f := fun j => (xs j).toInt) (am_scr hLL) ⟨by omega, by omega⟩) ?_
  refine go_toq PM267 (k := 4) (pc' := 228) (L' := [some (.inr (.inr (some 3000))), some (.inr (.inr (some 0))), some (.inr (.inr (some 79))), some (.inl i)]) (st' := [.inl (i + 5), .inr (.inr (some 3000)), .inl ((xs ((i + 4).toNat)).toInt), .inl ((xs ((i + 3).toNat)).toInt), .inl ((xs ((i + 2).toNat)).toInt), .inl ((xs ((i + 1).toNat)).toInt), .inr (.inr (some 0))]) (w' := (SH, dt)) rfl ?_
  have r5 := i32_R (xs ((i + 5).toNat))
  refine go_smpq PM267 (L' := [some (.inr (.inr (some 3000))), some (.inr (.inr (some 0))), some (.inr (.inr (some 79))), some (.inl i)]) (st' := [.inl ((xs ((i + 5).toNat)).toInt), .inl ((xs ((i + 4).toNat)).toInt), .inl ((xs ((i + 3).toNat)).toInt), .inl ((xs ((i + 2).toNat)).toInt), .inl ((xs ((i + 1).toNat)).toInt), .inr (.inr (some 0))]) (w' := (SH, dt)) rfl rfl (s_iald (n := L) (f := fun j => (xs j).toInt) (am_scr hLL) ⟨by omega, by omega⟩) ?_
  refine go_callq PM267 PM68 (Q' := _) rfl rfl rfl rfl (sp_X5_feed L xs sio (d + 37) dt hI  ((xs ((i + 1).toNat)).toInt) ⟨by omega, by omega⟩ ((xs ((i + 2).toNat)).toInt) ⟨by omega, by omega⟩ ((xs ((i + 3).toNat)).toInt) ⟨by omega, by omega⟩ ((xs ((i + 4).toNat)).toInt) ⟨by omega, by omega⟩ ((xs ((i + 5).toNat)).toInt) ⟨by omega, by omega⟩ ) ?_
  rintro _ _ ⟨dt7, rfl, hI8, hF9, h6⟩
  refine ⟨rfl, ?_⟩
  have hF10 : Fr [0, 1, 2, 3, 4, 5, 6, 7, 8, 9, 10, 11, 12, 13, 14, 15, 16, 17, 18, 19, 20, 21, 22, 23, 24, 25, 26, 27, 28, 29, 30, 31, 32, 33, 34, 35, 36, 37, 38, 39, 40, 41, 42, 43, 44, 45, 46, 47, 48, 49, 50, 51, 52, 53, 54, 55, 56, 57, 58, 59, 60, 61, 62, 63, 64, 65, 66, 67, 68, 69, 70, 71, 72, 73, 74, 75, 76, 77, 78, 79, 80, 81, 82, 83, 84, 85, 86, 87, 88, 89, 90, 91, 92, 93, 94, 95, 96, 97, 98, 99, 100, 101, 102, 103, 104] dt dt7 := Fr_tr hF hF9 (by decide)
  have hM11 : MW (dt7 80) := MW_fr hM hF9 (by decide)
  have w12 : dt7 1 0 = dt 1 0 := hF9 1 (by decide) 0
  have w13 : dt7 7 3 = dt 7 3 := hF9 7 (by decide) 3
  have w14 : dt7 10 3 = dt 10 3 := hF9 10 (by decide) 3
  have w15 : dt7 12 3 = dt 12 3 := hF9 12 (by decide) 3
  have w16 : dt7 14 3 = dt 14 3 := hF9 14 (by decide) 3
  have w17 : dt7 16 3 = dt 16 3 := hF9 16 (by decide) 3
  have w18 : dt7 18 0 = dt 18 0 := hF9 18 (by decide) 0
  have w19 : dt7 24 3 = dt 24 3 := hF9 24 (by decide) 3
  have w20 : dt7 27 3 = dt 27 3 := hF9 27 (by decide) 3
  have w21 : dt7 29 3 = dt 29 3 := hF9 29 (by decide) 3
  have w22 : dt7 31 3 = dt 31 3 := hF9 31 (by decide) 3
  have w23 : dt7 33 3 = dt 33 3 := hF9 33 (by decide) 3
  have w24 : dt7 0 2 = dt 0 2 := hF9 0 (by decide) 2
  have w25 : dt7 80 0 = dt 80 0 := hF9 80 (by decide) 0
  have w26 : dt7 80 1 = dt 80 1 := hF9 80 (by decide) 1
  have w27 : dt7 80 2 = dt 80 2 := hF9 80 (by decide) 2
  have w28 : dt7 80 3 = dt 80 3 := hF9 80 (by decide) 3
  have w29 : dt7 80 4 = dt 80 4 := hF9 80 (by decide) 4
  have w30 : dt7 80 5 = dt 80 5 := hF9 80 (by decide) 5
  have w31 : dt7 81 0 = dt 81 0 := hF9 81 (by decide) 0
  have w32 : dt7 81 1 = dt 81 1 := hF9 81 (by decide) 1
  have w33 : dt7 81 2 = dt 81 2 := hF9 81 (by decide) 2
  have w34 : dt7 81 3 = dt 81 3 := hF9 81 (by decide) 3
  have w35 : dt7 81 4 = dt 81 4 := hF9 81 (by decide) 4
  have w36 : dt7 81 5 = dt 81 5 := hF9 81 (by decide) 5
  have w37 : dt7 79 2 = dt 79 2 := hF9 79 (by decide) 2
  have w38 : dt7 79 12 = dt 79 12 := hF9 79 (by decide) 12
  rcases h6 with ⟨rfl, h6⟩ | ⟨v_h6, rfl, h6r, h6⟩
  · skip
    obtain ⟨h6_0, h6_1⟩ := h6
    have M239 : MW (dt7 81) := MW_frk hM2 hF9 (by decide)
    have C40 : ∀ j : Nat, dt7 15 j = dt 15 j := fun j => (hF9 15 (by decide) j).trans ((fun _ => rfl) j)
    have C41 : ∀ j : Nat, dt7 17 j = dt 17 j := fun j => (hF9 17 (by decide) j).trans ((fun _ => rfl) j)
    have C42 : ∀ j : Nat, dt7 32 j = dt 32 j := fun j => (hF9 32 (by decide) j).trans ((fun _ => rfl) j)
    have C43 : ∀ j : Nat, dt7 34 j = dt 34 j := fun j => (hF9 34 (by decide) j).trans ((fun _ => rfl) j)
    have F44 : ∀ j : Nat, 7340 ≤ j → dt7 81 j = dt 81 j := fun j hj => (hF9 81 (by decide) j).trans ((fun _ _ => rfl) j hj)
    have F45 : ∀ j : Nat, 7340 ≤ j → dt7 80 j = dt 80 j := fun j hj => (hF9 80 (by decide) j).trans ((fun _ _ => rfl) j hj)
    have F46 : ∀ j : Nat, dt7 80 j = dt 80 j := fun j => (hF9 80 (by decide) j).trans ((fun _ => rfl) j)
    have F47 : ∀ j : Nat, dt7 81 j = dt 81 j := fun j => (hF9 81 (by decide) j).trans ((fun _ => rfl) j)
    refine go_toq PM267 (k := 6) (pc' := 238) (L' := [some (.inr (.inr (some 3000))), some (.inr (.inr (some 0))), some (.inr (.inr (some 79))), some (.inl i)]) (st' := [.inl (i + 1), .inr (.inr (some 3000)), .inr (.inr (some 79))]) (w' := (SH, dt7)) rfl ?_
    have r48 := i32_R (xs ((i + 1).toNat))
    refine go_smpq PM267 (L' := [some (.inr (.inr (some 3000))), some (.inr (.inr (some 0))), some (.inr (.inr (some 79))), some (.inl i)]) (st' := [.inl ((xs ((i + 1).toNat)).toInt), .inr (.inr (some 79))]) (w' := (SH, dt7)) rfl rfl (s_iald (n := L) (f := fun j => (xs j).toInt) (am_scr hLL) ⟨by omega, by omega⟩) ?_
    refine go_toq PM267 (k := 4) (pc' := 243) (L' := [some (.inr (.inr (some 3000))), some (.inr (.inr (some 0))), some (.inr (.inr (some 79))), some (.inl i)]) (st' := [.inl (i + 2), .inr (.inr (some 3000)), .inl ((xs ((i + 1).toNat)).toInt), .inr (.inr (some 79))]) (w' := (SH, dt7)) rfl ?_
    have r49 := i32_R (xs ((i + 2).toNat))
    refine go_smpq PM267 (L' := [some (.inr (.inr (some 3000))), some (.inr (.inr (some 0))), some (.inr (.inr (some 79))), some (.inl i)]) (st' := [.inl ((xs ((i + 2).toNat)).toInt), .inl ((xs ((i + 1).toNat)).toInt), .inr (.inr (some 79))]) (w' := (SH, dt7)) rfl rfl (s_iald (n := L) (f := fun j => (xs j).toInt) (am_scr hLL) ⟨by omega, by omega⟩) ?_
    refine go_toq PM267 (k := 4) (pc' := 248) (L' := [some (.inr (.inr (some 3000))), some (.inr (.inr (some 0))), some (.inr (.inr (some 79))), some (.inl i)]) (st' := [.inl (i + 3), .inr (.inr (some 3000)), .inl ((xs ((i + 2).toNat)).toInt), .inl ((xs ((i + 1).toNat)).toInt), .inr (.inr (some 79))]) (w' := (SH, dt7)) rfl ?_
    have r50 := i32_R (xs ((i + 3).toNat))
    refine go_smpq PM267 (L' := [some (.inr (.inr (some 3000))), some (.inr (.inr (some 0))), some (.inr (.inr (some 79))), some (.inl i)]) (st' := [.inl ((xs ((i + 3).toNat)).toInt), .inl ((xs ((i + 2).toNat)).toInt), .inl ((xs ((i + 1).toNat)).toInt), .inr (.inr (some 79))]) (w' := (SH, dt7)) rfl rfl (s_iald (n := L) (f := fun j => (xs j).toInt) (am_scr hLL) ⟨by omega, by omega⟩) ?_
    refine go_toq PM267 (k := 4) (pc' := 253) (L' := [some (.inr (.inr (some 3000))), some (.inr (.inr (some 0))), some (.inr (.inr (some 79))), some (.inl i)]) (st' := [.inl (i + 4), .inr (.inr (some 3000)), .inl ((xs ((i + 3).toNat)).toInt), .inl ((xs ((i + 2).toNat)).toInt), .inl ((xs ((i + 1).toNat)).toInt), .inr (.inr (some 79))]) (w' := (SH, dt7)) rfl ?_
    have r51 := i32_R (xs ((i + 4).toNat))
    refine go_smpq PM267 (L' := [some (.inr (.inr (some 3000))), some (.inr (.inr (some 0))), some (.inr (.inr (some 79))), some (.inl i)]) (st' := [.inl ((xs ((i + 4).toNat)).toInt), .inl ((xs ((i + 3).toNat)).toInt), .inl ((xs ((i + 2).toNat)).toInt), .inl ((xs ((i + 1).toNat)).toInt), .inr (.inr (some 79))]) (w' := (SH, dt7)) rfl rfl (s_iald (n := L) (f := fun j => (xs j).toInt) (am_scr hLL) ⟨by omega, by omega⟩) ?_
    refine go_toq PM267 (k := 4) (pc' := 258) (L' := [some (.inr (.inr (some 3000))), some (.inr (.inr (some 0))), some (.inr (.inr (some 79))), some (.inl i)]) (st' := [.inl (i + 5), .inr (.inr (some 3000)), .inl ((xs ((i + 4).toNat)).toInt), .inl ((xs ((i + 3).toNat)).toInt), .inl ((xs ((i + 2).toNat)).toInt), .inl ((xs ((i + 1).toNat)).toInt), .inr (.inr (some 79))]) (w' := (SH, dt7)) rfl ?_
    have r52 := i32_R (xs ((i + 5).toNat))
    refine go_smpq PM267 (L' := [some (.inr (.inr (some 3000))), some (.inr (.inr (some 0))), some (.inr (.inr (some 79))), some (.inl i)]) (st' := [.inl ((xs ((i + 5).toNat)).toInt), .inl ((xs ((i + 4).toNat)).toInt), .inl ((xs ((i + 3).toNat)).toInt), .inl ((xs ((i + 2).toNat)).toInt), .inl ((xs ((i + 1).toNat)).toInt), .inr (.inr (some 79))]) (w' := (SH, dt7)) rfl rfl (s_iald (n := L) (f := fun j => (xs j).toInt) (am_scr hLL) ⟨by omega, by omega⟩) ?_
    refine go_callq PM267 PM151 (Q' := _) rfl rfl rfl rfl (sp_X6_feed L xs sio (d + 38) dt7 hI8  ((xs ((i + 1).toNat)).toInt) ⟨by omega, by omega⟩ ((xs ((i + 2).toNat)).toInt) ⟨by omega, by omega⟩ ((xs ((i + 3).toNat)).toInt) ⟨by omega, by omega⟩ ((xs ((i + 4).toNat)).toInt) ⟨by omega, by omega⟩ ((xs ((i + 5).toNat)).toInt) ⟨by omega, by omega⟩ ) ?_
    rintro _ _ ⟨dt54, rfl, hI55, hF56, h53⟩
    refine ⟨rfl, ?_⟩
    have hF57 : Fr [0, 1, 2, 3, 4, 5, 6, 7, 8, 9, 10, 11, 12, 13, 14, 15, 16, 17, 18, 19, 20, 21, 22, 23, 24, 25, 26, 27, 28, 29, 30, 31, 32, 33, 34, 35, 36, 37, 38, 39, 40, 41, 42, 43, 44, 45, 46, 47, 48, 49, 50, 51, 52, 53, 54, 55, 56, 57, 58, 59, 60, 61, 62, 63, 64, 65, 66, 67, 68, 69, 70, 71, 72, 73, 74, 75, 76, 77, 78, 79, 80, 81, 82, 83, 84, 85, 86, 87, 88, 89, 90, 91, 92, 93, 94, 95, 96, 97, 98, 99, 100, 101, 102, 103, 104] dt dt54 := Fr_tr hF10 hF56 (by decide)
    have hM58 : MW (dt54 80) := MW_fr hM11 hF56 (by decide)
    have w59 : dt54 1 0 = dt7 1 0 := hF56 1 (by decide) 0
    have w60 : dt54 7 3 = dt7 7 3 := hF56 7 (by decide) 3
    have w61 : dt54 10 3 = dt7 10 3 := hF56 10 (by decide) 3
    have w62 : dt54 12 3 = dt7 12 3 := hF56 12 (by decide) 3
    have w63 : dt54 14 3 = dt7 14 3 := hF56 14 (by decide) 3
    have w64 : dt54 16 3 = dt7 16 3 := hF56 16 (by decide) 3
    have w65 : dt54 18 0 = dt7 18 0 := hF56 18 (by decide) 0
    have w66 : dt54 24 3 = dt7 24 3 := hF56 24 (by decide) 3
    have w67 : dt54 27 3 = dt7 27 3 := hF56 27 (by decide) 3
    have w68 : dt54 29 3 = dt7 29 3 := hF56 29 (by decide) 3
    have w69 : dt54 31 3 = dt7 31 3 := hF56 31 (by decide) 3
    have w70 : dt54 33 3 = dt7 33 3 := hF56 33 (by decide) 3
    have w71 : dt54 0 2 = dt7 0 2 := hF56 0 (by decide) 2
    have w72 : dt54 35 1 = dt7 35 1 := hF56 35 (by decide) 1
    have w73 : dt54 80 0 = dt7 80 0 := hF56 80 (by decide) 0
    have w74 : dt54 80 1 = dt7 80 1 := hF56 80 (by decide) 1
    have w75 : dt54 80 2 = dt7 80 2 := hF56 80 (by decide) 2
    have w76 : dt54 80 3 = dt7 80 3 := hF56 80 (by decide) 3
    have w77 : dt54 80 4 = dt7 80 4 := hF56 80 (by decide) 4
    have w78 : dt54 80 5 = dt7 80 5 := hF56 80 (by decide) 5
    have w79 : dt54 81 0 = dt7 81 0 := hF56 81 (by decide) 0
    have w80 : dt54 81 1 = dt7 81 1 := hF56 81 (by decide) 1
    have w81 : dt54 81 2 = dt7 81 2 := hF56 81 (by decide) 2
    have w82 : dt54 81 3 = dt7 81 3 := hF56 81 (by decide) 3
    have w83 : dt54 81 4 = dt7 81 4 := hF56 81 (by decide) 4
    have w84 : dt54 81 5 = dt7 81 5 := hF56 81 (by decide) 5
    rcases h53 with ⟨rfl, h53⟩ | ⟨v_h53, rfl, h53r, h53⟩
    · skip
      obtain ⟨h53_0, h53_1, h53_2⟩ := h53
      have M285 : MW (dt54 81) := MW_frk M239 hF56 (by decide)
      have C86 : ∀ j : Nat, dt54 15 j = dt 15 j := fun j => (hF56 15 (by decide) j).trans (C40 j)
      have C87 : ∀ j : Nat, dt54 17 j = dt 17 j := fun j => (hF56 17 (by decide) j).trans (C41 j)
      have C88 : ∀ j : Nat, dt54 32 j = dt 32 j := fun j => (hF56 32 (by decide) j).trans (C42 j)
      have C89 : ∀ j : Nat, dt54 34 j = dt 34 j := fun j => (hF56 34 (by decide) j).trans (C43 j)
      have F90 : ∀ j : Nat, 7340 ≤ j → dt54 81 j = dt 81 j := fun j hj => (hF56 81 (by decide) j).trans (F44 j hj)
      have F91 : ∀ j : Nat, 7340 ≤ j → dt54 80 j = dt 80 j := fun j hj => (hF56 80 (by decide) j).trans (F45 j hj)
      have F92 : ∀ j : Nat, dt54 80 j = dt 80 j := fun j => (hF56 80 (by decide) j).trans (F46 j)
      have F93 : ∀ j : Nat, dt54 81 j = dt 81 j := fun j => (hF56 81 (by decide) j).trans (F47 j)
      refine go_toq PM267 (k := 2) (pc' := 1435) (L' := [some (.inr (.inr (some 3000))), some (.inr (.inr (some 0))), some (.inr (.inr (some 79))), some (.inl i)]) (st' := []) (w' := (SH, dt54)) rfl ?_
      exact K dt54 hI55 hM58 M285 (by first | omega | (simp only [*]; done) | simp only [*]) (by omega) (by omega) (by omega) (by omega) (by omega) (by omega) (by omega) (by omega) (by omega) (by omega) (by omega) (by omega) (by omega) (by first | exact hI | exact RW2_k hd0 C86 F91 (by decide) (by omega) | (exfalso; omega)) (by first | exact hI | exact RW2_k hd1 C88 F90 (by decide) (by omega) | (exfalso; omega)) (by first | exact hI | exact RW2_k hd2 C87 F91 (by decide) (by omega) | (exfalso; omega)) (by first | exact hI | exact RW2_k hd3 C89 F90 (by decide) (by omega) | (exfalso; omega))
    · skip
      obtain ⟨h53_0, h53_1, h53_2, h53_3⟩ := h53
      have M294 : MW (dt54 81) := MW_frk M239 hF56 (by decide)
      have C95 : ∀ j : Nat, dt54 15 j = dt 15 j := fun j => (hF56 15 (by decide) j).trans (C40 j)
      have C96 : ∀ j : Nat, dt54 17 j = dt 17 j := fun j => (hF56 17 (by decide) j).trans (C41 j)
      have C97 : ∀ j : Nat, dt54 32 j = dt 32 j := fun j => (hF56 32 (by decide) j).trans (C42 j)
      have C98 : ∀ j : Nat, dt54 34 j = dt 34 j := fun j => (hF56 34 (by decide) j).trans (C43 j)
      have F99 : ∀ j : Nat, 7340 ≤ j → dt54 81 j = dt 81 j := fun j hj => (hF56 81 (by decide) j).trans (F44 j hj)
      have F100 : ∀ j : Nat, 7340 ≤ j → dt54 80 j = dt 80 j := fun j hj => (hF56 80 (by decide) j).trans (F45 j hj)
      have F101 : ∀ j : Nat, dt54 80 j = dt 80 j := fun j => (hF56 80 (by decide) j).trans (F46 j)
      have F102 : ∀ j : Nat, dt54 81 j = dt 81 j := fun j => (hF56 81 (by decide) j).trans (F47 j)
      refine go_toq PM267 (k := 2) (pc' := 1435) (L' := [some (.inr (.inr (some 3000))), some (.inr (.inr (some 0))), some (.inr (.inr (some 79))), some (.inl i)]) (st' := []) (w' := (SH, dt54)) rfl ?_
      exact K dt54 hI55 hM58 M294 (by first | omega | (simp only [*]; done) | simp only [*]) (by omega) (by omega) (by omega) (by omega) (by omega) (by omega) (by omega) (by omega) (by omega) (by omega) (by omega) (by omega) (by omega) (by first | exact hI | exact RW2_k hd0 C95 F100 (by decide) (by omega) | (exfalso; omega)) (by first | exact hI | exact RW2_k hd1 C97 F99 (by decide) (by omega) | (exfalso; omega)) (by first | exact hI | exact RW2_k hd2 C96 F100 (by decide) (by omega) | (exfalso; omega)) (by first | exact hI | exact RW2_k hd3 C98 F99 (by decide) (by omega) | (exfalso; omega))
  · skip
    obtain ⟨h6_0, h6_1, h6_2⟩ := h6
    have M2103 : MW (dt7 81) := MW_frk hM2 hF9 (by decide)
    have C104 : ∀ j : Nat, dt7 15 j = dt 15 j := fun j => (hF9 15 (by decide) j).trans ((fun _ => rfl) j)
    have C105 : ∀ j : Nat, dt7 17 j = dt 17 j := fun j => (hF9 17 (by decide) j).trans ((fun _ => rfl) j)
    have C106 : ∀ j : Nat, dt7 32 j = dt 32 j := fun j => (hF9 32 (by decide) j).trans ((fun _ => rfl) j)
    have C107 : ∀ j : Nat, dt7 34 j = dt 34 j := fun j => (hF9 34 (by decide) j).trans ((fun _ => rfl) j)
    have F108 : ∀ j : Nat, 7340 ≤ j → dt7 81 j = dt 81 j := fun j hj => (hF9 81 (by decide) j).trans ((fun _ _ => rfl) j hj)
    have F109 : ∀ j : Nat, 7340 ≤ j → dt7 80 j = dt 80 j := fun j hj => (hF9 80 (by decide) j).trans ((fun _ _ => rfl) j hj)
    have F110 : ∀ j : Nat, dt7 80 j = dt 80 j := fun j => (hF9 80 (by decide) j).trans ((fun _ => rfl) j)
    have F111 : ∀ j : Nat, dt7 81 j = dt 81 j := fun j => (hF9 81 (by decide) j).trans ((fun _ => rfl) j)
    refine go_toq PM267 (k := 6) (pc' := 238) (L' := [some (.inr (.inr (some 3000))), some (.inr (.inr (some 0))), some (.inr (.inr (some 79))), some (.inl i)]) (st' := [.inl (i + 1), .inr (.inr (some 3000)), .inr (.inr (some 79))]) (w' := (SH, dt7)) rfl ?_
    have r112 := i32_R (xs ((i + 1).toNat))
    refine go_smpq PM267 (L' := [some (.inr (.inr (some 3000))), some (.inr (.inr (some 0))), some (.inr (.inr (some 79))), some (.inl i)]) (st' := [.inl ((xs ((i + 1).toNat)).toInt), .inr (.inr (some 79))]) (w' := (SH, dt7)) rfl rfl (s_iald (n := L) (f := fun j => (xs j).toInt) (am_scr hLL) ⟨by omega, by omega⟩) ?_
    refine go_toq PM267 (k := 4) (pc' := 243) (L' := [some (.inr (.inr (some 3000))), some (.inr (.inr (some 0))), some (.inr (.inr (some 79))), some (.inl i)]) (st' := [.inl (i + 2), .inr (.inr (some 3000)), .inl ((xs ((i + 1).toNat)).toInt), .inr (.inr (some 79))]) (w' := (SH, dt7)) rfl ?_
    have r113 := i32_R (xs ((i + 2).toNat))
    refine go_smpq PM267 (L' := [some (.inr (.inr (some 3000))), some (.inr (.inr (some 0))), some (.inr (.inr (some 79))), some (.inl i)]) (st' := [.inl ((xs ((i + 2).toNat)).toInt), .inl ((xs ((i + 1).toNat)).toInt), .inr (.inr (some 79))]) (w' := (SH, dt7)) rfl rfl (s_iald (n := L) (f := fun j => (xs j).toInt) (am_scr hLL) ⟨by omega, by omega⟩) ?_
    refine go_toq PM267 (k := 4) (pc' := 248) (L' := [some (.inr (.inr (some 3000))), some (.inr (.inr (some 0))), some (.inr (.inr (some 79))), some (.inl i)]) (st' := [.inl (i + 3), .inr (.inr (some 3000)), .inl ((xs ((i + 2).toNat)).toInt), .inl ((xs ((i + 1).toNat)).toInt), .inr (.inr (some 79))]) (w' := (SH, dt7)) rfl ?_
    have r114 := i32_R (xs ((i + 3).toNat))
    refine go_smpq PM267 (L' := [some (.inr (.inr (some 3000))), some (.inr (.inr (some 0))), some (.inr (.inr (some 79))), some (.inl i)]) (st' := [.inl ((xs ((i + 3).toNat)).toInt), .inl ((xs ((i + 2).toNat)).toInt), .inl ((xs ((i + 1).toNat)).toInt), .inr (.inr (some 79))]) (w' := (SH, dt7)) rfl rfl (s_iald (n := L) (f := fun j => (xs j).toInt) (am_scr hLL) ⟨by omega, by omega⟩) ?_
    refine go_toq PM267 (k := 4) (pc' := 253) (L' := [some (.inr (.inr (some 3000))), some (.inr (.inr (some 0))), some (.inr (.inr (some 79))), some (.inl i)]) (st' := [.inl (i + 4), .inr (.inr (some 3000)), .inl ((xs ((i + 3).toNat)).toInt), .inl ((xs ((i + 2).toNat)).toInt), .inl ((xs ((i + 1).toNat)).toInt), .inr (.inr (some 79))]) (w' := (SH, dt7)) rfl ?_
    have r115 := i32_R (xs ((i + 4).toNat))
    refine go_smpq PM267 (L' := [some (.inr (.inr (some 3000))), some (.inr (.inr (some 0))), some (.inr (.inr (some 79))), some (.inl i)]) (st' := [.inl ((xs ((i + 4).toNat)).toInt), .inl ((xs ((i + 3).toNat)).toInt), .inl ((xs ((i + 2).toNat)).toInt), .inl ((xs ((i + 1).toNat)).toInt), .inr (.inr (some 79))]) (w' := (SH, dt7)) rfl rfl (s_iald (n := L) (f := fun j => (xs j).toInt) (am_scr hLL) ⟨by omega, by omega⟩) ?_
    refine go_toq PM267 (k := 4) (pc' := 258) (L' := [some (.inr (.inr (some 3000))), some (.inr (.inr (some 0))), some (.inr (.inr (some 79))), some (.inl i)]) (st' := [.inl (i + 5), .inr (.inr (some 3000)), .inl ((xs ((i + 4).toNat)).toInt), .inl ((xs ((i + 3).toNat)).toInt), .inl ((xs ((i + 2).toNat)).toInt), .inl ((xs ((i + 1).toNat)).toInt), .inr (.inr (some 79))]) (w' := (SH, dt7)) rfl ?_
    have r116 := i32_R (xs ((i + 5).toNat))
    refine go_smpq PM267 (L' := [some (.inr (.inr (some 3000))), some (.inr (.inr (some 0))), some (.inr (.inr (some 79))), some (.inl i)]) (st' := [.inl ((xs ((i + 5).toNat)).toInt), .inl ((xs ((i + 4).toNat)).toInt), .inl ((xs ((i + 3).toNat)).toInt), .inl ((xs ((i + 2).toNat)).toInt), .inl ((xs ((i + 1).toNat)).toInt), .inr (.inr (some 79))]) (w' := (SH, dt7)) rfl rfl (s_iald (n := L) (f := fun j => (xs j).toInt) (am_scr hLL) ⟨by omega, by omega⟩) ?_
    refine go_callq PM267 PM151 (Q' := _) rfl rfl rfl rfl (sp_X6_feed L xs sio (d + 38) dt7 hI8  ((xs ((i + 1).toNat)).toInt) ⟨by omega, by omega⟩ ((xs ((i + 2).toNat)).toInt) ⟨by omega, by omega⟩ ((xs ((i + 3).toNat)).toInt) ⟨by omega, by omega⟩ ((xs ((i + 4).toNat)).toInt) ⟨by omega, by omega⟩ ((xs ((i + 5).toNat)).toInt) ⟨by omega, by omega⟩ ) ?_
    rintro _ _ ⟨dt118, rfl, hI119, hF120, h117⟩
    refine ⟨rfl, ?_⟩
    have hF121 : Fr [0, 1, 2, 3, 4, 5, 6, 7, 8, 9, 10, 11, 12, 13, 14, 15, 16, 17, 18, 19, 20, 21, 22, 23, 24, 25, 26, 27, 28, 29, 30, 31, 32, 33, 34, 35, 36, 37, 38, 39, 40, 41, 42, 43, 44, 45, 46, 47, 48, 49, 50, 51, 52, 53, 54, 55, 56, 57, 58, 59, 60, 61, 62, 63, 64, 65, 66, 67, 68, 69, 70, 71, 72, 73, 74, 75, 76, 77, 78, 79, 80, 81, 82, 83, 84, 85, 86, 87, 88, 89, 90, 91, 92, 93, 94, 95, 96, 97, 98, 99, 100, 101, 102, 103, 104] dt dt118 := Fr_tr hF10 hF120 (by decide)
    have hM122 : MW (dt118 80) := MW_fr hM11 hF120 (by decide)
    have w123 : dt118 1 0 = dt7 1 0 := hF120 1 (by decide) 0
    have w124 : dt118 7 3 = dt7 7 3 := hF120 7 (by decide) 3
    have w125 : dt118 10 3 = dt7 10 3 := hF120 10 (by decide) 3
    have w126 : dt118 12 3 = dt7 12 3 := hF120 12 (by decide) 3
    have w127 : dt118 14 3 = dt7 14 3 := hF120 14 (by decide) 3
    have w128 : dt118 16 3 = dt7 16 3 := hF120 16 (by decide) 3
    have w129 : dt118 18 0 = dt7 18 0 := hF120 18 (by decide) 0
    have w130 : dt118 24 3 = dt7 24 3 := hF120 24 (by decide) 3
    have w131 : dt118 27 3 = dt7 27 3 := hF120 27 (by decide) 3
    have w132 : dt118 29 3 = dt7 29 3 := hF120 29 (by decide) 3
    have w133 : dt118 31 3 = dt7 31 3 := hF120 31 (by decide) 3
    have w134 : dt118 33 3 = dt7 33 3 := hF120 33 (by decide) 3
    have w135 : dt118 0 2 = dt7 0 2 := hF120 0 (by decide) 2
    have w136 : dt118 35 1 = dt7 35 1 := hF120 35 (by decide) 1
    have w137 : dt118 80 0 = dt7 80 0 := hF120 80 (by decide) 0
    have w138 : dt118 80 1 = dt7 80 1 := hF120 80 (by decide) 1
    have w139 : dt118 80 2 = dt7 80 2 := hF120 80 (by decide) 2
    have w140 : dt118 80 3 = dt7 80 3 := hF120 80 (by decide) 3
    have w141 : dt118 80 4 = dt7 80 4 := hF120 80 (by decide) 4
    have w142 : dt118 80 5 = dt7 80 5 := hF120 80 (by decide) 5
    have w143 : dt118 81 0 = dt7 81 0 := hF120 81 (by decide) 0
    have w144 : dt118 81 1 = dt7 81 1 := hF120 81 (by decide) 1
    have w145 : dt118 81 2 = dt7 81 2 := hF120 81 (by decide) 2
    have w146 : dt118 81 3 = dt7 81 3 := hF120 81 (by decide) 3
    have w147 : dt118 81 4 = dt7 81 4 := hF120 81 (by decide) 4
    have w148 : dt118 81 5 = dt7 81 5 := hF120 81 (by decide) 5
    rcases h117 with ⟨rfl, h117⟩ | ⟨v_h117, rfl, h117r, h117⟩
    · skip
      obtain ⟨h117_0, h117_1, h117_2⟩ := h117
      have M2149 : MW (dt118 81) := MW_frk M2103 hF120 (by decide)
      have C150 : ∀ j : Nat, dt118 15 j = dt 15 j := fun j => (hF120 15 (by decide) j).trans (C104 j)
      have C151 : ∀ j : Nat, dt118 17 j = dt 17 j := fun j => (hF120 17 (by decide) j).trans (C105 j)
      have C152 : ∀ j : Nat, dt118 32 j = dt 32 j := fun j => (hF120 32 (by decide) j).trans (C106 j)
      have C153 : ∀ j : Nat, dt118 34 j = dt 34 j := fun j => (hF120 34 (by decide) j).trans (C107 j)
      have F154 : ∀ j : Nat, 7340 ≤ j → dt118 81 j = dt 81 j := fun j hj => (hF120 81 (by decide) j).trans (F108 j hj)
      have F155 : ∀ j : Nat, 7340 ≤ j → dt118 80 j = dt 80 j := fun j hj => (hF120 80 (by decide) j).trans (F109 j hj)
      have F156 : ∀ j : Nat, dt118 80 j = dt 80 j := fun j => (hF120 80 (by decide) j).trans (F110 j)
      have F157 : ∀ j : Nat, dt118 81 j = dt 81 j := fun j => (hF120 81 (by decide) j).trans (F111 j)
      refine go_toq PM267 (k := 2) (pc' := 1435) (L' := [some (.inr (.inr (some 3000))), some (.inr (.inr (some 0))), some (.inr (.inr (some 79))), some (.inl i)]) (st' := []) (w' := (SH, dt118)) rfl ?_
      exact K dt118 hI119 hM122 M2149 (by first | omega | (simp only [*]; done) | simp only [*]) (by omega) (by omega) (by omega) (by omega) (by omega) (by omega) (by omega) (by omega) (by omega) (by omega) (by omega) (by omega) (by omega) (by first | exact hI | exact RW2_k hd0 C150 F155 (by decide) (by omega) | (exfalso; omega)) (by first | exact hI | exact RW2_k hd1 C152 F154 (by decide) (by omega) | (exfalso; omega)) (by first | exact hI | exact RW2_k hd2 C151 F155 (by decide) (by omega) | (exfalso; omega)) (by first | exact hI | exact RW2_k hd3 C153 F154 (by decide) (by omega) | (exfalso; omega))
    · skip
      obtain ⟨h117_0, h117_1, h117_2, h117_3⟩ := h117
      have M2158 : MW (dt118 81) := MW_frk M2103 hF120 (by decide)
      have C159 : ∀ j : Nat, dt118 15 j = dt 15 j := fun j => (hF120 15 (by decide) j).trans (C104 j)
      have C160 : ∀ j : Nat, dt118 17 j = dt 17 j := fun j => (hF120 17 (by decide) j).trans (C105 j)
      have C161 : ∀ j : Nat, dt118 32 j = dt 32 j := fun j => (hF120 32 (by decide) j).trans (C106 j)
      have C162 : ∀ j : Nat, dt118 34 j = dt 34 j := fun j => (hF120 34 (by decide) j).trans (C107 j)
      have F163 : ∀ j : Nat, 7340 ≤ j → dt118 81 j = dt 81 j := fun j hj => (hF120 81 (by decide) j).trans (F108 j hj)
      have F164 : ∀ j : Nat, 7340 ≤ j → dt118 80 j = dt 80 j := fun j hj => (hF120 80 (by decide) j).trans (F109 j hj)
      have F165 : ∀ j : Nat, dt118 80 j = dt 80 j := fun j => (hF120 80 (by decide) j).trans (F110 j)
      have F166 : ∀ j : Nat, dt118 81 j = dt 81 j := fun j => (hF120 81 (by decide) j).trans (F111 j)
      refine go_toq PM267 (k := 2) (pc' := 1435) (L' := [some (.inr (.inr (some 3000))), some (.inr (.inr (some 0))), some (.inr (.inr (some 79))), some (.inl i)]) (st' := []) (w' := (SH, dt118)) rfl ?_
      exact K dt118 hI119 hM122 M2158 (by first | omega | (simp only [*]; done) | simp only [*]) (by omega) (by omega) (by omega) (by omega) (by omega) (by omega) (by omega) (by omega) (by omega) (by omega) (by omega) (by omega) (by omega) (by first | exact hI | exact RW2_k hd0 C159 F164 (by decide) (by omega) | (exfalso; omega)) (by first | exact hI | exact RW2_k hd1 C161 F163 (by decide) (by omega) | (exfalso; omega)) (by first | exact hI | exact RW2_k hd2 C160 F164 (by decide) (by omega) | (exfalso; omega)) (by first | exact hI | exact RW2_k hd3 C162 F163 (by decide) (by omega) | (exfalso; omega))
set_option maxRecDepth 20000 in
set_option maxHeartbeats 8000000 in
theorem sp_case2 (L : Nat) (xs : Nat → Int32) (sio : Option Nat) (d : Nat) (Q : Option AV → am_W → Prop) (hLL : L ≤ 3072) (i : Int) (hi : 0 ≤ i ∧ i ≤ 3066) (hil : i ≤ (L : Int) - 6) (dt : Nat → Nat → Int) (hI : InvC dt) (hM : MW (dt 80)) (hM2 : MW (dt 81)) (hk0 : dt 1 0 = dt 80 0) (hk1 : dt 7 3 = dt 80 1) (hk2 : dt 10 3 = dt 80 2) (hk3 : dt 12 3 = dt 80 3) (hk4 : dt 14 3 = dt 80 4) (hk5 : dt 16 3 = dt 80 5) (hk6 : dt 18 0 = dt 81 0) (hk7 : dt 24 3 = dt 81 1) (hk8 : dt 27 3 = dt 81 2) (hk9 : dt 29 3 = dt 81 3) (hk10 : dt 31 3 = dt 81 4) (hk11 : dt 33 3 = dt 81 5) (hk12 : dt 0 2 = dt 79 2) (hk13 : dt 35 1 = dt 79 12) (hd0 : RW2 (dt 15) (dt 80) (dt 80 4) 7340) (hd1 : RW2 (dt 32) (dt 81) (dt 81 4) 7340) (hd2 : RW2 (dt 17) (dt 80) (dt 80 5) 7420) (hd3 : RW2 (dt 34) (dt 81) (dt 81 5) 7420) (K : ∀ (dt : Nat → Nat → Int) (hI : InvC dt) (hM : MW (dt 80)) (hM2 : MW (dt 81)) (hk0 : dt 1 0 = dt 80 0) (hk1 : dt 7 3 = dt 80 1) (hk2 : dt 10 3 = dt 80 2) (hk3 : dt 12 3 = dt 80 3) (hk4 : dt 14 3 = dt 80 4) (hk5 : dt 16 3 = dt 80 5) (hk6 : dt 18 0 = dt 81 0) (hk7 : dt 24 3 = dt 81 1) (hk8 : dt 27 3 = dt 81 2) (hk9 : dt 29 3 = dt 81 3) (hk10 : dt 31 3 = dt 81 4) (hk11 : dt 33 3 = dt 81 5) (hk12 : dt 0 2 = dt 79 2) (hk13 : dt 35 1 = dt 79 12) (hd0 : RW2 (dt 15) (dt 80) (dt 80 4) 7340) (hd1 : RW2 (dt 32) (dt 81) (dt 81 4) 7340) (hd2 : RW2 (dt 17) (dt 80) (dt 80 5) 7420) (hd3 : RW2 (dt 34) (dt 81) (dt 81 5) 7420), GO (am_XX L xs sio) (d + 39) 267 1435 [some (.inr (.inr (some 3000))), some (.inr (.inr (some 0))), some (.inr (.inr (some 79))), some (.inl i)] [] (SH, dt) Q) : GO (am_XX L xs sio) (d + 39) 267 266 [some (.inr (.inr (some 3000))), some (.inr (.inr (some 0))), some (.inr (.inr (some 79))), some (.inl i)] [] (SH, dt) Q := by
  have hF : Fr [0, 1, 2, 3, 4, 5, 6, 7, 8, 9, 10, 11, 12, 13, 14, 15, 16, 17, 18, 19, 20, 21, 22, 23, 24, 25, 26, 27, 28, 29, 30, 31, 32, 33, 34, 35, 36, 37, 38, 39, 40, 41, 42, 43, 44, 45, 46, 47, 48, 49, 50, 51, 52, 53, 54, 55, 56, 57, 58, 59, 60, 61, 62, 63, 64, 65, 66, 67, 68, 69, 70, 71, 72, 73, 74, 75, 76, 77, 78, 79, 80, 81, 82, 83, 84, 85, 86, 87, 88, 89, 90, 91, 92, 93, 94, 95, 96, 97, 98, 99, 100, 101, 102, 103, 104] dt dt := Fr_refl
  have hmn := MW_n hM
  have hmn2 := MW_n hM2
  refine go_toq PM267 (k := 5) (pc' := 271) (L' := [some (.inr (.inr (some 3000))), some (.inr (.inr (some 0))), some (.inr (.inr (some 79))), some (.inl i)]) (st' := [.inl (i + 1), .inr (.inr (some 3000)), .inr (.inr (some 0))]) (w' := (SH, dt)) rfl ?_
  have r1 := i32_R (xs ((i + 1).toNat))
  refine go_smpq PM267 (L' := [some (.inr (.inr (some 3000))), some (.inr (.inr (some 0))), some (.inr (.inr (some 79))), some (.inl i)]) (st' := [.inl ((xs ((i + 1).toNat)).toInt), .inr (.inr (some 0))]) (w' := (SH, dt)) rfl rfl (s_iald (n := L) (f := fun j => (xs j).toInt) (am_scr hLL) ⟨by omega, by omega⟩) ?_
  refine go_callq PM267 PM69 (Q' := _) rfl rfl rfl rfl (sp_X5_end L xs sio (d + 37) dt hI  ((xs ((i + 1).toNat)).toInt) ⟨by omega, by omega⟩ ) ?_
  rintro _ _ ⟨dt3, rfl, hI4, hF5, h2⟩
  refine ⟨rfl, ?_⟩
  have hF6 : Fr [0, 1, 2, 3, 4, 5, 6, 7, 8, 9, 10, 11, 12, 13, 14, 15, 16, 17, 18, 19, 20, 21, 22, 23, 24, 25, 26, 27, 28, 29, 30, 31, 32, 33, 34, 35, 36, 37, 38, 39, 40, 41, 42, 43, 44, 45, 46, 47, 48, 49, 50, 51, 52, 53, 54, 55, 56, 57, 58, 59, 60, 61, 62, 63, 64, 65, 66, 67, 68, 69, 70, 71, 72, 73, 74, 75, 76, 77, 78, 79, 80, 81, 82, 83, 84, 85, 86, 87, 88, 89, 90, 91, 92, 93, 94, 95, 96, 97, 98, 99, 100, 101, 102, 103, 104] dt dt3 := Fr_tr hF hF5 (by decide)
  have hM7 : MW (dt3 80) := MW_fr hM hF5 (by decide)
  have w8 : dt3 1 0 = dt 1 0 := hF5 1 (by decide) 0
  have w9 : dt3 7 3 = dt 7 3 := hF5 7 (by decide) 3
  have w10 : dt3 10 3 = dt 10 3 := hF5 10 (by decide) 3
  have w11 : dt3 12 3 = dt 12 3 := hF5 12 (by decide) 3
  have w12 : dt3 14 3 = dt 14 3 := hF5 14 (by decide) 3
  have w13 : dt3 16 3 = dt 16 3 := hF5 16 (by decide) 3
  have w14 : dt3 18 0 = dt 18 0 := hF5 18 (by decide) 0
  have w15 : dt3 24 3 = dt 24 3 := hF5 24 (by decide) 3
  have w16 : dt3 27 3 = dt 27 3 := hF5 27 (by decide) 3
  have w17 : dt3 29 3 = dt 29 3 := hF5 29 (by decide) 3
  have w18 : dt3 31 3 = dt 31 3 := hF5 31 (by decide) 3
  have w19 : dt3 33 3 = dt 33 3 := hF5 33 (by decide) 3
  have w20 : dt3 0 2 = dt 0 2 := hF5 0 (by decide) 2
  have w21 : dt3 80 0 = dt 80 0 := hF5 80 (by decide) 0
  have w22 : dt3 80 1 = dt 80 1 := hF5 80 (by decide) 1
  have w23 : dt3 80 2 = dt 80 2 := hF5 80 (by decide) 2
  have w24 : dt3 80 3 = dt 80 3 := hF5 80 (by decide) 3
  have w25 : dt3 80 4 = dt 80 4 := hF5 80 (by decide) 4
  have w26 : dt3 80 5 = dt 80 5 := hF5 80 (by decide) 5
  have w27 : dt3 81 0 = dt 81 0 := hF5 81 (by decide) 0
  have w28 : dt3 81 1 = dt 81 1 := hF5 81 (by decide) 1
  have w29 : dt3 81 2 = dt 81 2 := hF5 81 (by decide) 2
  have w30 : dt3 81 3 = dt 81 3 := hF5 81 (by decide) 3
  have w31 : dt3 81 4 = dt 81 4 := hF5 81 (by decide) 4
  have w32 : dt3 81 5 = dt 81 5 := hF5 81 (by decide) 5
  have w33 : dt3 79 2 = dt 79 2 := hF5 79 (by decide) 2
  have w34 : dt3 79 12 = dt 79 12 := hF5 79 (by decide) 12
  rcases h2 with ⟨rfl, h2⟩ | ⟨rfl, h2⟩
  · skip
    obtain ⟨h2_0, h2_1⟩ := h2
    have M235 : MW (dt3 81) := MW_frk hM2 hF5 (by decide)
    have C36 : ∀ j : Nat, dt3 15 j = dt 15 j := fun j => (hF5 15 (by decide) j).trans ((fun _ => rfl) j)
    have C37 : ∀ j : Nat, dt3 17 j = dt 17 j := fun j => (hF5 17 (by decide) j).trans ((fun _ => rfl) j)
    have C38 : ∀ j : Nat, dt3 32 j = dt 32 j := fun j => (hF5 32 (by decide) j).trans ((fun _ => rfl) j)
    have C39 : ∀ j : Nat, dt3 34 j = dt 34 j := fun j => (hF5 34 (by decide) j).trans ((fun _ => rfl) j)
    have F40 : ∀ j : Nat, 7340 ≤ j → dt3 81 j = dt 81 j := fun j hj => (hF5 81 (by decide) j).trans ((fun _ _ => rfl) j hj)
    have F41 : ∀ j : Nat, 7340 ≤ j → dt3 80 j = dt 80 j := fun j hj => (hF5 80 (by decide) j).trans ((fun _ _ => rfl) j hj)
    have F42 : ∀ j : Nat, dt3 80 j = dt 80 j := fun j => (hF5 80 (by decide) j).trans ((fun _ => rfl) j)
    have F43 : ∀ j : Nat, dt3 81 j = dt 81 j := fun j => (hF5 81 (by decide) j).trans ((fun _ => rfl) j)
    refine go_toq PM267 (k := 6) (pc' := 281) (L' := [some (.inr (.inr (some 3000))), some (.inr (.inr (some 0))), some (.inr (.inr (some 79))), some (.inl i)]) (st' := [.inl (i + 1), .inr (.inr (some 3000)), .inr (.inr (some 79))]) (w' := (SH, dt3)) rfl ?_
    have r44 := i32_R (xs ((i + 1).toNat))
    refine go_smpq PM267 (L' := [some (.inr (.inr (some 3000))), some (.inr (.inr (some 0))), some (.inr (.inr (some 79))), some (.inl i)]) (st' := [.inl ((xs ((i + 1).toNat)).toInt), .inr (.inr (some 79))]) (w' := (SH, dt3)) rfl rfl (s_iald (n := L) (f := fun j => (xs j).toInt) (am_scr hLL) ⟨by omega, by omega⟩) ?_
    refine go_callq PM267 PM152 (Q' := _) rfl rfl rfl rfl (sp_X6_end L xs sio (d + 37) dt3 hI4  ((xs ((i + 1).toNat)).toInt) ⟨by omega, by omega⟩ ) ?_
    rintro _ _ ⟨dt46, rfl, hI47, hF48, h45⟩
    refine ⟨rfl, ?_⟩
    have hF49 : Fr [0, 1, 2, 3, 4, 5, 6, 7, 8, 9, 10, 11, 12, 13, 14, 15, 16, 17, 18, 19, 20, 21, 22, 23, 24, 25, 26, 27, 28, 29, 30, 31, 32, 33, 34, 35, 36, 37, 38, 39, 40, 41, 42, 43, 44, 45, 46, 47, 48, 49, 50, 51, 52, 53, 54, 55, 56, 57, 58, 59, 60, 61, 62, 63, 64, 65, 66, 67, 68, 69, 70, 71, 72, 73, 74, 75, 76, 77, 78, 79, 80, 81, 82, 83, 84, 85, 86, 87, 88, 89, 90, 91, 92, 93, 94, 95, 96, 97, 98, 99, 100, 101, 102, 103, 104] dt dt46 := Fr_tr hF6 hF48 (by decide)
    have hM50 : MW (dt46 80) := MW_fr hM7 hF48 (by decide)
    have w51 : dt46 1 0 = dt3 1 0 := hF48 1 (by decide) 0
    have w52 : dt46 7 3 = dt3 7 3 := hF48 7 (by decide) 3
    have w53 : dt46 10 3 = dt3 10 3 := hF48 10 (by decide) 3
    have w54 : dt46 12 3 = dt3 12 3 := hF48 12 (by decide) 3
    have w55 : dt46 14 3 = dt3 14 3 := hF48 14 (by decide) 3
    have w56 : dt46 16 3 = dt3 16 3 := hF48 16 (by decide) 3
    have w57 : dt46 18 0 = dt3 18 0 := hF48 18 (by decide) 0
    have w58 : dt46 24 3 = dt3 24 3 := hF48 24 (by decide) 3
    have w59 : dt46 27 3 = dt3 27 3 := hF48 27 (by decide) 3
    have w60 : dt46 29 3 = dt3 29 3 := hF48 29 (by decide) 3
    have w61 : dt46 31 3 = dt3 31 3 := hF48 31 (by decide) 3
    have w62 : dt46 33 3 = dt3 33 3 := hF48 33 (by decide) 3
    have w63 : dt46 0 2 = dt3 0 2 := hF48 0 (by decide) 2
    have w64 : dt46 35 1 = dt3 35 1 := hF48 35 (by decide) 1
    have w65 : dt46 80 0 = dt3 80 0 := hF48 80 (by decide) 0
    have w66 : dt46 80 1 = dt3 80 1 := hF48 80 (by decide) 1
    have w67 : dt46 80 2 = dt3 80 2 := hF48 80 (by decide) 2
    have w68 : dt46 80 3 = dt3 80 3 := hF48 80 (by decide) 3
    have w69 : dt46 80 4 = dt3 80 4 := hF48 80 (by decide) 4
    have w70 : dt46 80 5 = dt3 80 5 := hF48 80 (by decide) 5
    have w71 : dt46 81 0 = dt3 81 0 := hF48 81 (by decide) 0
    have w72 : dt46 81 1 = dt3 81 1 := hF48 81 (by decide) 1
    have w73 : dt46 81 2 = dt3 81 2 := hF48 81 (by decide) 2
    have w74 : dt46 81 3 = dt3 81 3 := hF48 81 (by decide) 3
    have w75 : dt46 81 4 = dt3 81 4 := hF48 81 (by decide) 4
    have w76 : dt46 81 5 = dt3 81 5 := hF48 81 (by decide) 5
    rcases h45 with ⟨rfl, h45⟩ | ⟨rfl, h45⟩
    · skip
      obtain ⟨h45_0, h45_1, h45_2⟩ := h45
      have M277 : MW (dt46 81) := MW_frk M235 hF48 (by decide)
      have C78 : ∀ j : Nat, dt46 15 j = dt 15 j := fun j => (hF48 15 (by decide) j).trans (C36 j)
      have C79 : ∀ j : Nat, dt46 17 j = dt 17 j := fun j => (hF48 17 (by decide) j).trans (C37 j)
      have C80 : ∀ j : Nat, dt46 32 j = dt 32 j := fun j => (hF48 32 (by decide) j).trans (C38 j)
      have C81 : ∀ j : Nat, dt46 34 j = dt 34 j := fun j => (hF48 34 (by decide) j).trans (C39 j)
      have F82 : ∀ j : Nat, 7340 ≤ j → dt46 81 j = dt 81 j := fun j hj => (hF48 81 (by decide) j).trans (F40 j hj)
      have F83 : ∀ j : Nat, 7340 ≤ j → dt46 80 j = dt 80 j := fun j hj => (hF48 80 (by decide) j).trans (F41 j hj)
      have F84 : ∀ j : Nat, dt46 80 j = dt 80 j := fun j => (hF48 80 (by decide) j).trans (F42 j)
      have F85 : ∀ j : Nat, dt46 81 j = dt 81 j := fun j => (hF48 81 (by decide) j).trans (F43 j)
      refine go_toq PM267 (k := 2) (pc' := 1435) (L' := [some (.inr (.inr (some 3000))), some (.inr (.inr (some 0))), some (.inr (.inr (some 79))), some (.inl i)]) (st' := []) (w' := (SH, dt46)) rfl ?_
      exact K dt46 hI47 hM50 M277 (by first | omega | (simp only [*]; done) | simp only [*]) (by omega) (by omega) (by omega) (by omega) (by omega) (by omega) (by omega) (by omega) (by omega) (by omega) (by omega) (by omega) (by omega) (by first | exact hI | exact RW2_k hd0 C78 F83 (by decide) (by omega) | (exfalso; omega)) (by first | exact hI | exact RW2_k hd1 C80 F82 (by decide) (by omega) | (exfalso; omega)) (by first | exact hI | exact RW2_k hd2 C79 F83 (by decide) (by omega) | (exfalso; omega)) (by first | exact hI | exact RW2_k hd3 C81 F82 (by decide) (by omega) | (exfalso; omega))
    · skip
      obtain ⟨h45_0, h45_1, h45_2⟩ := h45
      replace h45_0 := hid h45_0
      have M286 : MW (dt46 81) := MW_frk M235 hF48 (by decide)
      have C87 : ∀ j : Nat, dt46 15 j = dt 15 j := fun j => (hF48 15 (by decide) j).trans (C36 j)
      have C88 : ∀ j : Nat, dt46 17 j = dt 17 j := fun j => (hF48 17 (by decide) j).trans (C37 j)
      have C89 : ∀ j : Nat, dt46 32 j = dt 32 j := fun j => (hF48 32 (by decide) j).trans (C38 j)
      have C90 : ∀ j : Nat, dt46 34 j = dt 34 j := fun j => (hF48 34 (by decide) j).trans (C39 j)
      have F91 : ∀ j : Nat, 7340 ≤ j → dt46 81 j = dt 81 j := fun j hj => (hF48 81 (by decide) j).trans (F40 j hj)
      have F92 : ∀ j : Nat, 7340 ≤ j → dt46 80 j = dt 80 j := fun j hj => (hF48 80 (by decide) j).trans (F41 j hj)
      have F93 : ∀ j : Nat, dt46 80 j = dt 80 j := fun j => (hF48 80 (by decide) j).trans (F42 j)
      have F94 : ∀ j : Nat, dt46 81 j = dt 81 j := fun j => (hF48 81 (by decide) j).trans (F43 j)
      refine go_toq PM267 (k := 2) (pc' := 1435) (L' := [some (.inr (.inr (some 3000))), some (.inr (.inr (some 0))), some (.inr (.inr (some 79))), some (.inl i)]) (st' := []) (w' := (SH, dt46)) rfl ?_
      exact K dt46 hI47 hM50 M286 (by first | (first | omega | (have z0_ := unhid h45_0; omega)) | (simp only [*]; done) | simp only [*]) (by (first | omega | (have z0_ := unhid h45_0; omega))) (by (first | omega | (have z0_ := unhid h45_0; omega))) (by (first | omega | (have z0_ := unhid h45_0; omega))) (by (first | omega | (have z0_ := unhid h45_0; omega))) (by (first | omega | (have z0_ := unhid h45_0; omega))) (by (first | omega | (have z0_ := unhid h45_0; omega))) (by (first | omega | (have z0_ := unhid h45_0; omega))) (by (first | omega | (have z0_ := unhid h45_0; omega))) (by (first | omega | (have z0_ := unhid h45_0; omega))) (by (first | omega | (have z0_ := unhid h45_0; omega))) (by (first | omega | (have z0_ := unhid h45_0; omega))) (by (first | omega | (have z0_ := unhid h45_0; omega))) (by (first | omega | (have z0_ := unhid h45_0; omega))) (by first | exact hI | exact RW2_k hd0 C87 F92 (by decide) (by (first | omega | (have z0_ := unhid h45_0; omega))) | (exfalso; (first | omega | (have z0_ := unhid h45_0; omega)))) (by first | exact hI | exact RW2_k hd1 C89 F91 (by decide) (by (first | omega | (have z0_ := unhid h45_0; omega))) | (exfalso; (first | omega | (have z0_ := unhid h45_0; omega)))) (by first | exact hI | exact RW2_k hd2 C88 F92 (by decide) (by (first | omega | (have z0_ := unhid h45_0; omega))) | (exfalso; (first | omega | (have z0_ := unhid h45_0; omega)))) (by first | exact hI | exact RW2_k hd3 C90 F91 (by decide) (by (first | omega | (have z0_ := unhid h45_0; omega))) | (exfalso; (first | omega | (have z0_ := unhid h45_0; omega))))
  · skip
    obtain ⟨h2_0, h2_1⟩ := h2
    replace h2_0 := hid h2_0
    have M295 : MW (dt3 81) := MW_frk hM2 hF5 (by decide)
    have C96 : ∀ j : Nat, dt3 15 j = dt 15 j := fun j => (hF5 15 (by decide) j).trans ((fun _ => rfl) j)
    have C97 : ∀ j : Nat, dt3 17 j = dt 17 j := fun j => (hF5 17 (by decide) j).trans ((fun _ => rfl) j)
    have C98 : ∀ j : Nat, dt3 32 j = dt 32 j := fun j => (hF5 32 (by decide) j).trans ((fun _ => rfl) j)
    have C99 : ∀ j : Nat, dt3 34 j = dt 34 j := fun j => (hF5 34 (by decide) j).trans ((fun _ => rfl) j)
    have F100 : ∀ j : Nat, 7340 ≤ j → dt3 81 j = dt 81 j := fun j hj => (hF5 81 (by decide) j).trans ((fun _ _ => rfl) j hj)
    have F101 : ∀ j : Nat, 7340 ≤ j → dt3 80 j = dt 80 j := fun j hj => (hF5 80 (by decide) j).trans ((fun _ _ => rfl) j hj)
    have F102 : ∀ j : Nat, dt3 80 j = dt 80 j := fun j => (hF5 80 (by decide) j).trans ((fun _ => rfl) j)
    have F103 : ∀ j : Nat, dt3 81 j = dt 81 j := fun j => (hF5 81 (by decide) j).trans ((fun _ => rfl) j)
    refine go_toq PM267 (k := 6) (pc' := 281) (L' := [some (.inr (.inr (some 3000))), some (.inr (.inr (some 0))), some (.inr (.inr (some 79))), some (.inl i)]) (st' := [.inl (i + 1), .inr (.inr (some 3000)), .inr (.inr (some 79))]) (w' := (SH, dt3)) rfl ?_
    have r104 := i32_R (xs ((i + 1).toNat))
    refine go_smpq PM267 (L' := [some (.inr (.inr (some 3000))), some (.inr (.inr (some 0))), some (.inr (.inr (some 79))), some (.inl i)]) (st' := [.inl ((xs ((i + 1).toNat)).toInt), .inr (.inr (some 79))]) (w' := (SH, dt3)) rfl rfl (s_iald (n := L) (f := fun j => (xs j).toInt) (am_scr hLL) ⟨by (first | omega | (have z0_ := unhid h2_0; omega)), by (first | omega | (have z0_ := unhid h2_0; omega))⟩) ?_
    refine go_callq PM267 PM152 (Q' := _) rfl rfl rfl rfl (sp_X6_end L xs sio (d + 37) dt3 hI4  ((xs ((i + 1).toNat)).toInt) ⟨by (first | omega | (have z0_ := unhid h2_0; omega)), by (first | omega | (have z0_ := unhid h2_0; omega))⟩ ) ?_
    rintro _ _ ⟨dt106, rfl, hI107, hF108, h105⟩
    refine ⟨rfl, ?_⟩
    have hF109 : Fr [0, 1, 2, 3, 4, 5, 6, 7, 8, 9, 10, 11, 12, 13, 14, 15, 16, 17, 18, 19, 20, 21, 22, 23, 24, 25, 26, 27, 28, 29, 30, 31, 32, 33, 34, 35, 36, 37, 38, 39, 40, 41, 42, 43, 44, 45, 46, 47, 48, 49, 50, 51, 52, 53, 54, 55, 56, 57, 58, 59, 60, 61, 62, 63, 64, 65, 66, 67, 68, 69, 70, 71, 72, 73, 74, 75, 76, 77, 78, 79, 80, 81, 82, 83, 84, 85, 86, 87, 88, 89, 90, 91, 92, 93, 94, 95, 96, 97, 98, 99, 100, 101, 102, 103, 104] dt dt106 := Fr_tr hF6 hF108 (by decide)
    have hM110 : MW (dt106 80) := MW_fr hM7 hF108 (by decide)
    have w111 : dt106 1 0 = dt3 1 0 := hF108 1 (by decide) 0
    have w112 : dt106 7 3 = dt3 7 3 := hF108 7 (by decide) 3
    have w113 : dt106 10 3 = dt3 10 3 := hF108 10 (by decide) 3
    have w114 : dt106 12 3 = dt3 12 3 := hF108 12 (by decide) 3
    have w115 : dt106 14 3 = dt3 14 3 := hF108 14 (by decide) 3
    have w116 : dt106 16 3 = dt3 16 3 := hF108 16 (by decide) 3
    have w117 : dt106 18 0 = dt3 18 0 := hF108 18 (by decide) 0
    have w118 : dt106 24 3 = dt3 24 3 := hF108 24 (by decide) 3
    have w119 : dt106 27 3 = dt3 27 3 := hF108 27 (by decide) 3
    have w120 : dt106 29 3 = dt3 29 3 := hF108 29 (by decide) 3
    have w121 : dt106 31 3 = dt3 31 3 := hF108 31 (by decide) 3
    have w122 : dt106 33 3 = dt3 33 3 := hF108 33 (by decide) 3
    have w123 : dt106 0 2 = dt3 0 2 := hF108 0 (by decide) 2
    have w124 : dt106 35 1 = dt3 35 1 := hF108 35 (by decide) 1
    have w125 : dt106 80 0 = dt3 80 0 := hF108 80 (by decide) 0
    have w126 : dt106 80 1 = dt3 80 1 := hF108 80 (by decide) 1
    have w127 : dt106 80 2 = dt3 80 2 := hF108 80 (by decide) 2
    have w128 : dt106 80 3 = dt3 80 3 := hF108 80 (by decide) 3
    have w129 : dt106 80 4 = dt3 80 4 := hF108 80 (by decide) 4
    have w130 : dt106 80 5 = dt3 80 5 := hF108 80 (by decide) 5
    have w131 : dt106 81 0 = dt3 81 0 := hF108 81 (by decide) 0
    have w132 : dt106 81 1 = dt3 81 1 := hF108 81 (by decide) 1
    have w133 : dt106 81 2 = dt3 81 2 := hF108 81 (by decide) 2
    have w134 : dt106 81 3 = dt3 81 3 := hF108 81 (by decide) 3
    have w135 : dt106 81 4 = dt3 81 4 := hF108 81 (by decide) 4
    have w136 : dt106 81 5 = dt3 81 5 := hF108 81 (by decide) 5
    rcases h105 with ⟨rfl, h105⟩ | ⟨rfl, h105⟩
    · skip
      obtain ⟨h105_0, h105_1, h105_2⟩ := h105
      have M2137 : MW (dt106 81) := MW_frk M295 hF108 (by decide)
      have C138 : ∀ j : Nat, dt106 15 j = dt 15 j := fun j => (hF108 15 (by decide) j).trans (C96 j)
      have C139 : ∀ j : Nat, dt106 17 j = dt 17 j := fun j => (hF108 17 (by decide) j).trans (C97 j)
      have C140 : ∀ j : Nat, dt106 32 j = dt 32 j := fun j => (hF108 32 (by decide) j).trans (C98 j)
      have C141 : ∀ j : Nat, dt106 34 j = dt 34 j := fun j => (hF108 34 (by decide) j).trans (C99 j)
      have F142 : ∀ j : Nat, 7340 ≤ j → dt106 81 j = dt 81 j := fun j hj => (hF108 81 (by decide) j).trans (F100 j hj)
      have F143 : ∀ j : Nat, 7340 ≤ j → dt106 80 j = dt 80 j := fun j hj => (hF108 80 (by decide) j).trans (F101 j hj)
      have F144 : ∀ j : Nat, dt106 80 j = dt 80 j := fun j => (hF108 80 (by decide) j).trans (F102 j)
      have F145 : ∀ j : Nat, dt106 81 j = dt 81 j := fun j => (hF108 81 (by decide) j).trans (F103 j)
      refine go_toq PM267 (k := 2) (pc' := 1435) (L' := [some (.inr (.inr (some 3000))), some (.inr (.inr (some 0))), some (.inr (.inr (some 79))), some (.inl i)]) (st' := []) (w' := (SH, dt106)) rfl ?_
      exact K dt106 hI107 hM110 M2137 (by first | (first | omega | (have z0_ := unhid h2_0; omega)) | (simp only [*]; done) | simp only [*]) (by (first | omega | (have z0_ := unhid h2_0; omega))) (by (first | omega | (have z0_ := unhid h2_0; omega))) (by (first | omega | (have z0_ := unhid h2_0; omega))) (by (first | omega | (have z0_ := unhid h2_0; omega))) (by (first | omega | (have z0_ := unhid h2_0; omega))) (by (first | omega | (have z0_ := unhid h2_0; omega))) (by (first | omega | (have z0_ := unhid h2_0; omega))) (by (first | omega | (have z0_ := unhid h2_0; omega))) (by (first | omega | (have z0_ := unhid h2_0; omega))) (by (first | omega | (have z0_ := unhid h2_0; omega))) (by (first | omega | (have z0_ := unhid h2_0; omega))) (by (first | omega | (have z0_ := unhid h2_0; omega))) (by (first | omega | (have z0_ := unhid h2_0; omega))) (by first | exact hI | exact RW2_k hd0 C138 F143 (by decide) (by (first | omega | (have z0_ := unhid h2_0; omega))) | (exfalso; (first | omega | (have z0_ := unhid h2_0; omega)))) (by first | exact hI | exact RW2_k hd1 C140 F142 (by decide) (by (first | omega | (have z0_ := unhid h2_0; omega))) | (exfalso; (first | omega | (have z0_ := unhid h2_0; omega)))) (by first | exact hI | exact RW2_k hd2 C139 F143 (by decide) (by (first | omega | (have z0_ := unhid h2_0; omega))) | (exfalso; (first | omega | (have z0_ := unhid h2_0; omega)))) (by first | exact hI | exact RW2_k hd3 C141 F142 (by decide) (by (first | omega | (have z0_ := unhid h2_0; omega))) | (exfalso; (first | omega | (have z0_ := unhid h2_0; omega))))
    · skip
      obtain ⟨h105_0, h105_1, h105_2⟩ := h105
      replace h105_0 := hid h105_0
      have M2146 : MW (dt106 81) := MW_frk M295 hF108 (by decide)
      have C147 : ∀ j : Nat, dt106 15 j = dt 15 j := fun j => (hF108 15 (by decide) j).trans (C96 j)
      have C148 : ∀ j : Nat, dt106 17 j = dt 17 j := fun j => (hF108 17 (by decide) j).trans (C97 j)
      have C149 : ∀ j : Nat, dt106 32 j = dt 32 j := fun j => (hF108 32 (by decide) j).trans (C98 j)
      have C150 : ∀ j : Nat, dt106 34 j = dt 34 j := fun j => (hF108 34 (by decide) j).trans (C99 j)
      have F151 : ∀ j : Nat, 7340 ≤ j → dt106 81 j = dt 81 j := fun j hj => (hF108 81 (by decide) j).trans (F100 j hj)
      have F152 : ∀ j : Nat, 7340 ≤ j → dt106 80 j = dt 80 j := fun j hj => (hF108 80 (by decide) j).trans (F101 j hj)
      have F153 : ∀ j : Nat, dt106 80 j = dt 80 j := fun j => (hF108 80 (by decide) j).trans (F102 j)
      have F154 : ∀ j : Nat, dt106 81 j = dt 81 j := fun j => (hF108 81 (by decide) j).trans (F103 j)
      refine go_toq PM267 (k := 2) (pc' := 1435) (L' := [some (.inr (.inr (some 3000))), some (.inr (.inr (some 0))), some (.inr (.inr (some 79))), some (.inl i)]) (st' := []) (w' := (SH, dt106)) rfl ?_
      exact K dt106 hI107 hM110 M2146 (by first | (first | omega | (have z0_ := unhid h2_0; have z1_ := unhid h105_0; omega)) | (simp only [*]; done) | simp only [*]) (by (first | omega | (have z0_ := unhid h2_0; have z1_ := unhid h105_0; omega))) (by (first | omega | (have z0_ := unhid h2_0; have z1_ := unhid h105_0; omega))) (by (first | omega | (have z0_ := unhid h2_0; have z1_ := unhid h105_0; omega))) (by (first | omega | (have z0_ := unhid h2_0; have z1_ := unhid h105_0; omega))) (by (first | omega | (have z0_ := unhid h2_0; have z1_ := unhid h105_0; omega))) (by (first | omega | (have z0_ := unhid h2_0; have z1_ := unhid h105_0; omega))) (by (first | omega | (have z0_ := unhid h2_0; have z1_ := unhid h105_0; omega))) (by (first | omega | (have z0_ := unhid h2_0; have z1_ := unhid h105_0; omega))) (by (first | omega | (have z0_ := unhid h2_0; have z1_ := unhid h105_0; omega))) (by (first | omega | (have z0_ := unhid h2_0; have z1_ := unhid h105_0; omega))) (by (first | omega | (have z0_ := unhid h2_0; have z1_ := unhid h105_0; omega))) (by (first | omega | (have z0_ := unhid h2_0; have z1_ := unhid h105_0; omega))) (by (first | omega | (have z0_ := unhid h2_0; have z1_ := unhid h105_0; omega))) (by first | exact hI | exact RW2_k hd0 C147 F152 (by decide) (by (first | omega | (have z0_ := unhid h2_0; have z1_ := unhid h105_0; omega))) | (exfalso; (first | omega | (have z0_ := unhid h2_0; have z1_ := unhid h105_0; omega)))) (by first | exact hI | exact RW2_k hd1 C149 F151 (by decide) (by (first | omega | (have z0_ := unhid h2_0; have z1_ := unhid h105_0; omega))) | (exfalso; (first | omega | (have z0_ := unhid h2_0; have z1_ := unhid h105_0; omega)))) (by first | exact hI | exact RW2_k hd2 C148 F152 (by decide) (by (first | omega | (have z0_ := unhid h2_0; have z1_ := unhid h105_0; omega))) | (exfalso; (first | omega | (have z0_ := unhid h2_0; have z1_ := unhid h105_0; omega)))) (by first | exact hI | exact RW2_k hd3 C150 F151 (by decide) (by (first | omega | (have z0_ := unhid h2_0; have z1_ := unhid h105_0; omega))) | (exfalso; (first | omega | (have z0_ := unhid h2_0; have z1_ := unhid h105_0; omega))))
set_option maxRecDepth 20000 in
set_option maxHeartbeats 8000000 in
theorem sp_case3 (L : Nat) (xs : Nat → Int32) (sio : Option Nat) (d : Nat) (Q : Option AV → am_W → Prop) (hLL : L ≤ 3072) (i : Int) (hi : 0 ≤ i ∧ i ≤ 3066) (hil : i ≤ (L : Int) - 6) (dt : Nat → Nat → Int) (hI : InvC dt) (hM : MW (dt 80)) (hM2 : MW (dt 81)) (hk0 : dt 1 0 = dt 80 0) (hk1 : dt 7 3 = dt 80 1) (hk2 : dt 10 3 = dt 80 2) (hk3 : dt 12 3 = dt 80 3) (hk4 : dt 14 3 = dt 80 4) (hk5 : dt 16 3 = dt 80 5) (hk6 : dt 18 0 = dt 81 0) (hk7 : dt 24 3 = dt 81 1) (hk8 : dt 27 3 = dt 81 2) (hk9 : dt 29 3 = dt 81 3) (hk10 : dt 31 3 = dt 81 4) (hk11 : dt 33 3 = dt 81 5) (hk12 : dt 0 2 = dt 79 2) (hk13 : dt 35 1 = dt 79 12) (hd0 : RW2 (dt 15) (dt 80) (dt 80 4) 7340) (hd1 : RW2 (dt 32) (dt 81) (dt 81 4) 7340) (hd2 : RW2 (dt 17) (dt 80) (dt 80 5) 7420) (hd3 : RW2 (dt 34) (dt 81) (dt 81 5) 7420) (K : ∀ (dt : Nat → Nat → Int) (hI : InvC dt) (hM : MW (dt 80)) (hM2 : MW (dt 81)) (hk0 : dt 1 0 = dt 80 0) (hk1 : dt 7 3 = dt 80 1) (hk2 : dt 10 3 = dt 80 2) (hk3 : dt 12 3 = dt 80 3) (hk4 : dt 14 3 = dt 80 4) (hk5 : dt 16 3 = dt 80 5) (hk6 : dt 18 0 = dt 81 0) (hk7 : dt 24 3 = dt 81 1) (hk8 : dt 27 3 = dt 81 2) (hk9 : dt 29 3 = dt 81 3) (hk10 : dt 31 3 = dt 81 4) (hk11 : dt 33 3 = dt 81 5) (hk12 : dt 0 2 = dt 79 2) (hk13 : dt 35 1 = dt 79 12) (hd0 : RW2 (dt 15) (dt 80) (dt 80 4) 7340) (hd1 : RW2 (dt 32) (dt 81) (dt 81 4) 7340) (hd2 : RW2 (dt 17) (dt 80) (dt 80 5) 7420) (hd3 : RW2 (dt 34) (dt 81) (dt 81 5) 7420), GO (am_XX L xs sio) (d + 39) 267 1435 [some (.inr (.inr (some 3000))), some (.inr (.inr (some 0))), some (.inr (.inr (some 79))), some (.inl i)] [] (SH, dt) Q) : GO (am_XX L xs sio) (d + 39) 267 289 [some (.inr (.inr (some 3000))), some (.inr (.inr (some 0))), some (.inr (.inr (some 79))), some (.inl i)] [] (SH, dt) Q := by
  have hF : Fr [0, 1, 2, 3, 4, 5, 6, 7, 8, 9, 10, 11, 12, 13, 14, 15, 16, 17, 18, 19, 20, 21, 22, 23, 24, 25, 26, 27, 28, 29, 30, 31, 32, 33, 34, 35, 36, 37, 38, 39, 40, 41, 42, 43, 44, 45, 46, 47, 48, 49, 50, 51, 52, 53, 54, 55, 56, 57, 58, 59, 60, 61, 62, 63, 64, 65, 66, 67, 68, 69, 70, 71, 72, 73, 74, 75, 76, 77, 78, 79, 80, 81, 82, 83, 84, 85, 86, 87, 88, 89, 90, 91, 92, 93, 94, 95, 96, 97, 98, 99, 100, 101, 102, 103, 104] dt dt := Fr_refl
  have hmn := MW_n hM
  have hmn2 := MW_n hM2
  refine go_toq PM267 (k := 5) (pc' := 294) (L' := [some (.inr (.inr (some 3000))), some (.inr (.inr (some 0))), some (.inr (.inr (some 79))), some (.inl i)]) (st' := [.inl (i + 1), .inr (.inr (some 3000)), .inr (.inr (some 0))]) (w' := (SH, dt)) rfl ?_
  have r1 := i32_R (xs ((i + 1).toNat))
  refine go_smpq PM267 (L' := [some (.inr (.inr (some 3000))), some (.inr (.inr (some 0))), some (.inr (.inr (some 79))), some (.inl i)]) (st' := [.inl ((xs ((i + 1).toNat)).toInt), .inr (.inr (some 0))]) (w' := (SH, dt)) rfl rfl (s_iald (n := L) (f := fun j => (xs j).toInt) (am_scr hLL) ⟨by omega, by omega⟩) ?_
  refine go_toq PM267 (k := 4) (pc' := 299) (L' := [some (.inr (.inr (some 3000))), some (.inr (.inr (some 0))), some (.inr (.inr (some 79))), some (.inl i)]) (st' := [.inl (i + 2), .inr (.inr (some 3000)), .inl ((xs ((i + 1).toNat)).toInt), .inr (.inr (some 0))]) (w' := (SH, dt)) rfl ?_
  have r2 := i32_R (xs ((i + 2).toNat))
  refine go_smpq PM267 (L' := [some (.inr (.inr (some 3000))), some (.inr (.inr (some 0))), some (.inr (.inr (some 79))), some (.inl i)]) (st' := [.inl ((xs ((i + 2).toNat)).toInt), .inl ((xs ((i + 1).toNat)).toInt), .inr (.inr (some 0))]) (w' := (SH, dt)) rfl rfl (s_iald (n := L) (f := fun j => (xs j).toInt) (am_scr hLL) ⟨by omega, by omega⟩) ?_
  refine go_callq PM267 PM70 (Q' := _) rfl rfl rfl rfl (sp_X5_text L xs sio (d + 15) dt hI  ((xs ((i + 1).toNat)).toInt) ⟨by omega, by omega⟩ ((xs ((i + 2).toNat)).toInt) ⟨by omega, by omega⟩ ) ?_
  rintro _ _ ⟨dt4, rfl, hI5, hF6, h3⟩
  refine ⟨rfl, ?_⟩
  have hF7 : Fr [0, 1, 2, 3, 4, 5, 6, 7, 8, 9, 10, 11, 12, 13, 14, 15, 16, 17, 18, 19, 20, 21, 22, 23, 24, 25, 26, 27, 28, 29, 30, 31, 32, 33, 34, 35, 36, 37, 38, 39, 40, 41, 42, 43, 44, 45, 46, 47, 48, 49, 50, 51, 52, 53, 54, 55, 56, 57, 58, 59, 60, 61, 62, 63, 64, 65, 66, 67, 68, 69, 70, 71, 72, 73, 74, 75, 76, 77, 78, 79, 80, 81, 82, 83, 84, 85, 86, 87, 88, 89, 90, 91, 92, 93, 94, 95, 96, 97, 98, 99, 100, 101, 102, 103, 104] dt dt4 := Fr_tr hF hF6 (by decide)
  have hM8 : MW (dt4 80) := MW_fr hM hF6 (by decide)
  have w9 : dt4 1 0 = dt 1 0 := hF6 1 (by decide) 0
  have w10 : dt4 7 3 = dt 7 3 := hF6 7 (by decide) 3
  have w11 : dt4 10 3 = dt 10 3 := hF6 10 (by decide) 3
  have w12 : dt4 12 3 = dt 12 3 := hF6 12 (by decide) 3
  have w13 : dt4 14 3 = dt 14 3 := hF6 14 (by decide) 3
  have w14 : dt4 16 3 = dt 16 3 := hF6 16 (by decide) 3
  have w15 : dt4 18 0 = dt 18 0 := hF6 18 (by decide) 0
  have w16 : dt4 24 3 = dt 24 3 := hF6 24 (by decide) 3
  have w17 : dt4 27 3 = dt 27 3 := hF6 27 (by decide) 3
  have w18 : dt4 29 3 = dt 29 3 := hF6 29 (by decide) 3
  have w19 : dt4 31 3 = dt 31 3 := hF6 31 (by decide) 3
  have w20 : dt4 33 3 = dt 33 3 := hF6 33 (by decide) 3
  have w21 : dt4 0 2 = dt 0 2 := hF6 0 (by decide) 2
  have w22 : dt4 80 0 = dt 80 0 := hF6 80 (by decide) 0
  have w23 : dt4 80 1 = dt 80 1 := hF6 80 (by decide) 1
  have w24 : dt4 80 2 = dt 80 2 := hF6 80 (by decide) 2
  have w25 : dt4 80 3 = dt 80 3 := hF6 80 (by decide) 3
  have w26 : dt4 80 4 = dt 80 4 := hF6 80 (by decide) 4
  have w27 : dt4 80 5 = dt 80 5 := hF6 80 (by decide) 5
  have w28 : dt4 81 0 = dt 81 0 := hF6 81 (by decide) 0
  have w29 : dt4 81 1 = dt 81 1 := hF6 81 (by decide) 1
  have w30 : dt4 81 2 = dt 81 2 := hF6 81 (by decide) 2
  have w31 : dt4 81 3 = dt 81 3 := hF6 81 (by decide) 3
  have w32 : dt4 81 4 = dt 81 4 := hF6 81 (by decide) 4
  have w33 : dt4 81 5 = dt 81 5 := hF6 81 (by decide) 5
  have w34 : dt4 79 2 = dt 79 2 := hF6 79 (by decide) 2
  have w35 : dt4 79 12 = dt 79 12 := hF6 79 (by decide) 12
  rcases h3 with ⟨v_h3, rfl, h3r, h3⟩
  have M236 : MW (dt4 81) := MW_frk hM2 hF6 (by decide)
  have C37 : ∀ j : Nat, dt4 15 j = dt 15 j := fun j => (hF6 15 (by decide) j).trans ((fun _ => rfl) j)
  have C38 : ∀ j : Nat, dt4 17 j = dt 17 j := fun j => (hF6 17 (by decide) j).trans ((fun _ => rfl) j)
  have C39 : ∀ j : Nat, dt4 32 j = dt 32 j := fun j => (hF6 32 (by decide) j).trans ((fun _ => rfl) j)
  have C40 : ∀ j : Nat, dt4 34 j = dt 34 j := fun j => (hF6 34 (by decide) j).trans ((fun _ => rfl) j)
  have F41 : ∀ j : Nat, 7340 ≤ j → dt4 81 j = dt 81 j := fun j hj => (hF6 81 (by decide) j).trans ((fun _ _ => rfl) j hj)
  have F42 : ∀ j : Nat, 7340 ≤ j → dt4 80 j = dt 80 j := fun j hj => (hF6 80 (by decide) j).trans ((fun _ _ => rfl) j hj)
  have F43 : ∀ j : Nat, dt4 80 j = dt 80 j := fun j => (hF6 80 (by decide) j).trans ((fun _ => rfl) j)
  have F44 : ∀ j : Nat, dt4 81 j = dt 81 j := fun j => (hF6 81 (by decide) j).trans ((fun _ => rfl) j)
  refine go_toq PM267 (k := 6) (pc' := 309) (L' := [some (.inr (.inr (some 3000))), some (.inr (.inr (some 0))), some (.inr (.inr (some 79))), some (.inl i)]) (st' := [.inl (i + 1), .inr (.inr (some 3000)), .inr (.inr (some 79))]) (w' := (SH, dt4)) rfl ?_
  have r45 := i32_R (xs ((i + 1).toNat))
  refine go_smpq PM267 (L' := [some (.inr (.inr (some 3000))), some (.inr (.inr (some 0))), some (.inr (.inr (some 79))), some (.inl i)]) (st' := [.inl ((xs ((i + 1).toNat)).toInt), .inr (.inr (some 79))]) (w' := (SH, dt4)) rfl rfl (s_iald (n := L) (f := fun j => (xs j).toInt) (am_scr hLL) ⟨by omega, by omega⟩) ?_
  refine go_toq PM267 (k := 4) (pc' := 314) (L' := [some (.inr (.inr (some 3000))), some (.inr (.inr (some 0))), some (.inr (.inr (some 79))), some (.inl i)]) (st' := [.inl (i + 2), .inr (.inr (some 3000)), .inl ((xs ((i + 1).toNat)).toInt), .inr (.inr (some 79))]) (w' := (SH, dt4)) rfl ?_
  have r46 := i32_R (xs ((i + 2).toNat))
  refine go_smpq PM267 (L' := [some (.inr (.inr (some 3000))), some (.inr (.inr (some 0))), some (.inr (.inr (some 79))), some (.inl i)]) (st' := [.inl ((xs ((i + 2).toNat)).toInt), .inl ((xs ((i + 1).toNat)).toInt), .inr (.inr (some 79))]) (w' := (SH, dt4)) rfl rfl (s_iald (n := L) (f := fun j => (xs j).toInt) (am_scr hLL) ⟨by omega, by omega⟩) ?_
  refine go_callq PM267 PM174 (Q' := _) rfl rfl rfl rfl (sp_X6_text_u L xs sio (d + 0) dt4 hI5 hM8  ((xs ((i + 1).toNat)).toInt) ⟨by omega, by omega⟩ ((xs ((i + 2).toNat)).toInt) ⟨by omega, by omega⟩ ) ?_
  rintro _ _ ⟨dt48, rfl, hI49, hF50, h47⟩
  refine ⟨rfl, ?_⟩
  have hF51 : Fr [0, 1, 2, 3, 4, 5, 6, 7, 8, 9, 10, 11, 12, 13, 14, 15, 16, 17, 18, 19, 20, 21, 22, 23, 24, 25, 26, 27, 28, 29, 30, 31, 32, 33, 34, 35, 36, 37, 38, 39, 40, 41, 42, 43, 44, 45, 46, 47, 48, 49, 50, 51, 52, 53, 54, 55, 56, 57, 58, 59, 60, 61, 62, 63, 64, 65, 66, 67, 68, 69, 70, 71, 72, 73, 74, 75, 76, 77, 78, 79, 80, 81, 82, 83, 84, 85, 86, 87, 88, 89, 90, 91, 92, 93, 94, 95, 96, 97, 98, 99, 100, 101, 102, 103, 104] dt dt48 := Fr_tr hF7 hF50 (by decide)
  have w52 : dt48 1 0 = dt4 1 0 := hF50 1 (by decide) 0
  have w53 : dt48 7 3 = dt4 7 3 := hF50 7 (by decide) 3
  have w54 : dt48 10 3 = dt4 10 3 := hF50 10 (by decide) 3
  have w55 : dt48 12 3 = dt4 12 3 := hF50 12 (by decide) 3
  have w56 : dt48 14 3 = dt4 14 3 := hF50 14 (by decide) 3
  have w57 : dt48 16 3 = dt4 16 3 := hF50 16 (by decide) 3
  have w58 : dt48 18 0 = dt4 18 0 := hF50 18 (by decide) 0
  have w59 : dt48 24 3 = dt4 24 3 := hF50 24 (by decide) 3
  have w60 : dt48 27 3 = dt4 27 3 := hF50 27 (by decide) 3
  have w61 : dt48 29 3 = dt4 29 3 := hF50 29 (by decide) 3
  have w62 : dt48 31 3 = dt4 31 3 := hF50 31 (by decide) 3
  have w63 : dt48 33 3 = dt4 33 3 := hF50 33 (by decide) 3
  have w64 : dt48 0 2 = dt4 0 2 := hF50 0 (by decide) 2
  have w65 : dt48 35 1 = dt4 35 1 := hF50 35 (by decide) 1
  have w66 : dt48 81 0 = dt4 81 0 := hF50 81 (by decide) 0
  have w67 : dt48 81 1 = dt4 81 1 := hF50 81 (by decide) 1
  have w68 : dt48 81 2 = dt4 81 2 := hF50 81 (by decide) 2
  have w69 : dt48 81 3 = dt4 81 3 := hF50 81 (by decide) 3
  have w70 : dt48 81 4 = dt4 81 4 := hF50 81 (by decide) 4
  have w71 : dt48 81 5 = dt4 81 5 := hF50 81 (by decide) 5
  rcases h47 with ⟨v_h47, rfl, h47r, h47⟩
  have hM72 : MW (dt48 80) := h47.2.2.1
  obtain ⟨h47_0, h47_1, h47_2, h47_3, h47_4, h47_5, h47_6, h47_7, h47_8, h47_9⟩ := h47
  have M273 : MW (dt48 81) := MW_frk M236 hF50 (by decide)
  have C74 : ∀ j : Nat, dt48 15 j = dt 15 j := fun j => (hF50 15 (by decide) j).trans (C37 j)
  have C75 : ∀ j : Nat, dt48 17 j = dt 17 j := fun j => (hF50 17 (by decide) j).trans (C38 j)
  have C76 : ∀ j : Nat, dt48 32 j = dt 32 j := fun j => (hF50 32 (by decide) j).trans (C39 j)
  have C77 : ∀ j : Nat, dt48 34 j = dt 34 j := fun j => (hF50 34 (by decide) j).trans (C40 j)
  have F78 : ∀ j : Nat, 7340 ≤ j → dt48 81 j = dt 81 j := fun j hj => (hF50 81 (by decide) j).trans (F41 j hj)
  have F79 : ∀ j : Nat, 7340 ≤ j → dt48 80 j = dt 80 j := fun j hj => (h47_9 j hj).trans (F42 j hj)
  have F80 : ∀ j : Nat, dt48 81 j = dt 81 j := fun j => (hF50 81 (by decide) j).trans (F44 j)
  refine go_toq PM267 (k := 2) (pc' := 1435) (L' := [some (.inr (.inr (some 3000))), some (.inr (.inr (some 0))), some (.inr (.inr (some 79))), some (.inl i)]) (st' := []) (w' := (SH, dt48)) rfl ?_
  exact K dt48 hI49 hM72 M273 (by first | omega | (simp only [*]; done) | simp only [*]) (by omega) (by omega) (by omega) (by omega) (by omega) (by omega) (by omega) (by omega) (by omega) (by omega) (by omega) (by omega) (by omega) (by first | exact hI | exact RW2_k hd0 C74 F79 (by decide) (by omega) | (exfalso; omega)) (by first | exact hI | exact RW2_k hd1 C76 F78 (by decide) (by omega) | (exfalso; omega)) (by first | exact hI | exact RW2_k hd2 C75 F79 (by decide) (by omega) | (exfalso; omega)) (by first | exact hI | exact RW2_k hd3 C77 F78 (by decide) (by omega) | (exfalso; omega))
set_option maxRecDepth 20000 in
set_option maxHeartbeats 8000000 in
theorem sp_case4 (L : Nat) (xs : Nat → Int32) (sio : Option Nat) (d : Nat) (Q : Option AV → am_W → Prop) (hLL : L ≤ 3072) (i : Int) (hi : 0 ≤ i ∧ i ≤ 3066) (hil : i ≤ (L : Int) - 6) (dt : Nat → Nat → Int) (hI : InvC dt) (hM : MW (dt 80)) (hM2 : MW (dt 81)) (hk0 : dt 1 0 = dt 80 0) (hk1 : dt 7 3 = dt 80 1) (hk2 : dt 10 3 = dt 80 2) (hk3 : dt 12 3 = dt 80 3) (hk4 : dt 14 3 = dt 80 4) (hk5 : dt 16 3 = dt 80 5) (hk6 : dt 18 0 = dt 81 0) (hk7 : dt 24 3 = dt 81 1) (hk8 : dt 27 3 = dt 81 2) (hk9 : dt 29 3 = dt 81 3) (hk10 : dt 31 3 = dt 81 4) (hk11 : dt 33 3 = dt 81 5) (hk12 : dt 0 2 = dt 79 2) (hk13 : dt 35 1 = dt 79 12) (hd0 : RW2 (dt 15) (dt 80) (dt 80 4) 7340) (hd1 : RW2 (dt 32) (dt 81) (dt 81 4) 7340) (hd2 : RW2 (dt 17) (dt 80) (dt 80 5) 7420) (hd3 : RW2 (dt 34) (dt 81) (dt 81 5) 7420) (K : ∀ (dt : Nat → Nat → Int) (hI : InvC dt) (hM : MW (dt 80)) (hM2 : MW (dt 81)) (hk0 : dt 1 0 = dt 80 0) (hk1 : dt 7 3 = dt 80 1) (hk2 : dt 10 3 = dt 80 2) (hk3 : dt 12 3 = dt 80 3) (hk4 : dt 14 3 = dt 80 4) (hk5 : dt 16 3 = dt 80 5) (hk6 : dt 18 0 = dt 81 0) (hk7 : dt 24 3 = dt 81 1) (hk8 : dt 27 3 = dt 81 2) (hk9 : dt 29 3 = dt 81 3) (hk10 : dt 31 3 = dt 81 4) (hk11 : dt 33 3 = dt 81 5) (hk12 : dt 0 2 = dt 79 2) (hk13 : dt 35 1 = dt 79 12) (hd0 : RW2 (dt 15) (dt 80) (dt 80 4) 7340) (hd1 : RW2 (dt 32) (dt 81) (dt 81 4) 7340) (hd2 : RW2 (dt 17) (dt 80) (dt 80 5) 7420) (hd3 : RW2 (dt 34) (dt 81) (dt 81 5) 7420), GO (am_XX L xs sio) (d + 39) 267 1435 [some (.inr (.inr (some 3000))), some (.inr (.inr (some 0))), some (.inr (.inr (some 79))), some (.inl i)] [] (SH, dt) Q) : GO (am_XX L xs sio) (d + 39) 267 322 [some (.inr (.inr (some 3000))), some (.inr (.inr (some 0))), some (.inr (.inr (some 79))), some (.inl i)] [] (SH, dt) Q := by
  have hF : Fr [0, 1, 2, 3, 4, 5, 6, 7, 8, 9, 10, 11, 12, 13, 14, 15, 16, 17, 18, 19, 20, 21, 22, 23, 24, 25, 26, 27, 28, 29, 30, 31, 32, 33, 34, 35, 36, 37, 38, 39, 40, 41, 42, 43, 44, 45, 46, 47, 48, 49, 50, 51, 52, 53, 54, 55, 56, 57, 58, 59, 60, 61, 62, 63, 64, 65, 66, 67, 68, 69, 70, 71, 72, 73, 74, 75, 76, 77, 78, 79, 80, 81, 82, 83, 84, 85, 86, 87, 88, 89, 90, 91, 92, 93, 94, 95, 96, 97, 98, 99, 100, 101, 102, 103, 104] dt dt := Fr_refl
  have hmn := MW_n hM
  have hmn2 := MW_n hM2
  refine go_toq PM267 (k := 5) (pc' := 327) (L' := [some (.inr (.inr (some 3000))), some (.inr (.inr (some 0))), some (.inr (.inr (some 79))), some (.inl i)]) (st' := [.inl (i + 1), .inr (.inr (some 3000)), .inr (.inr (some 0))]) (w' := (SH, dt)) rfl ?_
  have r1 := i32_R (xs ((i + 1).toNat))
  refine go_smpq PM267 (L' := [some (.inr (.inr (some 3000))), some (.inr (.inr (some 0))), some (.inr (.inr (some 79))), some (.inl i)]) (st' := [.inl ((xs ((i + 1).toNat)).toInt), .inr (.inr (some 0))]) (w' := (SH, dt)) rfl rfl (s_iald (n := L) (f := fun j => (xs j).toInt) (am_scr hLL) ⟨by omega, by omega⟩) ?_
  refine go_callq PM267 PM71 (Q' := _) rfl rfl rfl rfl (sp_X5_fault L xs sio (d + 38) dt hI  ((xs ((i + 1).toNat)).toInt) ⟨by omega, by omega⟩ ) ?_
  rintro _ _ ⟨rfl, h2⟩
  refine ⟨rfl, ?_⟩
  rcases h2 with ⟨v_h2, rfl, h2r, h2⟩
  refine go_toq PM267 (k := 6) (pc' := 337) (L' := [some (.inr (.inr (some 3000))), some (.inr (.inr (some 0))), some (.inr (.inr (some 79))), some (.inl i)]) (st' := [.inl (i + 1), .inr (.inr (some 3000)), .inr (.inr (some 79))]) (w' := (SH, dt)) rfl ?_
  refine go_smpq PM267 (L' := [some (.inr (.inr (some 3000))), some (.inr (.inr (some 0))), some (.inr (.inr (some 79))), some (.inl i)]) (st' := [.inl ((xs ((i + 1).toNat)).toInt), .inr (.inr (some 79))]) (w' := (SH, dt)) rfl rfl (s_iald (n := L) (f := fun j => (xs j).toInt) (am_scr hLL) ⟨by omega, by omega⟩) ?_
  refine go_callq PM267 PM176 (Q' := _) rfl rfl rfl rfl (sp_X6_fault L xs sio (d + 38) dt hI  ((xs ((i + 1).toNat)).toInt) ⟨by omega, by omega⟩ ) ?_
  rintro _ _ ⟨rfl, h3⟩
  refine ⟨rfl, ?_⟩
  rcases h3 with ⟨v_h3, rfl, h3r, h3⟩
  refine go_toq PM267 (k := 2) (pc' := 1435) (L' := [some (.inr (.inr (some 3000))), some (.inr (.inr (some 0))), some (.inr (.inr (some 79))), some (.inl i)]) (st' := []) (w' := (SH, dt)) rfl ?_
  exact K dt hI hM hM2 (by first | omega | (simp only [*]; done) | simp only [*]) (by omega) (by omega) (by omega) (by omega) (by omega) (by omega) (by omega) (by omega) (by omega) (by omega) (by omega) (by omega) (by omega) (by first | exact hI | exact RW2_k hd0 (fun _ => rfl) (fun _ _ => rfl) (by decide) (by omega) | (exfalso; omega)) (by first | exact hI | exact RW2_k hd1 (fun _ => rfl) (fun _ _ => rfl) (by decide) (by omega) | (exfalso; omega)) (by first | exact hI | exact RW2_k hd2 (fun _ => rfl) (fun _ _ => rfl) (by decide) (by omega) | (exfalso; omega)) (by first | exact hI | exact RW2_k hd3 (fun _ => rfl) (fun _ _ => rfl) (by decide) (by omega) | (exfalso; omega))
set_option maxRecDepth 20000 in
set_option maxHeartbeats 8000000 in
theorem sp_case5 (L : Nat) (xs : Nat → Int32) (sio : Option Nat) (d : Nat) (Q : Option AV → am_W → Prop) (hLL : L ≤ 3072) (i : Int) (hi : 0 ≤ i ∧ i ≤ 3066) (hil : i ≤ (L : Int) - 6) (dt : Nat → Nat → Int) (hI : InvC dt) (hM : MW (dt 80)) (hM2 : MW (dt 81)) (hk0 : dt 1 0 = dt 80 0) (hk1 : dt 7 3 = dt 80 1) (hk2 : dt 10 3 = dt 80 2) (hk3 : dt 12 3 = dt 80 3) (hk4 : dt 14 3 = dt 80 4) (hk5 : dt 16 3 = dt 80 5) (hk6 : dt 18 0 = dt 81 0) (hk7 : dt 24 3 = dt 81 1) (hk8 : dt 27 3 = dt 81 2) (hk9 : dt 29 3 = dt 81 3) (hk10 : dt 31 3 = dt 81 4) (hk11 : dt 33 3 = dt 81 5) (hk12 : dt 0 2 = dt 79 2) (hk13 : dt 35 1 = dt 79 12) (hd0 : RW2 (dt 15) (dt 80) (dt 80 4) 7340) (hd1 : RW2 (dt 32) (dt 81) (dt 81 4) 7340) (hd2 : RW2 (dt 17) (dt 80) (dt 80 5) 7420) (hd3 : RW2 (dt 34) (dt 81) (dt 81 5) 7420) (K : ∀ (dt : Nat → Nat → Int) (hI : InvC dt) (hM : MW (dt 80)) (hM2 : MW (dt 81)) (hk0 : dt 1 0 = dt 80 0) (hk1 : dt 7 3 = dt 80 1) (hk2 : dt 10 3 = dt 80 2) (hk3 : dt 12 3 = dt 80 3) (hk4 : dt 14 3 = dt 80 4) (hk5 : dt 16 3 = dt 80 5) (hk6 : dt 18 0 = dt 81 0) (hk7 : dt 24 3 = dt 81 1) (hk8 : dt 27 3 = dt 81 2) (hk9 : dt 29 3 = dt 81 3) (hk10 : dt 31 3 = dt 81 4) (hk11 : dt 33 3 = dt 81 5) (hk12 : dt 0 2 = dt 79 2) (hk13 : dt 35 1 = dt 79 12) (hd0 : RW2 (dt 15) (dt 80) (dt 80 4) 7340) (hd1 : RW2 (dt 32) (dt 81) (dt 81 4) 7340) (hd2 : RW2 (dt 17) (dt 80) (dt 80 5) 7420) (hd3 : RW2 (dt 34) (dt 81) (dt 81 5) 7420), GO (am_XX L xs sio) (d + 39) 267 1435 [some (.inr (.inr (some 3000))), some (.inr (.inr (some 0))), some (.inr (.inr (some 79))), some (.inl i)] [] (SH, dt) Q) : GO (am_XX L xs sio) (d + 39) 267 345 [some (.inr (.inr (some 3000))), some (.inr (.inr (some 0))), some (.inr (.inr (some 79))), some (.inl i)] [] (SH, dt) Q := by
  have hF : Fr [0, 1, 2, 3, 4, 5, 6, 7, 8, 9, 10, 11, 12, 13, 14, 15, 16, 17, 18, 19, 20, 21, 22, 23, 24, 25, 26, 27, 28, 29, 30, 31, 32, 33, 34, 35, 36, 37, 38, 39, 40, 41, 42, 43, 44, 45, 46, 47, 48, 49, 50, 51, 52, 53, 54, 55, 56, 57, 58, 59, 60, 61, 62, 63, 64, 65, 66, 67, 68, 69, 70, 71, 72, 73, 74, 75, 76, 77, 78, 79, 80, 81, 82, 83, 84, 85, 86, 87, 88, 89, 90, 91, 92, 93, 94, 95, 96, 97, 98, 99, 100, 101, 102, 103, 104] dt dt := Fr_refl
  have hmn := MW_n hM
  have hmn2 := MW_n hM2
  refine go_toq PM267 (k := 5) (pc' := 350) (L' := [some (.inr (.inr (some 3000))), some (.inr (.inr (some 0))), some (.inr (.inr (some 79))), some (.inl i)]) (st' := [.inl (i + 1), .inr (.inr (some 3000)), .inr (.inr (some 0))]) (w' := (SH, dt)) rfl ?_
  have r1 := i32_R (xs ((i + 1).toNat))
  refine go_smpq PM267 (L' := [some (.inr (.inr (some 3000))), some (.inr (.inr (some 0))), some (.inr (.inr (some 79))), some (.inl i)]) (st' := [.inl ((xs ((i + 1).toNat)).toInt), .inr (.inr (some 0))]) (w' := (SH, dt)) rfl rfl (s_iald (n := L) (f := fun j => (xs j).toInt) (am_scr hLL) ⟨by omega, by omega⟩) ?_
  refine go_toq PM267 (k := 4) (pc' := 355) (L' := [some (.inr (.inr (some 3000))), some (.inr (.inr (some 0))), some (.inr (.inr (some 79))), some (.inl i)]) (st' := [.inl (i + 2), .inr (.inr (some 3000)), .inl ((xs ((i + 1).toNat)).toInt), .inr (.inr (some 0))]) (w' := (SH, dt)) rfl ?_
  have r2 := i32_R (xs ((i + 2).toNat))
  refine go_smpq PM267 (L' := [some (.inr (.inr (some 3000))), some (.inr (.inr (some 0))), some (.inr (.inr (some 79))), some (.inl i)]) (st' := [.inl ((xs ((i + 2).toNat)).toInt), .inl ((xs ((i + 1).toNat)).toInt), .inr (.inr (some 0))]) (w' := (SH, dt)) rfl rfl (s_iald (n := L) (f := fun j => (xs j).toInt) (am_scr hLL) ⟨by omega, by omega⟩) ?_
  refine go_toq PM267 (k := 4) (pc' := 360) (L' := [some (.inr (.inr (some 3000))), some (.inr (.inr (some 0))), some (.inr (.inr (some 79))), some (.inl i)]) (st' := [.inl (i + 3), .inr (.inr (some 3000)), .inl ((xs ((i + 2).toNat)).toInt), .inl ((xs ((i + 1).toNat)).toInt), .inr (.inr (some 0))]) (w' := (SH, dt)) rfl ?_
  have r3 := i32_R (xs ((i + 3).toNat))
  refine go_smpq PM267 (L' := [some (.inr (.inr (some 3000))), some (.inr (.inr (some 0))), some (.inr (.inr (some 79))), some (.inl i)]) (st' := [.inl ((xs ((i + 3).toNat)).toInt), .inl ((xs ((i + 2).toNat)).toInt), .inl ((xs ((i + 1).toNat)).toInt), .inr (.inr (some 0))]) (w' := (SH, dt)) rfl rfl (s_iald (n := L) (f := fun j => (xs j).toInt) (am_scr hLL) ⟨by omega, by omega⟩) ?_
  refine go_toq PM267 (k := 4) (pc' := 365) (L' := [some (.inr (.inr (some 3000))), some (.inr (.inr (some 0))), some (.inr (.inr (some 79))), some (.inl i)]) (st' := [.inl (i + 4), .inr (.inr (some 3000)), .inl ((xs ((i + 3).toNat)).toInt), .inl ((xs ((i + 2).toNat)).toInt), .inl ((xs ((i + 1).toNat)).toInt), .inr (.inr (some 0))]) (w' := (SH, dt)) rfl ?_
  have r4 := i32_R (xs ((i + 4).toNat))
  refine go_smpq PM267 (L' := [some (.inr (.inr (some 3000))), some (.inr (.inr (some 0))), some (.inr (.inr (some 79))), some (.inl i)]) (st' := [.inl ((xs ((i + 4).toNat)).toInt), .inl ((xs ((i + 3).toNat)).toInt), .inl ((xs ((i + 2).toNat)).toInt), .inl ((xs ((i + 1).toNat)).toInt), .inr (.inr (some 0))]) (w' := (SH, dt)) rfl rfl (s_iald (n := L) (f := fun j => (xs j).toInt) (am_scr hLL) ⟨by omega, by omega⟩) ?_
  refine go_callq PM267 PM72 (Q' := _) rfl rfl rfl rfl (sp_X5_after L xs sio (d + 33) dt hI  ((xs ((i + 1).toNat)).toInt) ⟨by omega, by omega⟩ ((xs ((i + 2).toNat)).toInt) ⟨by omega, by omega⟩ ((xs ((i + 3).toNat)).toInt) ⟨by omega, by omega⟩ ((xs ((i + 4).toNat)).toInt) ⟨by omega, by omega⟩ ) ?_
  rintro _ _ ⟨dt6, rfl, hI7, hF8, h5⟩
  refine ⟨rfl, ?_⟩
  have hF9 : Fr [0, 1, 2, 3, 4, 5, 6, 7, 8, 9, 10, 11, 12, 13, 14, 15, 16, 17, 18, 19, 20, 21, 22, 23, 24, 25, 26, 27, 28, 29, 30, 31, 32, 33, 34, 35, 36, 37, 38, 39, 40, 41, 42, 43, 44, 45, 46, 47, 48, 49, 50, 51, 52, 53, 54, 55, 56, 57, 58, 59, 60, 61, 62, 63, 64, 65, 66, 67, 68, 69, 70, 71, 72, 73, 74, 75, 76, 77, 78, 79, 80, 81, 82, 83, 84, 85, 86, 87, 88, 89, 90, 91, 92, 93, 94, 95, 96, 97, 98, 99, 100, 101, 102, 103, 104] dt dt6 := Fr_tr hF hF8 (by decide)
  have hM10 : MW (dt6 80) := MW_fr hM hF8 (by decide)
  have w11 : dt6 1 0 = dt 1 0 := hF8 1 (by decide) 0
  have w12 : dt6 7 3 = dt 7 3 := hF8 7 (by decide) 3
  have w13 : dt6 10 3 = dt 10 3 := hF8 10 (by decide) 3
  have w14 : dt6 12 3 = dt 12 3 := hF8 12 (by decide) 3
  have w15 : dt6 14 3 = dt 14 3 := hF8 14 (by decide) 3
  have w16 : dt6 16 3 = dt 16 3 := hF8 16 (by decide) 3
  have w17 : dt6 18 0 = dt 18 0 := hF8 18 (by decide) 0
  have w18 : dt6 24 3 = dt 24 3 := hF8 24 (by decide) 3
  have w19 : dt6 27 3 = dt 27 3 := hF8 27 (by decide) 3
  have w20 : dt6 29 3 = dt 29 3 := hF8 29 (by decide) 3
  have w21 : dt6 31 3 = dt 31 3 := hF8 31 (by decide) 3
  have w22 : dt6 33 3 = dt 33 3 := hF8 33 (by decide) 3
  have w23 : dt6 0 2 = dt 0 2 := hF8 0 (by decide) 2
  have w24 : dt6 35 1 = dt 35 1 := hF8 35 (by decide) 1
  have w25 : dt6 80 0 = dt 80 0 := hF8 80 (by decide) 0
  have w26 : dt6 80 1 = dt 80 1 := hF8 80 (by decide) 1
  have w27 : dt6 80 2 = dt 80 2 := hF8 80 (by decide) 2
  have w28 : dt6 80 3 = dt 80 3 := hF8 80 (by decide) 3
  have w29 : dt6 80 4 = dt 80 4 := hF8 80 (by decide) 4
  have w30 : dt6 80 5 = dt 80 5 := hF8 80 (by decide) 5
  have w31 : dt6 81 0 = dt 81 0 := hF8 81 (by decide) 0
  have w32 : dt6 81 1 = dt 81 1 := hF8 81 (by decide) 1
  have w33 : dt6 81 2 = dt 81 2 := hF8 81 (by decide) 2
  have w34 : dt6 81 3 = dt 81 3 := hF8 81 (by decide) 3
  have w35 : dt6 81 4 = dt 81 4 := hF8 81 (by decide) 4
  have w36 : dt6 81 5 = dt 81 5 := hF8 81 (by decide) 5
  have w37 : dt6 79 2 = dt 79 2 := hF8 79 (by decide) 2
  have w38 : dt6 79 12 = dt 79 12 := hF8 79 (by decide) 12
  rcases h5 with ⟨v_h5, rfl, h5r, h5⟩
  have M239 : MW (dt6 81) := MW_frk hM2 hF8 (by decide)
  have C40 : ∀ j : Nat, dt6 15 j = dt 15 j := fun j => (hF8 15 (by decide) j).trans ((fun _ => rfl) j)
  have C41 : ∀ j : Nat, dt6 17 j = dt 17 j := fun j => (hF8 17 (by decide) j).trans ((fun _ => rfl) j)
  have C42 : ∀ j : Nat, dt6 32 j = dt 32 j := fun j => (hF8 32 (by decide) j).trans ((fun _ => rfl) j)
  have C43 : ∀ j : Nat, dt6 34 j = dt 34 j := fun j => (hF8 34 (by decide) j).trans ((fun _ => rfl) j)
  have F44 : ∀ j : Nat, 7340 ≤ j → dt6 81 j = dt 81 j := fun j hj => (hF8 81 (by decide) j).trans ((fun _ _ => rfl) j hj)
  have F45 : ∀ j : Nat, 7340 ≤ j → dt6 80 j = dt 80 j := fun j hj => (hF8 80 (by decide) j).trans ((fun _ _ => rfl) j hj)
  have F46 : ∀ j : Nat, dt6 80 j = dt 80 j := fun j => (hF8 80 (by decide) j).trans ((fun _ => rfl) j)
  have F47 : ∀ j : Nat, dt6 81 j = dt 81 j := fun j => (hF8 81 (by decide) j).trans ((fun _ => rfl) j)
  refine go_toq PM267 (k := 6) (pc' := 375) (L' := [some (.inr (.inr (some 3000))), some (.inr (.inr (some 0))), some (.inr (.inr (some 79))), some (.inl i)]) (st' := [.inl (i + 1), .inr (.inr (some 3000)), .inr (.inr (some 79))]) (w' := (SH, dt6)) rfl ?_
  have r48 := i32_R (xs ((i + 1).toNat))
  refine go_smpq PM267 (L' := [some (.inr (.inr (some 3000))), some (.inr (.inr (some 0))), some (.inr (.inr (some 79))), some (.inl i)]) (st' := [.inl ((xs ((i + 1).toNat)).toInt), .inr (.inr (some 79))]) (w' := (SH, dt6)) rfl rfl (s_iald (n := L) (f := fun j => (xs j).toInt) (am_scr hLL) ⟨by omega, by omega⟩) ?_
  refine go_toq PM267 (k := 4) (pc' := 380) (L' := [some (.inr (.inr (some 3000))), some (.inr (.inr (some 0))), some (.inr (.inr (some 79))), some (.inl i)]) (st' := [.inl (i + 2), .inr (.inr (some 3000)), .inl ((xs ((i + 1).toNat)).toInt), .inr (.inr (some 79))]) (w' := (SH, dt6)) rfl ?_
  have r49 := i32_R (xs ((i + 2).toNat))
  refine go_smpq PM267 (L' := [some (.inr (.inr (some 3000))), some (.inr (.inr (some 0))), some (.inr (.inr (some 79))), some (.inl i)]) (st' := [.inl ((xs ((i + 2).toNat)).toInt), .inl ((xs ((i + 1).toNat)).toInt), .inr (.inr (some 79))]) (w' := (SH, dt6)) rfl rfl (s_iald (n := L) (f := fun j => (xs j).toInt) (am_scr hLL) ⟨by omega, by omega⟩) ?_
  refine go_toq PM267 (k := 4) (pc' := 385) (L' := [some (.inr (.inr (some 3000))), some (.inr (.inr (some 0))), some (.inr (.inr (some 79))), some (.inl i)]) (st' := [.inl (i + 3), .inr (.inr (some 3000)), .inl ((xs ((i + 2).toNat)).toInt), .inl ((xs ((i + 1).toNat)).toInt), .inr (.inr (some 79))]) (w' := (SH, dt6)) rfl ?_
  have r50 := i32_R (xs ((i + 3).toNat))
  refine go_smpq PM267 (L' := [some (.inr (.inr (some 3000))), some (.inr (.inr (some 0))), some (.inr (.inr (some 79))), some (.inl i)]) (st' := [.inl ((xs ((i + 3).toNat)).toInt), .inl ((xs ((i + 2).toNat)).toInt), .inl ((xs ((i + 1).toNat)).toInt), .inr (.inr (some 79))]) (w' := (SH, dt6)) rfl rfl (s_iald (n := L) (f := fun j => (xs j).toInt) (am_scr hLL) ⟨by omega, by omega⟩) ?_
  refine go_toq PM267 (k := 4) (pc' := 390) (L' := [some (.inr (.inr (some 3000))), some (.inr (.inr (some 0))), some (.inr (.inr (some 79))), some (.inl i)]) (st' := [.inl (i + 4), .inr (.inr (some 3000)), .inl ((xs ((i + 3).toNat)).toInt), .inl ((xs ((i + 2).toNat)).toInt), .inl ((xs ((i + 1).toNat)).toInt), .inr (.inr (some 79))]) (w' := (SH, dt6)) rfl ?_
  have r51 := i32_R (xs ((i + 4).toNat))
  refine go_smpq PM267 (L' := [some (.inr (.inr (some 3000))), some (.inr (.inr (some 0))), some (.inr (.inr (some 79))), some (.inl i)]) (st' := [.inl ((xs ((i + 4).toNat)).toInt), .inl ((xs ((i + 3).toNat)).toInt), .inl ((xs ((i + 2).toNat)).toInt), .inl ((xs ((i + 1).toNat)).toInt), .inr (.inr (some 79))]) (w' := (SH, dt6)) rfl rfl (s_iald (n := L) (f := fun j => (xs j).toInt) (am_scr hLL) ⟨by omega, by omega⟩) ?_
  refine go_callq PM267 PM188 (Q' := _) rfl rfl rfl rfl (sp_X6_after L xs sio (d + 33) dt6 hI7 hM10  ((xs ((i + 1).toNat)).toInt) ⟨by omega, by omega⟩ ((xs ((i + 2).toNat)).toInt) ⟨by omega, by omega⟩ ((xs ((i + 3).toNat)).toInt) ⟨by omega, by omega⟩ ((xs ((i + 4).toNat)).toInt) ⟨by omega, by omega⟩ ) ?_
  rintro _ _ ⟨dt53, rfl, hI54, hF55, h52⟩
  refine ⟨rfl, ?_⟩
  have hF56 : Fr [0, 1, 2, 3, 4, 5, 6, 7, 8, 9, 10, 11, 12, 13, 14, 15, 16, 17, 18, 19, 20, 21, 22, 23, 24, 25, 26, 27, 28, 29, 30, 31, 32, 33, 34, 35, 36, 37, 38, 39, 40, 41, 42, 43, 44, 45, 46, 47, 48, 49, 50, 51, 52, 53, 54, 55, 56, 57, 58, 59, 60, 61, 62, 63, 64, 65, 66, 67, 68, 69, 70, 71, 72, 73, 74, 75, 76, 77, 78, 79, 80, 81, 82, 83, 84, 85, 86, 87, 88, 89, 90, 91, 92, 93, 94, 95, 96, 97, 98, 99, 100, 101, 102, 103, 104] dt dt53 := Fr_tr hF9 hF55 (by decide)
  have hM57 : MW (dt53 80) := MW_fr hM10 hF55 (by decide)
  have w58 : dt53 1 0 = dt6 1 0 := hF55 1 (by decide) 0
  have w59 : dt53 7 3 = dt6 7 3 := hF55 7 (by decide) 3
  have w60 : dt53 10 3 = dt6 10 3 := hF55 10 (by decide) 3
  have w61 : dt53 12 3 = dt6 12 3 := hF55 12 (by decide) 3
  have w62 : dt53 14 3 = dt6 14 3 := hF55 14 (by decide) 3
  have w63 : dt53 16 3 = dt6 16 3 := hF55 16 (by decide) 3
  have w64 : dt53 18 0 = dt6 18 0 := hF55 18 (by decide) 0
  have w65 : dt53 24 3 = dt6 24 3 := hF55 24 (by decide) 3
  have w66 : dt53 27 3 = dt6 27 3 := hF55 27 (by decide) 3
  have w67 : dt53 29 3 = dt6 29 3 := hF55 29 (by decide) 3
  have w68 : dt53 31 3 = dt6 31 3 := hF55 31 (by decide) 3
  have w69 : dt53 33 3 = dt6 33 3 := hF55 33 (by decide) 3
  have w70 : dt53 0 2 = dt6 0 2 := hF55 0 (by decide) 2
  have w71 : dt53 35 1 = dt6 35 1 := hF55 35 (by decide) 1
  have w72 : dt53 80 0 = dt6 80 0 := hF55 80 (by decide) 0
  have w73 : dt53 80 1 = dt6 80 1 := hF55 80 (by decide) 1
  have w74 : dt53 80 2 = dt6 80 2 := hF55 80 (by decide) 2
  have w75 : dt53 80 3 = dt6 80 3 := hF55 80 (by decide) 3
  have w76 : dt53 80 4 = dt6 80 4 := hF55 80 (by decide) 4
  have w77 : dt53 80 5 = dt6 80 5 := hF55 80 (by decide) 5
  have w78 : dt53 81 0 = dt6 81 0 := hF55 81 (by decide) 0
  have w79 : dt53 81 1 = dt6 81 1 := hF55 81 (by decide) 1
  have w80 : dt53 81 2 = dt6 81 2 := hF55 81 (by decide) 2
  have w81 : dt53 81 3 = dt6 81 3 := hF55 81 (by decide) 3
  have w82 : dt53 81 4 = dt6 81 4 := hF55 81 (by decide) 4
  have w83 : dt53 81 5 = dt6 81 5 := hF55 81 (by decide) 5
  have w84 : dt53 79 2 = dt6 79 2 := hF55 79 (by decide) 2
  have w85 : dt53 79 12 = dt6 79 12 := hF55 79 (by decide) 12
  rcases h52 with ⟨v_h52, rfl, h52r, h52⟩
  have M286 : MW (dt53 81) := MW_frk M239 hF55 (by decide)
  have C87 : ∀ j : Nat, dt53 15 j = dt 15 j := fun j => (hF55 15 (by decide) j).trans (C40 j)
  have C88 : ∀ j : Nat, dt53 17 j = dt 17 j := fun j => (hF55 17 (by decide) j).trans (C41 j)
  have C89 : ∀ j : Nat, dt53 32 j = dt 32 j := fun j => (hF55 32 (by decide) j).trans (C42 j)
  have C90 : ∀ j : Nat, dt53 34 j = dt 34 j := fun j => (hF55 34 (by decide) j).trans (C43 j)
  have F91 : ∀ j : Nat, 7340 ≤ j → dt53 81 j = dt 81 j := fun j hj => (hF55 81 (by decide) j).trans (F44 j hj)
  have F92 : ∀ j : Nat, 7340 ≤ j → dt53 80 j = dt 80 j := fun j hj => (hF55 80 (by decide) j).trans (F45 j hj)
  have F93 : ∀ j : Nat, dt53 80 j = dt 80 j := fun j => (hF55 80 (by decide) j).trans (F46 j)
  have F94 : ∀ j : Nat, dt53 81 j = dt 81 j := fun j => (hF55 81 (by decide) j).trans (F47 j)
  refine go_toq PM267 (k := 2) (pc' := 1435) (L' := [some (.inr (.inr (some 3000))), some (.inr (.inr (some 0))), some (.inr (.inr (some 79))), some (.inl i)]) (st' := []) (w' := (SH, dt53)) rfl ?_
  exact K dt53 hI54 hM57 M286 (by first | omega | (simp only [*]; done) | simp only [*]) (by omega) (by omega) (by omega) (by omega) (by omega) (by omega) (by omega) (by omega) (by omega) (by omega) (by omega) (by omega) (by omega) (by first | exact hI | exact RW2_k hd0 C87 F92 (by decide) (by omega) | (exfalso; omega)) (by first | exact hI | exact RW2_k hd1 C89 F91 (by decide) (by omega) | (exfalso; omega)) (by first | exact hI | exact RW2_k hd2 C88 F92 (by decide) (by omega) | (exfalso; omega)) (by first | exact hI | exact RW2_k hd3 C90 F91 (by decide) (by omega) | (exfalso; omega))
set_option maxRecDepth 20000 in
set_option maxHeartbeats 8000000 in
theorem sp_case6 (L : Nat) (xs : Nat → Int32) (sio : Option Nat) (d : Nat) (Q : Option AV → am_W → Prop) (hLL : L ≤ 3072) (i : Int) (hi : 0 ≤ i ∧ i ≤ 3066) (hil : i ≤ (L : Int) - 6) (dt : Nat → Nat → Int) (hI : InvC dt) (hM : MW (dt 80)) (hM2 : MW (dt 81)) (hk0 : dt 1 0 = dt 80 0) (hk1 : dt 7 3 = dt 80 1) (hk2 : dt 10 3 = dt 80 2) (hk3 : dt 12 3 = dt 80 3) (hk4 : dt 14 3 = dt 80 4) (hk5 : dt 16 3 = dt 80 5) (hk6 : dt 18 0 = dt 81 0) (hk7 : dt 24 3 = dt 81 1) (hk8 : dt 27 3 = dt 81 2) (hk9 : dt 29 3 = dt 81 3) (hk10 : dt 31 3 = dt 81 4) (hk11 : dt 33 3 = dt 81 5) (hk12 : dt 0 2 = dt 79 2) (hk13 : dt 35 1 = dt 79 12) (hd0 : RW2 (dt 15) (dt 80) (dt 80 4) 7340) (hd1 : RW2 (dt 32) (dt 81) (dt 81 4) 7340) (hd2 : RW2 (dt 17) (dt 80) (dt 80 5) 7420) (hd3 : RW2 (dt 34) (dt 81) (dt 81 5) 7420) (K : ∀ (dt : Nat → Nat → Int) (hI : InvC dt) (hM : MW (dt 80)) (hM2 : MW (dt 81)) (hk0 : dt 1 0 = dt 80 0) (hk1 : dt 7 3 = dt 80 1) (hk2 : dt 10 3 = dt 80 2) (hk3 : dt 12 3 = dt 80 3) (hk4 : dt 14 3 = dt 80 4) (hk5 : dt 16 3 = dt 80 5) (hk6 : dt 18 0 = dt 81 0) (hk7 : dt 24 3 = dt 81 1) (hk8 : dt 27 3 = dt 81 2) (hk9 : dt 29 3 = dt 81 3) (hk10 : dt 31 3 = dt 81 4) (hk11 : dt 33 3 = dt 81 5) (hk12 : dt 0 2 = dt 79 2) (hk13 : dt 35 1 = dt 79 12) (hd0 : RW2 (dt 15) (dt 80) (dt 80 4) 7340) (hd1 : RW2 (dt 32) (dt 81) (dt 81 4) 7340) (hd2 : RW2 (dt 17) (dt 80) (dt 80 5) 7420) (hd3 : RW2 (dt 34) (dt 81) (dt 81 5) 7420), GO (am_XX L xs sio) (d + 39) 267 1435 [some (.inr (.inr (some 3000))), some (.inr (.inr (some 0))), some (.inr (.inr (some 79))), some (.inl i)] [] (SH, dt) Q) : GO (am_XX L xs sio) (d + 39) 267 398 [some (.inr (.inr (some 3000))), some (.inr (.inr (some 0))), some (.inr (.inr (some 79))), some (.inl i)] [] (SH, dt) Q := by
  have hF : Fr [0, 1, 2, 3, 4, 5, 6, 7, 8, 9, 10, 11, 12, 13, 14, 15, 16, 17, 18, 19, 20, 21, 22, 23, 24, 25, 26, 27, 28, 29, 30, 31, 32, 33, 34, 35, 36, 37, 38, 39, 40, 41, 42, 43, 44, 45, 46, 47, 48, 49, 50, 51, 52, 53, 54, 55, 56, 57, 58, 59, 60, 61, 62, 63, 64, 65, 66, 67, 68, 69, 70, 71, 72, 73, 74, 75, 76, 77, 78, 79, 80, 81, 82, 83, 84, 85, 86, 87, 88, 89, 90, 91, 92, 93, 94, 95, 96, 97, 98, 99, 100, 101, 102, 103, 104] dt dt := Fr_refl
  have hmn := MW_n hM
  have hmn2 := MW_n hM2
  refine go_toq PM267 (k := 5) (pc' := 403) (L' := [some (.inr (.inr (some 3000))), some (.inr (.inr (some 0))), some (.inr (.inr (some 79))), some (.inl i)]) (st' := [.inl (i + 1), .inr (.inr (some 3000)), .inr (.inr (some 0))]) (w' := (SH, dt)) rfl ?_
  have r1 := i32_R (xs ((i + 1).toNat))
  refine go_smpq PM267 (L' := [some (.inr (.inr (some 3000))), some (.inr (.inr (some 0))), some (.inr (.inr (some 79))), some (.inl i)]) (st' := [.inl ((xs ((i + 1).toNat)).toInt), .inr (.inr (some 0))]) (w' := (SH, dt)) rfl rfl (s_iald (n := L) (f := fun j => (xs j).toInt) (am_scr hLL) ⟨by omega, by omega⟩) ?_
  refine go_toq PM267 (k := 4) (pc' := 408) (L' := [some (.inr (.inr (some 3000))), some (.inr (.inr (some 0))), some (.inr (.inr (some 79))), some (.inl i)]) (st' := [.inl (i + 2), .inr (.inr (some 3000)), .inl ((xs ((i + 1).toNat)).toInt), .inr (.inr (some 0))]) (w' := (SH, dt)) rfl ?_
  have r2 := i32_R (xs ((i + 2).toNat))
  refine go_smpq PM267 (L' := [some (.inr (.inr (some 3000))), some (.inr (.inr (some 0))), some (.inr (.inr (some 79))), some (.inl i)]) (st' := [.inl ((xs ((i + 2).toNat)).toInt), .inl ((xs ((i + 1).toNat)).toInt), .inr (.inr (some 0))]) (w' := (SH, dt)) rfl rfl (s_iald (n := L) (f := fun j => (xs j).toInt) (am_scr hLL) ⟨by omega, by omega⟩) ?_
  refine go_toq PM267 (k := 4) (pc' := 413) (L' := [some (.inr (.inr (some 3000))), some (.inr (.inr (some 0))), some (.inr (.inr (some 79))), some (.inl i)]) (st' := [.inl (i + 3), .inr (.inr (some 3000)), .inl ((xs ((i + 2).toNat)).toInt), .inl ((xs ((i + 1).toNat)).toInt), .inr (.inr (some 0))]) (w' := (SH, dt)) rfl ?_
  have r3 := i32_R (xs ((i + 3).toNat))
  refine go_smpq PM267 (L' := [some (.inr (.inr (some 3000))), some (.inr (.inr (some 0))), some (.inr (.inr (some 79))), some (.inl i)]) (st' := [.inl ((xs ((i + 3).toNat)).toInt), .inl ((xs ((i + 2).toNat)).toInt), .inl ((xs ((i + 1).toNat)).toInt), .inr (.inr (some 0))]) (w' := (SH, dt)) rfl rfl (s_iald (n := L) (f := fun j => (xs j).toInt) (am_scr hLL) ⟨by omega, by omega⟩) ?_
  refine go_toq PM267 (k := 4) (pc' := 418) (L' := [some (.inr (.inr (some 3000))), some (.inr (.inr (some 0))), some (.inr (.inr (some 79))), some (.inl i)]) (st' := [.inl (i + 4), .inr (.inr (some 3000)), .inl ((xs ((i + 3).toNat)).toInt), .inl ((xs ((i + 2).toNat)).toInt), .inl ((xs ((i + 1).toNat)).toInt), .inr (.inr (some 0))]) (w' := (SH, dt)) rfl ?_
  have r4 := i32_R (xs ((i + 4).toNat))
  refine go_smpq PM267 (L' := [some (.inr (.inr (some 3000))), some (.inr (.inr (some 0))), some (.inr (.inr (some 79))), some (.inl i)]) (st' := [.inl ((xs ((i + 4).toNat)).toInt), .inl ((xs ((i + 3).toNat)).toInt), .inl ((xs ((i + 2).toNat)).toInt), .inl ((xs ((i + 1).toNat)).toInt), .inr (.inr (some 0))]) (w' := (SH, dt)) rfl rfl (s_iald (n := L) (f := fun j => (xs j).toInt) (am_scr hLL) ⟨by omega, by omega⟩) ?_
  refine go_callq PM267 PM73 (Q' := _) rfl rfl rfl rfl (sp_X5_thinks L xs sio (d + 33) dt hI  ((xs ((i + 1).toNat)).toInt) ⟨by omega, by omega⟩ ((xs ((i + 2).toNat)).toInt) ⟨by omega, by omega⟩ ((xs ((i + 3).toNat)).toInt) ⟨by omega, by omega⟩ ((xs ((i + 4).toNat)).toInt) ⟨by omega, by omega⟩ ) ?_
  rintro _ _ ⟨dt6, rfl, hI7, hF8, h5⟩
  refine ⟨rfl, ?_⟩
  have hF9 : Fr [0, 1, 2, 3, 4, 5, 6, 7, 8, 9, 10, 11, 12, 13, 14, 15, 16, 17, 18, 19, 20, 21, 22, 23, 24, 25, 26, 27, 28, 29, 30, 31, 32, 33, 34, 35, 36, 37, 38, 39, 40, 41, 42, 43, 44, 45, 46, 47, 48, 49, 50, 51, 52, 53, 54, 55, 56, 57, 58, 59, 60, 61, 62, 63, 64, 65, 66, 67, 68, 69, 70, 71, 72, 73, 74, 75, 76, 77, 78, 79, 80, 81, 82, 83, 84, 85, 86, 87, 88, 89, 90, 91, 92, 93, 94, 95, 96, 97, 98, 99, 100, 101, 102, 103, 104] dt dt6 := Fr_tr hF hF8 (by decide)
  have hM10 : MW (dt6 80) := MW_fr hM hF8 (by decide)
  have w11 : dt6 1 0 = dt 1 0 := hF8 1 (by decide) 0
  have w12 : dt6 7 3 = dt 7 3 := hF8 7 (by decide) 3
  have w13 : dt6 10 3 = dt 10 3 := hF8 10 (by decide) 3
  have w14 : dt6 12 3 = dt 12 3 := hF8 12 (by decide) 3
  have w15 : dt6 14 3 = dt 14 3 := hF8 14 (by decide) 3
  have w16 : dt6 16 3 = dt 16 3 := hF8 16 (by decide) 3
  have w17 : dt6 18 0 = dt 18 0 := hF8 18 (by decide) 0
  have w18 : dt6 24 3 = dt 24 3 := hF8 24 (by decide) 3
  have w19 : dt6 27 3 = dt 27 3 := hF8 27 (by decide) 3
  have w20 : dt6 29 3 = dt 29 3 := hF8 29 (by decide) 3
  have w21 : dt6 31 3 = dt 31 3 := hF8 31 (by decide) 3
  have w22 : dt6 33 3 = dt 33 3 := hF8 33 (by decide) 3
  have w23 : dt6 0 2 = dt 0 2 := hF8 0 (by decide) 2
  have w24 : dt6 35 1 = dt 35 1 := hF8 35 (by decide) 1
  have w25 : dt6 80 0 = dt 80 0 := hF8 80 (by decide) 0
  have w26 : dt6 80 1 = dt 80 1 := hF8 80 (by decide) 1
  have w27 : dt6 80 2 = dt 80 2 := hF8 80 (by decide) 2
  have w28 : dt6 80 3 = dt 80 3 := hF8 80 (by decide) 3
  have w29 : dt6 80 4 = dt 80 4 := hF8 80 (by decide) 4
  have w30 : dt6 80 5 = dt 80 5 := hF8 80 (by decide) 5
  have w31 : dt6 81 0 = dt 81 0 := hF8 81 (by decide) 0
  have w32 : dt6 81 1 = dt 81 1 := hF8 81 (by decide) 1
  have w33 : dt6 81 2 = dt 81 2 := hF8 81 (by decide) 2
  have w34 : dt6 81 3 = dt 81 3 := hF8 81 (by decide) 3
  have w35 : dt6 81 4 = dt 81 4 := hF8 81 (by decide) 4
  have w36 : dt6 81 5 = dt 81 5 := hF8 81 (by decide) 5
  have w37 : dt6 79 2 = dt 79 2 := hF8 79 (by decide) 2
  have w38 : dt6 79 12 = dt 79 12 := hF8 79 (by decide) 12
  rcases h5 with ⟨v_h5, rfl, h5r, h5⟩
  have M239 : MW (dt6 81) := MW_frk hM2 hF8 (by decide)
  have C40 : ∀ j : Nat, dt6 15 j = dt 15 j := fun j => (hF8 15 (by decide) j).trans ((fun _ => rfl) j)
  have C41 : ∀ j : Nat, dt6 17 j = dt 17 j := fun j => (hF8 17 (by decide) j).trans ((fun _ => rfl) j)
  have C42 : ∀ j : Nat, dt6 32 j = dt 32 j := fun j => (hF8 32 (by decide) j).trans ((fun _ => rfl) j)
  have C43 : ∀ j : Nat, dt6 34 j = dt 34 j := fun j => (hF8 34 (by decide) j).trans ((fun _ => rfl) j)
  have F44 : ∀ j : Nat, 7340 ≤ j → dt6 81 j = dt 81 j := fun j hj => (hF8 81 (by decide) j).trans ((fun _ _ => rfl) j hj)
  have F45 : ∀ j : Nat, 7340 ≤ j → dt6 80 j = dt 80 j := fun j hj => (hF8 80 (by decide) j).trans ((fun _ _ => rfl) j hj)
  have F46 : ∀ j : Nat, dt6 80 j = dt 80 j := fun j => (hF8 80 (by decide) j).trans ((fun _ => rfl) j)
  have F47 : ∀ j : Nat, dt6 81 j = dt 81 j := fun j => (hF8 81 (by decide) j).trans ((fun _ => rfl) j)
  refine go_toq PM267 (k := 6) (pc' := 428) (L' := [some (.inr (.inr (some 3000))), some (.inr (.inr (some 0))), some (.inr (.inr (some 79))), some (.inl i)]) (st' := [.inl (i + 1), .inr (.inr (some 3000)), .inr (.inr (some 79))]) (w' := (SH, dt6)) rfl ?_
  have r48 := i32_R (xs ((i + 1).toNat))
  refine go_smpq PM267 (L' := [some (.inr (.inr (some 3000))), some (.inr (.inr (some 0))), some (.inr (.inr (some 79))), some (.inl i)]) (st' := [.inl ((xs ((i + 1).toNat)).toInt), .inr (.inr (some 79))]) (w' := (SH, dt6)) rfl rfl (s_iald (n := L) (f := fun j => (xs j).toInt) (am_scr hLL) ⟨by omega, by omega⟩) ?_
  refine go_toq PM267 (k := 4) (pc' := 433) (L' := [some (.inr (.inr (some 3000))), some (.inr (.inr (some 0))), some (.inr (.inr (some 79))), some (.inl i)]) (st' := [.inl (i + 2), .inr (.inr (some 3000)), .inl ((xs ((i + 1).toNat)).toInt), .inr (.inr (some 79))]) (w' := (SH, dt6)) rfl ?_
  have r49 := i32_R (xs ((i + 2).toNat))
  refine go_smpq PM267 (L' := [some (.inr (.inr (some 3000))), some (.inr (.inr (some 0))), some (.inr (.inr (some 79))), some (.inl i)]) (st' := [.inl ((xs ((i + 2).toNat)).toInt), .inl ((xs ((i + 1).toNat)).toInt), .inr (.inr (some 79))]) (w' := (SH, dt6)) rfl rfl (s_iald (n := L) (f := fun j => (xs j).toInt) (am_scr hLL) ⟨by omega, by omega⟩) ?_
  refine go_toq PM267 (k := 4) (pc' := 438) (L' := [some (.inr (.inr (some 3000))), some (.inr (.inr (some 0))), some (.inr (.inr (some 79))), some (.inl i)]) (st' := [.inl (i + 3), .inr (.inr (some 3000)), .inl ((xs ((i + 2).toNat)).toInt), .inl ((xs ((i + 1).toNat)).toInt), .inr (.inr (some 79))]) (w' := (SH, dt6)) rfl ?_
  have r50 := i32_R (xs ((i + 3).toNat))
  refine go_smpq PM267 (L' := [some (.inr (.inr (some 3000))), some (.inr (.inr (some 0))), some (.inr (.inr (some 79))), some (.inl i)]) (st' := [.inl ((xs ((i + 3).toNat)).toInt), .inl ((xs ((i + 2).toNat)).toInt), .inl ((xs ((i + 1).toNat)).toInt), .inr (.inr (some 79))]) (w' := (SH, dt6)) rfl rfl (s_iald (n := L) (f := fun j => (xs j).toInt) (am_scr hLL) ⟨by omega, by omega⟩) ?_
  refine go_toq PM267 (k := 4) (pc' := 443) (L' := [some (.inr (.inr (some 3000))), some (.inr (.inr (some 0))), some (.inr (.inr (some 79))), some (.inl i)]) (st' := [.inl (i + 4), .inr (.inr (some 3000)), .inl ((xs ((i + 3).toNat)).toInt), .inl ((xs ((i + 2).toNat)).toInt), .inl ((xs ((i + 1).toNat)).toInt), .inr (.inr (some 79))]) (w' := (SH, dt6)) rfl ?_
  have r51 := i32_R (xs ((i + 4).toNat))
  refine go_smpq PM267 (L' := [some (.inr (.inr (some 3000))), some (.inr (.inr (some 0))), some (.inr (.inr (some 79))), some (.inl i)]) (st' := [.inl ((xs ((i + 4).toNat)).toInt), .inl ((xs ((i + 3).toNat)).toInt), .inl ((xs ((i + 2).toNat)).toInt), .inl ((xs ((i + 1).toNat)).toInt), .inr (.inr (some 79))]) (w' := (SH, dt6)) rfl rfl (s_iald (n := L) (f := fun j => (xs j).toInt) (am_scr hLL) ⟨by omega, by omega⟩) ?_
  refine go_callq PM267 PM189 (Q' := _) rfl rfl rfl rfl (sp_X6_thinks L xs sio (d + 33) dt6 hI7 hM10  ((xs ((i + 1).toNat)).toInt) ⟨by omega, by omega⟩ ((xs ((i + 2).toNat)).toInt) ⟨by omega, by omega⟩ ((xs ((i + 3).toNat)).toInt) ⟨by omega, by omega⟩ ((xs ((i + 4).toNat)).toInt) ⟨by omega, by omega⟩ ) ?_
  rintro _ _ ⟨dt53, rfl, hI54, hF55, h52⟩
  refine ⟨rfl, ?_⟩
  have hF56 : Fr [0, 1, 2, 3, 4, 5, 6, 7, 8, 9, 10, 11, 12, 13, 14, 15, 16, 17, 18, 19, 20, 21, 22, 23, 24, 25, 26, 27, 28, 29, 30, 31, 32, 33, 34, 35, 36, 37, 38, 39, 40, 41, 42, 43, 44, 45, 46, 47, 48, 49, 50, 51, 52, 53, 54, 55, 56, 57, 58, 59, 60, 61, 62, 63, 64, 65, 66, 67, 68, 69, 70, 71, 72, 73, 74, 75, 76, 77, 78, 79, 80, 81, 82, 83, 84, 85, 86, 87, 88, 89, 90, 91, 92, 93, 94, 95, 96, 97, 98, 99, 100, 101, 102, 103, 104] dt dt53 := Fr_tr hF9 hF55 (by decide)
  have hM57 : MW (dt53 80) := MW_fr hM10 hF55 (by decide)
  have w58 : dt53 1 0 = dt6 1 0 := hF55 1 (by decide) 0
  have w59 : dt53 7 3 = dt6 7 3 := hF55 7 (by decide) 3
  have w60 : dt53 10 3 = dt6 10 3 := hF55 10 (by decide) 3
  have w61 : dt53 12 3 = dt6 12 3 := hF55 12 (by decide) 3
  have w62 : dt53 14 3 = dt6 14 3 := hF55 14 (by decide) 3
  have w63 : dt53 16 3 = dt6 16 3 := hF55 16 (by decide) 3
  have w64 : dt53 18 0 = dt6 18 0 := hF55 18 (by decide) 0
  have w65 : dt53 24 3 = dt6 24 3 := hF55 24 (by decide) 3
  have w66 : dt53 27 3 = dt6 27 3 := hF55 27 (by decide) 3
  have w67 : dt53 29 3 = dt6 29 3 := hF55 29 (by decide) 3
  have w68 : dt53 31 3 = dt6 31 3 := hF55 31 (by decide) 3
  have w69 : dt53 33 3 = dt6 33 3 := hF55 33 (by decide) 3
  have w70 : dt53 0 2 = dt6 0 2 := hF55 0 (by decide) 2
  have w71 : dt53 35 1 = dt6 35 1 := hF55 35 (by decide) 1
  have w72 : dt53 80 0 = dt6 80 0 := hF55 80 (by decide) 0
  have w73 : dt53 80 1 = dt6 80 1 := hF55 80 (by decide) 1
  have w74 : dt53 80 2 = dt6 80 2 := hF55 80 (by decide) 2
  have w75 : dt53 80 3 = dt6 80 3 := hF55 80 (by decide) 3
  have w76 : dt53 80 4 = dt6 80 4 := hF55 80 (by decide) 4
  have w77 : dt53 80 5 = dt6 80 5 := hF55 80 (by decide) 5
  have w78 : dt53 81 0 = dt6 81 0 := hF55 81 (by decide) 0
  have w79 : dt53 81 1 = dt6 81 1 := hF55 81 (by decide) 1
  have w80 : dt53 81 2 = dt6 81 2 := hF55 81 (by decide) 2
  have w81 : dt53 81 3 = dt6 81 3 := hF55 81 (by decide) 3
  have w82 : dt53 81 4 = dt6 81 4 := hF55 81 (by decide) 4
  have w83 : dt53 81 5 = dt6 81 5 := hF55 81 (by decide) 5
  have w84 : dt53 79 2 = dt6 79 2 := hF55 79 (by decide) 2
  have w85 : dt53 79 12 = dt6 79 12 := hF55 79 (by decide) 12
  rcases h52 with ⟨v_h52, rfl, h52r, h52⟩
  have M286 : MW (dt53 81) := MW_frk M239 hF55 (by decide)
  have C87 : ∀ j : Nat, dt53 15 j = dt 15 j := fun j => (hF55 15 (by decide) j).trans (C40 j)
  have C88 : ∀ j : Nat, dt53 17 j = dt 17 j := fun j => (hF55 17 (by decide) j).trans (C41 j)
  have C89 : ∀ j : Nat, dt53 32 j = dt 32 j := fun j => (hF55 32 (by decide) j).trans (C42 j)
  have C90 : ∀ j : Nat, dt53 34 j = dt 34 j := fun j => (hF55 34 (by decide) j).trans (C43 j)
  have F91 : ∀ j : Nat, 7340 ≤ j → dt53 81 j = dt 81 j := fun j hj => (hF55 81 (by decide) j).trans (F44 j hj)
  have F92 : ∀ j : Nat, 7340 ≤ j → dt53 80 j = dt 80 j := fun j hj => (hF55 80 (by decide) j).trans (F45 j hj)
  have F93 : ∀ j : Nat, dt53 80 j = dt 80 j := fun j => (hF55 80 (by decide) j).trans (F46 j)
  have F94 : ∀ j : Nat, dt53 81 j = dt 81 j := fun j => (hF55 81 (by decide) j).trans (F47 j)
  refine go_toq PM267 (k := 2) (pc' := 1435) (L' := [some (.inr (.inr (some 3000))), some (.inr (.inr (some 0))), some (.inr (.inr (some 79))), some (.inl i)]) (st' := []) (w' := (SH, dt53)) rfl ?_
  exact K dt53 hI54 hM57 M286 (by first | omega | (simp only [*]; done) | simp only [*]) (by omega) (by omega) (by omega) (by omega) (by omega) (by omega) (by omega) (by omega) (by omega) (by omega) (by omega) (by omega) (by omega) (by first | exact hI | exact RW2_k hd0 C87 F92 (by decide) (by omega) | (exfalso; omega)) (by first | exact hI | exact RW2_k hd1 C89 F91 (by decide) (by omega) | (exfalso; omega)) (by first | exact hI | exact RW2_k hd2 C88 F92 (by decide) (by omega) | (exfalso; omega)) (by first | exact hI | exact RW2_k hd3 C90 F91 (by decide) (by omega) | (exfalso; omega))
set_option maxRecDepth 20000 in
set_option maxHeartbeats 8000000 in
theorem sp_case7 (L : Nat) (xs : Nat → Int32) (sio : Option Nat) (d : Nat) (Q : Option AV → am_W → Prop) (hLL : L ≤ 3072) (i : Int) (hi : 0 ≤ i ∧ i ≤ 3066) (hil : i ≤ (L : Int) - 6) (dt : Nat → Nat → Int) (hI : InvC dt) (hM : MW (dt 80)) (hM2 : MW (dt 81)) (hk0 : dt 1 0 = dt 80 0) (hk1 : dt 7 3 = dt 80 1) (hk2 : dt 10 3 = dt 80 2) (hk3 : dt 12 3 = dt 80 3) (hk4 : dt 14 3 = dt 80 4) (hk5 : dt 16 3 = dt 80 5) (hk6 : dt 18 0 = dt 81 0) (hk7 : dt 24 3 = dt 81 1) (hk8 : dt 27 3 = dt 81 2) (hk9 : dt 29 3 = dt 81 3) (hk10 : dt 31 3 = dt 81 4) (hk11 : dt 33 3 = dt 81 5) (hk12 : dt 0 2 = dt 79 2) (hk13 : dt 35 1 = dt 79 12) (hd0 : RW2 (dt 15) (dt 80) (dt 80 4) 7340) (hd1 : RW2 (dt 32) (dt 81) (dt 81 4) 7340) (hd2 : RW2 (dt 17) (dt 80) (dt 80 5) 7420) (hd3 : RW2 (dt 34) (dt 81) (dt 81 5) 7420) (K : ∀ (dt : Nat → Nat → Int) (hI : InvC dt) (hM : MW (dt 80)) (hM2 : MW (dt 81)) (hk0 : dt 1 0 = dt 80 0) (hk1 : dt 7 3 = dt 80 1) (hk2 : dt 10 3 = dt 80 2) (hk3 : dt 12 3 = dt 80 3) (hk4 : dt 14 3 = dt 80 4) (hk5 : dt 16 3 = dt 80 5) (hk6 : dt 18 0 = dt 81 0) (hk7 : dt 24 3 = dt 81 1) (hk8 : dt 27 3 = dt 81 2) (hk9 : dt 29 3 = dt 81 3) (hk10 : dt 31 3 = dt 81 4) (hk11 : dt 33 3 = dt 81 5) (hk12 : dt 0 2 = dt 79 2) (hk13 : dt 35 1 = dt 79 12) (hd0 : RW2 (dt 15) (dt 80) (dt 80 4) 7340) (hd1 : RW2 (dt 32) (dt 81) (dt 81 4) 7340) (hd2 : RW2 (dt 17) (dt 80) (dt 80 5) 7420) (hd3 : RW2 (dt 34) (dt 81) (dt 81 5) 7420), GO (am_XX L xs sio) (d + 39) 267 1435 [some (.inr (.inr (some 3000))), some (.inr (.inr (some 0))), some (.inr (.inr (some 79))), some (.inl i)] [] (SH, dt) Q) : GO (am_XX L xs sio) (d + 39) 267 451 [some (.inr (.inr (some 3000))), some (.inr (.inr (some 0))), some (.inr (.inr (some 79))), some (.inl i)] [] (SH, dt) Q := by
  have hF : Fr [0, 1, 2, 3, 4, 5, 6, 7, 8, 9, 10, 11, 12, 13, 14, 15, 16, 17, 18, 19, 20, 21, 22, 23, 24, 25, 26, 27, 28, 29, 30, 31, 32, 33, 34, 35, 36, 37, 38, 39, 40, 41, 42, 43, 44, 45, 46, 47, 48, 49, 50, 51, 52, 53, 54, 55, 56, 57, 58, 59, 60, 61, 62, 63, 64, 65, 66, 67, 68, 69, 70, 71, 72, 73, 74, 75, 76, 77, 78, 79, 80, 81, 82, 83, 84, 85, 86, 87, 88, 89, 90, 91, 92, 93, 94, 95, 96, 97, 98, 99, 100, 101, 102, 103, 104] dt dt := Fr_refl
  have hmn := MW_n hM
  have hmn2 := MW_n hM2
  refine go_toq PM267 (k := 5) (pc' := 456) (L' := [some (.inr (.inr (some 3000))), some (.inr (.inr (some 0))), some (.inr (.inr (some 79))), some (.inl i)]) (st' := [.inl (i + 1), .inr (.inr (some 3000)), .inr (.inr (some 0))]) (w' := (SH, dt)) rfl ?_
  have r1 := i32_R (xs ((i + 1).toNat))
  refine go_smpq PM267 (L' := [some (.inr (.inr (some 3000))), some (.inr (.inr (some 0))), some (.inr (.inr (some 79))), some (.inl i)]) (st' := [.inl ((xs ((i + 1).toNat)).toInt), .inr (.inr (some 0))]) (w' := (SH, dt)) rfl rfl (s_iald (n := L) (f := fun j => (xs j).toInt) (am_scr hLL) ⟨by omega, by omega⟩) ?_
  refine go_toq PM267 (k := 4) (pc' := 461) (L' := [some (.inr (.inr (some 3000))), some (.inr (.inr (some 0))), some (.inr (.inr (some 79))), some (.inl i)]) (st' := [.inl (i + 2), .inr (.inr (some 3000)), .inl ((xs ((i + 1).toNat)).toInt), .inr (.inr (some 0))]) (w' := (SH, dt)) rfl ?_
  have r2 := i32_R (xs ((i + 2).toNat))
  refine go_smpq PM267 (L' := [some (.inr (.inr (some 3000))), some (.inr (.inr (some 0))), some (.inr (.inr (some 79))), some (.inl i)]) (st' := [.inl ((xs ((i + 2).toNat)).toInt), .inl ((xs ((i + 1).toNat)).toInt), .inr (.inr (some 0))]) (w' := (SH, dt)) rfl rfl (s_iald (n := L) (f := fun j => (xs j).toInt) (am_scr hLL) ⟨by omega, by omega⟩) ?_
  refine go_toq PM267 (k := 4) (pc' := 466) (L' := [some (.inr (.inr (some 3000))), some (.inr (.inr (some 0))), some (.inr (.inr (some 79))), some (.inl i)]) (st' := [.inl (i + 3), .inr (.inr (some 3000)), .inl ((xs ((i + 2).toNat)).toInt), .inl ((xs ((i + 1).toNat)).toInt), .inr (.inr (some 0))]) (w' := (SH, dt)) rfl ?_
  have r3 := i32_R (xs ((i + 3).toNat))
  refine go_smpq PM267 (L' := [some (.inr (.inr (some 3000))), some (.inr (.inr (some 0))), some (.inr (.inr (some 79))), some (.inl i)]) (st' := [.inl ((xs ((i + 3).toNat)).toInt), .inl ((xs ((i + 2).toNat)).toInt), .inl ((xs ((i + 1).toNat)).toInt), .inr (.inr (some 0))]) (w' := (SH, dt)) rfl rfl (s_iald (n := L) (f := fun j => (xs j).toInt) (am_scr hLL) ⟨by omega, by omega⟩) ?_
  refine go_callq PM267 PM74 (Q' := _) rfl rfl rfl rfl (sp_X5_here L xs sio (d + 33) dt hI  ((xs ((i + 1).toNat)).toInt) ⟨by omega, by omega⟩ ((xs ((i + 2).toNat)).toInt) ⟨by omega, by omega⟩ ((xs ((i + 3).toNat)).toInt) ⟨by omega, by omega⟩ ) ?_
  rintro _ _ ⟨dt5, rfl, hI6, hF7, h4⟩
  refine ⟨rfl, ?_⟩
  have hF8 : Fr [0, 1, 2, 3, 4, 5, 6, 7, 8, 9, 10, 11, 12, 13, 14, 15, 16, 17, 18, 19, 20, 21, 22, 23, 24, 25, 26, 27, 28, 29, 30, 31, 32, 33, 34, 35, 36, 37, 38, 39, 40, 41, 42, 43, 44, 45, 46, 47, 48, 49, 50, 51, 52, 53, 54, 55, 56, 57, 58, 59, 60, 61, 62, 63, 64, 65, 66, 67, 68, 69, 70, 71, 72, 73, 74, 75, 76, 77, 78, 79, 80, 81, 82, 83, 84, 85, 86, 87, 88, 89, 90, 91, 92, 93, 94, 95, 96, 97, 98, 99, 100, 101, 102, 103, 104] dt dt5 := Fr_tr hF hF7 (by decide)
  have hM9 : MW (dt5 80) := MW_fr hM hF7 (by decide)
  have w10 : dt5 1 0 = dt 1 0 := hF7 1 (by decide) 0
  have w11 : dt5 7 3 = dt 7 3 := hF7 7 (by decide) 3
  have w12 : dt5 10 3 = dt 10 3 := hF7 10 (by decide) 3
  have w13 : dt5 12 3 = dt 12 3 := hF7 12 (by decide) 3
  have w14 : dt5 14 3 = dt 14 3 := hF7 14 (by decide) 3
  have w15 : dt5 16 3 = dt 16 3 := hF7 16 (by decide) 3
  have w16 : dt5 18 0 = dt 18 0 := hF7 18 (by decide) 0
  have w17 : dt5 24 3 = dt 24 3 := hF7 24 (by decide) 3
  have w18 : dt5 27 3 = dt 27 3 := hF7 27 (by decide) 3
  have w19 : dt5 29 3 = dt 29 3 := hF7 29 (by decide) 3
  have w20 : dt5 31 3 = dt 31 3 := hF7 31 (by decide) 3
  have w21 : dt5 33 3 = dt 33 3 := hF7 33 (by decide) 3
  have w22 : dt5 0 2 = dt 0 2 := hF7 0 (by decide) 2
  have w23 : dt5 35 1 = dt 35 1 := hF7 35 (by decide) 1
  have w24 : dt5 80 0 = dt 80 0 := hF7 80 (by decide) 0
  have w25 : dt5 80 1 = dt 80 1 := hF7 80 (by decide) 1
  have w26 : dt5 80 2 = dt 80 2 := hF7 80 (by decide) 2
  have w27 : dt5 80 3 = dt 80 3 := hF7 80 (by decide) 3
  have w28 : dt5 80 4 = dt 80 4 := hF7 80 (by decide) 4
  have w29 : dt5 80 5 = dt 80 5 := hF7 80 (by decide) 5
  have w30 : dt5 81 0 = dt 81 0 := hF7 81 (by decide) 0
  have w31 : dt5 81 1 = dt 81 1 := hF7 81 (by decide) 1
  have w32 : dt5 81 2 = dt 81 2 := hF7 81 (by decide) 2
  have w33 : dt5 81 3 = dt 81 3 := hF7 81 (by decide) 3
  have w34 : dt5 81 4 = dt 81 4 := hF7 81 (by decide) 4
  have w35 : dt5 81 5 = dt 81 5 := hF7 81 (by decide) 5
  have w36 : dt5 79 2 = dt 79 2 := hF7 79 (by decide) 2
  have w37 : dt5 79 12 = dt 79 12 := hF7 79 (by decide) 12
  rcases h4 with ⟨v_h4, rfl, h4r, h4⟩
  have M238 : MW (dt5 81) := MW_frk hM2 hF7 (by decide)
  have C39 : ∀ j : Nat, dt5 15 j = dt 15 j := fun j => (hF7 15 (by decide) j).trans ((fun _ => rfl) j)
  have C40 : ∀ j : Nat, dt5 17 j = dt 17 j := fun j => (hF7 17 (by decide) j).trans ((fun _ => rfl) j)
  have C41 : ∀ j : Nat, dt5 32 j = dt 32 j := fun j => (hF7 32 (by decide) j).trans ((fun _ => rfl) j)
  have C42 : ∀ j : Nat, dt5 34 j = dt 34 j := fun j => (hF7 34 (by decide) j).trans ((fun _ => rfl) j)
  have F43 : ∀ j : Nat, 7340 ≤ j → dt5 81 j = dt 81 j := fun j hj => (hF7 81 (by decide) j).trans ((fun _ _ => rfl) j hj)
  have F44 : ∀ j : Nat, 7340 ≤ j → dt5 80 j = dt 80 j := fun j hj => (hF7 80 (by decide) j).trans ((fun _ _ => rfl) j hj)
  have F45 : ∀ j : Nat, dt5 80 j = dt 80 j := fun j => (hF7 80 (by decide) j).trans ((fun _ => rfl) j)
  have F46 : ∀ j : Nat, dt5 81 j = dt 81 j := fun j => (hF7 81 (by decide) j).trans ((fun _ => rfl) j)
  refine go_toq PM267 (k := 6) (pc' := 476) (L' := [some (.inr (.inr (some 3000))), some (.inr (.inr (some 0))), some (.inr (.inr (some 79))), some (.inl i)]) (st' := [.inl (i + 1), .inr (.inr (some 3000)), .inr (.inr (some 79))]) (w' := (SH, dt5)) rfl ?_
  have r47 := i32_R (xs ((i + 1).toNat))
  refine go_smpq PM267 (L' := [some (.inr (.inr (some 3000))), some (.inr (.inr (some 0))), some (.inr (.inr (some 79))), some (.inl i)]) (st' := [.inl ((xs ((i + 1).toNat)).toInt), .inr (.inr (some 79))]) (w' := (SH, dt5)) rfl rfl (s_iald (n := L) (f := fun j => (xs j).toInt) (am_scr hLL) ⟨by omega, by omega⟩) ?_
  refine go_toq PM267 (k := 4) (pc' := 481) (L' := [some (.inr (.inr (some 3000))), some (.inr (.inr (some 0))), some (.inr (.inr (some 79))), some (.inl i)]) (st' := [.inl (i + 2), .inr (.inr (some 3000)), .inl ((xs ((i + 1).toNat)).toInt), .inr (.inr (some 79))]) (w' := (SH, dt5)) rfl ?_
  have r48 := i32_R (xs ((i + 2).toNat))
  refine go_smpq PM267 (L' := [some (.inr (.inr (some 3000))), some (.inr (.inr (some 0))), some (.inr (.inr (some 79))), some (.inl i)]) (st' := [.inl ((xs ((i + 2).toNat)).toInt), .inl ((xs ((i + 1).toNat)).toInt), .inr (.inr (some 79))]) (w' := (SH, dt5)) rfl rfl (s_iald (n := L) (f := fun j => (xs j).toInt) (am_scr hLL) ⟨by omega, by omega⟩) ?_
  refine go_toq PM267 (k := 4) (pc' := 486) (L' := [some (.inr (.inr (some 3000))), some (.inr (.inr (some 0))), some (.inr (.inr (some 79))), some (.inl i)]) (st' := [.inl (i + 3), .inr (.inr (some 3000)), .inl ((xs ((i + 2).toNat)).toInt), .inl ((xs ((i + 1).toNat)).toInt), .inr (.inr (some 79))]) (w' := (SH, dt5)) rfl ?_
  have r49 := i32_R (xs ((i + 3).toNat))
  refine go_smpq PM267 (L' := [some (.inr (.inr (some 3000))), some (.inr (.inr (some 0))), some (.inr (.inr (some 79))), some (.inl i)]) (st' := [.inl ((xs ((i + 3).toNat)).toInt), .inl ((xs ((i + 2).toNat)).toInt), .inl ((xs ((i + 1).toNat)).toInt), .inr (.inr (some 79))]) (w' := (SH, dt5)) rfl rfl (s_iald (n := L) (f := fun j => (xs j).toInt) (am_scr hLL) ⟨by omega, by omega⟩) ?_
  refine go_callq PM267 PM190 (Q' := _) rfl rfl rfl rfl (sp_X6_here L xs sio (d + 33) dt5 hI6 hM9  ((xs ((i + 1).toNat)).toInt) ⟨by omega, by omega⟩ ((xs ((i + 2).toNat)).toInt) ⟨by omega, by omega⟩ ((xs ((i + 3).toNat)).toInt) ⟨by omega, by omega⟩ ) ?_
  rintro _ _ ⟨dt51, rfl, hI52, hF53, h50⟩
  refine ⟨rfl, ?_⟩
  have hF54 : Fr [0, 1, 2, 3, 4, 5, 6, 7, 8, 9, 10, 11, 12, 13, 14, 15, 16, 17, 18, 19, 20, 21, 22, 23, 24, 25, 26, 27, 28, 29, 30, 31, 32, 33, 34, 35, 36, 37, 38, 39, 40, 41, 42, 43, 44, 45, 46, 47, 48, 49, 50, 51, 52, 53, 54, 55, 56, 57, 58, 59, 60, 61, 62, 63, 64, 65, 66, 67, 68, 69, 70, 71, 72, 73, 74, 75, 76, 77, 78, 79, 80, 81, 82, 83, 84, 85, 86, 87, 88, 89, 90, 91, 92, 93, 94, 95, 96, 97, 98, 99, 100, 101, 102, 103, 104] dt dt51 := Fr_tr hF8 hF53 (by decide)
  have hM55 : MW (dt51 80) := MW_fr hM9 hF53 (by decide)
  have w56 : dt51 1 0 = dt5 1 0 := hF53 1 (by decide) 0
  have w57 : dt51 7 3 = dt5 7 3 := hF53 7 (by decide) 3
  have w58 : dt51 10 3 = dt5 10 3 := hF53 10 (by decide) 3
  have w59 : dt51 12 3 = dt5 12 3 := hF53 12 (by decide) 3
  have w60 : dt51 14 3 = dt5 14 3 := hF53 14 (by decide) 3
  have w61 : dt51 16 3 = dt5 16 3 := hF53 16 (by decide) 3
  have w62 : dt51 18 0 = dt5 18 0 := hF53 18 (by decide) 0
  have w63 : dt51 24 3 = dt5 24 3 := hF53 24 (by decide) 3
  have w64 : dt51 27 3 = dt5 27 3 := hF53 27 (by decide) 3
  have w65 : dt51 29 3 = dt5 29 3 := hF53 29 (by decide) 3
  have w66 : dt51 31 3 = dt5 31 3 := hF53 31 (by decide) 3
  have w67 : dt51 33 3 = dt5 33 3 := hF53 33 (by decide) 3
  have w68 : dt51 0 2 = dt5 0 2 := hF53 0 (by decide) 2
  have w69 : dt51 35 1 = dt5 35 1 := hF53 35 (by decide) 1
  have w70 : dt51 80 0 = dt5 80 0 := hF53 80 (by decide) 0
  have w71 : dt51 80 1 = dt5 80 1 := hF53 80 (by decide) 1
  have w72 : dt51 80 2 = dt5 80 2 := hF53 80 (by decide) 2
  have w73 : dt51 80 3 = dt5 80 3 := hF53 80 (by decide) 3
  have w74 : dt51 80 4 = dt5 80 4 := hF53 80 (by decide) 4
  have w75 : dt51 80 5 = dt5 80 5 := hF53 80 (by decide) 5
  have w76 : dt51 81 0 = dt5 81 0 := hF53 81 (by decide) 0
  have w77 : dt51 81 1 = dt5 81 1 := hF53 81 (by decide) 1
  have w78 : dt51 81 2 = dt5 81 2 := hF53 81 (by decide) 2
  have w79 : dt51 81 3 = dt5 81 3 := hF53 81 (by decide) 3
  have w80 : dt51 81 4 = dt5 81 4 := hF53 81 (by decide) 4
  have w81 : dt51 81 5 = dt5 81 5 := hF53 81 (by decide) 5
  have w82 : dt51 79 2 = dt5 79 2 := hF53 79 (by decide) 2
  have w83 : dt51 79 12 = dt5 79 12 := hF53 79 (by decide) 12
  rcases h50 with ⟨rfl, h50⟩ | ⟨rfl, h50⟩ | ⟨rfl, h50⟩
  · skip
    have M284 : MW (dt51 81) := MW_frk M238 hF53 (by decide)
    have C85 : ∀ j : Nat, dt51 15 j = dt 15 j := fun j => (hF53 15 (by decide) j).trans (C39 j)
    have C86 : ∀ j : Nat, dt51 17 j = dt 17 j := fun j => (hF53 17 (by decide) j).trans (C40 j)
    have C87 : ∀ j : Nat, dt51 32 j = dt 32 j := fun j => (hF53 32 (by decide) j).trans (C41 j)
    have C88 : ∀ j : Nat, dt51 34 j = dt 34 j := fun j => (hF53 34 (by decide) j).trans (C42 j)
    have F89 : ∀ j : Nat, 7340 ≤ j → dt51 81 j = dt 81 j := fun j hj => (hF53 81 (by decide) j).trans (F43 j hj)
    have F90 : ∀ j : Nat, 7340 ≤ j → dt51 80 j = dt 80 j := fun j hj => (hF53 80 (by decide) j).trans (F44 j hj)
    have F91 : ∀ j : Nat, dt51 80 j = dt 80 j := fun j => (hF53 80 (by decide) j).trans (F45 j)
    have F92 : ∀ j : Nat, dt51 81 j = dt 81 j := fun j => (hF53 81 (by decide) j).trans (F46 j)
    refine go_toq PM267 (k := 2) (pc' := 1435) (L' := [some (.inr (.inr (some 3000))), some (.inr (.inr (some 0))), some (.inr (.inr (some 79))), some (.inl i)]) (st' := []) (w' := (SH, dt51)) rfl ?_
    exact K dt51 hI52 hM55 M284 (by first | omega | (simp only [*]; done) | simp only [*]) (by omega) (by omega) (by omega) (by omega) (by omega) (by omega) (by omega) (by omega) (by omega) (by omega) (by omega) (by omega) (by omega) (by first | exact hI | exact RW2_k hd0 C85 F90 (by decide) (by omega) | (exfalso; omega)) (by first | exact hI | exact RW2_k hd1 C87 F89 (by decide) (by omega) | (exfalso; omega)) (by first | exact hI | exact RW2_k hd2 C86 F90 (by decide) (by omega) | (exfalso; omega)) (by first | exact hI | exact RW2_k hd3 C88 F89 (by decide) (by omega) | (exfalso; omega))
  · skip
    have M293 : MW (dt51 81) := MW_frk M238 hF53 (by decide)
    have C94 : ∀ j : Nat, dt51 15 j = dt 15 j := fun j => (hF53 15 (by decide) j).trans (C39 j)
    have C95 : ∀ j : Nat, dt51 17 j = dt 17 j := fun j => (hF53 17 (by decide) j).trans (C40 j)
    have C96 : ∀ j : Nat, dt51 32 j = dt 32 j := fun j => (hF53 32 (by decide) j).trans (C41 j)
    have C97 : ∀ j : Nat, dt51 34 j = dt 34 j := fun j => (hF53 34 (by decide) j).trans (C42 j)
    have F98 : ∀ j : Nat, 7340 ≤ j → dt51 81 j = dt 81 j := fun j hj => (hF53 81 (by decide) j).trans (F43 j hj)
    have F99 : ∀ j : Nat, 7340 ≤ j → dt51 80 j = dt 80 j := fun j hj => (hF53 80 (by decide) j).trans (F44 j hj)
    have F100 : ∀ j : Nat, dt51 80 j = dt 80 j := fun j => (hF53 80 (by decide) j).trans (F45 j)
    have F101 : ∀ j : Nat, dt51 81 j = dt 81 j := fun j => (hF53 81 (by decide) j).trans (F46 j)
    refine go_toq PM267 (k := 2) (pc' := 1435) (L' := [some (.inr (.inr (some 3000))), some (.inr (.inr (some 0))), some (.inr (.inr (some 79))), some (.inl i)]) (st' := []) (w' := (SH, dt51)) rfl ?_
    exact K dt51 hI52 hM55 M293 (by first | omega | (simp only [*]; done) | simp only [*]) (by omega) (by omega) (by omega) (by omega) (by omega) (by omega) (by omega) (by omega) (by omega) (by omega) (by omega) (by omega) (by omega) (by first | exact hI | exact RW2_k hd0 C94 F99 (by decide) (by omega) | (exfalso; omega)) (by first | exact hI | exact RW2_k hd1 C96 F98 (by decide) (by omega) | (exfalso; omega)) (by first | exact hI | exact RW2_k hd2 C95 F99 (by decide) (by omega) | (exfalso; omega)) (by first | exact hI | exact RW2_k hd3 C97 F98 (by decide) (by omega) | (exfalso; omega))
  · skip
    have M2102 : MW (dt51 81) := MW_frk M238 hF53 (by decide)
    have C103 : ∀ j : Nat, dt51 15 j = dt 15 j := fun j => (hF53 15 (by decide) j).trans (C39 j)
    have C104 : ∀ j : Nat, dt51 17 j = dt 17 j := fun j => (hF53 17 (by decide) j).trans (C40 j)
    have C105 : ∀ j : Nat, dt51 32 j = dt 32 j := fun j => (hF53 32 (by decide) j).trans (C41 j)
    have C106 : ∀ j : Nat, dt51 34 j = dt 34 j := fun j => (hF53 34 (by decide) j).trans (C42 j)
    have F107 : ∀ j : Nat, 7340 ≤ j → dt51 81 j = dt 81 j := fun j hj => (hF53 81 (by decide) j).trans (F43 j hj)
    have F108 : ∀ j : Nat, 7340 ≤ j → dt51 80 j = dt 80 j := fun j hj => (hF53 80 (by decide) j).trans (F44 j hj)
    have F109 : ∀ j : Nat, dt51 80 j = dt 80 j := fun j => (hF53 80 (by decide) j).trans (F45 j)
    have F110 : ∀ j : Nat, dt51 81 j = dt 81 j := fun j => (hF53 81 (by decide) j).trans (F46 j)
    refine go_toq PM267 (k := 2) (pc' := 1435) (L' := [some (.inr (.inr (some 3000))), some (.inr (.inr (some 0))), some (.inr (.inr (some 79))), some (.inl i)]) (st' := []) (w' := (SH, dt51)) rfl ?_
    exact K dt51 hI52 hM55 M2102 (by first | omega | (simp only [*]; done) | simp only [*]) (by omega) (by omega) (by omega) (by omega) (by omega) (by omega) (by omega) (by omega) (by omega) (by omega) (by omega) (by omega) (by omega) (by first | exact hI | exact RW2_k hd0 C103 F108 (by decide) (by omega) | (exfalso; omega)) (by first | exact hI | exact RW2_k hd1 C105 F107 (by decide) (by omega) | (exfalso; omega)) (by first | exact hI | exact RW2_k hd2 C104 F108 (by decide) (by omega) | (exfalso; omega)) (by first | exact hI | exact RW2_k hd3 C106 F107 (by decide) (by omega) | (exfalso; omega))
set_option maxRecDepth 20000 in
set_option maxHeartbeats 8000000 in
theorem sp_case8 (L : Nat) (xs : Nat → Int32) (sio : Option Nat) (d : Nat) (Q : Option AV → am_W → Prop) (hLL : L ≤ 3072) (i : Int) (hi : 0 ≤ i ∧ i ≤ 3066) (hil : i ≤ (L : Int) - 6) (dt : Nat → Nat → Int) (hI : InvC dt) (hM : MW (dt 80)) (hM2 : MW (dt 81)) (hk0 : dt 1 0 = dt 80 0) (hk1 : dt 7 3 = dt 80 1) (hk2 : dt 10 3 = dt 80 2) (hk3 : dt 12 3 = dt 80 3) (hk4 : dt 14 3 = dt 80 4) (hk5 : dt 16 3 = dt 80 5) (hk6 : dt 18 0 = dt 81 0) (hk7 : dt 24 3 = dt 81 1) (hk8 : dt 27 3 = dt 81 2) (hk9 : dt 29 3 = dt 81 3) (hk10 : dt 31 3 = dt 81 4) (hk11 : dt 33 3 = dt 81 5) (hk12 : dt 0 2 = dt 79 2) (hk13 : dt 35 1 = dt 79 12) (hd0 : RW2 (dt 15) (dt 80) (dt 80 4) 7340) (hd1 : RW2 (dt 32) (dt 81) (dt 81 4) 7340) (hd2 : RW2 (dt 17) (dt 80) (dt 80 5) 7420) (hd3 : RW2 (dt 34) (dt 81) (dt 81 5) 7420) (K : ∀ (dt : Nat → Nat → Int) (hI : InvC dt) (hM : MW (dt 80)) (hM2 : MW (dt 81)) (hk0 : dt 1 0 = dt 80 0) (hk1 : dt 7 3 = dt 80 1) (hk2 : dt 10 3 = dt 80 2) (hk3 : dt 12 3 = dt 80 3) (hk4 : dt 14 3 = dt 80 4) (hk5 : dt 16 3 = dt 80 5) (hk6 : dt 18 0 = dt 81 0) (hk7 : dt 24 3 = dt 81 1) (hk8 : dt 27 3 = dt 81 2) (hk9 : dt 29 3 = dt 81 3) (hk10 : dt 31 3 = dt 81 4) (hk11 : dt 33 3 = dt 81 5) (hk12 : dt 0 2 = dt 79 2) (hk13 : dt 35 1 = dt 79 12) (hd0 : RW2 (dt 15) (dt 80) (dt 80 4) 7340) (hd1 : RW2 (dt 32) (dt 81) (dt 81 4) 7340) (hd2 : RW2 (dt 17) (dt 80) (dt 80 5) 7420) (hd3 : RW2 (dt 34) (dt 81) (dt 81 5) 7420), GO (am_XX L xs sio) (d + 39) 267 1435 [some (.inr (.inr (some 3000))), some (.inr (.inr (some 0))), some (.inr (.inr (some 79))), some (.inl i)] [] (SH, dt) Q) : GO (am_XX L xs sio) (d + 39) 267 494 [some (.inr (.inr (some 3000))), some (.inr (.inr (some 0))), some (.inr (.inr (some 79))), some (.inl i)] [] (SH, dt) Q := by
  have hF : Fr [0, 1, 2, 3, 4, 5, 6, 7, 8, 9, 10, 11, 12, 13, 14, 15, 16, 17, 18, 19, 20, 21, 22, 23, 24, 25, 26, 27, 28, 29, 30, 31, 32, 33, 34, 35, 36, 37, 38, 39, 40, 41, 42, 43, 44, 45, 46, 47, 48, 49, 50, 51, 52, 53, 54, 55, 56, 57, 58, 59, 60, 61, 62, 63, 64, 65, 66, 67, 68, 69, 70, 71, 72, 73, 74, 75, 76, 77, 78, 79, 80, 81, 82, 83, 84, 85, 86, 87, 88, 89, 90, 91, 92, 93, 94, 95, 96, 97, 98, 99, 100, 101, 102, 103, 104] dt dt := Fr_refl
  have hmn := MW_n hM
  have hmn2 := MW_n hM2
  refine go_toq PM267 (k := 5) (pc' := 499) (L' := [some (.inr (.inr (some 3000))), some (.inr (.inr (some 0))), some (.inr (.inr (some 79))), some (.inl i)]) (st' := [.inl (i + 1), .inr (.inr (some 3000)), .inr (.inr (some 0))]) (w' := (SH, dt)) rfl ?_
  have r1 := i32_R (xs ((i + 1).toNat))
  refine go_smpq PM267 (L' := [some (.inr (.inr (some 3000))), some (.inr (.inr (some 0))), some (.inr (.inr (some 79))), some (.inl i)]) (st' := [.inl ((xs ((i + 1).toNat)).toInt), .inr (.inr (some 0))]) (w' := (SH, dt)) rfl rfl (s_iald (n := L) (f := fun j => (xs j).toInt) (am_scr hLL) ⟨by omega, by omega⟩) ?_
  refine go_toq PM267 (k := 4) (pc' := 504) (L' := [some (.inr (.inr (some 3000))), some (.inr (.inr (some 0))), some (.inr (.inr (some 79))), some (.inl i)]) (st' := [.inl (i + 2), .inr (.inr (some 3000)), .inl ((xs ((i + 1).toNat)).toInt), .inr (.inr (some 0))]) (w' := (SH, dt)) rfl ?_
  have r2 := i32_R (xs ((i + 2).toNat))
  refine go_smpq PM267 (L' := [some (.inr (.inr (some 3000))), some (.inr (.inr (some 0))), some (.inr (.inr (some 79))), some (.inl i)]) (st' := [.inl ((xs ((i + 2).toNat)).toInt), .inl ((xs ((i + 1).toNat)).toInt), .inr (.inr (some 0))]) (w' := (SH, dt)) rfl rfl (s_iald (n := L) (f := fun j => (xs j).toInt) (am_scr hLL) ⟨by omega, by omega⟩) ?_
  refine go_toq PM267 (k := 4) (pc' := 509) (L' := [some (.inr (.inr (some 3000))), some (.inr (.inr (some 0))), some (.inr (.inr (some 79))), some (.inl i)]) (st' := [.inl (i + 3), .inr (.inr (some 3000)), .inl ((xs ((i + 2).toNat)).toInt), .inl ((xs ((i + 1).toNat)).toInt), .inr (.inr (some 0))]) (w' := (SH, dt)) rfl ?_
  have r3 := i32_R (xs ((i + 3).toNat))
  refine go_smpq PM267 (L' := [some (.inr (.inr (some 3000))), some (.inr (.inr (some 0))), some (.inr (.inr (some 79))), some (.inl i)]) (st' := [.inl ((xs ((i + 3).toNat)).toInt), .inl ((xs ((i + 2).toNat)).toInt), .inl ((xs ((i + 1).toNat)).toInt), .inr (.inr (some 0))]) (w' := (SH, dt)) rfl rfl (s_iald (n := L) (f := fun j => (xs j).toInt) (am_scr hLL) ⟨by omega, by omega⟩) ?_
  refine go_toq PM267 (k := 4) (pc' := 514) (L' := [some (.inr (.inr (some 3000))), some (.inr (.inr (some 0))), some (.inr (.inr (some 79))), some (.inl i)]) (st' := [.inl (i + 4), .inr (.inr (some 3000)), .inl ((xs ((i + 3).toNat)).toInt), .inl ((xs ((i + 2).toNat)).toInt), .inl ((xs ((i + 1).toNat)).toInt), .inr (.inr (some 0))]) (w' := (SH, dt)) rfl ?_
  have r4 := i32_R (xs ((i + 4).toNat))
  refine go_smpq PM267 (L' := [some (.inr (.inr (some 3000))), some (.inr (.inr (some 0))), some (.inr (.inr (some 79))), some (.inl i)]) (st' := [.inl ((xs ((i + 4).toNat)).toInt), .inl ((xs ((i + 3).toNat)).toInt), .inl ((xs ((i + 2).toNat)).toInt), .inl ((xs ((i + 1).toNat)).toInt), .inr (.inr (some 0))]) (w' := (SH, dt)) rfl rfl (s_iald (n := L) (f := fun j => (xs j).toInt) (am_scr hLL) ⟨by omega, by omega⟩) ?_
  refine go_toq PM267 (k := 4) (pc' := 519) (L' := [some (.inr (.inr (some 3000))), some (.inr (.inr (some 0))), some (.inr (.inr (some 79))), some (.inl i)]) (st' := [.inl (i + 5), .inr (.inr (some 3000)), .inl ((xs ((i + 4).toNat)).toInt), .inl ((xs ((i + 3).toNat)).toInt), .inl ((xs ((i + 2).toNat)).toInt), .inl ((xs ((i + 1).toNat)).toInt), .inr (.inr (some 0))]) (w' := (SH, dt)) rfl ?_
  have r5 := i32_R (xs ((i + 5).toNat))
  refine go_smpq PM267 (L' := [some (.inr (.inr (some 3000))), some (.inr (.inr (some 0))), some (.inr (.inr (some 79))), some (.inl i)]) (st' := [.inl ((xs ((i + 5).toNat)).toInt), .inl ((xs ((i + 4).toNat)).toInt), .inl ((xs ((i + 3).toNat)).toInt), .inl ((xs ((i + 2).toNat)).toInt), .inl ((xs ((i + 1).toNat)).toInt), .inr (.inr (some 0))]) (w' := (SH, dt)) rfl rfl (s_iald (n := L) (f := fun j => (xs j).toInt) (am_scr hLL) ⟨by omega, by omega⟩) ?_
  refine go_callq PM267 PM75 (Q' := _) rfl rfl rfl rfl (sp_X5_question L xs sio (d + 33) dt hI  ((xs ((i + 1).toNat)).toInt) ⟨by omega, by omega⟩ ((xs ((i + 2).toNat)).toInt) ⟨by omega, by omega⟩ ((xs ((i + 3).toNat)).toInt) ⟨by omega, by omega⟩ ((xs ((i + 4).toNat)).toInt) ⟨by omega, by omega⟩ ((xs ((i + 5).toNat)).toInt) ⟨by omega, by omega⟩ ) ?_
  rintro _ _ ⟨dt7, rfl, hI8, hF9, h6⟩
  refine ⟨rfl, ?_⟩
  have hF10 : Fr [0, 1, 2, 3, 4, 5, 6, 7, 8, 9, 10, 11, 12, 13, 14, 15, 16, 17, 18, 19, 20, 21, 22, 23, 24, 25, 26, 27, 28, 29, 30, 31, 32, 33, 34, 35, 36, 37, 38, 39, 40, 41, 42, 43, 44, 45, 46, 47, 48, 49, 50, 51, 52, 53, 54, 55, 56, 57, 58, 59, 60, 61, 62, 63, 64, 65, 66, 67, 68, 69, 70, 71, 72, 73, 74, 75, 76, 77, 78, 79, 80, 81, 82, 83, 84, 85, 86, 87, 88, 89, 90, 91, 92, 93, 94, 95, 96, 97, 98, 99, 100, 101, 102, 103, 104] dt dt7 := Fr_tr hF hF9 (by decide)
  have hM11 : MW (dt7 80) := MW_fr hM hF9 (by decide)
  have w12 : dt7 1 0 = dt 1 0 := hF9 1 (by decide) 0
  have w13 : dt7 10 3 = dt 10 3 := hF9 10 (by decide) 3
  have w14 : dt7 12 3 = dt 12 3 := hF9 12 (by decide) 3
  have w15 : dt7 14 3 = dt 14 3 := hF9 14 (by decide) 3
  have w16 : dt7 16 3 = dt 16 3 := hF9 16 (by decide) 3
  have w17 : dt7 18 0 = dt 18 0 := hF9 18 (by decide) 0
  have w18 : dt7 24 3 = dt 24 3 := hF9 24 (by decide) 3
  have w19 : dt7 27 3 = dt 27 3 := hF9 27 (by decide) 3
  have w20 : dt7 29 3 = dt 29 3 := hF9 29 (by decide) 3
  have w21 : dt7 31 3 = dt 31 3 := hF9 31 (by decide) 3
  have w22 : dt7 33 3 = dt 33 3 := hF9 33 (by decide) 3
  have w23 : dt7 0 2 = dt 0 2 := hF9 0 (by decide) 2
  have w24 : dt7 35 1 = dt 35 1 := hF9 35 (by decide) 1
  have w25 : dt7 80 0 = dt 80 0 := hF9 80 (by decide) 0
  have w26 : dt7 80 1 = dt 80 1 := hF9 80 (by decide) 1
  have w27 : dt7 80 2 = dt 80 2 := hF9 80 (by decide) 2
  have w28 : dt7 80 3 = dt 80 3 := hF9 80 (by decide) 3
  have w29 : dt7 80 4 = dt 80 4 := hF9 80 (by decide) 4
  have w30 : dt7 80 5 = dt 80 5 := hF9 80 (by decide) 5
  have w31 : dt7 81 0 = dt 81 0 := hF9 81 (by decide) 0
  have w32 : dt7 81 1 = dt 81 1 := hF9 81 (by decide) 1
  have w33 : dt7 81 2 = dt 81 2 := hF9 81 (by decide) 2
  have w34 : dt7 81 3 = dt 81 3 := hF9 81 (by decide) 3
  have w35 : dt7 81 4 = dt 81 4 := hF9 81 (by decide) 4
  have w36 : dt7 81 5 = dt 81 5 := hF9 81 (by decide) 5
  have w37 : dt7 79 2 = dt 79 2 := hF9 79 (by decide) 2
  have w38 : dt7 79 12 = dt 79 12 := hF9 79 (by decide) 12
  rcases h6 with ⟨rfl, h6⟩ | ⟨v_h6, rfl, h6r, h6⟩
  · skip
    obtain ⟨h6_0, h6_1⟩ := h6
    replace h6_0 := hid h6_0
    have M239 : MW (dt7 81) := MW_frk hM2 hF9 (by decide)
    have C40 : ∀ j : Nat, dt7 15 j = dt 15 j := fun j => (hF9 15 (by decide) j).trans ((fun _ => rfl) j)
    have C41 : ∀ j : Nat, dt7 17 j = dt 17 j := fun j => (hF9 17 (by decide) j).trans ((fun _ => rfl) j)
    have C42 : ∀ j : Nat, dt7 32 j = dt 32 j := fun j => (hF9 32 (by decide) j).trans ((fun _ => rfl) j)
    have C43 : ∀ j : Nat, dt7 34 j = dt 34 j := fun j => (hF9 34 (by decide) j).trans ((fun _ => rfl) j)
    have F44 : ∀ j : Nat, 7340 ≤ j → dt7 81 j = dt 81 j := fun j hj => (hF9 81 (by decide) j).trans ((fun _ _ => rfl) j hj)
    have F45 : ∀ j : Nat, 7340 ≤ j → dt7 80 j = dt 80 j := fun j hj => (hF9 80 (by decide) j).trans ((fun _ _ => rfl) j hj)
    have F46 : ∀ j : Nat, dt7 80 j = dt 80 j := fun j => (hF9 80 (by decide) j).trans ((fun _ => rfl) j)
    have F47 : ∀ j : Nat, dt7 81 j = dt 81 j := fun j => (hF9 81 (by decide) j).trans ((fun _ => rfl) j)
    refine go_toq PM267 (k := 6) (pc' := 529) (L' := [some (.inr (.inr (some 3000))), some (.inr (.inr (some 0))), some (.inr (.inr (some 79))), some (.inl i)]) (st' := [.inl (i + 1), .inr (.inr (some 3000)), .inr (.inr (some 79))]) (w' := (SH, dt7)) rfl ?_
    have r48 := i32_R (xs ((i + 1).toNat))
    refine go_smpq PM267 (L' := [some (.inr (.inr (some 3000))), some (.inr (.inr (some 0))), some (.inr (.inr (some 79))), some (.inl i)]) (st' := [.inl ((xs ((i + 1).toNat)).toInt), .inr (.inr (some 79))]) (w' := (SH, dt7)) rfl rfl (s_iald (n := L) (f := fun j => (xs j).toInt) (am_scr hLL) ⟨by (first | omega | (have z0_ := unhid h6_0; omega)), by (first | omega | (have z0_ := unhid h6_0; omega))⟩) ?_
    refine go_toq PM267 (k := 4) (pc' := 534) (L' := [some (.inr (.inr (some 3000))), some (.inr (.inr (some 0))), some (.inr (.inr (some 79))), some (.inl i)]) (st' := [.inl (i + 2), .inr (.inr (some 3000)), .inl ((xs ((i + 1).toNat)).toInt), .inr (.inr (some 79))]) (w' := (SH, dt7)) rfl ?_
    have r49 := i32_R (xs ((i + 2).toNat))
    refine go_smpq PM267 (L' := [some (.inr (.inr (some 3000))), some (.inr (.inr (some 0))), some (.inr (.inr (some 79))), some (.inl i)]) (st' := [.inl ((xs ((i + 2).toNat)).toInt), .inl ((xs ((i + 1).toNat)).toInt), .inr (.inr (some 79))]) (w' := (SH, dt7)) rfl rfl (s_iald (n := L) (f := fun j => (xs j).toInt) (am_scr hLL) ⟨by (first | omega | (have z0_ := unhid h6_0; omega)), by (first | omega | (have z0_ := unhid h6_0; omega))⟩) ?_
    refine go_toq PM267 (k := 4) (pc' := 539) (L' := [some (.inr (.inr (some 3000))), some (.inr (.inr (some 0))), some (.inr (.inr (some 79))), some (.inl i)]) (st' := [.inl (i + 3), .inr (.inr (some 3000)), .inl ((xs ((i + 2).toNat)).toInt), .inl ((xs ((i + 1).toNat)).toInt), .inr (.inr (some 79))]) (w' := (SH, dt7)) rfl ?_
    have r50 := i32_R (xs ((i + 3).toNat))
    refine go_smpq PM267 (L' := [some (.inr (.inr (some 3000))), some (.inr (.inr (some 0))), some (.inr (.inr (some 79))), some (.inl i)]) (st' := [.inl ((xs ((i + 3).toNat)).toInt), .inl ((xs ((i + 2).toNat)).toInt), .inl ((xs ((i + 1).toNat)).toInt), .inr (.inr (some 79))]) (w' := (SH, dt7)) rfl rfl (s_iald (n := L) (f := fun j => (xs j).toInt) (am_scr hLL) ⟨by (first | omega | (have z0_ := unhid h6_0; omega)), by (first | omega | (have z0_ := unhid h6_0; omega))⟩) ?_
    refine go_toq PM267 (k := 4) (pc' := 544) (L' := [some (.inr (.inr (some 3000))), some (.inr (.inr (some 0))), some (.inr (.inr (some 79))), some (.inl i)]) (st' := [.inl (i + 4), .inr (.inr (some 3000)), .inl ((xs ((i + 3).toNat)).toInt), .inl ((xs ((i + 2).toNat)).toInt), .inl ((xs ((i + 1).toNat)).toInt), .inr (.inr (some 79))]) (w' := (SH, dt7)) rfl ?_
    have r51 := i32_R (xs ((i + 4).toNat))
    refine go_smpq PM267 (L' := [some (.inr (.inr (some 3000))), some (.inr (.inr (some 0))), some (.inr (.inr (some 79))), some (.inl i)]) (st' := [.inl ((xs ((i + 4).toNat)).toInt), .inl ((xs ((i + 3).toNat)).toInt), .inl ((xs ((i + 2).toNat)).toInt), .inl ((xs ((i + 1).toNat)).toInt), .inr (.inr (some 79))]) (w' := (SH, dt7)) rfl rfl (s_iald (n := L) (f := fun j => (xs j).toInt) (am_scr hLL) ⟨by (first | omega | (have z0_ := unhid h6_0; omega)), by (first | omega | (have z0_ := unhid h6_0; omega))⟩) ?_
    refine go_toq PM267 (k := 4) (pc' := 549) (L' := [some (.inr (.inr (some 3000))), some (.inr (.inr (some 0))), some (.inr (.inr (some 79))), some (.inl i)]) (st' := [.inl (i + 5), .inr (.inr (some 3000)), .inl ((xs ((i + 4).toNat)).toInt), .inl ((xs ((i + 3).toNat)).toInt), .inl ((xs ((i + 2).toNat)).toInt), .inl ((xs ((i + 1).toNat)).toInt), .inr (.inr (some 79))]) (w' := (SH, dt7)) rfl ?_
    have r52 := i32_R (xs ((i + 5).toNat))
    refine go_smpq PM267 (L' := [some (.inr (.inr (some 3000))), some (.inr (.inr (some 0))), some (.inr (.inr (some 79))), some (.inl i)]) (st' := [.inl ((xs ((i + 5).toNat)).toInt), .inl ((xs ((i + 4).toNat)).toInt), .inl ((xs ((i + 3).toNat)).toInt), .inl ((xs ((i + 2).toNat)).toInt), .inl ((xs ((i + 1).toNat)).toInt), .inr (.inr (some 79))]) (w' := (SH, dt7)) rfl rfl (s_iald (n := L) (f := fun j => (xs j).toInt) (am_scr hLL) ⟨by (first | omega | (have z0_ := unhid h6_0; omega)), by (first | omega | (have z0_ := unhid h6_0; omega))⟩) ?_
    refine go_callq PM267 PM193 (Q' := _) rfl rfl rfl rfl (sp_X6_question_u L xs sio (d + 36) dt7 hI8 hM11  ((xs ((i + 1).toNat)).toInt) ⟨by (first | omega | (have z0_ := unhid h6_0; omega)), by (first | omega | (have z0_ := unhid h6_0; omega))⟩ ((xs ((i + 2).toNat)).toInt) ⟨by (first | omega | (have z0_ := unhid h6_0; omega)), by (first | omega | (have z0_ := unhid h6_0; omega))⟩ ((xs ((i + 3).toNat)).toInt) ⟨by (first | omega | (have z0_ := unhid h6_0; omega)), by (first | omega | (have z0_ := unhid h6_0; omega))⟩ ((xs ((i + 4).toNat)).toInt) ⟨by (first | omega | (have z0_ := unhid h6_0; omega)), by (first | omega | (have z0_ := unhid h6_0; omega))⟩ ((xs ((i + 5).toNat)).toInt) ⟨by (first | omega | (have z0_ := unhid h6_0; omega)), by (first | omega | (have z0_ := unhid h6_0; omega))⟩ ) ?_
    rintro _ _ ⟨dt54, rfl, hI55, hF56, h53⟩
    refine ⟨rfl, ?_⟩
    have hF57 : Fr [0, 1, 2, 3, 4, 5, 6, 7, 8, 9, 10, 11, 12, 13, 14, 15, 16, 17, 18, 19, 20, 21, 22, 23, 24, 25, 26, 27, 28, 29, 30, 31, 32, 33, 34, 35, 36, 37, 38, 39, 40, 41, 42, 43, 44, 45, 46, 47, 48, 49, 50, 51, 52, 53, 54, 55, 56, 57, 58, 59, 60, 61, 62, 63, 64, 65, 66, 67, 68, 69, 70, 71, 72, 73, 74, 75, 76, 77, 78, 79, 80, 81, 82, 83, 84, 85, 86, 87, 88, 89, 90, 91, 92, 93, 94, 95, 96, 97, 98, 99, 100, 101, 102, 103, 104] dt dt54 := Fr_tr hF10 hF56 (by decide)
    have w58 : dt54 1 0 = dt7 1 0 := hF56 1 (by decide) 0
    have w59 : dt54 7 3 = dt7 7 3 := hF56 7 (by decide) 3
    have w60 : dt54 10 3 = dt7 10 3 := hF56 10 (by decide) 3
    have w61 : dt54 12 3 = dt7 12 3 := hF56 12 (by decide) 3
    have w62 : dt54 14 3 = dt7 14 3 := hF56 14 (by decide) 3
    have w63 : dt54 16 3 = dt7 16 3 := hF56 16 (by decide) 3
    have w64 : dt54 18 0 = dt7 18 0 := hF56 18 (by decide) 0
    have w65 : dt54 24 3 = dt7 24 3 := hF56 24 (by decide) 3
    have w66 : dt54 27 3 = dt7 27 3 := hF56 27 (by decide) 3
    have w67 : dt54 29 3 = dt7 29 3 := hF56 29 (by decide) 3
    have w68 : dt54 31 3 = dt7 31 3 := hF56 31 (by decide) 3
    have w69 : dt54 33 3 = dt7 33 3 := hF56 33 (by decide) 3
    have w70 : dt54 0 2 = dt7 0 2 := hF56 0 (by decide) 2
    have w71 : dt54 35 1 = dt7 35 1 := hF56 35 (by decide) 1
    have w72 : dt54 81 0 = dt7 81 0 := hF56 81 (by decide) 0
    have w73 : dt54 81 1 = dt7 81 1 := hF56 81 (by decide) 1
    have w74 : dt54 81 2 = dt7 81 2 := hF56 81 (by decide) 2
    have w75 : dt54 81 3 = dt7 81 3 := hF56 81 (by decide) 3
    have w76 : dt54 81 4 = dt7 81 4 := hF56 81 (by decide) 4
    have w77 : dt54 81 5 = dt7 81 5 := hF56 81 (by decide) 5
    have w78 : dt54 79 2 = dt7 79 2 := hF56 79 (by decide) 2
    have w79 : dt54 79 12 = dt7 79 12 := hF56 79 (by decide) 12
    rcases h53 with ⟨rfl, h53⟩ | ⟨v_h53, rfl, h53r, h53⟩
    · skip
      have hM80 : MW (dt54 80) := h53.2.1
      obtain ⟨h53_0, h53_1, h53_2, h53_3, h53_4, h53_5, h53_6, h53_7, h53_8⟩ := h53
      replace h53_0 := hid h53_0
      have M281 : MW (dt54 81) := MW_frk M239 hF56 (by decide)
      have C82 : ∀ j : Nat, dt54 15 j = dt 15 j := fun j => (hF56 15 (by decide) j).trans (C40 j)
      have C83 : ∀ j : Nat, dt54 17 j = dt 17 j := fun j => (hF56 17 (by decide) j).trans (C41 j)
      have C84 : ∀ j : Nat, dt54 32 j = dt 32 j := fun j => (hF56 32 (by decide) j).trans (C42 j)
      have C85 : ∀ j : Nat, dt54 34 j = dt 34 j := fun j => (hF56 34 (by decide) j).trans (C43 j)
      have F86 : ∀ j : Nat, 7340 ≤ j → dt54 81 j = dt 81 j := fun j hj => (hF56 81 (by decide) j).trans (F44 j hj)
      have F87 : ∀ j : Nat, 7340 ≤ j → dt54 80 j = dt 80 j := fun j hj => (h53_8 j hj).trans (F45 j hj)
      have F88 : ∀ j : Nat, dt54 81 j = dt 81 j := fun j => (hF56 81 (by decide) j).trans (F47 j)
      refine go_toq PM267 (k := 2) (pc' := 1435) (L' := [some (.inr (.inr (some 3000))), some (.inr (.inr (some 0))), some (.inr (.inr (some 79))), some (.inl i)]) (st' := []) (w' := (SH, dt54)) rfl ?_
      exact K dt54 hI55 hM80 M281 (by first | (first | omega | (have z0_ := unhid h6_0; have z1_ := unhid h53_0; omega)) | (simp only [*]; done) | simp only [*]) (by (first | omega | (have z0_ := unhid h6_0; have z1_ := unhid h53_0; omega))) (by (first | omega | (have z0_ := unhid h6_0; have z1_ := unhid h53_0; omega))) (by (first | omega | (have z0_ := unhid h6_0; have z1_ := unhid h53_0; omega))) (by (first | omega | (have z0_ := unhid h6_0; have z1_ := unhid h53_0; omega))) (by (first | omega | (have z0_ := unhid h6_0; have z1_ := unhid h53_0; omega))) (by (first | omega | (have z0_ := unhid h6_0; have z1_ := unhid h53_0; omega))) (by (first | omega | (have z0_ := unhid h6_0; have z1_ := unhid h53_0; omega))) (by (first | omega | (have z0_ := unhid h6_0; have z1_ := unhid h53_0; omega))) (by (first | omega | (have z0_ := unhid h6_0; have z1_ := unhid h53_0; omega))) (by (first | omega | (have z0_ := unhid h6_0; have z1_ := unhid h53_0; omega))) (by (first | omega | (have z0_ := unhid h6_0; have z1_ := unhid h53_0; omega))) (by (first | omega | (have z0_ := unhid h6_0; have z1_ := unhid h53_0; omega))) (by (first | omega | (have z0_ := unhid h6_0; have z1_ := unhid h53_0; omega))) (by first | exact hI | exact RW2_k hd0 C82 F87 (by decide) (by (first | omega | (have z0_ := unhid h6_0; have z1_ := unhid h53_0; omega))) | (exfalso; (first | omega | (have z0_ := unhid h6_0; have z1_ := unhid h53_0; omega)))) (by first | exact hI | exact RW2_k hd1 C84 F86 (by decide) (by (first | omega | (have z0_ := unhid h6_0; have z1_ := unhid h53_0; omega))) | (exfalso; (first | omega | (have z0_ := unhid h6_0; have z1_ := unhid h53_0; omega)))) (by first | exact hI | exact RW2_k hd2 C83 F87 (by decide) (by (first | omega | (have z0_ := unhid h6_0; have z1_ := unhid h53_0; omega))) | (exfalso; (first | omega | (have z0_ := unhid h6_0; have z1_ := unhid h53_0; omega)))) (by first | exact hI | exact RW2_k hd3 C85 F86 (by decide) (by (first | omega | (have z0_ := unhid h6_0; have z1_ := unhid h53_0; omega))) | (exfalso; (first | omega | (have z0_ := unhid h6_0; have z1_ := unhid h53_0; omega))))
    · skip
      have hM89 : MW (dt54 80) := h53.2.2.1
      obtain ⟨h53_0, h53_1, h53_2, h53_3, h53_4, h53_5, h53_6, h53_7, h53_8, h53_9⟩ := h53
      have M290 : MW (dt54 81) := MW_frk M239 hF56 (by decide)
      have C91 : ∀ j : Nat, dt54 15 j = dt 15 j := fun j => (hF56 15 (by decide) j).trans (C40 j)
      have C92 : ∀ j : Nat, dt54 17 j = dt 17 j := fun j => (hF56 17 (by decide) j).trans (C41 j)
      have C93 : ∀ j : Nat, dt54 32 j = dt 32 j := fun j => (hF56 32 (by decide) j).trans (C42 j)
      have C94 : ∀ j : Nat, dt54 34 j = dt 34 j := fun j => (hF56 34 (by decide) j).trans (C43 j)
      have F95 : ∀ j : Nat, 7340 ≤ j → dt54 81 j = dt 81 j := fun j hj => (hF56 81 (by decide) j).trans (F44 j hj)
      have F96 : ∀ j : Nat, 7340 ≤ j → dt54 80 j = dt 80 j := fun j hj => (h53_9 j hj).trans (F45 j hj)
      have F97 : ∀ j : Nat, dt54 81 j = dt 81 j := fun j => (hF56 81 (by decide) j).trans (F47 j)
      refine go_toq PM267 (k := 2) (pc' := 1435) (L' := [some (.inr (.inr (some 3000))), some (.inr (.inr (some 0))), some (.inr (.inr (some 79))), some (.inl i)]) (st' := []) (w' := (SH, dt54)) rfl ?_
      exact K dt54 hI55 hM89 M290 (by first | (first | omega | (have z0_ := unhid h6_0; omega)) | (simp only [*]; done) | simp only [*]) (by (first | omega | (have z0_ := unhid h6_0; omega))) (by (first | omega | (have z0_ := unhid h6_0; omega))) (by (first | omega | (have z0_ := unhid h6_0; omega))) (by (first | omega | (have z0_ := unhid h6_0; omega))) (by (first | omega | (have z0_ := unhid h6_0; omega))) (by (first | omega | (have z0_ := unhid h6_0; omega))) (by (first | omega | (have z0_ := unhid h6_0; omega))) (by (first | omega | (have z0_ := unhid h6_0; omega))) (by (first | omega | (have z0_ := unhid h6_0; omega))) (by (first | omega | (have z0_ := unhid h6_0; omega))) (by (first | omega | (have z0_ := unhid h6_0; omega))) (by (first | omega | (have z0_ := unhid h6_0; omega))) (by (first | omega | (have z0_ := unhid h6_0; omega))) (by first | exact hI | exact RW2_k hd0 C91 F96 (by decide) (by (first | omega | (have z0_ := unhid h6_0; omega))) | (exfalso; (first | omega | (have z0_ := unhid h6_0; omega)))) (by first | exact hI | exact RW2_k hd1 C93 F95 (by decide) (by (first | omega | (have z0_ := unhid h6_0; omega))) | (exfalso; (first | omega | (have z0_ := unhid h6_0; omega)))) (by first | exact hI | exact RW2_k hd2 C92 F96 (by decide) (by (first | omega | (have z0_ := unhid h6_0; omega))) | (exfalso; (first | omega | (have z0_ := unhid h6_0; omega)))) (by first | exact hI | exact RW2_k hd3 C94 F95 (by decide) (by (first | omega | (have z0_ := unhid h6_0; omega))) | (exfalso; (first | omega | (have z0_ := unhid h6_0; omega))))
  · skip
    obtain ⟨h6_0, h6_1, h6_2⟩ := h6
    have M298 : MW (dt7 81) := MW_frk hM2 hF9 (by decide)
    have C99 : ∀ j : Nat, dt7 15 j = dt 15 j := fun j => (hF9 15 (by decide) j).trans ((fun _ => rfl) j)
    have C100 : ∀ j : Nat, dt7 17 j = dt 17 j := fun j => (hF9 17 (by decide) j).trans ((fun _ => rfl) j)
    have C101 : ∀ j : Nat, dt7 32 j = dt 32 j := fun j => (hF9 32 (by decide) j).trans ((fun _ => rfl) j)
    have C102 : ∀ j : Nat, dt7 34 j = dt 34 j := fun j => (hF9 34 (by decide) j).trans ((fun _ => rfl) j)
    have F103 : ∀ j : Nat, 7340 ≤ j → dt7 81 j = dt 81 j := fun j hj => (hF9 81 (by decide) j).trans ((fun _ _ => rfl) j hj)
    have F104 : ∀ j : Nat, 7340 ≤ j → dt7 80 j = dt 80 j := fun j hj => (hF9 80 (by decide) j).trans ((fun _ _ => rfl) j hj)
    have F105 : ∀ j : Nat, dt7 80 j = dt 80 j := fun j => (hF9 80 (by decide) j).trans ((fun _ => rfl) j)
    have F106 : ∀ j : Nat, dt7 81 j = dt 81 j := fun j => (hF9 81 (by decide) j).trans ((fun _ => rfl) j)
    refine go_toq PM267 (k := 6) (pc' := 529) (L' := [some (.inr (.inr (some 3000))), some (.inr (.inr (some 0))), some (.inr (.inr (some 79))), some (.inl i)]) (st' := [.inl (i + 1), .inr (.inr (some 3000)), .inr (.inr (some 79))]) (w' := (SH, dt7)) rfl ?_
    have r107 := i32_R (xs ((i + 1).toNat))
    refine go_smpq PM267 (L' := [some (.inr (.inr (some 3000))), some (.inr (.inr (some 0))), some (.inr (.inr (some 79))), some (.inl i)]) (st' := [.inl ((xs ((i + 1).toNat)).toInt), .inr (.inr (some 79))]) (w' := (SH, dt7)) rfl rfl (s_iald (n := L) (f := fun j => (xs j).toInt) (am_scr hLL) ⟨by omega, by omega⟩) ?_
    refine go_toq PM267 (k := 4) (pc' := 534) (L' := [some (.inr (.inr (some 3000))), some (.inr (.inr (some 0))), some (.inr (.inr (some 79))), some (.inl i)]) (st' := [.inl (i + 2), .inr (.inr (some 3000)), .inl ((xs ((i + 1).toNat)).toInt), .inr (.inr (some 79))]) (w' := (SH, dt7)) rfl ?_
    have r108 := i32_R (xs ((i + 2).toNat))
    refine go_smpq PM267 (L' := [some (.inr (.inr (some 3000))), some (.inr (.inr (some 0))), some (.inr (.inr (some 79))), some (.inl i)]) (st' := [.inl ((xs ((i + 2).toNat)).toInt), .inl ((xs ((i + 1).toNat)).toInt), .inr (.inr (some 79))]) (w' := (SH, dt7)) rfl rfl (s_iald (n := L) (f := fun j => (xs j).toInt) (am_scr hLL) ⟨by omega, by omega⟩) ?_
    refine go_toq PM267 (k := 4) (pc' := 539) (L' := [some (.inr (.inr (some 3000))), some (.inr (.inr (some 0))), some (.inr (.inr (some 79))), some (.inl i)]) (st' := [.inl (i + 3), .inr (.inr (some 3000)), .inl ((xs ((i + 2).toNat)).toInt), .inl ((xs ((i + 1).toNat)).toInt), .inr (.inr (some 79))]) (w' := (SH, dt7)) rfl ?_
    have r109 := i32_R (xs ((i + 3).toNat))
    refine go_smpq PM267 (L' := [some (.inr (.inr (some 3000))), some (.inr (.inr (some 0))), some (.inr (.inr (some 79))), some (.inl i)]) (st' := [.inl ((xs ((i + 3).toNat)).toInt), .inl ((xs ((i + 2).toNat)).toInt), .inl ((xs ((i + 1).toNat)).toInt), .inr (.inr (some 79))]) (w' := (SH, dt7)) rfl rfl (s_iald (n := L) (f := fun j => (xs j).toInt) (am_scr hLL) ⟨by omega, by omega⟩) ?_
    refine go_toq PM267 (k := 4) (pc' := 544) (L' := [some (.inr (.inr (some 3000))), some (.inr (.inr (some 0))), some (.inr (.inr (some 79))), some (.inl i)]) (st' := [.inl (i + 4), .inr (.inr (some 3000)), .inl ((xs ((i + 3).toNat)).toInt), .inl ((xs ((i + 2).toNat)).toInt), .inl ((xs ((i + 1).toNat)).toInt), .inr (.inr (some 79))]) (w' := (SH, dt7)) rfl ?_
    have r110 := i32_R (xs ((i + 4).toNat))
    refine go_smpq PM267 (L' := [some (.inr (.inr (some 3000))), some (.inr (.inr (some 0))), some (.inr (.inr (some 79))), some (.inl i)]) (st' := [.inl ((xs ((i + 4).toNat)).toInt), .inl ((xs ((i + 3).toNat)).toInt), .inl ((xs ((i + 2).toNat)).toInt), .inl ((xs ((i + 1).toNat)).toInt), .inr (.inr (some 79))]) (w' := (SH, dt7)) rfl rfl (s_iald (n := L) (f := fun j => (xs j).toInt) (am_scr hLL) ⟨by omega, by omega⟩) ?_
    refine go_toq PM267 (k := 4) (pc' := 549) (L' := [some (.inr (.inr (some 3000))), some (.inr (.inr (some 0))), some (.inr (.inr (some 79))), some (.inl i)]) (st' := [.inl (i + 5), .inr (.inr (some 3000)), .inl ((xs ((i + 4).toNat)).toInt), .inl ((xs ((i + 3).toNat)).toInt), .inl ((xs ((i + 2).toNat)).toInt), .inl ((xs ((i + 1).toNat)).toInt), .inr (.inr (some 79))]) (w' := (SH, dt7)) rfl ?_
    have r111 := i32_R (xs ((i + 5).toNat))
    refine go_smpq PM267 (L' := [some (.inr (.inr (some 3000))), some (.inr (.inr (some 0))), some (.inr (.inr (some 79))), some (.inl i)]) (st' := [.inl ((xs ((i + 5).toNat)).toInt), .inl ((xs ((i + 4).toNat)).toInt), .inl ((xs ((i + 3).toNat)).toInt), .inl ((xs ((i + 2).toNat)).toInt), .inl ((xs ((i + 1).toNat)).toInt), .inr (.inr (some 79))]) (w' := (SH, dt7)) rfl rfl (s_iald (n := L) (f := fun j => (xs j).toInt) (am_scr hLL) ⟨by omega, by omega⟩) ?_
    refine go_callq PM267 PM193 (Q' := _) rfl rfl rfl rfl (sp_X6_question_u L xs sio (d + 36) dt7 hI8 hM11  ((xs ((i + 1).toNat)).toInt) ⟨by omega, by omega⟩ ((xs ((i + 2).toNat)).toInt) ⟨by omega, by omega⟩ ((xs ((i + 3).toNat)).toInt) ⟨by omega, by omega⟩ ((xs ((i + 4).toNat)).toInt) ⟨by omega, by omega⟩ ((xs ((i + 5).toNat)).toInt) ⟨by omega, by omega⟩ ) ?_
    rintro _ _ ⟨dt113, rfl, hI114, hF115, h112⟩
    refine ⟨rfl, ?_⟩
    have hF116 : Fr [0, 1, 2, 3, 4, 5, 6, 7, 8, 9, 10, 11, 12, 13, 14, 15, 16, 17, 18, 19, 20, 21, 22, 23, 24, 25, 26, 27, 28, 29, 30, 31, 32, 33, 34, 35, 36, 37, 38, 39, 40, 41, 42, 43, 44, 45, 46, 47, 48, 49, 50, 51, 52, 53, 54, 55, 56, 57, 58, 59, 60, 61, 62, 63, 64, 65, 66, 67, 68, 69, 70, 71, 72, 73, 74, 75, 76, 77, 78, 79, 80, 81, 82, 83, 84, 85, 86, 87, 88, 89, 90, 91, 92, 93, 94, 95, 96, 97, 98, 99, 100, 101, 102, 103, 104] dt dt113 := Fr_tr hF10 hF115 (by decide)
    have w117 : dt113 1 0 = dt7 1 0 := hF115 1 (by decide) 0
    have w118 : dt113 7 3 = dt7 7 3 := hF115 7 (by decide) 3
    have w119 : dt113 10 3 = dt7 10 3 := hF115 10 (by decide) 3
    have w120 : dt113 12 3 = dt7 12 3 := hF115 12 (by decide) 3
    have w121 : dt113 14 3 = dt7 14 3 := hF115 14 (by decide) 3
    have w122 : dt113 16 3 = dt7 16 3 := hF115 16 (by decide) 3
    have w123 : dt113 18 0 = dt7 18 0 := hF115 18 (by decide) 0
    have w124 : dt113 24 3 = dt7 24 3 := hF115 24 (by decide) 3
    have w125 : dt113 27 3 = dt7 27 3 := hF115 27 (by decide) 3
    have w126 : dt113 29 3 = dt7 29 3 := hF115 29 (by decide) 3
    have w127 : dt113 31 3 = dt7 31 3 := hF115 31 (by decide) 3
    have w128 : dt113 33 3 = dt7 33 3 := hF115 33 (by decide) 3
    have w129 : dt113 0 2 = dt7 0 2 := hF115 0 (by decide) 2
    have w130 : dt113 35 1 = dt7 35 1 := hF115 35 (by decide) 1
    have w131 : dt113 81 0 = dt7 81 0 := hF115 81 (by decide) 0
    have w132 : dt113 81 1 = dt7 81 1 := hF115 81 (by decide) 1
    have w133 : dt113 81 2 = dt7 81 2 := hF115 81 (by decide) 2
    have w134 : dt113 81 3 = dt7 81 3 := hF115 81 (by decide) 3
    have w135 : dt113 81 4 = dt7 81 4 := hF115 81 (by decide) 4
    have w136 : dt113 81 5 = dt7 81 5 := hF115 81 (by decide) 5
    have w137 : dt113 79 2 = dt7 79 2 := hF115 79 (by decide) 2
    have w138 : dt113 79 12 = dt7 79 12 := hF115 79 (by decide) 12
    rcases h112 with ⟨rfl, h112⟩ | ⟨v_h112, rfl, h112r, h112⟩
    · skip
      have hM139 : MW (dt113 80) := h112.2.1
      obtain ⟨h112_0, h112_1, h112_2, h112_3, h112_4, h112_5, h112_6, h112_7, h112_8⟩ := h112
      replace h112_0 := hid h112_0
      have M2140 : MW (dt113 81) := MW_frk M298 hF115 (by decide)
      have C141 : ∀ j : Nat, dt113 15 j = dt 15 j := fun j => (hF115 15 (by decide) j).trans (C99 j)
      have C142 : ∀ j : Nat, dt113 17 j = dt 17 j := fun j => (hF115 17 (by decide) j).trans (C100 j)
      have C143 : ∀ j : Nat, dt113 32 j = dt 32 j := fun j => (hF115 32 (by decide) j).trans (C101 j)
      have C144 : ∀ j : Nat, dt113 34 j = dt 34 j := fun j => (hF115 34 (by decide) j).trans (C102 j)
      have F145 : ∀ j : Nat, 7340 ≤ j → dt113 81 j = dt 81 j := fun j hj => (hF115 81 (by decide) j).trans (F103 j hj)
      have F146 : ∀ j : Nat, 7340 ≤ j → dt113 80 j = dt 80 j := fun j hj => (h112_8 j hj).trans (F104 j hj)
      have F147 : ∀ j : Nat, dt113 81 j = dt 81 j := fun j => (hF115 81 (by decide) j).trans (F106 j)
      refine go_toq PM267 (k := 2) (pc' := 1435) (L' := [some (.inr (.inr (some 3000))), some (.inr (.inr (some 0))), some (.inr (.inr (some 79))), some (.inl i)]) (st' := []) (w' := (SH, dt113)) rfl ?_
      exact K dt113 hI114 hM139 M2140 (by first | (first | omega | (have z0_ := unhid h112_0; omega)) | (simp only [*]; done) | simp only [*]) (by (first | omega | (have z0_ := unhid h112_0; omega))) (by (first | omega | (have z0_ := unhid h112_0; omega))) (by (first | omega | (have z0_ := unhid h112_0; omega))) (by (first | omega | (have z0_ := unhid h112_0; omega))) (by (first | omega | (have z0_ := unhid h112_0; omega))) (by (first | omega | (have z0_ := unhid h112_0; omega))) (by (first | omega | (have z0_ := unhid h112_0; omega))) (by (first | omega | (have z0_ := unhid h112_0; omega))) (by (first | omega | (have z0_ := unhid h112_0; omega))) (by (first | omega | (have z0_ := unhid h112_0; omega))) (by (first | omega | (have z0_ := unhid h112_0; omega))) (by (first | omega | (have z0_ := unhid h112_0; omega))) (by (first | omega | (have z0_ := unhid h112_0; omega))) (by first | exact hI | exact RW2_k hd0 C141 F146 (by decide) (by (first | omega | (have z0_ := unhid h112_0; omega))) | (exfalso; (first | omega | (have z0_ := unhid h112_0; omega)))) (by first | exact hI | exact RW2_k hd1 C143 F145 (by decide) (by (first | omega | (have z0_ := unhid h112_0; omega))) | (exfalso; (first | omega | (have z0_ := unhid h112_0; omega)))) (by first | exact hI | exact RW2_k hd2 C142 F146 (by decide) (by (first | omega | (have z0_ := unhid h112_0; omega))) | (exfalso; (first | omega | (have z0_ := unhid h112_0; omega)))) (by first | exact hI | exact RW2_k hd3 C144 F145 (by decide) (by (first | omega | (have z0_ := unhid h112_0; omega))) | (exfalso; (first | omega | (have z0_ := unhid h112_0; omega))))
    · skip
      have hM148 : MW (dt113 80) := h112.2.2.1
      obtain ⟨h112_0, h112_1, h112_2, h112_3, h112_4, h112_5, h112_6, h112_7, h112_8, h112_9⟩ := h112
      have M2149 : MW (dt113 81) := MW_frk M298 hF115 (by decide)
      have C150 : ∀ j : Nat, dt113 15 j = dt 15 j := fun j => (hF115 15 (by decide) j).trans (C99 j)
      have C151 : ∀ j : Nat, dt113 17 j = dt 17 j := fun j => (hF115 17 (by decide) j).trans (C100 j)
      have C152 : ∀ j : Nat, dt113 32 j = dt 32 j := fun j => (hF115 32 (by decide) j).trans (C101 j)
      have C153 : ∀ j : Nat, dt113 34 j = dt 34 j := fun j => (hF115 34 (by decide) j).trans (C102 j)
      have F154 : ∀ j : Nat, 7340 ≤ j → dt113 81 j = dt 81 j := fun j hj => (hF115 81 (by decide) j).trans (F103 j hj)
      have F155 : ∀ j : Nat, 7340 ≤ j → dt113 80 j = dt 80 j := fun j hj => (h112_9 j hj).trans (F104 j hj)
      have F156 : ∀ j : Nat, dt113 81 j = dt 81 j := fun j => (hF115 81 (by decide) j).trans (F106 j)
      refine go_toq PM267 (k := 2) (pc' := 1435) (L' := [some (.inr (.inr (some 3000))), some (.inr (.inr (some 0))), some (.inr (.inr (some 79))), some (.inl i)]) (st' := []) (w' := (SH, dt113)) rfl ?_
      exact K dt113 hI114 hM148 M2149 (by first | omega | (simp only [*]; done) | simp only [*]) (by omega) (by omega) (by omega) (by omega) (by omega) (by omega) (by omega) (by omega) (by omega) (by omega) (by omega) (by omega) (by omega) (by first | exact hI | exact RW2_k hd0 C150 F155 (by decide) (by omega) | (exfalso; omega)) (by first | exact hI | exact RW2_k hd1 C152 F154 (by decide) (by omega) | (exfalso; omega)) (by first | exact hI | exact RW2_k hd2 C151 F155 (by decide) (by omega) | (exfalso; omega)) (by first | exact hI | exact RW2_k hd3 C153 F154 (by decide) (by omega) | (exfalso; omega))
set_option maxRecDepth 20000 in
set_option maxHeartbeats 8000000 in
theorem sp_case9 (L : Nat) (xs : Nat → Int32) (sio : Option Nat) (d : Nat) (Q : Option AV → am_W → Prop) (hLL : L ≤ 3072) (i : Int) (hi : 0 ≤ i ∧ i ≤ 3066) (hil : i ≤ (L : Int) - 6) (dt : Nat → Nat → Int) (hI : InvC dt) (hM : MW (dt 80)) (hM2 : MW (dt 81)) (hk0 : dt 1 0 = dt 80 0) (hk1 : dt 7 3 = dt 80 1) (hk2 : dt 10 3 = dt 80 2) (hk3 : dt 12 3 = dt 80 3) (hk4 : dt 14 3 = dt 80 4) (hk5 : dt 16 3 = dt 80 5) (hk6 : dt 18 0 = dt 81 0) (hk7 : dt 24 3 = dt 81 1) (hk8 : dt 27 3 = dt 81 2) (hk9 : dt 29 3 = dt 81 3) (hk10 : dt 31 3 = dt 81 4) (hk11 : dt 33 3 = dt 81 5) (hk12 : dt 0 2 = dt 79 2) (hk13 : dt 35 1 = dt 79 12) (hd0 : RW2 (dt 15) (dt 80) (dt 80 4) 7340) (hd1 : RW2 (dt 32) (dt 81) (dt 81 4) 7340) (hd2 : RW2 (dt 17) (dt 80) (dt 80 5) 7420) (hd3 : RW2 (dt 34) (dt 81) (dt 81 5) 7420) (K : ∀ (dt : Nat → Nat → Int) (hI : InvC dt) (hM : MW (dt 80)) (hM2 : MW (dt 81)) (hk0 : dt 1 0 = dt 80 0) (hk1 : dt 7 3 = dt 80 1) (hk2 : dt 10 3 = dt 80 2) (hk3 : dt 12 3 = dt 80 3) (hk4 : dt 14 3 = dt 80 4) (hk5 : dt 16 3 = dt 80 5) (hk6 : dt 18 0 = dt 81 0) (hk7 : dt 24 3 = dt 81 1) (hk8 : dt 27 3 = dt 81 2) (hk9 : dt 29 3 = dt 81 3) (hk10 : dt 31 3 = dt 81 4) (hk11 : dt 33 3 = dt 81 5) (hk12 : dt 0 2 = dt 79 2) (hk13 : dt 35 1 = dt 79 12) (hd0 : RW2 (dt 15) (dt 80) (dt 80 4) 7340) (hd1 : RW2 (dt 32) (dt 81) (dt 81 4) 7340) (hd2 : RW2 (dt 17) (dt 80) (dt 80 5) 7420) (hd3 : RW2 (dt 34) (dt 81) (dt 81 5) 7420), GO (am_XX L xs sio) (d + 39) 267 1435 [some (.inr (.inr (some 3000))), some (.inr (.inr (some 0))), some (.inr (.inr (some 79))), some (.inl i)] [] (SH, dt) Q) : GO (am_XX L xs sio) (d + 39) 267 557 [some (.inr (.inr (some 3000))), some (.inr (.inr (some 0))), some (.inr (.inr (some 79))), some (.inl i)] [] (SH, dt) Q := by
  have hF : Fr [0, 1, 2, 3, 4, 5, 6, 7, 8, 9, 10, 11, 12, 13, 14, 15, 16, 17, 18, 19, 20, 21, 22, 23, 24, 25, 26, 27, 28, 29, 30, 31, 32, 33, 34, 35, 36, 37, 38, 39, 40, 41, 42, 43, 44, 45, 46, 47, 48, 49, 50, 51, 52, 53, 54, 55, 56, 57, 58, 59, 60, 61, 62, 63, 64, 65, 66, 67, 68, 69, 70, 71, 72, 73, 74, 75, 76, 77, 78, 79, 80, 81, 82, 83, 84, 85, 86, 87, 88, 89, 90, 91, 92, 93, 94, 95, 96, 97, 98, 99, 100, 101, 102, 103, 104] dt dt := Fr_refl
  have hmn := MW_n hM
  have hmn2 := MW_n hM2
  refine go_toq PM267 (k := 5) (pc' := 562) (L' := [some (.inr (.inr (some 3000))), some (.inr (.inr (some 0))), some (.inr (.inr (some 79))), some (.inl i)]) (st' := [.inl (i + 1), .inr (.inr (some 3000)), .inr (.inr (some 0))]) (w' := (SH, dt)) rfl ?_
  have r1 := i32_R (xs ((i + 1).toNat))
  refine go_smpq PM267 (L' := [some (.inr (.inr (some 3000))), some (.inr (.inr (some 0))), some (.inr (.inr (some 79))), some (.inl i)]) (st' := [.inl ((xs ((i + 1).toNat)).toInt), .inr (.inr (some 0))]) (w' := (SH, dt)) rfl rfl (s_iald (n := L) (f := fun j => (xs j).toInt) (am_scr hLL) ⟨by omega, by omega⟩) ?_
  refine go_toq PM267 (k := 4) (pc' := 567) (L' := [some (.inr (.inr (some 3000))), some (.inr (.inr (some 0))), some (.inr (.inr (some 79))), some (.inl i)]) (st' := [.inl (i + 2), .inr (.inr (some 3000)), .inl ((xs ((i + 1).toNat)).toInt), .inr (.inr (some 0))]) (w' := (SH, dt)) rfl ?_
  have r2 := i32_R (xs ((i + 2).toNat))
  refine go_smpq PM267 (L' := [some (.inr (.inr (some 3000))), some (.inr (.inr (some 0))), some (.inr (.inr (some 79))), some (.inl i)]) (st' := [.inl ((xs ((i + 2).toNat)).toInt), .inl ((xs ((i + 1).toNat)).toInt), .inr (.inr (some 0))]) (w' := (SH, dt)) rfl rfl (s_iald (n := L) (f := fun j => (xs j).toInt) (am_scr hLL) ⟨by omega, by omega⟩) ?_
  refine go_callq PM267 PM76 (Q' := _) rfl rfl rfl rfl (sp_X5_says L xs sio (d + 36) dt hI  ((xs ((i + 1).toNat)).toInt) ⟨by omega, by omega⟩ ((xs ((i + 2).toNat)).toInt) ⟨by omega, by omega⟩ ) ?_
  rintro _ _ ⟨rfl, h3⟩
  refine ⟨rfl, ?_⟩
  rcases h3 with ⟨v_h3, rfl, h3r, h3⟩
  refine go_toq PM267 (k := 6) (pc' := 577) (L' := [some (.inr (.inr (some 3000))), some (.inr (.inr (some 0))), some (.inr (.inr (some 79))), some (.inl i)]) (st' := [.inl (i + 1), .inr (.inr (some 3000)), .inr (.inr (some 79))]) (w' := (SH, dt)) rfl ?_
  refine go_smpq PM267 (L' := [some (.inr (.inr (some 3000))), some (.inr (.inr (some 0))), some (.inr (.inr (some 79))), some (.inl i)]) (st' := [.inl ((xs ((i + 1).toNat)).toInt), .inr (.inr (some 79))]) (w' := (SH, dt)) rfl rfl (s_iald (n := L) (f := fun j => (xs j).toInt) (am_scr hLL) ⟨by omega, by omega⟩) ?_
  refine go_toq PM267 (k := 4) (pc' := 582) (L' := [some (.inr (.inr (some 3000))), some (.inr (.inr (some 0))), some (.inr (.inr (some 79))), some (.inl i)]) (st' := [.inl (i + 2), .inr (.inr (some 3000)), .inl ((xs ((i + 1).toNat)).toInt), .inr (.inr (some 79))]) (w' := (SH, dt)) rfl ?_
  refine go_smpq PM267 (L' := [some (.inr (.inr (some 3000))), some (.inr (.inr (some 0))), some (.inr (.inr (some 79))), some (.inl i)]) (st' := [.inl ((xs ((i + 2).toNat)).toInt), .inl ((xs ((i + 1).toNat)).toInt), .inr (.inr (some 79))]) (w' := (SH, dt)) rfl rfl (s_iald (n := L) (f := fun j => (xs j).toInt) (am_scr hLL) ⟨by omega, by omega⟩) ?_
  refine go_callq PM267 PM197 (Q' := _) rfl rfl rfl rfl (sp_X6_says L xs sio (d + 32) dt hI hM  ((xs ((i + 1).toNat)).toInt) ⟨by omega, by omega⟩ ((xs ((i + 2).toNat)).toInt) ⟨by omega, by omega⟩ ) ?_
  rintro _ _ ⟨dt5, rfl, hI6, hF7, h4⟩
  refine ⟨rfl, ?_⟩
  have hF8 : Fr [0, 1, 2, 3, 4, 5, 6, 7, 8, 9, 10, 11, 12, 13, 14, 15, 16, 17, 18, 19, 20, 21, 22, 23, 24, 25, 26, 27, 28, 29, 30, 31, 32, 33, 34, 35, 36, 37, 38, 39, 40, 41, 42, 43, 44, 45, 46, 47, 48, 49, 50, 51, 52, 53, 54, 55, 56, 57, 58, 59, 60, 61, 62, 63, 64, 65, 66, 67, 68, 69, 70, 71, 72, 73, 74, 75, 76, 77, 78, 79, 80, 81, 82, 83, 84, 85, 86, 87, 88, 89, 90, 91, 92, 93, 94, 95, 96, 97, 98, 99, 100, 101, 102, 103, 104] dt dt5 := Fr_tr hF hF7 (by decide)
  have hM9 : MW (dt5 80) := MW_fr hM hF7 (by decide)
  have w10 : dt5 1 0 = dt 1 0 := hF7 1 (by decide) 0
  have w11 : dt5 7 3 = dt 7 3 := hF7 7 (by decide) 3
  have w12 : dt5 10 3 = dt 10 3 := hF7 10 (by decide) 3
  have w13 : dt5 12 3 = dt 12 3 := hF7 12 (by decide) 3
  have w14 : dt5 14 3 = dt 14 3 := hF7 14 (by decide) 3
  have w15 : dt5 16 3 = dt 16 3 := hF7 16 (by decide) 3
  have w16 : dt5 18 0 = dt 18 0 := hF7 18 (by decide) 0
  have w17 : dt5 24 3 = dt 24 3 := hF7 24 (by decide) 3
  have w18 : dt5 27 3 = dt 27 3 := hF7 27 (by decide) 3
  have w19 : dt5 29 3 = dt 29 3 := hF7 29 (by decide) 3
  have w20 : dt5 31 3 = dt 31 3 := hF7 31 (by decide) 3
  have w21 : dt5 33 3 = dt 33 3 := hF7 33 (by decide) 3
  have w22 : dt5 0 2 = dt 0 2 := hF7 0 (by decide) 2
  have w23 : dt5 35 1 = dt 35 1 := hF7 35 (by decide) 1
  have w24 : dt5 80 0 = dt 80 0 := hF7 80 (by decide) 0
  have w25 : dt5 80 1 = dt 80 1 := hF7 80 (by decide) 1
  have w26 : dt5 80 2 = dt 80 2 := hF7 80 (by decide) 2
  have w27 : dt5 80 3 = dt 80 3 := hF7 80 (by decide) 3
  have w28 : dt5 80 4 = dt 80 4 := hF7 80 (by decide) 4
  have w29 : dt5 80 5 = dt 80 5 := hF7 80 (by decide) 5
  have w30 : dt5 81 0 = dt 81 0 := hF7 81 (by decide) 0
  have w31 : dt5 81 1 = dt 81 1 := hF7 81 (by decide) 1
  have w32 : dt5 81 2 = dt 81 2 := hF7 81 (by decide) 2
  have w33 : dt5 81 3 = dt 81 3 := hF7 81 (by decide) 3
  have w34 : dt5 81 4 = dt 81 4 := hF7 81 (by decide) 4
  have w35 : dt5 81 5 = dt 81 5 := hF7 81 (by decide) 5
  have w36 : dt5 79 2 = dt 79 2 := hF7 79 (by decide) 2
  have w37 : dt5 79 12 = dt 79 12 := hF7 79 (by decide) 12
  rcases h4 with ⟨v_h4, rfl, h4r, h4⟩
  have M238 : MW (dt5 81) := MW_frk hM2 hF7 (by decide)
  have C39 : ∀ j : Nat, dt5 15 j = dt 15 j := fun j => (hF7 15 (by decide) j).trans ((fun _ => rfl) j)
  have C40 : ∀ j : Nat, dt5 17 j = dt 17 j := fun j => (hF7 17 (by decide) j).trans ((fun _ => rfl) j)
  have C41 : ∀ j : Nat, dt5 32 j = dt 32 j := fun j => (hF7 32 (by decide) j).trans ((fun _ => rfl) j)
  have C42 : ∀ j : Nat, dt5 34 j = dt 34 j := fun j => (hF7 34 (by decide) j).trans ((fun _ => rfl) j)
  have F43 : ∀ j : Nat, 7340 ≤ j → dt5 81 j = dt 81 j := fun j hj => (hF7 81 (by decide) j).trans ((fun _ _ => rfl) j hj)
  have F44 : ∀ j : Nat, 7340 ≤ j → dt5 80 j = dt 80 j := fun j hj => (hF7 80 (by decide) j).trans ((fun _ _ => rfl) j hj)
  have F45 : ∀ j : Nat, dt5 80 j = dt 80 j := fun j => (hF7 80 (by decide) j).trans ((fun _ => rfl) j)
  have F46 : ∀ j : Nat, dt5 81 j = dt 81 j := fun j => (hF7 81 (by decide) j).trans ((fun _ => rfl) j)
  refine go_toq PM267 (k := 2) (pc' := 1435) (L' := [some (.inr (.inr (some 3000))), some (.inr (.inr (some 0))), some (.inr (.inr (some 79))), some (.inl i)]) (st' := []) (w' := (SH, dt5)) rfl ?_
  exact K dt5 hI6 hM9 M238 (by first | omega | (simp only [*]; done) | simp only [*]) (by omega) (by omega) (by omega) (by omega) (by omega) (by omega) (by omega) (by omega) (by omega) (by omega) (by omega) (by omega) (by omega) (by first | exact hI | exact RW2_k hd0 C39 F44 (by decide) (by omega) | (exfalso; omega)) (by first | exact hI | exact RW2_k hd1 C41 F43 (by decide) (by omega) | (exfalso; omega)) (by first | exact hI | exact RW2_k hd2 C40 F44 (by decide) (by omega) | (exfalso; omega)) (by first | exact hI | exact RW2_k hd3 C42 F43 (by decide) (by omega) | (exfalso; omega))
set_option maxRecDepth 20000 in
set_option maxHeartbeats 8000000 in
theorem sp_case10 (L : Nat) (xs : Nat → Int32) (sio : Option Nat) (d : Nat) (Q : Option AV → am_W → Prop) (hLL : L ≤ 3072) (i : Int) (hi : 0 ≤ i ∧ i ≤ 3066) (hil : i ≤ (L : Int) - 6) (dt : Nat → Nat → Int) (hI : InvC dt) (hM : MW (dt 80)) (hM2 : MW (dt 81)) (hk0 : dt 1 0 = dt 80 0) (hk1 : dt 7 3 = dt 80 1) (hk2 : dt 10 3 = dt 80 2) (hk3 : dt 12 3 = dt 80 3) (hk4 : dt 14 3 = dt 80 4) (hk5 : dt 16 3 = dt 80 5) (hk6 : dt 18 0 = dt 81 0) (hk7 : dt 24 3 = dt 81 1) (hk8 : dt 27 3 = dt 81 2) (hk9 : dt 29 3 = dt 81 3) (hk10 : dt 31 3 = dt 81 4) (hk11 : dt 33 3 = dt 81 5) (hk12 : dt 0 2 = dt 79 2) (hk13 : dt 35 1 = dt 79 12) (hd0 : RW2 (dt 15) (dt 80) (dt 80 4) 7340) (hd1 : RW2 (dt 32) (dt 81) (dt 81 4) 7340) (hd2 : RW2 (dt 17) (dt 80) (dt 80 5) 7420) (hd3 : RW2 (dt 34) (dt 81) (dt 81 5) 7420) (K : ∀ (dt : Nat → Nat → Int) (hI : InvC dt) (hM : MW (dt 80)) (hM2 : MW (dt 81)) (hk0 : dt 1 0 = dt 80 0) (hk1 : dt 7 3 = dt 80 1) (hk2 : dt 10 3 = dt 80 2) (hk3 : dt 12 3 = dt 80 3) (hk4 : dt 14 3 = dt 80 4) (hk5 : dt 16 3 = dt 80 5) (hk6 : dt 18 0 = dt 81 0) (hk7 : dt 24 3 = dt 81 1) (hk8 : dt 27 3 = dt 81 2) (hk9 : dt 29 3 = dt 81 3) (hk10 : dt 31 3 = dt 81 4) (hk11 : dt 33 3 = dt 81 5) (hk12 : dt 0 2 = dt 79 2) (hk13 : dt 35 1 = dt 79 12) (hd0 : RW2 (dt 15) (dt 80) (dt 80 4) 7340) (hd1 : RW2 (dt 32) (dt 81) (dt 81 4) 7340) (hd2 : RW2 (dt 17) (dt 80) (dt 80 5) 7420) (hd3 : RW2 (dt 34) (dt 81) (dt 81 5) 7420), GO (am_XX L xs sio) (d + 39) 267 1435 [some (.inr (.inr (some 3000))), some (.inr (.inr (some 0))), some (.inr (.inr (some 79))), some (.inl i)] [] (SH, dt) Q) : GO (am_XX L xs sio) (d + 39) 267 590 [some (.inr (.inr (some 3000))), some (.inr (.inr (some 0))), some (.inr (.inr (some 79))), some (.inl i)] [] (SH, dt) Q := by
  have hF : Fr [0, 1, 2, 3, 4, 5, 6, 7, 8, 9, 10, 11, 12, 13, 14, 15, 16, 17, 18, 19, 20, 21, 22, 23, 24, 25, 26, 27, 28, 29, 30, 31, 32, 33, 34, 35, 36, 37, 38, 39, 40, 41, 42, 43, 44, 45, 46, 47, 48, 49, 50, 51, 52, 53, 54, 55, 56, 57, 58, 59, 60, 61, 62, 63, 64, 65, 66, 67, 68, 69, 70, 71, 72, 73, 74, 75, 76, 77, 78, 79, 80, 81, 82, 83, 84, 85, 86, 87, 88, 89, 90, 91, 92, 93, 94, 95, 96, 97, 98, 99, 100, 101, 102, 103, 104] dt dt := Fr_refl
  have hmn := MW_n hM
  have hmn2 := MW_n hM2
  refine go_toq PM267 (k := 5) (pc' := 595) (L' := [some (.inr (.inr (some 3000))), some (.inr (.inr (some 0))), some (.inr (.inr (some 79))), some (.inl i)]) (st' := [.inl (i + 1), .inr (.inr (some 3000)), .inr (.inr (some 0))]) (w' := (SH, dt)) rfl ?_
  have r1 := i32_R (xs ((i + 1).toNat))
  refine go_smpq PM267 (L' := [some (.inr (.inr (some 3000))), some (.inr (.inr (some 0))), some (.inr (.inr (some 79))), some (.inl i)]) (st' := [.inl ((xs ((i + 1).toNat)).toInt), .inr (.inr (some 0))]) (w' := (SH, dt)) rfl rfl (s_iald (n := L) (f := fun j => (xs j).toInt) (am_scr hLL) ⟨by omega, by omega⟩) ?_
  refine go_toq PM267 (k := 4) (pc' := 600) (L' := [some (.inr (.inr (some 3000))), some (.inr (.inr (some 0))), some (.inr (.inr (some 79))), some (.inl i)]) (st' := [.inl (i + 2), .inr (.inr (some 3000)), .inl ((xs ((i + 1).toNat)).toInt), .inr (.inr (some 0))]) (w' := (SH, dt)) rfl ?_
  have r2 := i32_R (xs ((i + 2).toNat))
  refine go_smpq PM267 (L' := [some (.inr (.inr (some 3000))), some (.inr (.inr (some 0))), some (.inr (.inr (some 79))), some (.inl i)]) (st' := [.inl ((xs ((i + 2).toNat)).toInt), .inl ((xs ((i + 1).toNat)).toInt), .inr (.inr (some 0))]) (w' := (SH, dt)) rfl rfl (s_iald (n := L) (f := fun j => (xs j).toInt) (am_scr hLL) ⟨by omega, by omega⟩) ?_
  refine go_toq PM267 (k := 4) (pc' := 605) (L' := [some (.inr (.inr (some 3000))), some (.inr (.inr (some 0))), some (.inr (.inr (some 79))), some (.inl i)]) (st' := [.inl (i + 3), .inr (.inr (some 3000)), .inl ((xs ((i + 2).toNat)).toInt), .inl ((xs ((i + 1).toNat)).toInt), .inr (.inr (some 0))]) (w' := (SH, dt)) rfl ?_
  have r3 := i32_R (xs ((i + 3).toNat))
  refine go_smpq PM267 (L' := [some (.inr (.inr (some 3000))), some (.inr (.inr (some 0))), some (.inr (.inr (some 79))), some (.inl i)]) (st' := [.inl ((xs ((i + 3).toNat)).toInt), .inl ((xs ((i + 2).toNat)).toInt), .inl ((xs ((i + 1).toNat)).toInt), .inr (.inr (some 0))]) (w' := (SH, dt)) rfl rfl (s_iald (n := L) (f := fun j => (xs j).toInt) (am_scr hLL) ⟨by omega, by omega⟩) ?_
  refine go_toq PM267 (k := 4) (pc' := 610) (L' := [some (.inr (.inr (some 3000))), some (.inr (.inr (some 0))), some (.inr (.inr (some 79))), some (.inl i)]) (st' := [.inl (i + 4), .inr (.inr (some 3000)), .inl ((xs ((i + 3).toNat)).toInt), .inl ((xs ((i + 2).toNat)).toInt), .inl ((xs ((i + 1).toNat)).toInt), .inr (.inr (some 0))]) (w' := (SH, dt)) rfl ?_
  have r4 := i32_R (xs ((i + 4).toNat))
  refine go_smpq PM267 (L' := [some (.inr (.inr (some 3000))), some (.inr (.inr (some 0))), some (.inr (.inr (some 79))), some (.inl i)]) (st' := [.inl ((xs ((i + 4).toNat)).toInt), .inl ((xs ((i + 3).toNat)).toInt), .inl ((xs ((i + 2).toNat)).toInt), .inl ((xs ((i + 1).toNat)).toInt), .inr (.inr (some 0))]) (w' := (SH, dt)) rfl rfl (s_iald (n := L) (f := fun j => (xs j).toInt) (am_scr hLL) ⟨by omega, by omega⟩) ?_
  refine go_callq PM267 PM77 (Q' := _) rfl rfl rfl rfl (sp_X5_child L xs sio (d + 36) dt hI  ((xs ((i + 1).toNat)).toInt) ⟨by omega, by omega⟩ ((xs ((i + 2).toNat)).toInt) ⟨by omega, by omega⟩ ((xs ((i + 3).toNat)).toInt) ⟨by omega, by omega⟩ ((xs ((i + 4).toNat)).toInt) ⟨by omega, by omega⟩ ) ?_
  rintro _ _ ⟨dt6, rfl, hI7, hF8, h5⟩
  refine ⟨rfl, ?_⟩
  have hF9 : Fr [0, 1, 2, 3, 4, 5, 6, 7, 8, 9, 10, 11, 12, 13, 14, 15, 16, 17, 18, 19, 20, 21, 22, 23, 24, 25, 26, 27, 28, 29, 30, 31, 32, 33, 34, 35, 36, 37, 38, 39, 40, 41, 42, 43, 44, 45, 46, 47, 48, 49, 50, 51, 52, 53, 54, 55, 56, 57, 58, 59, 60, 61, 62, 63, 64, 65, 66, 67, 68, 69, 70, 71, 72, 73, 74, 75, 76, 77, 78, 79, 80, 81, 82, 83, 84, 85, 86, 87, 88, 89, 90, 91, 92, 93, 94, 95, 96, 97, 98, 99, 100, 101, 102, 103, 104] dt dt6 := Fr_tr hF hF8 (by decide)
  have hM10 : MW (dt6 80) := MW_fr hM hF8 (by decide)
  have w11 : dt6 1 0 = dt 1 0 := hF8 1 (by decide) 0
  have w12 : dt6 7 3 = dt 7 3 := hF8 7 (by decide) 3
  have w13 : dt6 12 3 = dt 12 3 := hF8 12 (by decide) 3
  have w14 : dt6 14 3 = dt 14 3 := hF8 14 (by decide) 3
  have w15 : dt6 16 3 = dt 16 3 := hF8 16 (by decide) 3
  have w16 : dt6 18 0 = dt 18 0 := hF8 18 (by decide) 0
  have w17 : dt6 24 3 = dt 24 3 := hF8 24 (by decide) 3
  have w18 : dt6 27 3 = dt 27 3 := hF8 27 (by decide) 3
  have w19 : dt6 29 3 = dt 29 3 := hF8 29 (by decide) 3
  have w20 : dt6 31 3 = dt 31 3 := hF8 31 (by decide) 3
  have w21 : dt6 33 3 = dt 33 3 := hF8 33 (by decide) 3
  have w22 : dt6 0 2 = dt 0 2 := hF8 0 (by decide) 2
  have w23 : dt6 35 1 = dt 35 1 := hF8 35 (by decide) 1
  have w24 : dt6 80 0 = dt 80 0 := hF8 80 (by decide) 0
  have w25 : dt6 80 1 = dt 80 1 := hF8 80 (by decide) 1
  have w26 : dt6 80 2 = dt 80 2 := hF8 80 (by decide) 2
  have w27 : dt6 80 3 = dt 80 3 := hF8 80 (by decide) 3
  have w28 : dt6 80 4 = dt 80 4 := hF8 80 (by decide) 4
  have w29 : dt6 80 5 = dt 80 5 := hF8 80 (by decide) 5
  have w30 : dt6 81 0 = dt 81 0 := hF8 81 (by decide) 0
  have w31 : dt6 81 1 = dt 81 1 := hF8 81 (by decide) 1
  have w32 : dt6 81 2 = dt 81 2 := hF8 81 (by decide) 2
  have w33 : dt6 81 3 = dt 81 3 := hF8 81 (by decide) 3
  have w34 : dt6 81 4 = dt 81 4 := hF8 81 (by decide) 4
  have w35 : dt6 81 5 = dt 81 5 := hF8 81 (by decide) 5
  have w36 : dt6 79 2 = dt 79 2 := hF8 79 (by decide) 2
  have w37 : dt6 79 12 = dt 79 12 := hF8 79 (by decide) 12
  rcases h5 with ⟨rfl, h5⟩ | ⟨v_h5, rfl, h5r, h5⟩
  · skip
    obtain ⟨h5_0, h5_1⟩ := h5
    replace h5_0 := hid h5_0
    have M238 : MW (dt6 81) := MW_frk hM2 hF8 (by decide)
    have C39 : ∀ j : Nat, dt6 15 j = dt 15 j := fun j => (hF8 15 (by decide) j).trans ((fun _ => rfl) j)
    have C40 : ∀ j : Nat, dt6 17 j = dt 17 j := fun j => (hF8 17 (by decide) j).trans ((fun _ => rfl) j)
    have C41 : ∀ j : Nat, dt6 32 j = dt 32 j := fun j => (hF8 32 (by decide) j).trans ((fun _ => rfl) j)
    have C42 : ∀ j : Nat, dt6 34 j = dt 34 j := fun j => (hF8 34 (by decide) j).trans ((fun _ => rfl) j)
    have F43 : ∀ j : Nat, 7340 ≤ j → dt6 81 j = dt 81 j := fun j hj => (hF8 81 (by decide) j).trans ((fun _ _ => rfl) j hj)
    have F44 : ∀ j : Nat, 7340 ≤ j → dt6 80 j = dt 80 j := fun j hj => (hF8 80 (by decide) j).trans ((fun _ _ => rfl) j hj)
    have F45 : ∀ j : Nat, dt6 80 j = dt 80 j := fun j => (hF8 80 (by decide) j).trans ((fun _ => rfl) j)
    have F46 : ∀ j : Nat, dt6 81 j = dt 81 j := fun j => (hF8 81 (by decide) j).trans ((fun _ => rfl) j)
    refine go_toq PM267 (k := 6) (pc' := 620) (L' := [some (.inr (.inr (some 3000))), some (.inr (.inr (some 0))), some (.inr (.inr (some 79))), some (.inl i)]) (st' := [.inl (i + 1), .inr (.inr (some 3000)), .inr (.inr (some 79))]) (w' := (SH, dt6)) rfl ?_
    have r47 := i32_R (xs ((i + 1).toNat))
    refine go_smpq PM267 (L' := [some (.inr (.inr (some 3000))), some (.inr (.inr (some 0))), some (.inr (.inr (some 79))), some (.inl i)]) (st' := [.inl ((xs ((i + 1).toNat)).toInt), .inr (.inr (some 79))]) (w' := (SH, dt6)) rfl rfl (s_iald (n := L) (f := fun j => (xs j).toInt) (am_scr hLL) ⟨by (first | omega | (have z0_ := unhid h5_0; omega)), by (first | omega | (have z0_ := unhid h5_0; omega))⟩) ?_
    refine go_toq PM267 (k := 4) (pc' := 625) (L' := [some (.inr (.inr (some 3000))), some (.inr (.inr (some 0))), some (.inr (.inr (some 79))), some (.inl i)]) (st' := [.inl (i + 2), .inr (.inr (some 3000)), .inl ((xs ((i + 1).toNat)).toInt), .inr (.inr (some 79))]) (w' := (SH, dt6)) rfl ?_
    have r48 := i32_R (xs ((i + 2).toNat))
    refine go_smpq PM267 (L' := [some (.inr (.inr (some 3000))), some (.inr (.inr (some 0))), some (.inr (.inr (some 79))), some (.inl i)]) (st' := [.inl ((xs ((i + 2).toNat)).toInt), .inl ((xs ((i + 1).toNat)).toInt), .inr (.inr (some 79))]) (w' := (SH, dt6)) rfl rfl (s_iald (n := L) (f := fun j => (xs j).toInt) (am_scr hLL) ⟨by (first | omega | (have z0_ := unhid h5_0; omega)), by (first | omega | (have z0_ := unhid h5_0; omega))⟩) ?_
    refine go_toq PM267 (k := 4) (pc' := 630) (L' := [some (.inr (.inr (some 3000))), some (.inr (.inr (some 0))), some (.inr (.inr (some 79))), some (.inl i)]) (st' := [.inl (i + 3), .inr (.inr (some 3000)), .inl ((xs ((i + 2).toNat)).toInt), .inl ((xs ((i + 1).toNat)).toInt), .inr (.inr (some 79))]) (w' := (SH, dt6)) rfl ?_
    have r49 := i32_R (xs ((i + 3).toNat))
    refine go_smpq PM267 (L' := [some (.inr (.inr (some 3000))), some (.inr (.inr (some 0))), some (.inr (.inr (some 79))), some (.inl i)]) (st' := [.inl ((xs ((i + 3).toNat)).toInt), .inl ((xs ((i + 2).toNat)).toInt), .inl ((xs ((i + 1).toNat)).toInt), .inr (.inr (some 79))]) (w' := (SH, dt6)) rfl rfl (s_iald (n := L) (f := fun j => (xs j).toInt) (am_scr hLL) ⟨by (first | omega | (have z0_ := unhid h5_0; omega)), by (first | omega | (have z0_ := unhid h5_0; omega))⟩) ?_
    refine go_toq PM267 (k := 4) (pc' := 635) (L' := [some (.inr (.inr (some 3000))), some (.inr (.inr (some 0))), some (.inr (.inr (some 79))), some (.inl i)]) (st' := [.inl (i + 4), .inr (.inr (some 3000)), .inl ((xs ((i + 3).toNat)).toInt), .inl ((xs ((i + 2).toNat)).toInt), .inl ((xs ((i + 1).toNat)).toInt), .inr (.inr (some 79))]) (w' := (SH, dt6)) rfl ?_
    have r50 := i32_R (xs ((i + 4).toNat))
    refine go_smpq PM267 (L' := [some (.inr (.inr (some 3000))), some (.inr (.inr (some 0))), some (.inr (.inr (some 79))), some (.inl i)]) (st' := [.inl ((xs ((i + 4).toNat)).toInt), .inl ((xs ((i + 3).toNat)).toInt), .inl ((xs ((i + 2).toNat)).toInt), .inl ((xs ((i + 1).toNat)).toInt), .inr (.inr (some 79))]) (w' := (SH, dt6)) rfl rfl (s_iald (n := L) (f := fun j => (xs j).toInt) (am_scr hLL) ⟨by (first | omega | (have z0_ := unhid h5_0; omega)), by (first | omega | (have z0_ := unhid h5_0; omega))⟩) ?_
    refine go_callq PM267 PM202 (Q' := _) rfl rfl rfl rfl (sp_X6_child_u L xs sio (d + 36) dt6 hI7 hM10  ((xs ((i + 1).toNat)).toInt) ⟨by (first | omega | (have z0_ := unhid h5_0; omega)), by (first | omega | (have z0_ := unhid h5_0; omega))⟩ ((xs ((i + 2).toNat)).toInt) ⟨by (first | omega | (have z0_ := unhid h5_0; omega)), by (first | omega | (have z0_ := unhid h5_0; omega))⟩ ((xs ((i + 3).toNat)).toInt) ⟨by (first | omega | (have z0_ := unhid h5_0; omega)), by (first | omega | (have z0_ := unhid h5_0; omega))⟩ ((xs ((i + 4).toNat)).toInt) ⟨by (first | omega | (have z0_ := unhid h5_0; omega)), by (first | omega | (have z0_ := unhid h5_0; omega))⟩ ) ?_
    rintro _ _ ⟨dt52, rfl, hI53, hF54, h51⟩
    refine ⟨rfl, ?_⟩
    have hF55 : Fr [0, 1, 2, 3, 4, 5, 6, 7, 8, 9, 10, 11, 12, 13, 14, 15, 16, 17, 18, 19, 20, 21, 22, 23, 24, 25, 26, 27, 28, 29, 30, 31, 32, 33, 34, 35, 36, 37, 38, 39, 40, 41, 42, 43, 44, 45, 46, 47, 48, 49, 50, 51, 52, 53, 54, 55, 56, 57, 58, 59, 60, 61, 62, 63, 64, 65, 66, 67, 68, 69, 70, 71, 72, 73, 74, 75, 76, 77, 78, 79, 80, 81, 82, 83, 84, 85, 86, 87, 88, 89, 90, 91, 92, 93, 94, 95, 96, 97, 98, 99, 100, 101, 102, 103, 104] dt dt52 := Fr_tr hF9 hF54 (by decide)
    have w56 : dt52 1 0 = dt6 1 0 := hF54 1 (by decide) 0
    have w57 : dt52 7 3 = dt6 7 3 := hF54 7 (by decide) 3
    have w58 : dt52 10 3 = dt6 10 3 := hF54 10 (by decide) 3
    have w59 : dt52 12 3 = dt6 12 3 := hF54 12 (by decide) 3
    have w60 : dt52 14 3 = dt6 14 3 := hF54 14 (by decide) 3
    have w61 : dt52 16 3 = dt6 16 3 := hF54 16 (by decide) 3
    have w62 : dt52 18 0 = dt6 18 0 := hF54 18 (by decide) 0
    have w63 : dt52 24 3 = dt6 24 3 := hF54 24 (by decide) 3
    have w64 : dt52 27 3 = dt6 27 3 := hF54 27 (by decide) 3
    have w65 : dt52 29 3 = dt6 29 3 := hF54 29 (by decide) 3
    have w66 : dt52 31 3 = dt6 31 3 := hF54 31 (by decide) 3
    have w67 : dt52 33 3 = dt6 33 3 := hF54 33 (by decide) 3
    have w68 : dt52 0 2 = dt6 0 2 := hF54 0 (by decide) 2
    have w69 : dt52 35 1 = dt6 35 1 := hF54 35 (by decide) 1
    have w70 : dt52 81 0 = dt6 81 0 := hF54 81 (by decide) 0
    have w71 : dt52 81 1 = dt6 81 1 := hF54 81 (by decide) 1
    have w72 : dt52 81 2 = dt6 81 2 := hF54 81 (by decide) 2
    have w73 : dt52 81 3 = dt6 81 3 := hF54 81 (by decide) 3
    have w74 : dt52 81 4 = dt6 81 4 := hF54 81 (by decide) 4
    have w75 : dt52 81 5 = dt6 81 5 := hF54 81 (by decide) 5
    have w76 : dt52 79 2 = dt6 79 2 := hF54 79 (by decide) 2
    have w77 : dt52 79 12 = dt6 79 12 := hF54 79 (by decide) 12
    rcases h51 with ⟨rfl, h51⟩ | ⟨v_h51, rfl, h51r, h51⟩
    · skip
      have hM78 : MW (dt52 80) := h51.2.1
      obtain ⟨h51_0, h51_1, h51_2, h51_3, h51_4, h51_5, h51_6, h51_7, h51_8⟩ := h51
      replace h51_0 := hid h51_0
      have M279 : MW (dt52 81) := MW_frk M238 hF54 (by decide)
      have C80 : ∀ j : Nat, dt52 15 j = dt 15 j := fun j => (hF54 15 (by decide) j).trans (C39 j)
      have C81 : ∀ j : Nat, dt52 17 j = dt 17 j := fun j => (hF54 17 (by decide) j).trans (C40 j)
      have C82 : ∀ j : Nat, dt52 32 j = dt 32 j := fun j => (hF54 32 (by decide) j).trans (C41 j)
      have C83 : ∀ j : Nat, dt52 34 j = dt 34 j := fun j => (hF54 34 (by decide) j).trans (C42 j)
      have F84 : ∀ j : Nat, 7340 ≤ j → dt52 81 j = dt 81 j := fun j hj => (hF54 81 (by decide) j).trans (F43 j hj)
      have F85 : ∀ j : Nat, 7340 ≤ j → dt52 80 j = dt 80 j := fun j hj => (h51_8 j hj).trans (F44 j hj)
      have F86 : ∀ j : Nat, dt52 81 j = dt 81 j := fun j => (hF54 81 (by decide) j).trans (F46 j)
      refine go_toq PM267 (k := 2) (pc' := 1435) (L' := [some (.inr (.inr (some 3000))), some (.inr (.inr (some 0))), some (.inr (.inr (some 79))), some (.inl i)]) (st' := []) (w' := (SH, dt52)) rfl ?_
      exact K dt52 hI53 hM78 M279 (by first | (first | omega | (have z0_ := unhid h5_0; have z1_ := unhid h51_0; omega)) | (simp only [*]; done) | simp only [*]) (by (first | omega | (have z0_ := unhid h5_0; have z1_ := unhid h51_0; omega))) (by (first | omega | (have z0_ := unhid h5_0; have z1_ := unhid h51_0; omega))) (by (first | omega | (have z0_ := unhid h5_0; have z1_ := unhid h51_0; omega))) (by (first | omega | (have z0_ := unhid h5_0; have z1_ := unhid h51_0; omega))) (by (first | omega | (have z0_ := unhid h5_0; have z1_ := unhid h51_0; omega))) (by (first | omega | (have z0_ := unhid h5_0; have z1_ := unhid h51_0; omega))) (by (first | omega | (have z0_ := unhid h5_0; have z1_ := unhid h51_0; omega))) (by (first | omega | (have z0_ := unhid h5_0; have z1_ := unhid h51_0; omega))) (by (first | omega | (have z0_ := unhid h5_0; have z1_ := unhid h51_0; omega))) (by (first | omega | (have z0_ := unhid h5_0; have z1_ := unhid h51_0; omega))) (by (first | omega | (have z0_ := unhid h5_0; have z1_ := unhid h51_0; omega))) (by (first | omega | (have z0_ := unhid h5_0; have z1_ := unhid h51_0; omega))) (by (first | omega | (have z0_ := unhid h5_0; have z1_ := unhid h51_0; omega))) (by first | exact hI | exact RW2_k hd0 C80 F85 (by decide) (by (first | omega | (have z0_ := unhid h5_0; have z1_ := unhid h51_0; omega))) | (exfalso; (first | omega | (have z0_ := unhid h5_0; have z1_ := unhid h51_0; omega)))) (by first | exact hI | exact RW2_k hd1 C82 F84 (by decide) (by (first | omega | (have z0_ := unhid h5_0; have z1_ := unhid h51_0; omega))) | (exfalso; (first | omega | (have z0_ := unhid h5_0; have z1_ := unhid h51_0; omega)))) (by first | exact hI | exact RW2_k hd2 C81 F85 (by decide) (by (first | omega | (have z0_ := unhid h5_0; have z1_ := unhid h51_0; omega))) | (exfalso; (first | omega | (have z0_ := unhid h5_0; have z1_ := unhid h51_0; omega)))) (by first | exact hI | exact RW2_k hd3 C83 F84 (by decide) (by (first | omega | (have z0_ := unhid h5_0; have z1_ := unhid h51_0; omega))) | (exfalso; (first | omega | (have z0_ := unhid h5_0; have z1_ := unhid h51_0; omega))))
    · skip
      have hM87 : MW (dt52 80) := h51.2.2.1
      obtain ⟨h51_0, h51_1, h51_2, h51_3, h51_4, h51_5, h51_6, h51_7, h51_8, h51_9⟩ := h51
      have M288 : MW (dt52 81) := MW_frk M238 hF54 (by decide)
      have C89 : ∀ j : Nat, dt52 15 j = dt 15 j := fun j => (hF54 15 (by decide) j).trans (C39 j)
      have C90 : ∀ j : Nat, dt52 17 j = dt 17 j := fun j => (hF54 17 (by decide) j).trans (C40 j)
      have C91 : ∀ j : Nat, dt52 32 j = dt 32 j := fun j => (hF54 32 (by decide) j).trans (C41 j)
      have C92 : ∀ j : Nat, dt52 34 j = dt 34 j := fun j => (hF54 34 (by decide) j).trans (C42 j)
      have F93 : ∀ j : Nat, 7340 ≤ j → dt52 81 j = dt 81 j := fun j hj => (hF54 81 (by decide) j).trans (F43 j hj)
      have F94 : ∀ j : Nat, 7340 ≤ j → dt52 80 j = dt 80 j := fun j hj => (h51_9 j hj).trans (F44 j hj)
      have F95 : ∀ j : Nat, dt52 81 j = dt 81 j := fun j => (hF54 81 (by decide) j).trans (F46 j)
      refine go_toq PM267 (k := 2) (pc' := 1435) (L' := [some (.inr (.inr (some 3000))), some (.inr (.inr (some 0))), some (.inr (.inr (some 79))), some (.inl i)]) (st' := []) (w' := (SH, dt52)) rfl ?_
      exact K dt52 hI53 hM87 M288 (by first | (first | omega | (have z0_ := unhid h5_0; omega)) | (simp only [*]; done) | simp only [*]) (by (first | omega | (have z0_ := unhid h5_0; omega))) (by (first | omega | (have z0_ := unhid h5_0; omega))) (by (first | omega | (have z0_ := unhid h5_0; omega))) (by (first | omega | (have z0_ := unhid h5_0; omega))) (by (first | omega | (have z0_ := unhid h5_0; omega))) (by (first | omega | (have z0_ := unhid h5_0; omega))) (by (first | omega | (have z0_ := unhid h5_0; omega))) (by (first | omega | (have z0_ := unhid h5_0; omega))) (by (first | omega | (have z0_ := unhid h5_0; omega))) (by (first | omega | (have z0_ := unhid h5_0; omega))) (by (first | omega | (have z0_ := unhid h5_0; omega))) (by (first | omega | (have z0_ := unhid h5_0; omega))) (by (first | omega | (have z0_ := unhid h5_0; omega))) (by first | exact hI | exact RW2_k hd0 C89 F94 (by decide) (by (first | omega | (have z0_ := unhid h5_0; omega))) | (exfalso; (first | omega | (have z0_ := unhid h5_0; omega)))) (by first | exact hI | exact RW2_k hd1 C91 F93 (by decide) (by (first | omega | (have z0_ := unhid h5_0; omega))) | (exfalso; (first | omega | (have z0_ := unhid h5_0; omega)))) (by first | exact hI | exact RW2_k hd2 C90 F94 (by decide) (by (first | omega | (have z0_ := unhid h5_0; omega))) | (exfalso; (first | omega | (have z0_ := unhid h5_0; omega)))) (by first | exact hI | exact RW2_k hd3 C92 F93 (by decide) (by (first | omega | (have z0_ := unhid h5_0; omega))) | (exfalso; (first | omega | (have z0_ := unhid h5_0; omega))))
  · skip
    obtain ⟨h5_0, h5_1, h5_2⟩ := h5
    have M296 : MW (dt6 81) := MW_frk hM2 hF8 (by decide)
    have C97 : ∀ j : Nat, dt6 15 j = dt 15 j := fun j => (hF8 15 (by decide) j).trans ((fun _ => rfl) j)
    have C98 : ∀ j : Nat, dt6 17 j = dt 17 j := fun j => (hF8 17 (by decide) j).trans ((fun _ => rfl) j)
    have C99 : ∀ j : Nat, dt6 32 j = dt 32 j := fun j => (hF8 32 (by decide) j).trans ((fun _ => rfl) j)
    have C100 : ∀ j : Nat, dt6 34 j = dt 34 j := fun j => (hF8 34 (by decide) j).trans ((fun _ => rfl) j)
    have F101 : ∀ j : Nat, 7340 ≤ j → dt6 81 j = dt 81 j := fun j hj => (hF8 81 (by decide) j).trans ((fun _ _ => rfl) j hj)
    have F102 : ∀ j : Nat, 7340 ≤ j → dt6 80 j = dt 80 j := fun j hj => (hF8 80 (by decide) j).trans ((fun _ _ => rfl) j hj)
    have F103 : ∀ j : Nat, dt6 80 j = dt 80 j := fun j => (hF8 80 (by decide) j).trans ((fun _ => rfl) j)
    have F104 : ∀ j : Nat, dt6 81 j = dt 81 j := fun j => (hF8 81 (by decide) j).trans ((fun _ => rfl) j)
    refine go_toq PM267 (k := 6) (pc' := 620) (L' := [some (.inr (.inr (some 3000))), some (.inr (.inr (some 0))), some (.inr (.inr (some 79))), some (.inl i)]) (st' := [.inl (i + 1), .inr (.inr (some 3000)), .inr (.inr (some 79))]) (w' := (SH, dt6)) rfl ?_
    have r105 := i32_R (xs ((i + 1).toNat))
    refine go_smpq PM267 (L' := [some (.inr (.inr (some 3000))), some (.inr (.inr (some 0))), some (.inr (.inr (some 79))), some (.inl i)]) (st' := [.inl ((xs ((i + 1).toNat)).toInt), .inr (.inr (some 79))]) (w' := (SH, dt6)) rfl rfl (s_iald (n := L) (f := fun j => (xs j).toInt) (am_scr hLL) ⟨by omega, by omega⟩) ?_
    refine go_toq PM267 (k := 4) (pc' := 625) (L' := [some (.inr (.inr (some 3000))), some (.inr (.inr (some 0))), some (.inr (.inr (some 79))), some (.inl i)]) (st' := [.inl (i + 2), .inr (.inr (some 3000)), .inl ((xs ((i + 1).toNat)).toInt), .inr (.inr (some 79))]) (w' := (SH, dt6)) rfl ?_
    have r106 := i32_R (xs ((i + 2).toNat))
    refine go_smpq PM267 (L' := [some (.inr (.inr (some 3000))), some (.inr (.inr (some 0))), some (.inr (.inr (some 79))), some (.inl i)]) (st' := [.inl ((xs ((i + 2).toNat)).toInt), .inl ((xs ((i + 1).toNat)).toInt), .inr (.inr (some 79))]) (w' := (SH, dt6)) rfl rfl (s_iald (n := L) (f := fun j => (xs j).toInt) (am_scr hLL) ⟨by omega, by omega⟩) ?_
    refine go_toq PM267 (k := 4) (pc' := 630) (L' := [some (.inr (.inr (some 3000))), some (.inr (.inr (some 0))), some (.inr (.inr (some 79))), some (.inl i)]) (st' := [.inl (i + 3), .inr (.inr (some 3000)), .inl ((xs ((i + 2).toNat)).toInt), .inl ((xs ((i + 1).toNat)).toInt), .inr (.inr (some 79))]) (w' := (SH, dt6)) rfl ?_
    have r107 := i32_R (xs ((i + 3).toNat))
    refine go_smpq PM267 (L' := [some (.inr (.inr (some 3000))), some (.inr (.inr (some 0))), some (.inr (.inr (some 79))), some (.inl i)]) (st' := [.inl ((xs ((i + 3).toNat)).toInt), .inl ((xs ((i + 2).toNat)).toInt), .inl ((xs ((i + 1).toNat)).toInt), .inr (.inr (some 79))]) (w' := (SH, dt6)) rfl rfl (s_iald (n := L) (f := fun j => (xs j).toInt) (am_scr hLL) ⟨by omega, by omega⟩) ?_
    refine go_toq PM267 (k := 4) (pc' := 635) (L' := [some (.inr (.inr (some 3000))), some (.inr (.inr (some 0))), some (.inr (.inr (some 79))), some (.inl i)]) (st' := [.inl (i + 4), .inr (.inr (some 3000)), .inl ((xs ((i + 3).toNat)).toInt), .inl ((xs ((i + 2).toNat)).toInt), .inl ((xs ((i + 1).toNat)).toInt), .inr (.inr (some 79))]) (w' := (SH, dt6)) rfl ?_
    have r108 := i32_R (xs ((i + 4).toNat))
    refine go_smpq PM267 (L' := [some (.inr (.inr (some 3000))), some (.inr (.inr (some 0))), some (.inr (.inr (some 79))), some (.inl i)]) (st' := [.inl ((xs ((i + 4).toNat)).toInt), .inl ((xs ((i + 3).toNat)).toInt), .inl ((xs ((i + 2).toNat)).toInt), .inl ((xs ((i + 1).toNat)).toInt), .inr (.inr (some 79))]) (w' := (SH, dt6)) rfl rfl (s_iald (n := L) (f := fun j => (xs j).toInt) (am_scr hLL) ⟨by omega, by omega⟩) ?_
    refine go_callq PM267 PM202 (Q' := _) rfl rfl rfl rfl (sp_X6_child_u L xs sio (d + 36) dt6 hI7 hM10  ((xs ((i + 1).toNat)).toInt) ⟨by omega, by omega⟩ ((xs ((i + 2).toNat)).toInt) ⟨by omega, by omega⟩ ((xs ((i + 3).toNat)).toInt) ⟨by omega, by omega⟩ ((xs ((i + 4).toNat)).toInt) ⟨by omega, by omega⟩ ) ?_
    rintro _ _ ⟨dt110, rfl, hI111, hF112, h109⟩
    refine ⟨rfl, ?_⟩
    have hF113 : Fr [0, 1, 2, 3, 4, 5, 6, 7, 8, 9, 10, 11, 12, 13, 14, 15, 16, 17, 18, 19, 20, 21, 22, 23, 24, 25, 26, 27, 28, 29, 30, 31, 32, 33, 34, 35, 36, 37, 38, 39, 40, 41, 42, 43, 44, 45, 46, 47, 48, 49, 50, 51, 52, 53, 54, 55, 56, 57, 58, 59, 60, 61, 62, 63, 64, 65, 66, 67, 68, 69, 70, 71, 72, 73, 74, 75, 76, 77, 78, 79, 80, 81, 82, 83, 84, 85, 86, 87, 88, 89, 90, 91, 92, 93, 94, 95, 96, 97, 98, 99, 100, 101, 102, 103, 104] dt dt110 := Fr_tr hF9 hF112 (by decide)
    have w114 : dt110 1 0 = dt6 1 0 := hF112 1 (by decide) 0
    have w115 : dt110 7 3 = dt6 7 3 := hF112 7 (by decide) 3
    have w116 : dt110 10 3 = dt6 10 3 := hF112 10 (by decide) 3
    have w117 : dt110 12 3 = dt6 12 3 := hF112 12 (by decide) 3
    have w118 : dt110 14 3 = dt6 14 3 := hF112 14 (by decide) 3
    have w119 : dt110 16 3 = dt6 16 3 := hF112 16 (by decide) 3
    have w120 : dt110 18 0 = dt6 18 0 := hF112 18 (by decide) 0
    have w121 : dt110 24 3 = dt6 24 3 := hF112 24 (by decide) 3
    have w122 : dt110 27 3 = dt6 27 3 := hF112 27 (by decide) 3
    have w123 : dt110 29 3 = dt6 29 3 := hF112 29 (by decide) 3
    have w124 : dt110 31 3 = dt6 31 3 := hF112 31 (by decide) 3
    have w125 : dt110 33 3 = dt6 33 3 := hF112 33 (by decide) 3
    have w126 : dt110 0 2 = dt6 0 2 := hF112 0 (by decide) 2
    have w127 : dt110 35 1 = dt6 35 1 := hF112 35 (by decide) 1
    have w128 : dt110 81 0 = dt6 81 0 := hF112 81 (by decide) 0
    have w129 : dt110 81 1 = dt6 81 1 := hF112 81 (by decide) 1
    have w130 : dt110 81 2 = dt6 81 2 := hF112 81 (by decide) 2
    have w131 : dt110 81 3 = dt6 81 3 := hF112 81 (by decide) 3
    have w132 : dt110 81 4 = dt6 81 4 := hF112 81 (by decide) 4
    have w133 : dt110 81 5 = dt6 81 5 := hF112 81 (by decide) 5
    have w134 : dt110 79 2 = dt6 79 2 := hF112 79 (by decide) 2
    have w135 : dt110 79 12 = dt6 79 12 := hF112 79 (by decide) 12
    rcases h109 with ⟨rfl, h109⟩ | ⟨v_h109, rfl, h109r, h109⟩
    · skip
      have hM136 : MW (dt110 80) := h109.2.1
      obtain ⟨h109_0, h109_1, h109_2, h109_3, h109_4, h109_5, h109_6, h109_7, h109_8⟩ := h109
      replace h109_0 := hid h109_0
      have M2137 : MW (dt110 81) := MW_frk M296 hF112 (by decide)
      have C138 : ∀ j : Nat, dt110 15 j = dt 15 j := fun j => (hF112 15 (by decide) j).trans (C97 j)
      have C139 : ∀ j : Nat, dt110 17 j = dt 17 j := fun j => (hF112 17 (by decide) j).trans (C98 j)
      have C140 : ∀ j : Nat, dt110 32 j = dt 32 j := fun j => (hF112 32 (by decide) j).trans (C99 j)
      have C141 : ∀ j : Nat, dt110 34 j = dt 34 j := fun j => (hF112 34 (by decide) j).trans (C100 j)
      have F142 : ∀ j : Nat, 7340 ≤ j → dt110 81 j = dt 81 j := fun j hj => (hF112 81 (by decide) j).trans (F101 j hj)
      have F143 : ∀ j : Nat, 7340 ≤ j → dt110 80 j = dt 80 j := fun j hj => (h109_8 j hj).trans (F102 j hj)
      have F144 : ∀ j : Nat, dt110 81 j = dt 81 j := fun j => (hF112 81 (by decide) j).trans (F104 j)
      refine go_toq PM267 (k := 2) (pc' := 1435) (L' := [some (.inr (.inr (some 3000))), some (.inr (.inr (some 0))), some (.inr (.inr (some 79))), some (.inl i)]) (st' := []) (w' := (SH, dt110)) rfl ?_
      exact K dt110 hI111 hM136 M2137 (by first | (first | omega | (have z0_ := unhid h109_0; omega)) | (simp only [*]; done) | simp only [*]) (by (first | omega | (have z0_ := unhid h109_0; omega))) (by (first | omega | (have z0_ := unhid h109_0; omega))) (by (first | omega | (have z0_ := unhid h109_0; omega))) (by (first | omega | (have z0_ := unhid h109_0; omega))) (by (first | omega | (have z0_ := unhid h109_0; omega))) (by (first | omega | (have z0_ := unhid h109_0; omega))) (by (first | omega | (have z0_ := unhid h109_0; omega))) (by (first | omega | (have z0_ := unhid h109_0; omega))) (by (first | omega | (have z0_ := unhid h109_0; omega))) (by (first | omega | (have z0_ := unhid h109_0; omega))) (by (first | omega | (have z0_ := unhid h109_0; omega))) (by (first | omega | (have z0_ := unhid h109_0; omega))) (by (first | omega | (have z0_ := unhid h109_0; omega))) (by first | exact hI | exact RW2_k hd0 C138 F143 (by decide) (by (first | omega | (have z0_ := unhid h109_0; omega))) | (exfalso; (first | omega | (have z0_ := unhid h109_0; omega)))) (by first | exact hI | exact RW2_k hd1 C140 F142 (by decide) (by (first | omega | (have z0_ := unhid h109_0; omega))) | (exfalso; (first | omega | (have z0_ := unhid h109_0; omega)))) (by first | exact hI | exact RW2_k hd2 C139 F143 (by decide) (by (first | omega | (have z0_ := unhid h109_0; omega))) | (exfalso; (first | omega | (have z0_ := unhid h109_0; omega)))) (by first | exact hI | exact RW2_k hd3 C141 F142 (by decide) (by (first | omega | (have z0_ := unhid h109_0; omega))) | (exfalso; (first | omega | (have z0_ := unhid h109_0; omega))))
    · skip
      have hM145 : MW (dt110 80) := h109.2.2.1
      obtain ⟨h109_0, h109_1, h109_2, h109_3, h109_4, h109_5, h109_6, h109_7, h109_8, h109_9⟩ := h109
      have M2146 : MW (dt110 81) := MW_frk M296 hF112 (by decide)
      have C147 : ∀ j : Nat, dt110 15 j = dt 15 j := fun j => (hF112 15 (by decide) j).trans (C97 j)
      have C148 : ∀ j : Nat, dt110 17 j = dt 17 j := fun j => (hF112 17 (by decide) j).trans (C98 j)
      have C149 : ∀ j : Nat, dt110 32 j = dt 32 j := fun j => (hF112 32 (by decide) j).trans (C99 j)
      have C150 : ∀ j : Nat, dt110 34 j = dt 34 j := fun j => (hF112 34 (by decide) j).trans (C100 j)
      have F151 : ∀ j : Nat, 7340 ≤ j → dt110 81 j = dt 81 j := fun j hj => (hF112 81 (by decide) j).trans (F101 j hj)
      have F152 : ∀ j : Nat, 7340 ≤ j → dt110 80 j = dt 80 j := fun j hj => (h109_9 j hj).trans (F102 j hj)
      have F153 : ∀ j : Nat, dt110 81 j = dt 81 j := fun j => (hF112 81 (by decide) j).trans (F104 j)
      refine go_toq PM267 (k := 2) (pc' := 1435) (L' := [some (.inr (.inr (some 3000))), some (.inr (.inr (some 0))), some (.inr (.inr (some 79))), some (.inl i)]) (st' := []) (w' := (SH, dt110)) rfl ?_
      exact K dt110 hI111 hM145 M2146 (by first | omega | (simp only [*]; done) | simp only [*]) (by omega) (by omega) (by omega) (by omega) (by omega) (by omega) (by omega) (by omega) (by omega) (by omega) (by omega) (by omega) (by omega) (by first | exact hI | exact RW2_k hd0 C147 F152 (by decide) (by omega) | (exfalso; omega)) (by first | exact hI | exact RW2_k hd1 C149 F151 (by decide) (by omega) | (exfalso; omega)) (by first | exact hI | exact RW2_k hd2 C148 F152 (by decide) (by omega) | (exfalso; omega)) (by first | exact hI | exact RW2_k hd3 C150 F151 (by decide) (by omega) | (exfalso; omega))
