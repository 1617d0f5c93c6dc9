theorem am_scr {L : Nat} {xs : Nat → Int32} {sio : Option Nat} {dt : Nat → Nat → Int} (h : L ≤ 3072) : am_arr (am_XX L xs sio) (SH, dt) 3000 = some (0, L, fun j => (xs j).toInt) := by
  have e : SH[3000]? = none := by decide +kernel
  unfold am_arr
  rw [show (SH, dt).1[3000]? = none from e]
  dsimp only [am_XX]
  rw [if_pos rfl]
  dsimp only
  have : Nat.blt L 2147483648 = true := Nat.blt_eq.mpr (by omega)
  rw [this]
  rfl
theorem s_alen {X : am_X} {L : am_L} {w : am_W} {tg : List Nat} {cv : Int} {r n ty : Nat} {f : Nat → Int} {rest : List AV} (hw : am_arr X w r = some (ty, n, f)) (h : Nat.blt ty 4 = true) : am_smp X .arraylength tg cv L (.inr (.inr (some r)) :: rest) w = some (L, .inl (n : Int) :: rest, w) := by
  simp only [am_smp, hw, h, cond_true]

set_option maxRecDepth 20000 in
set_option maxHeartbeats 8000000 in
theorem sp_case0 (L : Nat) (xs : Nat → Int32) (sio : Option Nat) (d : Nat) (Q : Option AV → am_W → Prop) (hLL : L ≤ 3072) (i : Int) (hi : 0 ≤ i ∧ i ≤ 3066) (hil : i ≤ (L : Int) - 6) (dt : Nat → Nat → Int) (hI : InvC dt) (hM : MW (dt 80)) (hM2 : MW (dt 81)) (hk0 : dt 1 0 = dt 80 0) (hk1 : dt 7 3 = dt 80 1) (hk2 : dt 10 3 = dt 80 2) (hk3 : dt 12 3 = dt 80 3) (hk4 : dt 14 3 = dt 80 4) (hk5 : dt 16 3 = dt 80 5) (hk6 : dt 18 0 = dt 81 0) (hk7 : dt 24 3 = dt 81 1) (hk8 : dt 27 3 = dt 81 2) (hk9 : dt 29 3 = dt 81 3) (hk10 : dt 31 3 = dt 81 4) (hk11 : dt 33 3 = dt 81 5) (hk12 : dt 0 2 = dt 79 2) (hk13 : dt 35 1 = dt 79 12) (K : ∀ (dt : Nat → Nat → Int) (hI : InvC dt) (hM : MW (dt 80)) (hM2 : MW (dt 81)) (hk0 : dt 1 0 = dt 80 0) (hk1 : dt 7 3 = dt 80 1) (hk2 : dt 10 3 = dt 80 2) (hk3 : dt 12 3 = dt 80 3) (hk4 : dt 14 3 = dt 80 4) (hk5 : dt 16 3 = dt 80 5) (hk6 : dt 18 0 = dt 81 0) (hk7 : dt 24 3 = dt 81 1) (hk8 : dt 27 3 = dt 81 2) (hk9 : dt 29 3 = dt 81 3) (hk10 : dt 31 3 = dt 81 4) (hk11 : dt 33 3 = dt 81 5) (hk12 : dt 0 2 = dt 79 2) (hk13 : dt 35 1 = dt 79 12), GO (am_XX L xs sio) (d + 39) 267 1435 [some (.inr (.inr (some 3000))), some (.inr (.inr (some 0))), some (.inr (.inr (some 79))), some (.inl i)] [] (SH, dt) Q) : GO (am_XX L xs sio) (d + 39) 267 180 [some (.inr (.inr (some 3000))), some (.inr (.inr (some 0))), some (.inr (.inr (some 79))), some (.inl i)] [] (SH, dt) Q := by
  have hF : Fr [0, 1, 2, 3, 4, 5, 6, 7, 8, 9, 10, 11, 12, 13, 14, 15, 16, 17, 18, 19, 20, 21, 22, 23, 24, 25, 26, 27, 28, 29, 30, 31, 32, 33, 34, 35, 36, 37, 38, 39, 40, 41, 42, 43, 44, 45, 46, 47, 48, 49, 50, 51, 52, 53, 54, 55, 56, 57, 58, 59, 60, 61, 62, 63, 64, 65, 66, 67, 68, 69, 70, 71, 72, 73, 74, 75, 76, 77, 78, 79, 80, 81, 82, 83, 84, 85, 86, 87, 88, 89, 90, 91, 92, 93, 94, 95, 96, 97, 98, 99, 100, 101, 102, 103, 104] dt dt := Fr_refl
  refine go_toq PM267 (k := 5) (pc' := 185) (L' := [some (.inr (.inr (some 3000))), some (.inr (.inr (some 0))), some (.inr (.inr (some 79))), some (.inl i)]) (st' := [.inl (i + 1), .inr (.inr (some 3000)), .inr (.inr (some 0))]) (w' := (SH, dt)) rfl ?_
  have r1 := i32_R (xs ((i + 1).toNat))
  refine go_smpq PM267 (L' := [some (.inr (.inr (some 3000))), some (.inr (.inr (some 0))), some (.inr (.inr (some 79))), some (.inl i)]) (st' := [.inl ((xs ((i + 1).toNat)).toInt), .inr (.inr (some 0))]) (w' := (SH, dt)) rfl rfl (s_iald (n := L) (f := fun j => (xs j).toInt) (am_scr hLL) ⟨by omega, by omega⟩) ?_
  refine go_callq PM267 PM67 (Q' := _) rfl rfl rfl rfl (sp_X5_state L xs sio (d + 38) dt hI  ((xs ((i + 1).toNat)).toInt) ⟨by omega, by omega⟩ ) ?_
  rintro _ _ ⟨dt3, rfl, hI4, hF5, h2⟩
  refine ⟨rfl, ?_⟩
  have hF6 : Fr [0, 1, 2, 3, 4, 5, 6, 7, 8, 9, 10, 11, 12, 13, 14, 15, 16, 17, 18, 19, 20, 21, 22, 23, 24, 25, 26, 27, 28, 29, 30, 31, 32, 33, 34, 35, 36, 37, 38, 39, 40, 41, 42, 43, 44, 45, 46, 47, 48, 49, 50, 51, 52, 53, 54, 55, 56, 57, 58, 59, 60, 61, 62, 63, 64, 65, 66, 67, 68, 69, 70, 71, 72, 73, 74, 75, 76, 77, 78, 79, 80, 81, 82, 83, 84, 85, 86, 87, 88, 89, 90, 91, 92, 93, 94, 95, 96, 97, 98, 99, 100, 101, 102, 103, 104] dt dt3 := Fr_tr hF hF5 (by decide)
  have hM7 : MW (dt3 80) := MW_fr hM hF5 (by decide)
  have w8 : dt3 7 3 = dt 7 3 := hF5 7 (by decide) 3
  have w9 : dt3 10 3 = dt 10 3 := hF5 10 (by decide) 3
  have w10 : dt3 12 3 = dt 12 3 := hF5 12 (by decide) 3
  have w11 : dt3 14 3 = dt 14 3 := hF5 14 (by decide) 3
  have w12 : dt3 16 3 = dt 16 3 := hF5 16 (by decide) 3
  have w13 : dt3 18 0 = dt 18 0 := hF5 18 (by decide) 0
  have w14 : dt3 24 3 = dt 24 3 := hF5 24 (by decide) 3
  have w15 : dt3 27 3 = dt 27 3 := hF5 27 (by decide) 3
  have w16 : dt3 29 3 = dt 29 3 := hF5 29 (by decide) 3
  have w17 : dt3 31 3 = dt 31 3 := hF5 31 (by decide) 3
  have w18 : dt3 33 3 = dt 33 3 := hF5 33 (by decide) 3
  have w19 : dt3 0 2 = dt 0 2 := hF5 0 (by decide) 2
  have w20 : dt3 35 1 = dt 35 1 := hF5 35 (by decide) 1
  have w21 : dt3 80 0 = dt 80 0 := hF5 80 (by decide) 0
  have w22 : dt3 80 1 = dt 80 1 := hF5 80 (by decide) 1
  have w23 : dt3 80 2 = dt 80 2 := hF5 80 (by decide) 2
  have w24 : dt3 80 3 = dt 80 3 := hF5 80 (by decide) 3
  have w25 : dt3 80 4 = dt 80 4 := hF5 80 (by decide) 4
  have w26 : dt3 80 5 = dt 80 5 := hF5 80 (by decide) 5
  have w27 : dt3 81 0 = dt 81 0 := hF5 81 (by decide) 0
  have w28 : dt3 81 1 = dt 81 1 := hF5 81 (by decide) 1
  have w29 : dt3 81 2 = dt 81 2 := hF5 81 (by decide) 2
  have w30 : dt3 81 3 = dt 81 3 := hF5 81 (by decide) 3
  have w31 : dt3 81 4 = dt 81 4 := hF5 81 (by decide) 4
  have w32 : dt3 81 5 = dt 81 5 := hF5 81 (by decide) 5
  have w33 : dt3 79 2 = dt 79 2 := hF5 79 (by decide) 2
  have w34 : dt3 79 12 = dt 79 12 := hF5 79 (by decide) 12
  rcases h2 with ⟨rfl, h2⟩
  have M235 : MW (dt3 81) := MW_frk hM2 hF5 (by decide)
  refine go_toq PM267 (k := 6) (pc' := 195) (L' := [some (.inr (.inr (some 3000))), some (.inr (.inr (some 0))), some (.inr (.inr (some 79))), some (.inl i)]) (st' := [.inl (i + 1), .inr (.inr (some 3000)), .inr (.inr (some 79))]) (w' := (SH, dt3)) rfl ?_
  have r36 := i32_R (xs ((i + 1).toNat))
  refine go_smpq PM267 (L' := [some (.inr (.inr (some 3000))), some (.inr (.inr (some 0))), some (.inr (.inr (some 79))), some (.inl i)]) (st' := [.inl ((xs ((i + 1).toNat)).toInt), .inr (.inr (some 79))]) (w' := (SH, dt3)) rfl rfl (s_iald (n := L) (f := fun j => (xs j).toInt) (am_scr hLL) ⟨by omega, by omega⟩) ?_
  refine go_callq PM267 PM149 (Q' := _) rfl rfl rfl rfl (sp_X6_state L xs sio (d + 38) dt3 hI4 hM7  ((xs ((i + 1).toNat)).toInt) ⟨by omega, by omega⟩ ) ?_
  rintro _ _ ⟨dt38, rfl, hI39, hF40, h37⟩
  refine ⟨rfl, ?_⟩
  have hF41 : Fr [0, 1, 2, 3, 4, 5, 6, 7, 8, 9, 10, 11, 12, 13, 14, 15, 16, 17, 18, 19, 20, 21, 22, 23, 24, 25, 26, 27, 28, 29, 30, 31, 32, 33, 34, 35, 36, 37, 38, 39, 40, 41, 42, 43, 44, 45, 46, 47, 48, 49, 50, 51, 52, 53, 54, 55, 56, 57, 58, 59, 60, 61, 62, 63, 64, 65, 66, 67, 68, 69, 70, 71, 72, 73, 74, 75, 76, 77, 78, 79, 80, 81, 82, 83, 84, 85, 86, 87, 88, 89, 90, 91, 92, 93, 94, 95, 96, 97, 98, 99, 100, 101, 102, 103, 104] dt dt38 := Fr_tr hF6 hF40 (by decide)
  have w42 : dt38 1 0 = dt3 1 0 := hF40 1 (by decide) 0
  have w43 : dt38 7 3 = dt3 7 3 := hF40 7 (by decide) 3
  have w44 : dt38 10 3 = dt3 10 3 := hF40 10 (by decide) 3
  have w45 : dt38 12 3 = dt3 12 3 := hF40 12 (by decide) 3
  have w46 : dt38 14 3 = dt3 14 3 := hF40 14 (by decide) 3
  have w47 : dt38 16 3 = dt3 16 3 := hF40 16 (by decide) 3
  have w48 : dt38 18 0 = dt3 18 0 := hF40 18 (by decide) 0
  have w49 : dt38 24 3 = dt3 24 3 := hF40 24 (by decide) 3
  have w50 : dt38 27 3 = dt3 27 3 := hF40 27 (by decide) 3
  have w51 : dt38 29 3 = dt3 29 3 := hF40 29 (by decide) 3
  have w52 : dt38 31 3 = dt3 31 3 := hF40 31 (by decide) 3
  have w53 : dt38 33 3 = dt3 33 3 := hF40 33 (by decide) 3
  have w54 : dt38 0 2 = dt3 0 2 := hF40 0 (by decide) 2
  have w55 : dt38 35 1 = dt3 35 1 := hF40 35 (by decide) 1
  have w56 : dt38 81 0 = dt3 81 0 := hF40 81 (by decide) 0
  have w57 : dt38 81 1 = dt3 81 1 := hF40 81 (by decide) 1
  have w58 : dt38 81 2 = dt3 81 2 := hF40 81 (by decide) 2
  have w59 : dt38 81 3 = dt3 81 3 := hF40 81 (by decide) 3
  have w60 : dt38 81 4 = dt3 81 4 := hF40 81 (by decide) 4
  have w61 : dt38 81 5 = dt3 81 5 := hF40 81 (by decide) 5
  have w62 : dt38 79 2 = dt3 79 2 := hF40 79 (by decide) 2
  have w63 : dt38 79 12 = dt3 79 12 := hF40 79 (by decide) 12
  rcases h37 with ⟨rfl, h37⟩
  have hM64 : MW (dt38 80) := h37.2.1
  obtain ⟨h37_0, h37_1, h37_2, h37_3, h37_4, h37_5, h37_6⟩ := h37
  have M265 : MW (dt38 81) := MW_frk M235 hF40 (by decide)
  refine go_toq PM267 (k := 2) (pc' := 1435) (L' := [some (.inr (.inr (some 3000))), some (.inr (.inr (some 0))), some (.inr (.inr (some 79))), some (.inl i)]) (st' := []) (w' := (SH, dt38)) rfl ?_
  exact K dt38 hI39 hM64 M265 (by first | omega | (simp only [*]; done) | simp only [*]) (by omega) (by omega) (by omega) (by omega) (by omega) (by omega) (by omega) (by omega) (by omega) (by omega) (by omega) (by omega) (by omega)
set_option maxRecDepth 20000 in
set_option maxHeartbeats 8000000 in
theorem sp_case1 (L : Nat) (xs : Nat → Int32) (sio : Option Nat) (d : Nat) (Q : Option AV → am_W → Prop) (hLL : L ≤ 3072) (i : Int) (hi : 0 ≤ i ∧ i ≤ 3066) (hil : i ≤ (L : Int) - 6) (dt : Nat → Nat → Int) (hI : InvC dt) (hM : MW (dt 80)) (hM2 : MW (dt 81)) (hk0 : dt 1 0 = dt 80 0) (hk1 : dt 7 3 = dt 80 1) (hk2 : dt 10 3 = dt 80 2) (hk3 : dt 12 3 = dt 80 3) (hk4 : dt 14 3 = dt 80 4) (hk5 : dt 16 3 = dt 80 5) (hk6 : dt 18 0 = dt 81 0) (hk7 : dt 24 3 = dt 81 1) (hk8 : dt 27 3 = dt 81 2) (hk9 : dt 29 3 = dt 81 3) (hk10 : dt 31 3 = dt 81 4) (hk11 : dt 33 3 = dt 81 5) (hk12 : dt 0 2 = dt 79 2) (hk13 : dt 35 1 = dt 79 12) (K : ∀ (dt : Nat → Nat → Int) (hI : InvC dt) (hM : MW (dt 80)) (hM2 : MW (dt 81)) (hk0 : dt 1 0 = dt 80 0) (hk1 : dt 7 3 = dt 80 1) (hk2 : dt 10 3 = dt 80 2) (hk3 : dt 12 3 = dt 80 3) (hk4 : dt 14 3 = dt 80 4) (hk5 : dt 16 3 = dt 80 5) (hk6 : dt 18 0 = dt 81 0) (hk7 : dt 24 3 = dt 81 1) (hk8 : dt 27 3 = dt 81 2) (hk9 : dt 29 3 = dt 81 3) (hk10 : dt 31 3 = dt 81 4) (hk11 : dt 33 3 = dt 81 5) (hk12 : dt 0 2 = dt 79 2) (hk13 : dt 35 1 = dt 79 12), GO (am_XX L xs sio) (d + 39) 267 1435 [some (.inr (.inr (some 3000))), some (.inr (.inr (some 0))), some (.inr (.inr (some 79))), some (.inl i)] [] (SH, dt) Q) : GO (am_XX L xs sio) (d + 39) 267 203 [some (.inr (.inr (some 3000))), some (.inr (.inr (some 0))), some (.inr (.inr (some 79))), some (.inl i)] [] (SH, dt) Q := by
  have hF : Fr [0, 1, 2, 3, 4, 5, 6, 7, 8, 9, 10, 11, 12, 13, 14, 15, 16, 17, 18, 19, 20, 21, 22, 23, 24, 25, 26, 27, 28, 29, 30, 31, 32, 33, 34, 35, 36, 37, 38, 39, 40, 41, 42, 43, 44, 45, 46, 47, 48, 49, 50, 51, 52, 53, 54, 55, 56, 57, 58, 59, 60, 61, 62, 63, 64, 65, 66, 67, 68, 69, 70, 71, 72, 73, 74, 75, 76, 77, 78, 79, 80, 81, 82, 83, 84, 85, 86, 87, 88, 89, 90, 91, 92, 93, 94, 95, 96, 97, 98, 99, 100, 101, 102, 103, 104] dt dt := Fr_refl
  have r1 : (-2147483648) ≤ dt 1 0 ∧ dt 1 0 ≤ 2147483647 := InvC_get hI 1 0 rfl rfl
  have r2 : 0 ≤ dt 7 3 ∧ dt 7 3 ≤ 12 := InvC_get hI 7 3 rfl rfl
  have r3 : 0 ≤ dt 10 3 ∧ dt 10 3 ≤ 40 := InvC_get hI 10 3 rfl rfl
  have r4 : 0 ≤ dt 12 3 ∧ dt 12 3 ≤ 300 := InvC_get hI 12 3 rfl rfl
  have r5 : 0 ≤ dt 14 3 ∧ dt 14 3 ≤ 40 := InvC_get hI 14 3 rfl rfl
  have r6 : 0 ≤ dt 16 3 ∧ dt 16 3 ≤ 20 := InvC_get hI 16 3 rfl rfl
  have r7 : (-2147483648) ≤ dt 18 0 ∧ dt 18 0 ≤ 2147483647 := InvC_get hI 18 0 rfl rfl
  have r8 : 0 ≤ dt 24 3 ∧ dt 24 3 ≤ 12 := InvC_get hI 24 3 rfl rfl
  have r9 : 0 ≤ dt 27 3 ∧ dt 27 3 ≤ 40 := InvC_get hI 27 3 rfl rfl
  have r10 : 0 ≤ dt 29 3 ∧ dt 29 3 ≤ 300 := InvC_get hI 29 3 rfl rfl
  have r11 : 0 ≤ dt 31 3 ∧ dt 31 3 ≤ 40 := InvC_get hI 31 3 rfl rfl
  have r12 : 0 ≤ dt 33 3 ∧ dt 33 3 ≤ 20 := InvC_get hI 33 3 rfl rfl
  have r13 : 0 ≤ dt 0 2 ∧ dt 0 2 ≤ 1 := InvC_get hI 0 2 rfl rfl
  have r14 : 0 ≤ dt 35 1 ∧ dt 35 1 ≤ 500 := InvC_get hI 35 1 rfl rfl
  have r15 : (-2147483648) ≤ dt 80 0 ∧ dt 80 0 ≤ 2147483647 := InvC_get hI 80 0 rfl rfl
  have r16 : (-2147483648) ≤ dt 80 1 ∧ dt 80 1 ≤ 2147483647 := InvC_get hI 80 1 rfl rfl
  have r17 := MW_n hM
  have r18 : (-2147483648) ≤ dt 80 2 ∧ dt 80 2 ≤ 2147483647 := InvC_get hI 80 2 rfl rfl
  have r19 : (-2147483648) ≤ dt 80 3 ∧ dt 80 3 ≤ 2147483647 := InvC_get hI 80 3 rfl rfl
  have r20 : (-2147483648) ≤ dt 80 4 ∧ dt 80 4 ≤ 2147483647 := InvC_get hI 80 4 rfl rfl
  have r21 : (-2147483648) ≤ dt 80 5 ∧ dt 80 5 ≤ 2147483647 := InvC_get hI 80 5 rfl rfl
  have r22 : (-2147483648) ≤ dt 81 0 ∧ dt 81 0 ≤ 2147483647 := InvC_get hI 81 0 rfl rfl
  have r23 : (-2147483648) ≤ dt 81 1 ∧ dt 81 1 ≤ 2147483647 := InvC_get hI 81 1 rfl rfl
  have r24 : (-2147483648) ≤ dt 81 2 ∧ dt 81 2 ≤ 2147483647 := InvC_get hI 81 2 rfl rfl
  have r25 : (-2147483648) ≤ dt 81 3 ∧ dt 81 3 ≤ 2147483647 := InvC_get hI 81 3 rfl rfl
  have r26 : (-2147483648) ≤ dt 81 4 ∧ dt 81 4 ≤ 2147483647 := InvC_get hI 81 4 rfl rfl
  have r27 : (-2147483648) ≤ dt 81 5 ∧ dt 81 5 ≤ 2147483647 := InvC_get hI 81 5 rfl rfl
  have r28 : 0 ≤ dt 79 2 ∧ dt 79 2 ≤ 1 := InvC_get hI 79 2 rfl rfl
  have r29 : 0 ≤ dt 79 12 ∧ dt 79 12 ≤ 500 := InvC_get hI 79 12 rfl rfl
  refine go_toq PM267 (k := 5) (pc' := 208) (L' := [some (.inr (.inr (some 3000))), some (.inr (.inr (some 0))), some (.inr (.inr (some 79))), some (.inl i)]) (st' := [.inl (i + 1), .inr (.inr (some 3000)), .inr (.inr (some 0))]) (w' := (SH, dt)) rfl ?_
  have r30 := i32_R (xs ((i + 1).toNat))
  refine go_smpq PM267 (L' := [some (.inr (.inr (some 3000))), some (.inr (.inr (some 0))), some (.inr (.inr (some 79))), some (.inl i)]) (st' := [.inl ((xs ((i + 1).toNat)).toInt), .inr (.inr (some 0))]) (w' := (SH, dt)) rfl rfl (s_iald (n := L) (f := fun j => (xs j).toInt) (am_scr hLL) ⟨by omega, by omega⟩) ?_
  refine go_toq PM267 (k := 4) (pc' := 213) (L' := [some (.inr (.inr (some 3000))), some (.inr (.inr (some 0))), some (.inr (.inr (some 79))), some (.inl i)]) (st' := [.inl (i + 2), .inr (.inr (some 3000)), .inl ((xs ((i + 1).toNat)).toInt), .inr (.inr (some 0))]) (w' := (SH, dt)) rfl ?_
  have r31 := i32_R (xs ((i + 2).toNat))
  refine go_smpq PM267 (L' := [some (.inr (.inr (some 3000))), some (.inr (.inr (some 0))), some (.inr (.inr (some 79))), some (.inl i)]) (st' := [.inl ((xs ((i + 2).toNat)).toInt), .inl ((xs ((i + 1).toNat)).toInt), .inr (.inr (some 0))]) (w' := (SH, dt)) rfl rfl (s_iald (n := L) (f := fun j => (xs j).toInt) (am_scr hLL) ⟨by omega, by omega⟩) ?_
  refine go_toq PM267 (k := 4) (pc' := 218) (L' := [some (.inr (.inr (some 3000))), some (.inr (.inr (some 0))), some (.inr (.inr (some 79))), some (.inl i)]) (st' := [.inl (i + 3), .inr (.inr (some 3000)), .inl ((xs ((i + 2).toNat)).toInt), .inl ((xs ((i + 1).toNat)).toInt), .inr (.inr (some 0))]) (w' := (SH, dt)) rfl ?_
  have r32 := i32_R (xs ((i + 3).toNat))
  refine go_smpq PM267 (L' := [some (.inr (.inr (some 3000))), some (.inr (.inr (some 0))), some (.inr (.inr (some 79))), some (.inl i)]) (st' := [.inl ((xs ((i + 3).toNat)).toInt), .inl ((xs ((i + 2).toNat)).toInt), .inl ((xs ((i + 1).toNat)).toInt), .inr (.inr (some 0))]) (w' := (SH, dt)) rfl rfl (s_iald (n := L) (f := fun j => (xs j).toInt) (am_scr hLL) ⟨by omega, by omega⟩) ?_
  refine go_toq PM267 (k := 4) (pc' := 223) (L' := [some (.inr (.inr (some 3000))), some (.inr (.inr (some 0))), some (.inr (.inr (some 79))), some (.inl i)]) (st' := [.inl (i + 4), .inr (.inr (some 3000)), .inl ((xs ((i + 3).toNat)).toInt), .inl ((xs ((i + 2).toNat)).toInt), .inl ((xs ((i + 1).toNat)).toInt), .inr (.inr (some 0))]) (w' := (SH, dt)) rfl ?_
  have r33 := i32_R (xs ((i + 4).toNat))
  refine go_smpq PM267 (L' := [some (.inr (.inr (some 3000))), some (.inr (.inr (some 0))), some (.inr (.inr (some 79))), some (.inl i)]) (st' := [.inl ((xs ((i + 4).toNat)).toInt), .inl ((xs ((i + 3).toNat)).toInt), .inl ((xs ((i + 2).toNat)).toInt), .inl ((xs ((i + 1).toNat)).toInt), .inr (.inr (some 0))]) (w' := (SH, dt)) rfl rfl (s_iald (n := L) (f := fun j => (xs j).toInt) (am_scr hLL) ⟨by omega, by omega⟩) ?_
  refine go_toq PM267 (k := 4) (pc' := 228) (L' := [some (.inr (.inr (some 3000))), some (.inr (.inr (some 0))), some (.inr (.inr (some 79))), some (.inl i)]) (st' := [.inl (i + 5), .inr (.inr (some 3000)), .inl ((xs ((i + 4).toNat)).toInt), .inl ((xs ((i + 3).toNat)).toInt), .inl ((xs ((i + 2).toNat)).toInt), .inl ((xs ((i + 1).toNat)).toInt), .inr (.inr (some 0))]) (w' := (SH, dt)) rfl ?_
  have r34 := i32_R (xs ((i + 5).toNat))
  refine go_smpq PM267 (L' := [some (.inr (.inr (some 3000))), some (.inr (.inr (some 0))), some (.inr (.inr (some 79))), some (.inl i)]) (st' := [.inl ((xs ((i + 5).toNat)).toInt), .inl ((xs ((i + 4).toNat)).toInt), .inl ((xs ((i + 3).toNat)).toInt), .inl ((xs ((i + 2).toNat)).toInt), .inl ((xs ((i + 1).toNat)).toInt), .inr (.inr (some 0))]) (w' := (SH, dt)) rfl rfl (s_iald (n := L) (f := fun j => (xs j).toInt) (am_scr hLL) ⟨by omega, by omega⟩) ?_
  refine go_callq PM267 PM68 (Q' := _) rfl rfl rfl rfl (sp_X5_feed L xs sio (d + 37) dt hI  ((xs ((i + 1).toNat)).toInt) ⟨by omega, by omega⟩ ((xs ((i + 2).toNat)).toInt) ⟨by omega, by omega⟩ ((xs ((i + 3).toNat)).toInt) ⟨by omega, by omega⟩ ((xs ((i + 4).toNat)).toInt) ⟨by omega, by omega⟩ ((xs ((i + 5).toNat)).toInt) ⟨by omega, by omega⟩ ) ?_
  rintro _ _ ⟨dt36, rfl, hI37, hF38, h35⟩
  refine ⟨rfl, ?_⟩
  have hF39 : Fr [0, 1, 2, 3, 4, 5, 6, 7, 8, 9, 10, 11, 12, 13, 14, 15, 16, 17, 18, 19, 20, 21, 22, 23, 24, 25, 26, 27, 28, 29, 30, 31, 32, 33, 34, 35, 36, 37, 38, 39, 40, 41, 42, 43, 44, 45, 46, 47, 48, 49, 50, 51, 52, 53, 54, 55, 56, 57, 58, 59, 60, 61, 62, 63, 64, 65, 66, 67, 68, 69, 70, 71, 72, 73, 74, 75, 76, 77, 78, 79, 80, 81, 82, 83, 84, 85, 86, 87, 88, 89, 90, 91, 92, 93, 94, 95, 96, 97, 98, 99, 100, 101, 102, 103, 104] dt dt36 := Fr_tr hF hF38 (by decide)
  have hM40 : MW (dt36 80) := MW_fr hM hF38 (by decide)
  have w41 : dt36 1 0 = dt 1 0 := hF38 1 (by decide) 0
  have w42 : dt36 7 3 = dt 7 3 := hF38 7 (by decide) 3
  have w43 : dt36 10 3 = dt 10 3 := hF38 10 (by decide) 3
  have w44 : dt36 12 3 = dt 12 3 := hF38 12 (by decide) 3
  have w45 : dt36 14 3 = dt 14 3 := hF38 14 (by decide) 3
  have w46 : dt36 16 3 = dt 16 3 := hF38 16 (by decide) 3
  have w47 : dt36 18 0 = dt 18 0 := hF38 18 (by decide) 0
  have w48 : dt36 24 3 = dt 24 3 := hF38 24 (by decide) 3
  have w49 : dt36 27 3 = dt 27 3 := hF38 27 (by decide) 3
  have w50 : dt36 29 3 = dt 29 3 := hF38 29 (by decide) 3
  have w51 : dt36 31 3 = dt 31 3 := hF38 31 (by decide) 3
  have w52 : dt36 33 3 = dt 33 3 := hF38 33 (by decide) 3
  have w53 : dt36 0 2 = dt 0 2 := hF38 0 (by decide) 2
  have w54 : dt36 80 0 = dt 80 0 := hF38 80 (by decide) 0
  have w55 : dt36 80 1 = dt 80 1 := hF38 80 (by decide) 1
  have w56 : dt36 80 2 = dt 80 2 := hF38 80 (by decide) 2
  have w57 : dt36 80 3 = dt 80 3 := hF38 80 (by decide) 3
  have w58 : dt36 80 4 = dt 80 4 := hF38 80 (by decide) 4
  have w59 : dt36 80 5 = dt 80 5 := hF38 80 (by decide) 5
  have w60 : dt36 81 0 = dt 81 0 := hF38 81 (by decide) 0
  have w61 : dt36 81 1 = dt 81 1 := hF38 81 (by decide) 1
  have w62 : dt36 81 2 = dt 81 2 := hF38 81 (by decide) 2
  have w63 : dt36 81 3 = dt 81 3 := hF38 81 (by decide) 3
  have w64 : dt36 81 4 = dt 81 4 := hF38 81 (by decide) 4
  have w65 : dt36 81 5 = dt 81 5 := hF38 81 (by decide) 5
  have w66 : dt36 79 2 = dt 79 2 := hF38 79 (by decide) 2
  have w67 : dt36 79 12 = dt 79 12 := hF38 79 (by decide) 12
  rcases h35 with ⟨rfl, h35⟩ | ⟨v_h35, rfl, h35r, h35⟩
  · skip
    obtain ⟨h35_0, h35_1⟩ := h35
    have M268 : MW (dt36 81) := MW_frk hM2 hF38 (by decide)
    refine go_toq PM267 (k := 5) (pc' := 237) (L' := [some (.inr (.inr (some 3000))), some (.inr (.inr (some 0))), some (.inr (.inr (some 79))), some (.inl i)]) (st' := [.inl (i + 1), .inr (.inr (some 3000)), .inr (.inr (some 79)), .inl (-1)]) (w' := (SH, dt36)) rfl ?_
    have r69 := i32_R (xs ((i + 1).toNat))
    refine go_smpq PM267 (L' := [some (.inr (.inr (some 3000))), some (.inr (.inr (some 0))), some (.inr (.inr (some 79))), some (.inl i)]) (st' := [.inl ((xs ((i + 1).toNat)).toInt), .inr (.inr (some 79)), .inl (-1)]) (w' := (SH, dt36)) rfl rfl (s_iald (n := L) (f := fun j => (xs j).toInt) (am_scr hLL) ⟨by omega, by omega⟩) ?_
    refine go_toq PM267 (k := 4) (pc' := 242) (L' := [some (.inr (.inr (some 3000))), some (.inr (.inr (some 0))), some (.inr (.inr (some 79))), some (.inl i)]) (st' := [.inl (i + 2), .inr (.inr (some 3000)), .inl ((xs ((i + 1).toNat)).toInt), .inr (.inr (some 79)), .inl (-1)]) (w' := (SH, dt36)) rfl ?_
    have r70 := i32_R (xs ((i + 2).toNat))
    refine go_smpq PM267 (L' := [some (.inr (.inr (some 3000))), some (.inr (.inr (some 0))), some (.inr (.inr (some 79))), some (.inl i)]) (st' := [.inl ((xs ((i + 2).toNat)).toInt), .inl ((xs ((i + 1).toNat)).toInt), .inr (.inr (some 79)), .inl (-1)]) (w' := (SH, dt36)) rfl rfl (s_iald (n := L) (f := fun j => (xs j).toInt) (am_scr hLL) ⟨by omega, by omega⟩) ?_
    refine go_toq PM267 (k := 4) (pc' := 247) (L' := [some (.inr (.inr (some 3000))), some (.inr (.inr (some 0))), some (.inr (.inr (some 79))), some (.inl i)]) (st' := [.inl (i + 3), .inr (.inr (some 3000)), .inl ((xs ((i + 2).toNat)).toInt), .inl ((xs ((i + 1).toNat)).toInt), .inr (.inr (some 79)), .inl (-1)]) (w' := (SH, dt36)) rfl ?_
    have r71 := i32_R (xs ((i + 3).toNat))
    refine go_smpq PM267 (L' := [some (.inr (.inr (some 3000))), some (.inr (.inr (some 0))), some (.inr (.inr (some 79))), some (.inl i)]) (st' := [.inl ((xs ((i + 3).toNat)).toInt), .inl ((xs ((i + 2).toNat)).toInt), .inl ((xs ((i + 1).toNat)).toInt), .inr (.inr (some 79)), .inl (-1)]) (w' := (SH, dt36)) rfl rfl (s_iald (n := L) (f := fun j => (xs j).toInt) (am_scr hLL) ⟨by omega, by omega⟩) ?_
    refine go_toq PM267 (k := 4) (pc' := 252) (L' := [some (.inr (.inr (some 3000))), some (.inr (.inr (some 0))), some (.inr (.inr (some 79))), some (.inl i)]) (st' := [.inl (i + 4), .inr (.inr (some 3000)), .inl ((xs ((i + 3).toNat)).toInt), .inl ((xs ((i + 2).toNat)).toInt), .inl ((xs ((i + 1).toNat)).toInt), .inr (.inr (some 79)), .inl (-1)]) (w' := (SH, dt36)) rfl ?_
    have r72 := i32_R (xs ((i + 4).toNat))
    refine go_smpq PM267 (L' := [some (.inr (.inr (some 3000))), some (.inr (.inr (some 0))), some (.inr (.inr (some 79))), some (.inl i)]) (st' := [.inl ((xs ((i + 4).toNat)).toInt), .inl ((xs ((i + 3).toNat)).toInt), .inl ((xs ((i + 2).toNat)).toInt), .inl ((xs ((i + 1).toNat)).toInt), .inr (.inr (some 79)), .inl (-1)]) (w' := (SH, dt36)) rfl rfl (s_iald (n := L) (f := fun j => (xs j).toInt) (am_scr hLL) ⟨by omega, by omega⟩) ?_
    refine go_toq PM267 (k := 4) (pc' := 257) (L' := [some (.inr (.inr (some 3000))), some (.inr (.inr (some 0))), some (.inr (.inr (some 79))), some (.inl i)]) (st' := [.inl (i + 5), .inr (.inr (some 3000)), .inl ((xs ((i + 4).toNat)).toInt), .inl ((xs ((i + 3).toNat)).toInt), .inl ((xs ((i + 2).toNat)).toInt), .inl ((xs ((i + 1).toNat)).toInt), .inr (.inr (some 79)), .inl (-1)]) (w' := (SH, dt36)) rfl ?_
    have r73 := i32_R (xs ((i + 5).toNat))
    refine go_smpq PM267 (L' := [some (.inr (.inr (some 3000))), some (.inr (.inr (some 0))), some (.inr (.inr (some 79))), some (.inl i)]) (st' := [.inl ((xs ((i + 5).toNat)).toInt), .inl ((xs ((i + 4).toNat)).toInt), .inl ((xs ((i + 3).toNat)).toInt), .inl ((xs ((i + 2).toNat)).toInt), .inl ((xs ((i + 1).toNat)).toInt), .inr (.inr (some 79)), .inl (-1)]) (w' := (SH, dt36)) rfl rfl (s_iald (n := L) (f := fun j => (xs j).toInt) (am_scr hLL) ⟨by omega, by omega⟩) ?_
    refine go_callq PM267 PM151 (Q' := _) rfl rfl rfl rfl (sp_X6_feed L xs sio (d + 38) dt36 hI37  ((xs ((i + 1).toNat)).toInt) ⟨by omega, by omega⟩ ((xs ((i + 2).toNat)).toInt) ⟨by omega, by omega⟩ ((xs ((i + 3).toNat)).toInt) ⟨by omega, by omega⟩ ((xs ((i + 4).toNat)).toInt) ⟨by omega, by omega⟩ ((xs ((i + 5).toNat)).toInt) ⟨by omega, by omega⟩ ) ?_
    rintro _ _ ⟨dt75, rfl, hI76, hF77, h74⟩
    refine ⟨rfl, ?_⟩
    have hF78 : Fr [0, 1, 2, 3, 4, 5, 6, 7, 8, 9, 10, 11, 12, 13, 14, 15, 16, 17, 18, 19, 20, 21, 22, 23, 24, 25, 26, 27, 28, 29, 30, 31, 32, 33, 34, 35, 36, 37, 38, 39, 40, 41, 42, 43, 44, 45, 46, 47, 48, 49, 50, 51, 52, 53, 54, 55, 56, 57, 58, 59, 60, 61, 62, 63, 64, 65, 66, 67, 68, 69, 70, 71, 72, 73, 74, 75, 76, 77, 78, 79, 80, 81, 82, 83, 84, 85, 86, 87, 88, 89, 90, 91, 92, 93, 94, 95, 96, 97, 98, 99, 100, 101, 102, 103, 104] dt dt75 := Fr_tr hF39 hF77 (by decide)
    have hM79 : MW (dt75 80) := MW_fr hM40 hF77 (by decide)
    have w80 : dt75 1 0 = dt36 1 0 := hF77 1 (by decide) 0
    have w81 : dt75 7 3 = dt36 7 3 := hF77 7 (by decide) 3
    have w82 : dt75 10 3 = dt36 10 3 := hF77 10 (by decide) 3
    have w83 : dt75 12 3 = dt36 12 3 := hF77 12 (by decide) 3
    have w84 : dt75 14 3 = dt36 14 3 := hF77 14 (by decide) 3
    have w85 : dt75 16 3 = dt36 16 3 := hF77 16 (by decide) 3
    have w86 : dt75 18 0 = dt36 18 0 := hF77 18 (by decide) 0
    have w87 : dt75 24 3 = dt36 24 3 := hF77 24 (by decide) 3
    have w88 : dt75 27 3 = dt36 27 3 := hF77 27 (by decide) 3
    have w89 : dt75 29 3 = dt36 29 3 := hF77 29 (by decide) 3
    have w90 : dt75 31 3 = dt36 31 3 := hF77 31 (by decide) 3
    have w91 : dt75 33 3 = dt36 33 3 := hF77 33 (by decide) 3
    have w92 : dt75 0 2 = dt36 0 2 := hF77 0 (by decide) 2
    have w93 : dt75 35 1 = dt36 35 1 := hF77 35 (by decide) 1
    have w94 : dt75 80 0 = dt36 80 0 := hF77 80 (by decide) 0
    have w95 : dt75 80 1 = dt36 80 1 := hF77 80 (by decide) 1
    have w96 : dt75 80 2 = dt36 80 2 := hF77 80 (by decide) 2
    have w97 : dt75 80 3 = dt36 80 3 := hF77 80 (by decide) 3
    have w98 : dt75 80 4 = dt36 80 4 := hF77 80 (by decide) 4
    have w99 : dt75 80 5 = dt36 80 5 := hF77 80 (by decide) 5
    have w100 : dt75 81 0 = dt36 81 0 := hF77 81 (by decide) 0
    have w101 : dt75 81 1 = dt36 81 1 := hF77 81 (by decide) 1
    have w102 : dt75 81 2 = dt36 81 2 := hF77 81 (by decide) 2
    have w103 : dt75 81 3 = dt36 81 3 := hF77 81 (by decide) 3
    have w104 : dt75 81 4 = dt36 81 4 := hF77 81 (by decide) 4
    have w105 : dt75 81 5 = dt36 81 5 := hF77 81 (by decide) 5
    rcases h74 with ⟨rfl, h74⟩ | ⟨v_h74, rfl, h74r, h74⟩
    · skip
      obtain ⟨h74_0, h74_1, h74_2⟩ := h74
      have M2106 : MW (dt75 81) := MW_frk M268 hF77 (by decide)
      refine go_toq PM267 (k := 1) (pc' := 1435) (L' := [some (.inr (.inr (some 3000))), some (.inr (.inr (some 0))), some (.inr (.inr (some 79))), some (.inl i)]) (st' := []) (w' := (SH, dt75)) rfl ?_
      exact K dt75 hI76 hM79 M2106 (by first | omega | (simp only [*]; done) | simp only [*]) (by omega) (by omega) (by omega) (by omega) (by omega) (by omega) (by omega) (by omega) (by omega) (by omega) (by omega) (by omega) (by omega)
    · skip
      obtain ⟨h74_0, h74_1, h74_2, h74_3⟩ := h74
      have M2107 : MW (dt75 81) := MW_frk M268 hF77 (by decide)
      refine go_ifq PM267 (k := 0) (p1 := 1435) (p2 := 264) (L' := [some (.inr (.inr (some 3000))), some (.inr (.inr (some 0))), some (.inr (.inr (some 79))), some (.inl i)]) (st' := []) (w' := (SH, dt75)) rfl (c_eq (a := (-1)) (b := v_h74) ⟨by decide, by decide⟩ (by first | exact bnd h74r (by decide) (by decide) | exact ⟨by omega, by omega⟩)) (fun c108 => ?_) (fun c108 => ?_)
      · skip
        exact K dt75 hI76 hM79 M2107 (by first | omega | (simp only [*]; done) | simp only [*]) (by omega) (by omega) (by omega) (by omega) (by omega) (by omega) (by omega) (by omega) (by omega) (by omega) (by omega) (by omega) (by omega)
      · skip
        exfalso; omega
  · skip
    obtain ⟨h35_0, h35_1, h35_2⟩ := h35
    have M2109 : MW (dt36 81) := MW_frk hM2 hF38 (by decide)
    refine go_toq PM267 (k := 5) (pc' := 237) (L' := [some (.inr (.inr (some 3000))), some (.inr (.inr (some 0))), some (.inr (.inr (some 79))), some (.inl i)]) (st' := [.inl (i + 1), .inr (.inr (some 3000)), .inr (.inr (some 79)), .inl v_h35]) (w' := (SH, dt36)) rfl ?_
    have r110 := i32_R (xs ((i + 1).toNat))
    refine go_smpq PM267 (L' := [some (.inr (.inr (some 3000))), some (.inr (.inr (some 0))), some (.inr (.inr (some 79))), some (.inl i)]) (st' := [.inl ((xs ((i + 1).toNat)).toInt), .inr (.inr (some 79)), .inl v_h35]) (w' := (SH, dt36)) rfl rfl (s_iald (n := L) (f := fun j => (xs j).toInt) (am_scr hLL) ⟨by omega, by omega⟩) ?_
    refine go_toq PM267 (k := 4) (pc' := 242) (L' := [some (.inr (.inr (some 3000))), some (.inr (.inr (some 0))), some (.inr (.inr (some 79))), some (.inl i)]) (st' := [.inl (i + 2), .inr (.inr (some 3000)), .inl ((xs ((i + 1).toNat)).toInt), .inr (.inr (some 79)), .inl v_h35]) (w' := (SH, dt36)) rfl ?_
    have r111 := i32_R (xs ((i + 2).toNat))
    refine go_smpq PM267 (L' := [some (.inr (.inr (some 3000))), some (.inr (.inr (some 0))), some (.inr (.inr (some 79))), some (.inl i)]) (st' := [.inl ((xs ((i + 2).toNat)).toInt), .inl ((xs ((i + 1).toNat)).toInt), .inr (.inr (some 79)), .inl v_h35]) (w' := (SH, dt36)) rfl rfl (s_iald (n := L) (f := fun j => (xs j).toInt) (am_scr hLL) ⟨by omega, by omega⟩) ?_
    refine go_toq PM267 (k := 4) (pc' := 247) (L' := [some (.inr (.inr (some 3000))), some (.inr (.inr (some 0))), some (.inr (.inr (some 79))), some (.inl i)]) (st' := [.inl (i + 3), .inr (.inr (some 3000)), .inl ((xs ((i + 2).toNat)).toInt), .inl ((xs ((i + 1).toNat)).toInt), .inr (.inr (some 79)), .inl v_h35]) (w' := (SH, dt36)) rfl ?_
    have r112 := i32_R (xs ((i + 3).toNat))
    refine go_smpq PM267 (L' := [some (.inr (.inr (some 3000))), some (.inr (.inr (some 0))), some (.inr (.inr (some 79))), some (.inl i)]) (st' := [.inl ((xs ((i + 3).toNat)).toInt), .inl ((xs ((i + 2).toNat)).toInt), .inl ((xs ((i + 1).toNat)).toInt), .inr (.inr (some 79)), .inl v_h35]) (w' := (SH, dt36)) rfl rfl (s_iald (n := L) (f := fun j => (xs j).toInt) (am_scr hLL) ⟨by omega, by omega⟩) ?_
    refine go_toq PM267 (k := 4) (pc' := 252) (L' := [some (.inr (.inr (some 3000))), some (.inr (.inr (some 0))), some (.inr (.inr (some 79))), some (.inl i)]) (st' := [.inl (i + 4), .inr (.inr (some 3000)), .inl ((xs ((i + 3).toNat)).toInt), .inl ((xs ((i + 2).toNat)).toInt), .inl ((xs ((i + 1).toNat)).toInt), .inr (.inr (some 79)), .inl v_h35]) (w' := (SH, dt36)) rfl ?_
    have r113 := i32_R (xs ((i + 4).toNat))
    refine go_smpq PM267 (L' := [some (.inr (.inr (some 3000))), some (.inr (.inr (some 0))), some (.inr (.inr (some 79))), some (.inl i)]) (st' := [.inl ((xs ((i + 4).toNat)).toInt), .inl ((xs ((i + 3).toNat)).toInt), .inl ((xs ((i + 2).toNat)).toInt), .inl ((xs ((i + 1).toNat)).toInt), .inr (.inr (some 79)), .inl v_h35]) (w' := (SH, dt36)) rfl rfl (s_iald (n := L) (f := fun j => (xs j).toInt) (am_scr hLL) ⟨by omega, by omega⟩) ?_
    refine go_toq PM267 (k := 4) (pc' := 257) (L' := [some (.inr (.inr (some 3000))), some (.inr (.inr (some 0))), some (.inr (.inr (some 79))), some (.inl i)]) (st' := [.inl (i + 5), .inr (.inr (some 3000)), .inl ((xs ((i + 4).toNat)).toInt), .inl ((xs ((i + 3).toNat)).toInt), .inl ((xs ((i + 2).toNat)).toInt), .inl ((xs ((i + 1).toNat)).toInt), .inr (.inr (some 79)), .inl v_h35]) (w' := (SH, dt36)) rfl ?_
    have r114 := i32_R (xs ((i + 5).toNat))
    refine go_smpq PM267 (L' := [some (.inr (.inr (some 3000))), some (.inr (.inr (some 0))), some (.inr (.inr (some 79))), some (.inl i)]) (st' := [.inl ((xs ((i + 5).toNat)).toInt), .inl ((xs ((i + 4).toNat)).toInt), .inl ((xs ((i + 3).toNat)).toInt), .inl ((xs ((i + 2).toNat)).toInt), .inl ((xs ((i + 1).toNat)).toInt), .inr (.inr (some 79)), .inl v_h35]) (w' := (SH, dt36)) rfl rfl (s_iald (n := L) (f := fun j => (xs j).toInt) (am_scr hLL) ⟨by omega, by omega⟩) ?_
    refine go_callq PM267 PM151 (Q' := _) rfl rfl rfl rfl (sp_X6_feed L xs sio (d + 38) dt36 hI37  ((xs ((i + 1).toNat)).toInt) ⟨by omega, by omega⟩ ((xs ((i + 2).toNat)).toInt) ⟨by omega, by omega⟩ ((xs ((i + 3).toNat)).toInt) ⟨by omega, by omega⟩ ((xs ((i + 4).toNat)).toInt) ⟨by omega, by omega⟩ ((xs ((i + 5).toNat)).toInt) ⟨by omega, by omega⟩ ) ?_
    rintro _ _ ⟨dt116, rfl, hI117, hF118, h115⟩
    refine ⟨rfl, ?_⟩
    have hF119 : Fr [0, 1, 2, 3, 4, 5, 6, 7, 8, 9, 10, 11, 12, 13, 14, 15, 16, 17, 18, 19, 20, 21, 22, 23, 24, 25, 26, 27, 28, 29, 30, 31, 32, 33, 34, 35, 36, 37, 38, 39, 40, 41, 42, 43, 44, 45, 46, 47, 48, 49, 50, 51, 52, 53, 54, 55, 56, 57, 58, 59, 60, 61, 62, 63, 64, 65, 66, 67, 68, 69, 70, 71, 72, 73, 74, 75, 76, 77, 78, 79, 80, 81, 82, 83, 84, 85, 86, 87, 88, 89, 90, 91, 92, 93, 94, 95, 96, 97, 98, 99, 100, 101, 102, 103, 104] dt dt116 := Fr_tr hF39 hF118 (by decide)
    have hM120 : MW (dt116 80) := MW_fr hM40 hF118 (by decide)
    have w121 : dt116 1 0 = dt36 1 0 := hF118 1 (by decide) 0
    have w122 : dt116 7 3 = dt36 7 3 := hF118 7 (by decide) 3
    have w123 : dt116 10 3 = dt36 10 3 := hF118 10 (by decide) 3
    have w124 : dt116 12 3 = dt36 12 3 := hF118 12 (by decide) 3
    have w125 : dt116 14 3 = dt36 14 3 := hF118 14 (by decide) 3
    have w126 : dt116 16 3 = dt36 16 3 := hF118 16 (by decide) 3
    have w127 : dt116 18 0 = dt36 18 0 := hF118 18 (by decide) 0
    have w128 : dt116 24 3 = dt36 24 3 := hF118 24 (by decide) 3
    have w129 : dt116 27 3 = dt36 27 3 := hF118 27 (by decide) 3
    have w130 : dt116 29 3 = dt36 29 3 := hF118 29 (by decide) 3
    have w131 : dt116 31 3 = dt36 31 3 := hF118 31 (by decide) 3
    have w132 : dt116 33 3 = dt36 33 3 := hF118 33 (by decide) 3
    have w133 : dt116 0 2 = dt36 0 2 := hF118 0 (by decide) 2
    have w134 : dt116 35 1 = dt36 35 1 := hF118 35 (by decide) 1
    have w135 : dt116 80 0 = dt36 80 0 := hF118 80 (by decide) 0
    have w136 : dt116 80 1 = dt36 80 1 := hF118 80 (by decide) 1
    have w137 : dt116 80 2 = dt36 80 2 := hF118 80 (by decide) 2
    have w138 : dt116 80 3 = dt36 80 3 := hF118 80 (by decide) 3
    have w139 : dt116 80 4 = dt36 80 4 := hF118 80 (by decide) 4
    have w140 : dt116 80 5 = dt36 80 5 := hF118 80 (by decide) 5
    have w141 : dt116 81 0 = dt36 81 0 := hF118 81 (by decide) 0
    have w142 : dt116 81 1 = dt36 81 1 := hF118 81 (by decide) 1
    have w143 : dt116 81 2 = dt36 81 2 := hF118 81 (by decide) 2
    have w144 : dt116 81 3 = dt36 81 3 := hF118 81 (by decide) 3
    have w145 : dt116 81 4 = dt36 81 4 := hF118 81 (by decide) 4
    have w146 : dt116 81 5 = dt36 81 5 := hF118 81 (by decide) 5
    rcases h115 with ⟨rfl, h115⟩ | ⟨v_h115, rfl, h115r, h115⟩
    · skip
      obtain ⟨h115_0, h115_1, h115_2⟩ := h115
      have M2147 : MW (dt116 81) := MW_frk M2109 hF118 (by decide)
      refine go_ifq PM267 (k := 0) (p1 := 1435) (p2 := 264) (L' := [some (.inr (.inr (some 3000))), some (.inr (.inr (some 0))), some (.inr (.inr (some 79))), some (.inl i)]) (st' := []) (w' := (SH, dt116)) rfl (c_eq (a := v_h35) (b := (-1)) (by first | exact bnd h35r (by decide) (by decide) | exact ⟨by omega, by omega⟩) ⟨by decide, by decide⟩) (fun c148 => ?_) (fun c148 => ?_)
      · skip
        exact K dt116 hI117 hM120 M2147 (by first | omega | (simp only [*]; done) | simp only [*]) (by omega) (by omega) (by omega) (by omega) (by omega) (by omega) (by omega) (by omega) (by omega) (by omega) (by omega) (by omega) (by omega)
      · skip
        exfalso; omega
    · skip
      obtain ⟨h115_0, h115_1, h115_2, h115_3⟩ := h115
      have M2149 : MW (dt116 81) := MW_frk M2109 hF118 (by decide)
      refine go_ifq PM267 (k := 0) (p1 := 1435) (p2 := 264) (L' := [some (.inr (.inr (some 3000))), some (.inr (.inr (some 0))), some (.inr (.inr (some 79))), some (.inl i)]) (st' := []) (w' := (SH, dt116)) rfl (c_eq (a := v_h35) (b := v_h115) (by first | exact bnd h35r (by decide) (by decide) | exact ⟨by omega, by omega⟩) (by first | exact bnd h115r (by decide) (by decide) | exact ⟨by omega, by omega⟩)) (fun c150 => ?_) (fun c150 => ?_)
      · skip
        exact K dt116 hI117 hM120 M2149 (by first | omega | (simp only [*]; done) | simp only [*]) (by omega) (by omega) (by omega) (by omega) (by omega) (by omega) (by omega) (by omega) (by omega) (by omega) (by omega) (by omega) (by omega)
      · skip
        exfalso; omega
set_option maxRecDepth 20000 in
set_option maxHeartbeats 8000000 in
theorem sp_case2 (L : Nat) (xs : Nat → Int32) (sio : Option Nat) (d : Nat) (Q : Option AV → am_W → Prop) (hLL : L ≤ 3072) (i : Int) (hi : 0 ≤ i ∧ i ≤ 3066) (hil : i ≤ (L : Int) - 6) (dt : Nat → Nat → Int) (hI : InvC dt) (hM : MW (dt 80)) (hM2 : MW (dt 81)) (hk0 : dt 1 0 = dt 80 0) (hk1 : dt 7 3 = dt 80 1) (hk2 : dt 10 3 = dt 80 2) (hk3 : dt 12 3 = dt 80 3) (hk4 : dt 14 3 = dt 80 4) (hk5 : dt 16 3 = dt 80 5) (hk6 : dt 18 0 = dt 81 0) (hk7 : dt 24 3 = dt 81 1) (hk8 : dt 27 3 = dt 81 2) (hk9 : dt 29 3 = dt 81 3) (hk10 : dt 31 3 = dt 81 4) (hk11 : dt 33 3 = dt 81 5) (hk12 : dt 0 2 = dt 79 2) (hk13 : dt 35 1 = dt 79 12) (K : ∀ (dt : Nat → Nat → Int) (hI : InvC dt) (hM : MW (dt 80)) (hM2 : MW (dt 81)) (hk0 : dt 1 0 = dt 80 0) (hk1 : dt 7 3 = dt 80 1) (hk2 : dt 10 3 = dt 80 2) (hk3 : dt 12 3 = dt 80 3) (hk4 : dt 14 3 = dt 80 4) (hk5 : dt 16 3 = dt 80 5) (hk6 : dt 18 0 = dt 81 0) (hk7 : dt 24 3 = dt 81 1) (hk8 : dt 27 3 = dt 81 2) (hk9 : dt 29 3 = dt 81 3) (hk10 : dt 31 3 = dt 81 4) (hk11 : dt 33 3 = dt 81 5) (hk12 : dt 0 2 = dt 79 2) (hk13 : dt 35 1 = dt 79 12), GO (am_XX L xs sio) (d + 39) 267 1435 [some (.inr (.inr (some 3000))), some (.inr (.inr (some 0))), some (.inr (.inr (some 79))), some (.inl i)] [] (SH, dt) Q) : GO (am_XX L xs sio) (d + 39) 267 266 [some (.inr (.inr (some 3000))), some (.inr (.inr (some 0))), some (.inr (.inr (some 79))), some (.inl i)] [] (SH, dt) Q := by
  have hF : Fr [0, 1, 2, 3, 4, 5, 6, 7, 8, 9, 10, 11, 12, 13, 14, 15, 16, 17, 18, 19, 20, 21, 22, 23, 24, 25, 26, 27, 28, 29, 30, 31, 32, 33, 34, 35, 36, 37, 38, 39, 40, 41, 42, 43, 44, 45, 46, 47, 48, 49, 50, 51, 52, 53, 54, 55, 56, 57, 58, 59, 60, 61, 62, 63, 64, 65, 66, 67, 68, 69, 70, 71, 72, 73, 74, 75, 76, 77, 78, 79, 80, 81, 82, 83, 84, 85, 86, 87, 88, 89, 90, 91, 92, 93, 94, 95, 96, 97, 98, 99, 100, 101, 102, 103, 104] dt dt := Fr_refl
  refine go_toq PM267 (k := 5) (pc' := 271) (L' := [some (.inr (.inr (some 3000))), some (.inr (.inr (some 0))), some (.inr (.inr (some 79))), some (.inl i)]) (st' := [.inl (i + 1), .inr (.inr (some 3000)), .inr (.inr (some 0))]) (w' := (SH, dt)) rfl ?_
  have r1 := i32_R (xs ((i + 1).toNat))
  refine go_smpq PM267 (L' := [some (.inr (.inr (some 3000))), some (.inr (.inr (some 0))), some (.inr (.inr (some 79))), some (.inl i)]) (st' := [.inl ((xs ((i + 1).toNat)).toInt), .inr (.inr (some 0))]) (w' := (SH, dt)) rfl rfl (s_iald (n := L) (f := fun j => (xs j).toInt) (am_scr hLL) ⟨by omega, by omega⟩) ?_
  refine go_callq PM267 PM69 (Q' := _) rfl rfl rfl rfl (sp_X5_end L xs sio (d + 37) dt hI  ((xs ((i + 1).toNat)).toInt) ⟨by omega, by omega⟩ ) ?_
  rintro _ _ ⟨dt3, rfl, hI4, hF5, h2⟩
  refine ⟨rfl, ?_⟩
  have hF6 : Fr [0, 1, 2, 3, 4, 5, 6, 7, 8, 9, 10, 11, 12, 13, 14, 15, 16, 17, 18, 19, 20, 21, 22, 23, 24, 25, 26, 27, 28, 29, 30, 31, 32, 33, 34, 35, 36, 37, 38, 39, 40, 41, 42, 43, 44, 45, 46, 47, 48, 49, 50, 51, 52, 53, 54, 55, 56, 57, 58, 59, 60, 61, 62, 63, 64, 65, 66, 67, 68, 69, 70, 71, 72, 73, 74, 75, 76, 77, 78, 79, 80, 81, 82, 83, 84, 85, 86, 87, 88, 89, 90, 91, 92, 93, 94, 95, 96, 97, 98, 99, 100, 101, 102, 103, 104] dt dt3 := Fr_tr hF hF5 (by decide)
  have hM7 : MW (dt3 80) := MW_fr hM hF5 (by decide)
  have w8 : dt3 1 0 = dt 1 0 := hF5 1 (by decide) 0
  have w9 : dt3 7 3 = dt 7 3 := hF5 7 (by decide) 3
  have w10 : dt3 10 3 = dt 10 3 := hF5 10 (by decide) 3
  have w11 : dt3 12 3 = dt 12 3 := hF5 12 (by decide) 3
  have w12 : dt3 14 3 = dt 14 3 := hF5 14 (by decide) 3
  have w13 : dt3 16 3 = dt 16 3 := hF5 16 (by decide) 3
  have w14 : dt3 18 0 = dt 18 0 := hF5 18 (by decide) 0
  have w15 : dt3 24 3 = dt 24 3 := hF5 24 (by decide) 3
  have w16 : dt3 27 3 = dt 27 3 := hF5 27 (by decide) 3
  have w17 : dt3 29 3 = dt 29 3 := hF5 29 (by decide) 3
  have w18 : dt3 31 3 = dt 31 3 := hF5 31 (by decide) 3
  have w19 : dt3 33 3 = dt 33 3 := hF5 33 (by decide) 3
  have w20 : dt3 0 2 = dt 0 2 := hF5 0 (by decide) 2
  have w21 : dt3 80 0 = dt 80 0 := hF5 80 (by decide) 0
  have w22 : dt3 80 1 = dt 80 1 := hF5 80 (by decide) 1
  have w23 : dt3 80 2 = dt 80 2 := hF5 80 (by decide) 2
  have w24 : dt3 80 3 = dt 80 3 := hF5 80 (by decide) 3
  have w25 : dt3 80 4 = dt 80 4 := hF5 80 (by decide) 4
  have w26 : dt3 80 5 = dt 80 5 := hF5 80 (by decide) 5
  have w27 : dt3 81 0 = dt 81 0 := hF5 81 (by decide) 0
  have w28 : dt3 81 1 = dt 81 1 := hF5 81 (by decide) 1
  have w29 : dt3 81 2 = dt 81 2 := hF5 81 (by decide) 2
  have w30 : dt3 81 3 = dt 81 3 := hF5 81 (by decide) 3
  have w31 : dt3 81 4 = dt 81 4 := hF5 81 (by decide) 4
  have w32 : dt3 81 5 = dt 81 5 := hF5 81 (by decide) 5
  have w33 : dt3 79 2 = dt 79 2 := hF5 79 (by decide) 2
  have w34 : dt3 79 12 = dt 79 12 := hF5 79 (by decide) 12
  rcases h2 with ⟨rfl, h2⟩ | ⟨rfl, h2⟩
  · skip
    obtain ⟨h2_0, h2_1⟩ := h2
    have M235 : MW (dt3 81) := MW_frk hM2 hF5 (by decide)
    refine go_toq PM267 (k := 6) (pc' := 281) (L' := [some (.inr (.inr (some 3000))), some (.inr (.inr (some 0))), some (.inr (.inr (some 79))), some (.inl i)]) (st' := [.inl (i + 1), .inr (.inr (some 3000)), .inr (.inr (some 79))]) (w' := (SH, dt3)) rfl ?_
    have r36 := i32_R (xs ((i + 1).toNat))
    refine go_smpq PM267 (L' := [some (.inr (.inr (some 3000))), some (.inr (.inr (some 0))), some (.inr (.inr (some 79))), some (.inl i)]) (st' := [.inl ((xs ((i + 1).toNat)).toInt), .inr (.inr (some 79))]) (w' := (SH, dt3)) rfl rfl (s_iald (n := L) (f := fun j => (xs j).toInt) (am_scr hLL) ⟨by omega, by omega⟩) ?_
    refine go_callq PM267 PM152 (Q' := _) rfl rfl rfl rfl (sp_X6_end L xs sio (d + 37) dt3 hI4  ((xs ((i + 1).toNat)).toInt) ⟨by omega, by omega⟩ ) ?_
    rintro _ _ ⟨dt38, rfl, hI39, hF40, h37⟩
    refine ⟨rfl, ?_⟩
    have hF41 : Fr [0, 1, 2, 3, 4, 5, 6, 7, 8, 9, 10, 11, 12, 13, 14, 15, 16, 17, 18, 19, 20, 21, 22, 23, 24, 25, 26, 27, 28, 29, 30, 31, 32, 33, 34, 35, 36, 37, 38, 39, 40, 41, 42, 43, 44, 45, 46, 47, 48, 49, 50, 51, 52, 53, 54, 55, 56, 57, 58, 59, 60, 61, 62, 63, 64, 65, 66, 67, 68, 69, 70, 71, 72, 73, 74, 75, 76, 77, 78, 79, 80, 81, 82, 83, 84, 85, 86, 87, 88, 89, 90, 91, 92, 93, 94, 95, 96, 97, 98, 99, 100, 101, 102, 103, 104] dt dt38 := Fr_tr hF6 hF40 (by decide)
    have hM42 : MW (dt38 80) := MW_fr hM7 hF40 (by decide)
    have w43 : dt38 1 0 = dt3 1 0 := hF40 1 (by decide) 0
    have w44 : dt38 7 3 = dt3 7 3 := hF40 7 (by decide) 3
    have w45 : dt38 10 3 = dt3 10 3 := hF40 10 (by decide) 3
    have w46 : dt38 12 3 = dt3 12 3 := hF40 12 (by decide) 3
    have w47 : dt38 14 3 = dt3 14 3 := hF40 14 (by decide) 3
    have w48 : dt38 16 3 = dt3 16 3 := hF40 16 (by decide) 3
    have w49 : dt38 18 0 = dt3 18 0 := hF40 18 (by decide) 0
    have w50 : dt38 24 3 = dt3 24 3 := hF40 24 (by decide) 3
    have w51 : dt38 27 3 = dt3 27 3 := hF40 27 (by decide) 3
    have w52 : dt38 29 3 = dt3 29 3 := hF40 29 (by decide) 3
    have w53 : dt38 31 3 = dt3 31 3 := hF40 31 (by decide) 3
    have w54 : dt38 33 3 = dt3 33 3 := hF40 33 (by decide) 3
    have w55 : dt38 0 2 = dt3 0 2 := hF40 0 (by decide) 2
    have w56 : dt38 35 1 = dt3 35 1 := hF40 35 (by decide) 1
    have w57 : dt38 80 0 = dt3 80 0 := hF40 80 (by decide) 0
    have w58 : dt38 80 1 = dt3 80 1 := hF40 80 (by decide) 1
    have w59 : dt38 80 2 = dt3 80 2 := hF40 80 (by decide) 2
    have w60 : dt38 80 3 = dt3 80 3 := hF40 80 (by decide) 3
    have w61 : dt38 80 4 = dt3 80 4 := hF40 80 (by decide) 4
    have w62 : dt38 80 5 = dt3 80 5 := hF40 80 (by decide) 5
    have w63 : dt38 81 0 = dt3 81 0 := hF40 81 (by decide) 0
    have w64 : dt38 81 1 = dt3 81 1 := hF40 81 (by decide) 1
    have w65 : dt38 81 2 = dt3 81 2 := hF40 81 (by decide) 2
    have w66 : dt38 81 3 = dt3 81 3 := hF40 81 (by decide) 3
    have w67 : dt38 81 4 = dt3 81 4 := hF40 81 (by decide) 4
    have w68 : dt38 81 5 = dt3 81 5 := hF40 81 (by decide) 5
    rcases h37 with ⟨rfl, h37⟩ | ⟨rfl, h37⟩
    · skip
      obtain ⟨h37_0, h37_1, h37_2⟩ := h37
      have M269 : MW (dt38 81) := MW_frk M235 hF40 (by decide)
      refine go_toq PM267 (k := 2) (pc' := 1435) (L' := [some (.inr (.inr (some 3000))), some (.inr (.inr (some 0))), some (.inr (.inr (some 79))), some (.inl i)]) (st' := []) (w' := (SH, dt38)) rfl ?_
      exact K dt38 hI39 hM42 M269 (by first | omega | (simp only [*]; done) | simp only [*]) (by omega) (by omega) (by omega) (by omega) (by omega) (by omega) (by omega) (by omega) (by omega) (by omega) (by omega) (by omega) (by omega)
    · skip
      obtain ⟨h37_0, h37_1, h37_2⟩ := h37
      have M270 : MW (dt38 81) := MW_frk M235 hF40 (by decide)
      refine go_toq PM267 (k := 2) (pc' := 1435) (L' := [some (.inr (.inr (some 3000))), some (.inr (.inr (some 0))), some (.inr (.inr (some 79))), some (.inl i)]) (st' := []) (w' := (SH, dt38)) rfl ?_
      exact K dt38 hI39 hM42 M270 (by first | omega | (simp only [*]; done) | simp only [*]) (by omega) (by omega) (by omega) (by omega) (by omega) (by omega) (by omega) (by omega) (by omega) (by omega) (by omega) (by omega) (by omega)
  · skip
    obtain ⟨h2_0, h2_1⟩ := h2
    have M271 : MW (dt3 81) := MW_frk hM2 hF5 (by decide)
    refine go_toq PM267 (k := 6) (pc' := 281) (L' := [some (.inr (.inr (some 3000))), some (.inr (.inr (some 0))), some (.inr (.inr (some 79))), some (.inl i)]) (st' := [.inl (i + 1), .inr (.inr (some 3000)), .inr (.inr (some 79))]) (w' := (SH, dt3)) rfl ?_
    have r72 := i32_R (xs ((i + 1).toNat))
    refine go_smpq PM267 (L' := [some (.inr (.inr (some 3000))), some (.inr (.inr (some 0))), some (.inr (.inr (some 79))), some (.inl i)]) (st' := [.inl ((xs ((i + 1).toNat)).toInt), .inr (.inr (some 79))]) (w' := (SH, dt3)) rfl rfl (s_iald (n := L) (f := fun j => (xs j).toInt) (am_scr hLL) ⟨by omega, by omega⟩) ?_
    refine go_callq PM267 PM152 (Q' := _) rfl rfl rfl rfl (sp_X6_end L xs sio (d + 37) dt3 hI4  ((xs ((i + 1).toNat)).toInt) ⟨by omega, by omega⟩ ) ?_
    rintro _ _ ⟨dt74, rfl, hI75, hF76, h73⟩
    refine ⟨rfl, ?_⟩
    have hF77 : Fr [0, 1, 2, 3, 4, 5, 6, 7, 8, 9, 10, 11, 12, 13, 14, 15, 16, 17, 18, 19, 20, 21, 22, 23, 24, 25, 26, 27, 28, 29, 30, 31, 32, 33, 34, 35, 36, 37, 38, 39, 40, 41, 42, 43, 44, 45, 46, 47, 48, 49, 50, 51, 52, 53, 54, 55, 56, 57, 58, 59, 60, 61, 62, 63, 64, 65, 66, 67, 68, 69, 70, 71, 72, 73, 74, 75, 76, 77, 78, 79, 80, 81, 82, 83, 84, 85, 86, 87, 88, 89, 90, 91, 92, 93, 94, 95, 96, 97, 98, 99, 100, 101, 102, 103, 104] dt dt74 := Fr_tr hF6 hF76 (by decide)
    have hM78 : MW (dt74 80) := MW_fr hM7 hF76 (by decide)
    have w79 : dt74 1 0 = dt3 1 0 := hF76 1 (by decide) 0
    have w80 : dt74 7 3 = dt3 7 3 := hF76 7 (by decide) 3
    have w81 : dt74 10 3 = dt3 10 3 := hF76 10 (by decide) 3
    have w82 : dt74 12 3 = dt3 12 3 := hF76 12 (by decide) 3
    have w83 : dt74 14 3 = dt3 14 3 := hF76 14 (by decide) 3
    have w84 : dt74 16 3 = dt3 16 3 := hF76 16 (by decide) 3
    have w85 : dt74 18 0 = dt3 18 0 := hF76 18 (by decide) 0
    have w86 : dt74 24 3 = dt3 24 3 := hF76 24 (by decide) 3
    have w87 : dt74 27 3 = dt3 27 3 := hF76 27 (by decide) 3
    have w88 : dt74 29 3 = dt3 29 3 := hF76 29 (by decide) 3
    have w89 : dt74 31 3 = dt3 31 3 := hF76 31 (by decide) 3
    have w90 : dt74 33 3 = dt3 33 3 := hF76 33 (by decide) 3
    have w91 : dt74 0 2 = dt3 0 2 := hF76 0 (by decide) 2
    have w92 : dt74 35 1 = dt3 35 1 := hF76 35 (by decide) 1
    have w93 : dt74 80 0 = dt3 80 0 := hF76 80 (by decide) 0
    have w94 : dt74 80 1 = dt3 80 1 := hF76 80 (by decide) 1
    have w95 : dt74 80 2 = dt3 80 2 := hF76 80 (by decide) 2
    have w96 : dt74 80 3 = dt3 80 3 := hF76 80 (by decide) 3
    have w97 : dt74 80 4 = dt3 80 4 := hF76 80 (by decide) 4
    have w98 : dt74 80 5 = dt3 80 5 := hF76 80 (by decide) 5
    have w99 : dt74 81 0 = dt3 81 0 := hF76 81 (by decide) 0
    have w100 : dt74 81 1 = dt3 81 1 := hF76 81 (by decide) 1
    have w101 : dt74 81 2 = dt3 81 2 := hF76 81 (by decide) 2
    have w102 : dt74 81 3 = dt3 81 3 := hF76 81 (by decide) 3
    have w103 : dt74 81 4 = dt3 81 4 := hF76 81 (by decide) 4
    have w104 : dt74 81 5 = dt3 81 5 := hF76 81 (by decide) 5
    rcases h73 with ⟨rfl, h73⟩ | ⟨rfl, h73⟩
    · skip
      obtain ⟨h73_0, h73_1, h73_2⟩ := h73
      have M2105 : MW (dt74 81) := MW_frk M271 hF76 (by decide)
      refine go_toq PM267 (k := 2) (pc' := 1435) (L' := [some (.inr (.inr (some 3000))), some (.inr (.inr (some 0))), some (.inr (.inr (some 79))), some (.inl i)]) (st' := []) (w' := (SH, dt74)) rfl ?_
      exact K dt74 hI75 hM78 M2105 (by first | omega | (simp only [*]; done) | simp only [*]) (by omega) (by omega) (by omega) (by omega) (by omega) (by omega) (by omega) (by omega) (by omega) (by omega) (by omega) (by omega) (by omega)
    · skip
      obtain ⟨h73_0, h73_1, h73_2⟩ := h73
      have M2106 : MW (dt74 81) := MW_frk M271 hF76 (by decide)
      refine go_toq PM267 (k := 2) (pc' := 1435) (L' := [some (.inr (.inr (some 3000))), some (.inr (.inr (some 0))), some (.inr (.inr (some 79))), some (.inl i)]) (st' := []) (w' := (SH, dt74)) rfl ?_
      exact K dt74 hI75 hM78 M2106 (by first | omega | (simp only [*]; done) | simp only [*]) (by omega) (by omega) (by omega) (by omega) (by omega) (by omega) (by omega) (by omega) (by omega) (by omega) (by omega) (by omega) (by omega)
set_option maxRecDepth 20000 in
set_option maxHeartbeats 8000000 in
theorem sp_case3 (L : Nat) (xs : Nat → Int32) (sio : Option Nat) (d : Nat) (Q : Option AV → am_W → Prop) (hLL : L ≤ 3072) (i : Int) (hi : 0 ≤ i ∧ i ≤ 3066) (hil : i ≤ (L : Int) - 6) (dt : Nat → Nat → Int) (hI : InvC dt) (hM : MW (dt 80)) (hM2 : MW (dt 81)) (hk0 : dt 1 0 = dt 80 0) (hk1 : dt 7 3 = dt 80 1) (hk2 : dt 10 3 = dt 80 2) (hk3 : dt 12 3 = dt 80 3) (hk4 : dt 14 3 = dt 80 4) (hk5 : dt 16 3 = dt 80 5) (hk6 : dt 18 0 = dt 81 0) (hk7 : dt 24 3 = dt 81 1) (hk8 : dt 27 3 = dt 81 2) (hk9 : dt 29 3 = dt 81 3) (hk10 : dt 31 3 = dt 81 4) (hk11 : dt 33 3 = dt 81 5) (hk12 : dt 0 2 = dt 79 2) (hk13 : dt 35 1 = dt 79 12) (K : ∀ (dt : Nat → Nat → Int) (hI : InvC dt) (hM : MW (dt 80)) (hM2 : MW (dt 81)) (hk0 : dt 1 0 = dt 80 0) (hk1 : dt 7 3 = dt 80 1) (hk2 : dt 10 3 = dt 80 2) (hk3 : dt 12 3 = dt 80 3) (hk4 : dt 14 3 = dt 80 4) (hk5 : dt 16 3 = dt 80 5) (hk6 : dt 18 0 = dt 81 0) (hk7 : dt 24 3 = dt 81 1) (hk8 : dt 27 3 = dt 81 2) (hk9 : dt 29 3 = dt 81 3) (hk10 : dt 31 3 = dt 81 4) (hk11 : dt 33 3 = dt 81 5) (hk12 : dt 0 2 = dt 79 2) (hk13 : dt 35 1 = dt 79 12), GO (am_XX L xs sio) (d + 39) 267 1435 [some (.inr (.inr (some 3000))), some (.inr (.inr (some 0))), some (.inr (.inr (some 79))), some (.inl i)] [] (SH, dt) Q) : GO (am_XX L xs sio) (d + 39) 267 289 [some (.inr (.inr (some 3000))), some (.inr (.inr (some 0))), some (.inr (.inr (some 79))), some (.inl i)] [] (SH, dt) Q := by
  have hF : Fr [0, 1, 2, 3, 4, 5, 6, 7, 8, 9, 10, 11, 12, 13, 14, 15, 16, 17, 18, 19, 20, 21, 22, 23, 24, 25, 26, 27, 28, 29, 30, 31, 32, 33, 34, 35, 36, 37, 38, 39, 40, 41, 42, 43, 44, 45, 46, 47, 48, 49, 50, 51, 52, 53, 54, 55, 56, 57, 58, 59, 60, 61, 62, 63, 64, 65, 66, 67, 68, 69, 70, 71, 72, 73, 74, 75, 76, 77, 78, 79, 80, 81, 82, 83, 84, 85, 86, 87, 88, 89, 90, 91, 92, 93, 94, 95, 96, 97, 98, 99, 100, 101, 102, 103, 104] dt dt := Fr_refl
  refine go_toq PM267 (k := 5) (pc' := 294) (L' := [some (.inr (.inr (some 3000))), some (.inr (.inr (some 0))), some (.inr (.inr (some 79))), some (.inl i)]) (st' := [.inl (i + 1), .inr (.inr (some 3000)), .inr (.inr (some 0))]) (w' := (SH, dt)) rfl ?_
  have r1 := i32_R (xs ((i + 1).toNat))
  refine go_smpq PM267 (L' := [some (.inr (.inr (some 3000))), some (.inr (.inr (some 0))), some (.inr (.inr (some 79))), some (.inl i)]) (st' := [.inl ((xs ((i + 1).toNat)).toInt), .inr (.inr (some 0))]) (w' := (SH, dt)) rfl rfl (s_iald (n := L) (f := fun j => (xs j).toInt) (am_scr hLL) ⟨by omega, by omega⟩) ?_
  refine go_toq PM267 (k := 4) (pc' := 299) (L' := [some (.inr (.inr (some 3000))), some (.inr (.inr (some 0))), some (.inr (.inr (some 79))), some (.inl i)]) (st' := [.inl (i + 2), .inr (.inr (some 3000)), .inl ((xs ((i + 1).toNat)).toInt), .inr (.inr (some 0))]) (w' := (SH, dt)) rfl ?_
  have r2 := i32_R (xs ((i + 2).toNat))
  refine go_smpq PM267 (L' := [some (.inr (.inr (some 3000))), some (.inr (.inr (some 0))), some (.inr (.inr (some 79))), some (.inl i)]) (st' := [.inl ((xs ((i + 2).toNat)).toInt), .inl ((xs ((i + 1).toNat)).toInt), .inr (.inr (some 0))]) (w' := (SH, dt)) rfl rfl (s_iald (n := L) (f := fun j => (xs j).toInt) (am_scr hLL) ⟨by omega, by omega⟩) ?_
  refine go_callq PM267 PM70 (Q' := _) rfl rfl rfl rfl (sp_X5_text L xs sio (d + 15) dt hI  ((xs ((i + 1).toNat)).toInt) ⟨by omega, by omega⟩ ((xs ((i + 2).toNat)).toInt) ⟨by omega, by omega⟩ ) ?_
  rintro _ _ ⟨dt4, rfl, hI5, hF6, h3⟩
  refine ⟨rfl, ?_⟩
  have hF7 : Fr [0, 1, 2, 3, 4, 5, 6, 7, 8, 9, 10, 11, 12, 13, 14, 15, 16, 17, 18, 19, 20, 21, 22, 23, 24, 25, 26, 27, 28, 29, 30, 31, 32, 33, 34, 35, 36, 37, 38, 39, 40, 41, 42, 43, 44, 45, 46, 47, 48, 49, 50, 51, 52, 53, 54, 55, 56, 57, 58, 59, 60, 61, 62, 63, 64, 65, 66, 67, 68, 69, 70, 71, 72, 73, 74, 75, 76, 77, 78, 79, 80, 81, 82, 83, 84, 85, 86, 87, 88, 89, 90, 91, 92, 93, 94, 95, 96, 97, 98, 99, 100, 101, 102, 103, 104] dt dt4 := Fr_tr hF hF6 (by decide)
  have hM8 : MW (dt4 80) := MW_fr hM hF6 (by decide)
  have w9 : dt4 1 0 = dt 1 0 := hF6 1 (by decide) 0
  have w10 : dt4 7 3 = dt 7 3 := hF6 7 (by decide) 3
  have w11 : dt4 10 3 = dt 10 3 := hF6 10 (by decide) 3
  have w12 : dt4 12 3 = dt 12 3 := hF6 12 (by decide) 3
  have w13 : dt4 14 3 = dt 14 3 := hF6 14 (by decide) 3
  have w14 : dt4 16 3 = dt 16 3 := hF6 16 (by decide) 3
  have w15 : dt4 18 0 = dt 18 0 := hF6 18 (by decide) 0
  have w16 : dt4 24 3 = dt 24 3 := hF6 24 (by decide) 3
  have w17 : dt4 27 3 = dt 27 3 := hF6 27 (by decide) 3
  have w18 : dt4 29 3 = dt 29 3 := hF6 29 (by decide) 3
  have w19 : dt4 31 3 = dt 31 3 := hF6 31 (by decide) 3
  have w20 : dt4 33 3 = dt 33 3 := hF6 33 (by decide) 3
  have w21 : dt4 0 2 = dt 0 2 := hF6 0 (by decide) 2
  have w22 : dt4 80 0 = dt 80 0 := hF6 80 (by decide) 0
  have w23 : dt4 80 1 = dt 80 1 := hF6 80 (by decide) 1
  have w24 : dt4 80 2 = dt 80 2 := hF6 80 (by decide) 2
  have w25 : dt4 80 3 = dt 80 3 := hF6 80 (by decide) 3
  have w26 : dt4 80 4 = dt 80 4 := hF6 80 (by decide) 4
  have w27 : dt4 80 5 = dt 80 5 := hF6 80 (by decide) 5
  have w28 : dt4 81 0 = dt 81 0 := hF6 81 (by decide) 0
  have w29 : dt4 81 1 = dt 81 1 := hF6 81 (by decide) 1
  have w30 : dt4 81 2 = dt 81 2 := hF6 81 (by decide) 2
  have w31 : dt4 81 3 = dt 81 3 := hF6 81 (by decide) 3
  have w32 : dt4 81 4 = dt 81 4 := hF6 81 (by decide) 4
  have w33 : dt4 81 5 = dt 81 5 := hF6 81 (by decide) 5
  have w34 : dt4 79 2 = dt 79 2 := hF6 79 (by decide) 2
  have w35 : dt4 79 12 = dt 79 12 := hF6 79 (by decide) 12
  rcases h3 with ⟨v_h3, rfl, h3r, h3⟩
  have M236 : MW (dt4 81) := MW_frk hM2 hF6 (by decide)
  refine go_toq PM267 (k := 6) (pc' := 309) (L' := [some (.inr (.inr (some 3000))), some (.inr (.inr (some 0))), some (.inr (.inr (some 79))), some (.inl i)]) (st' := [.inl (i + 1), .inr (.inr (some 3000)), .inr (.inr (some 79))]) (w' := (SH, dt4)) rfl ?_
  have r37 := i32_R (xs ((i + 1).toNat))
  refine go_smpq PM267 (L' := [some (.inr (.inr (some 3000))), some (.inr (.inr (some 0))), some (.inr (.inr (some 79))), some (.inl i)]) (st' := [.inl ((xs ((i + 1).toNat)).toInt), .inr (.inr (some 79))]) (w' := (SH, dt4)) rfl rfl (s_iald (n := L) (f := fun j => (xs j).toInt) (am_scr hLL) ⟨by omega, by omega⟩) ?_
  refine go_toq PM267 (k := 4) (pc' := 314) (L' := [some (.inr (.inr (some 3000))), some (.inr (.inr (some 0))), some (.inr (.inr (some 79))), some (.inl i)]) (st' := [.inl (i + 2), .inr (.inr (some 3000)), .inl ((xs ((i + 1).toNat)).toInt), .inr (.inr (some 79))]) (w' := (SH, dt4)) rfl ?_
  have r38 := i32_R (xs ((i + 2).toNat))
  refine go_smpq PM267 (L' := [some (.inr (.inr (some 3000))), some (.inr (.inr (some 0))), some (.inr (.inr (some 79))), some (.inl i)]) (st' := [.inl ((xs ((i + 2).toNat)).toInt), .inl ((xs ((i + 1).toNat)).toInt), .inr (.inr (some 79))]) (w' := (SH, dt4)) rfl rfl (s_iald (n := L) (f := fun j => (xs j).toInt) (am_scr hLL) ⟨by omega, by omega⟩) ?_
  refine go_callq PM267 PM174 (Q' := _) rfl rfl rfl rfl (sp_X6_text L xs sio (d + 0) dt4 hI5 hM8  ((xs ((i + 1).toNat)).toInt) ⟨by omega, by omega⟩ ((xs ((i + 2).toNat)).toInt) ⟨by omega, by omega⟩ ) ?_
  rintro _ _ ⟨dt40, rfl, hI41, hF42, h39⟩
  refine ⟨rfl, ?_⟩
  have hF43 : Fr [0, 1, 2, 3, 4, 5, 6, 7, 8, 9, 10, 11, 12, 13, 14, 15, 16, 17, 18, 19, 20, 21, 22, 23, 24, 25, 26, 27, 28, 29, 30, 31, 32, 33, 34, 35, 36, 37, 38, 39, 40, 41, 42, 43, 44, 45, 46, 47, 48, 49, 50, 51, 52, 53, 54, 55, 56, 57, 58, 59, 60, 61, 62, 63, 64, 65, 66, 67, 68, 69, 70, 71, 72, 73, 74, 75, 76, 77, 78, 79, 80, 81, 82, 83, 84, 85, 86, 87, 88, 89, 90, 91, 92, 93, 94, 95, 96, 97, 98, 99, 100, 101, 102, 103, 104] dt dt40 := Fr_tr hF7 hF42 (by decide)
  have w44 : dt40 1 0 = dt4 1 0 := hF42 1 (by decide) 0
  have w45 : dt40 7 3 = dt4 7 3 := hF42 7 (by decide) 3
  have w46 : dt40 10 3 = dt4 10 3 := hF42 10 (by decide) 3
  have w47 : dt40 12 3 = dt4 12 3 := hF42 12 (by decide) 3
  have w48 : dt40 14 3 = dt4 14 3 := hF42 14 (by decide) 3
  have w49 : dt40 16 3 = dt4 16 3 := hF42 16 (by decide) 3
  have w50 : dt40 18 0 = dt4 18 0 := hF42 18 (by decide) 0
  have w51 : dt40 24 3 = dt4 24 3 := hF42 24 (by decide) 3
  have w52 : dt40 27 3 = dt4 27 3 := hF42 27 (by decide) 3
  have w53 : dt40 29 3 = dt4 29 3 := hF42 29 (by decide) 3
  have w54 : dt40 31 3 = dt4 31 3 := hF42 31 (by decide) 3
  have w55 : dt40 33 3 = dt4 33 3 := hF42 33 (by decide) 3
  have w56 : dt40 0 2 = dt4 0 2 := hF42 0 (by decide) 2
  have w57 : dt40 35 1 = dt4 35 1 := hF42 35 (by decide) 1
  have w58 : dt40 81 0 = dt4 81 0 := hF42 81 (by decide) 0
  have w59 : dt40 81 1 = dt4 81 1 := hF42 81 (by decide) 1
  have w60 : dt40 81 2 = dt4 81 2 := hF42 81 (by decide) 2
  have w61 : dt40 81 3 = dt4 81 3 := hF42 81 (by decide) 3
  have w62 : dt40 81 4 = dt4 81 4 := hF42 81 (by decide) 4
  have w63 : dt40 81 5 = dt4 81 5 := hF42 81 (by decide) 5
  rcases h39 with ⟨v_h39, rfl, h39r, h39⟩
  have hM64 : MW (dt40 80) := h39.2.2.1
  obtain ⟨h39_0, h39_1, h39_2, h39_3, h39_4, h39_5, h39_6, h39_7, h39_8⟩ := h39
  have M265 : MW (dt40 81) := MW_frk M236 hF42 (by decide)
  refine go_toq PM267 (k := 2) (pc' := 1435) (L' := [some (.inr (.inr (some 3000))), some (.inr (.inr (some 0))), some (.inr (.inr (some 79))), some (.inl i)]) (st' := []) (w' := (SH, dt40)) rfl ?_
  exact K dt40 hI41 hM64 M265 (by first | omega | (simp only [*]; done) | simp only [*]) (by omega) (by omega) (by omega) (by omega) (by omega) (by omega) (by omega) (by omega) (by omega) (by omega) (by omega) (by omega) (by omega)
set_option maxRecDepth 20000 in
set_option maxHeartbeats 8000000 in
theorem sp_case4 (L : Nat) (xs : Nat → Int32) (sio : Option Nat) (d : Nat) (Q : Option AV → am_W → Prop) (hLL : L ≤ 3072) (i : Int) (hi : 0 ≤ i ∧ i ≤ 3066) (hil : i ≤ (L : Int) - 6) (dt : Nat → Nat → Int) (hI : InvC dt) (hM : MW (dt 80)) (hM2 : MW (dt 81)) (hk0 : dt 1 0 = dt 80 0) (hk1 : dt 7 3 = dt 80 1) (hk2 : dt 10 3 = dt 80 2) (hk3 : dt 12 3 = dt 80 3) (hk4 : dt 14 3 = dt 80 4) (hk5 : dt 16 3 = dt 80 5) (hk6 : dt 18 0 = dt 81 0) (hk7 : dt 24 3 = dt 81 1) (hk8 : dt 27 3 = dt 81 2) (hk9 : dt 29 3 = dt 81 3) (hk10 : dt 31 3 = dt 81 4) (hk11 : dt 33 3 = dt 81 5) (hk12 : dt 0 2 = dt 79 2) (hk13 : dt 35 1 = dt 79 12) (K : ∀ (dt : Nat → Nat → Int) (hI : InvC dt) (hM : MW (dt 80)) (hM2 : MW (dt 81)) (hk0 : dt 1 0 = dt 80 0) (hk1 : dt 7 3 = dt 80 1) (hk2 : dt 10 3 = dt 80 2) (hk3 : dt 12 3 = dt 80 3) (hk4 : dt 14 3 = dt 80 4) (hk5 : dt 16 3 = dt 80 5) (hk6 : dt 18 0 = dt 81 0) (hk7 : dt 24 3 = dt 81 1) (hk8 : dt 27 3 = dt 81 2) (hk9 : dt 29 3 = dt 81 3) (hk10 : dt 31 3 = dt 81 4) (hk11 : dt 33 3 = dt 81 5) (hk12 : dt 0 2 = dt 79 2) (hk13 : dt 35 1 = dt 79 12), GO (am_XX L xs sio) (d + 39) 267 1435 [some (.inr (.inr (some 3000))), some (.inr (.inr (some 0))), some (.inr (.inr (some 79))), some (.inl i)] [] (SH, dt) Q) : GO (am_XX L xs sio) (d + 39) 267 322 [some (.inr (.inr (some 3000))), some (.inr (.inr (some 0))), some (.inr (.inr (some 79))), some (.inl i)] [] (SH, dt) Q := by
  have hF : Fr [0, 1, 2, 3, 4, 5, 6, 7, 8, 9, 10, 11, 12, 13, 14, 15, 16, 17, 18, 19, 20, 21, 22, 23, 24, 25, 26, 27, 28, 29, 30, 31, 32, 33, 34, 35, 36, 37, 38, 39, 40, 41, 42, 43, 44, 45, 46, 47, 48, 49, 50, 51, 52, 53, 54, 55, 56, 57, 58, 59, 60, 61, 62, 63, 64, 65, 66, 67, 68, 69, 70, 71, 72, 73, 74, 75, 76, 77, 78, 79, 80, 81, 82, 83, 84, 85, 86, 87, 88, 89, 90, 91, 92, 93, 94, 95, 96, 97, 98, 99, 100, 101, 102, 103, 104] dt dt := Fr_refl
  refine go_toq PM267 (k := 5) (pc' := 327) (L' := [some (.inr (.inr (some 3000))), some (.inr (.inr (some 0))), some (.inr (.inr (some 79))), some (.inl i)]) (st' := [.inl (i + 1), .inr (.inr (some 3000)), .inr (.inr (some 0))]) (w' := (SH, dt)) rfl ?_
  have r1 := i32_R (xs ((i + 1).toNat))
  refine go_smpq PM267 (L' := [some (.inr (.inr (some 3000))), some (.inr (.inr (some 0))), some (.inr (.inr (some 79))), some (.inl i)]) (st' := [.inl ((xs ((i + 1).toNat)).toInt), .inr (.inr (some 0))]) (w' := (SH, dt)) rfl rfl (s_iald (n := L) (f := fun j => (xs j).toInt) (am_scr hLL) ⟨by omega, by omega⟩) ?_
  refine go_callq PM267 PM71 (Q' := _) rfl rfl rfl rfl (sp_X5_fault L xs sio (d + 38) dt hI  ((xs ((i + 1).toNat)).toInt) ⟨by omega, by omega⟩ ) ?_
  rintro _ _ ⟨rfl, h2⟩
  refine ⟨rfl, ?_⟩
  rcases h2 with ⟨v_h2, rfl, h2r, h2⟩
  refine go_toq PM267 (k := 6) (pc' := 337) (L' := [some (.inr (.inr (some 3000))), some (.inr (.inr (some 0))), some (.inr (.inr (some 79))), some (.inl i)]) (st' := [.inl (i + 1), .inr (.inr (some 3000)), .inr (.inr (some 79))]) (w' := (SH, dt)) rfl ?_
  refine go_smpq PM267 (L' := [some (.inr (.inr (some 3000))), some (.inr (.inr (some 0))), some (.inr (.inr (some 79))), some (.inl i)]) (st' := [.inl ((xs ((i + 1).toNat)).toInt), .inr (.inr (some 79))]) (w' := (SH, dt)) rfl rfl (s_iald (n := L) (f := fun j => (xs j).toInt) (am_scr hLL) ⟨by omega, by omega⟩) ?_
  refine go_callq PM267 PM176 (Q' := _) rfl rfl rfl rfl (sp_X6_fault L xs sio (d + 38) dt hI  ((xs ((i + 1).toNat)).toInt) ⟨by omega, by omega⟩ ) ?_
  rintro _ _ ⟨rfl, h3⟩
  refine ⟨rfl, ?_⟩
  rcases h3 with ⟨v_h3, rfl, h3r, h3⟩
  refine go_toq PM267 (k := 2) (pc' := 1435) (L' := [some (.inr (.inr (some 3000))), some (.inr (.inr (some 0))), some (.inr (.inr (some 79))), some (.inl i)]) (st' := []) (w' := (SH, dt)) rfl ?_
  exact K dt hI hM hM2 (by first | omega | (simp only [*]; done) | simp only [*]) (by omega) (by omega) (by omega) (by omega) (by omega) (by omega) (by omega) (by omega) (by omega) (by omega) (by omega) (by omega) (by omega)
set_option maxRecDepth 20000 in
set_option maxHeartbeats 8000000 in
theorem sp_case5 (L : Nat) (xs : Nat → Int32) (sio : Option Nat) (d : Nat) (Q : Option AV → am_W → Prop) (hLL : L ≤ 3072) (i : Int) (hi : 0 ≤ i ∧ i ≤ 3066) (hil : i ≤ (L : Int) - 6) (dt : Nat → Nat → Int) (hI : InvC dt) (hM : MW (dt 80)) (hM2 : MW (dt 81)) (hk0 : dt 1 0 = dt 80 0) (hk1 : dt 7 3 = dt 80 1) (hk2 : dt 10 3 = dt 80 2) (hk3 : dt 12 3 = dt 80 3) (hk4 : dt 14 3 = dt 80 4) (hk5 : dt 16 3 = dt 80 5) (hk6 : dt 18 0 = dt 81 0) (hk7 : dt 24 3 = dt 81 1) (hk8 : dt 27 3 = dt 81 2) (hk9 : dt 29 3 = dt 81 3) (hk10 : dt 31 3 = dt 81 4) (hk11 : dt 33 3 = dt 81 5) (hk12 : dt 0 2 = dt 79 2) (hk13 : dt 35 1 = dt 79 12) (K : ∀ (dt : Nat → Nat → Int) (hI : InvC dt) (hM : MW (dt 80)) (hM2 : MW (dt 81)) (hk0 : dt 1 0 = dt 80 0) (hk1 : dt 7 3 = dt 80 1) (hk2 : dt 10 3 = dt 80 2) (hk3 : dt 12 3 = dt 80 3) (hk4 : dt 14 3 = dt 80 4) (hk5 : dt 16 3 = dt 80 5) (hk6 : dt 18 0 = dt 81 0) (hk7 : dt 24 3 = dt 81 1) (hk8 : dt 27 3 = dt 81 2) (hk9 : dt 29 3 = dt 81 3) (hk10 : dt 31 3 = dt 81 4) (hk11 : dt 33 3 = dt 81 5) (hk12 : dt 0 2 = dt 79 2) (hk13 : dt 35 1 = dt 79 12), GO (am_XX L xs sio) (d + 39) 267 1435 [some (.inr (.inr (some 3000))), some (.inr (.inr (some 0))), some (.inr (.inr (some 79))), some (.inl i)] [] (SH, dt) Q) : GO (am_XX L xs sio) (d + 39) 267 345 [some (.inr (.inr (some 3000))), some (.inr (.inr (some 0))), some (.inr (.inr (some 79))), some (.inl i)] [] (SH, dt) Q := by
  have hF : Fr [0, 1, 2, 3, 4, 5, 6, 7, 8, 9, 10, 11, 12, 13, 14, 15, 16, 17, 18, 19, 20, 21, 22, 23, 24, 25, 26, 27, 28, 29, 30, 31, 32, 33, 34, 35, 36, 37, 38, 39, 40, 41, 42, 43, 44, 45, 46, 47, 48, 49, 50, 51, 52, 53, 54, 55, 56, 57, 58, 59, 60, 61, 62, 63, 64, 65, 66, 67, 68, 69, 70, 71, 72, 73, 74, 75, 76, 77, 78, 79, 80, 81, 82, 83, 84, 85, 86, 87, 88, 89, 90, 91, 92, 93, 94, 95, 96, 97, 98, 99, 100, 101, 102, 103, 104] dt dt := Fr_refl
  refine go_toq PM267 (k := 5) (pc' := 350) (L' := [some (.inr (.inr (some 3000))), some (.inr (.inr (some 0))), some (.inr (.inr (some 79))), some (.inl i)]) (st' := [.inl (i + 1), .inr (.inr (some 3000)), .inr (.inr (some 0))]) (w' := (SH, dt)) rfl ?_
  have r1 := i32_R (xs ((i + 1).toNat))
  refine go_smpq PM267 (L' := [some (.inr (.inr (some 3000))), some (.inr (.inr (some 0))), some (.inr (.inr (some 79))), some (.inl i)]) (st' := [.inl ((xs ((i + 1).toNat)).toInt), .inr (.inr (some 0))]) (w' := (SH, dt)) rfl rfl (s_iald (n := L) (f := fun j => (xs j).toInt) (am_scr hLL) ⟨by omega, by omega⟩) ?_
  refine go_toq PM267 (k := 4) (pc' := 355) (L' := [some (.inr (.inr (some 3000))), some (.inr (.inr (some 0))), some (.inr (.inr (some 79))), some (.inl i)]) (st' := [.inl (i + 2), .inr (.inr (some 3000)), .inl ((xs ((i + 1).toNat)).toInt), .inr (.inr (some 0))]) (w' := (SH, dt)) rfl ?_
  have r2 := i32_R (xs ((i + 2).toNat))
  refine go_smpq PM267 (L' := [some (.inr (.inr (some 3000))), some (.inr (.inr (some 0))), some (.inr (.inr (some 79))), some (.inl i)]) (st' := [.inl ((xs ((i + 2).toNat)).toInt), .inl ((xs ((i + 1).toNat)).toInt), .inr (.inr (some 0))]) (w' := (SH, dt)) rfl rfl (s_iald (n := L) (f := fun j => (xs j).toInt) (am_scr hLL) ⟨by omega, by omega⟩) ?_
  refine go_toq PM267 (k := 4) (pc' := 360) (L' := [some (.inr (.inr (some 3000))), some (.inr (.inr (some 0))), some (.inr (.inr (some 79))), some (.inl i)]) (st' := [.inl (i + 3), .inr (.inr (some 3000)), .inl ((xs ((i + 2).toNat)).toInt), .inl ((xs ((i + 1).toNat)).toInt), .inr (.inr (some 0))]) (w' := (SH, dt)) rfl ?_
  have r3 := i32_R (xs ((i + 3).toNat))
  refine go_smpq PM267 (L' := [some (.inr (.inr (some 3000))), some (.inr (.inr (some 0))), some (.inr (.inr (some 79))), some (.inl i)]) (st' := [.inl ((xs ((i + 3).toNat)).toInt), .inl ((xs ((i + 2).toNat)).toInt), .inl ((xs ((i + 1).toNat)).toInt), .inr (.inr (some 0))]) (w' := (SH, dt)) rfl rfl (s_iald (n := L) (f := fun j => (xs j).toInt) (am_scr hLL) ⟨by omega, by omega⟩) ?_
  refine go_toq PM267 (k := 4) (pc' := 365) (L' := [some (.inr (.inr (some 3000))), some (.inr (.inr (some 0))), some (.inr (.inr (some 79))), some (.inl i)]) (st' := [.inl (i + 4), .inr (.inr (some 3000)), .inl ((xs ((i + 3).toNat)).toInt), .inl ((xs ((i + 2).toNat)).toInt), .inl ((xs ((i + 1).toNat)).toInt), .inr (.inr (some 0))]) (w' := (SH, dt)) rfl ?_
  have r4 := i32_R (xs ((i + 4).toNat))
  refine go_smpq PM267 (L' := [some (.inr (.inr (some 3000))), some (.inr (.inr (some 0))), some (.inr (.inr (some 79))), some (.inl i)]) (st' := [.inl ((xs ((i + 4).toNat)).toInt), .inl ((xs ((i + 3).toNat)).toInt), .inl ((xs ((i + 2).toNat)).toInt), .inl ((xs ((i + 1).toNat)).toInt), .inr (.inr (some 0))]) (w' := (SH, dt)) rfl rfl (s_iald (n := L) (f := fun j => (xs j).toInt) (am_scr hLL) ⟨by omega, by omega⟩) ?_
  refine go_callq PM267 PM72 (Q' := _) rfl rfl rfl rfl (sp_X5_after L xs sio (d + 33) dt hI  ((xs ((i + 1).toNat)).toInt) ⟨by omega, by omega⟩ ((xs ((i + 2).toNat)).toInt) ⟨by omega, by omega⟩ ((xs ((i + 3).toNat)).toInt) ⟨by omega, by omega⟩ ((xs ((i + 4).toNat)).toInt) ⟨by omega, by omega⟩ ) ?_
  rintro _ _ ⟨dt6, rfl, hI7, hF8, h5⟩
  refine ⟨rfl, ?_⟩
  have hF9 : Fr [0, 1, 2, 3, 4, 5, 6, 7, 8, 9, 10, 11, 12, 13, 14, 15, 16, 17, 18, 19, 20, 21, 22, 23, 24, 25, 26, 27, 28, 29, 30, 31, 32, 33, 34, 35, 36, 37, 38, 39, 40, 41, 42, 43, 44, 45, 46, 47, 48, 49, 50, 51, 52, 53, 54, 55, 56, 57, 58, 59, 60, 61, 62, 63, 64, 65, 66, 67, 68, 69, 70, 71, 72, 73, 74, 75, 76, 77, 78, 79, 80, 81, 82, 83, 84, 85, 86, 87, 88, 89, 90, 91, 92, 93, 94, 95, 96, 97, 98, 99, 100, 101, 102, 103, 104] dt dt6 := Fr_tr hF hF8 (by decide)
  have hM10 : MW (dt6 80) := MW_fr hM hF8 (by decide)
  have w11 : dt6 1 0 = dt 1 0 := hF8 1 (by decide) 0
  have w12 : dt6 7 3 = dt 7 3 := hF8 7 (by decide) 3
  have w13 : dt6 10 3 = dt 10 3 := hF8 10 (by decide) 3
  have w14 : dt6 12 3 = dt 12 3 := hF8 12 (by decide) 3
  have w15 : dt6 14 3 = dt 14 3 := hF8 14 (by decide) 3
  have w16 : dt6 16 3 = dt 16 3 := hF8 16 (by decide) 3
  have w17 : dt6 18 0 = dt 18 0 := hF8 18 (by decide) 0
  have w18 : dt6 24 3 = dt 24 3 := hF8 24 (by decide) 3
  have w19 : dt6 27 3 = dt 27 3 := hF8 27 (by decide) 3
  have w20 : dt6 29 3 = dt 29 3 := hF8 29 (by decide) 3
  have w21 : dt6 31 3 = dt 31 3 := hF8 31 (by decide) 3
  have w22 : dt6 33 3 = dt 33 3 := hF8 33 (by decide) 3
  have w23 : dt6 0 2 = dt 0 2 := hF8 0 (by decide) 2
  have w24 : dt6 35 1 = dt 35 1 := hF8 35 (by decide) 1
  have w25 : dt6 80 0 = dt 80 0 := hF8 80 (by decide) 0
  have w26 : dt6 80 1 = dt 80 1 := hF8 80 (by decide) 1
  have w27 : dt6 80 2 = dt 80 2 := hF8 80 (by decide) 2
  have w28 : dt6 80 3 = dt 80 3 := hF8 80 (by decide) 3
  have w29 : dt6 80 4 = dt 80 4 := hF8 80 (by decide) 4
  have w30 : dt6 80 5 = dt 80 5 := hF8 80 (by decide) 5
  have w31 : dt6 81 0 = dt 81 0 := hF8 81 (by decide) 0
  have w32 : dt6 81 1 = dt 81 1 := hF8 81 (by decide) 1
  have w33 : dt6 81 2 = dt 81 2 := hF8 81 (by decide) 2
  have w34 : dt6 81 3 = dt 81 3 := hF8 81 (by decide) 3
  have w35 : dt6 81 4 = dt 81 4 := hF8 81 (by decide) 4
  have w36 : dt6 81 5 = dt 81 5 := hF8 81 (by decide) 5
  have w37 : dt6 79 2 = dt 79 2 := hF8 79 (by decide) 2
  have w38 : dt6 79 12 = dt 79 12 := hF8 79 (by decide) 12
  rcases h5 with ⟨v_h5, rfl, h5r, h5⟩
  have M239 : MW (dt6 81) := MW_frk hM2 hF8 (by decide)
  refine go_toq PM267 (k := 6) (pc' := 375) (L' := [some (.inr (.inr (some 3000))), some (.inr (.inr (some 0))), some (.inr (.inr (some 79))), some (.inl i)]) (st' := [.inl (i + 1), .inr (.inr (some 3000)), .inr (.inr (some 79))]) (w' := (SH, dt6)) rfl ?_
  have r40 := i32_R (xs ((i + 1).toNat))
  refine go_smpq PM267 (L' := [some (.inr (.inr (some 3000))), some (.inr (.inr (some 0))), some (.inr (.inr (some 79))), some (.inl i)]) (st' := [.inl ((xs ((i + 1).toNat)).toInt), .inr (.inr (some 79))]) (w' := (SH, dt6)) rfl rfl (s_iald (n := L) (f := fun j => (xs j).toInt) (am_scr hLL) ⟨by omega, by omega⟩) ?_
  refine go_toq PM267 (k := 4) (pc' := 380) (L' := [some (.inr (.inr (some 3000))), some (.inr (.inr (some 0))), some (.inr (.inr (some 79))), some (.inl i)]) (st' := [.inl (i + 2), .inr (.inr (some 3000)), .inl ((xs ((i + 1).toNat)).toInt), .inr (.inr (some 79))]) (w' := (SH, dt6)) rfl ?_
  have r41 := i32_R (xs ((i + 2).toNat))
  refine go_smpq PM267 (L' := [some (.inr (.inr (some 3000))), some (.inr (.inr (some 0))), some (.inr (.inr (some 79))), some (.inl i)]) (st' := [.inl ((xs ((i + 2).toNat)).toInt), .inl ((xs ((i + 1).toNat)).toInt), .inr (.inr (some 79))]) (w' := (SH, dt6)) rfl rfl (s_iald (n := L) (f := fun j => (xs j).toInt) (am_scr hLL) ⟨by omega, by omega⟩) ?_
  refine go_toq PM267 (k := 4) (pc' := 385) (L' := [some (.inr (.inr (some 3000))), some (.inr (.inr (some 0))), some (.inr (.inr (some 79))), some (.inl i)]) (st' := [.inl (i + 3), .inr (.inr (some 3000)), .inl ((xs ((i + 2).toNat)).toInt), .inl ((xs ((i + 1).toNat)).toInt), .inr (.inr (some 79))]) (w' := (SH, dt6)) rfl ?_
  have r42 := i32_R (xs ((i + 3).toNat))
  refine go_smpq PM267 (L' := [some (.inr (.inr (some 3000))), some (.inr (.inr (some 0))), some (.inr (.inr (some 79))), some (.inl i)]) (st' := [.inl ((xs ((i + 3).toNat)).toInt), .inl ((xs ((i + 2).toNat)).toInt), .inl ((xs ((i + 1).toNat)).toInt), .inr (.inr (some 79))]) (w' := (SH, dt6)) rfl rfl (s_iald (n := L) (f := fun j => (xs j).toInt) (am_scr hLL) ⟨by omega, by omega⟩) ?_
  refine go_toq PM267 (k := 4) (pc' := 390) (L' := [some (.inr (.inr (some 3000))), some (.inr (.inr (some 0))), some (.inr (.inr (some 79))), some (.inl i)]) (st' := [.inl (i + 4), .inr (.inr (some 3000)), .inl ((xs ((i + 3).toNat)).toInt), .inl ((xs ((i + 2).toNat)).toInt), .inl ((xs ((i + 1).toNat)).toInt), .inr (.inr (some 79))]) (w' := (SH, dt6)) rfl ?_
  have r43 := i32_R (xs ((i + 4).toNat))
  refine go_smpq PM267 (L' := [some (.inr (.inr (some 3000))), some (.inr (.inr (some 0))), some (.inr (.inr (some 79))), some (.inl i)]) (st' := [.inl ((xs ((i + 4).toNat)).toInt), .inl ((xs ((i + 3).toNat)).toInt), .inl ((xs ((i + 2).toNat)).toInt), .inl ((xs ((i + 1).toNat)).toInt), .inr (.inr (some 79))]) (w' := (SH, dt6)) rfl rfl (s_iald (n := L) (f := fun j => (xs j).toInt) (am_scr hLL) ⟨by omega, by omega⟩) ?_
  refine go_callq PM267 PM188 (Q' := _) rfl rfl rfl rfl (sp_X6_after L xs sio (d + 33) dt6 hI7 hM10  ((xs ((i + 1).toNat)).toInt) ⟨by omega, by omega⟩ ((xs ((i + 2).toNat)).toInt) ⟨by omega, by omega⟩ ((xs ((i + 3).toNat)).toInt) ⟨by omega, by omega⟩ ((xs ((i + 4).toNat)).toInt) ⟨by omega, by omega⟩ ) ?_
  rintro _ _ ⟨dt45, rfl, hI46, hF47, h44⟩
  refine ⟨rfl, ?_⟩
  have hF48 : Fr [0, 1, 2, 3, 4, 5, 6, 7, 8, 9, 10, 11, 12, 13, 14, 15, 16, 17, 18, 19, 20, 21, 22, 23, 24, 25, 26, 27, 28, 29, 30, 31, 32, 33, 34, 35, 36, 37, 38, 39, 40, 41, 42, 43, 44, 45, 46, 47, 48, 49, 50, 51, 52, 53, 54, 55, 56, 57, 58, 59, 60, 61, 62, 63, 64, 65, 66, 67, 68, 69, 70, 71, 72, 73, 74, 75, 76, 77, 78, 79, 80, 81, 82, 83, 84, 85, 86, 87, 88, 89, 90, 91, 92, 93, 94, 95, 96, 97, 98, 99, 100, 101, 102, 103, 104] dt dt45 := Fr_tr hF9 hF47 (by decide)
  have hM49 : MW (dt45 80) := MW_fr hM10 hF47 (by decide)
  have w50 : dt45 1 0 = dt6 1 0 := hF47 1 (by decide) 0
  have w51 : dt45 7 3 = dt6 7 3 := hF47 7 (by decide) 3
  have w52 : dt45 10 3 = dt6 10 3 := hF47 10 (by decide) 3
  have w53 : dt45 12 3 = dt6 12 3 := hF47 12 (by decide) 3
  have w54 : dt45 14 3 = dt6 14 3 := hF47 14 (by decide) 3
  have w55 : dt45 16 3 = dt6 16 3 := hF47 16 (by decide) 3
  have w56 : dt45 18 0 = dt6 18 0 := hF47 18 (by decide) 0
  have w57 : dt45 24 3 = dt6 24 3 := hF47 24 (by decide) 3
  have w58 : dt45 27 3 = dt6 27 3 := hF47 27 (by decide) 3
  have w59 : dt45 29 3 = dt6 29 3 := hF47 29 (by decide) 3
  have w60 : dt45 31 3 = dt6 31 3 := hF47 31 (by decide) 3
  have w61 : dt45 33 3 = dt6 33 3 := hF47 33 (by decide) 3
  have w62 : dt45 0 2 = dt6 0 2 := hF47 0 (by decide) 2
  have w63 : dt45 35 1 = dt6 35 1 := hF47 35 (by decide) 1
  have w64 : dt45 80 0 = dt6 80 0 := hF47 80 (by decide) 0
  have w65 : dt45 80 1 = dt6 80 1 := hF47 80 (by decide) 1
  have w66 : dt45 80 2 = dt6 80 2 := hF47 80 (by decide) 2
  have w67 : dt45 80 3 = dt6 80 3 := hF47 80 (by decide) 3
  have w68 : dt45 80 4 = dt6 80 4 := hF47 80 (by decide) 4
  have w69 : dt45 80 5 = dt6 80 5 := hF47 80 (by decide) 5
  have w70 : dt45 81 0 = dt6 81 0 := hF47 81 (by decide) 0
  have w71 : dt45 81 1 = dt6 81 1 := hF47 81 (by decide) 1
  have w72 : dt45 81 2 = dt6 81 2 := hF47 81 (by decide) 2
  have w73 : dt45 81 3 = dt6 81 3 := hF47 81 (by decide) 3
  have w74 : dt45 81 4 = dt6 81 4 := hF47 81 (by decide) 4
  have w75 : dt45 81 5 = dt6 81 5 := hF47 81 (by decide) 5
  have w76 : dt45 79 2 = dt6 79 2 := hF47 79 (by decide) 2
  have w77 : dt45 79 12 = dt6 79 12 := hF47 79 (by decide) 12
  rcases h44 with ⟨v_h44, rfl, h44r, h44⟩
  have M278 : MW (dt45 81) := MW_frk M239 hF47 (by decide)
  refine go_toq PM267 (k := 2) (pc' := 1435) (L' := [some (.inr (.inr (some 3000))), some (.inr (.inr (some 0))), some (.inr (.inr (some 79))), some (.inl i)]) (st' := []) (w' := (SH, dt45)) rfl ?_
  exact K dt45 hI46 hM49 M278 (by first | omega | (simp only [*]; done) | simp only [*]) (by omega) (by omega) (by omega) (by omega) (by omega) (by omega) (by omega) (by omega) (by omega) (by omega) (by omega) (by omega) (by omega)
set_option maxRecDepth 20000 in
set_option maxHeartbeats 8000000 in
theorem sp_case6 (L : Nat) (xs : Nat → Int32) (sio : Option Nat) (d : Nat) (Q : Option AV → am_W → Prop) (hLL : L ≤ 3072) (i : Int) (hi : 0 ≤ i ∧ i ≤ 3066) (hil : i ≤ (L : Int) - 6) (dt : Nat → Nat → Int) (hI : InvC dt) (hM : MW (dt 80)) (hM2 : MW (dt 81)) (hk0 : dt 1 0 = dt 80 0) (hk1 : dt 7 3 = dt 80 1) (hk2 : dt 10 3 = dt 80 2) (hk3 : dt 12 3 = dt 80 3) (hk4 : dt 14 3 = dt 80 4) (hk5 : dt 16 3 = dt 80 5) (hk6 : dt 18 0 = dt 81 0) (hk7 : dt 24 3 = dt 81 1) (hk8 : dt 27 3 = dt 81 2) (hk9 : dt 29 3 = dt 81 3) (hk10 : dt 31 3 = dt 81 4) (hk11 : dt 33 3 = dt 81 5) (hk12 : dt 0 2 = dt 79 2) (hk13 : dt 35 1 = dt 79 12) (K : ∀ (dt : Nat → Nat → Int) (hI : InvC dt) (hM : MW (dt 80)) (hM2 : MW (dt 81)) (hk0 : dt 1 0 = dt 80 0) (hk1 : dt 7 3 = dt 80 1) (hk2 : dt 10 3 = dt 80 2) (hk3 : dt 12 3 = dt 80 3) (hk4 : dt 14 3 = dt 80 4) (hk5 : dt 16 3 = dt 80 5) (hk6 : dt 18 0 = dt 81 0) (hk7 : dt 24 3 = dt 81 1) (hk8 : dt 27 3 = dt 81 2) (hk9 : dt 29 3 = dt 81 3) (hk10 : dt 31 3 = dt 81 4) (hk11 : dt 33 3 = dt 81 5) (hk12 : dt 0 2 = dt 79 2) (hk13 : dt 35 1 = dt 79 12), GO (am_XX L xs sio) (d + 39) 267 1435 [some (.inr (.inr (some 3000))), some (.inr (.inr (some 0))), some (.inr (.inr (some 79))), some (.inl i)] [] (SH, dt) Q) : GO (am_XX L xs sio) (d + 39) 267 398 [some (.inr (.inr (some 3000))), some (.inr (.inr (some 0))), some (.inr (.inr (some 79))), some (.inl i)] [] (SH, dt) Q := by
  have hF : Fr [0, 1, 2, 3, 4, 5, 6, 7, 8, 9, 10, 11, 12, 13, 14, 15, 16, 17, 18, 19, 20, 21, 22, 23, 24, 25, 26, 27, 28, 29, 30, 31, 32, 33, 34, 35, 36, 37, 38, 39, 40, 41, 42, 43, 44, 45, 46, 47, 48, 49, 50, 51, 52, 53, 54, 55, 56, 57, 58, 59, 60, 61, 62, 63, 64, 65, 66, 67, 68, 69, 70, 71, 72, 73, 74, 75, 76, 77, 78, 79, 80, 81, 82, 83, 84, 85, 86, 87, 88, 89, 90, 91, 92, 93, 94, 95, 96, 97, 98, 99, 100, 101, 102, 103, 104] dt dt := Fr_refl
  refine go_toq PM267 (k := 5) (pc' := 403) (L' := [some (.inr (.inr (some 3000))), some (.inr (.inr (some 0))), some (.inr (.inr (some 79))), some (.inl i)]) (st' := [.inl (i + 1), .inr (.inr (some 3000)), .inr (.inr (some 0))]) (w' := (SH, dt)) rfl ?_
  have r1 := i32_R (xs ((i + 1).toNat))
  refine go_smpq PM267 (L' := [some (.inr (.inr (some 3000))), some (.inr (.inr (some 0))), some (.inr (.inr (some 79))), some (.inl i)]) (st' := [.inl ((xs ((i + 1).toNat)).toInt), .inr (.inr (some 0))]) (w' := (SH, dt)) rfl rfl (s_iald (n := L) (f := fun j => (xs j).toInt) (am_scr hLL) ⟨by omega, by omega⟩) ?_
  refine go_toq PM267 (k := 4) (pc' := 408) (L' := [some (.inr (.inr (some 3000))), some (.inr (.inr (some 0))), some (.inr (.inr (some 79))), some (.inl i)]) (st' := [.inl (i + 2), .inr (.inr (some 3000)), .inl ((xs ((i + 1).toNat)).toInt), .inr (.inr (some 0))]) (w' := (SH, dt)) rfl ?_
  have r2 := i32_R (xs ((i + 2).toNat))
  refine go_smpq PM267 (L' := [some (.inr (.inr (some 3000))), some (.inr (.inr (some 0))), some (.inr (.inr (some 79))), some (.inl i)]) (st' := [.inl ((xs ((i + 2).toNat)).toInt), .inl ((xs ((i + 1).toNat)).toInt), .inr (.inr (some 0))]) (w' := (SH, dt)) rfl rfl (s_iald (n := L) (f := fun j => (xs j).toInt) (am_scr hLL) ⟨by omega, by omega⟩) ?_
  refine go_toq PM267 (k := 4) (pc' := 413) (L' := [some (.inr (.inr (some 3000))), some (.inr (.inr (some 0))), some (.inr (.inr (some 79))), some (.inl i)]) (st' := [.inl (i + 3), .inr (.inr (some 3000)), .inl ((xs ((i + 2).toNat)).toInt), .inl ((xs ((i + 1).toNat)).toInt), .inr (.inr (some 0))]) (w' := (SH, dt)) rfl ?_
  have r3 := i32_R (xs ((i + 3).toNat))
  refine go_smpq PM267 (L' := [some (.inr (.inr (some 3000))), some (.inr (.inr (some 0))), some (.inr (.inr (some 79))), some (.inl i)]) (st' := [.inl ((xs ((i + 3).toNat)).toInt), .inl ((xs ((i + 2).toNat)).toInt), .inl ((xs ((i + 1).toNat)).toInt), .inr (.inr (some 0))]) (w' := (SH, dt)) rfl rfl (s_iald (n := L) (f := fun j => (xs j).toInt) (am_scr hLL) ⟨by omega, by omega⟩) ?_
  refine go_toq PM267 (k := 4) (pc' := 418) (L' := [some (.inr (.inr (some 3000))), some (.inr (.inr (some 0))), some (.inr (.inr (some 79))), some (.inl i)]) (st' := [.inl (i + 4), .inr (.inr (some 3000)), .inl ((xs ((i + 3).toNat)).toInt), .inl ((xs ((i + 2).toNat)).toInt), .inl ((xs ((i + 1).toNat)).toInt), .inr (.inr (some 0))]) (w' := (SH, dt)) rfl ?_
  have r4 := i32_R (xs ((i + 4).toNat))
  refine go_smpq PM267 (L' := [some (.inr (.inr (some 3000))), some (.inr (.inr (some 0))), some (.inr (.inr (some 79))), some (.inl i)]) (st' := [.inl ((xs ((i + 4).toNat)).toInt), .inl ((xs ((i + 3).toNat)).toInt), .inl ((xs ((i + 2).toNat)).toInt), .inl ((xs ((i + 1).toNat)).toInt), .inr (.inr (some 0))]) (w' := (SH, dt)) rfl rfl (s_iald (n := L) (f := fun j => (xs j).toInt) (am_scr hLL) ⟨by omega, by omega⟩) ?_
  refine go_callq PM267 PM73 (Q' := _) rfl rfl rfl rfl (sp_X5_thinks L xs sio (d + 33) dt hI  ((xs ((i + 1).toNat)).toInt) ⟨by omega, by omega⟩ ((xs ((i + 2).toNat)).toInt) ⟨by omega, by omega⟩ ((xs ((i + 3).toNat)).toInt) ⟨by omega, by omega⟩ ((xs ((i + 4).toNat)).toInt) ⟨by omega, by omega⟩ ) ?_
  rintro _ _ ⟨dt6, rfl, hI7, hF8, h5⟩
  refine ⟨rfl, ?_⟩
  have hF9 : Fr [0, 1, 2, 3, 4, 5, 6, 7, 8, 9, 10, 11, 12, 13, 14, 15, 16, 17, 18, 19, 20, 21, 22, 23, 24, 25, 26, 27, 28, 29, 30, 31, 32, 33, 34, 35, 36, 37, 38, 39, 40, 41, 42, 43, 44, 45, 46, 47, 48, 49, 50, 51, 52, 53, 54, 55, 56, 57, 58, 59, 60, 61, 62, 63, 64, 65, 66, 67, 68, 69, 70, 71, 72, 73, 74, 75, 76, 77, 78, 79, 80, 81, 82, 83, 84, 85, 86, 87, 88, 89, 90, 91, 92, 93, 94, 95, 96, 97, 98, 99, 100, 101, 102, 103, 104] dt dt6 := Fr_tr hF hF8 (by decide)
  have hM10 : MW (dt6 80) := MW_fr hM hF8 (by decide)
  have w11 : dt6 1 0 = dt 1 0 := hF8 1 (by decide) 0
  have w12 : dt6 7 3 = dt 7 3 := hF8 7 (by decide) 3
  have w13 : dt6 10 3 = dt 10 3 := hF8 10 (by decide) 3
  have w14 : dt6 12 3 = dt 12 3 := hF8 12 (by decide) 3
  have w15 : dt6 14 3 = dt 14 3 := hF8 14 (by decide) 3
  have w16 : dt6 16 3 = dt 16 3 := hF8 16 (by decide) 3
  have w17 : dt6 18 0 = dt 18 0 := hF8 18 (by decide) 0
  have w18 : dt6 24 3 = dt 24 3 := hF8 24 (by decide) 3
  have w19 : dt6 27 3 = dt 27 3 := hF8 27 (by decide) 3
  have w20 : dt6 29 3 = dt 29 3 := hF8 29 (by decide) 3
  have w21 : dt6 31 3 = dt 31 3 := hF8 31 (by decide) 3
  have w22 : dt6 33 3 = dt 33 3 := hF8 33 (by decide) 3
  have w23 : dt6 0 2 = dt 0 2 := hF8 0 (by decide) 2
  have w24 : dt6 35 1 = dt 35 1 := hF8 35 (by decide) 1
  have w25 : dt6 80 0 = dt 80 0 := hF8 80 (by decide) 0
  have w26 : dt6 80 1 = dt 80 1 := hF8 80 (by decide) 1
  have w27 : dt6 80 2 = dt 80 2 := hF8 80 (by decide) 2
  have w28 : dt6 80 3 = dt 80 3 := hF8 80 (by decide) 3
  have w29 : dt6 80 4 = dt 80 4 := hF8 80 (by decide) 4
  have w30 : dt6 80 5 = dt 80 5 := hF8 80 (by decide) 5
  have w31 : dt6 81 0 = dt 81 0 := hF8 81 (by decide) 0
  have w32 : dt6 81 1 = dt 81 1 := hF8 81 (by decide) 1
  have w33 : dt6 81 2 = dt 81 2 := hF8 81 (by decide) 2
  have w34 : dt6 81 3 = dt 81 3 := hF8 81 (by decide) 3
  have w35 : dt6 81 4 = dt 81 4 := hF8 81 (by decide) 4
  have w36 : dt6 81 5 = dt 81 5 := hF8 81 (by decide) 5
  have w37 : dt6 79 2 = dt 79 2 := hF8 79 (by decide) 2
  have w38 : dt6 79 12 = dt 79 12 := hF8 79 (by decide) 12
  rcases h5 with ⟨v_h5, rfl, h5r, h5⟩
  have M239 : MW (dt6 81) := MW_frk hM2 hF8 (by decide)
  refine go_toq PM267 (k := 6) (pc' := 428) (L' := [some (.inr (.inr (some 3000))), some (.inr (.inr (some 0))), some (.inr (.inr (some 79))), some (.inl i)]) (st' := [.inl (i + 1), .inr (.inr (some 3000)), .inr (.inr (some 79))]) (w' := (SH, dt6)) rfl ?_
  have r40 := i32_R (xs ((i + 1).toNat))
  refine go_smpq PM267 (L' := [some (.inr (.inr (some 3000))), some (.inr (.inr (some 0))), some (.inr (.inr (some 79))), some (.inl i)]) (st' := [.inl ((xs ((i + 1).toNat)).toInt), .inr (.inr (some 79))]) (w' := (SH, dt6)) rfl rfl (s_iald (n := L) (f := fun j => (xs j).toInt) (am_scr hLL) ⟨by omega, by omega⟩) ?_
  refine go_toq PM267 (k := 4) (pc' := 433) (L' := [some (.inr (.inr (some 3000))), some (.inr (.inr (some 0))), some (.inr (.inr (some 79))), some (.inl i)]) (st' := [.inl (i + 2), .inr (.inr (some 3000)), .inl ((xs ((i + 1).toNat)).toInt), .inr (.inr (some 79))]) (w' := (SH, dt6)) rfl ?_
  have r41 := i32_R (xs ((i + 2).toNat))
  refine go_smpq PM267 (L' := [some (.inr (.inr (some 3000))), some (.inr (.inr (some 0))), some (.inr (.inr (some 79))), some (.inl i)]) (st' := [.inl ((xs ((i + 2).toNat)).toInt), .inl ((xs ((i + 1).toNat)).toInt), .inr (.inr (some 79))]) (w' := (SH, dt6)) rfl rfl (s_iald (n := L) (f := fun j => (xs j).toInt) (am_scr hLL) ⟨by omega, by omega⟩) ?_
  refine go_toq PM267 (k := 4) (pc' := 438) (L' := [some (.inr (.inr (some 3000))), some (.inr (.inr (some 0))), some (.inr (.inr (some 79))), some (.inl i)]) (st' := [.inl (i + 3), .inr (.inr (some 3000)), .inl ((xs ((i + 2).toNat)).toInt), .inl ((xs ((i + 1).toNat)).toInt), .inr (.inr (some 79))]) (w' := (SH, dt6)) rfl ?_
  have r42 := i32_R (xs ((i + 3).toNat))
  refine go_smpq PM267 (L' := [some (.inr (.inr (some 3000))), some (.inr (.inr (some 0))), some (.inr (.inr (some 79))), some (.inl i)]) (st' := [.inl ((xs ((i + 3).toNat)).toInt), .inl ((xs ((i + 2).toNat)).toInt), .inl ((xs ((i + 1).toNat)).toInt), .inr (.inr (some 79))]) (w' := (SH, dt6)) rfl rfl (s_iald (n := L) (f := fun j => (xs j).toInt) (am_scr hLL) ⟨by omega, by omega⟩) ?_
  refine go_toq PM267 (k := 4) (pc' := 443) (L' := [some (.inr (.inr (some 3000))), some (.inr (.inr (some 0))), some (.inr (.inr (some 79))), some (.inl i)]) (st' := [.inl (i + 4), .inr (.inr (some 3000)), .inl ((xs ((i + 3).toNat)).toInt), .inl ((xs ((i + 2).toNat)).toInt), .inl ((xs ((i + 1).toNat)).toInt), .inr (.inr (some 79))]) (w' := (SH, dt6)) rfl ?_
  have r43 := i32_R (xs ((i + 4).toNat))
  refine go_smpq PM267 (L' := [some (.inr (.inr (some 3000))), some (.inr (.inr (some 0))), some (.inr (.inr (some 79))), some (.inl i)]) (st' := [.inl ((xs ((i + 4).toNat)).toInt), .inl ((xs ((i + 3).toNat)).toInt), .inl ((xs ((i + 2).toNat)).toInt), .inl ((xs ((i + 1).toNat)).toInt), .inr (.inr (some 79))]) (w' := (SH, dt6)) rfl rfl (s_iald (n := L) (f := fun j => (xs j).toInt) (am_scr hLL) ⟨by omega, by omega⟩) ?_
  refine go_callq PM267 PM189 (Q' := _) rfl rfl rfl rfl (sp_X6_thinks L xs sio (d + 33) dt6 hI7 hM10  ((xs ((i + 1).toNat)).toInt) ⟨by omega, by omega⟩ ((xs ((i + 2).toNat)).toInt) ⟨by omega, by omega⟩ ((xs ((i + 3).toNat)).toInt) ⟨by omega, by omega⟩ ((xs ((i + 4).toNat)).toInt) ⟨by omega, by omega⟩ ) ?_
  rintro _ _ ⟨dt45, rfl, hI46, hF47, h44⟩
  refine ⟨rfl, ?_⟩
  have hF48 : Fr [0, 1, 2, 3, 4, 5, 6, 7, 8, 9, 10, 11, 12, 13, 14, 15, 16, 17, 18, 19, 20, 21, 22, 23, 24, 25, 26, 27, 28, 29, 30, 31, 32, 33, 34, 35, 36, 37, 38, 39, 40, 41, 42, 43, 44, 45, 46, 47, 48, 49, 50, 51, 52, 53, 54, 55, 56, 57, 58, 59, 60, 61, 62, 63, 64, 65, 66, 67, 68, 69, 70, 71, 72, 73, 74, 75, 76, 77, 78, 79, 80, 81, 82, 83, 84, 85, 86, 87, 88, 89, 90, 91, 92, 93, 94, 95, 96, 97, 98, 99, 100, 101, 102, 103, 104] dt dt45 := Fr_tr hF9 hF47 (by decide)
  have hM49 : MW (dt45 80) := MW_fr hM10 hF47 (by decide)
  have w50 : dt45 1 0 = dt6 1 0 := hF47 1 (by decide) 0
  have w51 : dt45 7 3 = dt6 7 3 := hF47 7 (by decide) 3
  have w52 : dt45 10 3 = dt6 10 3 := hF47 10 (by decide) 3
  have w53 : dt45 12 3 = dt6 12 3 := hF47 12 (by decide) 3
  have w54 : dt45 14 3 = dt6 14 3 := hF47 14 (by decide) 3
  have w55 : dt45 16 3 = dt6 16 3 := hF47 16 (by decide) 3
  have w56 : dt45 18 0 = dt6 18 0 := hF47 18 (by decide) 0
  have w57 : dt45 24 3 = dt6 24 3 := hF47 24 (by decide) 3
  have w58 : dt45 27 3 = dt6 27 3 := hF47 27 (by decide) 3
  have w59 : dt45 29 3 = dt6 29 3 := hF47 29 (by decide) 3
  have w60 : dt45 31 3 = dt6 31 3 := hF47 31 (by decide) 3
  have w61 : dt45 33 3 = dt6 33 3 := hF47 33 (by decide) 3
  have w62 : dt45 0 2 = dt6 0 2 := hF47 0 (by decide) 2
  have w63 : dt45 35 1 = dt6 35 1 := hF47 35 (by decide) 1
  have w64 : dt45 80 0 = dt6 80 0 := hF47 80 (by decide) 0
  have w65 : dt45 80 1 = dt6 80 1 := hF47 80 (by decide) 1
  have w66 : dt45 80 2 = dt6 80 2 := hF47 80 (by decide) 2
  have w67 : dt45 80 3 = dt6 80 3 := hF47 80 (by decide) 3
  have w68 : dt45 80 4 = dt6 80 4 := hF47 80 (by decide) 4
  have w69 : dt45 80 5 = dt6 80 5 := hF47 80 (by decide) 5
  have w70 : dt45 81 0 = dt6 81 0 := hF47 81 (by decide) 0
  have w71 : dt45 81 1 = dt6 81 1 := hF47 81 (by decide) 1
  have w72 : dt45 81 2 = dt6 81 2 := hF47 81 (by decide) 2
  have w73 : dt45 81 3 = dt6 81 3 := hF47 81 (by decide) 3
  have w74 : dt45 81 4 = dt6 81 4 := hF47 81 (by decide) 4
  have w75 : dt45 81 5 = dt6 81 5 := hF47 81 (by decide) 5
  have w76 : dt45 79 2 = dt6 79 2 := hF47 79 (by decide) 2
  have w77 : dt45 79 12 = dt6 79 12 := hF47 79 (by decide) 12
  rcases h44 with ⟨v_h44, rfl, h44r, h44⟩
  have M278 : MW (dt45 81) := MW_frk M239 hF47 (by decide)
  refine go_toq PM267 (k := 2) (pc' := 1435) (L' := [some (.inr (.inr (some 3000))), some (.inr (.inr (some 0))), some (.inr (.inr (some 79))), some (.inl i)]) (st' := []) (w' := (SH, dt45)) rfl ?_
  exact K dt45 hI46 hM49 M278 (by first | omega | (simp only [*]; done) | simp only [*]) (by omega) (by omega) (by omega) (by omega) (by omega) (by omega) (by omega) (by omega) (by omega) (by omega) (by omega) (by omega) (by omega)
set_option maxRecDepth 20000 in
set_option maxHeartbeats 8000000 in
theorem sp_case7 (L : Nat) (xs : Nat → Int32) (sio : Option Nat) (d : Nat) (Q : Option AV → am_W → Prop) (hLL : L ≤ 3072) (i : Int) (hi : 0 ≤ i ∧ i ≤ 3066) (hil : i ≤ (L : Int) - 6) (dt : Nat → Nat → Int) (hI : InvC dt) (hM : MW (dt 80)) (hM2 : MW (dt 81)) (hk0 : dt 1 0 = dt 80 0) (hk1 : dt 7 3 = dt 80 1) (hk2 : dt 10 3 = dt 80 2) (hk3 : dt 12 3 = dt 80 3) (hk4 : dt 14 3 = dt 80 4) (hk5 : dt 16 3 = dt 80 5) (hk6 : dt 18 0 = dt 81 0) (hk7 : dt 24 3 = dt 81 1) (hk8 : dt 27 3 = dt 81 2) (hk9 : dt 29 3 = dt 81 3) (hk10 : dt 31 3 = dt 81 4) (hk11 : dt 33 3 = dt 81 5) (hk12 : dt 0 2 = dt 79 2) (hk13 : dt 35 1 = dt 79 12) (K : ∀ (dt : Nat → Nat → Int) (hI : InvC dt) (hM : MW (dt 80)) (hM2 : MW (dt 81)) (hk0 : dt 1 0 = dt 80 0) (hk1 : dt 7 3 = dt 80 1) (hk2 : dt 10 3 = dt 80 2) (hk3 : dt 12 3 = dt 80 3) (hk4 : dt 14 3 = dt 80 4) (hk5 : dt 16 3 = dt 80 5) (hk6 : dt 18 0 = dt 81 0) (hk7 : dt 24 3 = dt 81 1) (hk8 : dt 27 3 = dt 81 2) (hk9 : dt 29 3 = dt 81 3) (hk10 : dt 31 3 = dt 81 4) (hk11 : dt 33 3 = dt 81 5) (hk12 : dt 0 2 = dt 79 2) (hk13 : dt 35 1 = dt 79 12), GO (am_XX L xs sio) (d + 39) 267 1435 [some (.inr (.inr (some 3000))), some (.inr (.inr (some 0))), some (.inr (.inr (some 79))), some (.inl i)] [] (SH, dt) Q) : GO (am_XX L xs sio) (d + 39) 267 451 [some (.inr (.inr (some 3000))), some (.inr (.inr (some 0))), some (.inr (.inr (some 79))), some (.inl i)] [] (SH, dt) Q := by
  have hF : Fr [0, 1, 2, 3, 4, 5, 6, 7, 8, 9, 10, 11, 12, 13, 14, 15, 16, 17, 18, 19, 20, 21, 22, 23, 24, 25, 26, 27, 28, 29, 30, 31, 32, 33, 34, 35, 36, 37, 38, 39, 40, 41, 42, 43, 44, 45, 46, 47, 48, 49, 50, 51, 52, 53, 54, 55, 56, 57, 58, 59, 60, 61, 62, 63, 64, 65, 66, 67, 68, 69, 70, 71, 72, 73, 74, 75, 76, 77, 78, 79, 80, 81, 82, 83, 84, 85, 86, 87, 88, 89, 90, 91, 92, 93, 94, 95, 96, 97, 98, 99, 100, 101, 102, 103, 104] dt dt := Fr_refl
  refine go_toq PM267 (k := 5) (pc' := 456) (L' := [some (.inr (.inr (some 3000))), some (.inr (.inr (some 0))), some (.inr (.inr (some 79))), some (.inl i)]) (st' := [.inl (i + 1), .inr (.inr (some 3000)), .inr (.inr (some 0))]) (w' := (SH, dt)) rfl ?_
  have r1 := i32_R (xs ((i + 1).toNat))
  refine go_smpq PM267 (L' := [some (.inr (.inr (some 3000))), some (.inr (.inr (some 0))), some (.inr (.inr (some 79))), some (.inl i)]) (st' := [.inl ((xs ((i + 1).toNat)).toInt), .inr (.inr (some 0))]) (w' := (SH, dt)) rfl rfl (s_iald (n := L) (f := fun j => (xs j).toInt) (am_scr hLL) ⟨by omega, by omega⟩) ?_
  refine go_toq PM267 (k := 4) (pc' := 461) (L' := [some (.inr (.inr (some 3000))), some (.inr (.inr (some 0))), some (.inr (.inr (some 79))), some (.inl i)]) (st' := [.inl (i + 2), .inr (.inr (some 3000)), .inl ((xs ((i + 1).toNat)).toInt), .inr (.inr (some 0))]) (w' := (SH, dt)) rfl ?_
  have r2 := i32_R (xs ((i + 2).toNat))
  refine go_smpq PM267 (L' := [some (.inr (.inr (some 3000))), some (.inr (.inr (some 0))), some (.inr (.inr (some 79))), some (.inl i)]) (st' := [.inl ((xs ((i + 2).toNat)).toInt), .inl ((xs ((i + 1).toNat)).toInt), .inr (.inr (some 0))]) (w' := (SH, dt)) rfl rfl (s_iald (n := L) (f := fun j => (xs j).toInt) (am_scr hLL) ⟨by omega, by omega⟩) ?_
  refine go_toq PM267 (k := 4) (pc' := 466) (L' := [some (.inr (.inr (some 3000))), some (.inr (.inr (some 0))), some (.inr (.inr (some 79))), some (.inl i)]) (st' := [.inl (i + 3), .inr (.inr (some 3000)), .inl ((xs ((i + 2).toNat)).toInt), .inl ((xs ((i + 1).toNat)).toInt), .inr (.inr (some 0))]) (w' := (SH, dt)) rfl ?_
  have r3 := i32_R (xs ((i + 3).toNat))
  refine go_smpq PM267 (L' := [some (.inr (.inr (some 3000))), some (.inr (.inr (some 0))), some (.inr (.inr (some 79))), some (.inl i)]) (st' := [.inl ((xs ((i + 3).toNat)).toInt), .inl ((xs ((i + 2).toNat)).toInt), .inl ((xs ((i + 1).toNat)).toInt), .inr (.inr (some 0))]) (w' := (SH, dt)) rfl rfl (s_iald (n := L) (f := fun j => (xs j).toInt) (am_scr hLL) ⟨by omega, by omega⟩) ?_
  refine go_callq PM267 PM74 (Q' := _) rfl rfl rfl rfl (sp_X5_here L xs sio (d + 33) dt hI  ((xs ((i + 1).toNat)).toInt) ⟨by omega, by omega⟩ ((xs ((i + 2).toNat)).toInt) ⟨by omega, by omega⟩ ((xs ((i + 3).toNat)).toInt) ⟨by omega, by omega⟩ ) ?_
  rintro _ _ ⟨dt5, rfl, hI6, hF7, h4⟩
  refine ⟨rfl, ?_⟩
  have hF8 : Fr [0, 1, 2, 3, 4, 5, 6, 7, 8, 9, 10, 11, 12, 13, 14, 15, 16, 17, 18, 19, 20, 21, 22, 23, 24, 25, 26, 27, 28, 29, 30, 31, 32, 33, 34, 35, 36, 37, 38, 39, 40, 41, 42, 43, 44, 45, 46, 47, 48, 49, 50, 51, 52, 53, 54, 55, 56, 57, 58, 59, 60, 61, 62, 63, 64, 65, 66, 67, 68, 69, 70, 71, 72, 73, 74, 75, 76, 77, 78, 79, 80, 81, 82, 83, 84, 85, 86, 87, 88, 89, 90, 91, 92, 93, 94, 95, 96, 97, 98, 99, 100, 101, 102, 103, 104] dt dt5 := Fr_tr hF hF7 (by decide)
  have hM9 : MW (dt5 80) := MW_fr hM hF7 (by decide)
  have w10 : dt5 1 0 = dt 1 0 := hF7 1 (by decide) 0
  have w11 : dt5 7 3 = dt 7 3 := hF7 7 (by decide) 3
  have w12 : dt5 10 3 = dt 10 3 := hF7 10 (by decide) 3
  have w13 : dt5 12 3 = dt 12 3 := hF7 12 (by decide) 3
  have w14 : dt5 14 3 = dt 14 3 := hF7 14 (by decide) 3
  have w15 : dt5 16 3 = dt 16 3 := hF7 16 (by decide) 3
  have w16 : dt5 18 0 = dt 18 0 := hF7 18 (by decide) 0
  have w17 : dt5 24 3 = dt 24 3 := hF7 24 (by decide) 3
  have w18 : dt5 27 3 = dt 27 3 := hF7 27 (by decide) 3
  have w19 : dt5 29 3 = dt 29 3 := hF7 29 (by decide) 3
  have w20 : dt5 31 3 = dt 31 3 := hF7 31 (by decide) 3
  have w21 : dt5 33 3 = dt 33 3 := hF7 33 (by decide) 3
  have w22 : dt5 0 2 = dt 0 2 := hF7 0 (by decide) 2
  have w23 : dt5 35 1 = dt 35 1 := hF7 35 (by decide) 1
  have w24 : dt5 80 0 = dt 80 0 := hF7 80 (by decide) 0
  have w25 : dt5 80 1 = dt 80 1 := hF7 80 (by decide) 1
  have w26 : dt5 80 2 = dt 80 2 := hF7 80 (by decide) 2
  have w27 : dt5 80 3 = dt 80 3 := hF7 80 (by decide) 3
  have w28 : dt5 80 4 = dt 80 4 := hF7 80 (by decide) 4
  have w29 : dt5 80 5 = dt 80 5 := hF7 80 (by decide) 5
  have w30 : dt5 81 0 = dt 81 0 := hF7 81 (by decide) 0
  have w31 : dt5 81 1 = dt 81 1 := hF7 81 (by decide) 1
  have w32 : dt5 81 2 = dt 81 2 := hF7 81 (by decide) 2
  have w33 : dt5 81 3 = dt 81 3 := hF7 81 (by decide) 3
  have w34 : dt5 81 4 = dt 81 4 := hF7 81 (by decide) 4
  have w35 : dt5 81 5 = dt 81 5 := hF7 81 (by decide) 5
  have w36 : dt5 79 2 = dt 79 2 := hF7 79 (by decide) 2
  have w37 : dt5 79 12 = dt 79 12 := hF7 79 (by decide) 12
  rcases h4 with ⟨v_h4, rfl, h4r, h4⟩
  have M238 : MW (dt5 81) := MW_frk hM2 hF7 (by decide)
  refine go_toq PM267 (k := 6) (pc' := 476) (L' := [some (.inr (.inr (some 3000))), some (.inr (.inr (some 0))), some (.inr (.inr (some 79))), some (.inl i)]) (st' := [.inl (i + 1), .inr (.inr (some 3000)), .inr (.inr (some 79))]) (w' := (SH, dt5)) rfl ?_
  have r39 := i32_R (xs ((i + 1).toNat))
  refine go_smpq PM267 (L' := [some (.inr (.inr (some 3000))), some (.inr (.inr (some 0))), some (.inr (.inr (some 79))), some (.inl i)]) (st' := [.inl ((xs ((i + 1).toNat)).toInt), .inr (.inr (some 79))]) (w' := (SH, dt5)) rfl rfl (s_iald (n := L) (f := fun j => (xs j).toInt) (am_scr hLL) ⟨by omega, by omega⟩) ?_
  refine go_toq PM267 (k := 4) (pc' := 481) (L' := [some (.inr (.inr (some 3000))), some (.inr (.inr (some 0))), some (.inr (.inr (some 79))), some (.inl i)]) (st' := [.inl (i + 2), .inr (.inr (some 3000)), .inl ((xs ((i + 1).toNat)).toInt), .inr (.inr (some 79))]) (w' := (SH, dt5)) rfl ?_
  have r40 := i32_R (xs ((i + 2).toNat))
  refine go_smpq PM267 (L' := [some (.inr (.inr (some 3000))), some (.inr (.inr (some 0))), some (.inr (.inr (some 79))), some (.inl i)]) (st' := [.inl ((xs ((i + 2).toNat)).toInt), .inl ((xs ((i + 1).toNat)).toInt), .inr (.inr (some 79))]) (w' := (SH, dt5)) rfl rfl (s_iald (n := L) (f := fun j => (xs j).toInt) (am_scr hLL) ⟨by omega, by omega⟩) ?_
  refine go_toq PM267 (k := 4) (pc' := 486) (L' := [some (.inr (.inr (some 3000))), some (.inr (.inr (some 0))), some (.inr (.inr (some 79))), some (.inl i)]) (st' := [.inl (i + 3), .inr (.inr (some 3000)), .inl ((xs ((i + 2).toNat)).toInt), .inl ((xs ((i + 1).toNat)).toInt), .inr (.inr (some 79))]) (w' := (SH, dt5)) rfl ?_
  have r41 := i32_R (xs ((i + 3).toNat))
  refine go_smpq PM267 (L' := [some (.inr (.inr (some 3000))), some (.inr (.inr (some 0))), some (.inr (.inr (some 79))), some (.inl i)]) (st' := [.inl ((xs ((i + 3).toNat)).toInt), .inl ((xs ((i + 2).toNat)).toInt), .inl ((xs ((i + 1).toNat)).toInt), .inr (.inr (some 79))]) (w' := (SH, dt5)) rfl rfl (s_iald (n := L) (f := fun j => (xs j).toInt) (am_scr hLL) ⟨by omega, by omega⟩) ?_
  refine go_callq PM267 PM190 (Q' := _) rfl rfl rfl rfl (sp_X6_here L xs sio (d + 33) dt5 hI6 hM9  ((xs ((i + 1).toNat)).toInt) ⟨by omega, by omega⟩ ((xs ((i + 2).toNat)).toInt) ⟨by omega, by omega⟩ ((xs ((i + 3).toNat)).toInt) ⟨by omega, by omega⟩ ) ?_
  rintro _ _ ⟨dt43, rfl, hI44, hF45, h42⟩
  refine ⟨rfl, ?_⟩
  have hF46 : Fr [0, 1, 2, 3, 4, 5, 6, 7, 8, 9, 10, 11, 12, 13, 14, 15, 16, 17, 18, 19, 20, 21, 22, 23, 24, 25, 26, 27, 28, 29, 30, 31, 32, 33, 34, 35, 36, 37, 38, 39, 40, 41, 42, 43, 44, 45, 46, 47, 48, 49, 50, 51, 52, 53, 54, 55, 56, 57, 58, 59, 60, 61, 62, 63, 64, 65, 66, 67, 68, 69, 70, 71, 72, 73, 74, 75, 76, 77, 78, 79, 80, 81, 82, 83, 84, 85, 86, 87, 88, 89, 90, 91, 92, 93, 94, 95, 96, 97, 98, 99, 100, 101, 102, 103, 104] dt dt43 := Fr_tr hF8 hF45 (by decide)
  have hM47 : MW (dt43 80) := MW_fr hM9 hF45 (by decide)
  have w48 : dt43 1 0 = dt5 1 0 := hF45 1 (by decide) 0
  have w49 : dt43 7 3 = dt5 7 3 := hF45 7 (by decide) 3
  have w50 : dt43 10 3 = dt5 10 3 := hF45 10 (by decide) 3
  have w51 : dt43 12 3 = dt5 12 3 := hF45 12 (by decide) 3
  have w52 : dt43 14 3 = dt5 14 3 := hF45 14 (by decide) 3
  have w53 : dt43 16 3 = dt5 16 3 := hF45 16 (by decide) 3
  have w54 : dt43 18 0 = dt5 18 0 := hF45 18 (by decide) 0
  have w55 : dt43 24 3 = dt5 24 3 := hF45 24 (by decide) 3
  have w56 : dt43 27 3 = dt5 27 3 := hF45 27 (by decide) 3
  have w57 : dt43 29 3 = dt5 29 3 := hF45 29 (by decide) 3
  have w58 : dt43 31 3 = dt5 31 3 := hF45 31 (by decide) 3
  have w59 : dt43 33 3 = dt5 33 3 := hF45 33 (by decide) 3
  have w60 : dt43 0 2 = dt5 0 2 := hF45 0 (by decide) 2
  have w61 : dt43 35 1 = dt5 35 1 := hF45 35 (by decide) 1
  have w62 : dt43 80 0 = dt5 80 0 := hF45 80 (by decide) 0
  have w63 : dt43 80 1 = dt5 80 1 := hF45 80 (by decide) 1
  have w64 : dt43 80 2 = dt5 80 2 := hF45 80 (by decide) 2
  have w65 : dt43 80 3 = dt5 80 3 := hF45 80 (by decide) 3
  have w66 : dt43 80 4 = dt5 80 4 := hF45 80 (by decide) 4
  have w67 : dt43 80 5 = dt5 80 5 := hF45 80 (by decide) 5
  have w68 : dt43 81 0 = dt5 81 0 := hF45 81 (by decide) 0
  have w69 : dt43 81 1 = dt5 81 1 := hF45 81 (by decide) 1
  have w70 : dt43 81 2 = dt5 81 2 := hF45 81 (by decide) 2
  have w71 : dt43 81 3 = dt5 81 3 := hF45 81 (by decide) 3
  have w72 : dt43 81 4 = dt5 81 4 := hF45 81 (by decide) 4
  have w73 : dt43 81 5 = dt5 81 5 := hF45 81 (by decide) 5
  have w74 : dt43 79 2 = dt5 79 2 := hF45 79 (by decide) 2
  have w75 : dt43 79 12 = dt5 79 12 := hF45 79 (by decide) 12
  rcases h42 with ⟨rfl, h42⟩ | ⟨rfl, h42⟩ | ⟨rfl, h42⟩
  · skip
    have M276 : MW (dt43 81) := MW_frk M238 hF45 (by decide)
    refine go_toq PM267 (k := 2) (pc' := 1435) (L' := [some (.inr (.inr (some 3000))), some (.inr (.inr (some 0))), some (.inr (.inr (some 79))), some (.inl i)]) (st' := []) (w' := (SH, dt43)) rfl ?_
    exact K dt43 hI44 hM47 M276 (by first | omega | (simp only [*]; done) | simp only [*]) (by omega) (by omega) (by omega) (by omega) (by omega) (by omega) (by omega) (by omega) (by omega) (by omega) (by omega) (by omega) (by omega)
  · skip
    have M277 : MW (dt43 81) := MW_frk M238 hF45 (by decide)
    refine go_toq PM267 (k := 2) (pc' := 1435) (L' := [some (.inr (.inr (some 3000))), some (.inr (.inr (some 0))), some (.inr (.inr (some 79))), some (.inl i)]) (st' := []) (w' := (SH, dt43)) rfl ?_
    exact K dt43 hI44 hM47 M277 (by first | omega | (simp only [*]; done) | simp only [*]) (by omega) (by omega) (by omega) (by omega) (by omega) (by omega) (by omega) (by omega) (by omega) (by omega) (by omega) (by omega) (by omega)
  · skip
    have M278 : MW (dt43 81) := MW_frk M238 hF45 (by decide)
    refine go_toq PM267 (k := 2) (pc' := 1435) (L' := [some (.inr (.inr (some 3000))), some (.inr (.inr (some 0))), some (.inr (.inr (some 79))), some (.inl i)]) (st' := []) (w' := (SH, dt43)) rfl ?_
    exact K dt43 hI44 hM47 M278 (by first | omega | (simp only [*]; done) | simp only [*]) (by omega) (by omega) (by omega) (by omega) (by omega) (by omega) (by omega) (by omega) (by omega) (by omega) (by omega) (by omega) (by omega)
set_option maxRecDepth 20000 in
set_option maxHeartbeats 8000000 in
theorem sp_case8 (L : Nat) (xs : Nat → Int32) (sio : Option Nat) (d : Nat) (Q : Option AV → am_W → Prop) (hLL : L ≤ 3072) (i : Int) (hi : 0 ≤ i ∧ i ≤ 3066) (hil : i ≤ (L : Int) - 6) (dt : Nat → Nat → Int) (hI : InvC dt) (hM : MW (dt 80)) (hM2 : MW (dt 81)) (hk0 : dt 1 0 = dt 80 0) (hk1 : dt 7 3 = dt 80 1) (hk2 : dt 10 3 = dt 80 2) (hk3 : dt 12 3 = dt 80 3) (hk4 : dt 14 3 = dt 80 4) (hk5 : dt 16 3 = dt 80 5) (hk6 : dt 18 0 = dt 81 0) (hk7 : dt 24 3 = dt 81 1) (hk8 : dt 27 3 = dt 81 2) (hk9 : dt 29 3 = dt 81 3) (hk10 : dt 31 3 = dt 81 4) (hk11 : dt 33 3 = dt 81 5) (hk12 : dt 0 2 = dt 79 2) (hk13 : dt 35 1 = dt 79 12) (K : ∀ (dt : Nat → Nat → Int) (hI : InvC dt) (hM : MW (dt 80)) (hM2 : MW (dt 81)) (hk0 : dt 1 0 = dt 80 0) (hk1 : dt 7 3 = dt 80 1) (hk2 : dt 10 3 = dt 80 2) (hk3 : dt 12 3 = dt 80 3) (hk4 : dt 14 3 = dt 80 4) (hk5 : dt 16 3 = dt 80 5) (hk6 : dt 18 0 = dt 81 0) (hk7 : dt 24 3 = dt 81 1) (hk8 : dt 27 3 = dt 81 2) (hk9 : dt 29 3 = dt 81 3) (hk10 : dt 31 3 = dt 81 4) (hk11 : dt 33 3 = dt 81 5) (hk12 : dt 0 2 = dt 79 2) (hk13 : dt 35 1 = dt 79 12), GO (am_XX L xs sio) (d + 39) 267 1435 [some (.inr (.inr (some 3000))), some (.inr (.inr (some 0))), some (.inr (.inr (some 79))), some (.inl i)] [] (SH, dt) Q) : GO (am_XX L xs sio) (d + 39) 267 494 [some (.inr (.inr (some 3000))), some (.inr (.inr (some 0))), some (.inr (.inr (some 79))), some (.inl i)] [] (SH, dt) Q := by
  have hF : Fr [0, 1, 2, 3, 4, 5, 6, 7, 8, 9, 10, 11, 12, 13, 14, 15, 16, 17, 18, 19, 20, 21, 22, 23, 24, 25, 26, 27, 28, 29, 30, 31, 32, 33, 34, 35, 36, 37, 38, 39, 40, 41, 42, 43, 44, 45, 46, 47, 48, 49, 50, 51, 52, 53, 54, 55, 56, 57, 58, 59, 60, 61, 62, 63, 64, 65, 66, 67, 68, 69, 70, 71, 72, 73, 74, 75, 76, 77, 78, 79, 80, 81, 82, 83, 84, 85, 86, 87, 88, 89, 90, 91, 92, 93, 94, 95, 96, 97, 98, 99, 100, 101, 102, 103, 104] dt dt := Fr_refl
  refine go_toq PM267 (k := 5) (pc' := 499) (L' := [some (.inr (.inr (some 3000))), some (.inr (.inr (some 0))), some (.inr (.inr (some 79))), some (.inl i)]) (st' := [.inl (i + 1), .inr (.inr (some 3000)), .inr (.inr (some 0))]) (w' := (SH, dt)) rfl ?_
  have r1 := i32_R (xs ((i + 1).toNat))
  refine go_smpq PM267 (L' := [some (.inr (.inr (some 3000))), some (.inr (.inr (some 0))), some (.inr (.inr (some 79))), some (.inl i)]) (st' := [.inl ((xs ((i + 1).toNat)).toInt), .inr (.inr (some 0))]) (w' := (SH, dt)) rfl rfl (s_iald (n := L) (f := fun j => (xs j).toInt) (am_scr hLL) ⟨by omega, by omega⟩) ?_
  refine go_toq PM267 (k := 4) (pc' := 504) (L' := [some (.inr (.inr (some 3000))), some (.inr (.inr (some 0))), some (.inr (.inr (some 79))), some (.inl i)]) (st' := [.inl (i + 2), .inr (.inr (some 3000)), .inl ((xs ((i + 1).toNat)).toInt), .inr (.inr (some 0))]) (w' := (SH, dt)) rfl ?_
  have r2 := i32_R (xs ((i + 2).toNat))
  refine go_smpq PM267 (L' := [some (.inr (.inr (some 3000))), some (.inr (.inr (some 0))), some (.inr (.inr (some 79))), some (.inl i)]) (st' := [.inl ((xs ((i + 2).toNat)).toInt), .inl ((xs ((i + 1).toNat)).toInt), .inr (.inr (some 0))]) (w' := (SH, dt)) rfl rfl (s_iald (n := L) (f := fun j => (xs j).toInt) (am_scr hLL) ⟨by omega, by omega⟩) ?_
  refine go_toq PM267 (k := 4) (pc' := 509) (L' := [some (.inr (.inr (some 3000))), some (.inr (.inr (some 0))), some (.inr (.inr (some 79))), some (.inl i)]) (st' := [.inl (i + 3), .inr (.inr (some 3000)), .inl ((xs ((i + 2).toNat)).toInt), .inl ((xs ((i + 1).toNat)).toInt), .inr (.inr (some 0))]) (w' := (SH, dt)) rfl ?_
  have r3 := i32_R (xs ((i + 3).toNat))
  refine go_smpq PM267 (L' := [some (.inr (.inr (some 3000))), some (.inr (.inr (some 0))), some (.inr (.inr (some 79))), some (.inl i)]) (st' := [.inl ((xs ((i + 3).toNat)).toInt), .inl ((xs ((i + 2).toNat)).toInt), .inl ((xs ((i + 1).toNat)).toInt), .inr (.inr (some 0))]) (w' := (SH, dt)) rfl rfl (s_iald (n := L) (f := fun j => (xs j).toInt) (am_scr hLL) ⟨by omega, by omega⟩) ?_
  refine go_toq PM267 (k := 4) (pc' := 514) (L' := [some (.inr (.inr (some 3000))), some (.inr (.inr (some 0))), some (.inr (.inr (some 79))), some (.inl i)]) (st' := [.inl (i + 4), .inr (.inr (some 3000)), .inl ((xs ((i + 3).toNat)).toInt), .inl ((xs ((i + 2).toNat)).toInt), .inl ((xs ((i + 1).toNat)).toInt), .inr (.inr (some 0))]) (w' := (SH, dt)) rfl ?_
  have r4 := i32_R (xs ((i + 4).toNat))
  refine go_smpq PM267 (L' := [some (.inr (.inr (some 3000))), some (.inr (.inr (some 0))), some (.inr (.inr (some 79))), some (.inl i)]) (st' := [.inl ((xs ((i + 4).toNat)).toInt), .inl ((xs ((i + 3).toNat)).toInt), .inl ((xs ((i + 2).toNat)).toInt), .inl ((xs ((i + 1).toNat)).toInt), .inr (.inr (some 0))]) (w' := (SH, dt)) rfl rfl (s_iald (n := L) (f := fun j => (xs j).toInt) (am_scr hLL) ⟨by omega, by omega⟩) ?_
  refine go_toq PM267 (k := 4) (pc' := 519) (L' := [some (.inr (.inr (some 3000))), some (.inr (.inr (some 0))), some (.inr (.inr (some 79))), some (.inl i)]) (st' := [.inl (i + 5), .inr (.inr (some 3000)), .inl ((xs ((i + 4).toNat)).toInt), .inl ((xs ((i + 3).toNat)).toInt), .inl ((xs ((i + 2).toNat)).toInt), .inl ((xs ((i + 1).toNat)).toInt), .inr (.inr (some 0))]) (w' := (SH, dt)) rfl ?_
  have r5 := i32_R (xs ((i + 5).toNat))
  refine go_smpq PM267 (L' := [some (.inr (.inr (some 3000))), some (.inr (.inr (some 0))), some (.inr (.inr (some 79))), some (.inl i)]) (st' := [.inl ((xs ((i + 5).toNat)).toInt), .inl ((xs ((i + 4).toNat)).toInt), .inl ((xs ((i + 3).toNat)).toInt), .inl ((xs ((i + 2).toNat)).toInt), .inl ((xs ((i + 1).toNat)).toInt), .inr (.inr (some 0))]) (w' := (SH, dt)) rfl rfl (s_iald (n := L) (f := fun j => (xs j).toInt) (am_scr hLL) ⟨by omega, by omega⟩) ?_
  refine go_callq PM267 PM75 (Q' := _) rfl rfl rfl rfl (sp_X5_question L xs sio (d + 33) dt hI  ((xs ((i + 1).toNat)).toInt) ⟨by omega, by omega⟩ ((xs ((i + 2).toNat)).toInt) ⟨by omega, by omega⟩ ((xs ((i + 3).toNat)).toInt) ⟨by omega, by omega⟩ ((xs ((i + 4).toNat)).toInt) ⟨by omega, by omega⟩ ((xs ((i + 5).toNat)).toInt) ⟨by omega, by omega⟩ ) ?_
  rintro _ _ ⟨dt7, rfl, hI8, hF9, h6⟩
  refine ⟨rfl, ?_⟩
  have hF10 : Fr [0, 1, 2, 3, 4, 5, 6, 7, 8, 9, 10, 11, 12, 13, 14, 15, 16, 17, 18, 19, 20, 21, 22, 23, 24, 25, 26, 27, 28, 29, 30, 31, 32, 33, 34, 35, 36, 37, 38, 39, 40, 41, 42, 43, 44, 45, 46, 47, 48, 49, 50, 51, 52, 53, 54, 55, 56, 57, 58, 59, 60, 61, 62, 63, 64, 65, 66, 67, 68, 69, 70, 71, 72, 73, 74, 75, 76, 77, 78, 79, 80, 81, 82, 83, 84, 85, 86, 87, 88, 89, 90, 91, 92, 93, 94, 95, 96, 97, 98, 99, 100, 101, 102, 103, 104] dt dt7 := Fr_tr hF hF9 (by decide)
  have hM11 : MW (dt7 80) := MW_fr hM hF9 (by decide)
  have w12 : dt7 1 0 = dt 1 0 := hF9 1 (by decide) 0
  have w13 : dt7 10 3 = dt 10 3 := hF9 10 (by decide) 3
  have w14 : dt7 12 3 = dt 12 3 := hF9 12 (by decide) 3
  have w15 : dt7 14 3 = dt 14 3 := hF9 14 (by decide) 3
  have w16 : dt7 16 3 = dt 16 3 := hF9 16 (by decide) 3
  have w17 : dt7 18 0 = dt 18 0 := hF9 18 (by decide) 0
  have w18 : dt7 24 3 = dt 24 3 := hF9 24 (by decide) 3
  have w19 : dt7 27 3 = dt 27 3 := hF9 27 (by decide) 3
  have w20 : dt7 29 3 = dt 29 3 := hF9 29 (by decide) 3
  have w21 : dt7 31 3 = dt 31 3 := hF9 31 (by decide) 3
  have w22 : dt7 33 3 = dt 33 3 := hF9 33 (by decide) 3
  have w23 : dt7 0 2 = dt 0 2 := hF9 0 (by decide) 2
  have w24 : dt7 35 1 = dt 35 1 := hF9 35 (by decide) 1
  have w25 : dt7 80 0 = dt 80 0 := hF9 80 (by decide) 0
  have w26 : dt7 80 1 = dt 80 1 := hF9 80 (by decide) 1
  have w27 : dt7 80 2 = dt 80 2 := hF9 80 (by decide) 2
  have w28 : dt7 80 3 = dt 80 3 := hF9 80 (by decide) 3
  have w29 : dt7 80 4 = dt 80 4 := hF9 80 (by decide) 4
  have w30 : dt7 80 5 = dt 80 5 := hF9 80 (by decide) 5
  have w31 : dt7 81 0 = dt 81 0 := hF9 81 (by decide) 0
  have w32 : dt7 81 1 = dt 81 1 := hF9 81 (by decide) 1
  have w33 : dt7 81 2 = dt 81 2 := hF9 81 (by decide) 2
  have w34 : dt7 81 3 = dt 81 3 := hF9 81 (by decide) 3
  have w35 : dt7 81 4 = dt 81 4 := hF9 81 (by decide) 4
  have w36 : dt7 81 5 = dt 81 5 := hF9 81 (by decide) 5
  have w37 : dt7 79 2 = dt 79 2 := hF9 79 (by decide) 2
  have w38 : dt7 79 12 = dt 79 12 := hF9 79 (by decide) 12
  rcases h6 with ⟨rfl, h6⟩ | ⟨v_h6, rfl, h6r, h6⟩
  · skip
    obtain ⟨h6_0, h6_1⟩ := h6
    have M239 : MW (dt7 81) := MW_frk hM2 hF9 (by decide)
    refine go_toq PM267 (k := 6) (pc' := 529) (L' := [some (.inr (.inr (some 3000))), some (.inr (.inr (some 0))), some (.inr (.inr (some 79))), some (.inl i)]) (st' := [.inl (i + 1), .inr (.inr (some 3000)), .inr (.inr (some 79))]) (w' := (SH, dt7)) rfl ?_
    have r40 := i32_R (xs ((i + 1).toNat))
    refine go_smpq PM267 (L' := [some (.inr (.inr (some 3000))), some (.inr (.inr (some 0))), some (.inr (.inr (some 79))), some (.inl i)]) (st' := [.inl ((xs ((i + 1).toNat)).toInt), .inr (.inr (some 79))]) (w' := (SH, dt7)) rfl rfl (s_iald (n := L) (f := fun j => (xs j).toInt) (am_scr hLL) ⟨by omega, by omega⟩) ?_
    refine go_toq PM267 (k := 4) (pc' := 534) (L' := [some (.inr (.inr (some 3000))), some (.inr (.inr (some 0))), some (.inr (.inr (some 79))), some (.inl i)]) (st' := [.inl (i + 2), .inr (.inr (some 3000)), .inl ((xs ((i + 1).toNat)).toInt), .inr (.inr (some 79))]) (w' := (SH, dt7)) rfl ?_
    have r41 := i32_R (xs ((i + 2).toNat))
    refine go_smpq PM267 (L' := [some (.inr (.inr (some 3000))), some (.inr (.inr (some 0))), some (.inr (.inr (some 79))), some (.inl i)]) (st' := [.inl ((xs ((i + 2).toNat)).toInt), .inl ((xs ((i + 1).toNat)).toInt), .inr (.inr (some 79))]) (w' := (SH, dt7)) rfl rfl (s_iald (n := L) (f := fun j => (xs j).toInt) (am_scr hLL) ⟨by omega, by omega⟩) ?_
    refine go_toq PM267 (k := 4) (pc' := 539) (L' := [some (.inr (.inr (some 3000))), some (.inr (.inr (some 0))), some (.inr (.inr (some 79))), some (.inl i)]) (st' := [.inl (i + 3), .inr (.inr (some 3000)), .inl ((xs ((i + 2).toNat)).toInt), .inl ((xs ((i + 1).toNat)).toInt), .inr (.inr (some 79))]) (w' := (SH, dt7)) rfl ?_
    have r42 := i32_R (xs ((i + 3).toNat))
    refine go_smpq PM267 (L' := [some (.inr (.inr (some 3000))), some (.inr (.inr (some 0))), some (.inr (.inr (some 79))), some (.inl i)]) (st' := [.inl ((xs ((i + 3).toNat)).toInt), .inl ((xs ((i + 2).toNat)).toInt), .inl ((xs ((i + 1).toNat)).toInt), .inr (.inr (some 79))]) (w' := (SH, dt7)) rfl rfl (s_iald (n := L) (f := fun j => (xs j).toInt) (am_scr hLL) ⟨by omega, by omega⟩) ?_
    refine go_toq PM267 (k := 4) (pc' := 544) (L' := [some (.inr (.inr (some 3000))), some (.inr (.inr (some 0))), some (.inr (.inr (some 79))), some (.inl i)]) (st' := [.inl (i + 4), .inr (.inr (some 3000)), .inl ((xs ((i + 3).toNat)).toInt), .inl ((xs ((i + 2).toNat)).toInt), .inl ((xs ((i + 1).toNat)).toInt), .inr (.inr (some 79))]) (w' := (SH, dt7)) rfl ?_
    have r43 := i32_R (xs ((i + 4).toNat))
    refine go_smpq PM267 (L' := [some (.inr (.inr (some 3000))), some (.inr (.inr (some 0))), some (.inr (.inr (some 79))), some (.inl i)]) (st' := [.inl ((xs ((i + 4).toNat)).toInt), .inl ((xs ((i + 3).toNat)).toInt), .inl ((xs ((i + 2).toNat)).toInt), .inl ((xs ((i + 1).toNat)).toInt), .inr (.inr (some 79))]) (w' := (SH, dt7)) rfl rfl (s_iald (n := L) (f := fun j => (xs j).toInt) (am_scr hLL) ⟨by omega, by omega⟩) ?_
    refine go_toq PM267 (k := 4) (pc' := 549) (L' := [some (.inr (.inr (some 3000))), some (.inr (.inr (some 0))), some (.inr (.inr (some 79))), some (.inl i)]) (st' := [.inl (i + 5), .inr (.inr (some 3000)), .inl ((xs ((i + 4).toNat)).toInt), .inl ((xs ((i + 3).toNat)).toInt), .inl ((xs ((i + 2).toNat)).toInt), .inl ((xs ((i + 1).toNat)).toInt), .inr (.inr (some 79))]) (w' := (SH, dt7)) rfl ?_
    have r44 := i32_R (xs ((i + 5).toNat))
    refine go_smpq PM267 (L' := [some (.inr (.inr (some 3000))), some (.inr (.inr (some 0))), some (.inr (.inr (some 79))), some (.inl i)]) (st' := [.inl ((xs ((i + 5).toNat)).toInt), .inl ((xs ((i + 4).toNat)).toInt), .inl ((xs ((i + 3).toNat)).toInt), .inl ((xs ((i + 2).toNat)).toInt), .inl ((xs ((i + 1).toNat)).toInt), .inr (.inr (some 79))]) (w' := (SH, dt7)) rfl rfl (s_iald (n := L) (f := fun j => (xs j).toInt) (am_scr hLL) ⟨by omega, by omega⟩) ?_
    refine go_callq PM267 PM193 (Q' := _) rfl rfl rfl rfl (sp_X6_question L xs sio (d + 36) dt7 hI8 hM11  ((xs ((i + 1).toNat)).toInt) ⟨by omega, by omega⟩ ((xs ((i + 2).toNat)).toInt) ⟨by omega, by omega⟩ ((xs ((i + 3).toNat)).toInt) ⟨by omega, by omega⟩ ((xs ((i + 4).toNat)).toInt) ⟨by omega, by omega⟩ ((xs ((i + 5).toNat)).toInt) ⟨by omega, by omega⟩ ) ?_
    rintro _ _ ⟨dt46, rfl, hI47, hF48, h45⟩
    refine ⟨rfl, ?_⟩
    have hF49 : Fr [0, 1, 2, 3, 4, 5, 6, 7, 8, 9, 10, 11, 12, 13, 14, 15, 16, 17, 18, 19, 20, 21, 22, 23, 24, 25, 26, 27, 28, 29, 30, 31, 32, 33, 34, 35, 36, 37, 38, 39, 40, 41, 42, 43, 44, 45, 46, 47, 48, 49, 50, 51, 52, 53, 54, 55, 56, 57, 58, 59, 60, 61, 62, 63, 64, 65, 66, 67, 68, 69, 70, 71, 72, 73, 74, 75, 76, 77, 78, 79, 80, 81, 82, 83, 84, 85, 86, 87, 88, 89, 90, 91, 92, 93, 94, 95, 96, 97, 98, 99, 100, 101, 102, 103, 104] dt dt46 := Fr_tr hF10 hF48 (by decide)
    have w50 : dt46 1 0 = dt7 1 0 := hF48 1 (by decide) 0
    have w51 : dt46 7 3 = dt7 7 3 := hF48 7 (by decide) 3
    have w52 : dt46 10 3 = dt7 10 3 := hF48 10 (by decide) 3
    have w53 : dt46 12 3 = dt7 12 3 := hF48 12 (by decide) 3
    have w54 : dt46 14 3 = dt7 14 3 := hF48 14 (by decide) 3
    have w55 : dt46 16 3 = dt7 16 3 := hF48 16 (by decide) 3
    have w56 : dt46 18 0 = dt7 18 0 := hF48 18 (by decide) 0
    have w57 : dt46 24 3 = dt7 24 3 := hF48 24 (by decide) 3
    have w58 : dt46 27 3 = dt7 27 3 := hF48 27 (by decide) 3
    have w59 : dt46 29 3 = dt7 29 3 := hF48 29 (by decide) 3
    have w60 : dt46 31 3 = dt7 31 3 := hF48 31 (by decide) 3
    have w61 : dt46 33 3 = dt7 33 3 := hF48 33 (by decide) 3
    have w62 : dt46 0 2 = dt7 0 2 := hF48 0 (by decide) 2
    have w63 : dt46 35 1 = dt7 35 1 := hF48 35 (by decide) 1
    have w64 : dt46 81 0 = dt7 81 0 := hF48 81 (by decide) 0
    have w65 : dt46 81 1 = dt7 81 1 := hF48 81 (by decide) 1
    have w66 : dt46 81 2 = dt7 81 2 := hF48 81 (by decide) 2
    have w67 : dt46 81 3 = dt7 81 3 := hF48 81 (by decide) 3
    have w68 : dt46 81 4 = dt7 81 4 := hF48 81 (by decide) 4
    have w69 : dt46 81 5 = dt7 81 5 := hF48 81 (by decide) 5
    have w70 : dt46 79 2 = dt7 79 2 := hF48 79 (by decide) 2
    have w71 : dt46 79 12 = dt7 79 12 := hF48 79 (by decide) 12
    rcases h45 with ⟨rfl, h45⟩ | ⟨v_h45, rfl, h45r, h45⟩
    · skip
      have hM72 : MW (dt46 80) := h45.2.1
      obtain ⟨h45_0, h45_1, h45_2, h45_3, h45_4, h45_5, h45_6, h45_7⟩ := h45
      have M273 : MW (dt46 81) := MW_frk M239 hF48 (by decide)
      refine go_toq PM267 (k := 2) (pc' := 1435) (L' := [some (.inr (.inr (some 3000))), some (.inr (.inr (some 0))), some (.inr (.inr (some 79))), some (.inl i)]) (st' := []) (w' := (SH, dt46)) rfl ?_
      exact K dt46 hI47 hM72 M273 (by first | omega | (simp only [*]; done) | simp only [*]) (by omega) (by omega) (by omega) (by omega) (by omega) (by omega) (by omega) (by omega) (by omega) (by omega) (by omega) (by omega) (by omega)
    · skip
      have hM74 : MW (dt46 80) := h45.2.2.1
      obtain ⟨h45_0, h45_1, h45_2, h45_3, h45_4, h45_5, h45_6, h45_7, h45_8⟩ := h45
      have M275 : MW (dt46 81) := MW_frk M239 hF48 (by decide)
      refine go_toq PM267 (k := 2) (pc' := 1435) (L' := [some (.inr (.inr (some 3000))), some (.inr (.inr (some 0))), some (.inr (.inr (some 79))), some (.inl i)]) (st' := []) (w' := (SH, dt46)) rfl ?_
      exact K dt46 hI47 hM74 M275 (by first | omega | (simp only [*]; done) | simp only [*]) (by omega) (by omega) (by omega) (by omega) (by omega) (by omega) (by omega) (by omega) (by omega) (by omega) (by omega) (by omega) (by omega)
  · skip
    obtain ⟨h6_0, h6_1, h6_2⟩ := h6
    have M276 : MW (dt7 81) := MW_frk hM2 hF9 (by decide)
    refine go_toq PM267 (k := 6) (pc' := 529) (L' := [some (.inr (.inr (some 3000))), some (.inr (.inr (some 0))), some (.inr (.inr (some 79))), some (.inl i)]) (st' := [.inl (i + 1), .inr (.inr (some 3000)), .inr (.inr (some 79))]) (w' := (SH, dt7)) rfl ?_
    have r77 := i32_R (xs ((i + 1).toNat))
    refine go_smpq PM267 (L' := [some (.inr (.inr (some 3000))), some (.inr (.inr (some 0))), some (.inr (.inr (some 79))), some (.inl i)]) (st' := [.inl ((xs ((i + 1).toNat)).toInt), .inr (.inr (some 79))]) (w' := (SH, dt7)) rfl rfl (s_iald (n := L) (f := fun j => (xs j).toInt) (am_scr hLL) ⟨by omega, by omega⟩) ?_
    refine go_toq PM267 (k := 4) (pc' := 534) (L' := [some (.inr (.inr (some 3000))), some (.inr (.inr (some 0))), some (.inr (.inr (some 79))), some (.inl i)]) (st' := [.inl (i + 2), .inr (.inr (some 3000)), .inl ((xs ((i + 1).toNat)).toInt), .inr (.inr (some 79))]) (w' := (SH, dt7)) rfl ?_
    have r78 := i32_R (xs ((i + 2).toNat))
    refine go_smpq PM267 (L' := [some (.inr (.inr (some 3000))), some (.inr (.inr (some 0))), some (.inr (.inr (some 79))), some (.inl i)]) (st' := [.inl ((xs ((i + 2).toNat)).toInt), .inl ((xs ((i + 1).toNat)).toInt), .inr (.inr (some 79))]) (w' := (SH, dt7)) rfl rfl (s_iald (n := L) (f := fun j => (xs j).toInt) (am_scr hLL) ⟨by omega, by omega⟩) ?_
    refine go_toq PM267 (k := 4) (pc' := 539) (L' := [some (.inr (.inr (some 3000))), some (.inr (.inr (some 0))), some (.inr (.inr (some 79))), some (.inl i)]) (st' := [.inl (i + 3), .inr (.inr (some 3000)), .inl ((xs ((i + 2).toNat)).toInt), .inl ((xs ((i + 1).toNat)).toInt), .inr (.inr (some 79))]) (w' := (SH, dt7)) rfl ?_
    have r79 := i32_R (xs ((i + 3).toNat))
    refine go_smpq PM267 (L' := [some (.inr (.inr (some 3000))), some (.inr (.inr (some 0))), some (.inr (.inr (some 79))), some (.inl i)]) (st' := [.inl ((xs ((i + 3).toNat)).toInt), .inl ((xs ((i + 2).toNat)).toInt), .inl ((xs ((i + 1).toNat)).toInt), .inr (.inr (some 79))]) (w' := (SH, dt7)) rfl rfl (s_iald (n := L) (f := fun j => (xs j).toInt) (am_scr hLL) ⟨by omega, by omega⟩) ?_
    refine go_toq PM267 (k := 4) (pc' := 544) (L' := [some (.inr (.inr (some 3000))), some (.inr (.inr (some 0))), some (.inr (.inr (some 79))), some (.inl i)]) (st' := [.inl (i + 4), .inr (.inr (some 3000)), .inl ((xs ((i + 3).toNat)).toInt), .inl ((xs ((i + 2).toNat)).toInt), .inl ((xs ((i + 1).toNat)).toInt), .inr (.inr (some 79))]) (w' := (SH, dt7)) rfl ?_
    have r80 := i32_R (xs ((i + 4).toNat))
    refine go_smpq PM267 (L' := [some (.inr (.inr (some 3000))), some (.inr (.inr (some 0))), some (.inr (.inr (some 79))), some (.inl i)]) (st' := [.inl ((xs ((i + 4).toNat)).toInt), .inl ((xs ((i + 3).toNat)).toInt), .inl ((xs ((i + 2).toNat)).toInt), .inl ((xs ((i + 1).toNat)).toInt), .inr (.inr (some 79))]) (w' := (SH, dt7)) rfl rfl (s_iald (n := L) (f := fun j => (xs j).toInt) (am_scr hLL) ⟨by omega, by omega⟩) ?_
    refine go_toq PM267 (k := 4) (pc' := 549) (L' := [some (.inr (.inr (some 3000))), some (.inr (.inr (some 0))), some (.inr (.inr (some 79))), some (.inl i)]) (st' := [.inl (i + 5), .inr (.inr (some 3000)), .inl ((xs ((i + 4).toNat)).toInt), .inl ((xs ((i + 3).toNat)).toInt), .inl ((xs ((i + 2).toNat)).toInt), .inl ((xs ((i + 1).toNat)).toInt), .inr (.inr (some 79))]) (w' := (SH, dt7)) rfl ?_
    have r81 := i32_R (xs ((i + 5).toNat))
    refine go_smpq PM267 (L' := [some (.inr (.inr (some 3000))), some (.inr (.inr (some 0))), some (.inr (.inr (some 79))), some (.inl i)]) (st' := [.inl ((xs ((i + 5).toNat)).toInt), .inl ((xs ((i + 4).toNat)).toInt), .inl ((xs ((i + 3).toNat)).toInt), .inl ((xs ((i + 2).toNat)).toInt), .inl ((xs ((i + 1).toNat)).toInt), .inr (.inr (some 79))]) (w' := (SH, dt7)) rfl rfl (s_iald (n := L) (f := fun j => (xs j).toInt) (am_scr hLL) ⟨by omega, by omega⟩) ?_
    refine go_callq PM267 PM193 (Q' := _) rfl rfl rfl rfl (sp_X6_question L xs sio (d + 36) dt7 hI8 hM11  ((xs ((i + 1).toNat)).toInt) ⟨by omega, by omega⟩ ((xs ((i + 2).toNat)).toInt) ⟨by omega, by omega⟩ ((xs ((i + 3).toNat)).toInt) ⟨by omega, by omega⟩ ((xs ((i + 4).toNat)).toInt) ⟨by omega, by omega⟩ ((xs ((i + 5).toNat)).toInt) ⟨by omega, by omega⟩ ) ?_
    rintro _ _ ⟨dt83, rfl, hI84, hF85, h82⟩
    refine ⟨rfl, ?_⟩
    have hF86 : Fr [0, 1, 2, 3, 4, 5, 6, 7, 8, 9, 10, 11, 12, 13, 14, 15, 16, 17, 18, 19, 20, 21, 22, 23, 24, 25, 26, 27, 28, 29, 30, 31, 32, 33, 34, 35, 36, 37, 38, 39, 40, 41, 42, 43, 44, 45, 46, 47, 48, 49, 50, 51, 52, 53, 54, 55, 56, 57, 58, 59, 60, 61, 62, 63, 64, 65, 66, 67, 68, 69, 70, 71, 72, 73, 74, 75, 76, 77, 78, 79, 80, 81, 82, 83, 84, 85, 86, 87, 88, 89, 90, 91, 92, 93, 94, 95, 96, 97, 98, 99, 100, 101, 102, 103, 104] dt dt83 := Fr_tr hF10 hF85 (by decide)
    have w87 : dt83 1 0 = dt7 1 0 := hF85 1 (by decide) 0
    have w88 : dt83 7 3 = dt7 7 3 := hF85 7 (by decide) 3
    have w89 : dt83 10 3 = dt7 10 3 := hF85 10 (by decide) 3
    have w90 : dt83 12 3 = dt7 12 3 := hF85 12 (by decide) 3
    have w91 : dt83 14 3 = dt7 14 3 := hF85 14 (by decide) 3
    have w92 : dt83 16 3 = dt7 16 3 := hF85 16 (by decide) 3
    have w93 : dt83 18 0 = dt7 18 0 := hF85 18 (by decide) 0
    have w94 : dt83 24 3 = dt7 24 3 := hF85 24 (by decide) 3
    have w95 : dt83 27 3 = dt7 27 3 := hF85 27 (by decide) 3
    have w96 : dt83 29 3 = dt7 29 3 := hF85 29 (by decide) 3
    have w97 : dt83 31 3 = dt7 31 3 := hF85 31 (by decide) 3
    have w98 : dt83 33 3 = dt7 33 3 := hF85 33 (by decide) 3
    have w99 : dt83 0 2 = dt7 0 2 := hF85 0 (by decide) 2
    have w100 : dt83 35 1 = dt7 35 1 := hF85 35 (by decide) 1
    have w101 : dt83 81 0 = dt7 81 0 := hF85 81 (by decide) 0
    have w102 : dt83 81 1 = dt7 81 1 := hF85 81 (by decide) 1
    have w103 : dt83 81 2 = dt7 81 2 := hF85 81 (by decide) 2
    have w104 : dt83 81 3 = dt7 81 3 := hF85 81 (by decide) 3
    have w105 : dt83 81 4 = dt7 81 4 := hF85 81 (by decide) 4
    have w106 : dt83 81 5 = dt7 81 5 := hF85 81 (by decide) 5
    have w107 : dt83 79 2 = dt7 79 2 := hF85 79 (by decide) 2
    have w108 : dt83 79 12 = dt7 79 12 := hF85 79 (by decide) 12
    rcases h82 with ⟨rfl, h82⟩ | ⟨v_h82, rfl, h82r, h82⟩
    · skip
      have hM109 : MW (dt83 80) := h82.2.1
      obtain ⟨h82_0, h82_1, h82_2, h82_3, h82_4, h82_5, h82_6, h82_7⟩ := h82
      have M2110 : MW (dt83 81) := MW_frk M276 hF85 (by decide)
      refine go_toq PM267 (k := 2) (pc' := 1435) (L' := [some (.inr (.inr (some 3000))), some (.inr (.inr (some 0))), some (.inr (.inr (some 79))), some (.inl i)]) (st' := []) (w' := (SH, dt83)) rfl ?_
      exact K dt83 hI84 hM109 M2110 (by first | omega | (simp only [*]; done) | simp only [*]) (by omega) (by omega) (by omega) (by omega) (by omega) (by omega) (by omega) (by omega) (by omega) (by omega) (by omega) (by omega) (by omega)
    · skip
      have hM111 : MW (dt83 80) := h82.2.2.1
      obtain ⟨h82_0, h82_1, h82_2, h82_3, h82_4, h82_5, h82_6, h82_7, h82_8⟩ := h82
      have M2112 : MW (dt83 81) := MW_frk M276 hF85 (by decide)
      refine go_toq PM267 (k := 2) (pc' := 1435) (L' := [some (.inr (.inr (some 3000))), some (.inr (.inr (some 0))), some (.inr (.inr (some 79))), some (.inl i)]) (st' := []) (w' := (SH, dt83)) rfl ?_
      exact K dt83 hI84 hM111 M2112 (by first | omega | (simp only [*]; done) | simp only [*]) (by omega) (by omega) (by omega) (by omega) (by omega) (by omega) (by omega) (by omega) (by omega) (by omega) (by omega) (by omega) (by omega)
set_option maxRecDepth 20000 in
set_option maxHeartbeats 8000000 in
theorem sp_case9 (L : Nat) (xs : Nat → Int32) (sio : Option Nat) (d : Nat) (Q : Option AV → am_W → Prop) (hLL : L ≤ 3072) (i : Int) (hi : 0 ≤ i ∧ i ≤ 3066) (hil : i ≤ (L : Int) - 6) (dt : Nat → Nat → Int) (hI : InvC dt) (hM : MW (dt 80)) (hM2 : MW (dt 81)) (hk0 : dt 1 0 = dt 80 0) (hk1 : dt 7 3 = dt 80 1) (hk2 : dt 10 3 = dt 80 2) (hk3 : dt 12 3 = dt 80 3) (hk4 : dt 14 3 = dt 80 4) (hk5 : dt 16 3 = dt 80 5) (hk6 : dt 18 0 = dt 81 0) (hk7 : dt 24 3 = dt 81 1) (hk8 : dt 27 3 = dt 81 2) (hk9 : dt 29 3 = dt 81 3) (hk10 : dt 31 3 = dt 81 4) (hk11 : dt 33 3 = dt 81 5) (hk12 : dt 0 2 = dt 79 2) (hk13 : dt 35 1 = dt 79 12) (K : ∀ (dt : Nat → Nat → Int) (hI : InvC dt) (hM : MW (dt 80)) (hM2 : MW (dt 81)) (hk0 : dt 1 0 = dt 80 0) (hk1 : dt 7 3 = dt 80 1) (hk2 : dt 10 3 = dt 80 2) (hk3 : dt 12 3 = dt 80 3) (hk4 : dt 14 3 = dt 80 4) (hk5 : dt 16 3 = dt 80 5) (hk6 : dt 18 0 = dt 81 0) (hk7 : dt 24 3 = dt 81 1) (hk8 : dt 27 3 = dt 81 2) (hk9 : dt 29 3 = dt 81 3) (hk10 : dt 31 3 = dt 81 4) (hk11 : dt 33 3 = dt 81 5) (hk12 : dt 0 2 = dt 79 2) (hk13 : dt 35 1 = dt 79 12), GO (am_XX L xs sio) (d + 39) 267 1435 [some (.inr (.inr (some 3000))), some (.inr (.inr (some 0))), some (.inr (.inr (some 79))), some (.inl i)] [] (SH, dt) Q) : GO (am_XX L xs sio) (d + 39) 267 557 [some (.inr (.inr (some 3000))), some (.inr (.inr (some 0))), some (.inr (.inr (some 79))), some (.inl i)] [] (SH, dt) Q := by
  have hF : Fr [0, 1, 2, 3, 4, 5, 6, 7, 8, 9, 10, 11, 12, 13, 14, 15, 16, 17, 18, 19, 20, 21, 22, 23, 24, 25, 26, 27, 28, 29, 30, 31, 32, 33, 34, 35, 36, 37, 38, 39, 40, 41, 42, 43, 44, 45, 46, 47, 48, 49, 50, 51, 52, 53, 54, 55, 56, 57, 58, 59, 60, 61, 62, 63, 64, 65, 66, 67, 68, 69, 70, 71, 72, 73, 74, 75, 76, 77, 78, 79, 80, 81, 82, 83, 84, 85, 86, 87, 88, 89, 90, 91, 92, 93, 94, 95, 96, 97, 98, 99, 100, 101, 102, 103, 104] dt dt := Fr_refl
  refine go_toq PM267 (k := 5) (pc' := 562) (L' := [some (.inr (.inr (some 3000))), some (.inr (.inr (some 0))), some (.inr (.inr (some 79))), some (.inl i)]) (st' := [.inl (i + 1), .inr (.inr (some 3000)), .inr (.inr (some 0))]) (w' := (SH, dt)) rfl ?_
  have r1 := i32_R (xs ((i + 1).toNat))
  refine go_smpq PM267 (L' := [some (.inr (.inr (some 3000))), some (.inr (.inr (some 0))), some (.inr (.inr (some 79))), some (.inl i)]) (st' := [.inl ((xs ((i + 1).toNat)).toInt), .inr (.inr (some 0))]) (w' := (SH, dt)) rfl rfl (s_iald (n := L) (f := fun j => (xs j).toInt) (am_scr hLL) ⟨by omega, by omega⟩) ?_
  refine go_toq PM267 (k := 4) (pc' := 567) (L' := [some (.inr (.inr (some 3000))), some (.inr (.inr (some 0))), some (.inr (.inr (some 79))), some (.inl i)]) (st' := [.inl (i + 2), .inr (.inr (some 3000)), .inl ((xs ((i + 1).toNat)).toInt), .inr (.inr (some 0))]) (w' := (SH, dt)) rfl ?_
  have r2 := i32_R (xs ((i + 2).toNat))
  refine go_smpq PM267 (L' := [some (.inr (.inr (some 3000))), some (.inr (.inr (some 0))), some (.inr (.inr (some 79))), some (.inl i)]) (st' := [.inl ((xs ((i + 2).toNat)).toInt), .inl ((xs ((i + 1).toNat)).toInt), .inr (.inr (some 0))]) (w' := (SH, dt)) rfl rfl (s_iald (n := L) (f := fun j => (xs j).toInt) (am_scr hLL) ⟨by omega, by omega⟩) ?_
  refine go_callq PM267 PM76 (Q' := _) rfl rfl rfl rfl (sp_X5_says L xs sio (d + 36) dt hI  ((xs ((i + 1).toNat)).toInt) ⟨by omega, by omega⟩ ((xs ((i + 2).toNat)).toInt) ⟨by omega, by omega⟩ ) ?_
  rintro _ _ ⟨rfl, h3⟩
  refine ⟨rfl, ?_⟩
  rcases h3 with ⟨v_h3, rfl, h3r, h3⟩
  refine go_toq PM267 (k := 6) (pc' := 577) (L' := [some (.inr (.inr (some 3000))), some (.inr (.inr (some 0))), some (.inr (.inr (some 79))), some (.inl i)]) (st' := [.inl (i + 1), .inr (.inr (some 3000)), .inr (.inr (some 79))]) (w' := (SH, dt)) rfl ?_
  refine go_smpq PM267 (L' := [some (.inr (.inr (some 3000))), some (.inr (.inr (some 0))), some (.inr (.inr (some 79))), some (.inl i)]) (st' := [.inl ((xs ((i + 1).toNat)).toInt), .inr (.inr (some 79))]) (w' := (SH, dt)) rfl rfl (s_iald (n := L) (f := fun j => (xs j).toInt) (am_scr hLL) ⟨by omega, by omega⟩) ?_
  refine go_toq PM267 (k := 4) (pc' := 582) (L' := [some (.inr (.inr (some 3000))), some (.inr (.inr (some 0))), some (.inr (.inr (some 79))), some (.inl i)]) (st' := [.inl (i + 2), .inr (.inr (some 3000)), .inl ((xs ((i + 1).toNat)).toInt), .inr (.inr (some 79))]) (w' := (SH, dt)) rfl ?_
  refine go_smpq PM267 (L' := [some (.inr (.inr (some 3000))), some (.inr (.inr (some 0))), some (.inr (.inr (some 79))), some (.inl i)]) (st' := [.inl ((xs ((i + 2).toNat)).toInt), .inl ((xs ((i + 1).toNat)).toInt), .inr (.inr (some 79))]) (w' := (SH, dt)) rfl rfl (s_iald (n := L) (f := fun j => (xs j).toInt) (am_scr hLL) ⟨by omega, by omega⟩) ?_
  refine go_callq PM267 PM197 (Q' := _) rfl rfl rfl rfl (sp_X6_says L xs sio (d + 32) dt hI hM  ((xs ((i + 1).toNat)).toInt) ⟨by omega, by omega⟩ ((xs ((i + 2).toNat)).toInt) ⟨by omega, by omega⟩ ) ?_
  rintro _ _ ⟨dt5, rfl, hI6, hF7, h4⟩
  refine ⟨rfl, ?_⟩
  have hF8 : Fr [0, 1, 2, 3, 4, 5, 6, 7, 8, 9, 10, 11, 12, 13, 14, 15, 16, 17, 18, 19, 20, 21, 22, 23, 24, 25, 26, 27, 28, 29, 30, 31, 32, 33, 34, 35, 36, 37, 38, 39, 40, 41, 42, 43, 44, 45, 46, 47, 48, 49, 50, 51, 52, 53, 54, 55, 56, 57, 58, 59, 60, 61, 62, 63, 64, 65, 66, 67, 68, 69, 70, 71, 72, 73, 74, 75, 76, 77, 78, 79, 80, 81, 82, 83, 84, 85, 86, 87, 88, 89, 90, 91, 92, 93, 94, 95, 96, 97, 98, 99, 100, 101, 102, 103, 104] dt dt5 := Fr_tr hF hF7 (by decide)
  have hM9 : MW (dt5 80) := MW_fr hM hF7 (by decide)
  have w10 : dt5 1 0 = dt 1 0 := hF7 1 (by decide) 0
  have w11 : dt5 7 3 = dt 7 3 := hF7 7 (by decide) 3
  have w12 : dt5 10 3 = dt 10 3 := hF7 10 (by decide) 3
  have w13 : dt5 12 3 = dt 12 3 := hF7 12 (by decide) 3
  have w14 : dt5 14 3 = dt 14 3 := hF7 14 (by decide) 3
  have w15 : dt5 16 3 = dt 16 3 := hF7 16 (by decide) 3
  have w16 : dt5 18 0 = dt 18 0 := hF7 18 (by decide) 0
  have w17 : dt5 24 3 = dt 24 3 := hF7 24 (by decide) 3
  have w18 : dt5 27 3 = dt 27 3 := hF7 27 (by decide) 3
  have w19 : dt5 29 3 = dt 29 3 := hF7 29 (by decide) 3
  have w20 : dt5 31 3 = dt 31 3 := hF7 31 (by decide) 3
  have w21 : dt5 33 3 = dt 33 3 := hF7 33 (by decide) 3
  have w22 : dt5 0 2 = dt 0 2 := hF7 0 (by decide) 2
  have w23 : dt5 35 1 = dt 35 1 := hF7 35 (by decide) 1
  have w24 : dt5 80 0 = dt 80 0 := hF7 80 (by decide) 0
  have w25 : dt5 80 1 = dt 80 1 := hF7 80 (by decide) 1
  have w26 : dt5 80 2 = dt 80 2 := hF7 80 (by decide) 2
  have w27 : dt5 80 3 = dt 80 3 := hF7 80 (by decide) 3
  have w28 : dt5 80 4 = dt 80 4 := hF7 80 (by decide) 4
  have w29 : dt5 80 5 = dt 80 5 := hF7 80 (by decide) 5
  have w30 : dt5 81 0 = dt 81 0 := hF7 81 (by decide) 0
  have w31 : dt5 81 1 = dt 81 1 := hF7 81 (by decide) 1
  have w32 : dt5 81 2 = dt 81 2 := hF7 81 (by decide) 2
  have w33 : dt5 81 3 = dt 81 3 := hF7 81 (by decide) 3
  have w34 : dt5 81 4 = dt 81 4 := hF7 81 (by decide) 4
  have w35 : dt5 81 5 = dt 81 5 := hF7 81 (by decide) 5
  have w36 : dt5 79 2 = dt 79 2 := hF7 79 (by decide) 2
  have w37 : dt5 79 12 = dt 79 12 := hF7 79 (by decide) 12
  rcases h4 with ⟨v_h4, rfl, h4r, h4⟩
  have M238 : MW (dt5 81) := MW_frk hM2 hF7 (by decide)
  refine go_toq PM267 (k := 2) (pc' := 1435) (L' := [some (.inr (.inr (some 3000))), some (.inr (.inr (some 0))), some (.inr (.inr (some 79))), some (.inl i)]) (st' := []) (w' := (SH, dt5)) rfl ?_
  exact K dt5 hI6 hM9 M238 (by first | omega | (simp only [*]; done) | simp only [*]) (by omega) (by omega) (by omega) (by omega) (by omega) (by omega) (by omega) (by omega) (by omega) (by omega) (by omega) (by omega) (by omega)
set_option maxRecDepth 20000 in
set_option maxHeartbeats 8000000 in
theorem sp_case10 (L : Nat) (xs : Nat → Int32) (sio : Option Nat) (d : Nat) (Q : Option AV → am_W → Prop) (hLL : L ≤ 3072) (i : Int) (hi : 0 ≤ i ∧ i ≤ 3066) (hil : i ≤ (L : Int) - 6) (dt : Nat → Nat → Int) (hI : InvC dt) (hM : MW (dt 80)) (hM2 : MW (dt 81)) (hk0 : dt 1 0 = dt 80 0) (hk1 : dt 7 3 = dt 80 1) (hk2 : dt 10 3 = dt 80 2) (hk3 : dt 12 3 = dt 80 3) (hk4 : dt 14 3 = dt 80 4) (hk5 : dt 16 3 = dt 80 5) (hk6 : dt 18 0 = dt 81 0) (hk7 : dt 24 3 = dt 81 1) (hk8 : dt 27 3 = dt 81 2) (hk9 : dt 29 3 = dt 81 3) (hk10 : dt 31 3 = dt 81 4) (hk11 : dt 33 3 = dt 81 5) (hk12 : dt 0 2 = dt 79 2) (hk13 : dt 35 1 = dt 79 12) (K : ∀ (dt : Nat → Nat → Int) (hI : InvC dt) (hM : MW (dt 80)) (hM2 : MW (dt 81)) (hk0 : dt 1 0 = dt 80 0) (hk1 : dt 7 3 = dt 80 1) (hk2 : dt 10 3 = dt 80 2) (hk3 : dt 12 3 = dt 80 3) (hk4 : dt 14 3 = dt 80 4) (hk5 : dt 16 3 = dt 80 5) (hk6 : dt 18 0 = dt 81 0) (hk7 : dt 24 3 = dt 81 1) (hk8 : dt 27 3 = dt 81 2) (hk9 : dt 29 3 = dt 81 3) (hk10 : dt 31 3 = dt 81 4) (hk11 : dt 33 3 = dt 81 5) (hk12 : dt 0 2 = dt 79 2) (hk13 : dt 35 1 = dt 79 12), GO (am_XX L xs sio) (d + 39) 267 1435 [some (.inr (.inr (some 3000))), some (.inr (.inr (some 0))), some (.inr (.inr (some 79))), some (.inl i)] [] (SH, dt) Q) : GO (am_XX L xs sio) (d + 39) 267 590 [some (.inr (.inr (some 3000))), some (.inr (.inr (some 0))), some (.inr (.inr (some 79))), some (.inl i)] [] (SH, dt) Q := by
  have hF : Fr [0, 1, 2, 3, 4, 5, 6, 7, 8, 9, 10, 11, 12, 13, 14, 15, 16, 17, 18, 19, 20, 21, 22, 23, 24, 25, 26, 27, 28, 29, 30, 31, 32, 33, 34, 35, 36, 37, 38, 39, 40, 41, 42, 43, 44, 45, 46, 47, 48, 49, 50, 51, 52, 53, 54, 55, 56, 57, 58, 59, 60, 61, 62, 63, 64, 65, 66, 67, 68, 69, 70, 71, 72, 73, 74, 75, 76, 77, 78, 79, 80, 81, 82, 83, 84, 85, 86, 87, 88, 89, 90, 91, 92, 93, 94, 95, 96, 97, 98, 99, 100, 101, 102, 103, 104] dt dt := Fr_refl
  refine go_toq PM267 (k := 5) (pc' := 595) (L' := [some (.inr (.inr (some 3000))), some (.inr (.inr (some 0))), some (.inr (.inr (some 79))), some (.inl i)]) (st' := [.inl (i + 1), .inr (.inr (some 3000)), .inr (.inr (some 0))]) (w' := (SH, dt)) rfl ?_
  have r1 := i32_R (xs ((i + 1).toNat))
  refine go_smpq PM267 (L' := [some (.inr (.inr (some 3000))), some (.inr (.inr (some 0))), some (.inr (.inr (some 79))), some (.inl i)]) (st' := [.inl ((xs ((i + 1).toNat)).toInt), .inr (.inr (some 0))]) (w' := (SH, dt)) rfl rfl (s_iald (n := L) (f := fun j => (xs j).toInt) (am_scr hLL) ⟨by omega, by omega⟩) ?_
  refine go_toq PM267 (k := 4) (pc' := 600) (L' := [some (.inr (.inr (some 3000))), some (.inr (.inr (some 0))), some (.inr (.inr (some 79))), some (.inl i)]) (st' := [.inl (i + 2), .inr (.inr (some 3000)), .inl ((xs ((i + 1).toNat)).toInt), .inr (.inr (some 0))]) (w' := (SH, dt)) rfl ?_
  have r2 := i32_R (xs ((i + 2).toNat))
  refine go_smpq PM267 (L' := [some (.inr (.inr (some 3000))), some (.inr (.inr (some 0))), some (.inr (.inr (some 79))), some (.inl i)]) (st' := [.inl ((xs ((i + 2).toNat)).toInt), .inl ((xs ((i + 1).toNat)).toInt), .inr (.inr (some 0))]) (w' := (SH, dt)) rfl rfl (s_iald (n := L) (f := fun j => (xs j).toInt) (am_scr hLL) ⟨by omega, by omega⟩) ?_
  refine go_toq PM267 (k := 4) (pc' := 605) (L' := [some (.inr (.inr (some 3000))), some (.inr (.inr (some 0))), some (.inr (.inr (some 79))), some (.inl i)]) (st' := [.inl (i + 3), .inr (.inr (some 3000)), .inl ((xs ((i + 2).toNat)).toInt), .inl ((xs ((i + 1).toNat)).toInt), .inr (.inr (some 0))]) (w' := (SH, dt)) rfl ?_
  have r3 := i32_R (xs ((i + 3).toNat))
  refine go_smpq PM267 (L' := [some (.inr (.inr (some 3000))), some (.inr (.inr (some 0))), some (.inr (.inr (some 79))), some (.inl i)]) (st' := [.inl ((xs ((i + 3).toNat)).toInt), .inl ((xs ((i + 2).toNat)).toInt), .inl ((xs ((i + 1).toNat)).toInt), .inr (.inr (some 0))]) (w' := (SH, dt)) rfl rfl (s_iald (n := L) (f := fun j => (xs j).toInt) (am_scr hLL) ⟨by omega, by omega⟩) ?_
  refine go_toq PM267 (k := 4) (pc' := 610) (L' := [some (.inr (.inr (some 3000))), some (.inr (.inr (some 0))), some (.inr (.inr (some 79))), some (.inl i)]) (st' := [.inl (i + 4), .inr (.inr (some 3000)), .inl ((xs ((i + 3).toNat)).toInt), .inl ((xs ((i + 2).toNat)).toInt), .inl ((xs ((i + 1).toNat)).toInt), .inr (.inr (some 0))]) (w' := (SH, dt)) rfl ?_
  have r4 := i32_R (xs ((i + 4).toNat))
  refine go_smpq PM267 (L' := [some (.inr (.inr (some 3000))), some (.inr (.inr (some 0))), some (.inr (.inr (some 79))), some (.inl i)]) (st' := [.inl ((xs ((i + 4).toNat)).toInt), .inl ((xs ((i + 3).toNat)).toInt), .inl ((xs ((i + 2).toNat)).toInt), .inl ((xs ((i + 1).toNat)).toInt), .inr (.inr (some 0))]) (w' := (SH, dt)) rfl rfl (s_iald (n := L) (f := fun j => (xs j).toInt) (am_scr hLL) ⟨by omega, by omega⟩) ?_
  refine go_callq PM267 PM77 (Q' := _) rfl rfl rfl rfl (sp_X5_child L xs sio (d + 36) dt hI  ((xs ((i + 1).toNat)).toInt) ⟨by omega, by omega⟩ ((xs ((i + 2).toNat)).toInt) ⟨by omega, by omega⟩ ((xs ((i + 3).toNat)).toInt) ⟨by omega, by omega⟩ ((xs ((i + 4).toNat)).toInt) ⟨by omega, by omega⟩ ) ?_
  rintro _ _ ⟨dt6, rfl, hI7, hF8, h5⟩
  refine ⟨rfl, ?_⟩
  have hF9 : Fr [0, 1, 2, 3, 4, 5, 6, 7, 8, 9, 10, 11, 12, 13, 14, 15, 16, 17, 18, 19, 20, 21, 22, 23, 24, 25, 26, 27, 28, 29, 30, 31, 32, 33, 34, 35, 36, 37, 38, 39, 40, 41, 42, 43, 44, 45, 46, 47, 48, 49, 50, 51, 52, 53, 54, 55, 56, 57, 58, 59, 60, 61, 62, 63, 64, 65, 66, 67, 68, 69, 70, 71, 72, 73, 74, 75, 76, 77, 78, 79, 80, 81, 82, 83, 84, 85, 86, 87, 88, 89, 90, 91, 92, 93, 94, 95, 96, 97, 98, 99, 100, 101, 102, 103, 104] dt dt6 := Fr_tr hF hF8 (by decide)
  have hM10 : MW (dt6 80) := MW_fr hM hF8 (by decide)
  have w11 : dt6 1 0 = dt 1 0 := hF8 1 (by decide) 0
  have w12 : dt6 7 3 = dt 7 3 := hF8 7 (by decide) 3
  have w13 : dt6 12 3 = dt 12 3 := hF8 12 (by decide) 3
  have w14 : dt6 14 3 = dt 14 3 := hF8 14 (by decide) 3
  have w15 : dt6 16 3 = dt 16 3 := hF8 16 (by decide) 3
  have w16 : dt6 18 0 = dt 18 0 := hF8 18 (by decide) 0
  have w17 : dt6 24 3 = dt 24 3 := hF8 24 (by decide) 3
  have w18 : dt6 27 3 = dt 27 3 := hF8 27 (by decide) 3
  have w19 : dt6 29 3 = dt 29 3 := hF8 29 (by decide) 3
  have w20 : dt6 31 3 = dt 31 3 := hF8 31 (by decide) 3
  have w21 : dt6 33 3 = dt 33 3 := hF8 33 (by decide) 3
  have w22 : dt6 0 2 = dt 0 2 := hF8 0 (by decide) 2
  have w23 : dt6 35 1 = dt 35 1 := hF8 35 (by decide) 1
  have w24 : dt6 80 0 = dt 80 0 := hF8 80 (by decide) 0
  have w25 : dt6 80 1 = dt 80 1 := hF8 80 (by decide) 1
  have w26 : dt6 80 2 = dt 80 2 := hF8 80 (by decide) 2
  have w27 : dt6 80 3 = dt 80 3 := hF8 80 (by decide) 3
  have w28 : dt6 80 4 = dt 80 4 := hF8 80 (by decide) 4
  have w29 : dt6 80 5 = dt 80 5 := hF8 80 (by decide) 5
  have w30 : dt6 81 0 = dt 81 0 := hF8 81 (by decide) 0
  have w31 : dt6 81 1 = dt 81 1 := hF8 81 (by decide) 1
  have w32 : dt6 81 2 = dt 81 2 := hF8 81 (by decide) 2
  have w33 : dt6 81 3 = dt 81 3 := hF8 81 (by decide) 3
  have w34 : dt6 81 4 = dt 81 4 := hF8 81 (by decide) 4
  have w35 : dt6 81 5 = dt 81 5 := hF8 81 (by decide) 5
  have w36 : dt6 79 2 = dt 79 2 := hF8 79 (by decide) 2
  have w37 : dt6 79 12 = dt 79 12 := hF8 79 (by decide) 12
  rcases h5 with ⟨rfl, h5⟩ | ⟨v_h5, rfl, h5r, h5⟩
  · skip
    obtain ⟨h5_0, h5_1⟩ := h5
    have M238 : MW (dt6 81) := MW_frk hM2 hF8 (by decide)
    refine go_toq PM267 (k := 6) (pc' := 620) (L' := [some (.inr (.inr (some 3000))), some (.inr (.inr (some 0))), some (.inr (.inr (some 79))), some (.inl i)]) (st' := [.inl (i + 1), .inr (.inr (some 3000)), .inr (.inr (some 79))]) (w' := (SH, dt6)) rfl ?_
    have r39 := i32_R (xs ((i + 1).toNat))
    refine go_smpq PM267 (L' := [some (.inr (.inr (some 3000))), some (.inr (.inr (some 0))), some (.inr (.inr (some 79))), some (.inl i)]) (st' := [.inl ((xs ((i + 1).toNat)).toInt), .inr (.inr (some 79))]) (w' := (SH, dt6)) rfl rfl (s_iald (n := L) (f := fun j => (xs j).toInt) (am_scr hLL) ⟨by omega, by omega⟩) ?_
    refine go_toq PM267 (k := 4) (pc' := 625) (L' := [some (.inr (.inr (some 3000))), some (.inr (.inr (some 0))), some (.inr (.inr (some 79))), some (.inl i)]) (st' := [.inl (i + 2), .inr (.inr (some 3000)), .inl ((xs ((i + 1).toNat)).toInt), .inr (.inr (some 79))]) (w' := (SH, dt6)) rfl ?_
    have r40 := i32_R (xs ((i + 2).toNat))
    refine go_smpq PM267 (L' := [some (.inr (.inr (some 3000))), some (.inr (.inr (some 0))), some (.inr (.inr (some 79))), some (.inl i)]) (st' := [.inl ((xs ((i + 2).toNat)).toInt), .inl ((xs ((i + 1).toNat)).toInt), .inr (.inr (some 79))]) (w' := (SH, dt6)) rfl rfl (s_iald (n := L) (f := fun j => (xs j).toInt) (am_scr hLL) ⟨by omega, by omega⟩) ?_
    refine go_toq PM267 (k := 4) (pc' := 630) (L' := [some (.inr (.inr (some 3000))), some (.inr (.inr (some 0))), some (.inr (.inr (some 79))), some (.inl i)]) (st' := [.inl (i + 3), .inr (.inr (some 3000)), .inl ((xs ((i + 2).toNat)).toInt), .inl ((xs ((i + 1).toNat)).toInt), .inr (.inr (some 79))]) (w' := (SH, dt6)) rfl ?_
    have r41 := i32_R (xs ((i + 3).toNat))
    refine go_smpq PM267 (L' := [some (.inr (.inr (some 3000))), some (.inr (.inr (some 0))), some (.inr (.inr (some 79))), some (.inl i)]) (st' := [.inl ((xs ((i + 3).toNat)).toInt), .inl ((xs ((i + 2).toNat)).toInt), .inl ((xs ((i + 1).toNat)).toInt), .inr (.inr (some 79))]) (w' := (SH, dt6)) rfl rfl (s_iald (n := L) (f := fun j => (xs j).toInt) (am_scr hLL) ⟨by omega, by omega⟩) ?_
    refine go_toq PM267 (k := 4) (pc' := 635) (L' := [some (.inr (.inr (some 3000))), some (.inr (.inr (some 0))), some (.inr (.inr (some 79))), some (.inl i)]) (st' := [.inl (i + 4), .inr (.inr (some 3000)), .inl ((xs ((i + 3).toNat)).toInt), .inl ((xs ((i + 2).toNat)).toInt), .inl ((xs ((i + 1).toNat)).toInt), .inr (.inr (some 79))]) (w' := (SH, dt6)) rfl ?_
    have r42 := i32_R (xs ((i + 4).toNat))
    refine go_smpq PM267 (L' := [some (.inr (.inr (some 3000))), some (.inr (.inr (some 0))), some (.inr (.inr (some 79))), some (.inl i)]) (st' := [.inl ((xs ((i + 4).toNat)).toInt), .inl ((xs ((i + 3).toNat)).toInt), .inl ((xs ((i + 2).toNat)).toInt), .inl ((xs ((i + 1).toNat)).toInt), .inr (.inr (some 79))]) (w' := (SH, dt6)) rfl rfl (s_iald (n := L) (f := fun j => (xs j).toInt) (am_scr hLL) ⟨by omega, by omega⟩) ?_
    refine go_callq PM267 PM202 (Q' := _) rfl rfl rfl rfl (sp_X6_child L xs sio (d + 36) dt6 hI7 hM10  ((xs ((i + 1).toNat)).toInt) ⟨by omega, by omega⟩ ((xs ((i + 2).toNat)).toInt) ⟨by omega, by omega⟩ ((xs ((i + 3).toNat)).toInt) ⟨by omega, by omega⟩ ((xs ((i + 4).toNat)).toInt) ⟨by omega, by omega⟩ ) ?_
    rintro _ _ ⟨dt44, rfl, hI45, hF46, h43⟩
    refine ⟨rfl, ?_⟩
    have hF47 : Fr [0, 1, 2, 3, 4, 5, 6, 7, 8, 9, 10, 11, 12, 13, 14, 15, 16, 17, 18, 19, 20, 21, 22, 23, 24, 25, 26, 27, 28, 29, 30, 31, 32, 33, 34, 35, 36, 37, 38, 39, 40, 41, 42, 43, 44, 45, 46, 47, 48, 49, 50, 51, 52, 53, 54, 55, 56, 57, 58, 59, 60, 61, 62, 63, 64, 65, 66, 67, 68, 69, 70, 71, 72, 73, 74, 75, 76, 77, 78, 79, 80, 81, 82, 83, 84, 85, 86, 87, 88, 89, 90, 91, 92, 93, 94, 95, 96, 97, 98, 99, 100, 101, 102, 103, 104] dt dt44 := Fr_tr hF9 hF46 (by decide)
    have w48 : dt44 1 0 = dt6 1 0 := hF46 1 (by decide) 0
    have w49 : dt44 7 3 = dt6 7 3 := hF46 7 (by decide) 3
    have w50 : dt44 10 3 = dt6 10 3 := hF46 10 (by decide) 3
    have w51 : dt44 12 3 = dt6 12 3 := hF46 12 (by decide) 3
    have w52 : dt44 14 3 = dt6 14 3 := hF46 14 (by decide) 3
    have w53 : dt44 16 3 = dt6 16 3 := hF46 16 (by decide) 3
    have w54 : dt44 18 0 = dt6 18 0 := hF46 18 (by decide) 0
    have w55 : dt44 24 3 = dt6 24 3 := hF46 24 (by decide) 3
    have w56 : dt44 27 3 = dt6 27 3 := hF46 27 (by decide) 3
    have w57 : dt44 29 3 = dt6 29 3 := hF46 29 (by decide) 3
    have w58 : dt44 31 3 = dt6 31 3 := hF46 31 (by decide) 3
    have w59 : dt44 33 3 = dt6 33 3 := hF46 33 (by decide) 3
    have w60 : dt44 0 2 = dt6 0 2 := hF46 0 (by decide) 2
    have w61 : dt44 35 1 = dt6 35 1 := hF46 35 (by decide) 1
    have w62 : dt44 81 0 = dt6 81 0 := hF46 81 (by decide) 0
    have w63 : dt44 81 1 = dt6 81 1 := hF46 81 (by decide) 1
    have w64 : dt44 81 2 = dt6 81 2 := hF46 81 (by decide) 2
    have w65 : dt44 81 3 = dt6 81 3 := hF46 81 (by decide) 3
    have w66 : dt44 81 4 = dt6 81 4 := hF46 81 (by decide) 4
    have w67 : dt44 81 5 = dt6 81 5 := hF46 81 (by decide) 5
    have w68 : dt44 79 2 = dt6 79 2 := hF46 79 (by decide) 2
    have w69 : dt44 79 12 = dt6 79 12 := hF46 79 (by decide) 12
    rcases h43 with ⟨rfl, h43⟩ | ⟨v_h43, rfl, h43r, h43⟩
    · skip
      have hM70 : MW (dt44 80) := h43.2.1
      obtain ⟨h43_0, h43_1, h43_2, h43_3, h43_4, h43_5, h43_6, h43_7⟩ := h43
      have M271 : MW (dt44 81) := MW_frk M238 hF46 (by decide)
      refine go_toq PM267 (k := 2) (pc' := 1435) (L' := [some (.inr (.inr (some 3000))), some (.inr (.inr (some 0))), some (.inr (.inr (some 79))), some (.inl i)]) (st' := []) (w' := (SH, dt44)) rfl ?_
      exact K dt44 hI45 hM70 M271 (by first | omega | (simp only [*]; done) | simp only [*]) (by omega) (by omega) (by omega) (by omega) (by omega) (by omega) (by omega) (by omega) (by omega) (by omega) (by omega) (by omega) (by omega)
    · skip
      have hM72 : MW (dt44 80) := h43.2.2.1
      obtain ⟨h43_0, h43_1, h43_2, h43_3, h43_4, h43_5, h43_6, h43_7, h43_8⟩ := h43
      have M273 : MW (dt44 81) := MW_frk M238 hF46 (by decide)
      refine go_toq PM267 (k := 2) (pc' := 1435) (L' := [some (.inr (.inr (some 3000))), some (.inr (.inr (some 0))), some (.inr (.inr (some 79))), some (.inl i)]) (st' := []) (w' := (SH, dt44)) rfl ?_
      exact K dt44 hI45 hM72 M273 (by first | omega | (simp only [*]; done) | simp only [*]) (by omega) (by omega) (by omega) (by omega) (by omega) (by omega) (by omega) (by omega) (by omega) (by omega) (by omega) (by omega) (by omega)
  · skip
    obtain ⟨h5_0, h5_1, h5_2⟩ := h5
    have M274 : MW (dt6 81) := MW_frk hM2 hF8 (by decide)
    refine go_toq PM267 (k := 6) (pc' := 620) (L' := [some (.inr (.inr (some 3000))), some (.inr (.inr (some 0))), some (.inr (.inr (some 79))), some (.inl i)]) (st' := [.inl (i + 1), .inr (.inr (some 3000)), .inr (.inr (some 79))]) (w' := (SH, dt6)) rfl ?_
    have r75 := i32_R (xs ((i + 1).toNat))
    refine go_smpq PM267 (L' := [some (.inr (.inr (some 3000))), some (.inr (.inr (some 0))), some (.inr (.inr (some 79))), some (.inl i)]) (st' := [.inl ((xs ((i + 1).toNat)).toInt), .inr (.inr (some 79))]) (w' := (SH, dt6)) rfl rfl (s_iald (n := L) (f := fun j => (xs j).toInt) (am_scr hLL) ⟨by omega, by omega⟩) ?_
    refine go_toq PM267 (k := 4) (pc' := 625) (L' := [some (.inr (.inr (some 3000))), some (.inr (.inr (some 0))), some (.inr (.inr (some 79))), some (.inl i)]) (st' := [.inl (i + 2), .inr (.inr (some 3000)), .inl ((xs ((i + 1).toNat)).toInt), .inr (.inr (some 79))]) (w' := (SH, dt6)) rfl ?_
    have r76 := i32_R (xs ((i + 2).toNat))
    refine go_smpq PM267 (L' := [some (.inr (.inr (some 3000))), some (.inr (.inr (some 0))), some (.inr (.inr (some 79))), some (.inl i)]) (st' := [.inl ((xs ((i + 2).toNat)).toInt), .inl ((xs ((i + 1).toNat)).toInt), .inr (.inr (some 79))]) (w' := (SH, dt6)) rfl rfl (s_iald (n := L) (f := fun j => (xs j).toInt) (am_scr hLL) ⟨by omega, by omega⟩) ?_
    refine go_toq PM267 (k := 4) (pc' := 630) (L' := [some (.inr (.inr (some 3000))), some (.inr (.inr (some 0))), some (.inr (.inr (some 79))), some (.inl i)]) (st' := [.inl (i + 3), .inr (.inr (some 3000)), .inl ((xs ((i + 2).toNat)).toInt), .inl ((xs ((i + 1).toNat)).toInt), .inr (.inr (some 79))]) (w' := (SH, dt6)) rfl ?_
    have r77 := i32_R (xs ((i + 3).toNat))
    refine go_smpq PM267 (L' := [some (.inr (.inr (some 3000))), some (.inr (.inr (some 0))), some (.inr (.inr (some 79))), some (.inl i)]) (st' := [.inl ((xs ((i + 3).toNat)).toInt), .inl ((xs ((i + 2).toNat)).toInt), .inl ((xs ((i + 1).toNat)).toInt), .inr (.inr (some 79))]) (w' := (SH, dt6)) rfl rfl (s_iald (n := L) (f := fun j => (xs j).toInt) (am_scr hLL) ⟨by omega, by omega⟩) ?_
    refine go_toq PM267 (k := 4) (pc' := 635) (L' := [some (.inr (.inr (some 3000))), some (.inr (.inr (some 0))), some (.inr (.inr (some 79))), some (.inl i)]) (st' := [.inl (i + 4), .inr (.inr (some 3000)), .inl ((xs ((i + 3).toNat)).toInt), .inl ((xs ((i + 2).toNat)).toInt), .inl ((xs ((i + 1).toNat)).toInt), .inr (.inr (some 79))]) (w' := (SH, dt6)) rfl ?_
    have r78 := i32_R (xs ((i + 4).toNat))
    refine go_smpq PM267 (L' := [some (.inr (.inr (some 3000))), some (.inr (.inr (some 0))), some (.inr (.inr (some 79))), some (.inl i)]) (st' := [.inl ((xs ((i + 4).toNat)).toInt), .inl ((xs ((i + 3).toNat)).toInt), .inl ((xs ((i + 2).toNat)).toInt), .inl ((xs ((i + 1).toNat)).toInt), .inr (.inr (some 79))]) (w' := (SH, dt6)) rfl rfl (s_iald (n := L) (f := fun j => (xs j).toInt) (am_scr hLL) ⟨by omega, by omega⟩) ?_
    refine go_callq PM267 PM202 (Q' := _) rfl rfl rfl rfl (sp_X6_child L xs sio (d + 36) dt6 hI7 hM10  ((xs ((i + 1).toNat)).toInt) ⟨by omega, by omega⟩ ((xs ((i + 2).toNat)).toInt) ⟨by omega, by omega⟩ ((xs ((i + 3).toNat)).toInt) ⟨by omega, by omega⟩ ((xs ((i + 4).toNat)).toInt) ⟨by omega, by omega⟩ ) ?_
    rintro _ _ ⟨dt80, rfl, hI81, hF82, h79⟩
    refine ⟨rfl, ?_⟩
    have hF83 : Fr [0, 1, 2, 3, 4, 5, 6, 7, 8, 9, 10, 11, 12, 13, 14, 15, 16, 17, 18, 19, 20, 21, 22, 23, 24, 25, 26, 27, 28, 29, 30, 31, 32, 33, 34, 35, 36, 37, 38, 39, 40, 41, 42, 43, 44, 45, 46, 47, 48, 49, 50, 51, 52, 53, 54, 55, 56, 57, 58, 59, 60, 61, 62, 63, 64, 65, 66, 67, 68, 69, 70, 71, 72, 73, 74, 75, 76, 77, 78, 79, 80, 81, 82, 83, 84, 85, 86, 87, 88, 89, 90, 91, 92, 93, 94, 95, 96, 97, 98, 99, 100, 101, 102, 103, 104] dt dt80 := Fr_tr hF9 hF82 (by decide)
    have w84 : dt80 1 0 = dt6 1 0 := hF82 1 (by decide) 0
    have w85 : dt80 7 3 = dt6 7 3 := hF82 7 (by decide) 3
    have w86 : dt80 10 3 = dt6 10 3 := hF82 10 (by decide) 3
    have w87 : dt80 12 3 = dt6 12 3 := hF82 12 (by decide) 3
    have w88 : dt80 14 3 = dt6 14 3 := hF82 14 (by decide) 3
    have w89 : dt80 16 3 = dt6 16 3 := hF82 16 (by decide) 3
    have w90 : dt80 18 0 = dt6 18 0 := hF82 18 (by decide) 0
    have w91 : dt80 24 3 = dt6 24 3 := hF82 24 (by decide) 3
    have w92 : dt80 27 3 = dt6 27 3 := hF82 27 (by decide) 3
    have w93 : dt80 29 3 = dt6 29 3 := hF82 29 (by decide) 3
    have w94 : dt80 31 3 = dt6 31 3 := hF82 31 (by decide) 3
    have w95 : dt80 33 3 = dt6 33 3 := hF82 33 (by decide) 3
    have w96 : dt80 0 2 = dt6 0 2 := hF82 0 (by decide) 2
    have w97 : dt80 35 1 = dt6 35 1 := hF82 35 (by decide) 1
    have w98 : dt80 81 0 = dt6 81 0 := hF82 81 (by decide) 0
    have w99 : dt80 81 1 = dt6 81 1 := hF82 81 (by decide) 1
    have w100 : dt80 81 2 = dt6 81 2 := hF82 81 (by decide) 2
    have w101 : dt80 81 3 = dt6 81 3 := hF82 81 (by decide) 3
    have w102 : dt80 81 4 = dt6 81 4 := hF82 81 (by decide) 4
    have w103 : dt80 81 5 = dt6 81 5 := hF82 81 (by decide) 5
    have w104 : dt80 79 2 = dt6 79 2 := hF82 79 (by decide) 2
    have w105 : dt80 79 12 = dt6 79 12 := hF82 79 (by decide) 12
    rcases h79 with ⟨rfl, h79⟩ | ⟨v_h79, rfl, h79r, h79⟩
    · skip
      have hM106 : MW (dt80 80) := h79.2.1
      obtain ⟨h79_0, h79_1, h79_2, h79_3, h79_4, h79_5, h79_6, h79_7⟩ := h79
      have M2107 : MW (dt80 81) := MW_frk M274 hF82 (by decide)
      refine go_toq PM267 (k := 2) (pc' := 1435) (L' := [some (.inr (.inr (some 3000))), some (.inr (.inr (some 0))), some (.inr (.inr (some 79))), some (.inl i)]) (st' := []) (w' := (SH, dt80)) rfl ?_
      exact K dt80 hI81 hM106 M2107 (by first | omega | (simp only [*]; done) | simp only [*]) (by omega) (by omega) (by omega) (by omega) (by omega) (by omega) (by omega) (by omega) (by omega) (by omega) (by omega) (by omega) (by omega)
    · skip
      have hM108 : MW (dt80 80) := h79.2.2.1
      obtain ⟨h79_0, h79_1, h79_2, h79_3, h79_4, h79_5, h79_6, h79_7, h79_8⟩ := h79
      have M2109 : MW (dt80 81) := MW_frk M274 hF82 (by decide)
      refine go_toq PM267 (k := 2) (pc' := 1435) (L' := [some (.inr (.inr (some 3000))), some (.inr (.inr (some 0))), some (.inr (.inr (some 79))), some (.inl i)]) (st' := []) (w' := (SH, dt80)) rfl ?_
      exact K dt80 hI81 hM108 M2109 (by first | omega | (simp only [*]; done) | simp only [*]) (by omega) (by omega) (by omega) (by omega) (by omega) (by omega) (by omega) (by omega) (by omega) (by omega) (by omega) (by omega) (by omega)
