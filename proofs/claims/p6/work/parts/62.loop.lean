theorem am_scr {L : Nat} {xs : Nat → Int32} {sio : Option Nat} {dt : Nat → Nat → Int} (h : L ≤ 3072) : am_arr (am_XX L xs sio) (SH, dt) 3000 = some (0, L, fun j => (xs j).toInt) := by
  have e : SH[3000]? = none := by decide +kernel
  unfold am_arr
  rw [show (SH, dt).1[3000]? = none from e]
  dsimp only [am_XX]
  rw [if_pos rfl]
  dsimp only
  have : Nat.blt L 2147483648 = true := Nat.blt_eq.mpr (by omega)
  rw [this]
  rfl
theorem s_alen {X : am_X} {L : am_L} {w : am_W} {tg : List Nat} {cv : Int} {r n ty : Nat} {f : Nat → Int} {rest : List AV} (hw : am_arr X w r = some (ty, n, f)) (h : Nat.blt ty 4 = true) : am_smp X .arraylength tg cv L (.inr (.inr (some r)) :: rest) w = some (L, .inl (n : Int) :: rest, w) := by
  simp only [am_smp, hw, h, cond_true]

set_option maxRecDepth 20000 in
set_option maxHeartbeats 8000000 in
theorem sp_case0 (L : Nat) (xs : Nat → Int32) (sio : Option Nat) (d : Nat) (Q : Option AV → am_W → Prop) (hLL : L ≤ 3072) (i : Int) (hi : 0 ≤ i ∧ i ≤ 3066) (hil : i ≤ (L : Int) - 6) (dt : Nat → Nat → Int) (hI : InvC dt) (hM : MW (dt 80)) (hM2 : MW (dt 81)) (hk0 : dt 1 0 = dt 80 0) (hk1 : dt 7 3 = dt 80 1) (hk2 : dt 10 3 = dt 80 2) (hk3 : dt 12 3 = dt 80 3) (hk4 : dt 14 3 = dt 80 4) (hk5 : dt 16 3 = dt 80 5) (hk6 : dt 18 0 = dt 81 0) (hk7 : dt 24 3 = dt 81 1) (hk8 : dt 27 3 = dt 81 2) (hk9 : dt 29 3 = dt 81 3) (hk10 : dt 31 3 = dt 81 4) (hk11 : dt 33 3 = dt 81 5) (hk12 : dt 0 2 = dt 79 2) (hk13 : dt 35 1 = dt 79 12) (hk14 : dt 35 2 = dt 79 19) (hk15 : dt 35 3 = dt 79 21) (hd0 : TPL (dt 36) (dt 85) (dt 35 1)) (K : ∀ (dt : Nat → Nat → Int) (hI : InvC dt) (hM : MW (dt 80)) (hM2 : MW (dt 81)) (hk0 : dt 1 0 = dt 80 0) (hk1 : dt 7 3 = dt 80 1) (hk2 : dt 10 3 = dt 80 2) (hk3 : dt 12 3 = dt 80 3) (hk4 : dt 14 3 = dt 80 4) (hk5 : dt 16 3 = dt 80 5) (hk6 : dt 18 0 = dt 81 0) (hk7 : dt 24 3 = dt 81 1) (hk8 : dt 27 3 = dt 81 2) (hk9 : dt 29 3 = dt 81 3) (hk10 : dt 31 3 = dt 81 4) (hk11 : dt 33 3 = dt 81 5) (hk12 : dt 0 2 = dt 79 2) (hk13 : dt 35 1 = dt 79 12) (hk14 : dt 35 2 = dt 79 19) (hk15 : dt 35 3 = dt 79 21) (hd0 : TPL (dt 36) (dt 85) (dt 35 1)), GO (am_XX L xs sio) (d + 39) 267 1435 [some (.inr (.inr (some 3000))), some (.inr (.inr (some 0))), some (.inr (.inr (some 79))), some (.inl i)] [] (SH, dt) Q) : GO (am_XX L xs sio) (d + 39) 267 180 [some (.inr (.inr (some 3000))), some (.inr (.inr (some 0))), some (.inr (.inr (some 79))), some (.inl i)] [] (SH, dt) Q := by
  have hF : Fr [0, 1, 2, 3, 4, 5, 6, 7, 8, 9, 10, 11, 12, 13, 14, 15, 16, 17, 18, 19, 20, 21, 22, 23, 24, 25, 26, 27, 28, 29, 30, 31, 32, 33, 34, 35, 36, 37, 38, 39, 40, 41, 42, 43, 44, 45, 46, 47, 48, 49, 50, 51, 52, 53, 54, 55, 56, 57, 58, 59, 60, 61, 62, 63, 64, 65, 66, 67, 68, 69, 70, 71, 72, 73, 74, 75, 76, 77, 78, 79, 80, 81, 82, 83, 84, 85, 86, 87, 88, 89, 90, 91, 92, 93, 94, 95, 96, 97, 98, 99, 100, 101, 102, 103, 104] dt dt := Fr_refl
  refine go_to (k := 5) (pc' := 185) (L' := [some (.inr (.inr (some 3000))), some (.inr (.inr (some 0))), some (.inr (.inr (some 79))), some (.inl i)]) (st' := [.inl (i + 1), .inr (.inr (some 3000)), .inr (.inr (some 0))]) (w' := (SH, dt)) (fun _ => rfl) ?_
  have r1 := i32_R (xs ((i + 1).toNat))
  refine go_smp (L' := [some (.inr (.inr (some 3000))), some (.inr (.inr (some 0))), some (.inr (.inr (some 79))), some (.inl i)]) (st' := [.inl ((xs ((i + 1).toNat)).toInt), .inr (.inr (some 0))]) (w' := (SH, dt)) rfl rfl (s_iald (n := L) (f := fun j => (xs j).toInt) (am_scr hLL) ⟨by omega, by omega⟩) ?_
  refine go_call (Q' := _) rfl rfl rfl rfl rfl (sp_X5_state L xs sio (d + 38) dt hI  ((xs ((i + 1).toNat)).toInt) ⟨by omega, by omega⟩ ) ?_
  rintro _ _ ⟨dt3, rfl, hI4, hF5, h2⟩
  refine ⟨rfl, ?_⟩
  have hF6 : Fr [0, 1, 2, 3, 4, 5, 6, 7, 8, 9, 10, 11, 12, 13, 14, 15, 16, 17, 18, 19, 20, 21, 22, 23, 24, 25, 26, 27, 28, 29, 30, 31, 32, 33, 34, 35, 36, 37, 38, 39, 40, 41, 42, 43, 44, 45, 46, 47, 48, 49, 50, 51, 52, 53, 54, 55, 56, 57, 58, 59, 60, 61, 62, 63, 64, 65, 66, 67, 68, 69, 70, 71, 72, 73, 74, 75, 76, 77, 78, 79, 80, 81, 82, 83, 84, 85, 86, 87, 88, 89, 90, 91, 92, 93, 94, 95, 96, 97, 98, 99, 100, 101, 102, 103, 104] dt dt3 := Fr_tr hF hF5 (by decide)
  have hM7 : MW (dt3 80) := MW_fr hM hF5 (by decide)
  have w8 : dt3 7 3 = dt 7 3 := hF5 7 (by decide) 3
  have w9 : dt3 10 3 = dt 10 3 := hF5 10 (by decide) 3
  have w10 : dt3 12 3 = dt 12 3 := hF5 12 (by decide) 3
  have w11 : dt3 14 3 = dt 14 3 := hF5 14 (by decide) 3
  have w12 : dt3 16 3 = dt 16 3 := hF5 16 (by decide) 3
  have w13 : dt3 18 0 = dt 18 0 := hF5 18 (by decide) 0
  have w14 : dt3 24 3 = dt 24 3 := hF5 24 (by decide) 3
  have w15 : dt3 27 3 = dt 27 3 := hF5 27 (by decide) 3
  have w16 : dt3 29 3 = dt 29 3 := hF5 29 (by decide) 3
  have w17 : dt3 31 3 = dt 31 3 := hF5 31 (by decide) 3
  have w18 : dt3 33 3 = dt 33 3 := hF5 33 (by decide) 3
  have w19 : dt3 0 2 = dt 0 2 := hF5 0 (by decide) 2
  have w20 : dt3 35 1 = dt 35 1 := hF5 35 (by decide) 1
  have w21 : dt3 35 2 = dt 35 2 := hF5 35 (by decide) 2
  have w22 : dt3 35 3 = dt 35 3 := hF5 35 (by decide) 3
  have w23 : dt3 80 0 = dt 80 0 := hF5 80 (by decide) 0
  have w24 : dt3 80 1 = dt 80 1 := hF5 80 (by decide) 1
  have w25 : dt3 80 2 = dt 80 2 := hF5 80 (by decide) 2
  have w26 : dt3 80 3 = dt 80 3 := hF5 80 (by decide) 3
  have w27 : dt3 80 4 = dt 80 4 := hF5 80 (by decide) 4
  have w28 : dt3 80 5 = dt 80 5 := hF5 80 (by decide) 5
  have w29 : dt3 81 0 = dt 81 0 := hF5 81 (by decide) 0
  have w30 : dt3 81 1 = dt 81 1 := hF5 81 (by decide) 1
  have w31 : dt3 81 2 = dt 81 2 := hF5 81 (by decide) 2
  have w32 : dt3 81 3 = dt 81 3 := hF5 81 (by decide) 3
  have w33 : dt3 81 4 = dt 81 4 := hF5 81 (by decide) 4
  have w34 : dt3 81 5 = dt 81 5 := hF5 81 (by decide) 5
  have w35 : dt3 79 2 = dt 79 2 := hF5 79 (by decide) 2
  have w36 : dt3 79 12 = dt 79 12 := hF5 79 (by decide) 12
  have w37 : dt3 79 19 = dt 79 19 := hF5 79 (by decide) 19
  have w38 : dt3 79 21 = dt 79 21 := hF5 79 (by decide) 21
  rcases h2 with ⟨rfl, h2⟩
  have M239 : MW (dt3 81) := MW_frk hM2 hF5 (by decide)
  have C40 : ∀ j : Nat, dt3 36 j = dt 36 j := fun j => (hF5 36 (by decide) j).trans ((fun _ => rfl) j)
  have C41 : ∀ j : Nat, dt3 85 j = dt 85 j := fun j => (hF5 85 (by decide) j).trans ((fun _ => rfl) j)
  refine go_to (k := 6) (pc' := 195) (L' := [some (.inr (.inr (some 3000))), some (.inr (.inr (some 0))), some (.inr (.inr (some 79))), some (.inl i)]) (st' := [.inl (i + 1), .inr (.inr (some 3000)), .inr (.inr (some 79))]) (w' := (SH, dt3)) (fun _ => rfl) ?_
  have r42 := i32_R (xs ((i + 1).toNat))
  refine go_smp (L' := [some (.inr (.inr (some 3000))), some (.inr (.inr (some 0))), some (.inr (.inr (some 79))), some (.inl i)]) (st' := [.inl ((xs ((i + 1).toNat)).toInt), .inr (.inr (some 79))]) (w' := (SH, dt3)) rfl rfl (s_iald (n := L) (f := fun j => (xs j).toInt) (am_scr hLL) ⟨by omega, by omega⟩) ?_
  refine go_call (Q' := _) rfl rfl rfl rfl rfl (sp_X6_state L xs sio (d + 38) dt3 hI4 hM7  ((xs ((i + 1).toNat)).toInt) ⟨by omega, by omega⟩ ) ?_
  rintro _ _ ⟨dt44, rfl, hI45, hF46, h43⟩
  refine ⟨rfl, ?_⟩
  have hF47 : Fr [0, 1, 2, 3, 4, 5, 6, 7, 8, 9, 10, 11, 12, 13, 14, 15, 16, 17, 18, 19, 20, 21, 22, 23, 24, 25, 26, 27, 28, 29, 30, 31, 32, 33, 34, 35, 36, 37, 38, 39, 40, 41, 42, 43, 44, 45, 46, 47, 48, 49, 50, 51, 52, 53, 54, 55, 56, 57, 58, 59, 60, 61, 62, 63, 64, 65, 66, 67, 68, 69, 70, 71, 72, 73, 74, 75, 76, 77, 78, 79, 80, 81, 82, 83, 84, 85, 86, 87, 88, 89, 90, 91, 92, 93, 94, 95, 96, 97, 98, 99, 100, 101, 102, 103, 104] dt dt44 := Fr_tr hF6 hF46 (by decide)
  have w48 : dt44 1 0 = dt3 1 0 := hF46 1 (by decide) 0
  have w49 : dt44 7 3 = dt3 7 3 := hF46 7 (by decide) 3
  have w50 : dt44 10 3 = dt3 10 3 := hF46 10 (by decide) 3
  have w51 : dt44 12 3 = dt3 12 3 := hF46 12 (by decide) 3
  have w52 : dt44 14 3 = dt3 14 3 := hF46 14 (by decide) 3
  have w53 : dt44 16 3 = dt3 16 3 := hF46 16 (by decide) 3
  have w54 : dt44 18 0 = dt3 18 0 := hF46 18 (by decide) 0
  have w55 : dt44 24 3 = dt3 24 3 := hF46 24 (by decide) 3
  have w56 : dt44 27 3 = dt3 27 3 := hF46 27 (by decide) 3
  have w57 : dt44 29 3 = dt3 29 3 := hF46 29 (by decide) 3
  have w58 : dt44 31 3 = dt3 31 3 := hF46 31 (by decide) 3
  have w59 : dt44 33 3 = dt3 33 3 := hF46 33 (by decide) 3
  have w60 : dt44 0 2 = dt3 0 2 := hF46 0 (by decide) 2
  have w61 : dt44 35 1 = dt3 35 1 := hF46 35 (by decide) 1
  have w62 : dt44 35 2 = dt3 35 2 := hF46 35 (by decide) 2
  have w63 : dt44 35 3 = dt3 35 3 := hF46 35 (by decide) 3
  have w64 : dt44 81 0 = dt3 81 0 := hF46 81 (by decide) 0
  have w65 : dt44 81 1 = dt3 81 1 := hF46 81 (by decide) 1
  have w66 : dt44 81 2 = dt3 81 2 := hF46 81 (by decide) 2
  have w67 : dt44 81 3 = dt3 81 3 := hF46 81 (by decide) 3
  have w68 : dt44 81 4 = dt3 81 4 := hF46 81 (by decide) 4
  have w69 : dt44 81 5 = dt3 81 5 := hF46 81 (by decide) 5
  have w70 : dt44 79 2 = dt3 79 2 := hF46 79 (by decide) 2
  have w71 : dt44 79 12 = dt3 79 12 := hF46 79 (by decide) 12
  have w72 : dt44 79 19 = dt3 79 19 := hF46 79 (by decide) 19
  have w73 : dt44 79 21 = dt3 79 21 := hF46 79 (by decide) 21
  rcases h43 with ⟨rfl, h43⟩
  have hM74 : MW (dt44 80) := h43.2.1
  obtain ⟨h43_0, h43_1, h43_2, h43_3, h43_4, h43_5, h43_6⟩ := h43
  have M275 : MW (dt44 81) := MW_frk M239 hF46 (by decide)
  have C76 : ∀ j : Nat, dt44 36 j = dt 36 j := fun j => (hF46 36 (by decide) j).trans (C40 j)
  have C77 : ∀ j : Nat, dt44 85 j = dt 85 j := fun j => (hF46 85 (by decide) j).trans (C41 j)
  refine go_to (k := 2) (pc' := 1435) (L' := [some (.inr (.inr (some 3000))), some (.inr (.inr (some 0))), some (.inr (.inr (some 79))), some (.inl i)]) (st' := []) (w' := (SH, dt44)) (fun _ => rfl) ?_
  exact K dt44 hI45 hM74 M275 (by first | omega | (simp only [*]; done) | simp only [*]) (by omega) (by omega) (by omega) (by omega) (by omega) (by omega) (by omega) (by omega) (by omega) (by omega) (by omega) (by omega) (by omega) (by omega) (by omega) (by first | exact hI | exact TPL_k hd0 C76 C77 (by omega) | (exfalso; omega))
set_option maxRecDepth 20000 in
set_option maxHeartbeats 8000000 in
theorem sp_case1 (L : Nat) (xs : Nat → Int32) (sio : Option Nat) (d : Nat) (Q : Option AV → am_W → Prop) (hLL : L ≤ 3072) (i : Int) (hi : 0 ≤ i ∧ i ≤ 3066) (hil : i ≤ (L : Int) - 6) (dt : Nat → Nat → Int) (hI : InvC dt) (hM : MW (dt 80)) (hM2 : MW (dt 81)) (hk0 : dt 1 0 = dt 80 0) (hk1 : dt 7 3 = dt 80 1) (hk2 : dt 10 3 = dt 80 2) (hk3 : dt 12 3 = dt 80 3) (hk4 : dt 14 3 = dt 80 4) (hk5 : dt 16 3 = dt 80 5) (hk6 : dt 18 0 = dt 81 0) (hk7 : dt 24 3 = dt 81 1) (hk8 : dt 27 3 = dt 81 2) (hk9 : dt 29 3 = dt 81 3) (hk10 : dt 31 3 = dt 81 4) (hk11 : dt 33 3 = dt 81 5) (hk12 : dt 0 2 = dt 79 2) (hk13 : dt 35 1 = dt 79 12) (hk14 : dt 35 2 = dt 79 19) (hk15 : dt 35 3 = dt 79 21) (hd0 : TPL (dt 36) (dt 85) (dt 35 1)) (K : ∀ (dt : Nat → Nat → Int) (hI : InvC dt) (hM : MW (dt 80)) (hM2 : MW (dt 81)) (hk0 : dt 1 0 = dt 80 0) (hk1 : dt 7 3 = dt 80 1) (hk2 : dt 10 3 = dt 80 2) (hk3 : dt 12 3 = dt 80 3) (hk4 : dt 14 3 = dt 80 4) (hk5 : dt 16 3 = dt 80 5) (hk6 : dt 18 0 = dt 81 0) (hk7 : dt 24 3 = dt 81 1) (hk8 : dt 27 3 = dt 81 2) (hk9 : dt 29 3 = dt 81 3) (hk10 : dt 31 3 = dt 81 4) (hk11 : dt 33 3 = dt 81 5) (hk12 : dt 0 2 = dt 79 2) (hk13 : dt 35 1 = dt 79 12) (hk14 : dt 35 2 = dt 79 19) (hk15 : dt 35 3 = dt 79 21) (hd0 : TPL (dt 36) (dt 85) (dt 35 1)), GO (am_XX L xs sio) (d + 39) 267 1435 [some (.inr (.inr (some 3000))), some (.inr (.inr (some 0))), some (.inr (.inr (some 79))), some (.inl i)] [] (SH, dt) Q) : GO (am_XX L xs sio) (d + 39) 267 203 [some (.inr (.inr (some 3000))), some (.inr (.inr (some 0))), some (.inr (.inr (some 79))), some (.inl i)] [] (SH, dt) Q := by
  have hF : Fr [0, 1, 2, 3, 4, 5, 6, 7, 8, 9, 10, 11, 12, 13, 14, 15, 16, 17, 18, 19, 20, 21, 22, 23, 24, 25, 26, 27, 28, 29, 30, 31, 32, 33, 34, 35, 36, 37, 38, 39, 40, 41, 42, 43, 44, 45, 46, 47, 48, 49, 50, 51, 52, 53, 54, 55, 56, 57, 58, 59, 60, 61, 62, 63, 64, 65, 66, 67, 68, 69, 70, 71, 72, 73, 74, 75, 76, 77, 78, 79, 80, 81, 82, 83, 84, 85, 86, 87, 88, 89, 90, 91, 92, 93, 94, 95, 96, 97, 98, 99, 100, 101, 102, 103, 104] dt dt := Fr_refl
  refine go_to (k := 5) (pc' := 208) (L' := [some (.inr (.inr (some 3000))), some (.inr (.inr (some 0))), some (.inr (.inr (some 79))), some (.inl i)]) (st' := [.inl (i + 1), .inr (.inr (some 3000)), .inr (.inr (some 0))]) (w' := (SH, dt)) (fun _ => rfl) ?_
  have r1 := i32_R (xs ((i + 1).toNat))
  refine go_smp (L' := [some (.inr (.inr (some 3000))), some (.inr (.inr (some 0))), some (.inr (.inr (some 79))), some (.inl i)]) (st' := [.inl ((xs ((i + 1).toNat)).toInt), .inr (.inr (some 0))]) (w' := (SH, dt)) rfl rfl (s_iald (n := L) (f := fun j => (xs j).toInt) (am_scr hLL) ⟨by omega, by omega⟩) ?_
  refine go_to (k := 4) (pc' := 213) (L' := [some (.inr (.inr (some 3000))), some (.inr (.inr (some 0))), some (.inr (.inr (some 79))), some (.inl i)]) (st' := [.inl (i + 2), .inr (.inr (some 3000)), .inl ((xs ((i + 1).toNat)).toInt), .inr (.inr (some 0))]) (w' := (SH, dt)) (fun _ => rfl) ?_
  have r2 := i32_R (xs ((i + 2).toNat))
  refine go_smp (L' := [some (.inr (.inr (some 3000))), some (.inr (.inr (some 0))), some (.inr (.inr (some 79))), some (.inl i)]) (st' := [.inl ((xs ((i + 2).toNat)).toInt), .inl ((xs ((i + 1).toNat)).toInt), .inr (.inr (some 0))]) (w' := (SH, dt)) rfl rfl (s_iald (n := L) (f := fun j => (xs j).toInt) (am_scr hLL) ⟨by omega, by omega⟩) ?_
  refine go_to (k := 4) (pc' := 218) (L' := [some (.inr (.inr (some 3000))), some (.inr (.inr (some 0))), some (.inr (.inr (some 79))), some (.inl i)]) (st' := [.inl (i + 3), .inr (.inr (some 3000)), .inl ((xs ((i + 2).toNat)).toInt), .inl ((xs ((i + 1).toNat)).toInt), .inr (.inr (some 0))]) (w' := (SH, dt)) (fun _ => rfl) ?_
  have r3 := i32_R (xs ((i + 3).toNat))
  refine go_smp (L' := [some (.inr (.inr (some 3000))), some (.inr (.inr (some 0))), some (.inr (.inr (some 79))), some (.inl i)]) (st' := [.inl ((xs ((i + 3).toNat)).toInt), .inl ((xs ((i + 2).toNat)).toInt), .inl ((xs ((i + 1).toNat)).toInt), .inr (.inr (some 0))]) (w' := (SH, dt)) rfl rfl (s_iald (n := L) (f := fun j => (xs j).toInt) (am_scr hLL) ⟨by omega, by omega⟩) ?_
  refine go_to (k := 4) (pc' := 223) (L' := [some (.inr (.inr (some 3000))), some (.inr (.inr (some 0))), some (.inr (.inr (some 79))), some (.inl i)]) (st' := [.inl (i + 4), .inr (.inr (some 3000)), .inl ((xs ((i + 3).toNat)).toInt), .inl ((xs ((i + 2).toNat)).toInt), .inl ((xs ((i + 1).toNat)).toInt), .inr (.inr (some 0))]) (w' := (SH, dt)) (fun _ => rfl) ?_
  have r4 := i32_R (xs ((i + 4).toNat))
  refine go_smp (L' := [some (.inr (.inr (some 3000))), some (.inr (.inr (some 0))), some (.inr (.inr (some 79))), some (.inl i)]) (st' := [.inl ((xs ((i + 4).toNat)).toInt), .inl ((xs ((i + 3).toNat)).toInt), .inl ((xs ((i + 2).toNat)).toInt), .inl ((xs ((i + 1).toNat)).toInt), .inr (.inr (some 0))]) (w' := (SH, dt)) rfl rfl (s_iald (n := L) (f := fun j => (xs j).toInt) (am_scr hLL) ⟨by omega, by omega⟩) ?_
  refine go_to (k := 4) (pc' := 228) (L' := [some (.inr (.inr (some 3000))), some (.inr (.inr (some 0))), some (.inr (.inr (some 79))), some (.inl i)]) (st' := [.inl (i + 5), .inr (.inr (some 3000)), .inl ((xs ((i + 4).toNat)).toInt), .inl ((xs ((i + 3).toNat)).toInt), .inl ((xs ((i + 2).toNat)).toInt), .inl ((xs ((i + 1).toNat)).toInt), .inr (.inr (some 0))]) (w' := (SH, dt)) (fun _ => rfl) ?_
  have r5 := i32_R (xs ((i + 5).toNat))
  refine go_smp (L' := [some (.inr (.inr (some 3000))), some (.inr (.inr (some 0))), some (.inr (.inr (some 79))), some (.inl i)]) (st' := [.inl ((xs ((i + 5).toNat)).toInt), .inl ((xs ((i + 4).toNat)).toInt), .inl ((xs ((i + 3).toNat)).toInt), .inl ((xs ((i + 2).toNat)).toInt), .inl ((xs ((i + 1).toNat)).toInt), .inr (.inr (some 0))]) (w' := (SH, dt)) rfl rfl (s_iald (n := L) (f := fun j => (xs j).toInt) (am_scr hLL) ⟨by omega, by omega⟩) ?_
  refine go_call (Q' := _) rfl rfl rfl rfl rfl (sp_X5_feed_f L xs sio (d + 37) dt hI  ((xs ((i + 1).toNat)).toInt) ⟨by omega, by omega⟩ ((xs ((i + 2).toNat)).toInt) ⟨by omega, by omega⟩ ((xs ((i + 3).toNat)).toInt) ⟨by omega, by omega⟩ ((xs ((i + 4).toNat)).toInt) ⟨by omega, by omega⟩ ((xs ((i + 5).toNat)).toInt) ⟨by omega, by omega⟩ ) ?_
  rintro _ _ ⟨dt7, rfl, hI8, hF9, h6⟩
  refine ⟨rfl, ?_⟩
  have hF10 : Fr [0, 1, 2, 3, 4, 5, 6, 7, 8, 9, 10, 11, 12, 13, 14, 15, 16, 17, 18, 19, 20, 21, 22, 23, 24, 25, 26, 27, 28, 29, 30, 31, 32, 33, 34, 35, 36, 37, 38, 39, 40, 41, 42, 43, 44, 45, 46, 47, 48, 49, 50, 51, 52, 53, 54, 55, 56, 57, 58, 59, 60, 61, 62, 63, 64, 65, 66, 67, 68, 69, 70, 71, 72, 73, 74, 75, 76, 77, 78, 79, 80, 81, 82, 83, 84, 85, 86, 87, 88, 89, 90, 91, 92, 93, 94, 95, 96, 97, 98, 99, 100, 101, 102, 103, 104] dt dt7 := Fr_tr hF hF9 (by decide)
  have hM11 : MW (dt7 80) := MW_fr hM hF9 (by decide)
  have w12 : dt7 1 0 = dt 1 0 := hF9 1 (by decide) 0
  have w13 : dt7 7 3 = dt 7 3 := hF9 7 (by decide) 3
  have w14 : dt7 10 3 = dt 10 3 := hF9 10 (by decide) 3
  have w15 : dt7 12 3 = dt 12 3 := hF9 12 (by decide) 3
  have w16 : dt7 14 3 = dt 14 3 := hF9 14 (by decide) 3
  have w17 : dt7 16 3 = dt 16 3 := hF9 16 (by decide) 3
  have w18 : dt7 18 0 = dt 18 0 := hF9 18 (by decide) 0
  have w19 : dt7 24 3 = dt 24 3 := hF9 24 (by decide) 3
  have w20 : dt7 27 3 = dt 27 3 := hF9 27 (by decide) 3
  have w21 : dt7 29 3 = dt 29 3 := hF9 29 (by decide) 3
  have w22 : dt7 31 3 = dt 31 3 := hF9 31 (by decide) 3
  have w23 : dt7 33 3 = dt 33 3 := hF9 33 (by decide) 3
  have w24 : dt7 0 2 = dt 0 2 := hF9 0 (by decide) 2
  have w25 : dt7 80 0 = dt 80 0 := hF9 80 (by decide) 0
  have w26 : dt7 80 1 = dt 80 1 := hF9 80 (by decide) 1
  have w27 : dt7 80 2 = dt 80 2 := hF9 80 (by decide) 2
  have w28 : dt7 80 3 = dt 80 3 := hF9 80 (by decide) 3
  have w29 : dt7 80 4 = dt 80 4 := hF9 80 (by decide) 4
  have w30 : dt7 80 5 = dt 80 5 := hF9 80 (by decide) 5
  have w31 : dt7 81 0 = dt 81 0 := hF9 81 (by decide) 0
  have w32 : dt7 81 1 = dt 81 1 := hF9 81 (by decide) 1
  have w33 : dt7 81 2 = dt 81 2 := hF9 81 (by decide) 2
  have w34 : dt7 81 3 = dt 81 3 := hF9 81 (by decide) 3
  have w35 : dt7 81 4 = dt 81 4 := hF9 81 (by decide) 4
  have w36 : dt7 81 5 = dt 81 5 := hF9 81 (by decide) 5
  have w37 : dt7 79 2 = dt 79 2 := hF9 79 (by decide) 2
  have w38 : dt7 79 12 = dt 79 12 := hF9 79 (by decide) 12
  have w39 : dt7 79 19 = dt 79 19 := hF9 79 (by decide) 19
  have w40 : dt7 79 21 = dt 79 21 := hF9 79 (by decide) 21
  rcases h6 with ⟨rfl, h6⟩ | ⟨v_h6, rfl, h6r, h6⟩
  · skip
    obtain ⟨h6_0, h6_1, h6_2, h6_3, h6_4⟩ := h6
    have M241 : MW (dt7 81) := MW_frk hM2 hF9 (by decide)
    have C42 : ∀ j : Nat, dt7 36 j = dt 36 j := fun j => (h6_2 j).trans ((fun _ => rfl) j)
    have C43 : ∀ j : Nat, dt7 85 j = dt 85 j := fun j => (hF9 85 (by decide) j).trans ((fun _ => rfl) j)
    refine go_to (k := 6) (pc' := 238) (L' := [some (.inr (.inr (some 3000))), some (.inr (.inr (some 0))), some (.inr (.inr (some 79))), some (.inl i)]) (st' := [.inl (i + 1), .inr (.inr (some 3000)), .inr (.inr (some 79))]) (w' := (SH, dt7)) (fun _ => rfl) ?_
    have r44 := i32_R (xs ((i + 1).toNat))
    refine go_smp (L' := [some (.inr (.inr (some 3000))), some (.inr (.inr (some 0))), some (.inr (.inr (some 79))), some (.inl i)]) (st' := [.inl ((xs ((i + 1).toNat)).toInt), .inr (.inr (some 79))]) (w' := (SH, dt7)) rfl rfl (s_iald (n := L) (f := fun j => (xs j).toInt) (am_scr hLL) ⟨by omega, by omega⟩) ?_
    refine go_to (k := 4) (pc' := 243) (L' := [some (.inr (.inr (some 3000))), some (.inr (.inr (some 0))), some (.inr (.inr (some 79))), some (.inl i)]) (st' := [.inl (i + 2), .inr (.inr (some 3000)), .inl ((xs ((i + 1).toNat)).toInt), .inr (.inr (some 79))]) (w' := (SH, dt7)) (fun _ => rfl) ?_
    have r45 := i32_R (xs ((i + 2).toNat))
    refine go_smp (L' := [some (.inr (.inr (some 3000))), some (.inr (.inr (some 0))), some (.inr (.inr (some 79))), some (.inl i)]) (st' := [.inl ((xs ((i + 2).toNat)).toInt), .inl ((xs ((i + 1).toNat)).toInt), .inr (.inr (some 79))]) (w' := (SH, dt7)) rfl rfl (s_iald (n := L) (f := fun j => (xs j).toInt) (am_scr hLL) ⟨by omega, by omega⟩) ?_
    refine go_to (k := 4) (pc' := 248) (L' := [some (.inr (.inr (some 3000))), some (.inr (.inr (some 0))), some (.inr (.inr (some 79))), some (.inl i)]) (st' := [.inl (i + 3), .inr (.inr (some 3000)), .inl ((xs ((i + 2).toNat)).toInt), .inl ((xs ((i + 1).toNat)).toInt), .inr (.inr (some 79))]) (w' := (SH, dt7)) (fun _ => rfl) ?_
    have r46 := i32_R (xs ((i + 3).toNat))
    refine go_smp (L' := [some (.inr (.inr (some 3000))), some (.inr (.inr (some 0))), some (.inr (.inr (some 79))), some (.inl i)]) (st' := [.inl ((xs ((i + 3).toNat)).toInt), .inl ((xs ((i + 2).toNat)).toInt), .inl ((xs ((i + 1).toNat)).toInt), .inr (.inr (some 79))]) (w' := (SH, dt7)) rfl rfl (s_iald (n := L) (f := fun j => (xs j).toInt) (am_scr hLL) ⟨by omega, by omega⟩) ?_
    refine go_to (k := 4) (pc' := 253) (L' := [some (.inr (.inr (some 3000))), some (.inr (.inr (some 0))), some (.inr (.inr (some 79))), some (.inl i)]) (st' := [.inl (i + 4), .inr (.inr (some 3000)), .inl ((xs ((i + 3).toNat)).toInt), .inl ((xs ((i + 2).toNat)).toInt), .inl ((xs ((i + 1).toNat)).toInt), .inr (.inr (some 79))]) (w' := (SH, dt7)) (fun _ => rfl) ?_
    have r47 := i32_R (xs ((i + 4).toNat))
    refine go_smp (L' := [some (.inr (.inr (some 3000))), some (.inr (.inr (some 0))), some (.inr (.inr (some 79))), some (.inl i)]) (st' := [.inl ((xs ((i + 4).toNat)).toInt), .inl ((xs ((i + 3).toNat)).toInt), .inl ((xs ((i + 2).toNat)).toInt), .inl ((xs ((i + 1).toNat)).toInt), .inr (.inr (some 79))]) (w' := (SH, dt7)) rfl rfl (s_iald (n := L) (f := fun j => (xs j).toInt) (am_scr hLL) ⟨by omega, by omega⟩) ?_
    refine go_to (k := 4) (pc' := 258) (L' := [some (.inr (.inr (some 3000))), some (.inr (.inr (some 0))), some (.inr (.inr (some 79))), some (.inl i)]) (st' := [.inl (i + 5), .inr (.inr (some 3000)), .inl ((xs ((i + 4).toNat)).toInt), .inl ((xs ((i + 3).toNat)).toInt), .inl ((xs ((i + 2).toNat)).toInt), .inl ((xs ((i + 1).toNat)).toInt), .inr (.inr (some 79))]) (w' := (SH, dt7)) (fun _ => rfl) ?_
    have r48 := i32_R (xs ((i + 5).toNat))
    refine go_smp (L' := [some (.inr (.inr (some 3000))), some (.inr (.inr (some 0))), some (.inr (.inr (some 79))), some (.inl i)]) (st' := [.inl ((xs ((i + 5).toNat)).toInt), .inl ((xs ((i + 4).toNat)).toInt), .inl ((xs ((i + 3).toNat)).toInt), .inl ((xs ((i + 2).toNat)).toInt), .inl ((xs ((i + 1).toNat)).toInt), .inr (.inr (some 79))]) (w' := (SH, dt7)) rfl rfl (s_iald (n := L) (f := fun j => (xs j).toInt) (am_scr hLL) ⟨by omega, by omega⟩) ?_
    refine go_call (Q' := _) rfl rfl rfl rfl rfl (sp_X6_feed_f L xs sio (d + 38) dt7 hI8  ((xs ((i + 1).toNat)).toInt) ⟨by omega, by omega⟩ ((xs ((i + 2).toNat)).toInt) ⟨by omega, by omega⟩ ((xs ((i + 3).toNat)).toInt) ⟨by omega, by omega⟩ ((xs ((i + 4).toNat)).toInt) ⟨by omega, by omega⟩ ((xs ((i + 5).toNat)).toInt) ⟨by omega, by omega⟩ ) ?_
    rintro _ _ ⟨dt50, rfl, hI51, hF52, h49⟩
    refine ⟨rfl, ?_⟩
    have hF53 : Fr [0, 1, 2, 3, 4, 5, 6, 7, 8, 9, 10, 11, 12, 13, 14, 15, 16, 17, 18, 19, 20, 21, 22, 23, 24, 25, 26, 27, 28, 29, 30, 31, 32, 33, 34, 35, 36, 37, 38, 39, 40, 41, 42, 43, 44, 45, 46, 47, 48, 49, 50, 51, 52, 53, 54, 55, 56, 57, 58, 59, 60, 61, 62, 63, 64, 65, 66, 67, 68, 69, 70, 71, 72, 73, 74, 75, 76, 77, 78, 79, 80, 81, 82, 83, 84, 85, 86, 87, 88, 89, 90, 91, 92, 93, 94, 95, 96, 97, 98, 99, 100, 101, 102, 103, 104] dt dt50 := Fr_tr hF10 hF52 (by decide)
    have hM54 : MW (dt50 80) := MW_fr hM11 hF52 (by decide)
    have w55 : dt50 1 0 = dt7 1 0 := hF52 1 (by decide) 0
    have w56 : dt50 7 3 = dt7 7 3 := hF52 7 (by decide) 3
    have w57 : dt50 10 3 = dt7 10 3 := hF52 10 (by decide) 3
    have w58 : dt50 12 3 = dt7 12 3 := hF52 12 (by decide) 3
    have w59 : dt50 14 3 = dt7 14 3 := hF52 14 (by decide) 3
    have w60 : dt50 16 3 = dt7 16 3 := hF52 16 (by decide) 3
    have w61 : dt50 18 0 = dt7 18 0 := hF52 18 (by decide) 0
    have w62 : dt50 24 3 = dt7 24 3 := hF52 24 (by decide) 3
    have w63 : dt50 27 3 = dt7 27 3 := hF52 27 (by decide) 3
    have w64 : dt50 29 3 = dt7 29 3 := hF52 29 (by decide) 3
    have w65 : dt50 31 3 = dt7 31 3 := hF52 31 (by decide) 3
    have w66 : dt50 33 3 = dt7 33 3 := hF52 33 (by decide) 3
    have w67 : dt50 0 2 = dt7 0 2 := hF52 0 (by decide) 2
    have w68 : dt50 35 1 = dt7 35 1 := hF52 35 (by decide) 1
    have w69 : dt50 35 2 = dt7 35 2 := hF52 35 (by decide) 2
    have w70 : dt50 35 3 = dt7 35 3 := hF52 35 (by decide) 3
    have w71 : dt50 80 0 = dt7 80 0 := hF52 80 (by decide) 0
    have w72 : dt50 80 1 = dt7 80 1 := hF52 80 (by decide) 1
    have w73 : dt50 80 2 = dt7 80 2 := hF52 80 (by decide) 2
    have w74 : dt50 80 3 = dt7 80 3 := hF52 80 (by decide) 3
    have w75 : dt50 80 4 = dt7 80 4 := hF52 80 (by decide) 4
    have w76 : dt50 80 5 = dt7 80 5 := hF52 80 (by decide) 5
    have w77 : dt50 81 0 = dt7 81 0 := hF52 81 (by decide) 0
    have w78 : dt50 81 1 = dt7 81 1 := hF52 81 (by decide) 1
    have w79 : dt50 81 2 = dt7 81 2 := hF52 81 (by decide) 2
    have w80 : dt50 81 3 = dt7 81 3 := hF52 81 (by decide) 3
    have w81 : dt50 81 4 = dt7 81 4 := hF52 81 (by decide) 4
    have w82 : dt50 81 5 = dt7 81 5 := hF52 81 (by decide) 5
    rcases h49 with ⟨rfl, h49⟩ | ⟨v_h49, rfl, h49r, h49⟩
    · skip
      obtain ⟨h49_0, h49_1, h49_2, h49_3, h49_4, h49_5⟩ := h49
      have M283 : MW (dt50 81) := MW_frk M241 hF52 (by decide)
      have C84 : ∀ j : Nat, dt50 36 j = dt 36 j := fun j => (hF52 36 (by decide) j).trans (C42 j)
      have C85 : ∀ j : Nat, dt50 85 j = dt 85 j := fun j => (h49_2 j).trans (C43 j)
      refine go_to (k := 2) (pc' := 1435) (L' := [some (.inr (.inr (some 3000))), some (.inr (.inr (some 0))), some (.inr (.inr (some 79))), some (.inl i)]) (st' := []) (w' := (SH, dt50)) (fun _ => rfl) ?_
      exact K dt50 hI51 hM54 M283 (by first | omega | (simp only [*]; done) | simp only [*]) (by omega) (by omega) (by omega) (by omega) (by omega) (by omega) (by omega) (by omega) (by omega) (by omega) (by omega) (by omega) (by omega) (by omega) (by omega) (by first | exact hI | exact TPL_k hd0 C84 C85 (by omega) | (exfalso; omega))
    · skip
      obtain ⟨h49_0, h49_1, h49_2, h49_3, h49_4, h49_5, h49_6⟩ := h49
      have M286 : MW (dt50 81) := MW_frk M241 hF52 (by decide)
      have C87 : ∀ j : Nat, dt50 36 j = dt 36 j := fun j => (hF52 36 (by decide) j).trans (C42 j)
      have E88 : TPL (dt7 36) (dt50 85) (dt7 35 1) := by first | exact TPL_f hd0 hI (show FDX (dt 85) (dt50 85) (dt 35 1) (dt7 35 1) _ from by have z_ := h49_3; rw [show dt7 79 12 = dt 35 1 by omega, show dt50 79 12 = dt7 35 1 by omega, show dt7 85 = dt 85 from funext C43] at z_; exact z_) rfl rfl | (exfalso; omega)
      have E89 : TPL (dt50 36) (dt50 85) (dt50 35 1) := by have z_ := E88; rw [show dt50 36 = dt7 36 from (funext (hF52 36 (by decide))), show dt50 35 1 = dt7 35 1 by omega]; exact z_
      refine go_to (k := 2) (pc' := 1435) (L' := [some (.inr (.inr (some 3000))), some (.inr (.inr (some 0))), some (.inr (.inr (some 79))), some (.inl i)]) (st' := []) (w' := (SH, dt50)) (fun _ => rfl) ?_
      exact K dt50 hI51 hM54 M286 (by first | omega | (simp only [*]; done) | simp only [*]) (by omega) (by omega) (by omega) (by omega) (by omega) (by omega) (by omega) (by omega) (by omega) (by omega) (by omega) (by omega) (by omega) (by omega) (by omega) (by first | exact E89 | exact TPL_k hd0 C87 hI (by omega) | (exfalso; omega))
  · skip
    obtain ⟨h6_0, h6_1, h6_2, h6_3, h6_4, h6_5⟩ := h6
    have M290 : MW (dt7 81) := MW_frk hM2 hF9 (by decide)
    have C91 : ∀ j : Nat, dt7 85 j = dt 85 j := fun j => (hF9 85 (by decide) j).trans ((fun _ => rfl) j)
    refine go_to (k := 6) (pc' := 238) (L' := [some (.inr (.inr (some 3000))), some (.inr (.inr (some 0))), some (.inr (.inr (some 79))), some (.inl i)]) (st' := [.inl (i + 1), .inr (.inr (some 3000)), .inr (.inr (some 79))]) (w' := (SH, dt7)) (fun _ => rfl) ?_
    have r92 := i32_R (xs ((i + 1).toNat))
    refine go_smp (L' := [some (.inr (.inr (some 3000))), some (.inr (.inr (some 0))), some (.inr (.inr (some 79))), some (.inl i)]) (st' := [.inl ((xs ((i + 1).toNat)).toInt), .inr (.inr (some 79))]) (w' := (SH, dt7)) rfl rfl (s_iald (n := L) (f := fun j => (xs j).toInt) (am_scr hLL) ⟨by omega, by omega⟩) ?_
    refine go_to (k := 4) (pc' := 243) (L' := [some (.inr (.inr (some 3000))), some (.inr (.inr (some 0))), some (.inr (.inr (some 79))), some (.inl i)]) (st' := [.inl (i + 2), .inr (.inr (some 3000)), .inl ((xs ((i + 1).toNat)).toInt), .inr (.inr (some 79))]) (w' := (SH, dt7)) (fun _ => rfl) ?_
    have r93 := i32_R (xs ((i + 2).toNat))
    refine go_smp (L' := [some (.inr (.inr (some 3000))), some (.inr (.inr (some 0))), some (.inr (.inr (some 79))), some (.inl i)]) (st' := [.inl ((xs ((i + 2).toNat)).toInt), .inl ((xs ((i + 1).toNat)).toInt), .inr (.inr (some 79))]) (w' := (SH, dt7)) rfl rfl (s_iald (n := L) (f := fun j => (xs j).toInt) (am_scr hLL) ⟨by omega, by omega⟩) ?_
    refine go_to (k := 4) (pc' := 248) (L' := [some (.inr (.inr (some 3000))), some (.inr (.inr (some 0))), some (.inr (.inr (some 79))), some (.inl i)]) (st' := [.inl (i + 3), .inr (.inr (some 3000)), .inl ((xs ((i + 2).toNat)).toInt), .inl ((xs ((i + 1).toNat)).toInt), .inr (.inr (some 79))]) (w' := (SH, dt7)) (fun _ => rfl) ?_
    have r94 := i32_R (xs ((i + 3).toNat))
    refine go_smp (L' := [some (.inr (.inr (some 3000))), some (.inr (.inr (some 0))), some (.inr (.inr (some 79))), some (.inl i)]) (st' := [.inl ((xs ((i + 3).toNat)).toInt), .inl ((xs ((i + 2).toNat)).toInt), .inl ((xs ((i + 1).toNat)).toInt), .inr (.inr (some 79))]) (w' := (SH, dt7)) rfl rfl (s_iald (n := L) (f := fun j => (xs j).toInt) (am_scr hLL) ⟨by omega, by omega⟩) ?_
    refine go_to (k := 4) (pc' := 253) (L' := [some (.inr (.inr (some 3000))), some (.inr (.inr (some 0))), some (.inr (.inr (some 79))), some (.inl i)]) (st' := [.inl (i + 4), .inr (.inr (some 3000)), .inl ((xs ((i + 3).toNat)).toInt), .inl ((xs ((i + 2).toNat)).toInt), .inl ((xs ((i + 1).toNat)).toInt), .inr (.inr (some 79))]) (w' := (SH, dt7)) (fun _ => rfl) ?_
    have r95 := i32_R (xs ((i + 4).toNat))
    refine go_smp (L' := [some (.inr (.inr (some 3000))), some (.inr (.inr (some 0))), some (.inr (.inr (some 79))), some (.inl i)]) (st' := [.inl ((xs ((i + 4).toNat)).toInt), .inl ((xs ((i + 3).toNat)).toInt), .inl ((xs ((i + 2).toNat)).toInt), .inl ((xs ((i + 1).toNat)).toInt), .inr (.inr (some 79))]) (w' := (SH, dt7)) rfl rfl (s_iald (n := L) (f := fun j => (xs j).toInt) (am_scr hLL) ⟨by omega, by omega⟩) ?_
    refine go_to (k := 4) (pc' := 258) (L' := [some (.inr (.inr (some 3000))), some (.inr (.inr (some 0))), some (.inr (.inr (some 79))), some (.inl i)]) (st' := [.inl (i + 5), .inr (.inr (some 3000)), .inl ((xs ((i + 4).toNat)).toInt), .inl ((xs ((i + 3).toNat)).toInt), .inl ((xs ((i + 2).toNat)).toInt), .inl ((xs ((i + 1).toNat)).toInt), .inr (.inr (some 79))]) (w' := (SH, dt7)) (fun _ => rfl) ?_
    have r96 := i32_R (xs ((i + 5).toNat))
    refine go_smp (L' := [some (.inr (.inr (some 3000))), some (.inr (.inr (some 0))), some (.inr (.inr (some 79))), some (.inl i)]) (st' := [.inl ((xs ((i + 5).toNat)).toInt), .inl ((xs ((i + 4).toNat)).toInt), .inl ((xs ((i + 3).toNat)).toInt), .inl ((xs ((i + 2).toNat)).toInt), .inl ((xs ((i + 1).toNat)).toInt), .inr (.inr (some 79))]) (w' := (SH, dt7)) rfl rfl (s_iald (n := L) (f := fun j => (xs j).toInt) (am_scr hLL) ⟨by omega, by omega⟩) ?_
    refine go_call (Q' := _) rfl rfl rfl rfl rfl (sp_X6_feed_f L xs sio (d + 38) dt7 hI8  ((xs ((i + 1).toNat)).toInt) ⟨by omega, by omega⟩ ((xs ((i + 2).toNat)).toInt) ⟨by omega, by omega⟩ ((xs ((i + 3).toNat)).toInt) ⟨by omega, by omega⟩ ((xs ((i + 4).toNat)).toInt) ⟨by omega, by omega⟩ ((xs ((i + 5).toNat)).toInt) ⟨by omega, by omega⟩ ) ?_
    rintro _ _ ⟨dt98, rfl, hI99, hF100, h97⟩
    refine ⟨rfl, ?_⟩
    have hF101 : Fr [0, 1, 2, 3, 4, 5, 6, 7, 8, 9, 10, 11, 12, 13, 14, 15, 16, 17, 18, 19, 20, 21, 22, 23, 24, 25, 26, 27, 28, 29, 30, 31, 32, 33, 34, 35, 36, 37, 38, 39, 40, 41, 42, 43, 44, 45, 46, 47, 48, 49, 50, 51, 52, 53, 54, 55, 56, 57, 58, 59, 60, 61, 62, 63, 64, 65, 66, 67, 68, 69, 70, 71, 72, 73, 74, 75, 76, 77, 78, 79, 80, 81, 82, 83, 84, 85, 86, 87, 88, 89, 90, 91, 92, 93, 94, 95, 96, 97, 98, 99, 100, 101, 102, 103, 104] dt dt98 := Fr_tr hF10 hF100 (by decide)
    have hM102 : MW (dt98 80) := MW_fr hM11 hF100 (by decide)
    have w103 : dt98 1 0 = dt7 1 0 := hF100 1 (by decide) 0
    have w104 : dt98 7 3 = dt7 7 3 := hF100 7 (by decide) 3
    have w105 : dt98 10 3 = dt7 10 3 := hF100 10 (by decide) 3
    have w106 : dt98 12 3 = dt7 12 3 := hF100 12 (by decide) 3
    have w107 : dt98 14 3 = dt7 14 3 := hF100 14 (by decide) 3
    have w108 : dt98 16 3 = dt7 16 3 := hF100 16 (by decide) 3
    have w109 : dt98 18 0 = dt7 18 0 := hF100 18 (by decide) 0
    have w110 : dt98 24 3 = dt7 24 3 := hF100 24 (by decide) 3
    have w111 : dt98 27 3 = dt7 27 3 := hF100 27 (by decide) 3
    have w112 : dt98 29 3 = dt7 29 3 := hF100 29 (by decide) 3
    have w113 : dt98 31 3 = dt7 31 3 := hF100 31 (by decide) 3
    have w114 : dt98 33 3 = dt7 33 3 := hF100 33 (by decide) 3
    have w115 : dt98 0 2 = dt7 0 2 := hF100 0 (by decide) 2
    have w116 : dt98 35 1 = dt7 35 1 := hF100 35 (by decide) 1
    have w117 : dt98 35 2 = dt7 35 2 := hF100 35 (by decide) 2
    have w118 : dt98 35 3 = dt7 35 3 := hF100 35 (by decide) 3
    have w119 : dt98 80 0 = dt7 80 0 := hF100 80 (by decide) 0
    have w120 : dt98 80 1 = dt7 80 1 := hF100 80 (by decide) 1
    have w121 : dt98 80 2 = dt7 80 2 := hF100 80 (by decide) 2
    have w122 : dt98 80 3 = dt7 80 3 := hF100 80 (by decide) 3
    have w123 : dt98 80 4 = dt7 80 4 := hF100 80 (by decide) 4
    have w124 : dt98 80 5 = dt7 80 5 := hF100 80 (by decide) 5
    have w125 : dt98 81 0 = dt7 81 0 := hF100 81 (by decide) 0
    have w126 : dt98 81 1 = dt7 81 1 := hF100 81 (by decide) 1
    have w127 : dt98 81 2 = dt7 81 2 := hF100 81 (by decide) 2
    have w128 : dt98 81 3 = dt7 81 3 := hF100 81 (by decide) 3
    have w129 : dt98 81 4 = dt7 81 4 := hF100 81 (by decide) 4
    have w130 : dt98 81 5 = dt7 81 5 := hF100 81 (by decide) 5
    rcases h97 with ⟨rfl, h97⟩ | ⟨v_h97, rfl, h97r, h97⟩
    · skip
      obtain ⟨h97_0, h97_1, h97_2, h97_3, h97_4, h97_5⟩ := h97
      have M2131 : MW (dt98 81) := MW_frk M290 hF100 (by decide)
      have C132 : ∀ j : Nat, dt98 85 j = dt 85 j := fun j => (h97_2 j).trans (C91 j)
      refine go_to (k := 2) (pc' := 1435) (L' := [some (.inr (.inr (some 3000))), some (.inr (.inr (some 0))), some (.inr (.inr (some 79))), some (.inl i)]) (st' := []) (w' := (SH, dt98)) (fun _ => rfl) ?_
      exact K dt98 hI99 hM102 M2131 (by first | omega | (simp only [*]; done) | simp only [*]) (by omega) (by omega) (by omega) (by omega) (by omega) (by omega) (by omega) (by omega) (by omega) (by omega) (by omega) (by omega) (by omega) (by omega) (by omega) (by first | exact hI | exact TPL_k hd0 hI C132 (by omega) | (exfalso; omega))
    · skip
      obtain ⟨h97_0, h97_1, h97_2, h97_3, h97_4, h97_5, h97_6⟩ := h97
      have M2133 : MW (dt98 81) := MW_frk M290 hF100 (by decide)
      have E134 : TPL (dt7 36) (dt98 85) (dt7 35 1) := by first | exact TPL_f hd0 h6_3 (show FDX (dt 85) (dt98 85) (dt 35 1) (dt7 35 1) _ from by have z_ := h97_3; rw [show dt7 79 12 = dt 35 1 by omega, show dt98 79 12 = dt7 35 1 by omega, show dt7 85 = dt 85 from funext C91] at z_; exact z_) rfl rfl | (exfalso; omega)
      have E135 : TPL (dt98 36) (dt98 85) (dt98 35 1) := by have z_ := E134; rw [show dt98 36 = dt7 36 from (funext (hF100 36 (by decide))), show dt98 35 1 = dt7 35 1 by omega]; exact z_
      refine go_to (k := 2) (pc' := 1435) (L' := [some (.inr (.inr (some 3000))), some (.inr (.inr (some 0))), some (.inr (.inr (some 79))), some (.inl i)]) (st' := []) (w' := (SH, dt98)) (fun _ => rfl) ?_
      exact K dt98 hI99 hM102 M2133 (by first | omega | (simp only [*]; done) | simp only [*]) (by omega) (by omega) (by omega) (by omega) (by omega) (by omega) (by omega) (by omega) (by omega) (by omega) (by omega) (by omega) (by omega) (by omega) (by omega) (by first | exact E135 | exact TPL_k hd0 hI hI (by omega) | (exfalso; omega))
set_option maxRecDepth 20000 in
set_option maxHeartbeats 8000000 in
theorem sp_case2 (L : Nat) (xs : Nat → Int32) (sio : Option Nat) (d : Nat) (Q : Option AV → am_W → Prop) (hLL : L ≤ 3072) (i : Int) (hi : 0 ≤ i ∧ i ≤ 3066) (hil : i ≤ (L : Int) - 6) (dt : Nat → Nat → Int) (hI : InvC dt) (hM : MW (dt 80)) (hM2 : MW (dt 81)) (hk0 : dt 1 0 = dt 80 0) (hk1 : dt 7 3 = dt 80 1) (hk2 : dt 10 3 = dt 80 2) (hk3 : dt 12 3 = dt 80 3) (hk4 : dt 14 3 = dt 80 4) (hk5 : dt 16 3 = dt 80 5) (hk6 : dt 18 0 = dt 81 0) (hk7 : dt 24 3 = dt 81 1) (hk8 : dt 27 3 = dt 81 2) (hk9 : dt 29 3 = dt 81 3) (hk10 : dt 31 3 = dt 81 4) (hk11 : dt 33 3 = dt 81 5) (hk12 : dt 0 2 = dt 79 2) (hk13 : dt 35 1 = dt 79 12) (hk14 : dt 35 2 = dt 79 19) (hk15 : dt 35 3 = dt 79 21) (hd0 : TPL (dt 36) (dt 85) (dt 35 1)) (K : ∀ (dt : Nat → Nat → Int) (hI : InvC dt) (hM : MW (dt 80)) (hM2 : MW (dt 81)) (hk0 : dt 1 0 = dt 80 0) (hk1 : dt 7 3 = dt 80 1) (hk2 : dt 10 3 = dt 80 2) (hk3 : dt 12 3 = dt 80 3) (hk4 : dt 14 3 = dt 80 4) (hk5 : dt 16 3 = dt 80 5) (hk6 : dt 18 0 = dt 81 0) (hk7 : dt 24 3 = dt 81 1) (hk8 : dt 27 3 = dt 81 2) (hk9 : dt 29 3 = dt 81 3) (hk10 : dt 31 3 = dt 81 4) (hk11 : dt 33 3 = dt 81 5) (hk12 : dt 0 2 = dt 79 2) (hk13 : dt 35 1 = dt 79 12) (hk14 : dt 35 2 = dt 79 19) (hk15 : dt 35 3 = dt 79 21) (hd0 : TPL (dt 36) (dt 85) (dt 35 1)), GO (am_XX L xs sio) (d + 39) 267 1435 [some (.inr (.inr (some 3000))), some (.inr (.inr (some 0))), some (.inr (.inr (some 79))), some (.inl i)] [] (SH, dt) Q) : GO (am_XX L xs sio) (d + 39) 267 266 [some (.inr (.inr (some 3000))), some (.inr (.inr (some 0))), some (.inr (.inr (some 79))), some (.inl i)] [] (SH, dt) Q := by
  have hF : Fr [0, 1, 2, 3, 4, 5, 6, 7, 8, 9, 10, 11, 12, 13, 14, 15, 16, 17, 18, 19, 20, 21, 22, 23, 24, 25, 26, 27, 28, 29, 30, 31, 32, 33, 34, 35, 36, 37, 38, 39, 40, 41, 42, 43, 44, 45, 46, 47, 48, 49, 50, 51, 52, 53, 54, 55, 56, 57, 58, 59, 60, 61, 62, 63, 64, 65, 66, 67, 68, 69, 70, 71, 72, 73, 74, 75, 76, 77, 78, 79, 80, 81, 82, 83, 84, 85, 86, 87, 88, 89, 90, 91, 92, 93, 94, 95, 96, 97, 98, 99, 100, 101, 102, 103, 104] dt dt := Fr_refl
  refine go_to (k := 5) (pc' := 271) (L' := [some (.inr (.inr (some 3000))), some (.inr (.inr (some 0))), some (.inr (.inr (some 79))), some (.inl i)]) (st' := [.inl (i + 1), .inr (.inr (some 3000)), .inr (.inr (some 0))]) (w' := (SH, dt)) (fun _ => rfl) ?_
  have r1 := i32_R (xs ((i + 1).toNat))
  refine go_smp (L' := [some (.inr (.inr (some 3000))), some (.inr (.inr (some 0))), some (.inr (.inr (some 79))), some (.inl i)]) (st' := [.inl ((xs ((i + 1).toNat)).toInt), .inr (.inr (some 0))]) (w' := (SH, dt)) rfl rfl (s_iald (n := L) (f := fun j => (xs j).toInt) (am_scr hLL) ⟨by omega, by omega⟩) ?_
  refine go_call (Q' := _) rfl rfl rfl rfl rfl (sp_X5_end_f L xs sio (d + 37) dt hI  ((xs ((i + 1).toNat)).toInt) ⟨by omega, by omega⟩ ) ?_
  rintro _ _ ⟨dt3, rfl, hI4, hF5, h2⟩
  refine ⟨rfl, ?_⟩
  have hF6 : Fr [0, 1, 2, 3, 4, 5, 6, 7, 8, 9, 10, 11, 12, 13, 14, 15, 16, 17, 18, 19, 20, 21, 22, 23, 24, 25, 26, 27, 28, 29, 30, 31, 32, 33, 34, 35, 36, 37, 38, 39, 40, 41, 42, 43, 44, 45, 46, 47, 48, 49, 50, 51, 52, 53, 54, 55, 56, 57, 58, 59, 60, 61, 62, 63, 64, 65, 66, 67, 68, 69, 70, 71, 72, 73, 74, 75, 76, 77, 78, 79, 80, 81, 82, 83, 84, 85, 86, 87, 88, 89, 90, 91, 92, 93, 94, 95, 96, 97, 98, 99, 100, 101, 102, 103, 104] dt dt3 := Fr_tr hF hF5 (by decide)
  have hM7 : MW (dt3 80) := MW_fr hM hF5 (by decide)
  have w8 : dt3 1 0 = dt 1 0 := hF5 1 (by decide) 0
  have w9 : dt3 7 3 = dt 7 3 := hF5 7 (by decide) 3
  have w10 : dt3 10 3 = dt 10 3 := hF5 10 (by decide) 3
  have w11 : dt3 12 3 = dt 12 3 := hF5 12 (by decide) 3
  have w12 : dt3 14 3 = dt 14 3 := hF5 14 (by decide) 3
  have w13 : dt3 16 3 = dt 16 3 := hF5 16 (by decide) 3
  have w14 : dt3 18 0 = dt 18 0 := hF5 18 (by decide) 0
  have w15 : dt3 24 3 = dt 24 3 := hF5 24 (by decide) 3
  have w16 : dt3 27 3 = dt 27 3 := hF5 27 (by decide) 3
  have w17 : dt3 29 3 = dt 29 3 := hF5 29 (by decide) 3
  have w18 : dt3 31 3 = dt 31 3 := hF5 31 (by decide) 3
  have w19 : dt3 33 3 = dt 33 3 := hF5 33 (by decide) 3
  have w20 : dt3 0 2 = dt 0 2 := hF5 0 (by decide) 2
  have w21 : dt3 80 0 = dt 80 0 := hF5 80 (by decide) 0
  have w22 : dt3 80 1 = dt 80 1 := hF5 80 (by decide) 1
  have w23 : dt3 80 2 = dt 80 2 := hF5 80 (by decide) 2
  have w24 : dt3 80 3 = dt 80 3 := hF5 80 (by decide) 3
  have w25 : dt3 80 4 = dt 80 4 := hF5 80 (by decide) 4
  have w26 : dt3 80 5 = dt 80 5 := hF5 80 (by decide) 5
  have w27 : dt3 81 0 = dt 81 0 := hF5 81 (by decide) 0
  have w28 : dt3 81 1 = dt 81 1 := hF5 81 (by decide) 1
  have w29 : dt3 81 2 = dt 81 2 := hF5 81 (by decide) 2
  have w30 : dt3 81 3 = dt 81 3 := hF5 81 (by decide) 3
  have w31 : dt3 81 4 = dt 81 4 := hF5 81 (by decide) 4
  have w32 : dt3 81 5 = dt 81 5 := hF5 81 (by decide) 5
  have w33 : dt3 79 2 = dt 79 2 := hF5 79 (by decide) 2
  have w34 : dt3 79 12 = dt 79 12 := hF5 79 (by decide) 12
  have w35 : dt3 79 19 = dt 79 19 := hF5 79 (by decide) 19
  have w36 : dt3 79 21 = dt 79 21 := hF5 79 (by decide) 21
  rcases h2 with ⟨rfl, h2⟩ | ⟨rfl, h2⟩
  · skip
    obtain ⟨h2_0, h2_1, h2_2, h2_3⟩ := h2
    have M237 : MW (dt3 81) := MW_frk hM2 hF5 (by decide)
    have C38 : ∀ j : Nat, dt3 36 j = dt 36 j := fun j => (hF5 36 (by decide) j).trans ((fun _ => rfl) j)
    have C39 : ∀ j : Nat, dt3 85 j = dt 85 j := fun j => (hF5 85 (by decide) j).trans ((fun _ => rfl) j)
    refine go_to (k := 6) (pc' := 281) (L' := [some (.inr (.inr (some 3000))), some (.inr (.inr (some 0))), some (.inr (.inr (some 79))), some (.inl i)]) (st' := [.inl (i + 1), .inr (.inr (some 3000)), .inr (.inr (some 79))]) (w' := (SH, dt3)) (fun _ => rfl) ?_
    have r40 := i32_R (xs ((i + 1).toNat))
    refine go_smp (L' := [some (.inr (.inr (some 3000))), some (.inr (.inr (some 0))), some (.inr (.inr (some 79))), some (.inl i)]) (st' := [.inl ((xs ((i + 1).toNat)).toInt), .inr (.inr (some 79))]) (w' := (SH, dt3)) rfl rfl (s_iald (n := L) (f := fun j => (xs j).toInt) (am_scr hLL) ⟨by omega, by omega⟩) ?_
    refine go_call (Q' := _) rfl rfl rfl rfl rfl (sp_X6_end_f L xs sio (d + 37) dt3 hI4  ((xs ((i + 1).toNat)).toInt) ⟨by omega, by omega⟩ ) ?_
    rintro _ _ ⟨dt42, rfl, hI43, hF44, h41⟩
    refine ⟨rfl, ?_⟩
    have hF45 : Fr [0, 1, 2, 3, 4, 5, 6, 7, 8, 9, 10, 11, 12, 13, 14, 15, 16, 17, 18, 19, 20, 21, 22, 23, 24, 25, 26, 27, 28, 29, 30, 31, 32, 33, 34, 35, 36, 37, 38, 39, 40, 41, 42, 43, 44, 45, 46, 47, 48, 49, 50, 51, 52, 53, 54, 55, 56, 57, 58, 59, 60, 61, 62, 63, 64, 65, 66, 67, 68, 69, 70, 71, 72, 73, 74, 75, 76, 77, 78, 79, 80, 81, 82, 83, 84, 85, 86, 87, 88, 89, 90, 91, 92, 93, 94, 95, 96, 97, 98, 99, 100, 101, 102, 103, 104] dt dt42 := Fr_tr hF6 hF44 (by decide)
    have hM46 : MW (dt42 80) := MW_fr hM7 hF44 (by decide)
    have w47 : dt42 1 0 = dt3 1 0 := hF44 1 (by decide) 0
    have w48 : dt42 7 3 = dt3 7 3 := hF44 7 (by decide) 3
    have w49 : dt42 10 3 = dt3 10 3 := hF44 10 (by decide) 3
    have w50 : dt42 12 3 = dt3 12 3 := hF44 12 (by decide) 3
    have w51 : dt42 14 3 = dt3 14 3 := hF44 14 (by decide) 3
    have w52 : dt42 16 3 = dt3 16 3 := hF44 16 (by decide) 3
    have w53 : dt42 18 0 = dt3 18 0 := hF44 18 (by decide) 0
    have w54 : dt42 24 3 = dt3 24 3 := hF44 24 (by decide) 3
    have w55 : dt42 27 3 = dt3 27 3 := hF44 27 (by decide) 3
    have w56 : dt42 29 3 = dt3 29 3 := hF44 29 (by decide) 3
    have w57 : dt42 31 3 = dt3 31 3 := hF44 31 (by decide) 3
    have w58 : dt42 33 3 = dt3 33 3 := hF44 33 (by decide) 3
    have w59 : dt42 0 2 = dt3 0 2 := hF44 0 (by decide) 2
    have w60 : dt42 35 1 = dt3 35 1 := hF44 35 (by decide) 1
    have w61 : dt42 35 2 = dt3 35 2 := hF44 35 (by decide) 2
    have w62 : dt42 35 3 = dt3 35 3 := hF44 35 (by decide) 3
    have w63 : dt42 80 0 = dt3 80 0 := hF44 80 (by decide) 0
    have w64 : dt42 80 1 = dt3 80 1 := hF44 80 (by decide) 1
    have w65 : dt42 80 2 = dt3 80 2 := hF44 80 (by decide) 2
    have w66 : dt42 80 3 = dt3 80 3 := hF44 80 (by decide) 3
    have w67 : dt42 80 4 = dt3 80 4 := hF44 80 (by decide) 4
    have w68 : dt42 80 5 = dt3 80 5 := hF44 80 (by decide) 5
    have w69 : dt42 81 0 = dt3 81 0 := hF44 81 (by decide) 0
    have w70 : dt42 81 1 = dt3 81 1 := hF44 81 (by decide) 1
    have w71 : dt42 81 2 = dt3 81 2 := hF44 81 (by decide) 2
    have w72 : dt42 81 3 = dt3 81 3 := hF44 81 (by decide) 3
    have w73 : dt42 81 4 = dt3 81 4 := hF44 81 (by decide) 4
    have w74 : dt42 81 5 = dt3 81 5 := hF44 81 (by decide) 5
    rcases h41 with ⟨rfl, h41⟩ | ⟨rfl, h41⟩
    · skip
      obtain ⟨h41_0, h41_1, h41_2, h41_3, h41_4⟩ := h41
      have M275 : MW (dt42 81) := MW_frk M237 hF44 (by decide)
      have C76 : ∀ j : Nat, dt42 36 j = dt 36 j := fun j => (hF44 36 (by decide) j).trans (C38 j)
      have C77 : ∀ j : Nat, dt42 85 j = dt 85 j := fun j => (hF44 85 (by decide) j).trans (C39 j)
      refine go_to (k := 2) (pc' := 1435) (L' := [some (.inr (.inr (some 3000))), some (.inr (.inr (some 0))), some (.inr (.inr (some 79))), some (.inl i)]) (st' := []) (w' := (SH, dt42)) (fun _ => rfl) ?_
      exact K dt42 hI43 hM46 M275 (by first | omega | (simp only [*]; done) | simp only [*]) (by omega) (by omega) (by omega) (by omega) (by omega) (by omega) (by omega) (by omega) (by omega) (by omega) (by omega) (by omega) (by omega) (by omega) (by omega) (by first | exact hI | exact TPL_k hd0 C76 C77 (by omega) | (exfalso; omega))
    · skip
      obtain ⟨h41_0, h41_1, h41_2, h41_3, h41_4⟩ := h41
      have M278 : MW (dt42 81) := MW_frk M237 hF44 (by decide)
      have C79 : ∀ j : Nat, dt42 36 j = dt 36 j := fun j => (hF44 36 (by decide) j).trans (C38 j)
      have C80 : ∀ j : Nat, dt42 85 j = dt 85 j := fun j => (hF44 85 (by decide) j).trans (C39 j)
      refine go_to (k := 2) (pc' := 1435) (L' := [some (.inr (.inr (some 3000))), some (.inr (.inr (some 0))), some (.inr (.inr (some 79))), some (.inl i)]) (st' := []) (w' := (SH, dt42)) (fun _ => rfl) ?_
      exact K dt42 hI43 hM46 M278 (by first | omega | (simp only [*]; done) | simp only [*]) (by omega) (by omega) (by omega) (by omega) (by omega) (by omega) (by omega) (by omega) (by omega) (by omega) (by omega) (by omega) (by omega) (by omega) (by omega) (by first | exact hI | exact TPL_k hd0 C79 C80 (by omega) | (exfalso; omega))
  · skip
    obtain ⟨h2_0, h2_1, h2_2, h2_3⟩ := h2
    have M281 : MW (dt3 81) := MW_frk hM2 hF5 (by decide)
    have C82 : ∀ j : Nat, dt3 36 j = dt 36 j := fun j => (hF5 36 (by decide) j).trans ((fun _ => rfl) j)
    have C83 : ∀ j : Nat, dt3 85 j = dt 85 j := fun j => (hF5 85 (by decide) j).trans ((fun _ => rfl) j)
    refine go_to (k := 6) (pc' := 281) (L' := [some (.inr (.inr (some 3000))), some (.inr (.inr (some 0))), some (.inr (.inr (some 79))), some (.inl i)]) (st' := [.inl (i + 1), .inr (.inr (some 3000)), .inr (.inr (some 79))]) (w' := (SH, dt3)) (fun _ => rfl) ?_
    have r84 := i32_R (xs ((i + 1).toNat))
    refine go_smp (L' := [some (.inr (.inr (some 3000))), some (.inr (.inr (some 0))), some (.inr (.inr (some 79))), some (.inl i)]) (st' := [.inl ((xs ((i + 1).toNat)).toInt), .inr (.inr (some 79))]) (w' := (SH, dt3)) rfl rfl (s_iald (n := L) (f := fun j => (xs j).toInt) (am_scr hLL) ⟨by omega, by omega⟩) ?_
    refine go_call (Q' := _) rfl rfl rfl rfl rfl (sp_X6_end_f L xs sio (d + 37) dt3 hI4  ((xs ((i + 1).toNat)).toInt) ⟨by omega, by omega⟩ ) ?_
    rintro _ _ ⟨dt86, rfl, hI87, hF88, h85⟩
    refine ⟨rfl, ?_⟩
    have hF89 : Fr [0, 1, 2, 3, 4, 5, 6, 7, 8, 9, 10, 11, 12, 13, 14, 15, 16, 17, 18, 19, 20, 21, 22, 23, 24, 25, 26, 27, 28, 29, 30, 31, 32, 33, 34, 35, 36, 37, 38, 39, 40, 41, 42, 43, 44, 45, 46, 47, 48, 49, 50, 51, 52, 53, 54, 55, 56, 57, 58, 59, 60, 61, 62, 63, 64, 65, 66, 67, 68, 69, 70, 71, 72, 73, 74, 75, 76, 77, 78, 79, 80, 81, 82, 83, 84, 85, 86, 87, 88, 89, 90, 91, 92, 93, 94, 95, 96, 97, 98, 99, 100, 101, 102, 103, 104] dt dt86 := Fr_tr hF6 hF88 (by decide)
    have hM90 : MW (dt86 80) := MW_fr hM7 hF88 (by decide)
    have w91 : dt86 1 0 = dt3 1 0 := hF88 1 (by decide) 0
    have w92 : dt86 7 3 = dt3 7 3 := hF88 7 (by decide) 3
    have w93 : dt86 10 3 = dt3 10 3 := hF88 10 (by decide) 3
    have w94 : dt86 12 3 = dt3 12 3 := hF88 12 (by decide) 3
    have w95 : dt86 14 3 = dt3 14 3 := hF88 14 (by decide) 3
    have w96 : dt86 16 3 = dt3 16 3 := hF88 16 (by decide) 3
    have w97 : dt86 18 0 = dt3 18 0 := hF88 18 (by decide) 0
    have w98 : dt86 24 3 = dt3 24 3 := hF88 24 (by decide) 3
    have w99 : dt86 27 3 = dt3 27 3 := hF88 27 (by decide) 3
    have w100 : dt86 29 3 = dt3 29 3 := hF88 29 (by decide) 3
    have w101 : dt86 31 3 = dt3 31 3 := hF88 31 (by decide) 3
    have w102 : dt86 33 3 = dt3 33 3 := hF88 33 (by decide) 3
    have w103 : dt86 0 2 = dt3 0 2 := hF88 0 (by decide) 2
    have w104 : dt86 35 1 = dt3 35 1 := hF88 35 (by decide) 1
    have w105 : dt86 35 2 = dt3 35 2 := hF88 35 (by decide) 2
    have w106 : dt86 35 3 = dt3 35 3 := hF88 35 (by decide) 3
    have w107 : dt86 80 0 = dt3 80 0 := hF88 80 (by decide) 0
    have w108 : dt86 80 1 = dt3 80 1 := hF88 80 (by decide) 1
    have w109 : dt86 80 2 = dt3 80 2 := hF88 80 (by decide) 2
    have w110 : dt86 80 3 = dt3 80 3 := hF88 80 (by decide) 3
    have w111 : dt86 80 4 = dt3 80 4 := hF88 80 (by decide) 4
    have w112 : dt86 80 5 = dt3 80 5 := hF88 80 (by decide) 5
    have w113 : dt86 81 0 = dt3 81 0 := hF88 81 (by decide) 0
    have w114 : dt86 81 1 = dt3 81 1 := hF88 81 (by decide) 1
    have w115 : dt86 81 2 = dt3 81 2 := hF88 81 (by decide) 2
    have w116 : dt86 81 3 = dt3 81 3 := hF88 81 (by decide) 3
    have w117 : dt86 81 4 = dt3 81 4 := hF88 81 (by decide) 4
    have w118 : dt86 81 5 = dt3 81 5 := hF88 81 (by decide) 5
    rcases h85 with ⟨rfl, h85⟩ | ⟨rfl, h85⟩
    · skip
      obtain ⟨h85_0, h85_1, h85_2, h85_3, h85_4⟩ := h85
      have M2119 : MW (dt86 81) := MW_frk M281 hF88 (by decide)
      have C120 : ∀ j : Nat, dt86 36 j = dt 36 j := fun j => (hF88 36 (by decide) j).trans (C82 j)
      have C121 : ∀ j : Nat, dt86 85 j = dt 85 j := fun j => (hF88 85 (by decide) j).trans (C83 j)
      refine go_to (k := 2) (pc' := 1435) (L' := [some (.inr (.inr (some 3000))), some (.inr (.inr (some 0))), some (.inr (.inr (some 79))), some (.inl i)]) (st' := []) (w' := (SH, dt86)) (fun _ => rfl) ?_
      exact K dt86 hI87 hM90 M2119 (by first | omega | (simp only [*]; done) | simp only [*]) (by omega) (by omega) (by omega) (by omega) (by omega) (by omega) (by omega) (by omega) (by omega) (by omega) (by omega) (by omega) (by omega) (by omega) (by omega) (by first | exact hI | exact TPL_k hd0 C120 C121 (by omega) | (exfalso; omega))
    · skip
      obtain ⟨h85_0, h85_1, h85_2, h85_3, h85_4⟩ := h85
      have M2122 : MW (dt86 81) := MW_frk M281 hF88 (by decide)
      have C123 : ∀ j : Nat, dt86 36 j = dt 36 j := fun j => (hF88 36 (by decide) j).trans (C82 j)
      have C124 : ∀ j : Nat, dt86 85 j = dt 85 j := fun j => (hF88 85 (by decide) j).trans (C83 j)
      refine go_to (k := 2) (pc' := 1435) (L' := [some (.inr (.inr (some 3000))), some (.inr (.inr (some 0))), some (.inr (.inr (some 79))), some (.inl i)]) (st' := []) (w' := (SH, dt86)) (fun _ => rfl) ?_
      exact K dt86 hI87 hM90 M2122 (by first | omega | (simp only [*]; done) | simp only [*]) (by omega) (by omega) (by omega) (by omega) (by omega) (by omega) (by omega) (by omega) (by omega) (by omega) (by omega) (by omega) (by omega) (by omega) (by omega) (by first | exact hI | exact TPL_k hd0 C123 C124 (by omega) | (exfalso; omega))
set_option maxRecDepth 20000 in
set_option maxHeartbeats 8000000 in
theorem sp_case3 (L : Nat) (xs : Nat → Int32) (sio : Option Nat) (d : Nat) (Q : Option AV → am_W → Prop) (hLL : L ≤ 3072) (i : Int) (hi : 0 ≤ i ∧ i ≤ 3066) (hil : i ≤ (L : Int) - 6) (dt : Nat → Nat → Int) (hI : InvC dt) (hM : MW (dt 80)) (hM2 : MW (dt 81)) (hk0 : dt 1 0 = dt 80 0) (hk1 : dt 7 3 = dt 80 1) (hk2 : dt 10 3 = dt 80 2) (hk3 : dt 12 3 = dt 80 3) (hk4 : dt 14 3 = dt 80 4) (hk5 : dt 16 3 = dt 80 5) (hk6 : dt 18 0 = dt 81 0) (hk7 : dt 24 3 = dt 81 1) (hk8 : dt 27 3 = dt 81 2) (hk9 : dt 29 3 = dt 81 3) (hk10 : dt 31 3 = dt 81 4) (hk11 : dt 33 3 = dt 81 5) (hk12 : dt 0 2 = dt 79 2) (hk13 : dt 35 1 = dt 79 12) (hk14 : dt 35 2 = dt 79 19) (hk15 : dt 35 3 = dt 79 21) (hd0 : TPL (dt 36) (dt 85) (dt 35 1)) (K : ∀ (dt : Nat → Nat → Int) (hI : InvC dt) (hM : MW (dt 80)) (hM2 : MW (dt 81)) (hk0 : dt 1 0 = dt 80 0) (hk1 : dt 7 3 = dt 80 1) (hk2 : dt 10 3 = dt 80 2) (hk3 : dt 12 3 = dt 80 3) (hk4 : dt 14 3 = dt 80 4) (hk5 : dt 16 3 = dt 80 5) (hk6 : dt 18 0 = dt 81 0) (hk7 : dt 24 3 = dt 81 1) (hk8 : dt 27 3 = dt 81 2) (hk9 : dt 29 3 = dt 81 3) (hk10 : dt 31 3 = dt 81 4) (hk11 : dt 33 3 = dt 81 5) (hk12 : dt 0 2 = dt 79 2) (hk13 : dt 35 1 = dt 79 12) (hk14 : dt 35 2 = dt 79 19) (hk15 : dt 35 3 = dt 79 21) (hd0 : TPL (dt 36) (dt 85) (dt 35 1)), GO (am_XX L xs sio) (d + 39) 267 1435 [some (.inr (.inr (some 3000))), some (.inr (.inr (some 0))), some (.inr (.inr (some 79))), some (.inl i)] [] (SH, dt) Q) : GO (am_XX L xs sio) (d + 39) 267 289 [some (.inr (.inr (some 3000))), some (.inr (.inr (some 0))), some (.inr (.inr (some 79))), some (.inl i)] [] (SH, dt) Q := by
  have hF : Fr [0, 1, 2, 3, 4, 5, 6, 7, 8, 9, 10, 11, 12, 13, 14, 15, 16, 17, 18, 19, 20, 21, 22, 23, 24, 25, 26, 27, 28, 29, 30, 31, 32, 33, 34, 35, 36, 37, 38, 39, 40, 41, 42, 43, 44, 45, 46, 47, 48, 49, 50, 51, 52, 53, 54, 55, 56, 57, 58, 59, 60, 61, 62, 63, 64, 65, 66, 67, 68, 69, 70, 71, 72, 73, 74, 75, 76, 77, 78, 79, 80, 81, 82, 83, 84, 85, 86, 87, 88, 89, 90, 91, 92, 93, 94, 95, 96, 97, 98, 99, 100, 101, 102, 103, 104] dt dt := Fr_refl
  have r1 : (-2147483648) ≤ dt 1 0 ∧ dt 1 0 ≤ 2147483647 := InvC_get hI 1 0 rfl rfl
  have r2 : 0 ≤ dt 7 3 ∧ dt 7 3 ≤ 12 := InvC_get hI 7 3 rfl rfl
  have r3 : 0 ≤ dt 10 3 ∧ dt 10 3 ≤ 40 := InvC_get hI 10 3 rfl rfl
  have r4 : 0 ≤ dt 12 3 ∧ dt 12 3 ≤ 300 := InvC_get hI 12 3 rfl rfl
  have r5 : 0 ≤ dt 14 3 ∧ dt 14 3 ≤ 40 := InvC_get hI 14 3 rfl rfl
  have r6 : 0 ≤ dt 16 3 ∧ dt 16 3 ≤ 20 := InvC_get hI 16 3 rfl rfl
  have r7 : (-2147483648) ≤ dt 18 0 ∧ dt 18 0 ≤ 2147483647 := InvC_get hI 18 0 rfl rfl
  have r8 : 0 ≤ dt 24 3 ∧ dt 24 3 ≤ 12 := InvC_get hI 24 3 rfl rfl
  have r9 : 0 ≤ dt 27 3 ∧ dt 27 3 ≤ 40 := InvC_get hI 27 3 rfl rfl
  have r10 : 0 ≤ dt 29 3 ∧ dt 29 3 ≤ 300 := InvC_get hI 29 3 rfl rfl
  have r11 : 0 ≤ dt 31 3 ∧ dt 31 3 ≤ 40 := InvC_get hI 31 3 rfl rfl
  have r12 : 0 ≤ dt 33 3 ∧ dt 33 3 ≤ 20 := InvC_get hI 33 3 rfl rfl
  have r13 : 0 ≤ dt 0 2 ∧ dt 0 2 ≤ 1 := InvC_get hI 0 2 rfl rfl
  have r14 : 0 ≤ dt 35 1 ∧ dt 35 1 ≤ 500 := InvC_get hI 35 1 rfl rfl
  have r15 : (-2147483648) ≤ dt 35 2 ∧ dt 35 2 ≤ 2147483647 := InvC_get hI 35 2 rfl rfl
  have r16 : (-2147483648) ≤ dt 35 3 ∧ dt 35 3 ≤ 2147483647 := InvC_get hI 35 3 rfl rfl
  have r17 : (-2147483648) ≤ dt 80 0 ∧ dt 80 0 ≤ 2147483647 := InvC_get hI 80 0 rfl rfl
  have r18 : (-2147483648) ≤ dt 80 1 ∧ dt 80 1 ≤ 2147483647 := InvC_get hI 80 1 rfl rfl
  have r19 := MW_n hM
  have r20 : (-2147483648) ≤ dt 80 2 ∧ dt 80 2 ≤ 2147483647 := InvC_get hI 80 2 rfl rfl
  have r21 : (-2147483648) ≤ dt 80 3 ∧ dt 80 3 ≤ 2147483647 := InvC_get hI 80 3 rfl rfl
  have r22 : (-2147483648) ≤ dt 80 4 ∧ dt 80 4 ≤ 2147483647 := InvC_get hI 80 4 rfl rfl
  have r23 : (-2147483648) ≤ dt 80 5 ∧ dt 80 5 ≤ 2147483647 := InvC_get hI 80 5 rfl rfl
  have r24 : (-2147483648) ≤ dt 81 0 ∧ dt 81 0 ≤ 2147483647 := InvC_get hI 81 0 rfl rfl
  have r25 : (-2147483648) ≤ dt 81 1 ∧ dt 81 1 ≤ 2147483647 := InvC_get hI 81 1 rfl rfl
  have r26 : (-2147483648) ≤ dt 81 2 ∧ dt 81 2 ≤ 2147483647 := InvC_get hI 81 2 rfl rfl
  have r27 : (-2147483648) ≤ dt 81 3 ∧ dt 81 3 ≤ 2147483647 := InvC_get hI 81 3 rfl rfl
  have r28 : (-2147483648) ≤ dt 81 4 ∧ dt 81 4 ≤ 2147483647 := InvC_get hI 81 4 rfl rfl
  have r29 : (-2147483648) ≤ dt 81 5 ∧ dt 81 5 ≤ 2147483647 := InvC_get hI 81 5 rfl rfl
  have r30 : 0 ≤ dt 79 2 ∧ dt 79 2 ≤ 1 := InvC_get hI 79 2 rfl rfl
  have r31 : 0 ≤ dt 79 12 ∧ dt 79 12 ≤ 500 := InvC_get hI 79 12 rfl rfl
  have r32 : (-2147483648) ≤ dt 79 19 ∧ dt 79 19 ≤ 2147483647 := InvC_get hI 79 19 rfl rfl
  have r33 : (-2147483648) ≤ dt 79 21 ∧ dt 79 21 ≤ 2147483647 := InvC_get hI 79 21 rfl rfl
  refine go_to (k := 5) (pc' := 294) (L' := [some (.inr (.inr (some 3000))), some (.inr (.inr (some 0))), some (.inr (.inr (some 79))), some (.inl i)]) (st' := [.inl (i + 1), .inr (.inr (some 3000)), .inr (.inr (some 0))]) (w' := (SH, dt)) (fun _ => rfl) ?_
  have r34 := i32_R (xs ((i + 1).toNat))
  refine go_smp (L' := [some (.inr (.inr (some 3000))), some (.inr (.inr (some 0))), some (.inr (.inr (some 79))), some (.inl i)]) (st' := [.inl ((xs ((i + 1).toNat)).toInt), .inr (.inr (some 0))]) (w' := (SH, dt)) rfl rfl (s_iald (n := L) (f := fun j => (xs j).toInt) (am_scr hLL) ⟨by omega, by omega⟩) ?_
  refine go_to (k := 4) (pc' := 299) (L' := [some (.inr (.inr (some 3000))), some (.inr (.inr (some 0))), some (.inr (.inr (some 79))), some (.inl i)]) (st' := [.inl (i + 2), .inr (.inr (some 3000)), .inl ((xs ((i + 1).toNat)).toInt), .inr (.inr (some 0))]) (w' := (SH, dt)) (fun _ => rfl) ?_
  have r35 := i32_R (xs ((i + 2).toNat))
  refine go_smp (L' := [some (.inr (.inr (some 3000))), some (.inr (.inr (some 0))), some (.inr (.inr (some 79))), some (.inl i)]) (st' := [.inl ((xs ((i + 2).toNat)).toInt), .inl ((xs ((i + 1).toNat)).toInt), .inr (.inr (some 0))]) (w' := (SH, dt)) rfl rfl (s_iald (n := L) (f := fun j => (xs j).toInt) (am_scr hLL) ⟨by omega, by omega⟩) ?_
  refine go_call (Q' := _) rfl rfl rfl rfl rfl (sp_X5_text_f L xs sio (d + 15) dt hI  ((xs ((i + 1).toNat)).toInt) ⟨by omega, by omega⟩ ((xs ((i + 2).toNat)).toInt) ⟨by omega, by omega⟩ ) ?_
  rintro _ _ ⟨dt37, rfl, hI38, hF39, h36⟩
  refine ⟨rfl, ?_⟩
  have hF40 : Fr [0, 1, 2, 3, 4, 5, 6, 7, 8, 9, 10, 11, 12, 13, 14, 15, 16, 17, 18, 19, 20, 21, 22, 23, 24, 25, 26, 27, 28, 29, 30, 31, 32, 33, 34, 35, 36, 37, 38, 39, 40, 41, 42, 43, 44, 45, 46, 47, 48, 49, 50, 51, 52, 53, 54, 55, 56, 57, 58, 59, 60, 61, 62, 63, 64, 65, 66, 67, 68, 69, 70, 71, 72, 73, 74, 75, 76, 77, 78, 79, 80, 81, 82, 83, 84, 85, 86, 87, 88, 89, 90, 91, 92, 93, 94, 95, 96, 97, 98, 99, 100, 101, 102, 103, 104] dt dt37 := Fr_tr hF hF39 (by decide)
  have hM41 : MW (dt37 80) := MW_fr hM hF39 (by decide)
  have w42 : dt37 1 0 = dt 1 0 := hF39 1 (by decide) 0
  have w43 : dt37 7 3 = dt 7 3 := hF39 7 (by decide) 3
  have w44 : dt37 10 3 = dt 10 3 := hF39 10 (by decide) 3
  have w45 : dt37 12 3 = dt 12 3 := hF39 12 (by decide) 3
  have w46 : dt37 14 3 = dt 14 3 := hF39 14 (by decide) 3
  have w47 : dt37 16 3 = dt 16 3 := hF39 16 (by decide) 3
  have w48 : dt37 18 0 = dt 18 0 := hF39 18 (by decide) 0
  have w49 : dt37 24 3 = dt 24 3 := hF39 24 (by decide) 3
  have w50 : dt37 27 3 = dt 27 3 := hF39 27 (by decide) 3
  have w51 : dt37 29 3 = dt 29 3 := hF39 29 (by decide) 3
  have w52 : dt37 31 3 = dt 31 3 := hF39 31 (by decide) 3
  have w53 : dt37 33 3 = dt 33 3 := hF39 33 (by decide) 3
  have w54 : dt37 0 2 = dt 0 2 := hF39 0 (by decide) 2
  have w55 : dt37 80 0 = dt 80 0 := hF39 80 (by decide) 0
  have w56 : dt37 80 1 = dt 80 1 := hF39 80 (by decide) 1
  have w57 : dt37 80 2 = dt 80 2 := hF39 80 (by decide) 2
  have w58 : dt37 80 3 = dt 80 3 := hF39 80 (by decide) 3
  have w59 : dt37 80 4 = dt 80 4 := hF39 80 (by decide) 4
  have w60 : dt37 80 5 = dt 80 5 := hF39 80 (by decide) 5
  have w61 : dt37 81 0 = dt 81 0 := hF39 81 (by decide) 0
  have w62 : dt37 81 1 = dt 81 1 := hF39 81 (by decide) 1
  have w63 : dt37 81 2 = dt 81 2 := hF39 81 (by decide) 2
  have w64 : dt37 81 3 = dt 81 3 := hF39 81 (by decide) 3
  have w65 : dt37 81 4 = dt 81 4 := hF39 81 (by decide) 4
  have w66 : dt37 81 5 = dt 81 5 := hF39 81 (by decide) 5
  have w67 : dt37 79 2 = dt 79 2 := hF39 79 (by decide) 2
  have w68 : dt37 79 12 = dt 79 12 := hF39 79 (by decide) 12
  have w69 : dt37 79 19 = dt 79 19 := hF39 79 (by decide) 19
  have w70 : dt37 79 21 = dt 79 21 := hF39 79 (by decide) 21
  rcases h36 with ⟨v_h36, rfl, h36r, h36⟩
  obtain ⟨h36_0, h36_1, h36_2⟩ := h36
  have M271 : MW (dt37 81) := MW_frk hM2 hF39 (by decide)
  have C72 : ∀ j : Nat, dt37 36 j = dt 36 j := fun j => (hF39 36 (by decide) j).trans ((fun _ => rfl) j)
  have C73 : ∀ j : Nat, dt37 85 j = dt 85 j := fun j => (hF39 85 (by decide) j).trans ((fun _ => rfl) j)
  refine go_to (k := 6) (pc' := 309) (L' := [some (.inr (.inr (some 3000))), some (.inr (.inr (some 0))), some (.inr (.inr (some 79))), some (.inl i)]) (st' := [.inl (i + 1), .inr (.inr (some 3000)), .inr (.inr (some 79))]) (w' := (SH, dt37)) (fun _ => rfl) ?_
  have r74 := i32_R (xs ((i + 1).toNat))
  refine go_smp (L' := [some (.inr (.inr (some 3000))), some (.inr (.inr (some 0))), some (.inr (.inr (some 79))), some (.inl i)]) (st' := [.inl ((xs ((i + 1).toNat)).toInt), .inr (.inr (some 79))]) (w' := (SH, dt37)) rfl rfl (s_iald (n := L) (f := fun j => (xs j).toInt) (am_scr hLL) ⟨by omega, by omega⟩) ?_
  refine go_to (k := 4) (pc' := 314) (L' := [some (.inr (.inr (some 3000))), some (.inr (.inr (some 0))), some (.inr (.inr (some 79))), some (.inl i)]) (st' := [.inl (i + 2), .inr (.inr (some 3000)), .inl ((xs ((i + 1).toNat)).toInt), .inr (.inr (some 79))]) (w' := (SH, dt37)) (fun _ => rfl) ?_
  have r75 := i32_R (xs ((i + 2).toNat))
  refine go_smp (L' := [some (.inr (.inr (some 3000))), some (.inr (.inr (some 0))), some (.inr (.inr (some 79))), some (.inl i)]) (st' := [.inl ((xs ((i + 2).toNat)).toInt), .inl ((xs ((i + 1).toNat)).toInt), .inr (.inr (some 79))]) (w' := (SH, dt37)) rfl rfl (s_iald (n := L) (f := fun j => (xs j).toInt) (am_scr hLL) ⟨by omega, by omega⟩) ?_
  refine go_call (Q' := _) rfl rfl rfl rfl rfl (sp_X6_text_og L xs sio (d + 0) dt37 hI38 hM41  ((xs ((i + 1).toNat)).toInt) ⟨by omega, by omega⟩ ((xs ((i + 2).toNat)).toInt) ⟨by omega, by omega⟩ ) ?_
  rintro _ _ ⟨dt77, rfl, hI78, hF79, h76⟩
  refine ⟨rfl, ?_⟩
  have hF80 : Fr [0, 1, 2, 3, 4, 5, 6, 7, 8, 9, 10, 11, 12, 13, 14, 15, 16, 17, 18, 19, 20, 21, 22, 23, 24, 25, 26, 27, 28, 29, 30, 31, 32, 33, 34, 35, 36, 37, 38, 39, 40, 41, 42, 43, 44, 45, 46, 47, 48, 49, 50, 51, 52, 53, 54, 55, 56, 57, 58, 59, 60, 61, 62, 63, 64, 65, 66, 67, 68, 69, 70, 71, 72, 73, 74, 75, 76, 77, 78, 79, 80, 81, 82, 83, 84, 85, 86, 87, 88, 89, 90, 91, 92, 93, 94, 95, 96, 97, 98, 99, 100, 101, 102, 103, 104] dt dt77 := Fr_tr hF40 hF79 (by decide)
  have w81 : dt77 1 0 = dt37 1 0 := hF79 1 (by decide) 0
  have w82 : dt77 7 3 = dt37 7 3 := hF79 7 (by decide) 3
  have w83 : dt77 10 3 = dt37 10 3 := hF79 10 (by decide) 3
  have w84 : dt77 12 3 = dt37 12 3 := hF79 12 (by decide) 3
  have w85 : dt77 14 3 = dt37 14 3 := hF79 14 (by decide) 3
  have w86 : dt77 16 3 = dt37 16 3 := hF79 16 (by decide) 3
  have w87 : dt77 18 0 = dt37 18 0 := hF79 18 (by decide) 0
  have w88 : dt77 24 3 = dt37 24 3 := hF79 24 (by decide) 3
  have w89 : dt77 27 3 = dt37 27 3 := hF79 27 (by decide) 3
  have w90 : dt77 29 3 = dt37 29 3 := hF79 29 (by decide) 3
  have w91 : dt77 31 3 = dt37 31 3 := hF79 31 (by decide) 3
  have w92 : dt77 33 3 = dt37 33 3 := hF79 33 (by decide) 3
  have w93 : dt77 0 2 = dt37 0 2 := hF79 0 (by decide) 2
  have w94 : dt77 35 1 = dt37 35 1 := hF79 35 (by decide) 1
  have w95 : dt77 35 2 = dt37 35 2 := hF79 35 (by decide) 2
  have w96 : dt77 35 3 = dt37 35 3 := hF79 35 (by decide) 3
  have w97 : dt77 81 0 = dt37 81 0 := hF79 81 (by decide) 0
  have w98 : dt77 81 1 = dt37 81 1 := hF79 81 (by decide) 1
  have w99 : dt77 81 2 = dt37 81 2 := hF79 81 (by decide) 2
  have w100 : dt77 81 3 = dt37 81 3 := hF79 81 (by decide) 3
  have w101 : dt77 81 4 = dt37 81 4 := hF79 81 (by decide) 4
  have w102 : dt77 81 5 = dt37 81 5 := hF79 81 (by decide) 5
  rcases h76 with ⟨v_h76, rfl, h76r, h76⟩
  have hM103 : MW (dt77 80) := h76.2.2.1
  obtain ⟨h76_0, h76_1, h76_2, h76_3, h76_4, h76_5, h76_6, h76_7, h76_8, h76_9, h76_10, h76_11, h76_12⟩ := h76
  have M2104 : MW (dt77 81) := MW_frk M271 hF79 (by decide)
  have C105 : ∀ j : Nat, dt77 36 j = dt 36 j := fun j => (hF79 36 (by decide) j).trans (C72 j)
  have C106 : ∀ j : Nat, dt77 85 j = dt 85 j := fun j => (hF79 85 (by decide) j).trans (C73 j)
  have z107 := h76_11
  rw [show dt37 85 = dt 85 from funext C73, show dt37 79 12 = dt 79 12 by omega, ← mB_con (g := fun j => am_and (dt 36 j) 255) (g' := dt 85) hd0 (show dt 79 12 = dt 35 1 by omega), show dt 79 12 = dt 35 1 by omega] at z107
  have y108 := TRS_u h36_1 z107
  refine go_to (k := 2) (pc' := 1435) (L' := [some (.inr (.inr (some 3000))), some (.inr (.inr (some 0))), some (.inr (.inr (some 79))), some (.inl i)]) (st' := []) (w' := (SH, dt77)) (fun _ => rfl) ?_
  exact K dt77 hI78 hM103 M2104 (by first | omega | (simp only [*]; done) | simp only [*]) (by omega) (by omega) (by omega) (by omega) (by omega) (by omega) (by omega) (by omega) (by omega) (by omega) (by omega) (by omega) (by omega) (by omega) (by omega) (by first | exact hI | exact TPL_k hd0 C105 C106 (by omega) | (exfalso; omega))
set_option maxRecDepth 20000 in
set_option maxHeartbeats 8000000 in
theorem sp_case4 (L : Nat) (xs : Nat → Int32) (sio : Option Nat) (d : Nat) (Q : Option AV → am_W → Prop) (hLL : L ≤ 3072) (i : Int) (hi : 0 ≤ i ∧ i ≤ 3066) (hil : i ≤ (L : Int) - 6) (dt : Nat → Nat → Int) (hI : InvC dt) (hM : MW (dt 80)) (hM2 : MW (dt 81)) (hk0 : dt 1 0 = dt 80 0) (hk1 : dt 7 3 = dt 80 1) (hk2 : dt 10 3 = dt 80 2) (hk3 : dt 12 3 = dt 80 3) (hk4 : dt 14 3 = dt 80 4) (hk5 : dt 16 3 = dt 80 5) (hk6 : dt 18 0 = dt 81 0) (hk7 : dt 24 3 = dt 81 1) (hk8 : dt 27 3 = dt 81 2) (hk9 : dt 29 3 = dt 81 3) (hk10 : dt 31 3 = dt 81 4) (hk11 : dt 33 3 = dt 81 5) (hk12 : dt 0 2 = dt 79 2) (hk13 : dt 35 1 = dt 79 12) (hk14 : dt 35 2 = dt 79 19) (hk15 : dt 35 3 = dt 79 21) (hd0 : TPL (dt 36) (dt 85) (dt 35 1)) (K : ∀ (dt : Nat → Nat → Int) (hI : InvC dt) (hM : MW (dt 80)) (hM2 : MW (dt 81)) (hk0 : dt 1 0 = dt 80 0) (hk1 : dt 7 3 = dt 80 1) (hk2 : dt 10 3 = dt 80 2) (hk3 : dt 12 3 = dt 80 3) (hk4 : dt 14 3 = dt 80 4) (hk5 : dt 16 3 = dt 80 5) (hk6 : dt 18 0 = dt 81 0) (hk7 : dt 24 3 = dt 81 1) (hk8 : dt 27 3 = dt 81 2) (hk9 : dt 29 3 = dt 81 3) (hk10 : dt 31 3 = dt 81 4) (hk11 : dt 33 3 = dt 81 5) (hk12 : dt 0 2 = dt 79 2) (hk13 : dt 35 1 = dt 79 12) (hk14 : dt 35 2 = dt 79 19) (hk15 : dt 35 3 = dt 79 21) (hd0 : TPL (dt 36) (dt 85) (dt 35 1)), GO (am_XX L xs sio) (d + 39) 267 1435 [some (.inr (.inr (some 3000))), some (.inr (.inr (some 0))), some (.inr (.inr (some 79))), some (.inl i)] [] (SH, dt) Q) : GO (am_XX L xs sio) (d + 39) 267 322 [some (.inr (.inr (some 3000))), some (.inr (.inr (some 0))), some (.inr (.inr (some 79))), some (.inl i)] [] (SH, dt) Q := by
  have hF : Fr [0, 1, 2, 3, 4, 5, 6, 7, 8, 9, 10, 11, 12, 13, 14, 15, 16, 17, 18, 19, 20, 21, 22, 23, 24, 25, 26, 27, 28, 29, 30, 31, 32, 33, 34, 35, 36, 37, 38, 39, 40, 41, 42, 43, 44, 45, 46, 47, 48, 49, 50, 51, 52, 53, 54, 55, 56, 57, 58, 59, 60, 61, 62, 63, 64, 65, 66, 67, 68, 69, 70, 71, 72, 73, 74, 75, 76, 77, 78, 79, 80, 81, 82, 83, 84, 85, 86, 87, 88, 89, 90, 91, 92, 93, 94, 95, 96, 97, 98, 99, 100, 101, 102, 103, 104] dt dt := Fr_refl
  have r1 : (-2147483648) ≤ dt 1 0 ∧ dt 1 0 ≤ 2147483647 := InvC_get hI 1 0 rfl rfl
  have r2 : 0 ≤ dt 7 3 ∧ dt 7 3 ≤ 12 := InvC_get hI 7 3 rfl rfl
  have r3 : 0 ≤ dt 10 3 ∧ dt 10 3 ≤ 40 := InvC_get hI 10 3 rfl rfl
  have r4 : 0 ≤ dt 12 3 ∧ dt 12 3 ≤ 300 := InvC_get hI 12 3 rfl rfl
  have r5 : 0 ≤ dt 14 3 ∧ dt 14 3 ≤ 40 := InvC_get hI 14 3 rfl rfl
  have r6 : 0 ≤ dt 16 3 ∧ dt 16 3 ≤ 20 := InvC_get hI 16 3 rfl rfl
  have r7 : (-2147483648) ≤ dt 18 0 ∧ dt 18 0 ≤ 2147483647 := InvC_get hI 18 0 rfl rfl
  have r8 : 0 ≤ dt 24 3 ∧ dt 24 3 ≤ 12 := InvC_get hI 24 3 rfl rfl
  have r9 : 0 ≤ dt 27 3 ∧ dt 27 3 ≤ 40 := InvC_get hI 27 3 rfl rfl
  have r10 : 0 ≤ dt 29 3 ∧ dt 29 3 ≤ 300 := InvC_get hI 29 3 rfl rfl
  have r11 : 0 ≤ dt 31 3 ∧ dt 31 3 ≤ 40 := InvC_get hI 31 3 rfl rfl
  have r12 : 0 ≤ dt 33 3 ∧ dt 33 3 ≤ 20 := InvC_get hI 33 3 rfl rfl
  have r13 : 0 ≤ dt 0 2 ∧ dt 0 2 ≤ 1 := InvC_get hI 0 2 rfl rfl
  have r14 : 0 ≤ dt 35 1 ∧ dt 35 1 ≤ 500 := InvC_get hI 35 1 rfl rfl
  have r15 : (-2147483648) ≤ dt 35 2 ∧ dt 35 2 ≤ 2147483647 := InvC_get hI 35 2 rfl rfl
  have r16 : (-2147483648) ≤ dt 35 3 ∧ dt 35 3 ≤ 2147483647 := InvC_get hI 35 3 rfl rfl
  have r17 : (-2147483648) ≤ dt 80 0 ∧ dt 80 0 ≤ 2147483647 := InvC_get hI 80 0 rfl rfl
  have r18 : (-2147483648) ≤ dt 80 1 ∧ dt 80 1 ≤ 2147483647 := InvC_get hI 80 1 rfl rfl
  have r19 := MW_n hM
  have r20 : (-2147483648) ≤ dt 80 2 ∧ dt 80 2 ≤ 2147483647 := InvC_get hI 80 2 rfl rfl
  have r21 : (-2147483648) ≤ dt 80 3 ∧ dt 80 3 ≤ 2147483647 := InvC_get hI 80 3 rfl rfl
  have r22 : (-2147483648) ≤ dt 80 4 ∧ dt 80 4 ≤ 2147483647 := InvC_get hI 80 4 rfl rfl
  have r23 : (-2147483648) ≤ dt 80 5 ∧ dt 80 5 ≤ 2147483647 := InvC_get hI 80 5 rfl rfl
  have r24 : (-2147483648) ≤ dt 81 0 ∧ dt 81 0 ≤ 2147483647 := InvC_get hI 81 0 rfl rfl
  have r25 : (-2147483648) ≤ dt 81 1 ∧ dt 81 1 ≤ 2147483647 := InvC_get hI 81 1 rfl rfl
  have r26 : (-2147483648) ≤ dt 81 2 ∧ dt 81 2 ≤ 2147483647 := InvC_get hI 81 2 rfl rfl
  have r27 : (-2147483648) ≤ dt 81 3 ∧ dt 81 3 ≤ 2147483647 := InvC_get hI 81 3 rfl rfl
  have r28 : (-2147483648) ≤ dt 81 4 ∧ dt 81 4 ≤ 2147483647 := InvC_get hI 81 4 rfl rfl
  have r29 : (-2147483648) ≤ dt 81 5 ∧ dt 81 5 ≤ 2147483647 := InvC_get hI 81 5 rfl rfl
  have r30 : 0 ≤ dt 79 2 ∧ dt 79 2 ≤ 1 := InvC_get hI 79 2 rfl rfl
  have r31 : 0 ≤ dt 79 12 ∧ dt 79 12 ≤ 500 := InvC_get hI 79 12 rfl rfl
  have r32 : (-2147483648) ≤ dt 79 19 ∧ dt 79 19 ≤ 2147483647 := InvC_get hI 79 19 rfl rfl
  have r33 : (-2147483648) ≤ dt 79 21 ∧ dt 79 21 ≤ 2147483647 := InvC_get hI 79 21 rfl rfl
  refine go_to (k := 5) (pc' := 327) (L' := [some (.inr (.inr (some 3000))), some (.inr (.inr (some 0))), some (.inr (.inr (some 79))), some (.inl i)]) (st' := [.inl (i + 1), .inr (.inr (some 3000)), .inr (.inr (some 0))]) (w' := (SH, dt)) (fun _ => rfl) ?_
  have r34 := i32_R (xs ((i + 1).toNat))
  refine go_smp (L' := [some (.inr (.inr (some 3000))), some (.inr (.inr (some 0))), some (.inr (.inr (some 79))), some (.inl i)]) (st' := [.inl ((xs ((i + 1).toNat)).toInt), .inr (.inr (some 0))]) (w' := (SH, dt)) rfl rfl (s_iald (n := L) (f := fun j => (xs j).toInt) (am_scr hLL) ⟨by omega, by omega⟩) ?_
  refine go_call (Q' := _) rfl rfl rfl rfl rfl (sp_X5_fault_f L xs sio (d + 38) dt hI  ((xs ((i + 1).toNat)).toInt) ⟨by omega, by omega⟩ ) ?_
  rintro _ _ ⟨rfl, h35⟩
  refine ⟨rfl, ?_⟩
  rcases h35 with ⟨v_h35, rfl, h35r, h35⟩
  refine go_to (k := 5) (pc' := 336) (L' := [some (.inr (.inr (some 3000))), some (.inr (.inr (some 0))), some (.inr (.inr (some 79))), some (.inl i)]) (st' := [.inl (i + 1), .inr (.inr (some 3000)), .inr (.inr (some 79)), .inl v_h35]) (w' := (SH, dt)) (fun _ => rfl) ?_
  refine go_smp (L' := [some (.inr (.inr (some 3000))), some (.inr (.inr (some 0))), some (.inr (.inr (some 79))), some (.inl i)]) (st' := [.inl ((xs ((i + 1).toNat)).toInt), .inr (.inr (some 79)), .inl v_h35]) (w' := (SH, dt)) rfl rfl (s_iald (n := L) (f := fun j => (xs j).toInt) (am_scr hLL) ⟨by omega, by omega⟩) ?_
  refine go_call (Q' := _) rfl rfl rfl rfl rfl (sp_X6_fault_f L xs sio (d + 38) dt hI  ((xs ((i + 1).toNat)).toInt) ⟨by omega, by omega⟩ ) ?_
  rintro _ _ ⟨rfl, h36⟩
  refine ⟨rfl, ?_⟩
  rcases h36 with ⟨v_h36, rfl, h36r, h36⟩
  refine go_if (k := 1) (p1 := 1435) (p2 := 343) (L' := [some (.inr (.inr (some 3000))), some (.inr (.inr (some 0))), some (.inr (.inr (some 79))), some (.inl i)]) (st' := []) (w' := (SH, dt)) (fun _ => rfl) (c_eq (a := v_h35) (b := v_h36) ⟨by omega, by omega⟩ ⟨by omega, by omega⟩) (fun c37 => ?_) (fun c37 => ?_)
  · skip
    exact K dt hI hM hM2 (by first | omega | (simp only [*]; done) | simp only [*]) (by omega) (by omega) (by omega) (by omega) (by omega) (by omega) (by omega) (by omega) (by omega) (by omega) (by omega) (by omega) (by omega) (by omega) (by omega) (by first | exact hI | exact TPL_k hd0 (fun _ => rfl) (fun _ => rfl) (by omega) | (exfalso; omega))
  · skip
    exfalso; omega
set_option maxRecDepth 20000 in
set_option maxHeartbeats 8000000 in
theorem sp_case5 (L : Nat) (xs : Nat → Int32) (sio : Option Nat) (d : Nat) (Q : Option AV → am_W → Prop) (hLL : L ≤ 3072) (i : Int) (hi : 0 ≤ i ∧ i ≤ 3066) (hil : i ≤ (L : Int) - 6) (dt : Nat → Nat → Int) (hI : InvC dt) (hM : MW (dt 80)) (hM2 : MW (dt 81)) (hk0 : dt 1 0 = dt 80 0) (hk1 : dt 7 3 = dt 80 1) (hk2 : dt 10 3 = dt 80 2) (hk3 : dt 12 3 = dt 80 3) (hk4 : dt 14 3 = dt 80 4) (hk5 : dt 16 3 = dt 80 5) (hk6 : dt 18 0 = dt 81 0) (hk7 : dt 24 3 = dt 81 1) (hk8 : dt 27 3 = dt 81 2) (hk9 : dt 29 3 = dt 81 3) (hk10 : dt 31 3 = dt 81 4) (hk11 : dt 33 3 = dt 81 5) (hk12 : dt 0 2 = dt 79 2) (hk13 : dt 35 1 = dt 79 12) (hk14 : dt 35 2 = dt 79 19) (hk15 : dt 35 3 = dt 79 21) (hd0 : TPL (dt 36) (dt 85) (dt 35 1)) (K : ∀ (dt : Nat → Nat → Int) (hI : InvC dt) (hM : MW (dt 80)) (hM2 : MW (dt 81)) (hk0 : dt 1 0 = dt 80 0) (hk1 : dt 7 3 = dt 80 1) (hk2 : dt 10 3 = dt 80 2) (hk3 : dt 12 3 = dt 80 3) (hk4 : dt 14 3 = dt 80 4) (hk5 : dt 16 3 = dt 80 5) (hk6 : dt 18 0 = dt 81 0) (hk7 : dt 24 3 = dt 81 1) (hk8 : dt 27 3 = dt 81 2) (hk9 : dt 29 3 = dt 81 3) (hk10 : dt 31 3 = dt 81 4) (hk11 : dt 33 3 = dt 81 5) (hk12 : dt 0 2 = dt 79 2) (hk13 : dt 35 1 = dt 79 12) (hk14 : dt 35 2 = dt 79 19) (hk15 : dt 35 3 = dt 79 21) (hd0 : TPL (dt 36) (dt 85) (dt 35 1)), GO (am_XX L xs sio) (d + 39) 267 1435 [some (.inr (.inr (some 3000))), some (.inr (.inr (some 0))), some (.inr (.inr (some 79))), some (.inl i)] [] (SH, dt) Q) : GO (am_XX L xs sio) (d + 39) 267 345 [some (.inr (.inr (some 3000))), some (.inr (.inr (some 0))), some (.inr (.inr (some 79))), some (.inl i)] [] (SH, dt) Q := by
  have hF : Fr [0, 1, 2, 3, 4, 5, 6, 7, 8, 9, 10, 11, 12, 13, 14, 15, 16, 17, 18, 19, 20, 21, 22, 23, 24, 25, 26, 27, 28, 29, 30, 31, 32, 33, 34, 35, 36, 37, 38, 39, 40, 41, 42, 43, 44, 45, 46, 47, 48, 49, 50, 51, 52, 53, 54, 55, 56, 57, 58, 59, 60, 61, 62, 63, 64, 65, 66, 67, 68, 69, 70, 71, 72, 73, 74, 75, 76, 77, 78, 79, 80, 81, 82, 83, 84, 85, 86, 87, 88, 89, 90, 91, 92, 93, 94, 95, 96, 97, 98, 99, 100, 101, 102, 103, 104] dt dt := Fr_refl
  refine go_to (k := 5) (pc' := 350) (L' := [some (.inr (.inr (some 3000))), some (.inr (.inr (some 0))), some (.inr (.inr (some 79))), some (.inl i)]) (st' := [.inl (i + 1), .inr (.inr (some 3000)), .inr (.inr (some 0))]) (w' := (SH, dt)) (fun _ => rfl) ?_
  have r1 := i32_R (xs ((i + 1).toNat))
  refine go_smp (L' := [some (.inr (.inr (some 3000))), some (.inr (.inr (some 0))), some (.inr (.inr (some 79))), some (.inl i)]) (st' := [.inl ((xs ((i + 1).toNat)).toInt), .inr (.inr (some 0))]) (w' := (SH, dt)) rfl rfl (s_iald (n := L) (f := fun j => (xs j).toInt) (am_scr hLL) ⟨by omega, by omega⟩) ?_
  refine go_to (k := 4) (pc' := 355) (L' := [some (.inr (.inr (some 3000))), some (.inr (.inr (some 0))), some (.inr (.inr (some 79))), some (.inl i)]) (st' := [.inl (i + 2), .inr (.inr (some 3000)), .inl ((xs ((i + 1).toNat)).toInt), .inr (.inr (some 0))]) (w' := (SH, dt)) (fun _ => rfl) ?_
  have r2 := i32_R (xs ((i + 2).toNat))
  refine go_smp (L' := [some (.inr (.inr (some 3000))), some (.inr (.inr (some 0))), some (.inr (.inr (some 79))), some (.inl i)]) (st' := [.inl ((xs ((i + 2).toNat)).toInt), .inl ((xs ((i + 1).toNat)).toInt), .inr (.inr (some 0))]) (w' := (SH, dt)) rfl rfl (s_iald (n := L) (f := fun j => (xs j).toInt) (am_scr hLL) ⟨by omega, by omega⟩) ?_
  refine go_to (k := 4) (pc' := 360) (L' := [some (.inr (.inr (some 3000))), some (.inr (.inr (some 0))), some (.inr (.inr (some 79))), some (.inl i)]) (st' := [.inl (i + 3), .inr (.inr (some 3000)), .inl ((xs ((i + 2).toNat)).toInt), .inl ((xs ((i + 1).toNat)).toInt), .inr (.inr (some 0))]) (w' := (SH, dt)) (fun _ => rfl) ?_
  have r3 := i32_R (xs ((i + 3).toNat))
  refine go_smp (L' := [some (.inr (.inr (some 3000))), some (.inr (.inr (some 0))), some (.inr (.inr (some 79))), some (.inl i)]) (st' := [.inl ((xs ((i + 3).toNat)).toInt), .inl ((xs ((i + 2).toNat)).toInt), .inl ((xs ((i + 1).toNat)).toInt), .inr (.inr (some 0))]) (w' := (SH, dt)) rfl rfl (s_iald (n := L) (f := fun j => (xs j).toInt) (am_scr hLL) ⟨by omega, by omega⟩) ?_
  refine go_to (k := 4) (pc' := 365) (L' := [some (.inr (.inr (some 3000))), some (.inr (.inr (some 0))), some (.inr (.inr (some 79))), some (.inl i)]) (st' := [.inl (i + 4), .inr (.inr (some 3000)), .inl ((xs ((i + 3).toNat)).toInt), .inl ((xs ((i + 2).toNat)).toInt), .inl ((xs ((i + 1).toNat)).toInt), .inr (.inr (some 0))]) (w' := (SH, dt)) (fun _ => rfl) ?_
  have r4 := i32_R (xs ((i + 4).toNat))
  refine go_smp (L' := [some (.inr (.inr (some 3000))), some (.inr (.inr (some 0))), some (.inr (.inr (some 79))), some (.inl i)]) (st' := [.inl ((xs ((i + 4).toNat)).toInt), .inl ((xs ((i + 3).toNat)).toInt), .inl ((xs ((i + 2).toNat)).toInt), .inl ((xs ((i + 1).toNat)).toInt), .inr (.inr (some 0))]) (w' := (SH, dt)) rfl rfl (s_iald (n := L) (f := fun j => (xs j).toInt) (am_scr hLL) ⟨by omega, by omega⟩) ?_
  refine go_call (Q' := _) rfl rfl rfl rfl rfl (sp_X5_after L xs sio (d + 33) dt hI  ((xs ((i + 1).toNat)).toInt) ⟨by omega, by omega⟩ ((xs ((i + 2).toNat)).toInt) ⟨by omega, by omega⟩ ((xs ((i + 3).toNat)).toInt) ⟨by omega, by omega⟩ ((xs ((i + 4).toNat)).toInt) ⟨by omega, by omega⟩ ) ?_
  rintro _ _ ⟨dt6, rfl, hI7, hF8, h5⟩
  refine ⟨rfl, ?_⟩
  have hF9 : Fr [0, 1, 2, 3, 4, 5, 6, 7, 8, 9, 10, 11, 12, 13, 14, 15, 16, 17, 18, 19, 20, 21, 22, 23, 24, 25, 26, 27, 28, 29, 30, 31, 32, 33, 34, 35, 36, 37, 38, 39, 40, 41, 42, 43, 44, 45, 46, 47, 48, 49, 50, 51, 52, 53, 54, 55, 56, 57, 58, 59, 60, 61, 62, 63, 64, 65, 66, 67, 68, 69, 70, 71, 72, 73, 74, 75, 76, 77, 78, 79, 80, 81, 82, 83, 84, 85, 86, 87, 88, 89, 90, 91, 92, 93, 94, 95, 96, 97, 98, 99, 100, 101, 102, 103, 104] dt dt6 := Fr_tr hF hF8 (by decide)
  have hM10 : MW (dt6 80) := MW_fr hM hF8 (by decide)
  have w11 : dt6 1 0 = dt 1 0 := hF8 1 (by decide) 0
  have w12 : dt6 7 3 = dt 7 3 := hF8 7 (by decide) 3
  have w13 : dt6 10 3 = dt 10 3 := hF8 10 (by decide) 3
  have w14 : dt6 12 3 = dt 12 3 := hF8 12 (by decide) 3
  have w15 : dt6 14 3 = dt 14 3 := hF8 14 (by decide) 3
  have w16 : dt6 16 3 = dt 16 3 := hF8 16 (by decide) 3
  have w17 : dt6 18 0 = dt 18 0 := hF8 18 (by decide) 0
  have w18 : dt6 24 3 = dt 24 3 := hF8 24 (by decide) 3
  have w19 : dt6 27 3 = dt 27 3 := hF8 27 (by decide) 3
  have w20 : dt6 29 3 = dt 29 3 := hF8 29 (by decide) 3
  have w21 : dt6 31 3 = dt 31 3 := hF8 31 (by decide) 3
  have w22 : dt6 33 3 = dt 33 3 := hF8 33 (by decide) 3
  have w23 : dt6 0 2 = dt 0 2 := hF8 0 (by decide) 2
  have w24 : dt6 35 1 = dt 35 1 := hF8 35 (by decide) 1
  have w25 : dt6 35 2 = dt 35 2 := hF8 35 (by decide) 2
  have w26 : dt6 35 3 = dt 35 3 := hF8 35 (by decide) 3
  have w27 : dt6 80 0 = dt 80 0 := hF8 80 (by decide) 0
  have w28 : dt6 80 1 = dt 80 1 := hF8 80 (by decide) 1
  have w29 : dt6 80 2 = dt 80 2 := hF8 80 (by decide) 2
  have w30 : dt6 80 3 = dt 80 3 := hF8 80 (by decide) 3
  have w31 : dt6 80 4 = dt 80 4 := hF8 80 (by decide) 4
  have w32 : dt6 80 5 = dt 80 5 := hF8 80 (by decide) 5
  have w33 : dt6 81 0 = dt 81 0 := hF8 81 (by decide) 0
  have w34 : dt6 81 1 = dt 81 1 := hF8 81 (by decide) 1
  have w35 : dt6 81 2 = dt 81 2 := hF8 81 (by decide) 2
  have w36 : dt6 81 3 = dt 81 3 := hF8 81 (by decide) 3
  have w37 : dt6 81 4 = dt 81 4 := hF8 81 (by decide) 4
  have w38 : dt6 81 5 = dt 81 5 := hF8 81 (by decide) 5
  have w39 : dt6 79 2 = dt 79 2 := hF8 79 (by decide) 2
  have w40 : dt6 79 12 = dt 79 12 := hF8 79 (by decide) 12
  have w41 : dt6 79 19 = dt 79 19 := hF8 79 (by decide) 19
  have w42 : dt6 79 21 = dt 79 21 := hF8 79 (by decide) 21
  rcases h5 with ⟨v_h5, rfl, h5r, h5⟩
  have M243 : MW (dt6 81) := MW_frk hM2 hF8 (by decide)
  have C44 : ∀ j : Nat, dt6 36 j = dt 36 j := fun j => (hF8 36 (by decide) j).trans ((fun _ => rfl) j)
  have C45 : ∀ j : Nat, dt6 85 j = dt 85 j := fun j => (hF8 85 (by decide) j).trans ((fun _ => rfl) j)
  refine go_to (k := 6) (pc' := 375) (L' := [some (.inr (.inr (some 3000))), some (.inr (.inr (some 0))), some (.inr (.inr (some 79))), some (.inl i)]) (st' := [.inl (i + 1), .inr (.inr (some 3000)), .inr (.inr (some 79))]) (w' := (SH, dt6)) (fun _ => rfl) ?_
  have r46 := i32_R (xs ((i + 1).toNat))
  refine go_smp (L' := [some (.inr (.inr (some 3000))), some (.inr (.inr (some 0))), some (.inr (.inr (some 79))), some (.inl i)]) (st' := [.inl ((xs ((i + 1).toNat)).toInt), .inr (.inr (some 79))]) (w' := (SH, dt6)) rfl rfl (s_iald (n := L) (f := fun j => (xs j).toInt) (am_scr hLL) ⟨by omega, by omega⟩) ?_
  refine go_to (k := 4) (pc' := 380) (L' := [some (.inr (.inr (some 3000))), some (.inr (.inr (some 0))), some (.inr (.inr (some 79))), some (.inl i)]) (st' := [.inl (i + 2), .inr (.inr (some 3000)), .inl ((xs ((i + 1).toNat)).toInt), .inr (.inr (some 79))]) (w' := (SH, dt6)) (fun _ => rfl) ?_
  have r47 := i32_R (xs ((i + 2).toNat))
  refine go_smp (L' := [some (.inr (.inr (some 3000))), some (.inr (.inr (some 0))), some (.inr (.inr (some 79))), some (.inl i)]) (st' := [.inl ((xs ((i + 2).toNat)).toInt), .inl ((xs ((i + 1).toNat)).toInt), .inr (.inr (some 79))]) (w' := (SH, dt6)) rfl rfl (s_iald (n := L) (f := fun j => (xs j).toInt) (am_scr hLL) ⟨by omega, by omega⟩) ?_
  refine go_to (k := 4) (pc' := 385) (L' := [some (.inr (.inr (some 3000))), some (.inr (.inr (some 0))), some (.inr (.inr (some 79))), some (.inl i)]) (st' := [.inl (i + 3), .inr (.inr (some 3000)), .inl ((xs ((i + 2).toNat)).toInt), .inl ((xs ((i + 1).toNat)).toInt), .inr (.inr (some 79))]) (w' := (SH, dt6)) (fun _ => rfl) ?_
  have r48 := i32_R (xs ((i + 3).toNat))
  refine go_smp (L' := [some (.inr (.inr (some 3000))), some (.inr (.inr (some 0))), some (.inr (.inr (some 79))), some (.inl i)]) (st' := [.inl ((xs ((i + 3).toNat)).toInt), .inl ((xs ((i + 2).toNat)).toInt), .inl ((xs ((i + 1).toNat)).toInt), .inr (.inr (some 79))]) (w' := (SH, dt6)) rfl rfl (s_iald (n := L) (f := fun j => (xs j).toInt) (am_scr hLL) ⟨by omega, by omega⟩) ?_
  refine go_to (k := 4) (pc' := 390) (L' := [some (.inr (.inr (some 3000))), some (.inr (.inr (some 0))), some (.inr (.inr (some 79))), some (.inl i)]) (st' := [.inl (i + 4), .inr (.inr (some 3000)), .inl ((xs ((i + 3).toNat)).toInt), .inl ((xs ((i + 2).toNat)).toInt), .inl ((xs ((i + 1).toNat)).toInt), .inr (.inr (some 79))]) (w' := (SH, dt6)) (fun _ => rfl) ?_
  have r49 := i32_R (xs ((i + 4).toNat))
  refine go_smp (L' := [some (.inr (.inr (some 3000))), some (.inr (.inr (some 0))), some (.inr (.inr (some 79))), some (.inl i)]) (st' := [.inl ((xs ((i + 4).toNat)).toInt), .inl ((xs ((i + 3).toNat)).toInt), .inl ((xs ((i + 2).toNat)).toInt), .inl ((xs ((i + 1).toNat)).toInt), .inr (.inr (some 79))]) (w' := (SH, dt6)) rfl rfl (s_iald (n := L) (f := fun j => (xs j).toInt) (am_scr hLL) ⟨by omega, by omega⟩) ?_
  refine go_call (Q' := _) rfl rfl rfl rfl rfl (sp_X6_after L xs sio (d + 33) dt6 hI7 hM10  ((xs ((i + 1).toNat)).toInt) ⟨by omega, by omega⟩ ((xs ((i + 2).toNat)).toInt) ⟨by omega, by omega⟩ ((xs ((i + 3).toNat)).toInt) ⟨by omega, by omega⟩ ((xs ((i + 4).toNat)).toInt) ⟨by omega, by omega⟩ ) ?_
  rintro _ _ ⟨dt51, rfl, hI52, hF53, h50⟩
  refine ⟨rfl, ?_⟩
  have hF54 : Fr [0, 1, 2, 3, 4, 5, 6, 7, 8, 9, 10, 11, 12, 13, 14, 15, 16, 17, 18, 19, 20, 21, 22, 23, 24, 25, 26, 27, 28, 29, 30, 31, 32, 33, 34, 35, 36, 37, 38, 39, 40, 41, 42, 43, 44, 45, 46, 47, 48, 49, 50, 51, 52, 53, 54, 55, 56, 57, 58, 59, 60, 61, 62, 63, 64, 65, 66, 67, 68, 69, 70, 71, 72, 73, 74, 75, 76, 77, 78, 79, 80, 81, 82, 83, 84, 85, 86, 87, 88, 89, 90, 91, 92, 93, 94, 95, 96, 97, 98, 99, 100, 101, 102, 103, 104] dt dt51 := Fr_tr hF9 hF53 (by decide)
  have hM55 : MW (dt51 80) := MW_fr hM10 hF53 (by decide)
  have w56 : dt51 1 0 = dt6 1 0 := hF53 1 (by decide) 0
  have w57 : dt51 7 3 = dt6 7 3 := hF53 7 (by decide) 3
  have w58 : dt51 10 3 = dt6 10 3 := hF53 10 (by decide) 3
  have w59 : dt51 12 3 = dt6 12 3 := hF53 12 (by decide) 3
  have w60 : dt51 14 3 = dt6 14 3 := hF53 14 (by decide) 3
  have w61 : dt51 16 3 = dt6 16 3 := hF53 16 (by decide) 3
  have w62 : dt51 18 0 = dt6 18 0 := hF53 18 (by decide) 0
  have w63 : dt51 24 3 = dt6 24 3 := hF53 24 (by decide) 3
  have w64 : dt51 27 3 = dt6 27 3 := hF53 27 (by decide) 3
  have w65 : dt51 29 3 = dt6 29 3 := hF53 29 (by decide) 3
  have w66 : dt51 31 3 = dt6 31 3 := hF53 31 (by decide) 3
  have w67 : dt51 33 3 = dt6 33 3 := hF53 33 (by decide) 3
  have w68 : dt51 0 2 = dt6 0 2 := hF53 0 (by decide) 2
  have w69 : dt51 35 1 = dt6 35 1 := hF53 35 (by decide) 1
  have w70 : dt51 35 2 = dt6 35 2 := hF53 35 (by decide) 2
  have w71 : dt51 35 3 = dt6 35 3 := hF53 35 (by decide) 3
  have w72 : dt51 80 0 = dt6 80 0 := hF53 80 (by decide) 0
  have w73 : dt51 80 1 = dt6 80 1 := hF53 80 (by decide) 1
  have w74 : dt51 80 2 = dt6 80 2 := hF53 80 (by decide) 2
  have w75 : dt51 80 3 = dt6 80 3 := hF53 80 (by decide) 3
  have w76 : dt51 80 4 = dt6 80 4 := hF53 80 (by decide) 4
  have w77 : dt51 80 5 = dt6 80 5 := hF53 80 (by decide) 5
  have w78 : dt51 81 0 = dt6 81 0 := hF53 81 (by decide) 0
  have w79 : dt51 81 1 = dt6 81 1 := hF53 81 (by decide) 1
  have w80 : dt51 81 2 = dt6 81 2 := hF53 81 (by decide) 2
  have w81 : dt51 81 3 = dt6 81 3 := hF53 81 (by decide) 3
  have w82 : dt51 81 4 = dt6 81 4 := hF53 81 (by decide) 4
  have w83 : dt51 81 5 = dt6 81 5 := hF53 81 (by decide) 5
  have w84 : dt51 79 2 = dt6 79 2 := hF53 79 (by decide) 2
  have w85 : dt51 79 12 = dt6 79 12 := hF53 79 (by decide) 12
  have w86 : dt51 79 19 = dt6 79 19 := hF53 79 (by decide) 19
  have w87 : dt51 79 21 = dt6 79 21 := hF53 79 (by decide) 21
  rcases h50 with ⟨v_h50, rfl, h50r, h50⟩
  have M288 : MW (dt51 81) := MW_frk M243 hF53 (by decide)
  have C89 : ∀ j : Nat, dt51 36 j = dt 36 j := fun j => (hF53 36 (by decide) j).trans (C44 j)
  have C90 : ∀ j : Nat, dt51 85 j = dt 85 j := fun j => (hF53 85 (by decide) j).trans (C45 j)
  refine go_to (k := 2) (pc' := 1435) (L' := [some (.inr (.inr (some 3000))), some (.inr (.inr (some 0))), some (.inr (.inr (some 79))), some (.inl i)]) (st' := []) (w' := (SH, dt51)) (fun _ => rfl) ?_
  exact K dt51 hI52 hM55 M288 (by first | omega | (simp only [*]; done) | simp only [*]) (by omega) (by omega) (by omega) (by omega) (by omega) (by omega) (by omega) (by omega) (by omega) (by omega) (by omega) (by omega) (by omega) (by omega) (by omega) (by first | exact hI | exact TPL_k hd0 C89 C90 (by omega) | (exfalso; omega))
set_option maxRecDepth 20000 in
set_option maxHeartbeats 8000000 in
theorem sp_case6 (L : Nat) (xs : Nat → Int32) (sio : Option Nat) (d : Nat) (Q : Option AV → am_W → Prop) (hLL : L ≤ 3072) (i : Int) (hi : 0 ≤ i ∧ i ≤ 3066) (hil : i ≤ (L : Int) - 6) (dt : Nat → Nat → Int) (hI : InvC dt) (hM : MW (dt 80)) (hM2 : MW (dt 81)) (hk0 : dt 1 0 = dt 80 0) (hk1 : dt 7 3 = dt 80 1) (hk2 : dt 10 3 = dt 80 2) (hk3 : dt 12 3 = dt 80 3) (hk4 : dt 14 3 = dt 80 4) (hk5 : dt 16 3 = dt 80 5) (hk6 : dt 18 0 = dt 81 0) (hk7 : dt 24 3 = dt 81 1) (hk8 : dt 27 3 = dt 81 2) (hk9 : dt 29 3 = dt 81 3) (hk10 : dt 31 3 = dt 81 4) (hk11 : dt 33 3 = dt 81 5) (hk12 : dt 0 2 = dt 79 2) (hk13 : dt 35 1 = dt 79 12) (hk14 : dt 35 2 = dt 79 19) (hk15 : dt 35 3 = dt 79 21) (hd0 : TPL (dt 36) (dt 85) (dt 35 1)) (K : ∀ (dt : Nat → Nat → Int) (hI : InvC dt) (hM : MW (dt 80)) (hM2 : MW (dt 81)) (hk0 : dt 1 0 = dt 80 0) (hk1 : dt 7 3 = dt 80 1) (hk2 : dt 10 3 = dt 80 2) (hk3 : dt 12 3 = dt 80 3) (hk4 : dt 14 3 = dt 80 4) (hk5 : dt 16 3 = dt 80 5) (hk6 : dt 18 0 = dt 81 0) (hk7 : dt 24 3 = dt 81 1) (hk8 : dt 27 3 = dt 81 2) (hk9 : dt 29 3 = dt 81 3) (hk10 : dt 31 3 = dt 81 4) (hk11 : dt 33 3 = dt 81 5) (hk12 : dt 0 2 = dt 79 2) (hk13 : dt 35 1 = dt 79 12) (hk14 : dt 35 2 = dt 79 19) (hk15 : dt 35 3 = dt 79 21) (hd0 : TPL (dt 36) (dt 85) (dt 35 1)), GO (am_XX L xs sio) (d + 39) 267 1435 [some (.inr (.inr (some 3000))), some (.inr (.inr (some 0))), some (.inr (.inr (some 79))), some (.inl i)] [] (SH, dt) Q) : GO (am_XX L xs sio) (d + 39) 267 398 [some (.inr (.inr (some 3000))), some (.inr (.inr (some 0))), some (.inr (.inr (some 79))), some (.inl i)] [] (SH, dt) Q := by
  have hF : Fr [0, 1, 2, 3, 4, 5, 6, 7, 8, 9, 10, 11, 12, 13, 14, 15, 16, 17, 18, 19, 20, 21, 22, 23, 24, 25, 26, 27, 28, 29, 30, 31, 32, 33, 34, 35, 36, 37, 38, 39, 40, 41, 42, 43, 44, 45, 46, 47, 48, 49, 50, 51, 52, 53, 54, 55, 56, 57, 58, 59, 60, 61, 62, 63, 64, 65, 66, 67, 68, 69, 70, 71, 72, 73, 74, 75, 76, 77, 78, 79, 80, 81, 82, 83, 84, 85, 86, 87, 88, 89, 90, 91, 92, 93, 94, 95, 96, 97, 98, 99, 100, 101, 102, 103, 104] dt dt := Fr_refl
  refine go_to (k := 5) (pc' := 403) (L' := [some (.inr (.inr (some 3000))), some (.inr (.inr (some 0))), some (.inr (.inr (some 79))), some (.inl i)]) (st' := [.inl (i + 1), .inr (.inr (some 3000)), .inr (.inr (some 0))]) (w' := (SH, dt)) (fun _ => rfl) ?_
  have r1 := i32_R (xs ((i + 1).toNat))
  refine go_smp (L' := [some (.inr (.inr (some 3000))), some (.inr (.inr (some 0))), some (.inr (.inr (some 79))), some (.inl i)]) (st' := [.inl ((xs ((i + 1).toNat)).toInt), .inr (.inr (some 0))]) (w' := (SH, dt)) rfl rfl (s_iald (n := L) (f := fun j => (xs j).toInt) (am_scr hLL) ⟨by omega, by omega⟩) ?_
  refine go_to (k := 4) (pc' := 408) (L' := [some (.inr (.inr (some 3000))), some (.inr (.inr (some 0))), some (.inr (.inr (some 79))), some (.inl i)]) (st' := [.inl (i + 2), .inr (.inr (some 3000)), .inl ((xs ((i + 1).toNat)).toInt), .inr (.inr (some 0))]) (w' := (SH, dt)) (fun _ => rfl) ?_
  have r2 := i32_R (xs ((i + 2).toNat))
  refine go_smp (L' := [some (.inr (.inr (some 3000))), some (.inr (.inr (some 0))), some (.inr (.inr (some 79))), some (.inl i)]) (st' := [.inl ((xs ((i + 2).toNat)).toInt), .inl ((xs ((i + 1).toNat)).toInt), .inr (.inr (some 0))]) (w' := (SH, dt)) rfl rfl (s_iald (n := L) (f := fun j => (xs j).toInt) (am_scr hLL) ⟨by omega, by omega⟩) ?_
  refine go_to (k := 4) (pc' := 413) (L' := [some (.inr (.inr (some 3000))), some (.inr (.inr (some 0))), some (.inr (.inr (some 79))), some (.inl i)]) (st' := [.inl (i + 3), .inr (.inr (some 3000)), .inl ((xs ((i + 2).toNat)).toInt), .inl ((xs ((i + 1).toNat)).toInt), .inr (.inr (some 0))]) (w' := (SH, dt)) (fun _ => rfl) ?_
  have r3 := i32_R (xs ((i + 3).toNat))
  refine go_smp (L' := [some (.inr (.inr (some 3000))), some (.inr (.inr (some 0))), some (.inr (.inr (some 79))), some (.inl i)]) (st' := [.inl ((xs ((i + 3).toNat)).toInt), .inl ((xs ((i + 2).toNat)).toInt), .inl ((xs ((i + 1).toNat)).toInt), .inr (.inr (some 0))]) (w' := (SH, dt)) rfl rfl (s_iald (n := L) (f := fun j => (xs j).toInt) (am_scr hLL) ⟨by omega, by omega⟩) ?_
  refine go_to (k := 4) (pc' := 418) (L' := [some (.inr (.inr (some 3000))), some (.inr (.inr (some 0))), some (.inr (.inr (some 79))), some (.inl i)]) (st' := [.inl (i + 4), .inr (.inr (some 3000)), .inl ((xs ((i + 3).toNat)).toInt), .inl ((xs ((i + 2).toNat)).toInt), .inl ((xs ((i + 1).toNat)).toInt), .inr (.inr (some 0))]) (w' := (SH, dt)) (fun _ => rfl) ?_
  have r4 := i32_R (xs ((i + 4).toNat))
  refine go_smp (L' := [some (.inr (.inr (some 3000))), some (.inr (.inr (some 0))), some (.inr (.inr (some 79))), some (.inl i)]) (st' := [.inl ((xs ((i + 4).toNat)).toInt), .inl ((xs ((i + 3).toNat)).toInt), .inl ((xs ((i + 2).toNat)).toInt), .inl ((xs ((i + 1).toNat)).toInt), .inr (.inr (some 0))]) (w' := (SH, dt)) rfl rfl (s_iald (n := L) (f := fun j => (xs j).toInt) (am_scr hLL) ⟨by omega, by omega⟩) ?_
  refine go_call (Q' := _) rfl rfl rfl rfl rfl (sp_X5_thinks L xs sio (d + 33) dt hI  ((xs ((i + 1).toNat)).toInt) ⟨by omega, by omega⟩ ((xs ((i + 2).toNat)).toInt) ⟨by omega, by omega⟩ ((xs ((i + 3).toNat)).toInt) ⟨by omega, by omega⟩ ((xs ((i + 4).toNat)).toInt) ⟨by omega, by omega⟩ ) ?_
  rintro _ _ ⟨dt6, rfl, hI7, hF8, h5⟩
  refine ⟨rfl, ?_⟩
  have hF9 : Fr [0, 1, 2, 3, 4, 5, 6, 7, 8, 9, 10, 11, 12, 13, 14, 15, 16, 17, 18, 19, 20, 21, 22, 23, 24, 25, 26, 27, 28, 29, 30, 31, 32, 33, 34, 35, 36, 37, 38, 39, 40, 41, 42, 43, 44, 45, 46, 47, 48, 49, 50, 51, 52, 53, 54, 55, 56, 57, 58, 59, 60, 61, 62, 63, 64, 65, 66, 67, 68, 69, 70, 71, 72, 73, 74, 75, 76, 77, 78, 79, 80, 81, 82, 83, 84, 85, 86, 87, 88, 89, 90, 91, 92, 93, 94, 95, 96, 97, 98, 99, 100, 101, 102, 103, 104] dt dt6 := Fr_tr hF hF8 (by decide)
  have hM10 : MW (dt6 80) := MW_fr hM hF8 (by decide)
  have w11 : dt6 1 0 = dt 1 0 := hF8 1 (by decide) 0
  have w12 : dt6 7 3 = dt 7 3 := hF8 7 (by decide) 3
  have w13 : dt6 10 3 = dt 10 3 := hF8 10 (by decide) 3
  have w14 : dt6 12 3 = dt 12 3 := hF8 12 (by decide) 3
  have w15 : dt6 14 3 = dt 14 3 := hF8 14 (by decide) 3
  have w16 : dt6 16 3 = dt 16 3 := hF8 16 (by decide) 3
  have w17 : dt6 18 0 = dt 18 0 := hF8 18 (by decide) 0
  have w18 : dt6 24 3 = dt 24 3 := hF8 24 (by decide) 3
  have w19 : dt6 27 3 = dt 27 3 := hF8 27 (by decide) 3
  have w20 : dt6 29 3 = dt 29 3 := hF8 29 (by decide) 3
  have w21 : dt6 31 3 = dt 31 3 := hF8 31 (by decide) 3
  have w22 : dt6 33 3 = dt 33 3 := hF8 33 (by decide) 3
  have w23 : dt6 0 2 = dt 0 2 := hF8 0 (by decide) 2
  have w24 : dt6 35 1 = dt 35 1 := hF8 35 (by decide) 1
  have w25 : dt6 35 2 = dt 35 2 := hF8 35 (by decide) 2
  have w26 : dt6 35 3 = dt 35 3 := hF8 35 (by decide) 3
  have w27 : dt6 80 0 = dt 80 0 := hF8 80 (by decide) 0
  have w28 : dt6 80 1 = dt 80 1 := hF8 80 (by decide) 1
  have w29 : dt6 80 2 = dt 80 2 := hF8 80 (by decide) 2
  have w30 : dt6 80 3 = dt 80 3 := hF8 80 (by decide) 3
  have w31 : dt6 80 4 = dt 80 4 := hF8 80 (by decide) 4
  have w32 : dt6 80 5 = dt 80 5 := hF8 80 (by decide) 5
  have w33 : dt6 81 0 = dt 81 0 := hF8 81 (by decide) 0
  have w34 : dt6 81 1 = dt 81 1 := hF8 81 (by decide) 1
  have w35 : dt6 81 2 = dt 81 2 := hF8 81 (by decide) 2
  have w36 : dt6 81 3 = dt 81 3 := hF8 81 (by decide) 3
  have w37 : dt6 81 4 = dt 81 4 := hF8 81 (by decide) 4
  have w38 : dt6 81 5 = dt 81 5 := hF8 81 (by decide) 5
  have w39 : dt6 79 2 = dt 79 2 := hF8 79 (by decide) 2
  have w40 : dt6 79 12 = dt 79 12 := hF8 79 (by decide) 12
  have w41 : dt6 79 19 = dt 79 19 := hF8 79 (by decide) 19
  have w42 : dt6 79 21 = dt 79 21 := hF8 79 (by decide) 21
  rcases h5 with ⟨v_h5, rfl, h5r, h5⟩
  have M243 : MW (dt6 81) := MW_frk hM2 hF8 (by decide)
  have C44 : ∀ j : Nat, dt6 36 j = dt 36 j := fun j => (hF8 36 (by decide) j).trans ((fun _ => rfl) j)
  have C45 : ∀ j : Nat, dt6 85 j = dt 85 j := fun j => (hF8 85 (by decide) j).trans ((fun _ => rfl) j)
  refine go_to (k := 6) (pc' := 428) (L' := [some (.inr (.inr (some 3000))), some (.inr (.inr (some 0))), some (.inr (.inr (some 79))), some (.inl i)]) (st' := [.inl (i + 1), .inr (.inr (some 3000)), .inr (.inr (some 79))]) (w' := (SH, dt6)) (fun _ => rfl) ?_
  have r46 := i32_R (xs ((i + 1).toNat))
  refine go_smp (L' := [some (.inr (.inr (some 3000))), some (.inr (.inr (some 0))), some (.inr (.inr (some 79))), some (.inl i)]) (st' := [.inl ((xs ((i + 1).toNat)).toInt), .inr (.inr (some 79))]) (w' := (SH, dt6)) rfl rfl (s_iald (n := L) (f := fun j => (xs j).toInt) (am_scr hLL) ⟨by omega, by omega⟩) ?_
  refine go_to (k := 4) (pc' := 433) (L' := [some (.inr (.inr (some 3000))), some (.inr (.inr (some 0))), some (.inr (.inr (some 79))), some (.inl i)]) (st' := [.inl (i + 2), .inr (.inr (some 3000)), .inl ((xs ((i + 1).toNat)).toInt), .inr (.inr (some 79))]) (w' := (SH, dt6)) (fun _ => rfl) ?_
  have r47 := i32_R (xs ((i + 2).toNat))
  refine go_smp (L' := [some (.inr (.inr (some 3000))), some (.inr (.inr (some 0))), some (.inr (.inr (some 79))), some (.inl i)]) (st' := [.inl ((xs ((i + 2).toNat)).toInt), .inl ((xs ((i + 1).toNat)).toInt), .inr (.inr (some 79))]) (w' := (SH, dt6)) rfl rfl (s_iald (n := L) (f := fun j => (xs j).toInt) (am_scr hLL) ⟨by omega, by omega⟩) ?_
  refine go_to (k := 4) (pc' := 438) (L' := [some (.inr (.inr (some 3000))), some (.inr (.inr (some 0))), some (.inr (.inr (some 79))), some (.inl i)]) (st' := [.inl (i + 3), .inr (.inr (some 3000)), .inl ((xs ((i + 2).toNat)).toInt), .inl ((xs ((i + 1).toNat)).toInt), .inr (.inr (some 79))]) (w' := (SH, dt6)) (fun _ => rfl) ?_
  have r48 := i32_R (xs ((i + 3).toNat))
  refine go_smp (L' := [some (.inr (.inr (some 3000))), some (.inr (.inr (some 0))), some (.inr (.inr (some 79))), some (.inl i)]) (st' := [.inl ((xs ((i + 3).toNat)).toInt), .inl ((xs ((i + 2).toNat)).toInt), .inl ((xs ((i + 1).toNat)).toInt), .inr (.inr (some 79))]) (w' := (SH, dt6)) rfl rfl (s_iald (n := L) (f := fun j => (xs j).toInt) (am_scr hLL) ⟨by omega, by omega⟩) ?_
  refine go_to (k := 4) (pc' := 443) (L' := [some (.inr (.inr (some 3000))), some (.inr (.inr (some 0))), some (.inr (.inr (some 79))), some (.inl i)]) (st' := [.inl (i + 4), .inr (.inr (some 3000)), .inl ((xs ((i + 3).toNat)).toInt), .inl ((xs ((i + 2).toNat)).toInt), .inl ((xs ((i + 1).toNat)).toInt), .inr (.inr (some 79))]) (w' := (SH, dt6)) (fun _ => rfl) ?_
  have r49 := i32_R (xs ((i + 4).toNat))
  refine go_smp (L' := [some (.inr (.inr (some 3000))), some (.inr (.inr (some 0))), some (.inr (.inr (some 79))), some (.inl i)]) (st' := [.inl ((xs ((i + 4).toNat)).toInt), .inl ((xs ((i + 3).toNat)).toInt), .inl ((xs ((i + 2).toNat)).toInt), .inl ((xs ((i + 1).toNat)).toInt), .inr (.inr (some 79))]) (w' := (SH, dt6)) rfl rfl (s_iald (n := L) (f := fun j => (xs j).toInt) (am_scr hLL) ⟨by omega, by omega⟩) ?_
  refine go_call (Q' := _) rfl rfl rfl rfl rfl (sp_X6_thinks L xs sio (d + 33) dt6 hI7 hM10  ((xs ((i + 1).toNat)).toInt) ⟨by omega, by omega⟩ ((xs ((i + 2).toNat)).toInt) ⟨by omega, by omega⟩ ((xs ((i + 3).toNat)).toInt) ⟨by omega, by omega⟩ ((xs ((i + 4).toNat)).toInt) ⟨by omega, by omega⟩ ) ?_
  rintro _ _ ⟨dt51, rfl, hI52, hF53, h50⟩
  refine ⟨rfl, ?_⟩
  have hF54 : Fr [0, 1, 2, 3, 4, 5, 6, 7, 8, 9, 10, 11, 12, 13, 14, 15, 16, 17, 18, 19, 20, 21, 22, 23, 24, 25, 26, 27, 28, 29, 30, 31, 32, 33, 34, 35, 36, 37, 38, 39, 40, 41, 42, 43, 44, 45, 46, 47, 48, 49, 50, 51, 52, 53, 54, 55, 56, 57, 58, 59, 60, 61, 62, 63, 64, 65, 66, 67, 68, 69, 70, 71, 72, 73, 74, 75, 76, 77, 78, 79, 80, 81, 82, 83, 84, 85, 86, 87, 88, 89, 90, 91, 92, 93, 94, 95, 96, 97, 98, 99, 100, 101, 102, 103, 104] dt dt51 := Fr_tr hF9 hF53 (by decide)
  have hM55 : MW (dt51 80) := MW_fr hM10 hF53 (by decide)
  have w56 : dt51 1 0 = dt6 1 0 := hF53 1 (by decide) 0
  have w57 : dt51 7 3 = dt6 7 3 := hF53 7 (by decide) 3
  have w58 : dt51 10 3 = dt6 10 3 := hF53 10 (by decide) 3
  have w59 : dt51 12 3 = dt6 12 3 := hF53 12 (by decide) 3
  have w60 : dt51 14 3 = dt6 14 3 := hF53 14 (by decide) 3
  have w61 : dt51 16 3 = dt6 16 3 := hF53 16 (by decide) 3
  have w62 : dt51 18 0 = dt6 18 0 := hF53 18 (by decide) 0
  have w63 : dt51 24 3 = dt6 24 3 := hF53 24 (by decide) 3
  have w64 : dt51 27 3 = dt6 27 3 := hF53 27 (by decide) 3
  have w65 : dt51 29 3 = dt6 29 3 := hF53 29 (by decide) 3
  have w66 : dt51 31 3 = dt6 31 3 := hF53 31 (by decide) 3
  have w67 : dt51 33 3 = dt6 33 3 := hF53 33 (by decide) 3
  have w68 : dt51 0 2 = dt6 0 2 := hF53 0 (by decide) 2
  have w69 : dt51 35 1 = dt6 35 1 := hF53 35 (by decide) 1
  have w70 : dt51 35 2 = dt6 35 2 := hF53 35 (by decide) 2
  have w71 : dt51 35 3 = dt6 35 3 := hF53 35 (by decide) 3
  have w72 : dt51 80 0 = dt6 80 0 := hF53 80 (by decide) 0
  have w73 : dt51 80 1 = dt6 80 1 := hF53 80 (by decide) 1
  have w74 : dt51 80 2 = dt6 80 2 := hF53 80 (by decide) 2
  have w75 : dt51 80 3 = dt6 80 3 := hF53 80 (by decide) 3
  have w76 : dt51 80 4 = dt6 80 4 := hF53 80 (by decide) 4
  have w77 : dt51 80 5 = dt6 80 5 := hF53 80 (by decide) 5
  have w78 : dt51 81 0 = dt6 81 0 := hF53 81 (by decide) 0
  have w79 : dt51 81 1 = dt6 81 1 := hF53 81 (by decide) 1
  have w80 : dt51 81 2 = dt6 81 2 := hF53 81 (by decide) 2
  have w81 : dt51 81 3 = dt6 81 3 := hF53 81 (by decide) 3
  have w82 : dt51 81 4 = dt6 81 4 := hF53 81 (by decide) 4
  have w83 : dt51 81 5 = dt6 81 5 := hF53 81 (by decide) 5
  have w84 : dt51 79 2 = dt6 79 2 := hF53 79 (by decide) 2
  have w85 : dt51 79 12 = dt6 79 12 := hF53 79 (by decide) 12
  have w86 : dt51 79 19 = dt6 79 19 := hF53 79 (by decide) 19
  have w87 : dt51 79 21 = dt6 79 21 := hF53 79 (by decide) 21
  rcases h50 with ⟨v_h50, rfl, h50r, h50⟩
  have M288 : MW (dt51 81) := MW_frk M243 hF53 (by decide)
  have C89 : ∀ j : Nat, dt51 36 j = dt 36 j := fun j => (hF53 36 (by decide) j).trans (C44 j)
  have C90 : ∀ j : Nat, dt51 85 j = dt 85 j := fun j => (hF53 85 (by decide) j).trans (C45 j)
  refine go_to (k := 2) (pc' := 1435) (L' := [some (.inr (.inr (some 3000))), some (.inr (.inr (some 0))), some (.inr (.inr (some 79))), some (.inl i)]) (st' := []) (w' := (SH, dt51)) (fun _ => rfl) ?_
  exact K dt51 hI52 hM55 M288 (by first | omega | (simp only [*]; done) | simp only [*]) (by omega) (by omega) (by omega) (by omega) (by omega) (by omega) (by omega) (by omega) (by omega) (by omega) (by omega) (by omega) (by omega) (by omega) (by omega) (by first | exact hI | exact TPL_k hd0 C89 C90 (by omega) | (exfalso; omega))
set_option maxRecDepth 20000 in
set_option maxHeartbeats 8000000 in
theorem sp_case7 (L : Nat) (xs : Nat → Int32) (sio : Option Nat) (d : Nat) (Q : Option AV → am_W → Prop) (hLL : L ≤ 3072) (i : Int) (hi : 0 ≤ i ∧ i ≤ 3066) (hil : i ≤ (L : Int) - 6) (dt : Nat → Nat → Int) (hI : InvC dt) (hM : MW (dt 80)) (hM2 : MW (dt 81)) (hk0 : dt 1 0 = dt 80 0) (hk1 : dt 7 3 = dt 80 1) (hk2 : dt 10 3 = dt 80 2) (hk3 : dt 12 3 = dt 80 3) (hk4 : dt 14 3 = dt 80 4) (hk5 : dt 16 3 = dt 80 5) (hk6 : dt 18 0 = dt 81 0) (hk7 : dt 24 3 = dt 81 1) (hk8 : dt 27 3 = dt 81 2) (hk9 : dt 29 3 = dt 81 3) (hk10 : dt 31 3 = dt 81 4) (hk11 : dt 33 3 = dt 81 5) (hk12 : dt 0 2 = dt 79 2) (hk13 : dt 35 1 = dt 79 12) (hk14 : dt 35 2 = dt 79 19) (hk15 : dt 35 3 = dt 79 21) (hd0 : TPL (dt 36) (dt 85) (dt 35 1)) (K : ∀ (dt : Nat → Nat → Int) (hI : InvC dt) (hM : MW (dt 80)) (hM2 : MW (dt 81)) (hk0 : dt 1 0 = dt 80 0) (hk1 : dt 7 3 = dt 80 1) (hk2 : dt 10 3 = dt 80 2) (hk3 : dt 12 3 = dt 80 3) (hk4 : dt 14 3 = dt 80 4) (hk5 : dt 16 3 = dt 80 5) (hk6 : dt 18 0 = dt 81 0) (hk7 : dt 24 3 = dt 81 1) (hk8 : dt 27 3 = dt 81 2) (hk9 : dt 29 3 = dt 81 3) (hk10 : dt 31 3 = dt 81 4) (hk11 : dt 33 3 = dt 81 5) (hk12 : dt 0 2 = dt 79 2) (hk13 : dt 35 1 = dt 79 12) (hk14 : dt 35 2 = dt 79 19) (hk15 : dt 35 3 = dt 79 21) (hd0 : TPL (dt 36) (dt 85) (dt 35 1)), GO (am_XX L xs sio) (d + 39) 267 1435 [some (.inr (.inr (some 3000))), some (.inr (.inr (some 0))), some (.inr (.inr (some 79))), some (.inl i)] [] (SH, dt) Q) : GO (am_XX L xs sio) (d + 39) 267 451 [some (.inr (.inr (some 3000))), some (.inr (.inr (some 0))), some (.inr (.inr (some 79))), some (.inl i)] [] (SH, dt) Q := by
  have hF : Fr [0, 1, 2, 3, 4, 5, 6, 7, 8, 9, 10, 11, 12, 13, 14, 15, 16, 17, 18, 19, 20, 21, 22, 23, 24, 25, 26, 27, 28, 29, 30, 31, 32, 33, 34, 35, 36, 37, 38, 39, 40, 41, 42, 43, 44, 45, 46, 47, 48, 49, 50, 51, 52, 53, 54, 55, 56, 57, 58, 59, 60, 61, 62, 63, 64, 65, 66, 67, 68, 69, 70, 71, 72, 73, 74, 75, 76, 77, 78, 79, 80, 81, 82, 83, 84, 85, 86, 87, 88, 89, 90, 91, 92, 93, 94, 95, 96, 97, 98, 99, 100, 101, 102, 103, 104] dt dt := Fr_refl
  refine go_to (k := 5) (pc' := 456) (L' := [some (.inr (.inr (some 3000))), some (.inr (.inr (some 0))), some (.inr (.inr (some 79))), some (.inl i)]) (st' := [.inl (i + 1), .inr (.inr (some 3000)), .inr (.inr (some 0))]) (w' := (SH, dt)) (fun _ => rfl) ?_
  have r1 := i32_R (xs ((i + 1).toNat))
  refine go_smp (L' := [some (.inr (.inr (some 3000))), some (.inr (.inr (some 0))), some (.inr (.inr (some 79))), some (.inl i)]) (st' := [.inl ((xs ((i + 1).toNat)).toInt), .inr (.inr (some 0))]) (w' := (SH, dt)) rfl rfl (s_iald (n := L) (f := fun j => (xs j).toInt) (am_scr hLL) ⟨by omega, by omega⟩) ?_
  refine go_to (k := 4) (pc' := 461) (L' := [some (.inr (.inr (some 3000))), some (.inr (.inr (some 0))), some (.inr (.inr (some 79))), some (.inl i)]) (st' := [.inl (i + 2), .inr (.inr (some 3000)), .inl ((xs ((i + 1).toNat)).toInt), .inr (.inr (some 0))]) (w' := (SH, dt)) (fun _ => rfl) ?_
  have r2 := i32_R (xs ((i + 2).toNat))
  refine go_smp (L' := [some (.inr (.inr (some 3000))), some (.inr (.inr (some 0))), some (.inr (.inr (some 79))), some (.inl i)]) (st' := [.inl ((xs ((i + 2).toNat)).toInt), .inl ((xs ((i + 1).toNat)).toInt), .inr (.inr (some 0))]) (w' := (SH, dt)) rfl rfl (s_iald (n := L) (f := fun j => (xs j).toInt) (am_scr hLL) ⟨by omega, by omega⟩) ?_
  refine go_to (k := 4) (pc' := 466) (L' := [some (.inr (.inr (some 3000))), some (.inr (.inr (some 0))), some (.inr (.inr (some 79))), some (.inl i)]) (st' := [.inl (i + 3), .inr (.inr (some 3000)), .inl ((xs ((i + 2).toNat)).toInt), .inl ((xs ((i + 1).toNat)).toInt), .inr (.inr (some 0))]) (w' := (SH, dt)) (fun _ => rfl) ?_
  have r3 := i32_R (xs ((i + 3).toNat))
  refine go_smp (L' := [some (.inr (.inr (some 3000))), some (.inr (.inr (some 0))), some (.inr (.inr (some 79))), some (.inl i)]) (st' := [.inl ((xs ((i + 3).toNat)).toInt), .inl ((xs ((i + 2).toNat)).toInt), .inl ((xs ((i + 1).toNat)).toInt), .inr (.inr (some 0))]) (w' := (SH, dt)) rfl rfl (s_iald (n := L) (f := fun j => (xs j).toInt) (am_scr hLL) ⟨by omega, by omega⟩) ?_
  refine go_call (Q' := _) rfl rfl rfl rfl rfl (sp_X5_here L xs sio (d + 33) dt hI  ((xs ((i + 1).toNat)).toInt) ⟨by omega, by omega⟩ ((xs ((i + 2).toNat)).toInt) ⟨by omega, by omega⟩ ((xs ((i + 3).toNat)).toInt) ⟨by omega, by omega⟩ ) ?_
  rintro _ _ ⟨dt5, rfl, hI6, hF7, h4⟩
  refine ⟨rfl, ?_⟩
  have hF8 : Fr [0, 1, 2, 3, 4, 5, 6, 7, 8, 9, 10, 11, 12, 13, 14, 15, 16, 17, 18, 19, 20, 21, 22, 23, 24, 25, 26, 27, 28, 29, 30, 31, 32, 33, 34, 35, 36, 37, 38, 39, 40, 41, 42, 43, 44, 45, 46, 47, 48, 49, 50, 51, 52, 53, 54, 55, 56, 57, 58, 59, 60, 61, 62, 63, 64, 65, 66, 67, 68, 69, 70, 71, 72, 73, 74, 75, 76, 77, 78, 79, 80, 81, 82, 83, 84, 85, 86, 87, 88, 89, 90, 91, 92, 93, 94, 95, 96, 97, 98, 99, 100, 101, 102, 103, 104] dt dt5 := Fr_tr hF hF7 (by decide)
  have hM9 : MW (dt5 80) := MW_fr hM hF7 (by decide)
  have w10 : dt5 1 0 = dt 1 0 := hF7 1 (by decide) 0
  have w11 : dt5 7 3 = dt 7 3 := hF7 7 (by decide) 3
  have w12 : dt5 10 3 = dt 10 3 := hF7 10 (by decide) 3
  have w13 : dt5 12 3 = dt 12 3 := hF7 12 (by decide) 3
  have w14 : dt5 14 3 = dt 14 3 := hF7 14 (by decide) 3
  have w15 : dt5 16 3 = dt 16 3 := hF7 16 (by decide) 3
  have w16 : dt5 18 0 = dt 18 0 := hF7 18 (by decide) 0
  have w17 : dt5 24 3 = dt 24 3 := hF7 24 (by decide) 3
  have w18 : dt5 27 3 = dt 27 3 := hF7 27 (by decide) 3
  have w19 : dt5 29 3 = dt 29 3 := hF7 29 (by decide) 3
  have w20 : dt5 31 3 = dt 31 3 := hF7 31 (by decide) 3
  have w21 : dt5 33 3 = dt 33 3 := hF7 33 (by decide) 3
  have w22 : dt5 0 2 = dt 0 2 := hF7 0 (by decide) 2
  have w23 : dt5 35 1 = dt 35 1 := hF7 35 (by decide) 1
  have w24 : dt5 35 2 = dt 35 2 := hF7 35 (by decide) 2
  have w25 : dt5 35 3 = dt 35 3 := hF7 35 (by decide) 3
  have w26 : dt5 80 0 = dt 80 0 := hF7 80 (by decide) 0
  have w27 : dt5 80 1 = dt 80 1 := hF7 80 (by decide) 1
  have w28 : dt5 80 2 = dt 80 2 := hF7 80 (by decide) 2
  have w29 : dt5 80 3 = dt 80 3 := hF7 80 (by decide) 3
  have w30 : dt5 80 4 = dt 80 4 := hF7 80 (by decide) 4
  have w31 : dt5 80 5 = dt 80 5 := hF7 80 (by decide) 5
  have w32 : dt5 81 0 = dt 81 0 := hF7 81 (by decide) 0
  have w33 : dt5 81 1 = dt 81 1 := hF7 81 (by decide) 1
  have w34 : dt5 81 2 = dt 81 2 := hF7 81 (by decide) 2
  have w35 : dt5 81 3 = dt 81 3 := hF7 81 (by decide) 3
  have w36 : dt5 81 4 = dt 81 4 := hF7 81 (by decide) 4
  have w37 : dt5 81 5 = dt 81 5 := hF7 81 (by decide) 5
  have w38 : dt5 79 2 = dt 79 2 := hF7 79 (by decide) 2
  have w39 : dt5 79 12 = dt 79 12 := hF7 79 (by decide) 12
  have w40 : dt5 79 19 = dt 79 19 := hF7 79 (by decide) 19
  have w41 : dt5 79 21 = dt 79 21 := hF7 79 (by decide) 21
  rcases h4 with ⟨v_h4, rfl, h4r, h4⟩
  have M242 : MW (dt5 81) := MW_frk hM2 hF7 (by decide)
  have C43 : ∀ j : Nat, dt5 36 j = dt 36 j := fun j => (hF7 36 (by decide) j).trans ((fun _ => rfl) j)
  have C44 : ∀ j : Nat, dt5 85 j = dt 85 j := fun j => (hF7 85 (by decide) j).trans ((fun _ => rfl) j)
  refine go_to (k := 6) (pc' := 476) (L' := [some (.inr (.inr (some 3000))), some (.inr (.inr (some 0))), some (.inr (.inr (some 79))), some (.inl i)]) (st' := [.inl (i + 1), .inr (.inr (some 3000)), .inr (.inr (some 79))]) (w' := (SH, dt5)) (fun _ => rfl) ?_
  have r45 := i32_R (xs ((i + 1).toNat))
  refine go_smp (L' := [some (.inr (.inr (some 3000))), some (.inr (.inr (some 0))), some (.inr (.inr (some 79))), some (.inl i)]) (st' := [.inl ((xs ((i + 1).toNat)).toInt), .inr (.inr (some 79))]) (w' := (SH, dt5)) rfl rfl (s_iald (n := L) (f := fun j => (xs j).toInt) (am_scr hLL) ⟨by omega, by omega⟩) ?_
  refine go_to (k := 4) (pc' := 481) (L' := [some (.inr (.inr (some 3000))), some (.inr (.inr (some 0))), some (.inr (.inr (some 79))), some (.inl i)]) (st' := [.inl (i + 2), .inr (.inr (some 3000)), .inl ((xs ((i + 1).toNat)).toInt), .inr (.inr (some 79))]) (w' := (SH, dt5)) (fun _ => rfl) ?_
  have r46 := i32_R (xs ((i + 2).toNat))
  refine go_smp (L' := [some (.inr (.inr (some 3000))), some (.inr (.inr (some 0))), some (.inr (.inr (some 79))), some (.inl i)]) (st' := [.inl ((xs ((i + 2).toNat)).toInt), .inl ((xs ((i + 1).toNat)).toInt), .inr (.inr (some 79))]) (w' := (SH, dt5)) rfl rfl (s_iald (n := L) (f := fun j => (xs j).toInt) (am_scr hLL) ⟨by omega, by omega⟩) ?_
  refine go_to (k := 4) (pc' := 486) (L' := [some (.inr (.inr (some 3000))), some (.inr (.inr (some 0))), some (.inr (.inr (some 79))), some (.inl i)]) (st' := [.inl (i + 3), .inr (.inr (some 3000)), .inl ((xs ((i + 2).toNat)).toInt), .inl ((xs ((i + 1).toNat)).toInt), .inr (.inr (some 79))]) (w' := (SH, dt5)) (fun _ => rfl) ?_
  have r47 := i32_R (xs ((i + 3).toNat))
  refine go_smp (L' := [some (.inr (.inr (some 3000))), some (.inr (.inr (some 0))), some (.inr (.inr (some 79))), some (.inl i)]) (st' := [.inl ((xs ((i + 3).toNat)).toInt), .inl ((xs ((i + 2).toNat)).toInt), .inl ((xs ((i + 1).toNat)).toInt), .inr (.inr (some 79))]) (w' := (SH, dt5)) rfl rfl (s_iald (n := L) (f := fun j => (xs j).toInt) (am_scr hLL) ⟨by omega, by omega⟩) ?_
  refine go_call (Q' := _) rfl rfl rfl rfl rfl (sp_X6_here L xs sio (d + 33) dt5 hI6 hM9  ((xs ((i + 1).toNat)).toInt) ⟨by omega, by omega⟩ ((xs ((i + 2).toNat)).toInt) ⟨by omega, by omega⟩ ((xs ((i + 3).toNat)).toInt) ⟨by omega, by omega⟩ ) ?_
  rintro _ _ ⟨dt49, rfl, hI50, hF51, h48⟩
  refine ⟨rfl, ?_⟩
  have hF52 : Fr [0, 1, 2, 3, 4, 5, 6, 7, 8, 9, 10, 11, 12, 13, 14, 15, 16, 17, 18, 19, 20, 21, 22, 23, 24, 25, 26, 27, 28, 29, 30, 31, 32, 33, 34, 35, 36, 37, 38, 39, 40, 41, 42, 43, 44, 45, 46, 47, 48, 49, 50, 51, 52, 53, 54, 55, 56, 57, 58, 59, 60, 61, 62, 63, 64, 65, 66, 67, 68, 69, 70, 71, 72, 73, 74, 75, 76, 77, 78, 79, 80, 81, 82, 83, 84, 85, 86, 87, 88, 89, 90, 91, 92, 93, 94, 95, 96, 97, 98, 99, 100, 101, 102, 103, 104] dt dt49 := Fr_tr hF8 hF51 (by decide)
  have hM53 : MW (dt49 80) := MW_fr hM9 hF51 (by decide)
  have w54 : dt49 1 0 = dt5 1 0 := hF51 1 (by decide) 0
  have w55 : dt49 7 3 = dt5 7 3 := hF51 7 (by decide) 3
  have w56 : dt49 10 3 = dt5 10 3 := hF51 10 (by decide) 3
  have w57 : dt49 12 3 = dt5 12 3 := hF51 12 (by decide) 3
  have w58 : dt49 14 3 = dt5 14 3 := hF51 14 (by decide) 3
  have w59 : dt49 16 3 = dt5 16 3 := hF51 16 (by decide) 3
  have w60 : dt49 18 0 = dt5 18 0 := hF51 18 (by decide) 0
  have w61 : dt49 24 3 = dt5 24 3 := hF51 24 (by decide) 3
  have w62 : dt49 27 3 = dt5 27 3 := hF51 27 (by decide) 3
  have w63 : dt49 29 3 = dt5 29 3 := hF51 29 (by decide) 3
  have w64 : dt49 31 3 = dt5 31 3 := hF51 31 (by decide) 3
  have w65 : dt49 33 3 = dt5 33 3 := hF51 33 (by decide) 3
  have w66 : dt49 0 2 = dt5 0 2 := hF51 0 (by decide) 2
  have w67 : dt49 35 1 = dt5 35 1 := hF51 35 (by decide) 1
  have w68 : dt49 35 2 = dt5 35 2 := hF51 35 (by decide) 2
  have w69 : dt49 35 3 = dt5 35 3 := hF51 35 (by decide) 3
  have w70 : dt49 80 0 = dt5 80 0 := hF51 80 (by decide) 0
  have w71 : dt49 80 1 = dt5 80 1 := hF51 80 (by decide) 1
  have w72 : dt49 80 2 = dt5 80 2 := hF51 80 (by decide) 2
  have w73 : dt49 80 3 = dt5 80 3 := hF51 80 (by decide) 3
  have w74 : dt49 80 4 = dt5 80 4 := hF51 80 (by decide) 4
  have w75 : dt49 80 5 = dt5 80 5 := hF51 80 (by decide) 5
  have w76 : dt49 81 0 = dt5 81 0 := hF51 81 (by decide) 0
  have w77 : dt49 81 1 = dt5 81 1 := hF51 81 (by decide) 1
  have w78 : dt49 81 2 = dt5 81 2 := hF51 81 (by decide) 2
  have w79 : dt49 81 3 = dt5 81 3 := hF51 81 (by decide) 3
  have w80 : dt49 81 4 = dt5 81 4 := hF51 81 (by decide) 4
  have w81 : dt49 81 5 = dt5 81 5 := hF51 81 (by decide) 5
  have w82 : dt49 79 2 = dt5 79 2 := hF51 79 (by decide) 2
  have w83 : dt49 79 12 = dt5 79 12 := hF51 79 (by decide) 12
  have w84 : dt49 79 19 = dt5 79 19 := hF51 79 (by decide) 19
  have w85 : dt49 79 21 = dt5 79 21 := hF51 79 (by decide) 21
  rcases h48 with ⟨rfl, h48⟩ | ⟨rfl, h48⟩ | ⟨rfl, h48⟩
  · skip
    have M286 : MW (dt49 81) := MW_frk M242 hF51 (by decide)
    have C87 : ∀ j : Nat, dt49 36 j = dt 36 j := fun j => (hF51 36 (by decide) j).trans (C43 j)
    have C88 : ∀ j : Nat, dt49 85 j = dt 85 j := fun j => (hF51 85 (by decide) j).trans (C44 j)
    refine go_to (k := 2) (pc' := 1435) (L' := [some (.inr (.inr (some 3000))), some (.inr (.inr (some 0))), some (.inr (.inr (some 79))), some (.inl i)]) (st' := []) (w' := (SH, dt49)) (fun _ => rfl) ?_
    exact K dt49 hI50 hM53 M286 (by first | omega | (simp only [*]; done) | simp only [*]) (by omega) (by omega) (by omega) (by omega) (by omega) (by omega) (by omega) (by omega) (by omega) (by omega) (by omega) (by omega) (by omega) (by omega) (by omega) (by first | exact hI | exact TPL_k hd0 C87 C88 (by omega) | (exfalso; omega))
  · skip
    have M289 : MW (dt49 81) := MW_frk M242 hF51 (by decide)
    have C90 : ∀ j : Nat, dt49 36 j = dt 36 j := fun j => (hF51 36 (by decide) j).trans (C43 j)
    have C91 : ∀ j : Nat, dt49 85 j = dt 85 j := fun j => (hF51 85 (by decide) j).trans (C44 j)
    refine go_to (k := 2) (pc' := 1435) (L' := [some (.inr (.inr (some 3000))), some (.inr (.inr (some 0))), some (.inr (.inr (some 79))), some (.inl i)]) (st' := []) (w' := (SH, dt49)) (fun _ => rfl) ?_
    exact K dt49 hI50 hM53 M289 (by first | omega | (simp only [*]; done) | simp only [*]) (by omega) (by omega) (by omega) (by omega) (by omega) (by omega) (by omega) (by omega) (by omega) (by omega) (by omega) (by omega) (by omega) (by omega) (by omega) (by first | exact hI | exact TPL_k hd0 C90 C91 (by omega) | (exfalso; omega))
  · skip
    have M292 : MW (dt49 81) := MW_frk M242 hF51 (by decide)
    have C93 : ∀ j : Nat, dt49 36 j = dt 36 j := fun j => (hF51 36 (by decide) j).trans (C43 j)
    have C94 : ∀ j : Nat, dt49 85 j = dt 85 j := fun j => (hF51 85 (by decide) j).trans (C44 j)
    refine go_to (k := 2) (pc' := 1435) (L' := [some (.inr (.inr (some 3000))), some (.inr (.inr (some 0))), some (.inr (.inr (some 79))), some (.inl i)]) (st' := []) (w' := (SH, dt49)) (fun _ => rfl) ?_
    exact K dt49 hI50 hM53 M292 (by first | omega | (simp only [*]; done) | simp only [*]) (by omega) (by omega) (by omega) (by omega) (by omega) (by omega) (by omega) (by omega) (by omega) (by omega) (by omega) (by omega) (by omega) (by omega) (by omega) (by first | exact hI | exact TPL_k hd0 C93 C94 (by omega) | (exfalso; omega))
set_option maxRecDepth 20000 in
set_option maxHeartbeats 8000000 in
theorem sp_case8 (L : Nat) (xs : Nat → Int32) (sio : Option Nat) (d : Nat) (Q : Option AV → am_W → Prop) (hLL : L ≤ 3072) (i : Int) (hi : 0 ≤ i ∧ i ≤ 3066) (hil : i ≤ (L : Int) - 6) (dt : Nat → Nat → Int) (hI : InvC dt) (hM : MW (dt 80)) (hM2 : MW (dt 81)) (hk0 : dt 1 0 = dt 80 0) (hk1 : dt 7 3 = dt 80 1) (hk2 : dt 10 3 = dt 80 2) (hk3 : dt 12 3 = dt 80 3) (hk4 : dt 14 3 = dt 80 4) (hk5 : dt 16 3 = dt 80 5) (hk6 : dt 18 0 = dt 81 0) (hk7 : dt 24 3 = dt 81 1) (hk8 : dt 27 3 = dt 81 2) (hk9 : dt 29 3 = dt 81 3) (hk10 : dt 31 3 = dt 81 4) (hk11 : dt 33 3 = dt 81 5) (hk12 : dt 0 2 = dt 79 2) (hk13 : dt 35 1 = dt 79 12) (hk14 : dt 35 2 = dt 79 19) (hk15 : dt 35 3 = dt 79 21) (hd0 : TPL (dt 36) (dt 85) (dt 35 1)) (K : ∀ (dt : Nat → Nat → Int) (hI : InvC dt) (hM : MW (dt 80)) (hM2 : MW (dt 81)) (hk0 : dt 1 0 = dt 80 0) (hk1 : dt 7 3 = dt 80 1) (hk2 : dt 10 3 = dt 80 2) (hk3 : dt 12 3 = dt 80 3) (hk4 : dt 14 3 = dt 80 4) (hk5 : dt 16 3 = dt 80 5) (hk6 : dt 18 0 = dt 81 0) (hk7 : dt 24 3 = dt 81 1) (hk8 : dt 27 3 = dt 81 2) (hk9 : dt 29 3 = dt 81 3) (hk10 : dt 31 3 = dt 81 4) (hk11 : dt 33 3 = dt 81 5) (hk12 : dt 0 2 = dt 79 2) (hk13 : dt 35 1 = dt 79 12) (hk14 : dt 35 2 = dt 79 19) (hk15 : dt 35 3 = dt 79 21) (hd0 : TPL (dt 36) (dt 85) (dt 35 1)), GO (am_XX L xs sio) (d + 39) 267 1435 [some (.inr (.inr (some 3000))), some (.inr (.inr (some 0))), some (.inr (.inr (some 79))), some (.inl i)] [] (SH, dt) Q) : GO (am_XX L xs sio) (d + 39) 267 494 [some (.inr (.inr (some 3000))), some (.inr (.inr (some 0))), some (.inr (.inr (some 79))), some (.inl i)] [] (SH, dt) Q := by
  have hF : Fr [0, 1, 2, 3, 4, 5, 6, 7, 8, 9, 10, 11, 12, 13, 14, 15, 16, 17, 18, 19, 20, 21, 22, 23, 24, 25, 26, 27, 28, 29, 30, 31, 32, 33, 34, 35, 36, 37, 38, 39, 40, 41, 42, 43, 44, 45, 46, 47, 48, 49, 50, 51, 52, 53, 54, 55, 56, 57, 58, 59, 60, 61, 62, 63, 64, 65, 66, 67, 68, 69, 70, 71, 72, 73, 74, 75, 76, 77, 78, 79, 80, 81, 82, 83, 84, 85, 86, 87, 88, 89, 90, 91, 92, 93, 94, 95, 96, 97, 98, 99, 100, 101, 102, 103, 104] dt dt := Fr_refl
  refine go_to (k := 5) (pc' := 499) (L' := [some (.inr (.inr (some 3000))), some (.inr (.inr (some 0))), some (.inr (.inr (some 79))), some (.inl i)]) (st' := [.inl (i + 1), .inr (.inr (some 3000)), .inr (.inr (some 0))]) (w' := (SH, dt)) (fun _ => rfl) ?_
  have r1 := i32_R (xs ((i + 1).toNat))
  refine go_smp (L' := [some (.inr (.inr (some 3000))), some (.inr (.inr (some 0))), some (.inr (.inr (some 79))), some (.inl i)]) (st' := [.inl ((xs ((i + 1).toNat)).toInt), .inr (.inr (some 0))]) (w' := (SH, dt)) rfl rfl (s_iald (n := L) (f := fun j => (xs j).toInt) (am_scr hLL) ⟨by omega, by omega⟩) ?_
  refine go_to (k := 4) (pc' := 504) (L' := [some (.inr (.inr (some 3000))), some (.inr (.inr (some 0))), some (.inr (.inr (some 79))), some (.inl i)]) (st' := [.inl (i + 2), .inr (.inr (some 3000)), .inl ((xs ((i + 1).toNat)).toInt), .inr (.inr (some 0))]) (w' := (SH, dt)) (fun _ => rfl) ?_
  have r2 := i32_R (xs ((i + 2).toNat))
  refine go_smp (L' := [some (.inr (.inr (some 3000))), some (.inr (.inr (some 0))), some (.inr (.inr (some 79))), some (.inl i)]) (st' := [.inl ((xs ((i + 2).toNat)).toInt), .inl ((xs ((i + 1).toNat)).toInt), .inr (.inr (some 0))]) (w' := (SH, dt)) rfl rfl (s_iald (n := L) (f := fun j => (xs j).toInt) (am_scr hLL) ⟨by omega, by omega⟩) ?_
  refine go_to (k := 4) (pc' := 509) (L' := [some (.inr (.inr (some 3000))), some (.inr (.inr (some 0))), some (.inr (.inr (some 79))), some (.inl i)]) (st' := [.inl (i + 3), .inr (.inr (some 3000)), .inl ((xs ((i + 2).toNat)).toInt), .inl ((xs ((i + 1).toNat)).toInt), .inr (.inr (some 0))]) (w' := (SH, dt)) (fun _ => rfl) ?_
  have r3 := i32_R (xs ((i + 3).toNat))
  refine go_smp (L' := [some (.inr (.inr (some 3000))), some (.inr (.inr (some 0))), some (.inr (.inr (some 79))), some (.inl i)]) (st' := [.inl ((xs ((i + 3).toNat)).toInt), .inl ((xs ((i + 2).toNat)).toInt), .inl ((xs ((i + 1).toNat)).toInt), .inr (.inr (some 0))]) (w' := (SH, dt)) rfl rfl (s_iald (n := L) (f := fun j => (xs j).toInt) (am_scr hLL) ⟨by omega, by omega⟩) ?_
  refine go_to (k := 4) (pc' := 514) (L' := [some (.inr (.inr (some 3000))), some (.inr (.inr (some 0))), some (.inr (.inr (some 79))), some (.inl i)]) (st' := [.inl (i + 4), .inr (.inr (some 3000)), .inl ((xs ((i + 3).toNat)).toInt), .inl ((xs ((i + 2).toNat)).toInt), .inl ((xs ((i + 1).toNat)).toInt), .inr (.inr (some 0))]) (w' := (SH, dt)) (fun _ => rfl) ?_
  have r4 := i32_R (xs ((i + 4).toNat))
  refine go_smp (L' := [some (.inr (.inr (some 3000))), some (.inr (.inr (some 0))), some (.inr (.inr (some 79))), some (.inl i)]) (st' := [.inl ((xs ((i + 4).toNat)).toInt), .inl ((xs ((i + 3).toNat)).toInt), .inl ((xs ((i + 2).toNat)).toInt), .inl ((xs ((i + 1).toNat)).toInt), .inr (.inr (some 0))]) (w' := (SH, dt)) rfl rfl (s_iald (n := L) (f := fun j => (xs j).toInt) (am_scr hLL) ⟨by omega, by omega⟩) ?_
  refine go_to (k := 4) (pc' := 519) (L' := [some (.inr (.inr (some 3000))), some (.inr (.inr (some 0))), some (.inr (.inr (some 79))), some (.inl i)]) (st' := [.inl (i + 5), .inr (.inr (some 3000)), .inl ((xs ((i + 4).toNat)).toInt), .inl ((xs ((i + 3).toNat)).toInt), .inl ((xs ((i + 2).toNat)).toInt), .inl ((xs ((i + 1).toNat)).toInt), .inr (.inr (some 0))]) (w' := (SH, dt)) (fun _ => rfl) ?_
  have r5 := i32_R (xs ((i + 5).toNat))
  refine go_smp (L' := [some (.inr (.inr (some 3000))), some (.inr (.inr (some 0))), some (.inr (.inr (some 79))), some (.inl i)]) (st' := [.inl ((xs ((i + 5).toNat)).toInt), .inl ((xs ((i + 4).toNat)).toInt), .inl ((xs ((i + 3).toNat)).toInt), .inl ((xs ((i + 2).toNat)).toInt), .inl ((xs ((i + 1).toNat)).toInt), .inr (.inr (some 0))]) (w' := (SH, dt)) rfl rfl (s_iald (n := L) (f := fun j => (xs j).toInt) (am_scr hLL) ⟨by omega, by omega⟩) ?_
  refine go_call (Q' := _) rfl rfl rfl rfl rfl (sp_X5_question L xs sio (d + 33) dt hI  ((xs ((i + 1).toNat)).toInt) ⟨by omega, by omega⟩ ((xs ((i + 2).toNat)).toInt) ⟨by omega, by omega⟩ ((xs ((i + 3).toNat)).toInt) ⟨by omega, by omega⟩ ((xs ((i + 4).toNat)).toInt) ⟨by omega, by omega⟩ ((xs ((i + 5).toNat)).toInt) ⟨by omega, by omega⟩ ) ?_
  rintro _ _ ⟨dt7, rfl, hI8, hF9, h6⟩
  refine ⟨rfl, ?_⟩
  have hF10 : Fr [0, 1, 2, 3, 4, 5, 6, 7, 8, 9, 10, 11, 12, 13, 14, 15, 16, 17, 18, 19, 20, 21, 22, 23, 24, 25, 26, 27, 28, 29, 30, 31, 32, 33, 34, 35, 36, 37, 38, 39, 40, 41, 42, 43, 44, 45, 46, 47, 48, 49, 50, 51, 52, 53, 54, 55, 56, 57, 58, 59, 60, 61, 62, 63, 64, 65, 66, 67, 68, 69, 70, 71, 72, 73, 74, 75, 76, 77, 78, 79, 80, 81, 82, 83, 84, 85, 86, 87, 88, 89, 90, 91, 92, 93, 94, 95, 96, 97, 98, 99, 100, 101, 102, 103, 104] dt dt7 := Fr_tr hF hF9 (by decide)
  have hM11 : MW (dt7 80) := MW_fr hM hF9 (by decide)
  have w12 : dt7 1 0 = dt 1 0 := hF9 1 (by decide) 0
  have w13 : dt7 10 3 = dt 10 3 := hF9 10 (by decide) 3
  have w14 : dt7 12 3 = dt 12 3 := hF9 12 (by decide) 3
  have w15 : dt7 14 3 = dt 14 3 := hF9 14 (by decide) 3
  have w16 : dt7 16 3 = dt 16 3 := hF9 16 (by decide) 3
  have w17 : dt7 18 0 = dt 18 0 := hF9 18 (by decide) 0
  have w18 : dt7 24 3 = dt 24 3 := hF9 24 (by decide) 3
  have w19 : dt7 27 3 = dt 27 3 := hF9 27 (by decide) 3
  have w20 : dt7 29 3 = dt 29 3 := hF9 29 (by decide) 3
  have w21 : dt7 31 3 = dt 31 3 := hF9 31 (by decide) 3
  have w22 : dt7 33 3 = dt 33 3 := hF9 33 (by decide) 3
  have w23 : dt7 0 2 = dt 0 2 := hF9 0 (by decide) 2
  have w24 : dt7 35 1 = dt 35 1 := hF9 35 (by decide) 1
  have w25 : dt7 35 2 = dt 35 2 := hF9 35 (by decide) 2
  have w26 : dt7 35 3 = dt 35 3 := hF9 35 (by decide) 3
  have w27 : dt7 80 0 = dt 80 0 := hF9 80 (by decide) 0
  have w28 : dt7 80 1 = dt 80 1 := hF9 80 (by decide) 1
  have w29 : dt7 80 2 = dt 80 2 := hF9 80 (by decide) 2
  have w30 : dt7 80 3 = dt 80 3 := hF9 80 (by decide) 3
  have w31 : dt7 80 4 = dt 80 4 := hF9 80 (by decide) 4
  have w32 : dt7 80 5 = dt 80 5 := hF9 80 (by decide) 5
  have w33 : dt7 81 0 = dt 81 0 := hF9 81 (by decide) 0
  have w34 : dt7 81 1 = dt 81 1 := hF9 81 (by decide) 1
  have w35 : dt7 81 2 = dt 81 2 := hF9 81 (by decide) 2
  have w36 : dt7 81 3 = dt 81 3 := hF9 81 (by decide) 3
  have w37 : dt7 81 4 = dt 81 4 := hF9 81 (by decide) 4
  have w38 : dt7 81 5 = dt 81 5 := hF9 81 (by decide) 5
  have w39 : dt7 79 2 = dt 79 2 := hF9 79 (by decide) 2
  have w40 : dt7 79 12 = dt 79 12 := hF9 79 (by decide) 12
  have w41 : dt7 79 19 = dt 79 19 := hF9 79 (by decide) 19
  have w42 : dt7 79 21 = dt 79 21 := hF9 79 (by decide) 21
  rcases h6 with ⟨rfl, h6⟩ | ⟨v_h6, rfl, h6r, h6⟩
  · skip
    obtain ⟨h6_0, h6_1⟩ := h6
    have M243 : MW (dt7 81) := MW_frk hM2 hF9 (by decide)
    have C44 : ∀ j : Nat, dt7 36 j = dt 36 j := fun j => (hF9 36 (by decide) j).trans ((fun _ => rfl) j)
    have C45 : ∀ j : Nat, dt7 85 j = dt 85 j := fun j => (hF9 85 (by decide) j).trans ((fun _ => rfl) j)
    refine go_to (k := 6) (pc' := 529) (L' := [some (.inr (.inr (some 3000))), some (.inr (.inr (some 0))), some (.inr (.inr (some 79))), some (.inl i)]) (st' := [.inl (i + 1), .inr (.inr (some 3000)), .inr (.inr (some 79))]) (w' := (SH, dt7)) (fun _ => rfl) ?_
    have r46 := i32_R (xs ((i + 1).toNat))
    refine go_smp (L' := [some (.inr (.inr (some 3000))), some (.inr (.inr (some 0))), some (.inr (.inr (some 79))), some (.inl i)]) (st' := [.inl ((xs ((i + 1).toNat)).toInt), .inr (.inr (some 79))]) (w' := (SH, dt7)) rfl rfl (s_iald (n := L) (f := fun j => (xs j).toInt) (am_scr hLL) ⟨by omega, by omega⟩) ?_
    refine go_to (k := 4) (pc' := 534) (L' := [some (.inr (.inr (some 3000))), some (.inr (.inr (some 0))), some (.inr (.inr (some 79))), some (.inl i)]) (st' := [.inl (i + 2), .inr (.inr (some 3000)), .inl ((xs ((i + 1).toNat)).toInt), .inr (.inr (some 79))]) (w' := (SH, dt7)) (fun _ => rfl) ?_
    have r47 := i32_R (xs ((i + 2).toNat))
    refine go_smp (L' := [some (.inr (.inr (some 3000))), some (.inr (.inr (some 0))), some (.inr (.inr (some 79))), some (.inl i)]) (st' := [.inl ((xs ((i + 2).toNat)).toInt), .inl ((xs ((i + 1).toNat)).toInt), .inr (.inr (some 79))]) (w' := (SH, dt7)) rfl rfl (s_iald (n := L) (f := fun j => (xs j).toInt) (am_scr hLL) ⟨by omega, by omega⟩) ?_
    refine go_to (k := 4) (pc' := 539) (L' := [some (.inr (.inr (some 3000))), some (.inr (.inr (some 0))), some (.inr (.inr (some 79))), some (.inl i)]) (st' := [.inl (i + 3), .inr (.inr (some 3000)), .inl ((xs ((i + 2).toNat)).toInt), .inl ((xs ((i + 1).toNat)).toInt), .inr (.inr (some 79))]) (w' := (SH, dt7)) (fun _ => rfl) ?_
    have r48 := i32_R (xs ((i + 3).toNat))
    refine go_smp (L' := [some (.inr (.inr (some 3000))), some (.inr (.inr (some 0))), some (.inr (.inr (some 79))), some (.inl i)]) (st' := [.inl ((xs ((i + 3).toNat)).toInt), .inl ((xs ((i + 2).toNat)).toInt), .inl ((xs ((i + 1).toNat)).toInt), .inr (.inr (some 79))]) (w' := (SH, dt7)) rfl rfl (s_iald (n := L) (f := fun j => (xs j).toInt) (am_scr hLL) ⟨by omega, by omega⟩) ?_
    refine go_to (k := 4) (pc' := 544) (L' := [some (.inr (.inr (some 3000))), some (.inr (.inr (some 0))), some (.inr (.inr (some 79))), some (.inl i)]) (st' := [.inl (i + 4), .inr (.inr (some 3000)), .inl ((xs ((i + 3).toNat)).toInt), .inl ((xs ((i + 2).toNat)).toInt), .inl ((xs ((i + 1).toNat)).toInt), .inr (.inr (some 79))]) (w' := (SH, dt7)) (fun _ => rfl) ?_
    have r49 := i32_R (xs ((i + 4).toNat))
    refine go_smp (L' := [some (.inr (.inr (some 3000))), some (.inr (.inr (some 0))), some (.inr (.inr (some 79))), some (.inl i)]) (st' := [.inl ((xs ((i + 4).toNat)).toInt), .inl ((xs ((i + 3).toNat)).toInt), .inl ((xs ((i + 2).toNat)).toInt), .inl ((xs ((i + 1).toNat)).toInt), .inr (.inr (some 79))]) (w' := (SH, dt7)) rfl rfl (s_iald (n := L) (f := fun j => (xs j).toInt) (am_scr hLL) ⟨by omega, by omega⟩) ?_
    refine go_to (k := 4) (pc' := 549) (L' := [some (.inr (.inr (some 3000))), some (.inr (.inr (some 0))), some (.inr (.inr (some 79))), some (.inl i)]) (st' := [.inl (i + 5), .inr (.inr (some 3000)), .inl ((xs ((i + 4).toNat)).toInt), .inl ((xs ((i + 3).toNat)).toInt), .inl ((xs ((i + 2).toNat)).toInt), .inl ((xs ((i + 1).toNat)).toInt), .inr (.inr (some 79))]) (w' := (SH, dt7)) (fun _ => rfl) ?_
    have r50 := i32_R (xs ((i + 5).toNat))
    refine go_smp (L' := [some (.inr (.inr (some 3000))), some (.inr (.inr (some 0))), some (.inr (.inr (some 79))), some (.inl i)]) (st' := [.inl ((xs ((i + 5).toNat)).toInt), .inl ((xs ((i + 4).toNat)).toInt), .inl ((xs ((i + 3).toNat)).toInt), .inl ((xs ((i + 2).toNat)).toInt), .inl ((xs ((i + 1).toNat)).toInt), .inr (.inr (some 79))]) (w' := (SH, dt7)) rfl rfl (s_iald (n := L) (f := fun j => (xs j).toInt) (am_scr hLL) ⟨by omega, by omega⟩) ?_
    refine go_call (Q' := _) rfl rfl rfl rfl rfl (sp_X6_question L xs sio (d + 36) dt7 hI8 hM11  ((xs ((i + 1).toNat)).toInt) ⟨by omega, by omega⟩ ((xs ((i + 2).toNat)).toInt) ⟨by omega, by omega⟩ ((xs ((i + 3).toNat)).toInt) ⟨by omega, by omega⟩ ((xs ((i + 4).toNat)).toInt) ⟨by omega, by omega⟩ ((xs ((i + 5).toNat)).toInt) ⟨by omega, by omega⟩ ) ?_
    rintro _ _ ⟨dt52, rfl, hI53, hF54, h51⟩
    refine ⟨rfl, ?_⟩
    have hF55 : Fr [0, 1, 2, 3, 4, 5, 6, 7, 8, 9, 10, 11, 12, 13, 14, 15, 16, 17, 18, 19, 20, 21, 22, 23, 24, 25, 26, 27, 28, 29, 30, 31, 32, 33, 34, 35, 36, 37, 38, 39, 40, 41, 42, 43, 44, 45, 46, 47, 48, 49, 50, 51, 52, 53, 54, 55, 56, 57, 58, 59, 60, 61, 62, 63, 64, 65, 66, 67, 68, 69, 70, 71, 72, 73, 74, 75, 76, 77, 78, 79, 80, 81, 82, 83, 84, 85, 86, 87, 88, 89, 90, 91, 92, 93, 94, 95, 96, 97, 98, 99, 100, 101, 102, 103, 104] dt dt52 := Fr_tr hF10 hF54 (by decide)
    have w56 : dt52 1 0 = dt7 1 0 := hF54 1 (by decide) 0
    have w57 : dt52 7 3 = dt7 7 3 := hF54 7 (by decide) 3
    have w58 : dt52 10 3 = dt7 10 3 := hF54 10 (by decide) 3
    have w59 : dt52 12 3 = dt7 12 3 := hF54 12 (by decide) 3
    have w60 : dt52 14 3 = dt7 14 3 := hF54 14 (by decide) 3
    have w61 : dt52 16 3 = dt7 16 3 := hF54 16 (by decide) 3
    have w62 : dt52 18 0 = dt7 18 0 := hF54 18 (by decide) 0
    have w63 : dt52 24 3 = dt7 24 3 := hF54 24 (by decide) 3
    have w64 : dt52 27 3 = dt7 27 3 := hF54 27 (by decide) 3
    have w65 : dt52 29 3 = dt7 29 3 := hF54 29 (by decide) 3
    have w66 : dt52 31 3 = dt7 31 3 := hF54 31 (by decide) 3
    have w67 : dt52 33 3 = dt7 33 3 := hF54 33 (by decide) 3
    have w68 : dt52 0 2 = dt7 0 2 := hF54 0 (by decide) 2
    have w69 : dt52 35 1 = dt7 35 1 := hF54 35 (by decide) 1
    have w70 : dt52 35 2 = dt7 35 2 := hF54 35 (by decide) 2
    have w71 : dt52 35 3 = dt7 35 3 := hF54 35 (by decide) 3
    have w72 : dt52 81 0 = dt7 81 0 := hF54 81 (by decide) 0
    have w73 : dt52 81 1 = dt7 81 1 := hF54 81 (by decide) 1
    have w74 : dt52 81 2 = dt7 81 2 := hF54 81 (by decide) 2
    have w75 : dt52 81 3 = dt7 81 3 := hF54 81 (by decide) 3
    have w76 : dt52 81 4 = dt7 81 4 := hF54 81 (by decide) 4
    have w77 : dt52 81 5 = dt7 81 5 := hF54 81 (by decide) 5
    have w78 : dt52 79 2 = dt7 79 2 := hF54 79 (by decide) 2
    have w79 : dt52 79 12 = dt7 79 12 := hF54 79 (by decide) 12
    have w80 : dt52 79 19 = dt7 79 19 := hF54 79 (by decide) 19
    have w81 : dt52 79 21 = dt7 79 21 := hF54 79 (by decide) 21
    rcases h51 with ⟨rfl, h51⟩ | ⟨v_h51, rfl, h51r, h51⟩
    · skip
      have hM82 : MW (dt52 80) := h51.2.1
      obtain ⟨h51_0, h51_1, h51_2, h51_3, h51_4, h51_5, h51_6, h51_7⟩ := h51
      have M283 : MW (dt52 81) := MW_frk M243 hF54 (by decide)
      have C84 : ∀ j : Nat, dt52 36 j = dt 36 j := fun j => (hF54 36 (by decide) j).trans (C44 j)
      have C85 : ∀ j : Nat, dt52 85 j = dt 85 j := fun j => (hF54 85 (by decide) j).trans (C45 j)
      refine go_to (k := 2) (pc' := 1435) (L' := [some (.inr (.inr (some 3000))), some (.inr (.inr (some 0))), some (.inr (.inr (some 79))), some (.inl i)]) (st' := []) (w' := (SH, dt52)) (fun _ => rfl) ?_
      exact K dt52 hI53 hM82 M283 (by first | omega | (simp only [*]; done) | simp only [*]) (by omega) (by omega) (by omega) (by omega) (by omega) (by omega) (by omega) (by omega) (by omega) (by omega) (by omega) (by omega) (by omega) (by omega) (by omega) (by first | exact hI | exact TPL_k hd0 C84 C85 (by omega) | (exfalso; omega))
    · skip
      have hM86 : MW (dt52 80) := h51.2.2.1
      obtain ⟨h51_0, h51_1, h51_2, h51_3, h51_4, h51_5, h51_6, h51_7, h51_8⟩ := h51
      have M287 : MW (dt52 81) := MW_frk M243 hF54 (by decide)
      have C88 : ∀ j : Nat, dt52 36 j = dt 36 j := fun j => (hF54 36 (by decide) j).trans (C44 j)
      have C89 : ∀ j : Nat, dt52 85 j = dt 85 j := fun j => (hF54 85 (by decide) j).trans (C45 j)
      refine go_to (k := 2) (pc' := 1435) (L' := [some (.inr (.inr (some 3000))), some (.inr (.inr (some 0))), some (.inr (.inr (some 79))), some (.inl i)]) (st' := []) (w' := (SH, dt52)) (fun _ => rfl) ?_
      exact K dt52 hI53 hM86 M287 (by first | omega | (simp only [*]; done) | simp only [*]) (by omega) (by omega) (by omega) (by omega) (by omega) (by omega) (by omega) (by omega) (by omega) (by omega) (by omega) (by omega) (by omega) (by omega) (by omega) (by first | exact hI | exact TPL_k hd0 C88 C89 (by omega) | (exfalso; omega))
  · skip
    obtain ⟨h6_0, h6_1, h6_2⟩ := h6
    have M290 : MW (dt7 81) := MW_frk hM2 hF9 (by decide)
    have C91 : ∀ j : Nat, dt7 36 j = dt 36 j := fun j => (hF9 36 (by decide) j).trans ((fun _ => rfl) j)
    have C92 : ∀ j : Nat, dt7 85 j = dt 85 j := fun j => (hF9 85 (by decide) j).trans ((fun _ => rfl) j)
    refine go_to (k := 6) (pc' := 529) (L' := [some (.inr (.inr (some 3000))), some (.inr (.inr (some 0))), some (.inr (.inr (some 79))), some (.inl i)]) (st' := [.inl (i + 1), .inr (.inr (some 3000)), .inr (.inr (some 79))]) (w' := (SH, dt7)) (fun _ => rfl) ?_
    have r93 := i32_R (xs ((i + 1).toNat))
    refine go_smp (L' := [some (.inr (.inr (some 3000))), some (.inr (.inr (some 0))), some (.inr (.inr (some 79))), some (.inl i)]) (st' := [.inl ((xs ((i + 1).toNat)).toInt), .inr (.inr (some 79))]) (w' := (SH, dt7)) rfl rfl (s_iald (n := L) (f := fun j => (xs j).toInt) (am_scr hLL) ⟨by omega, by omega⟩) ?_
    refine go_to (k := 4) (pc' := 534) (L' := [some (.inr (.inr (some 3000))), some (.inr (.inr (some 0))), some (.inr (.inr (some 79))), some (.inl i)]) (st' := [.inl (i + 2), .inr (.inr (some 3000)), .inl ((xs ((i + 1).toNat)).toInt), .inr (.inr (some 79))]) (w' := (SH, dt7)) (fun _ => rfl) ?_
    have r94 := i32_R (xs ((i + 2).toNat))
    refine go_smp (L' := [some (.inr (.inr (some 3000))), some (.inr (.inr (some 0))), some (.inr (.inr (some 79))), some (.inl i)]) (st' := [.inl ((xs ((i + 2).toNat)).toInt), .inl ((xs ((i + 1).toNat)).toInt), .inr (.inr (some 79))]) (w' := (SH, dt7)) rfl rfl (s_iald (n := L) (f := fun j => (xs j).toInt) (am_scr hLL) ⟨by omega, by omega⟩) ?_
    refine go_to (k := 4) (pc' := 539) (L' := [some (.inr (.inr (some 3000))), some (.inr (.inr (some 0))), some (.inr (.inr (some 79))), some (.inl i)]) (st' := [.inl (i + 3), .inr (.inr (some 3000)), .inl ((xs ((i + 2).toNat)).toInt), .inl ((xs ((i + 1).toNat)).toInt), .inr (.inr (some 79))]) (w' := (SH, dt7)) (fun _ => rfl) ?_
    have r95 := i32_R (xs ((i + 3).toNat))
    refine go_smp (L' := [some (.inr (.inr (some 3000))), some (.inr (.inr (some 0))), some (.inr (.inr (some 79))), some (.inl i)]) (st' := [.inl ((xs ((i + 3).toNat)).toInt), .inl ((xs ((i + 2).toNat)).toInt), .inl ((xs ((i + 1).toNat)).toInt), .inr (.inr (some 79))]) (w' := (SH, dt7)) rfl rfl (s_iald (n := L) (f := fun j => (xs j).toInt) (am_scr hLL) ⟨by omega, by omega⟩) ?_
    refine go_to (k := 4) (pc' := 544) (L' := [some (.inr (.inr (some 3000))), some (.inr (.inr (some 0))), some (.inr (.inr (some 79))), some (.inl i)]) (st' := [.inl (i + 4), .inr (.inr (some 3000)), .inl ((xs ((i + 3).toNat)).toInt), .inl ((xs ((i + 2).toNat)).toInt), .inl ((xs ((i + 1).toNat)).toInt), .inr (.inr (some 79))]) (w' := (SH, dt7)) (fun _ => rfl) ?_
    have r96 := i32_R (xs ((i + 4).toNat))
    refine go_smp (L' := [some (.inr (.inr (some 3000))), some (.inr (.inr (some 0))), some (.inr (.inr (some 79))), some (.inl i)]) (st' := [.inl ((xs ((i + 4).toNat)).toInt), .inl ((xs ((i + 3).toNat)).toInt), .inl ((xs ((i + 2).toNat)).toInt), .inl ((xs ((i + 1).toNat)).toInt), .inr (.inr (some 79))]) (w' := (SH, dt7)) rfl rfl (s_iald (n := L) (f := fun j => (xs j).toInt) (am_scr hLL) ⟨by omega, by omega⟩) ?_
    refine go_to (k := 4) (pc' := 549) (L' := [some (.inr (.inr (some 3000))), some (.inr (.inr (some 0))), some (.inr (.inr (some 79))), some (.inl i)]) (st' := [.inl (i + 5), .inr (.inr (some 3000)), .inl ((xs ((i + 4).toNat)).toInt), .inl ((xs ((i + 3).toNat)).toInt), .inl ((xs ((i + 2).toNat)).toInt), .inl ((xs ((i + 1).toNat)).toInt), .inr (.inr (some 79))]) (w' := (SH, dt7)) (fun _ => rfl) ?_
    have r97 := i32_R (xs ((i + 5).toNat))
    refine go_smp (L' := [some (.inr (.inr (some 3000))), some (.inr (.inr (some 0))), some (.inr (.inr (some 79))), some (.inl i)]) (st' := [.inl ((xs ((i + 5).toNat)).toInt), .inl ((xs ((i + 4).toNat)).toInt), .inl ((xs ((i + 3).toNat)).toInt), .inl ((xs ((i + 2).toNat)).toInt), .inl ((xs ((i + 1).toNat)).toInt), .inr (.inr (some 79))]) (w' := (SH, dt7)) rfl rfl (s_iald (n := L) (f := fun j => (xs j).toInt) (am_scr hLL) ⟨by omega, by omega⟩) ?_
    refine go_call (Q' := _) rfl rfl rfl rfl rfl (sp_X6_question L xs sio (d + 36) dt7 hI8 hM11  ((xs ((i + 1).toNat)).toInt) ⟨by omega, by omega⟩ ((xs ((i + 2).toNat)).toInt) ⟨by omega, by omega⟩ ((xs ((i + 3).toNat)).toInt) ⟨by omega, by omega⟩ ((xs ((i + 4).toNat)).toInt) ⟨by omega, by omega⟩ ((xs ((i + 5).toNat)).toInt) ⟨by omega, by omega⟩ ) ?_
    rintro _ _ ⟨dt99, rfl, hI100, hF101, h98⟩
    refine ⟨rfl, ?_⟩
    have hF102 : Fr [0, 1, 2, 3, 4, 5, 6, 7, 8, 9, 10, 11, 12, 13, 14, 15, 16, 17, 18, 19, 20, 21, 22, 23, 24, 25, 26, 27, 28, 29, 30, 31, 32, 33, 34, 35, 36, 37, 38, 39, 40, 41, 42, 43, 44, 45, 46, 47, 48, 49, 50, 51, 52, 53, 54, 55, 56, 57, 58, 59, 60, 61, 62, 63, 64, 65, 66, 67, 68, 69, 70, 71, 72, 73, 74, 75, 76, 77, 78, 79, 80, 81, 82, 83, 84, 85, 86, 87, 88, 89, 90, 91, 92, 93, 94, 95, 96, 97, 98, 99, 100, 101, 102, 103, 104] dt dt99 := Fr_tr hF10 hF101 (by decide)
    have w103 : dt99 1 0 = dt7 1 0 := hF101 1 (by decide) 0
    have w104 : dt99 7 3 = dt7 7 3 := hF101 7 (by decide) 3
    have w105 : dt99 10 3 = dt7 10 3 := hF101 10 (by decide) 3
    have w106 : dt99 12 3 = dt7 12 3 := hF101 12 (by decide) 3
    have w107 : dt99 14 3 = dt7 14 3 := hF101 14 (by decide) 3
    have w108 : dt99 16 3 = dt7 16 3 := hF101 16 (by decide) 3
    have w109 : dt99 18 0 = dt7 18 0 := hF101 18 (by decide) 0
    have w110 : dt99 24 3 = dt7 24 3 := hF101 24 (by decide) 3
    have w111 : dt99 27 3 = dt7 27 3 := hF101 27 (by decide) 3
    have w112 : dt99 29 3 = dt7 29 3 := hF101 29 (by decide) 3
    have w113 : dt99 31 3 = dt7 31 3 := hF101 31 (by decide) 3
    have w114 : dt99 33 3 = dt7 33 3 := hF101 33 (by decide) 3
    have w115 : dt99 0 2 = dt7 0 2 := hF101 0 (by decide) 2
    have w116 : dt99 35 1 = dt7 35 1 := hF101 35 (by decide) 1
    have w117 : dt99 35 2 = dt7 35 2 := hF101 35 (by decide) 2
    have w118 : dt99 35 3 = dt7 35 3 := hF101 35 (by decide) 3
    have w119 : dt99 81 0 = dt7 81 0 := hF101 81 (by decide) 0
    have w120 : dt99 81 1 = dt7 81 1 := hF101 81 (by decide) 1
    have w121 : dt99 81 2 = dt7 81 2 := hF101 81 (by decide) 2
    have w122 : dt99 81 3 = dt7 81 3 := hF101 81 (by decide) 3
    have w123 : dt99 81 4 = dt7 81 4 := hF101 81 (by decide) 4
    have w124 : dt99 81 5 = dt7 81 5 := hF101 81 (by decide) 5
    have w125 : dt99 79 2 = dt7 79 2 := hF101 79 (by decide) 2
    have w126 : dt99 79 12 = dt7 79 12 := hF101 79 (by decide) 12
    have w127 : dt99 79 19 = dt7 79 19 := hF101 79 (by decide) 19
    have w128 : dt99 79 21 = dt7 79 21 := hF101 79 (by decide) 21
    rcases h98 with ⟨rfl, h98⟩ | ⟨v_h98, rfl, h98r, h98⟩
    · skip
      have hM129 : MW (dt99 80) := h98.2.1
      obtain ⟨h98_0, h98_1, h98_2, h98_3, h98_4, h98_5, h98_6, h98_7⟩ := h98
      have M2130 : MW (dt99 81) := MW_frk M290 hF101 (by decide)
      have C131 : ∀ j : Nat, dt99 36 j = dt 36 j := fun j => (hF101 36 (by decide) j).trans (C91 j)
      have C132 : ∀ j : Nat, dt99 85 j = dt 85 j := fun j => (hF101 85 (by decide) j).trans (C92 j)
      refine go_to (k := 2) (pc' := 1435) (L' := [some (.inr (.inr (some 3000))), some (.inr (.inr (some 0))), some (.inr (.inr (some 79))), some (.inl i)]) (st' := []) (w' := (SH, dt99)) (fun _ => rfl) ?_
      exact K dt99 hI100 hM129 M2130 (by first | omega | (simp only [*]; done) | simp only [*]) (by omega) (by omega) (by omega) (by omega) (by omega) (by omega) (by omega) (by omega) (by omega) (by omega) (by omega) (by omega) (by omega) (by omega) (by omega) (by first | exact hI | exact TPL_k hd0 C131 C132 (by omega) | (exfalso; omega))
    · skip
      have hM133 : MW (dt99 80) := h98.2.2.1
      obtain ⟨h98_0, h98_1, h98_2, h98_3, h98_4, h98_5, h98_6, h98_7, h98_8⟩ := h98
      have M2134 : MW (dt99 81) := MW_frk M290 hF101 (by decide)
      have C135 : ∀ j : Nat, dt99 36 j = dt 36 j := fun j => (hF101 36 (by decide) j).trans (C91 j)
      have C136 : ∀ j : Nat, dt99 85 j = dt 85 j := fun j => (hF101 85 (by decide) j).trans (C92 j)
      refine go_to (k := 2) (pc' := 1435) (L' := [some (.inr (.inr (some 3000))), some (.inr (.inr (some 0))), some (.inr (.inr (some 79))), some (.inl i)]) (st' := []) (w' := (SH, dt99)) (fun _ => rfl) ?_
      exact K dt99 hI100 hM133 M2134 (by first | omega | (simp only [*]; done) | simp only [*]) (by omega) (by omega) (by omega) (by omega) (by omega) (by omega) (by omega) (by omega) (by omega) (by omega) (by omega) (by omega) (by omega) (by omega) (by omega) (by first | exact hI | exact TPL_k hd0 C135 C136 (by omega) | (exfalso; omega))
set_option maxRecDepth 20000 in
set_option maxHeartbeats 8000000 in
theorem sp_case9 (L : Nat) (xs : Nat → Int32) (sio : Option Nat) (d : Nat) (Q : Option AV → am_W → Prop) (hLL : L ≤ 3072) (i : Int) (hi : 0 ≤ i ∧ i ≤ 3066) (hil : i ≤ (L : Int) - 6) (dt : Nat → Nat → Int) (hI : InvC dt) (hM : MW (dt 80)) (hM2 : MW (dt 81)) (hk0 : dt 1 0 = dt 80 0) (hk1 : dt 7 3 = dt 80 1) (hk2 : dt 10 3 = dt 80 2) (hk3 : dt 12 3 = dt 80 3) (hk4 : dt 14 3 = dt 80 4) (hk5 : dt 16 3 = dt 80 5) (hk6 : dt 18 0 = dt 81 0) (hk7 : dt 24 3 = dt 81 1) (hk8 : dt 27 3 = dt 81 2) (hk9 : dt 29 3 = dt 81 3) (hk10 : dt 31 3 = dt 81 4) (hk11 : dt 33 3 = dt 81 5) (hk12 : dt 0 2 = dt 79 2) (hk13 : dt 35 1 = dt 79 12) (hk14 : dt 35 2 = dt 79 19) (hk15 : dt 35 3 = dt 79 21) (hd0 : TPL (dt 36) (dt 85) (dt 35 1)) (K : ∀ (dt : Nat → Nat → Int) (hI : InvC dt) (hM : MW (dt 80)) (hM2 : MW (dt 81)) (hk0 : dt 1 0 = dt 80 0) (hk1 : dt 7 3 = dt 80 1) (hk2 : dt 10 3 = dt 80 2) (hk3 : dt 12 3 = dt 80 3) (hk4 : dt 14 3 = dt 80 4) (hk5 : dt 16 3 = dt 80 5) (hk6 : dt 18 0 = dt 81 0) (hk7 : dt 24 3 = dt 81 1) (hk8 : dt 27 3 = dt 81 2) (hk9 : dt 29 3 = dt 81 3) (hk10 : dt 31 3 = dt 81 4) (hk11 : dt 33 3 = dt 81 5) (hk12 : dt 0 2 = dt 79 2) (hk13 : dt 35 1 = dt 79 12) (hk14 : dt 35 2 = dt 79 19) (hk15 : dt 35 3 = dt 79 21) (hd0 : TPL (dt 36) (dt 85) (dt 35 1)), GO (am_XX L xs sio) (d + 39) 267 1435 [some (.inr (.inr (some 3000))), some (.inr (.inr (some 0))), some (.inr (.inr (some 79))), some (.inl i)] [] (SH, dt) Q) : GO (am_XX L xs sio) (d + 39) 267 557 [some (.inr (.inr (some 3000))), some (.inr (.inr (some 0))), some (.inr (.inr (some 79))), some (.inl i)] [] (SH, dt) Q := by
  have hF : Fr [0, 1, 2, 3, 4, 5, 6, 7, 8, 9, 10, 11, 12, 13, 14, 15, 16, 17, 18, 19, 20, 21, 22, 23, 24, 25, 26, 27, 28, 29, 30, 31, 32, 33, 34, 35, 36, 37, 38, 39, 40, 41, 42, 43, 44, 45, 46, 47, 48, 49, 50, 51, 52, 53, 54, 55, 56, 57, 58, 59, 60, 61, 62, 63, 64, 65, 66, 67, 68, 69, 70, 71, 72, 73, 74, 75, 76, 77, 78, 79, 80, 81, 82, 83, 84, 85, 86, 87, 88, 89, 90, 91, 92, 93, 94, 95, 96, 97, 98, 99, 100, 101, 102, 103, 104] dt dt := Fr_refl
  refine go_to (k := 5) (pc' := 562) (L' := [some (.inr (.inr (some 3000))), some (.inr (.inr (some 0))), some (.inr (.inr (some 79))), some (.inl i)]) (st' := [.inl (i + 1), .inr (.inr (some 3000)), .inr (.inr (some 0))]) (w' := (SH, dt)) (fun _ => rfl) ?_
  have r1 := i32_R (xs ((i + 1).toNat))
  refine go_smp (L' := [some (.inr (.inr (some 3000))), some (.inr (.inr (some 0))), some (.inr (.inr (some 79))), some (.inl i)]) (st' := [.inl ((xs ((i + 1).toNat)).toInt), .inr (.inr (some 0))]) (w' := (SH, dt)) rfl rfl (s_iald (n := L) (f := fun j => (xs j).toInt) (am_scr hLL) ⟨by omega, by omega⟩) ?_
  refine go_to (k := 4) (pc' := 567) (L' := [some (.inr (.inr (some 3000))), some (.inr (.inr (some 0))), some (.inr (.inr (some 79))), some (.inl i)]) (st' := [.inl (i + 2), .inr (.inr (some 3000)), .inl ((xs ((i + 1).toNat)).toInt), .inr (.inr (some 0))]) (w' := (SH, dt)) (fun _ => rfl) ?_
  have r2 := i32_R (xs ((i + 2).toNat))
  refine go_smp (L' := [some (.inr (.inr (some 3000))), some (.inr (.inr (some 0))), some (.inr (.inr (some 79))), some (.inl i)]) (st' := [.inl ((xs ((i + 2).toNat)).toInt), .inl ((xs ((i + 1).toNat)).toInt), .inr (.inr (some 0))]) (w' := (SH, dt)) rfl rfl (s_iald (n := L) (f := fun j => (xs j).toInt) (am_scr hLL) ⟨by omega, by omega⟩) ?_
  refine go_call (Q' := _) rfl rfl rfl rfl rfl (sp_X5_says L xs sio (d + 36) dt hI  ((xs ((i + 1).toNat)).toInt) ⟨by omega, by omega⟩ ((xs ((i + 2).toNat)).toInt) ⟨by omega, by omega⟩ ) ?_
  rintro _ _ ⟨rfl, h3⟩
  refine ⟨rfl, ?_⟩
  rcases h3 with ⟨v_h3, rfl, h3r, h3⟩
  refine go_to (k := 6) (pc' := 577) (L' := [some (.inr (.inr (some 3000))), some (.inr (.inr (some 0))), some (.inr (.inr (some 79))), some (.inl i)]) (st' := [.inl (i + 1), .inr (.inr (some 3000)), .inr (.inr (some 79))]) (w' := (SH, dt)) (fun _ => rfl) ?_
  refine go_smp (L' := [some (.inr (.inr (some 3000))), some (.inr (.inr (some 0))), some (.inr (.inr (some 79))), some (.inl i)]) (st' := [.inl ((xs ((i + 1).toNat)).toInt), .inr (.inr (some 79))]) (w' := (SH, dt)) rfl rfl (s_iald (n := L) (f := fun j => (xs j).toInt) (am_scr hLL) ⟨by omega, by omega⟩) ?_
  refine go_to (k := 4) (pc' := 582) (L' := [some (.inr (.inr (some 3000))), some (.inr (.inr (some 0))), some (.inr (.inr (some 79))), some (.inl i)]) (st' := [.inl (i + 2), .inr (.inr (some 3000)), .inl ((xs ((i + 1).toNat)).toInt), .inr (.inr (some 79))]) (w' := (SH, dt)) (fun _ => rfl) ?_
  refine go_smp (L' := [some (.inr (.inr (some 3000))), some (.inr (.inr (some 0))), some (.inr (.inr (some 79))), some (.inl i)]) (st' := [.inl ((xs ((i + 2).toNat)).toInt), .inl ((xs ((i + 1).toNat)).toInt), .inr (.inr (some 79))]) (w' := (SH, dt)) rfl rfl (s_iald (n := L) (f := fun j => (xs j).toInt) (am_scr hLL) ⟨by omega, by omega⟩) ?_
  refine go_call (Q' := _) rfl rfl rfl rfl rfl (sp_X6_says L xs sio (d + 32) dt hI hM  ((xs ((i + 1).toNat)).toInt) ⟨by omega, by omega⟩ ((xs ((i + 2).toNat)).toInt) ⟨by omega, by omega⟩ ) ?_
  rintro _ _ ⟨dt5, rfl, hI6, hF7, h4⟩
  refine ⟨rfl, ?_⟩
  have hF8 : Fr [0, 1, 2, 3, 4, 5, 6, 7, 8, 9, 10, 11, 12, 13, 14, 15, 16, 17, 18, 19, 20, 21, 22, 23, 24, 25, 26, 27, 28, 29, 30, 31, 32, 33, 34, 35, 36, 37, 38, 39, 40, 41, 42, 43, 44, 45, 46, 47, 48, 49, 50, 51, 52, 53, 54, 55, 56, 57, 58, 59, 60, 61, 62, 63, 64, 65, 66, 67, 68, 69, 70, 71, 72, 73, 74, 75, 76, 77, 78, 79, 80, 81, 82, 83, 84, 85, 86, 87, 88, 89, 90, 91, 92, 93, 94, 95, 96, 97, 98, 99, 100, 101, 102, 103, 104] dt dt5 := Fr_tr hF hF7 (by decide)
  have hM9 : MW (dt5 80) := MW_fr hM hF7 (by decide)
  have w10 : dt5 1 0 = dt 1 0 := hF7 1 (by decide) 0
  have w11 : dt5 7 3 = dt 7 3 := hF7 7 (by decide) 3
  have w12 : dt5 10 3 = dt 10 3 := hF7 10 (by decide) 3
  have w13 : dt5 12 3 = dt 12 3 := hF7 12 (by decide) 3
  have w14 : dt5 14 3 = dt 14 3 := hF7 14 (by decide) 3
  have w15 : dt5 16 3 = dt 16 3 := hF7 16 (by decide) 3
  have w16 : dt5 18 0 = dt 18 0 := hF7 18 (by decide) 0
  have w17 : dt5 24 3 = dt 24 3 := hF7 24 (by decide) 3
  have w18 : dt5 27 3 = dt 27 3 := hF7 27 (by decide) 3
  have w19 : dt5 29 3 = dt 29 3 := hF7 29 (by decide) 3
  have w20 : dt5 31 3 = dt 31 3 := hF7 31 (by decide) 3
  have w21 : dt5 33 3 = dt 33 3 := hF7 33 (by decide) 3
  have w22 : dt5 0 2 = dt 0 2 := hF7 0 (by decide) 2
  have w23 : dt5 35 1 = dt 35 1 := hF7 35 (by decide) 1
  have w24 : dt5 35 2 = dt 35 2 := hF7 35 (by decide) 2
  have w25 : dt5 35 3 = dt 35 3 := hF7 35 (by decide) 3
  have w26 : dt5 80 0 = dt 80 0 := hF7 80 (by decide) 0
  have w27 : dt5 80 1 = dt 80 1 := hF7 80 (by decide) 1
  have w28 : dt5 80 2 = dt 80 2 := hF7 80 (by decide) 2
  have w29 : dt5 80 3 = dt 80 3 := hF7 80 (by decide) 3
  have w30 : dt5 80 4 = dt 80 4 := hF7 80 (by decide) 4
  have w31 : dt5 80 5 = dt 80 5 := hF7 80 (by decide) 5
  have w32 : dt5 81 0 = dt 81 0 := hF7 81 (by decide) 0
  have w33 : dt5 81 1 = dt 81 1 := hF7 81 (by decide) 1
  have w34 : dt5 81 2 = dt 81 2 := hF7 81 (by decide) 2
  have w35 : dt5 81 3 = dt 81 3 := hF7 81 (by decide) 3
  have w36 : dt5 81 4 = dt 81 4 := hF7 81 (by decide) 4
  have w37 : dt5 81 5 = dt 81 5 := hF7 81 (by decide) 5
  have w38 : dt5 79 2 = dt 79 2 := hF7 79 (by decide) 2
  have w39 : dt5 79 12 = dt 79 12 := hF7 79 (by decide) 12
  have w40 : dt5 79 19 = dt 79 19 := hF7 79 (by decide) 19
  have w41 : dt5 79 21 = dt 79 21 := hF7 79 (by decide) 21
  rcases h4 with ⟨v_h4, rfl, h4r, h4⟩
  have M242 : MW (dt5 81) := MW_frk hM2 hF7 (by decide)
  have C43 : ∀ j : Nat, dt5 36 j = dt 36 j := fun j => (hF7 36 (by decide) j).trans ((fun _ => rfl) j)
  have C44 : ∀ j : Nat, dt5 85 j = dt 85 j := fun j => (hF7 85 (by decide) j).trans ((fun _ => rfl) j)
  refine go_to (k := 2) (pc' := 1435) (L' := [some (.inr (.inr (some 3000))), some (.inr (.inr (some 0))), some (.inr (.inr (some 79))), some (.inl i)]) (st' := []) (w' := (SH, dt5)) (fun _ => rfl) ?_
  exact K dt5 hI6 hM9 M242 (by first | omega | (simp only [*]; done) | simp only [*]) (by omega) (by omega) (by omega) (by omega) (by omega) (by omega) (by omega) (by omega) (by omega) (by omega) (by omega) (by omega) (by omega) (by omega) (by omega) (by first | exact hI | exact TPL_k hd0 C43 C44 (by omega) | (exfalso; omega))
set_option maxRecDepth 20000 in
set_option maxHeartbeats 8000000 in
theorem sp_case10 (L : Nat) (xs : Nat → Int32) (sio : Option Nat) (d : Nat) (Q : Option AV → am_W → Prop) (hLL : L ≤ 3072) (i : Int) (hi : 0 ≤ i ∧ i ≤ 3066) (hil : i ≤ (L : Int) - 6) (dt : Nat → Nat → Int) (hI : InvC dt) (hM : MW (dt 80)) (hM2 : MW (dt 81)) (hk0 : dt 1 0 = dt 80 0) (hk1 : dt 7 3 = dt 80 1) (hk2 : dt 10 3 = dt 80 2) (hk3 : dt 12 3 = dt 80 3) (hk4 : dt 14 3 = dt 80 4) (hk5 : dt 16 3 = dt 80 5) (hk6 : dt 18 0 = dt 81 0) (hk7 : dt 24 3 = dt 81 1) (hk8 : dt 27 3 = dt 81 2) (hk9 : dt 29 3 = dt 81 3) (hk10 : dt 31 3 = dt 81 4) (hk11 : dt 33 3 = dt 81 5) (hk12 : dt 0 2 = dt 79 2) (hk13 : dt 35 1 = dt 79 12) (hk14 : dt 35 2 = dt 79 19) (hk15 : dt 35 3 = dt 79 21) (hd0 : TPL (dt 36) (dt 85) (dt 35 1)) (K : ∀ (dt : Nat → Nat → Int) (hI : InvC dt) (hM : MW (dt 80)) (hM2 : MW (dt 81)) (hk0 : dt 1 0 = dt 80 0) (hk1 : dt 7 3 = dt 80 1) (hk2 : dt 10 3 = dt 80 2) (hk3 : dt 12 3 = dt 80 3) (hk4 : dt 14 3 = dt 80 4) (hk5 : dt 16 3 = dt 80 5) (hk6 : dt 18 0 = dt 81 0) (hk7 : dt 24 3 = dt 81 1) (hk8 : dt 27 3 = dt 81 2) (hk9 : dt 29 3 = dt 81 3) (hk10 : dt 31 3 = dt 81 4) (hk11 : dt 33 3 = dt 81 5) (hk12 : dt 0 2 = dt 79 2) (hk13 : dt 35 1 = dt 79 12) (hk14 : dt 35 2 = dt 79 19) (hk15 : dt 35 3 = dt 79 21) (hd0 : TPL (dt 36) (dt 85) (dt 35 1)), GO (am_XX L xs sio) (d + 39) 267 1435 [some (.inr (.inr (some 3000))), some (.inr (.inr (some 0))), some (.inr (.inr (some 79))), some (.inl i)] [] (SH, dt) Q) : GO (am_XX L xs sio) (d + 39) 267 590 [some (.inr (.inr (some 3000))), some (.inr (.inr (some 0))), some (.inr (.inr (some 79))), some (.inl i)] [] (SH, dt) Q := by
  have hF : Fr [0, 1, 2, 3, 4, 5, 6, 7, 8, 9, 10, 11, 12, 13, 14, 15, 16, 17, 18, 19, 20, 21, 22, 23, 24, 25, 26, 27, 28, 29, 30, 31, 32, 33, 34, 35, 36, 37, 38, 39, 40, 41, 42, 43, 44, 45, 46, 47, 48, 49, 50, 51, 52, 53, 54, 55, 56, 57, 58, 59, 60, 61, 62, 63, 64, 65, 66, 67, 68, 69, 70, 71, 72, 73, 74, 75, 76, 77, 78, 79, 80, 81, 82, 83, 84, 85, 86, 87, 88, 89, 90, 91, 92, 93, 94, 95, 96, 97, 98, 99, 100, 101, 102, 103, 104] dt dt := Fr_refl
  refine go_to (k := 5) (pc' := 595) (L' := [some (.inr (.inr (some 3000))), some (.inr (.inr (some 0))), some (.inr (.inr (some 79))), some (.inl i)]) (st' := [.inl (i + 1), .inr (.inr (some 3000)), .inr (.inr (some 0))]) (w' := (SH, dt)) (fun _ => rfl) ?_
  have r1 := i32_R (xs ((i + 1).toNat))
  refine go_smp (L' := [some (.inr (.inr (some 3000))), some (.inr (.inr (some 0))), some (.inr (.inr (some 79))), some (.inl i)]) (st' := [.inl ((xs ((i + 1).toNat)).toInt), .inr (.inr (some 0))]) (w' := (SH, dt)) rfl rfl (s_iald (n := L) (f := fun j => (xs j).toInt) (am_scr hLL) ⟨by omega, by omega⟩) ?_
  refine go_to (k := 4) (pc' := 600) (L' := [some (.inr (.inr (some 3000))), some (.inr (.inr (some 0))), some (.inr (.inr (some 79))), some (.inl i)]) (st' := [.inl (i + 2), .inr (.inr (some 3000)), .inl ((xs ((i + 1).toNat)).toInt), .inr (.inr (some 0))]) (w' := (SH, dt)) (fun _ => rfl) ?_
  have r2 := i32_R (xs ((i + 2).toNat))
  refine go_smp (L' := [some (.inr (.inr (some 3000))), some (.inr (.inr (some 0))), some (.inr (.inr (some 79))), some (.inl i)]) (st' := [.inl ((xs ((i + 2).toNat)).toInt), .inl ((xs ((i + 1).toNat)).toInt), .inr (.inr (some 0))]) (w' := (SH, dt)) rfl rfl (s_iald (n := L) (f := fun j => (xs j).toInt) (am_scr hLL) ⟨by omega, by omega⟩) ?_
  refine go_to (k := 4) (pc' := 605) (L' := [some (.inr (.inr (some 3000))), some (.inr (.inr (some 0))), some (.inr (.inr (some 79))), some (.inl i)]) (st' := [.inl (i + 3), .inr (.inr (some 3000)), .inl ((xs ((i + 2).toNat)).toInt), .inl ((xs ((i + 1).toNat)).toInt), .inr (.inr (some 0))]) (w' := (SH, dt)) (fun _ => rfl) ?_
  have r3 := i32_R (xs ((i + 3).toNat))
  refine go_smp (L' := [some (.inr (.inr (some 3000))), some (.inr (.inr (some 0))), some (.inr (.inr (some 79))), some (.inl i)]) (st' := [.inl ((xs ((i + 3).toNat)).toInt), .inl ((xs ((i + 2).toNat)).toInt), .inl ((xs ((i + 1).toNat)).toInt), .inr (.inr (some 0))]) (w' := (SH, dt)) rfl rfl (s_iald (n := L) (f := fun j => (xs j).toInt) (am_scr hLL) ⟨by omega, by omega⟩) ?_
  refine go_to (k := 4) (pc' := 610) (L' := [some (.inr (.inr (some 3000))), some (.inr (.inr (some 0))), some (.inr (.inr (some 79))), some (.inl i)]) (st' := [.inl (i + 4), .inr (.inr (some 3000)), .inl ((xs ((i + 3).toNat)).toInt), .inl ((xs ((i + 2).toNat)).toInt), .inl ((xs ((i + 1).toNat)).toInt), .inr (.inr (some 0))]) (w' := (SH, dt)) (fun _ => rfl) ?_
  have r4 := i32_R (xs ((i + 4).toNat))
  refine go_smp (L' := [some (.inr (.inr (some 3000))), some (.inr (.inr (some 0))), some (.inr (.inr (some 79))), some (.inl i)]) (st' := [.inl ((xs ((i + 4).toNat)).toInt), .inl ((xs ((i + 3).toNat)).toInt), .inl ((xs ((i + 2).toNat)).toInt), .inl ((xs ((i + 1).toNat)).toInt), .inr (.inr (some 0))]) (w' := (SH, dt)) rfl rfl (s_iald (n := L) (f := fun j => (xs j).toInt) (am_scr hLL) ⟨by omega, by omega⟩) ?_
  refine go_call (Q' := _) rfl rfl rfl rfl rfl (sp_X5_child L xs sio (d + 36) dt hI  ((xs ((i + 1).toNat)).toInt) ⟨by omega, by omega⟩ ((xs ((i + 2).toNat)).toInt) ⟨by omega, by omega⟩ ((xs ((i + 3).toNat)).toInt) ⟨by omega, by omega⟩ ((xs ((i + 4).toNat)).toInt) ⟨by omega, by omega⟩ ) ?_
  rintro _ _ ⟨dt6, rfl, hI7, hF8, h5⟩
  refine ⟨rfl, ?_⟩
  have hF9 : Fr [0, 1, 2, 3, 4, 5, 6, 7, 8, 9, 10, 11, 12, 13, 14, 15, 16, 17, 18, 19, 20, 21, 22, 23, 24, 25, 26, 27, 28, 29, 30, 31, 32, 33, 34, 35, 36, 37, 38, 39, 40, 41, 42, 43, 44, 45, 46, 47, 48, 49, 50, 51, 52, 53, 54, 55, 56, 57, 58, 59, 60, 61, 62, 63, 64, 65, 66, 67, 68, 69, 70, 71, 72, 73, 74, 75, 76, 77, 78, 79, 80, 81, 82, 83, 84, 85, 86, 87, 88, 89, 90, 91, 92, 93, 94, 95, 96, 97, 98, 99, 100, 101, 102, 103, 104] dt dt6 := Fr_tr hF hF8 (by decide)
  have hM10 : MW (dt6 80) := MW_fr hM hF8 (by decide)
  have w11 : dt6 1 0 = dt 1 0 := hF8 1 (by decide) 0
  have w12 : dt6 7 3 = dt 7 3 := hF8 7 (by decide) 3
  have w13 : dt6 12 3 = dt 12 3 := hF8 12 (by decide) 3
  have w14 : dt6 14 3 = dt 14 3 := hF8 14 (by decide) 3
  have w15 : dt6 16 3 = dt 16 3 := hF8 16 (by decide) 3
  have w16 : dt6 18 0 = dt 18 0 := hF8 18 (by decide) 0
  have w17 : dt6 24 3 = dt 24 3 := hF8 24 (by decide) 3
  have w18 : dt6 27 3 = dt 27 3 := hF8 27 (by decide) 3
  have w19 : dt6 29 3 = dt 29 3 := hF8 29 (by decide) 3
  have w20 : dt6 31 3 = dt 31 3 := hF8 31 (by decide) 3
  have w21 : dt6 33 3 = dt 33 3 := hF8 33 (by decide) 3
  have w22 : dt6 0 2 = dt 0 2 := hF8 0 (by decide) 2
  have w23 : dt6 35 1 = dt 35 1 := hF8 35 (by decide) 1
  have w24 : dt6 35 2 = dt 35 2 := hF8 35 (by decide) 2
  have w25 : dt6 35 3 = dt 35 3 := hF8 35 (by decide) 3
  have w26 : dt6 80 0 = dt 80 0 := hF8 80 (by decide) 0
  have w27 : dt6 80 1 = dt 80 1 := hF8 80 (by decide) 1
  have w28 : dt6 80 2 = dt 80 2 := hF8 80 (by decide) 2
  have w29 : dt6 80 3 = dt 80 3 := hF8 80 (by decide) 3
  have w30 : dt6 80 4 = dt 80 4 := hF8 80 (by decide) 4
  have w31 : dt6 80 5 = dt 80 5 := hF8 80 (by decide) 5
  have w32 : dt6 81 0 = dt 81 0 := hF8 81 (by decide) 0
  have w33 : dt6 81 1 = dt 81 1 := hF8 81 (by decide) 1
  have w34 : dt6 81 2 = dt 81 2 := hF8 81 (by decide) 2
  have w35 : dt6 81 3 = dt 81 3 := hF8 81 (by decide) 3
  have w36 : dt6 81 4 = dt 81 4 := hF8 81 (by decide) 4
  have w37 : dt6 81 5 = dt 81 5 := hF8 81 (by decide) 5
  have w38 : dt6 79 2 = dt 79 2 := hF8 79 (by decide) 2
  have w39 : dt6 79 12 = dt 79 12 := hF8 79 (by decide) 12
  have w40 : dt6 79 19 = dt 79 19 := hF8 79 (by decide) 19
  have w41 : dt6 79 21 = dt 79 21 := hF8 79 (by decide) 21
  rcases h5 with ⟨rfl, h5⟩ | ⟨v_h5, rfl, h5r, h5⟩
  · skip
    obtain ⟨h5_0, h5_1⟩ := h5
    have M242 : MW (dt6 81) := MW_frk hM2 hF8 (by decide)
    have C43 : ∀ j : Nat, dt6 36 j = dt 36 j := fun j => (hF8 36 (by decide) j).trans ((fun _ => rfl) j)
    have C44 : ∀ j : Nat, dt6 85 j = dt 85 j := fun j => (hF8 85 (by decide) j).trans ((fun _ => rfl) j)
    refine go_to (k := 6) (pc' := 620) (L' := [some (.inr (.inr (some 3000))), some (.inr (.inr (some 0))), some (.inr (.inr (some 79))), some (.inl i)]) (st' := [.inl (i + 1), .inr (.inr (some 3000)), .inr (.inr (some 79))]) (w' := (SH, dt6)) (fun _ => rfl) ?_
    have r45 := i32_R (xs ((i + 1).toNat))
    refine go_smp (L' := [some (.inr (.inr (some 3000))), some (.inr (.inr (some 0))), some (.inr (.inr (some 79))), some (.inl i)]) (st' := [.inl ((xs ((i + 1).toNat)).toInt), .inr (.inr (some 79))]) (w' := (SH, dt6)) rfl rfl (s_iald (n := L) (f := fun j => (xs j).toInt) (am_scr hLL) ⟨by omega, by omega⟩) ?_
    refine go_to (k := 4) (pc' := 625) (L' := [some (.inr (.inr (some 3000))), some (.inr (.inr (some 0))), some (.inr (.inr (some 79))), some (.inl i)]) (st' := [.inl (i + 2), .inr (.inr (some 3000)), .inl ((xs ((i + 1).toNat)).toInt), .inr (.inr (some 79))]) (w' := (SH, dt6)) (fun _ => rfl) ?_
    have r46 := i32_R (xs ((i + 2).toNat))
    refine go_smp (L' := [some (.inr (.inr (some 3000))), some (.inr (.inr (some 0))), some (.inr (.inr (some 79))), some (.inl i)]) (st' := [.inl ((xs ((i + 2).toNat)).toInt), .inl ((xs ((i + 1).toNat)).toInt), .inr (.inr (some 79))]) (w' := (SH, dt6)) rfl rfl (s_iald (n := L) (f := fun j => (xs j).toInt) (am_scr hLL) ⟨by omega, by omega⟩) ?_
    refine go_to (k := 4) (pc' := 630) (L' := [some (.inr (.inr (some 3000))), some (.inr (.inr (some 0))), some (.inr (.inr (some 79))), some (.inl i)]) (st' := [.inl (i + 3), .inr (.inr (some 3000)), .inl ((xs ((i + 2).toNat)).toInt), .inl ((xs ((i + 1).toNat)).toInt), .inr (.inr (some 79))]) (w' := (SH, dt6)) (fun _ => rfl) ?_
    have r47 := i32_R (xs ((i + 3).toNat))
    refine go_smp (L' := [some (.inr (.inr (some 3000))), some (.inr (.inr (some 0))), some (.inr (.inr (some 79))), some (.inl i)]) (st' := [.inl ((xs ((i + 3).toNat)).toInt), .inl ((xs ((i + 2).toNat)).toInt), .inl ((xs ((i + 1).toNat)).toInt), .inr (.inr (some 79))]) (w' := (SH, dt6)) rfl rfl (s_iald (n := L) (f := fun j => (xs j).toInt) (am_scr hLL) ⟨by omega, by omega⟩) ?_
    refine go_to (k := 4) (pc' := 635) (L' := [some (.inr (.inr (some 3000))), some (.inr (.inr (some 0))), some (.inr (.inr (some 79))), some (.inl i)]) (st' := [.inl (i + 4), .inr (.inr (some 3000)), .inl ((xs ((i + 3).toNat)).toInt), .inl ((xs ((i + 2).toNat)).toInt), .inl ((xs ((i + 1).toNat)).toInt), .inr (.inr (some 79))]) (w' := (SH, dt6)) (fun _ => rfl) ?_
    have r48 := i32_R (xs ((i + 4).toNat))
    refine go_smp (L' := [some (.inr (.inr (some 3000))), some (.inr (.inr (some 0))), some (.inr (.inr (some 79))), some (.inl i)]) (st' := [.inl ((xs ((i + 4).toNat)).toInt), .inl ((xs ((i + 3).toNat)).toInt), .inl ((xs ((i + 2).toNat)).toInt), .inl ((xs ((i + 1).toNat)).toInt), .inr (.inr (some 79))]) (w' := (SH, dt6)) rfl rfl (s_iald (n := L) (f := fun j => (xs j).toInt) (am_scr hLL) ⟨by omega, by omega⟩) ?_
    refine go_call (Q' := _) rfl rfl rfl rfl rfl (sp_X6_child L xs sio (d + 36) dt6 hI7 hM10  ((xs ((i + 1).toNat)).toInt) ⟨by omega, by omega⟩ ((xs ((i + 2).toNat)).toInt) ⟨by omega, by omega⟩ ((xs ((i + 3).toNat)).toInt) ⟨by omega, by omega⟩ ((xs ((i + 4).toNat)).toInt) ⟨by omega, by omega⟩ ) ?_
    rintro _ _ ⟨dt50, rfl, hI51, hF52, h49⟩
    refine ⟨rfl, ?_⟩
    have hF53 : Fr [0, 1, 2, 3, 4, 5, 6, 7, 8, 9, 10, 11, 12, 13, 14, 15, 16, 17, 18, 19, 20, 21, 22, 23, 24, 25, 26, 27, 28, 29, 30, 31, 32, 33, 34, 35, 36, 37, 38, 39, 40, 41, 42, 43, 44, 45, 46, 47, 48, 49, 50, 51, 52, 53, 54, 55, 56, 57, 58, 59, 60, 61, 62, 63, 64, 65, 66, 67, 68, 69, 70, 71, 72, 73, 74, 75, 76, 77, 78, 79, 80, 81, 82, 83, 84, 85, 86, 87, 88, 89, 90, 91, 92, 93, 94, 95, 96, 97, 98, 99, 100, 101, 102, 103, 104] dt dt50 := Fr_tr hF9 hF52 (by decide)
    have w54 : dt50 1 0 = dt6 1 0 := hF52 1 (by decide) 0
    have w55 : dt50 7 3 = dt6 7 3 := hF52 7 (by decide) 3
    have w56 : dt50 10 3 = dt6 10 3 := hF52 10 (by decide) 3
    have w57 : dt50 12 3 = dt6 12 3 := hF52 12 (by decide) 3
    have w58 : dt50 14 3 = dt6 14 3 := hF52 14 (by decide) 3
    have w59 : dt50 16 3 = dt6 16 3 := hF52 16 (by decide) 3
    have w60 : dt50 18 0 = dt6 18 0 := hF52 18 (by decide) 0
    have w61 : dt50 24 3 = dt6 24 3 := hF52 24 (by decide) 3
    have w62 : dt50 27 3 = dt6 27 3 := hF52 27 (by decide) 3
    have w63 : dt50 29 3 = dt6 29 3 := hF52 29 (by decide) 3
    have w64 : dt50 31 3 = dt6 31 3 := hF52 31 (by decide) 3
    have w65 : dt50 33 3 = dt6 33 3 := hF52 33 (by decide) 3
    have w66 : dt50 0 2 = dt6 0 2 := hF52 0 (by decide) 2
    have w67 : dt50 35 1 = dt6 35 1 := hF52 35 (by decide) 1
    have w68 : dt50 35 2 = dt6 35 2 := hF52 35 (by decide) 2
    have w69 : dt50 35 3 = dt6 35 3 := hF52 35 (by decide) 3
    have w70 : dt50 81 0 = dt6 81 0 := hF52 81 (by decide) 0
    have w71 : dt50 81 1 = dt6 81 1 := hF52 81 (by decide) 1
    have w72 : dt50 81 2 = dt6 81 2 := hF52 81 (by decide) 2
    have w73 : dt50 81 3 = dt6 81 3 := hF52 81 (by decide) 3
    have w74 : dt50 81 4 = dt6 81 4 := hF52 81 (by decide) 4
    have w75 : dt50 81 5 = dt6 81 5 := hF52 81 (by decide) 5
    have w76 : dt50 79 2 = dt6 79 2 := hF52 79 (by decide) 2
    have w77 : dt50 79 12 = dt6 79 12 := hF52 79 (by decide) 12
    have w78 : dt50 79 19 = dt6 79 19 := hF52 79 (by decide) 19
    have w79 : dt50 79 21 = dt6 79 21 := hF52 79 (by decide) 21
    rcases h49 with ⟨rfl, h49⟩ | ⟨v_h49, rfl, h49r, h49⟩
    · skip
      have hM80 : MW (dt50 80) := h49.2.1
      obtain ⟨h49_0, h49_1, h49_2, h49_3, h49_4, h49_5, h49_6, h49_7⟩ := h49
      have M281 : MW (dt50 81) := MW_frk M242 hF52 (by decide)
      have C82 : ∀ j : Nat, dt50 36 j = dt 36 j := fun j => (hF52 36 (by decide) j).trans (C43 j)
      have C83 : ∀ j : Nat, dt50 85 j = dt 85 j := fun j => (hF52 85 (by decide) j).trans (C44 j)
      refine go_to (k := 2) (pc' := 1435) (L' := [some (.inr (.inr (some 3000))), some (.inr (.inr (some 0))), some (.inr (.inr (some 79))), some (.inl i)]) (st' := []) (w' := (SH, dt50)) (fun _ => rfl) ?_
      exact K dt50 hI51 hM80 M281 (by first | omega | (simp only [*]; done) | simp only [*]) (by omega) (by omega) (by omega) (by omega) (by omega) (by omega) (by omega) (by omega) (by omega) (by omega) (by omega) (by omega) (by omega) (by omega) (by omega) (by first | exact hI | exact TPL_k hd0 C82 C83 (by omega) | (exfalso; omega))
    · skip
      have hM84 : MW (dt50 80) := h49.2.2.1
      obtain ⟨h49_0, h49_1, h49_2, h49_3, h49_4, h49_5, h49_6, h49_7, h49_8⟩ := h49
      have M285 : MW (dt50 81) := MW_frk M242 hF52 (by decide)
      have C86 : ∀ j : Nat, dt50 36 j = dt 36 j := fun j => (hF52 36 (by decide) j).trans (C43 j)
      have C87 : ∀ j : Nat, dt50 85 j = dt 85 j := fun j => (hF52 85 (by decide) j).trans (C44 j)
      refine go_to (k := 2) (pc' := 1435) (L' := [some (.inr (.inr (some 3000))), some (.inr (.inr (some 0))), some (.inr (.inr (some 79))), some (.inl i)]) (st' := []) (w' := (SH, dt50)) (fun _ => rfl) ?_
      exact K dt50 hI51 hM84 M285 (by first | omega | (simp only [*]; done) | simp only [*]) (by omega) (by omega) (by omega) (by omega) (by omega) (by omega) (by omega) (by omega) (by omega) (by omega) (by omega) (by omega) (by omega) (by omega) (by omega) (by first | exact hI | exact TPL_k hd0 C86 C87 (by omega) | (exfalso; omega))
  · skip
    obtain ⟨h5_0, h5_1, h5_2⟩ := h5
    have M288 : MW (dt6 81) := MW_frk hM2 hF8 (by decide)
    have C89 : ∀ j : Nat, dt6 36 j = dt 36 j := fun j => (hF8 36 (by decide) j).trans ((fun _ => rfl) j)
    have C90 : ∀ j : Nat, dt6 85 j = dt 85 j := fun j => (hF8 85 (by decide) j).trans ((fun _ => rfl) j)
    refine go_to (k := 6) (pc' := 620) (L' := [some (.inr (.inr (some 3000))), some (.inr (.inr (some 0))), some (.inr (.inr (some 79))), some (.inl i)]) (st' := [.inl (i + 1), .inr (.inr (some 3000)), .inr (.inr (some 79))]) (w' := (SH, dt6)) (fun _ => rfl) ?_
    have r91 := i32_R (xs ((i + 1).toNat))
    refine go_smp (L' := [some (.inr (.inr (some 3000))), some (.inr (.inr (some 0))), some (.inr (.inr (some 79))), some (.inl i)]) (st' := [.inl ((xs ((i + 1).toNat)).toInt), .inr (.inr (some 79))]) (w' := (SH, dt6)) rfl rfl (s_iald (n := L) (f := fun j => (xs j).toInt) (am_scr hLL) ⟨by omega, by omega⟩) ?_
    refine go_to (k := 4) (pc' := 625) (L' := [some (.inr (.inr (some 3000))), some (.inr (.inr (some 0))), some (.inr (.inr (some 79))), some (.inl i)]) (st' := [.inl (i + 2), .inr (.inr (some 3000)), .inl ((xs ((i + 1).toNat)).toInt), .inr (.inr (some 79))]) (w' := (SH, dt6)) (fun _ => rfl) ?_
    have r92 := i32_R (xs ((i + 2).toNat))
    refine go_smp (L' := [some (.inr (.inr (some 3000))), some (.inr (.inr (some 0))), some (.inr (.inr (some 79))), some (.inl i)]) (st' := [.inl ((xs ((i + 2).toNat)).toInt), .inl ((xs ((i + 1).toNat)).toInt), .inr (.inr (some 79))]) (w' := (SH, dt6)) rfl rfl (s_iald (n := L) (f := fun j => (xs j).toInt) (am_scr hLL) ⟨by omega, by omega⟩) ?_
    refine go_to (k := 4) (pc' := 630) (L' := [some (.inr (.inr (some 3000))), some (.inr (.inr (some 0))), some (.inr (.inr (some 79))), some (.inl i)]) (st' := [.inl (i + 3), .inr (.inr (some 3000)), .inl ((xs ((i + 2).toNat)).toInt), .inl ((xs ((i + 1).toNat)).toInt), .inr (.inr (some 79))]) (w' := (SH, dt6)) (fun _ => rfl) ?_
    have r93 := i32_R (xs ((i + 3).toNat))
    refine go_smp (L' := [some (.inr (.inr (some 3000))), some (.inr (.inr (some 0))), some (.inr (.inr (some 79))), some (.inl i)]) (st' := [.inl ((xs ((i + 3).toNat)).toInt), .inl ((xs ((i + 2).toNat)).toInt), .inl ((xs ((i + 1).toNat)).toInt), .inr (.inr (some 79))]) (w' := (SH, dt6)) rfl rfl (s_iald (n := L) (f := fun j => (xs j).toInt) (am_scr hLL) ⟨by omega, by omega⟩) ?_
    refine go_to (k := 4) (pc' := 635) (L' := [some (.inr (.inr (some 3000))), some (.inr (.inr (some 0))), some (.inr (.inr (some 79))), some (.inl i)]) (st' := [.inl (i + 4), .inr (.inr (some 3000)), .inl ((xs ((i + 3).toNat)).toInt), .inl ((xs ((i + 2).toNat)).toInt), .inl ((xs ((i + 1).toNat)).toInt), .inr (.inr (some 79))]) (w' := (SH, dt6)) (fun _ => rfl) ?_
    have r94 := i32_R (xs ((i + 4).toNat))
    refine go_smp (L' := [some (.inr (.inr (some 3000))), some (.inr (.inr (some 0))), some (.inr (.inr (some 79))), some (.inl i)]) (st' := [.inl ((xs ((i + 4).toNat)).toInt), .inl ((xs ((i + 3).toNat)).toInt), .inl ((xs ((i + 2).toNat)).toInt), .inl ((xs ((i + 1).toNat)).toInt), .inr (.inr (some 79))]) (w' := (SH, dt6)) rfl rfl (s_iald (n := L) (f := fun j => (xs j).toInt) (am_scr hLL) ⟨by omega, by omega⟩) ?_
    refine go_call (Q' := _) rfl rfl rfl rfl rfl (sp_X6_child L xs sio (d + 36) dt6 hI7 hM10  ((xs ((i + 1).toNat)).toInt) ⟨by omega, by omega⟩ ((xs ((i + 2).toNat)).toInt) ⟨by omega, by omega⟩ ((xs ((i + 3).toNat)).toInt) ⟨by omega, by omega⟩ ((xs ((i + 4).toNat)).toInt) ⟨by omega, by omega⟩ ) ?_
    rintro _ _ ⟨dt96, rfl, hI97, hF98, h95⟩
    refine ⟨rfl, ?_⟩
    have hF99 : Fr [0, 1, 2, 3, 4, 5, 6, 7, 8, 9, 10, 11, 12, 13, 14, 15, 16, 17, 18, 19, 20, 21, 22, 23, 24, 25, 26, 27, 28, 29, 30, 31, 32, 33, 34, 35, 36, 37, 38, 39, 40, 41, 42, 43, 44, 45, 46, 47, 48, 49, 50, 51, 52, 53, 54, 55, 56, 57, 58, 59, 60, 61, 62, 63, 64, 65, 66, 67, 68, 69, 70, 71, 72, 73, 74, 75, 76, 77, 78, 79, 80, 81, 82, 83, 84, 85, 86, 87, 88, 89, 90, 91, 92, 93, 94, 95, 96, 97, 98, 99, 100, 101, 102, 103, 104] dt dt96 := Fr_tr hF9 hF98 (by decide)
    have w100 : dt96 1 0 = dt6 1 0 := hF98 1 (by decide) 0
    have w101 : dt96 7 3 = dt6 7 3 := hF98 7 (by decide) 3
    have w102 : dt96 10 3 = dt6 10 3 := hF98 10 (by decide) 3
    have w103 : dt96 12 3 = dt6 12 3 := hF98 12 (by decide) 3
    have w104 : dt96 14 3 = dt6 14 3 := hF98 14 (by decide) 3
    have w105 : dt96 16 3 = dt6 16 3 := hF98 16 (by decide) 3
    have w106 : dt96 18 0 = dt6 18 0 := hF98 18 (by decide) 0
    have w107 : dt96 24 3 = dt6 24 3 := hF98 24 (by decide) 3
    have w108 : dt96 27 3 = dt6 27 3 := hF98 27 (by decide) 3
    have w109 : dt96 29 3 = dt6 29 3 := hF98 29 (by decide) 3
    have w110 : dt96 31 3 = dt6 31 3 := hF98 31 (by decide) 3
    have w111 : dt96 33 3 = dt6 33 3 := hF98 33 (by decide) 3
    have w112 : dt96 0 2 = dt6 0 2 := hF98 0 (by decide) 2
    have w113 : dt96 35 1 = dt6 35 1 := hF98 35 (by decide) 1
    have w114 : dt96 35 2 = dt6 35 2 := hF98 35 (by decide) 2
    have w115 : dt96 35 3 = dt6 35 3 := hF98 35 (by decide) 3
    have w116 : dt96 81 0 = dt6 81 0 := hF98 81 (by decide) 0
    have w117 : dt96 81 1 = dt6 81 1 := hF98 81 (by decide) 1
    have w118 : dt96 81 2 = dt6 81 2 := hF98 81 (by decide) 2
    have w119 : dt96 81 3 = dt6 81 3 := hF98 81 (by decide) 3
    have w120 : dt96 81 4 = dt6 81 4 := hF98 81 (by decide) 4
    have w121 : dt96 81 5 = dt6 81 5 := hF98 81 (by decide) 5
    have w122 : dt96 79 2 = dt6 79 2 := hF98 79 (by decide) 2
    have w123 : dt96 79 12 = dt6 79 12 := hF98 79 (by decide) 12
    have w124 : dt96 79 19 = dt6 79 19 := hF98 79 (by decide) 19
    have w125 : dt96 79 21 = dt6 79 21 := hF98 79 (by decide) 21
    rcases h95 with ⟨rfl, h95⟩ | ⟨v_h95, rfl, h95r, h95⟩
    · skip
      have hM126 : MW (dt96 80) := h95.2.1
      obtain ⟨h95_0, h95_1, h95_2, h95_3, h95_4, h95_5, h95_6, h95_7⟩ := h95
      have M2127 : MW (dt96 81) := MW_frk M288 hF98 (by decide)
      have C128 : ∀ j : Nat, dt96 36 j = dt 36 j := fun j => (hF98 36 (by decide) j).trans (C89 j)
      have C129 : ∀ j : Nat, dt96 85 j = dt 85 j := fun j => (hF98 85 (by decide) j).trans (C90 j)
      refine go_to (k := 2) (pc' := 1435) (L' := [some (.inr (.inr (some 3000))), some (.inr (.inr (some 0))), some (.inr (.inr (some 79))), some (.inl i)]) (st' := []) (w' := (SH, dt96)) (fun _ => rfl) ?_
      exact K dt96 hI97 hM126 M2127 (by first | omega | (simp only [*]; done) | simp only [*]) (by omega) (by omega) (by omega) (by omega) (by omega) (by omega) (by omega) (by omega) (by omega) (by omega) (by omega) (by omega) (by omega) (by omega) (by omega) (by first | exact hI | exact TPL_k hd0 C128 C129 (by omega) | (exfalso; omega))
    · skip
      have hM130 : MW (dt96 80) := h95.2.2.1
      obtain ⟨h95_0, h95_1, h95_2, h95_3, h95_4, h95_5, h95_6, h95_7, h95_8⟩ := h95
      have M2131 : MW (dt96 81) := MW_frk M288 hF98 (by decide)
      have C132 : ∀ j : Nat, dt96 36 j = dt 36 j := fun j => (hF98 36 (by decide) j).trans (C89 j)
      have C133 : ∀ j : Nat, dt96 85 j = dt 85 j := fun j => (hF98 85 (by decide) j).trans (C90 j)
      refine go_to (k := 2) (pc' := 1435) (L' := [some (.inr (.inr (some 3000))), some (.inr (.inr (some 0))), some (.inr (.inr (some 79))), some (.inl i)]) (st' := []) (w' := (SH, dt96)) (fun _ => rfl) ?_
      exact K dt96 hI97 hM130 M2131 (by first | omega | (simp only [*]; done) | simp only [*]) (by omega) (by omega) (by omega) (by omega) (by omega) (by omega) (by omega) (by omega) (by omega) (by omega) (by omega) (by omega) (by omega) (by omega) (by omega) (by first | exact hI | exact TPL_k hd0 C132 C133 (by omega) | (exfalso; omega))
