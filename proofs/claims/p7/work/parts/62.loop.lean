theorem am_scr {L : Nat} {xs : Nat → Int32} {sio : Option Nat} {dt : Nat → Nat → Int} (h : L ≤ 3072) : am_arr (am_XX L xs sio) (SH, dt) 3000 = some (0, L, fun j => (xs j).toInt) := by
  have e : SH[3000]? = none := by decide +kernel
  unfold am_arr
  rw [show (SH, dt).1[3000]? = none from e]
  dsimp only [am_XX]
  rw [if_pos rfl]
  dsimp only
  have : Nat.blt L 2147483648 = true := Nat.blt_eq.mpr (by omega)
  rw [this]
  rfl
theorem s_alen {X : am_X} {L : am_L} {w : am_W} {tg : List Nat} {cv : Int} {r n ty : Nat} {f : Nat → Int} {rest : List AV} (hw : am_arr X w r = some (ty, n, f)) (h : Nat.blt ty 4 = true) : am_smp X .arraylength tg cv L (.inr (.inr (some r)) :: rest) w = some (L, .inl (n : Int) :: rest, w) := by
  simp only [am_smp, hw, h, cond_true]

set_option maxRecDepth 20000 in
set_option maxHeartbeats 8000000 in
theorem sp_case0 (L : Nat) (xs : Nat → Int32) (sio : Option Nat) (d : Nat) (Q : Option AV → am_W → Prop) (hLL : L ≤ 3072) (i : Int) (hi : 0 ≤ i ∧ i ≤ 3066) (hil : i ≤ (L : Int) - 6) (dt : Nat → Nat → Int) (hI : InvC dt) (hM : MW (dt 80)) (hM2 : MW (dt 81)) (hk0 : dt 1 0 = dt 80 0) (hk1 : dt 7 3 = dt 80 1) (hk2 : dt 10 3 = dt 80 2) (hk3 : dt 12 3 = dt 80 3) (hk4 : dt 14 3 = dt 80 4) (hk5 : dt 16 3 = dt 80 5) (hk6 : dt 18 0 = dt 81 0) (hk7 : dt 24 3 = dt 81 1) (hk8 : dt 27 3 = dt 81 2) (hk9 : dt 29 3 = dt 81 3) (hk10 : dt 31 3 = dt 81 4) (hk11 : dt 33 3 = dt 81 5) (hk12 : dt 0 2 = dt 79 2) (hk13 : dt 35 1 = dt 79 12) (hk14 : dt 35 2 = dt 79 19) (hk15 : dt 35 3 = dt 79 21) (hd0 : TPL (dt 36) (dt 85) (dt 35 1)) (hd1 : SCL (dt 2) (dt 3) (dt 80)) (hd2 : SCL (dt 19) (dt 20) (dt 81)) (K : ∀ (dt : Nat → Nat → Int) (hI : InvC dt) (hM : MW (dt 80)) (hM2 : MW (dt 81)) (hk0 : dt 1 0 = dt 80 0) (hk1 : dt 7 3 = dt 80 1) (hk2 : dt 10 3 = dt 80 2) (hk3 : dt 12 3 = dt 80 3) (hk4 : dt 14 3 = dt 80 4) (hk5 : dt 16 3 = dt 80 5) (hk6 : dt 18 0 = dt 81 0) (hk7 : dt 24 3 = dt 81 1) (hk8 : dt 27 3 = dt 81 2) (hk9 : dt 29 3 = dt 81 3) (hk10 : dt 31 3 = dt 81 4) (hk11 : dt 33 3 = dt 81 5) (hk12 : dt 0 2 = dt 79 2) (hk13 : dt 35 1 = dt 79 12) (hk14 : dt 35 2 = dt 79 19) (hk15 : dt 35 3 = dt 79 21) (hd0 : TPL (dt 36) (dt 85) (dt 35 1)) (hd1 : SCL (dt 2) (dt 3) (dt 80)) (hd2 : SCL (dt 19) (dt 20) (dt 81)), GO (am_XX L xs sio) (d + 39) 267 1435 [some (.inr (.inr (some 3000))), some (.inr (.inr (some 0))), some (.inr (.inr (some 79))), some (.inl i)] [] (SH, dt) Q) : GO (am_XX L xs sio) (d + 39) 267 180 [some (.inr (.inr (some 3000))), some (.inr (.inr (some 0))), some (.inr (.inr (some 79))), some (.inl i)] [] (SH, dt) Q := by
  have hF : Fr [0, 1, 2, 3, 4, 5, 6, 7, 8, 9, 10, 11, 12, 13, 14, 15, 16, 17, 18, 19, 20, 21, 22, 23, 24, 25, 26, 27, 28, 29, 30, 31, 32, 33, 34, 35, 36, 37, 38, 39, 40, 41, 42, 43, 44, 45, 46, 47, 48, 49, 50, 51, 52, 53, 54, 55, 56, 57, 58, 59, 60, 61, 62, 63, 64, 65, 66, 67, 68, 69, 70, 71, 72, 73, 74, 75, 76, 77, 78, 79, 80, 81, 82, 83, 84, 85, 86, 87, 88, 89, 90, 91, 92, 93, 94, 95, 96, 97, 98, 99, 100, 101, 102, 103, 104] dt dt := Fr_refl
  refine go_toq PM267 (k := 5) (pc' := 185) (L' := [some (.inr (.inr (some 3000))), some (.inr (.inr (some 0))), some (.inr (.inr (some 79))), some (.inl i)]) (st' := [.inl (i + 1), .inr (.inr (some 3000)), .inr (.inr (some 0))]) (w' := (SH, dt)) rfl ?_
  have r1 := i32_R (xs ((i + 1).toNat))
  refine go_smpq PM267 (L' := [some (.inr (.inr (some 3000))), some (.inr (.inr (some 0))), some (.inr (.inr (some 79))), some (.inl i)]) (st' := [.inl ((xs ((i + 1).toNat)).toInt), .inr (.inr (some 0))]) (w' := (SH, dt)) rfl rfl (s_iald (n := L) (f := fun j => (xs j).toInt) (am_scr hLL) ⟨by omega, by omega⟩) ?_
  refine go_callq PM267 PM67 (Q' := _) rfl rfl rfl rfl (sp_X5_state L xs sio (d + 38) dt hI  ((xs ((i + 1).toNat)).toInt) ⟨by omega, by omega⟩ ) ?_
  rintro _ _ ⟨dt3, rfl, hI4, hF5, h2⟩
  refine ⟨rfl, ?_⟩
  have hF6 : Fr [0, 1, 2, 3, 4, 5, 6, 7, 8, 9, 10, 11, 12, 13, 14, 15, 16, 17, 18, 19, 20, 21, 22, 23, 24, 25, 26, 27, 28, 29, 30, 31, 32, 33, 34, 35, 36, 37, 38, 39, 40, 41, 42, 43, 44, 45, 46, 47, 48, 49, 50, 51, 52, 53, 54, 55, 56, 57, 58, 59, 60, 61, 62, 63, 64, 65, 66, 67, 68, 69, 70, 71, 72, 73, 74, 75, 76, 77, 78, 79, 80, 81, 82, 83, 84, 85, 86, 87, 88, 89, 90, 91, 92, 93, 94, 95, 96, 97, 98, 99, 100, 101, 102, 103, 104] dt dt3 := Fr_tr hF hF5 (by decide)
  have hM7 : MW (dt3 80) := MW_fr hM hF5 (by decide)
  have w8 : dt3 7 3 = dt 7 3 := hF5 7 (by decide) 3
  have w9 : dt3 10 3 = dt 10 3 := hF5 10 (by decide) 3
  have w10 : dt3 12 3 = dt 12 3 := hF5 12 (by decide) 3
  have w11 : dt3 14 3 = dt 14 3 := hF5 14 (by decide) 3
  have w12 : dt3 16 3 = dt 16 3 := hF5 16 (by decide) 3
  have w13 : dt3 18 0 = dt 18 0 := hF5 18 (by decide) 0
  have w14 : dt3 24 3 = dt 24 3 := hF5 24 (by decide) 3
  have w15 : dt3 27 3 = dt 27 3 := hF5 27 (by decide) 3
  have w16 : dt3 29 3 = dt 29 3 := hF5 29 (by decide) 3
  have w17 : dt3 31 3 = dt 31 3 := hF5 31 (by decide) 3
  have w18 : dt3 33 3 = dt 33 3 := hF5 33 (by decide) 3
  have w19 : dt3 0 2 = dt 0 2 := hF5 0 (by decide) 2
  have w20 : dt3 35 1 = dt 35 1 := hF5 35 (by decide) 1
  have w21 : dt3 35 2 = dt 35 2 := hF5 35 (by decide) 2
  have w22 : dt3 35 3 = dt 35 3 := hF5 35 (by decide) 3
  have w23 : dt3 80 0 = dt 80 0 := hF5 80 (by decide) 0
  have w24 : dt3 80 1 = dt 80 1 := hF5 80 (by decide) 1
  have w25 : dt3 80 2 = dt 80 2 := hF5 80 (by decide) 2
  have w26 : dt3 80 3 = dt 80 3 := hF5 80 (by decide) 3
  have w27 : dt3 80 4 = dt 80 4 := hF5 80 (by decide) 4
  have w28 : dt3 80 5 = dt 80 5 := hF5 80 (by decide) 5
  have w29 : dt3 81 0 = dt 81 0 := hF5 81 (by decide) 0
  have w30 : dt3 81 1 = dt 81 1 := hF5 81 (by decide) 1
  have w31 : dt3 81 2 = dt 81 2 := hF5 81 (by decide) 2
  have w32 : dt3 81 3 = dt 81 3 := hF5 81 (by decide) 3
  have w33 : dt3 81 4 = dt 81 4 := hF5 81 (by decide) 4
  have w34 : dt3 81 5 = dt 81 5 := hF5 81 (by decide) 5
  have w35 : dt3 79 2 = dt 79 2 := hF5 79 (by decide) 2
  have w36 : dt3 79 12 = dt 79 12 := hF5 79 (by decide) 12
  have w37 : dt3 79 19 = dt 79 19 := hF5 79 (by decide) 19
  have w38 : dt3 79 21 = dt 79 21 := hF5 79 (by decide) 21
  rcases h2 with ⟨rfl, h2⟩
  have M239 : MW (dt3 81) := MW_frk hM2 hF5 (by decide)
  have C40 : ∀ j : Nat, dt3 2 j = dt 2 j := fun j => (hF5 2 (by decide) j).trans ((fun _ => rfl) j)
  have C41 : ∀ j : Nat, dt3 3 j = dt 3 j := fun j => (hF5 3 (by decide) j).trans ((fun _ => rfl) j)
  have C42 : ∀ j : Nat, dt3 19 j = dt 19 j := fun j => (hF5 19 (by decide) j).trans ((fun _ => rfl) j)
  have C43 : ∀ j : Nat, dt3 20 j = dt 20 j := fun j => (hF5 20 (by decide) j).trans ((fun _ => rfl) j)
  have C44 : ∀ j : Nat, dt3 36 j = dt 36 j := fun j => (hF5 36 (by decide) j).trans ((fun _ => rfl) j)
  have C45 : ∀ j : Nat, dt3 80 j = dt 80 j := fun j => (hF5 80 (by decide) j).trans ((fun _ => rfl) j)
  have C46 : ∀ j : Nat, dt3 81 j = dt 81 j := fun j => (hF5 81 (by decide) j).trans ((fun _ => rfl) j)
  have C47 : ∀ j : Nat, dt3 85 j = dt 85 j := fun j => (hF5 85 (by decide) j).trans ((fun _ => rfl) j)
  refine go_toq PM267 (k := 6) (pc' := 195) (L' := [some (.inr (.inr (some 3000))), some (.inr (.inr (some 0))), some (.inr (.inr (some 79))), some (.inl i)]) (st' := [.inl (i + 1), .inr (.inr (some 3000)), .inr (.inr (some 79))]) (w' := (SH, dt3)) rfl ?_
  have r48 := i32_R (xs ((i + 1).toNat))
  refine go_smpq PM267 (L' := [some (.inr (.inr (some 3000))), some (.inr (.inr (some 0))), some (.inr (.inr (some 79))), some (.inl i)]) (st' := [.inl ((xs ((i + 1).toNat)).toInt), .inr (.inr (some 79))]) (w' := (SH, dt3)) rfl rfl (s_iald (n := L) (f := fun j => (xs j).toInt) (am_scr hLL) ⟨by omega, by omega⟩) ?_
  refine go_callq PM267 PM149 (Q' := _) rfl rfl rfl rfl (sp_X6_state_v L xs sio (d + 38) dt3 hI4 hM7  ((xs ((i + 1).toNat)).toInt) ⟨by omega, by omega⟩ ) ?_
  rintro _ _ ⟨dt50, rfl, hI51, hF52, h49⟩
  refine ⟨rfl, ?_⟩
  have hF53 : Fr [0, 1, 2, 3, 4, 5, 6, 7, 8, 9, 10, 11, 12, 13, 14, 15, 16, 17, 18, 19, 20, 21, 22, 23, 24, 25, 26, 27, 28, 29, 30, 31, 32, 33, 34, 35, 36, 37, 38, 39, 40, 41, 42, 43, 44, 45, 46, 47, 48, 49, 50, 51, 52, 53, 54, 55, 56, 57, 58, 59, 60, 61, 62, 63, 64, 65, 66, 67, 68, 69, 70, 71, 72, 73, 74, 75, 76, 77, 78, 79, 80, 81, 82, 83, 84, 85, 86, 87, 88, 89, 90, 91, 92, 93, 94, 95, 96, 97, 98, 99, 100, 101, 102, 103, 104] dt dt50 := Fr_tr hF6 hF52 (by decide)
  have w54 : dt50 1 0 = dt3 1 0 := hF52 1 (by decide) 0
  have w55 : dt50 7 3 = dt3 7 3 := hF52 7 (by decide) 3
  have w56 : dt50 10 3 = dt3 10 3 := hF52 10 (by decide) 3
  have w57 : dt50 12 3 = dt3 12 3 := hF52 12 (by decide) 3
  have w58 : dt50 14 3 = dt3 14 3 := hF52 14 (by decide) 3
  have w59 : dt50 16 3 = dt3 16 3 := hF52 16 (by decide) 3
  have w60 : dt50 18 0 = dt3 18 0 := hF52 18 (by decide) 0
  have w61 : dt50 24 3 = dt3 24 3 := hF52 24 (by decide) 3
  have w62 : dt50 27 3 = dt3 27 3 := hF52 27 (by decide) 3
  have w63 : dt50 29 3 = dt3 29 3 := hF52 29 (by decide) 3
  have w64 : dt50 31 3 = dt3 31 3 := hF52 31 (by decide) 3
  have w65 : dt50 33 3 = dt3 33 3 := hF52 33 (by decide) 3
  have w66 : dt50 0 2 = dt3 0 2 := hF52 0 (by decide) 2
  have w67 : dt50 35 1 = dt3 35 1 := hF52 35 (by decide) 1
  have w68 : dt50 35 2 = dt3 35 2 := hF52 35 (by decide) 2
  have w69 : dt50 35 3 = dt3 35 3 := hF52 35 (by decide) 3
  have w70 : dt50 81 0 = dt3 81 0 := hF52 81 (by decide) 0
  have w71 : dt50 81 1 = dt3 81 1 := hF52 81 (by decide) 1
  have w72 : dt50 81 2 = dt3 81 2 := hF52 81 (by decide) 2
  have w73 : dt50 81 3 = dt3 81 3 := hF52 81 (by decide) 3
  have w74 : dt50 81 4 = dt3 81 4 := hF52 81 (by decide) 4
  have w75 : dt50 81 5 = dt3 81 5 := hF52 81 (by decide) 5
  have w76 : dt50 79 2 = dt3 79 2 := hF52 79 (by decide) 2
  have w77 : dt50 79 12 = dt3 79 12 := hF52 79 (by decide) 12
  have w78 : dt50 79 19 = dt3 79 19 := hF52 79 (by decide) 19
  have w79 : dt50 79 21 = dt3 79 21 := hF52 79 (by decide) 21
  rcases h49 with ⟨rfl, h49⟩
  have hM80 : MW (dt50 80) := h49.2.1
  obtain ⟨h49_0, h49_1, h49_2, h49_3, h49_4, h49_5, h49_6, h49_7⟩ := h49
  have M281 : MW (dt50 81) := MW_frk M239 hF52 (by decide)
  have C82 : ∀ j : Nat, dt50 2 j = dt 2 j := fun j => (hF52 2 (by decide) j).trans (C40 j)
  have C83 : ∀ j : Nat, dt50 3 j = dt 3 j := fun j => (hF52 3 (by decide) j).trans (C41 j)
  have C84 : ∀ j : Nat, dt50 19 j = dt 19 j := fun j => (hF52 19 (by decide) j).trans (C42 j)
  have C85 : ∀ j : Nat, dt50 20 j = dt 20 j := fun j => (hF52 20 (by decide) j).trans (C43 j)
  have C86 : ∀ j : Nat, dt50 36 j = dt 36 j := fun j => (hF52 36 (by decide) j).trans (C44 j)
  have C87 : ∀ j : Nat, dt50 81 j = dt 81 j := fun j => (hF52 81 (by decide) j).trans (C46 j)
  have C88 : ∀ j : Nat, dt50 85 j = dt 85 j := fun j => (hF52 85 (by decide) j).trans (C47 j)
  have F89 : ∀ j : Nat, 6 ≤ j → j < 974 → dt50 80 j = dt 80 j := fun j h1_ h2_ => (h49_7 j (by omega)).trans (C45 j)
  refine go_toq PM267 (k := 2) (pc' := 1435) (L' := [some (.inr (.inr (some 3000))), some (.inr (.inr (some 0))), some (.inr (.inr (some 79))), some (.inl i)]) (st' := []) (w' := (SH, dt50)) rfl ?_
  exact K dt50 hI51 hM80 M281 (by first | omega | (simp only [*]; done) | simp only [*]) (by omega) (by omega) (by omega) (by omega) (by omega) (by omega) (by omega) (by omega) (by omega) (by omega) (by omega) (by omega) (by omega) (by omega) (by omega) (by first | exact hI | exact TPL_k hd0 C86 C88 (by omega) | (exfalso; omega)) (by first | exact hI | exact SCL_k hd1 hM (fun j _ => C82 j) (fun j _ => C83 j) F89 | (exfalso; omega)) (by first | exact hI | exact SCL_k hd2 hM2 (fun j _ => C84 j) (fun j _ => C85 j) (fun j _ _ => C87 j) | (exfalso; omega))
set_option maxRecDepth 20000 in
set_option maxHeartbeats 8000000 in
theorem sp_case1 (L : Nat) (xs : Nat → Int32) (sio : Option Nat) (d : Nat) (Q : Option AV → am_W → Prop) (hLL : L ≤ 3072) (i : Int) (hi : 0 ≤ i ∧ i ≤ 3066) (hil : i ≤ (L : Int) - 6) (dt : Nat → Nat → Int) (hI : InvC dt) (hM : MW (dt 80)) (hM2 : MW (dt 81)) (hk0 : dt 1 0 = dt 80 0) (hk1 : dt 7 3 = dt 80 1) (hk2 : dt 10 3 = dt 80 2) (hk3 : dt 12 3 = dt 80 3) (hk4 : dt 14 3 = dt 80 4) (hk5 : dt 16 3 = dt 80 5) (hk6 : dt 18 0 = dt 81 0) (hk7 : dt 24 3 = dt 81 1) (hk8 : dt 27 3 = dt 81 2) (hk9 : dt 29 3 = dt 81 3) (hk10 : dt 31 3 = dt 81 4) (hk11 : dt 33 3 = dt 81 5) (hk12 : dt 0 2 = dt 79 2) (hk13 : dt 35 1 = dt 79 12) (hk14 : dt 35 2 = dt 79 19) (hk15 : dt 35 3 = dt 79 21) (hd0 : TPL (dt 36) (dt 85) (dt 35 1)) (hd1 : SCL (dt 2) (dt 3) (dt 80)) (hd2 : SCL (dt 19) (dt 20) (dt 81)) (K : ∀ (dt : Nat → Nat → Int) (hI : InvC dt) (hM : MW (dt 80)) (hM2 : MW (dt 81)) (hk0 : dt 1 0 = dt 80 0) (hk1 : dt 7 3 = dt 80 1) (hk2 : dt 10 3 = dt 80 2) (hk3 : dt 12 3 = dt 80 3) (hk4 : dt 14 3 = dt 80 4) (hk5 : dt 16 3 = dt 80 5) (hk6 : dt 18 0 = dt 81 0) (hk7 : dt 24 3 = dt 81 1) (hk8 : dt 27 3 = dt 81 2) (hk9 : dt 29 3 = dt 81 3) (hk10 : dt 31 3 = dt 81 4) (hk11 : dt 33 3 = dt 81 5) (hk12 : dt 0 2 = dt 79 2) (hk13 : dt 35 1 = dt 79 12) (hk14 : dt 35 2 = dt 79 19) (hk15 : dt 35 3 = dt 79 21) (hd0 : TPL (dt 36) (dt 85) (dt 35 1)) (hd1 : SCL (dt 2) (dt 3) (dt 80)) (hd2 : SCL (dt 19) (dt 20) (dt 81)), GO (am_XX L xs sio) (d + 39) 267 1435 [some (.inr (.inr (some 3000))), some (.inr (.inr (some 0))), some (.inr (.inr (some 79))), some (.inl i)] [] (SH, dt) Q) : GO (am_XX L xs sio) (d + 39) 267 203 [some (.inr (.inr (some 3000))), some (.inr (.inr (some 0))), some (.inr (.inr (some 79))), some (.inl i)] [] (SH, dt) Q := by
  have hF : Fr [0, 1, 2, 3, 4, 5, 6, 7, 8, 9, 10, 11, 12, 13, 14, 15, 16, 17, 18, 19, 20, 21, 22, 23, 24, 25, 26, 27, 28, 29, 30, 31, 32, 33, 34, 35, 36, 37, 38, 39, 40, 41, 42, 43, 44, 45, 46, 47, 48, 49, 50, 51, 52, 53, 54, 55, 56, 57, 58, 59, 60, 61, 62, 63, 64, 65, 66, 67, 68, 69, 70, 71, 72, 73, 74, 75, 76, 77, 78, 79, 80, 81, 82, 83, 84, 85, 86, 87, 88, 89, 90, 91, 92, 93, 94, 95, 96, 97, 98, 99, 100, 101, 102, 103, 104] dt dt := Fr_refl
  refine go_toq PM267 (k := 5) (pc' := 208) (L' := [some (.inr (.inr (some 3000))), some (.inr (.inr (some 0))), some (.inr (.inr (some 79))), some (.inl i)]) (st' := [.inl (i + 1), .inr (.inr (some 3000)), .inr (.inr (some 0))]) (w' := (SH, dt)) rfl ?_
  have r1 := i32_R (xs ((i + 1).toNat))
  refine go_smpq PM267 (L' := [some (.inr (.inr (some 3000))), some (.inr (.inr (some 0))), some (.inr (.inr (some 79))), some (.inl i)]) (st' := [.inl ((xs ((i + 1).toNat)).toInt), .inr (.inr (some 0))]) (w' := (SH, dt)) rfl rfl (s_iald (n := L) (f := fun j => (xs j).toInt) (am_scr hLL) ⟨by omega, by omega⟩) ?_
  refine go_toq PM267 (k := 4) (pc' := 213) (L' := [some (.inr (.inr (some 3000))), some (.inr (.inr (some 0))), some (.inr (.inr (some 79))), some (.inl i)]) (st' := [.inl (i + 2), .inr (.inr (some 3000)), .inl ((xs ((i + 1).toNat)).toInt), .inr (.inr (some 0))]) (w' := (SH, dt)) rfl ?_
  have r2 := i32_R (xs ((i + 2).toNat))
  refine go_smpq PM267 (L' := [some (.inr (.inr (some 3000))), some (.inr (.inr (some 0))), some (.inr (.inr (some 79))), some (.inl i)]) (st' := [.inl ((xs ((i + 2).toNat)).toInt), .inl ((xs ((i + 1).toNat)).toInt), .inr (.inr (some 0))]) (w' := (SH, dt)) rfl rfl (s_iald (n := L) (f := fun j => (xs j).toInt) (am_scr hLL) ⟨by omega, by omega⟩) ?_
  refine go_toq PM267 (k := 4) (pc' := 218) (L' := [some (.inr (.inr (some 3000))), some (.inr (.inr (some 0))), some (.inr (.inr (some 79))), some (.inl i)]) (st' := [.inl (i + 3), .inr (.inr (some 3000)), .inl ((xs ((i + 2).toNat)).toInt), .inl ((xs ((i + 1).toNat)).toInt), .inr (.inr (some 0))]) (w' := (SH, dt)) rfl ?_
  have r3 := i32_R (xs ((i + 3).toNat))
  refine go_smpq PM267 (L' := [some (.inr (.inr (some 3000))), some (.inr (.inr (some 0))), some (.inr (.inr (some 79))), some (.inl i)]) (st' := [.inl ((xs ((i + 3).toNat)).toInt), .inl ((xs ((i + 2).toNat)).toInt), .inl ((xs ((i + 1).toNat)).toInt), .inr (.inr (some 0))]) (w' := (SH, dt)) rfl rfl (s_iald (n := L) (f := fun j => (xs j).toInt) (am_scr hLL) ⟨by omega, by omega⟩) ?_
  refine go_toq PM267 (k := 4) (pc' := 223) (L' := [some (.inr (.inr (some 3000))), some (.inr (.inr (some 0))), some (.inr (.inr (some 79))), some (.inl i)]) (st' := [.inl (i + 4), .inr (.inr (some 3000)), .inl ((xs ((i + 3).toNat)).toInt), .inl ((xs ((i + 2).toNat)).toInt), .inl ((xs ((i + 1).toNat)).toInt), .inr (.inr (some 0))]) (w' := (SH, dt)) rfl ?_
  have r4 := i32_R (xs ((i + 4).toNat))
  refine go_smpq PM267 (L' := [some (.inr (.inr (some 3000))), some (.inr (.inr (some 0))), some (.inr (.inr (some 79))), some (.inl i)]) (st' := [.inl ((xs ((i + 4).toNat)).toInt), .inl ((xs ((i + 3).toNat)).toInt), .inl ((xs ((i + 2).toNat)).toInt), .inl ((xs ((i + 1).toNat)).toInt), .inr (.inr (some 0))]) (w' := (SH, dt)) rfl rfl (s_iald (n := L) (f := fun j => (xs j).toInt) (am_scr hLL) ⟨by omega, by omega⟩) ?_
  refine go_toq PM267 (k := 4) (pc' := 228) (L' := [some (.inr (.inr (some 3000))), some (.inr (.inr (some 0))), some (.inr (.inr (some 79))), some (.inl i)]) (st' := [.inl (i + 5), .inr (.inr (some 3000)), .inl ((xs ((i + 4).toNat)).toInt), .inl ((xs ((i + 3).toNat)).toInt), .inl ((xs ((i + 2).toNat)).toInt), .inl ((xs ((i + 1).toNat)).toInt), .inr (.inr (some 0))]) (w' := (SH, dt)) rfl ?_
  have r5 := i32_R (xs ((i + 5).toNat))
  refine go_smpq PM267 (L' := [some (.inr (.inr (some 3000))), some (.inr (.inr (some 0))), some (.inr (.inr (some 79))), some (.inl i)]) (st' := [.inl ((xs ((i + 5).toNat)).toInt), .inl ((xs ((i + 4).toNat)).toInt), .inl ((xs ((i + 3).toNat)).toInt), .inl ((xs ((i + 2).toNat)).toInt), .inl ((xs ((i + 1).toNat)).toInt), .inr (.inr (some 0))]) (w' := (SH, dt)) rfl rfl (s_iald (n := L) (f := fun j => (xs j).toInt) (am_scr hLL) ⟨by omega, by omega⟩) ?_
  refine go_callq PM267 PM68 (Q' := _) rfl rfl rfl rfl (sp_X5_feed_f L xs sio (d + 37) dt hI  ((xs ((i + 1).toNat)).toInt) ⟨by omega, by omega⟩ ((xs ((i + 2).toNat)).toInt) ⟨by omega, by omega⟩ ((xs ((i + 3).toNat)).toInt) ⟨by omega, by omega⟩ ((xs ((i + 4).toNat)).toInt) ⟨by omega, by omega⟩ ((xs ((i + 5).toNat)).toInt) ⟨by omega, by omega⟩ ) ?_
  rintro _ _ ⟨dt7, rfl, hI8, hF9, h6⟩
  refine ⟨rfl, ?_⟩
  have hF10 : Fr [0, 1, 2, 3, 4, 5, 6, 7, 8, 9, 10, 11, 12, 13, 14, 15, 16, 17, 18, 19, 20, 21, 22, 23, 24, 25, 26, 27, 28, 29, 30, 31, 32, 33, 34, 35, 36, 37, 38, 39, 40, 41, 42, 43, 44, 45, 46, 47, 48, 49, 50, 51, 52, 53, 54, 55, 56, 57, 58, 59, 60, 61, 62, 63, 64, 65, 66, 67, 68, 69, 70, 71, 72, 73, 74, 75, 76, 77, 78, 79, 80, 81, 82, 83, 84, 85, 86, 87, 88, 89, 90, 91, 92, 93, 94, 95, 96, 97, 98, 99, 100, 101, 102, 103, 104] dt dt7 := Fr_tr hF hF9 (by decide)
  have hM11 : MW (dt7 80) := MW_fr hM hF9 (by decide)
  have w12 : dt7 1 0 = dt 1 0 := hF9 1 (by decide) 0
  have w13 : dt7 7 3 = dt 7 3 := hF9 7 (by decide) 3
  have w14 : dt7 10 3 = dt 10 3 := hF9 10 (by decide) 3
  have w15 : dt7 12 3 = dt 12 3 := hF9 12 (by decide) 3
  have w16 : dt7 14 3 = dt 14 3 := hF9 14 (by decide) 3
  have w17 : dt7 16 3 = dt 16 3 := hF9 16 (by decide) 3
  have w18 : dt7 18 0 = dt 18 0 := hF9 18 (by decide) 0
  have w19 : dt7 24 3 = dt 24 3 := hF9 24 (by decide) 3
  have w20 : dt7 27 3 = dt 27 3 := hF9 27 (by decide) 3
  have w21 : dt7 29 3 = dt 29 3 := hF9 29 (by decide) 3
  have w22 : dt7 31 3 = dt 31 3 := hF9 31 (by decide) 3
  have w23 : dt7 33 3 = dt 33 3 := hF9 33 (by decide) 3
  have w24 : dt7 0 2 = dt 0 2 := hF9 0 (by decide) 2
  have w25 : dt7 80 0 = dt 80 0 := hF9 80 (by decide) 0
  have w26 : dt7 80 1 = dt 80 1 := hF9 80 (by decide) 1
  have w27 : dt7 80 2 = dt 80 2 := hF9 80 (by decide) 2
  have w28 : dt7 80 3 = dt 80 3 := hF9 80 (by decide) 3
  have w29 : dt7 80 4 = dt 80 4 := hF9 80 (by decide) 4
  have w30 : dt7 80 5 = dt 80 5 := hF9 80 (by decide) 5
  have w31 : dt7 81 0 = dt 81 0 := hF9 81 (by decide) 0
  have w32 : dt7 81 1 = dt 81 1 := hF9 81 (by decide) 1
  have w33 : dt7 81 2 = dt 81 2 := hF9 81 (by decide) 2
  have w34 : dt7 81 3 = dt 81 3 := hF9 81 (by decide) 3
  have w35 : dt7 81 4 = dt 81 4 := hF9 81 (by decide) 4
  have w36 : dt7 81 5 = dt 81 5 := hF9 81 (by decide) 5
  have w37 : dt7 79 2 = dt 79 2 := hF9 79 (by decide) 2
  have w38 : dt7 79 12 = dt 79 12 := hF9 79 (by decide) 12
  have w39 : dt7 79 19 = dt 79 19 := hF9 79 (by decide) 19
  have w40 : dt7 79 21 = dt 79 21 := hF9 79 (by decide) 21
  rcases h6 with ⟨rfl, h6⟩ | ⟨v_h6, rfl, h6r, h6⟩
  · skip
    obtain ⟨h6_0, h6_1, h6_2, h6_3, h6_4⟩ := h6
    have M241 : MW (dt7 81) := MW_frk hM2 hF9 (by decide)
    have C42 : ∀ j : Nat, dt7 2 j = dt 2 j := fun j => (hF9 2 (by decide) j).trans ((fun _ => rfl) j)
    have C43 : ∀ j : Nat, dt7 3 j = dt 3 j := fun j => (hF9 3 (by decide) j).trans ((fun _ => rfl) j)
    have C44 : ∀ j : Nat, dt7 19 j = dt 19 j := fun j => (hF9 19 (by decide) j).trans ((fun _ => rfl) j)
    have C45 : ∀ j : Nat, dt7 20 j = dt 20 j := fun j => (hF9 20 (by decide) j).trans ((fun _ => rfl) j)
    have C46 : ∀ j : Nat, dt7 36 j = dt 36 j := fun j => (h6_2 j).trans ((fun _ => rfl) j)
    have C47 : ∀ j : Nat, dt7 80 j = dt 80 j := fun j => (hF9 80 (by decide) j).trans ((fun _ => rfl) j)
    have C48 : ∀ j : Nat, dt7 81 j = dt 81 j := fun j => (hF9 81 (by decide) j).trans ((fun _ => rfl) j)
    have C49 : ∀ j : Nat, dt7 85 j = dt 85 j := fun j => (hF9 85 (by decide) j).trans ((fun _ => rfl) j)
    refine go_toq PM267 (k := 6) (pc' := 238) (L' := [some (.inr (.inr (some 3000))), some (.inr (.inr (some 0))), some (.inr (.inr (some 79))), some (.inl i)]) (st' := [.inl (i + 1), .inr (.inr (some 3000)), .inr (.inr (some 79))]) (w' := (SH, dt7)) rfl ?_
    have r50 := i32_R (xs ((i + 1).toNat))
    refine go_smpq PM267 (L' := [some (.inr (.inr (some 3000))), some (.inr (.inr (some 0))), some (.inr (.inr (some 79))), some (.inl i)]) (st' := [.inl ((xs ((i + 1).toNat)).toInt), .inr (.inr (some 79))]) (w' := (SH, dt7)) rfl rfl (s_iald (n := L) (f := fun j => (xs j).toInt) (am_scr hLL) ⟨by omega, by omega⟩) ?_
    refine go_toq PM267 (k := 4) (pc' := 243) (L' := [some (.inr (.inr (some 3000))), some (.inr (.inr (some 0))), some (.inr (.inr (some 79))), some (.inl i)]) (st' := [.inl (i + 2), .inr (.inr (some 3000)), .inl ((xs ((i + 1).toNat)).toInt), .inr (.inr (some 79))]) (w' := (SH, dt7)) rfl ?_
    have r51 := i32_R (xs ((i + 2).toNat))
    refine go_smpq PM267 (L' := [some (.inr (.inr (some 3000))), some (.inr (.inr (some 0))), some (.inr (.inr (some 79))), some (.inl i)]) (st' := [.inl ((xs ((i + 2).toNat)).toInt), .inl ((xs ((i + 1).toNat)).toInt), .inr (.inr (some 79))]) (w' := (SH, dt7)) rfl rfl (s_iald (n := L) (f := fun j => (xs j).toInt) (am_scr hLL) ⟨by omega, by omega⟩) ?_
    refine go_toq PM267 (k := 4) (pc' := 248) (L' := [some (.inr (.inr (some 3000))), some (.inr (.inr (some 0))), some (.inr (.inr (some 79))), some (.inl i)]) (st' := [.inl (i + 3), .inr (.inr (some 3000)), .inl ((xs ((i + 2).toNat)).toInt), .inl ((xs ((i + 1).toNat)).toInt), .inr (.inr (some 79))]) (w' := (SH, dt7)) rfl ?_
    have r52 := i32_R (xs ((i + 3).toNat))
    refine go_smpq PM267 (L' := [some (.inr (.inr (some 3000))), some (.inr (.inr (some 0))), some (.inr (.inr (some 79))), some (.inl i)]) (st' := [.inl ((xs ((i + 3).toNat)).toInt), .inl ((xs ((i + 2).toNat)).toInt), .inl ((xs ((i + 1).toNat)).toInt), .inr (.inr (some 79))]) (w' := (SH, dt7)) rfl rfl (s_iald (n := L) (f := fun j => (xs j).toInt) (am_scr hLL) ⟨by omega, by omega⟩) ?_
    refine go_toq PM267 (k := 4) (pc' := 253) (L' := [some (.inr (.inr (some 3000))), some (.inr (.inr (some 0))), some (.inr (.inr (some 79))), some (.inl i)]) (st' := [.inl (i + 4), .inr (.inr (some 3000)), .inl ((xs ((i + 3).toNat)).toInt), .inl ((xs ((i + 2).toNat)).toInt), .inl ((xs ((i + 1).toNat)).toInt), .inr (.inr (some 79))]) (w' := (SH, dt7)) rfl ?_
    have r53 := i32_R (xs ((i + 4).toNat))
    refine go_smpq PM267 (L' := [some (.inr (.inr (some 3000))), some (.inr (.inr (some 0))), some (.inr (.inr (some 79))), some (.inl i)]) (st' := [.inl ((xs ((i + 4).toNat)).toInt), .inl ((xs ((i + 3).toNat)).toInt), .inl ((xs ((i + 2).toNat)).toInt), .inl ((xs ((i + 1).toNat)).toInt), .inr (.inr (some 79))]) (w' := (SH, dt7)) rfl rfl (s_iald (n := L) (f := fun j => (xs j).toInt) (am_scr hLL) ⟨by omega, by omega⟩) ?_
    refine go_toq PM267 (k := 4) (pc' := 258) (L' := [some (.inr (.inr (some 3000))), some (.inr (.inr (some 0))), some (.inr (.inr (some 79))), some (.inl i)]) (st' := [.inl (i + 5), .inr (.inr (some 3000)), .inl ((xs ((i + 4).toNat)).toInt), .inl ((xs ((i + 3).toNat)).toInt), .inl ((xs ((i + 2).toNat)).toInt), .inl ((xs ((i + 1).toNat)).toInt), .inr (.inr (some 79))]) (w' := (SH, dt7)) rfl ?_
    have r54 := i32_R (xs ((i + 5).toNat))
    refine go_smpq PM267 (L' := [some (.inr (.inr (some 3000))), some (.inr (.inr (some 0))), some (.inr (.inr (some 79))), some (.inl i)]) (st' := [.inl ((xs ((i + 5).toNat)).toInt), .inl ((xs ((i + 4).toNat)).toInt), .inl ((xs ((i + 3).toNat)).toInt), .inl ((xs ((i + 2).toNat)).toInt), .inl ((xs ((i + 1).toNat)).toInt), .inr (.inr (some 79))]) (w' := (SH, dt7)) rfl rfl (s_iald (n := L) (f := fun j => (xs j).toInt) (am_scr hLL) ⟨by omega, by omega⟩) ?_
    refine go_callq PM267 PM151 (Q' := _) rfl rfl rfl rfl (sp_X6_feed_f L xs sio (d + 38) dt7 hI8  ((xs ((i + 1).toNat)).toInt) ⟨by omega, by omega⟩ ((xs ((i + 2).toNat)).toInt) ⟨by omega, by omega⟩ ((xs ((i + 3).toNat)).toInt) ⟨by omega, by omega⟩ ((xs ((i + 4).toNat)).toInt) ⟨by omega, by omega⟩ ((xs ((i + 5).toNat)).toInt) ⟨by omega, by omega⟩ ) ?_
    rintro _ _ ⟨dt56, rfl, hI57, hF58, h55⟩
    refine ⟨rfl, ?_⟩
    have hF59 : Fr [0, 1, 2, 3, 4, 5, 6, 7, 8, 9, 10, 11, 12, 13, 14, 15, 16, 17, 18, 19, 20, 21, 22, 23, 24, 25, 26, 27, 28, 29, 30, 31, 32, 33, 34, 35, 36, 37, 38, 39, 40, 41, 42, 43, 44, 45, 46, 47, 48, 49, 50, 51, 52, 53, 54, 55, 56, 57, 58, 59, 60, 61, 62, 63, 64, 65, 66, 67, 68, 69, 70, 71, 72, 73, 74, 75, 76, 77, 78, 79, 80, 81, 82, 83, 84, 85, 86, 87, 88, 89, 90, 91, 92, 93, 94, 95, 96, 97, 98, 99, 100, 101, 102, 103, 104] dt dt56 := Fr_tr hF10 hF58 (by decide)
    have hM60 : MW (dt56 80) := MW_fr hM11 hF58 (by decide)
    have w61 : dt56 1 0 = dt7 1 0 := hF58 1 (by decide) 0
    have w62 : dt56 7 3 = dt7 7 3 := hF58 7 (by decide) 3
    have w63 : dt56 10 3 = dt7 10 3 := hF58 10 (by decide) 3
    have w64 : dt56 12 3 = dt7 12 3 := hF58 12 (by decide) 3
    have w65 : dt56 14 3 = dt7 14 3 := hF58 14 (by decide) 3
    have w66 : dt56 16 3 = dt7 16 3 := hF58 16 (by decide) 3
    have w67 : dt56 18 0 = dt7 18 0 := hF58 18 (by decide) 0
    have w68 : dt56 24 3 = dt7 24 3 := hF58 24 (by decide) 3
    have w69 : dt56 27 3 = dt7 27 3 := hF58 27 (by decide) 3
    have w70 : dt56 29 3 = dt7 29 3 := hF58 29 (by decide) 3
    have w71 : dt56 31 3 = dt7 31 3 := hF58 31 (by decide) 3
    have w72 : dt56 33 3 = dt7 33 3 := hF58 33 (by decide) 3
    have w73 : dt56 0 2 = dt7 0 2 := hF58 0 (by decide) 2
    have w74 : dt56 35 1 = dt7 35 1 := hF58 35 (by decide) 1
    have w75 : dt56 35 2 = dt7 35 2 := hF58 35 (by decide) 2
    have w76 : dt56 35 3 = dt7 35 3 := hF58 35 (by decide) 3
    have w77 : dt56 80 0 = dt7 80 0 := hF58 80 (by decide) 0
    have w78 : dt56 80 1 = dt7 80 1 := hF58 80 (by decide) 1
    have w79 : dt56 80 2 = dt7 80 2 := hF58 80 (by decide) 2
    have w80 : dt56 80 3 = dt7 80 3 := hF58 80 (by decide) 3
    have w81 : dt56 80 4 = dt7 80 4 := hF58 80 (by decide) 4
    have w82 : dt56 80 5 = dt7 80 5 := hF58 80 (by decide) 5
    have w83 : dt56 81 0 = dt7 81 0 := hF58 81 (by decide) 0
    have w84 : dt56 81 1 = dt7 81 1 := hF58 81 (by decide) 1
    have w85 : dt56 81 2 = dt7 81 2 := hF58 81 (by decide) 2
    have w86 : dt56 81 3 = dt7 81 3 := hF58 81 (by decide) 3
    have w87 : dt56 81 4 = dt7 81 4 := hF58 81 (by decide) 4
    have w88 : dt56 81 5 = dt7 81 5 := hF58 81 (by decide) 5
    rcases h55 with ⟨rfl, h55⟩ | ⟨v_h55, rfl, h55r, h55⟩
    · skip
      obtain ⟨h55_0, h55_1, h55_2, h55_3, h55_4, h55_5⟩ := h55
      have M289 : MW (dt56 81) := MW_frk M241 hF58 (by decide)
      have C90 : ∀ j : Nat, dt56 2 j = dt 2 j := fun j => (hF58 2 (by decide) j).trans (C42 j)
      have C91 : ∀ j : Nat, dt56 3 j = dt 3 j := fun j => (hF58 3 (by decide) j).trans (C43 j)
      have C92 : ∀ j : Nat, dt56 19 j = dt 19 j := fun j => (hF58 19 (by decide) j).trans (C44 j)
      have C93 : ∀ j : Nat, dt56 20 j = dt 20 j := fun j => (hF58 20 (by decide) j).trans (C45 j)
      have C94 : ∀ j : Nat, dt56 36 j = dt 36 j := fun j => (hF58 36 (by decide) j).trans (C46 j)
      have C95 : ∀ j : Nat, dt56 80 j = dt 80 j := fun j => (hF58 80 (by decide) j).trans (C47 j)
      have C96 : ∀ j : Nat, dt56 81 j = dt 81 j := fun j => (hF58 81 (by decide) j).trans (C48 j)
      have C97 : ∀ j : Nat, dt56 85 j = dt 85 j := fun j => (h55_2 j).trans (C49 j)
      refine go_toq PM267 (k := 2) (pc' := 1435) (L' := [some (.inr (.inr (some 3000))), some (.inr (.inr (some 0))), some (.inr (.inr (some 79))), some (.inl i)]) (st' := []) (w' := (SH, dt56)) rfl ?_
      exact K dt56 hI57 hM60 M289 (by first | omega | (simp only [*]; done) | simp only [*]) (by omega) (by omega) (by omega) (by omega) (by omega) (by omega) (by omega) (by omega) (by omega) (by omega) (by omega) (by omega) (by omega) (by omega) (by omega) (by first | exact hI | exact TPL_k hd0 C94 C97 (by omega) | (exfalso; omega)) (by first | exact hI | exact SCL_k hd1 hM (fun j _ => C90 j) (fun j _ => C91 j) (fun j _ _ => C95 j) | (exfalso; omega)) (by first | exact hI | exact SCL_k hd2 hM2 (fun j _ => C92 j) (fun j _ => C93 j) (fun j _ _ => C96 j) | (exfalso; omega))
    · skip
      obtain ⟨h55_0, h55_1, h55_2, h55_3, h55_4, h55_5, h55_6⟩ := h55
      have M298 : MW (dt56 81) := MW_frk M241 hF58 (by decide)
      have C99 : ∀ j : Nat, dt56 2 j = dt 2 j := fun j => (hF58 2 (by decide) j).trans (C42 j)
      have C100 : ∀ j : Nat, dt56 3 j = dt 3 j := fun j => (hF58 3 (by decide) j).trans (C43 j)
      have C101 : ∀ j : Nat, dt56 19 j = dt 19 j := fun j => (hF58 19 (by decide) j).trans (C44 j)
      have C102 : ∀ j : Nat, dt56 20 j = dt 20 j := fun j => (hF58 20 (by decide) j).trans (C45 j)
      have C103 : ∀ j : Nat, dt56 36 j = dt 36 j := fun j => (hF58 36 (by decide) j).trans (C46 j)
      have C104 : ∀ j : Nat, dt56 80 j = dt 80 j := fun j => (hF58 80 (by decide) j).trans (C47 j)
      have C105 : ∀ j : Nat, dt56 81 j = dt 81 j := fun j => (hF58 81 (by decide) j).trans (C48 j)
      have E106 : TPL (dt7 36) (dt56 85) (dt7 35 1) := by first | exact TPL_f hd0 hI (show FDX (dt 85) (dt56 85) (dt 35 1) (dt7 35 1) _ from by have z_ := h55_3; rw [show dt7 79 12 = dt 35 1 by omega, show dt56 79 12 = dt7 35 1 by omega, show dt7 85 = dt 85 from funext C49] at z_; exact z_) rfl rfl | (exfalso; omega)
      have E107 : TPL (dt56 36) (dt56 85) (dt56 35 1) := by have z_ := E106; rw [show dt56 36 = dt7 36 from (funext (hF58 36 (by decide))), show dt56 35 1 = dt7 35 1 by omega]; exact z_
      refine go_toq PM267 (k := 2) (pc' := 1435) (L' := [some (.inr (.inr (some 3000))), some (.inr (.inr (some 0))), some (.inr (.inr (some 79))), some (.inl i)]) (st' := []) (w' := (SH, dt56)) rfl ?_
      exact K dt56 hI57 hM60 M298 (by first | omega | (simp only [*]; done) | simp only [*]) (by omega) (by omega) (by omega) (by omega) (by omega) (by omega) (by omega) (by omega) (by omega) (by omega) (by omega) (by omega) (by omega) (by omega) (by omega) (by first | exact E107 | exact TPL_k hd0 C103 hI (by omega) | (exfalso; omega)) (by first | exact hI | exact SCL_k hd1 hM (fun j _ => C99 j) (fun j _ => C100 j) (fun j _ _ => C104 j) | (exfalso; omega)) (by first | exact hI | exact SCL_k hd2 hM2 (fun j _ => C101 j) (fun j _ => C102 j) (fun j _ _ => C105 j) | (exfalso; omega))
  · skip
    obtain ⟨h6_0, h6_1, h6_2, h6_3, h6_4, h6_5⟩ := h6
    have M2108 : MW (dt7 81) := MW_frk hM2 hF9 (by decide)
    have C109 : ∀ j : Nat, dt7 2 j = dt 2 j := fun j => (hF9 2 (by decide) j).trans ((fun _ => rfl) j)
    have C110 : ∀ j : Nat, dt7 3 j = dt 3 j := fun j => (hF9 3 (by decide) j).trans ((fun _ => rfl) j)
    have C111 : ∀ j : Nat, dt7 19 j = dt 19 j := fun j => (hF9 19 (by decide) j).trans ((fun _ => rfl) j)
    have C112 : ∀ j : Nat, dt7 20 j = dt 20 j := fun j => (hF9 20 (by decide) j).trans ((fun _ => rfl) j)
    have C113 : ∀ j : Nat, dt7 80 j = dt 80 j := fun j => (hF9 80 (by decide) j).trans ((fun _ => rfl) j)
    have C114 : ∀ j : Nat, dt7 81 j = dt 81 j := fun j => (hF9 81 (by decide) j).trans ((fun _ => rfl) j)
    have C115 : ∀ j : Nat, dt7 85 j = dt 85 j := fun j => (hF9 85 (by decide) j).trans ((fun _ => rfl) j)
    refine go_toq PM267 (k := 6) (pc' := 238) (L' := [some (.inr (.inr (some 3000))), some (.inr (.inr (some 0))), some (.inr (.inr (some 79))), some (.inl i)]) (st' := [.inl (i + 1), .inr (.inr (some 3000)), .inr (.inr (some 79))]) (w' := (SH, dt7)) rfl ?_
    have r116 := i32_R (xs ((i + 1).toNat))
    refine go_smpq PM267 (L' := [some (.inr (.inr (some 3000))), some (.inr (.inr (some 0))), some (.inr (.inr (some 79))), some (.inl i)]) (st' := [.inl ((xs ((i + 1).toNat)).toInt), .inr (.inr (some 79))]) (w' := (SH, dt7)) rfl rfl (s_iald (n := L) (f := fun j => (xs j).toInt) (am_scr hLL) ⟨by omega, by omega⟩) ?_
    refine go_toq PM267 (k := 4) (pc' := 243) (L' := [some (.inr (.inr (some 3000))), some (.inr (.inr (some 0))), some (.inr (.inr (some 79))), some (.inl i)]) (st' := [.inl (i + 2), .inr (.inr (some 3000)), .inl ((xs ((i + 1).toNat)).toInt), .inr (.inr (some 79))]) (w' := (SH, dt7)) rfl ?_
    have r117 := i32_R (xs ((i + 2).toNat))
    refine go_smpq PM267 (L' := [some (.inr (.inr (some 3000))), some (.inr (.inr (some 0))), some (.inr (.inr (some 79))), some (.inl i)]) (st' := [.inl ((xs ((i + 2).toNat)).toInt), .inl ((xs ((i + 1).toNat)).toInt), .inr (.inr (some 79))]) (w' := (SH, dt7)) rfl rfl (s_iald (n := L) (f := fun j => (xs j).toInt) (am_scr hLL) ⟨by omega, by omega⟩) ?_
    refine go_toq PM267 (k := 4) (pc' := 248) (L' := [some (.inr (.inr (some 3000))), some (.inr (.inr (some 0))), some (.inr (.inr (some 79))), some (.inl i)]) (st' := [.inl (i + 3), .inr (.inr (some 3000)), .inl ((xs ((i + 2).toNat)).toInt), .inl ((xs ((i + 1).toNat)).toInt), .inr (.inr (some 79))]) (w' := (SH, dt7)) rfl ?_
    have r118 := i32_R (xs ((i + 3).toNat))
    refine go_smpq PM267 (L' := [some (.inr (.inr (some 3000))), some (.inr (.inr (some 0))), some (.inr (.inr (some 79))), some (.inl i)]) (st' := [.inl ((xs ((i + 3).toNat)).toInt), .inl ((xs ((i + 2).toNat)).toInt), .inl ((xs ((i + 1).toNat)).toInt), .inr (.inr (some 79))]) (w' := (SH, dt7)) rfl rfl (s_iald (n := L) (f := fun j => (xs j).toInt) (am_scr hLL) ⟨by omega, by omega⟩) ?_
    refine go_toq PM267 (k := 4) (pc' := 253) (L' := [some (.inr (.inr (some 3000))), some (.inr (.inr (some 0))), some (.inr (.inr (some 79))), some (.inl i)]) (st' := [.inl (i + 4), .inr (.inr (some 3000)), .inl ((xs ((i + 3).toNat)).toInt), .inl ((xs ((i + 2).toNat)).toInt), .inl ((xs ((i + 1).toNat)).toInt), .inr (.inr (some 79))]) (w' := (SH, dt7)) rfl ?_
    have r119 := i32_R (xs ((i + 4).toNat))
    refine go_smpq PM267 (L' := [some (.inr (.inr (some 3000))), some (.inr (.inr (some 0))), some (.inr (.inr (some 79))), some (.inl i)]) (st' := [.inl ((xs ((i + 4).toNat)).toInt), .inl ((xs ((i + 3).toNat)).toInt), .inl ((xs ((i + 2).toNat)).toInt), .inl ((xs ((i + 1).toNat)).toInt), .inr (.inr (some 79))]) (w' := (SH, dt7)) rfl rfl (s_iald (n := L) (f := fun j => (xs j).toInt) (am_scr hLL) ⟨by omega, by omega⟩) ?_
    refine go_toq PM267 (k := 4) (pc' := 258) (L' := [some (.inr (.inr (some 3000))), some (.inr (.inr (some 0))), some (.inr (.inr (some 79))), some (.inl i)]) (st' := [.inl (i + 5), .inr (.inr (some 3000)), .inl ((xs ((i + 4).toNat)).toInt), .inl ((xs ((i + 3).toNat)).toInt), .inl ((xs ((i + 2).toNat)).toInt), .inl ((xs ((i + 1).toNat)).toInt), .inr (.inr (some 79))]) (w' := (SH, dt7)) rfl ?_
    have r120 := i32_R (xs ((i + 5).toNat))
    refine go_smpq PM267 (L' := [some (.inr (.inr (some 3000))), some (.inr (.inr (some 0))), some (.inr (.inr (some 79))), some (.inl i)]) (st' := [.inl ((xs ((i + 5).toNat)).toInt), .inl ((xs ((i + 4).toNat)).toInt), .inl ((xs ((i + 3).toNat)).toInt), .inl ((xs ((i + 2).toNat)).toInt), .inl ((xs ((i + 1).toNat)).toInt), .inr (.inr (some 79))]) (w' := (SH, dt7)) rfl rfl (s_iald (n := L) (f := fun j => (xs j).toInt) (am_scr hLL) ⟨by omega, by omega⟩) ?_
    refine go_callq PM267 PM151 (Q' := _) rfl rfl rfl rfl (sp_X6_feed_f L xs sio (d + 38) dt7 hI8  ((xs ((i + 1).toNat)).toInt) ⟨by omega, by omega⟩ ((xs ((i + 2).toNat)).toInt) ⟨by omega, by omega⟩ ((xs ((i + 3).toNat)).toInt) ⟨by omega, by omega⟩ ((xs ((i + 4).toNat)).toInt) ⟨by omega, by omega⟩ ((xs ((i + 5).toNat)).toInt) ⟨by omega, by omega⟩ ) ?_
    rintro _ _ ⟨dt122, rfl, hI123, hF124, h121⟩
    refine ⟨rfl, ?_⟩
    have hF125 : Fr [0, 1, 2, 3, 4, 5, 6, 7, 8, 9, 10, 11, 12, 13, 14, 15, 16, 17, 18, 19, 20, 21, 22, 23, 24, 25, 26, 27, 28, 29, 30, 31, 32, 33, 34, 35, 36, 37, 38, 39, 40, 41, 42, 43, 44, 45, 46, 47, 48, 49, 50, 51, 52, 53, 54, 55, 56, 57, 58, 59, 60, 61, 62, 63, 64, 65, 66, 67, 68, 69, 70, 71, 72, 73, 74, 75, 76, 77, 78, 79, 80, 81, 82, 83, 84, 85, 86, 87, 88, 89, 90, 91, 92, 93, 94, 95, 96, 97, 98, 99, 100, 101, 102, 103, 104] dt dt122 := Fr_tr hF10 hF124 (by decide)
    have hM126 : MW (dt122 80) := MW_fr hM11 hF124 (by decide)
    have w127 : dt122 1 0 = dt7 1 0 := hF124 1 (by decide) 0
    have w128 : dt122 7 3 = dt7 7 3 := hF124 7 (by decide) 3
    have w129 : dt122 10 3 = dt7 10 3 := hF124 10 (by decide) 3
    have w130 : dt122 12 3 = dt7 12 3 := hF124 12 (by decide) 3
    have w131 : dt122 14 3 = dt7 14 3 := hF124 14 (by decide) 3
    have w132 : dt122 16 3 = dt7 16 3 := hF124 16 (by decide) 3
    have w133 : dt122 18 0 = dt7 18 0 := hF124 18 (by decide) 0
    have w134 : dt122 24 3 = dt7 24 3 := hF124 24 (by decide) 3
    have w135 : dt122 27 3 = dt7 27 3 := hF124 27 (by decide) 3
    have w136 : dt122 29 3 = dt7 29 3 := hF124 29 (by decide) 3
    have w137 : dt122 31 3 = dt7 31 3 := hF124 31 (by decide) 3
    have w138 : dt122 33 3 = dt7 33 3 := hF124 33 (by decide) 3
    have w139 : dt122 0 2 = dt7 0 2 := hF124 0 (by decide) 2
    have w140 : dt122 35 1 = dt7 35 1 := hF124 35 (by decide) 1
    have w141 : dt122 35 2 = dt7 35 2 := hF124 35 (by decide) 2
    have w142 : dt122 35 3 = dt7 35 3 := hF124 35 (by decide) 3
    have w143 : dt122 80 0 = dt7 80 0 := hF124 80 (by decide) 0
    have w144 : dt122 80 1 = dt7 80 1 := hF124 80 (by decide) 1
    have w145 : dt122 80 2 = dt7 80 2 := hF124 80 (by decide) 2
    have w146 : dt122 80 3 = dt7 80 3 := hF124 80 (by decide) 3
    have w147 : dt122 80 4 = dt7 80 4 := hF124 80 (by decide) 4
    have w148 : dt122 80 5 = dt7 80 5 := hF124 80 (by decide) 5
    have w149 : dt122 81 0 = dt7 81 0 := hF124 81 (by decide) 0
    have w150 : dt122 81 1 = dt7 81 1 := hF124 81 (by decide) 1
    have w151 : dt122 81 2 = dt7 81 2 := hF124 81 (by decide) 2
    have w152 : dt122 81 3 = dt7 81 3 := hF124 81 (by decide) 3
    have w153 : dt122 81 4 = dt7 81 4 := hF124 81 (by decide) 4
    have w154 : dt122 81 5 = dt7 81 5 := hF124 81 (by decide) 5
    rcases h121 with ⟨rfl, h121⟩ | ⟨v_h121, rfl, h121r, h121⟩
    · skip
      obtain ⟨h121_0, h121_1, h121_2, h121_3, h121_4, h121_5⟩ := h121
      have M2155 : MW (dt122 81) := MW_frk M2108 hF124 (by decide)
      have C156 : ∀ j : Nat, dt122 2 j = dt 2 j := fun j => (hF124 2 (by decide) j).trans (C109 j)
      have C157 : ∀ j : Nat, dt122 3 j = dt 3 j := fun j => (hF124 3 (by decide) j).trans (C110 j)
      have C158 : ∀ j : Nat, dt122 19 j = dt 19 j := fun j => (hF124 19 (by decide) j).trans (C111 j)
      have C159 : ∀ j : Nat, dt122 20 j = dt 20 j := fun j => (hF124 20 (by decide) j).trans (C112 j)
      have C160 : ∀ j : Nat, dt122 80 j = dt 80 j := fun j => (hF124 80 (by decide) j).trans (C113 j)
      have C161 : ∀ j : Nat, dt122 81 j = dt 81 j := fun j => (hF124 81 (by decide) j).trans (C114 j)
      have C162 : ∀ j : Nat, dt122 85 j = dt 85 j := fun j => (h121_2 j).trans (C115 j)
      refine go_toq PM267 (k := 2) (pc' := 1435) (L' := [some (.inr (.inr (some 3000))), some (.inr (.inr (some 0))), some (.inr (.inr (some 79))), some (.inl i)]) (st' := []) (w' := (SH, dt122)) rfl ?_
      exact K dt122 hI123 hM126 M2155 (by first | omega | (simp only [*]; done) | simp only [*]) (by omega) (by omega) (by omega) (by omega) (by omega) (by omega) (by omega) (by omega) (by omega) (by omega) (by omega) (by omega) (by omega) (by omega) (by omega) (by first | exact hI | exact TPL_k hd0 hI C162 (by omega) | (exfalso; omega)) (by first | exact hI | exact SCL_k hd1 hM (fun j _ => C156 j) (fun j _ => C157 j) (fun j _ _ => C160 j) | (exfalso; omega)) (by first | exact hI | exact SCL_k hd2 hM2 (fun j _ => C158 j) (fun j _ => C159 j) (fun j _ _ => C161 j) | (exfalso; omega))
    · skip
      obtain ⟨h121_0, h121_1, h121_2, h121_3, h121_4, h121_5, h121_6⟩ := h121
      have M2163 : MW (dt122 81) := MW_frk M2108 hF124 (by decide)
      have C164 : ∀ j : Nat, dt122 2 j = dt 2 j := fun j => (hF124 2 (by decide) j).trans (C109 j)
      have C165 : ∀ j : Nat, dt122 3 j = dt 3 j := fun j => (hF124 3 (by decide) j).trans (C110 j)
      have C166 : ∀ j : Nat, dt122 19 j = dt 19 j := fun j => (hF124 19 (by decide) j).trans (C111 j)
      have C167 : ∀ j : Nat, dt122 20 j = dt 20 j := fun j => (hF124 20 (by decide) j).trans (C112 j)
      have C168 : ∀ j : Nat, dt122 80 j = dt 80 j := fun j => (hF124 80 (by decide) j).trans (C113 j)
      have C169 : ∀ j : Nat, dt122 81 j = dt 81 j := fun j => (hF124 81 (by decide) j).trans (C114 j)
      have E170 : TPL (dt7 36) (dt122 85) (dt7 35 1) := by first | exact TPL_f hd0 h6_3 (show FDX (dt 85) (dt122 85) (dt 35 1) (dt7 35 1) _ from by have z_ := h121_3; rw [show dt7 79 12 = dt 35 1 by omega, show dt122 79 12 = dt7 35 1 by omega, show dt7 85 = dt 85 from funext C115] at z_; exact z_) rfl rfl | (exfalso; omega)
      have E171 : TPL (dt122 36) (dt122 85) (dt122 35 1) := by have z_ := E170; rw [show dt122 36 = dt7 36 from (funext (hF124 36 (by decide))), show dt122 35 1 = dt7 35 1 by omega]; exact z_
      refine go_toq PM267 (k := 2) (pc' := 1435) (L' := [some (.inr (.inr (some 3000))), some (.inr (.inr (some 0))), some (.inr (.inr (some 79))), some (.inl i)]) (st' := []) (w' := (SH, dt122)) rfl ?_
      exact K dt122 hI123 hM126 M2163 (by first | omega | (simp only [*]; done) | simp only [*]) (by omega) (by omega) (by omega) (by omega) (by omega) (by omega) (by omega) (by omega) (by omega) (by omega) (by omega) (by omega) (by omega) (by omega) (by omega) (by first | exact E171 | exact TPL_k hd0 hI hI (by omega) | (exfalso; omega)) (by first | exact hI | exact SCL_k hd1 hM (fun j _ => C164 j) (fun j _ => C165 j) (fun j _ _ => C168 j) | (exfalso; omega)) (by first | exact hI | exact SCL_k hd2 hM2 (fun j _ => C166 j) (fun j _ => C167 j) (fun j _ _ => C169 j) | (exfalso; omega))
set_option maxRecDepth 20000 in
set_option maxHeartbeats 8000000 in
theorem sp_case2 (L : Nat) (xs : Nat → Int32) (sio : Option Nat) (d : Nat) (Q : Option AV → am_W → Prop) (hLL : L ≤ 3072) (i : Int) (hi : 0 ≤ i ∧ i ≤ 3066) (hil : i ≤ (L : Int) - 6) (dt : Nat → Nat → Int) (hI : InvC dt) (hM : MW (dt 80)) (hM2 : MW (dt 81)) (hk0 : dt 1 0 = dt 80 0) (hk1 : dt 7 3 = dt 80 1) (hk2 : dt 10 3 = dt 80 2) (hk3 : dt 12 3 = dt 80 3) (hk4 : dt 14 3 = dt 80 4) (hk5 : dt 16 3 = dt 80 5) (hk6 : dt 18 0 = dt 81 0) (hk7 : dt 24 3 = dt 81 1) (hk8 : dt 27 3 = dt 81 2) (hk9 : dt 29 3 = dt 81 3) (hk10 : dt 31 3 = dt 81 4) (hk11 : dt 33 3 = dt 81 5) (hk12 : dt 0 2 = dt 79 2) (hk13 : dt 35 1 = dt 79 12) (hk14 : dt 35 2 = dt 79 19) (hk15 : dt 35 3 = dt 79 21) (hd0 : TPL (dt 36) (dt 85) (dt 35 1)) (hd1 : SCL (dt 2) (dt 3) (dt 80)) (hd2 : SCL (dt 19) (dt 20) (dt 81)) (K : ∀ (dt : Nat → Nat → Int) (hI : InvC dt) (hM : MW (dt 80)) (hM2 : MW (dt 81)) (hk0 : dt 1 0 = dt 80 0) (hk1 : dt 7 3 = dt 80 1) (hk2 : dt 10 3 = dt 80 2) (hk3 : dt 12 3 = dt 80 3) (hk4 : dt 14 3 = dt 80 4) (hk5 : dt 16 3 = dt 80 5) (hk6 : dt 18 0 = dt 81 0) (hk7 : dt 24 3 = dt 81 1) (hk8 : dt 27 3 = dt 81 2) (hk9 : dt 29 3 = dt 81 3) (hk10 : dt 31 3 = dt 81 4) (hk11 : dt 33 3 = dt 81 5) (hk12 : dt 0 2 = dt 79 2) (hk13 : dt 35 1 = dt 79 12) (hk14 : dt 35 2 = dt 79 19) (hk15 : dt 35 3 = dt 79 21) (hd0 : TPL (dt 36) (dt 85) (dt 35 1)) (hd1 : SCL (dt 2) (dt 3) (dt 80)) (hd2 : SCL (dt 19) (dt 20) (dt 81)), GO (am_XX L xs sio) (d + 39) 267 1435 [some (.inr (.inr (some 3000))), some (.inr (.inr (some 0))), some (.inr (.inr (some 79))), some (.inl i)] [] (SH, dt) Q) : GO (am_XX L xs sio) (d + 39) 267 266 [some (.inr (.inr (some 3000))), some (.inr (.inr (some 0))), some (.inr (.inr (some 79))), some (.inl i)] [] (SH, dt) Q := by
  have hF : Fr [0, 1, 2, 3, 4, 5, 6, 7, 8, 9, 10, 11, 12, 13, 14, 15, 16, 17, 18, 19, 20, 21, 22, 23, 24, 25, 26, 27, 28, 29, 30, 31, 32, 33, 34, 35, 36, 37, 38, 39, 40, 41, 42, 43, 44, 45, 46, 47, 48, 49, 50, 51, 52, 53, 54, 55, 56, 57, 58, 59, 60, 61, 62, 63, 64, 65, 66, 67, 68, 69, 70, 71, 72, 73, 74, 75, 76, 77, 78, 79, 80, 81, 82, 83, 84, 85, 86, 87, 88, 89, 90, 91, 92, 93, 94, 95, 96, 97, 98, 99, 100, 101, 102, 103, 104] dt dt := Fr_refl
  refine go_toq PM267 (k := 5) (pc' := 271) (L' := [some (.inr (.inr (some 3000))), some (.inr (.inr (some 0))), some (.inr (.inr (some 79))), some (.inl i)]) (st' := [.inl (i + 1), .inr (.inr (some 3000)), .inr (.inr (some 0))]) (w' := (SH, dt)) rfl ?_
  have r1 := i32_R (xs ((i + 1).toNat))
  refine go_smpq PM267 (L' := [some (.inr (.inr (some 3000))), some (.inr (.inr (some 0))), some (.inr (.inr (some 79))), some (.inl i)]) (st' := [.inl ((xs ((i + 1).toNat)).toInt), .inr (.inr (some 0))]) (w' := (SH, dt)) rfl rfl (s_iald (n := L) (f := fun j => (xs j).toInt) (am_scr hLL) ⟨by omega, by omega⟩) ?_
  refine go_callq PM267 PM69 (Q' := _) rfl rfl rfl rfl (sp_X5_end_f L xs sio (d + 37) dt hI  ((xs ((i + 1).toNat)).toInt) ⟨by omega, by omega⟩ ) ?_
  rintro _ _ ⟨dt3, rfl, hI4, hF5, h2⟩
  refine ⟨rfl, ?_⟩
  have hF6 : Fr [0, 1, 2, 3, 4, 5, 6, 7, 8, 9, 10, 11, 12, 13, 14, 15, 16, 17, 18, 19, 20, 21, 22, 23, 24, 25, 26, 27, 28, 29, 30, 31, 32, 33, 34, 35, 36, 37, 38, 39, 40, 41, 42, 43, 44, 45, 46, 47, 48, 49, 50, 51, 52, 53, 54, 55, 56, 57, 58, 59, 60, 61, 62, 63, 64, 65, 66, 67, 68, 69, 70, 71, 72, 73, 74, 75, 76, 77, 78, 79, 80, 81, 82, 83, 84, 85, 86, 87, 88, 89, 90, 91, 92, 93, 94, 95, 96, 97, 98, 99, 100, 101, 102, 103, 104] dt dt3 := Fr_tr hF hF5 (by decide)
  have hM7 : MW (dt3 80) := MW_fr hM hF5 (by decide)
  have w8 : dt3 1 0 = dt 1 0 := hF5 1 (by decide) 0
  have w9 : dt3 7 3 = dt 7 3 := hF5 7 (by decide) 3
  have w10 : dt3 10 3 = dt 10 3 := hF5 10 (by decide) 3
  have w11 : dt3 12 3 = dt 12 3 := hF5 12 (by decide) 3
  have w12 : dt3 14 3 = dt 14 3 := hF5 14 (by decide) 3
  have w13 : dt3 16 3 = dt 16 3 := hF5 16 (by decide) 3
  have w14 : dt3 18 0 = dt 18 0 := hF5 18 (by decide) 0
  have w15 : dt3 24 3 = dt 24 3 := hF5 24 (by decide) 3
  have w16 : dt3 27 3 = dt 27 3 := hF5 27 (by decide) 3
  have w17 : dt3 29 3 = dt 29 3 := hF5 29 (by decide) 3
  have w18 : dt3 31 3 = dt 31 3 := hF5 31 (by decide) 3
  have w19 : dt3 33 3 = dt 33 3 := hF5 33 (by decide) 3
  have w20 : dt3 0 2 = dt 0 2 := hF5 0 (by decide) 2
  have w21 : dt3 80 0 = dt 80 0 := hF5 80 (by decide) 0
  have w22 : dt3 80 1 = dt 80 1 := hF5 80 (by decide) 1
  have w23 : dt3 80 2 = dt 80 2 := hF5 80 (by decide) 2
  have w24 : dt3 80 3 = dt 80 3 := hF5 80 (by decide) 3
  have w25 : dt3 80 4 = dt 80 4 := hF5 80 (by decide) 4
  have w26 : dt3 80 5 = dt 80 5 := hF5 80 (by decide) 5
  have w27 : dt3 81 0 = dt 81 0 := hF5 81 (by decide) 0
  have w28 : dt3 81 1 = dt 81 1 := hF5 81 (by decide) 1
  have w29 : dt3 81 2 = dt 81 2 := hF5 81 (by decide) 2
  have w30 : dt3 81 3 = dt 81 3 := hF5 81 (by decide) 3
  have w31 : dt3 81 4 = dt 81 4 := hF5 81 (by decide) 4
  have w32 : dt3 81 5 = dt 81 5 := hF5 81 (by decide) 5
  have w33 : dt3 79 2 = dt 79 2 := hF5 79 (by decide) 2
  have w34 : dt3 79 12 = dt 79 12 := hF5 79 (by decide) 12
  have w35 : dt3 79 19 = dt 79 19 := hF5 79 (by decide) 19
  have w36 : dt3 79 21 = dt 79 21 := hF5 79 (by decide) 21
  rcases h2 with ⟨rfl, h2⟩ | ⟨rfl, h2⟩
  · skip
    obtain ⟨h2_0, h2_1, h2_2, h2_3⟩ := h2
    have M237 : MW (dt3 81) := MW_frk hM2 hF5 (by decide)
    have C38 : ∀ j : Nat, dt3 2 j = dt 2 j := fun j => (hF5 2 (by decide) j).trans ((fun _ => rfl) j)
    have C39 : ∀ j : Nat, dt3 3 j = dt 3 j := fun j => (hF5 3 (by decide) j).trans ((fun _ => rfl) j)
    have C40 : ∀ j : Nat, dt3 19 j = dt 19 j := fun j => (hF5 19 (by decide) j).trans ((fun _ => rfl) j)
    have C41 : ∀ j : Nat, dt3 20 j = dt 20 j := fun j => (hF5 20 (by decide) j).trans ((fun _ => rfl) j)
    have C42 : ∀ j : Nat, dt3 36 j = dt 36 j := fun j => (hF5 36 (by decide) j).trans ((fun _ => rfl) j)
    have C43 : ∀ j : Nat, dt3 80 j = dt 80 j := fun j => (hF5 80 (by decide) j).trans ((fun _ => rfl) j)
    have C44 : ∀ j : Nat, dt3 81 j = dt 81 j := fun j => (hF5 81 (by decide) j).trans ((fun _ => rfl) j)
    have C45 : ∀ j : Nat, dt3 85 j = dt 85 j := fun j => (hF5 85 (by decide) j).trans ((fun _ => rfl) j)
    refine go_toq PM267 (k := 6) (pc' := 281) (L' := [some (.inr (.inr (some 3000))), some (.inr (.inr (some 0))), some (.inr (.inr (some 79))), some (.inl i)]) (st' := [.inl (i + 1), .inr (.inr (some 3000)), .inr (.inr (some 79))]) (w' := (SH, dt3)) rfl ?_
    have r46 := i32_R (xs ((i + 1).toNat))
    refine go_smpq PM267 (L' := [some (.inr (.inr (some 3000))), some (.inr (.inr (some 0))), some (.inr (.inr (some 79))), some (.inl i)]) (st' := [.inl ((xs ((i + 1).toNat)).toInt), .inr (.inr (some 79))]) (w' := (SH, dt3)) rfl rfl (s_iald (n := L) (f := fun j => (xs j).toInt) (am_scr hLL) ⟨by omega, by omega⟩) ?_
    refine go_callq PM267 PM152 (Q' := _) rfl rfl rfl rfl (sp_X6_end_f L xs sio (d + 37) dt3 hI4  ((xs ((i + 1).toNat)).toInt) ⟨by omega, by omega⟩ ) ?_
    rintro _ _ ⟨dt48, rfl, hI49, hF50, h47⟩
    refine ⟨rfl, ?_⟩
    have hF51 : Fr [0, 1, 2, 3, 4, 5, 6, 7, 8, 9, 10, 11, 12, 13, 14, 15, 16, 17, 18, 19, 20, 21, 22, 23, 24, 25, 26, 27, 28, 29, 30, 31, 32, 33, 34, 35, 36, 37, 38, 39, 40, 41, 42, 43, 44, 45, 46, 47, 48, 49, 50, 51, 52, 53, 54, 55, 56, 57, 58, 59, 60, 61, 62, 63, 64, 65, 66, 67, 68, 69, 70, 71, 72, 73, 74, 75, 76, 77, 78, 79, 80, 81, 82, 83, 84, 85, 86, 87, 88, 89, 90, 91, 92, 93, 94, 95, 96, 97, 98, 99, 100, 101, 102, 103, 104] dt dt48 := Fr_tr hF6 hF50 (by decide)
    have hM52 : MW (dt48 80) := MW_fr hM7 hF50 (by decide)
    have w53 : dt48 1 0 = dt3 1 0 := hF50 1 (by decide) 0
    have w54 : dt48 7 3 = dt3 7 3 := hF50 7 (by decide) 3
    have w55 : dt48 10 3 = dt3 10 3 := hF50 10 (by decide) 3
    have w56 : dt48 12 3 = dt3 12 3 := hF50 12 (by decide) 3
    have w57 : dt48 14 3 = dt3 14 3 := hF50 14 (by decide) 3
    have w58 : dt48 16 3 = dt3 16 3 := hF50 16 (by decide) 3
    have w59 : dt48 18 0 = dt3 18 0 := hF50 18 (by decide) 0
    have w60 : dt48 24 3 = dt3 24 3 := hF50 24 (by decide) 3
    have w61 : dt48 27 3 = dt3 27 3 := hF50 27 (by decide) 3
    have w62 : dt48 29 3 = dt3 29 3 := hF50 29 (by decide) 3
    have w63 : dt48 31 3 = dt3 31 3 := hF50 31 (by decide) 3
    have w64 : dt48 33 3 = dt3 33 3 := hF50 33 (by decide) 3
    have w65 : dt48 0 2 = dt3 0 2 := hF50 0 (by decide) 2
    have w66 : dt48 35 1 = dt3 35 1 := hF50 35 (by decide) 1
    have w67 : dt48 35 2 = dt3 35 2 := hF50 35 (by decide) 2
    have w68 : dt48 35 3 = dt3 35 3 := hF50 35 (by decide) 3
    have w69 : dt48 80 0 = dt3 80 0 := hF50 80 (by decide) 0
    have w70 : dt48 80 1 = dt3 80 1 := hF50 80 (by decide) 1
    have w71 : dt48 80 2 = dt3 80 2 := hF50 80 (by decide) 2
    have w72 : dt48 80 3 = dt3 80 3 := hF50 80 (by decide) 3
    have w73 : dt48 80 4 = dt3 80 4 := hF50 80 (by decide) 4
    have w74 : dt48 80 5 = dt3 80 5 := hF50 80 (by decide) 5
    have w75 : dt48 81 0 = dt3 81 0 := hF50 81 (by decide) 0
    have w76 : dt48 81 1 = dt3 81 1 := hF50 81 (by decide) 1
    have w77 : dt48 81 2 = dt3 81 2 := hF50 81 (by decide) 2
    have w78 : dt48 81 3 = dt3 81 3 := hF50 81 (by decide) 3
    have w79 : dt48 81 4 = dt3 81 4 := hF50 81 (by decide) 4
    have w80 : dt48 81 5 = dt3 81 5 := hF50 81 (by decide) 5
    rcases h47 with ⟨rfl, h47⟩ | ⟨rfl, h47⟩
    · skip
      obtain ⟨h47_0, h47_1, h47_2, h47_3, h47_4⟩ := h47
      have M281 : MW (dt48 81) := MW_frk M237 hF50 (by decide)
      have C82 : ∀ j : Nat, dt48 2 j = dt 2 j := fun j => (hF50 2 (by decide) j).trans (C38 j)
      have C83 : ∀ j : Nat, dt48 3 j = dt 3 j := fun j => (hF50 3 (by decide) j).trans (C39 j)
      have C84 : ∀ j : Nat, dt48 19 j = dt 19 j := fun j => (hF50 19 (by decide) j).trans (C40 j)
      have C85 : ∀ j : Nat, dt48 20 j = dt 20 j := fun j => (hF50 20 (by decide) j).trans (C41 j)
      have C86 : ∀ j : Nat, dt48 36 j = dt 36 j := fun j => (hF50 36 (by decide) j).trans (C42 j)
      have C87 : ∀ j : Nat, dt48 80 j = dt 80 j := fun j => (hF50 80 (by decide) j).trans (C43 j)
      have C88 : ∀ j : Nat, dt48 81 j = dt 81 j := fun j => (hF50 81 (by decide) j).trans (C44 j)
      have C89 : ∀ j : Nat, dt48 85 j = dt 85 j := fun j => (hF50 85 (by decide) j).trans (C45 j)
      refine go_toq PM267 (k := 2) (pc' := 1435) (L' := [some (.inr (.inr (some 3000))), some (.inr (.inr (some 0))), some (.inr (.inr (some 79))), some (.inl i)]) (st' := []) (w' := (SH, dt48)) rfl ?_
      exact K dt48 hI49 hM52 M281 (by first | omega | (simp only [*]; done) | simp only [*]) (by omega) (by omega) (by omega) (by omega) (by omega) (by omega) (by omega) (by omega) (by omega) (by omega) (by omega) (by omega) (by omega) (by omega) (by omega) (by first | exact hI | exact TPL_k hd0 C86 C89 (by omega) | (exfalso; omega)) (by first | exact hI | exact SCL_k hd1 hM (fun j _ => C82 j) (fun j _ => C83 j) (fun j _ _ => C87 j) | (exfalso; omega)) (by first | exact hI | exact SCL_k hd2 hM2 (fun j _ => C84 j) (fun j _ => C85 j) (fun j _ _ => C88 j) | (exfalso; omega))
    · skip
      obtain ⟨h47_0, h47_1, h47_2, h47_3, h47_4⟩ := h47
      have M290 : MW (dt48 81) := MW_frk M237 hF50 (by decide)
      have C91 : ∀ j : Nat, dt48 2 j = dt 2 j := fun j => (hF50 2 (by decide) j).trans (C38 j)
      have C92 : ∀ j : Nat, dt48 3 j = dt 3 j := fun j => (hF50 3 (by decide) j).trans (C39 j)
      have C93 : ∀ j : Nat, dt48 19 j = dt 19 j := fun j => (hF50 19 (by decide) j).trans (C40 j)
      have C94 : ∀ j : Nat, dt48 20 j = dt 20 j := fun j => (hF50 20 (by decide) j).trans (C41 j)
      have C95 : ∀ j : Nat, dt48 36 j = dt 36 j := fun j => (hF50 36 (by decide) j).trans (C42 j)
      have C96 : ∀ j : Nat, dt48 80 j = dt 80 j := fun j => (hF50 80 (by decide) j).trans (C43 j)
      have C97 : ∀ j : Nat, dt48 81 j = dt 81 j := fun j => (hF50 81 (by decide) j).trans (C44 j)
      have C98 : ∀ j : Nat, dt48 85 j = dt 85 j := fun j => (hF50 85 (by decide) j).trans (C45 j)
      refine go_toq PM267 (k := 2) (pc' := 1435) (L' := [some (.inr (.inr (some 3000))), some (.inr (.inr (some 0))), some (.inr (.inr (some 79))), some (.inl i)]) (st' := []) (w' := (SH, dt48)) rfl ?_
      exact K dt48 hI49 hM52 M290 (by first | omega | (simp only [*]; done) | simp only [*]) (by omega) (by omega) (by omega) (by omega) (by omega) (by omega) (by omega) (by omega) (by omega) (by omega) (by omega) (by omega) (by omega) (by omega) (by omega) (by first | exact hI | exact TPL_k hd0 C95 C98 (by omega) | (exfalso; omega)) (by first | exact hI | exact SCL_k hd1 hM (fun j _ => C91 j) (fun j _ => C92 j) (fun j _ _ => C96 j) | (exfalso; omega)) (by first | exact hI | exact SCL_k hd2 hM2 (fun j _ => C93 j) (fun j _ => C94 j) (fun j _ _ => C97 j) | (exfalso; omega))
  · skip
    obtain ⟨h2_0, h2_1, h2_2, h2_3⟩ := h2
    have M299 : MW (dt3 81) := MW_frk hM2 hF5 (by decide)
    have C100 : ∀ j : Nat, dt3 2 j = dt 2 j := fun j => (hF5 2 (by decide) j).trans ((fun _ => rfl) j)
    have C101 : ∀ j : Nat, dt3 3 j = dt 3 j := fun j => (hF5 3 (by decide) j).trans ((fun _ => rfl) j)
    have C102 : ∀ j : Nat, dt3 19 j = dt 19 j := fun j => (hF5 19 (by decide) j).trans ((fun _ => rfl) j)
    have C103 : ∀ j : Nat, dt3 20 j = dt 20 j := fun j => (hF5 20 (by decide) j).trans ((fun _ => rfl) j)
    have C104 : ∀ j : Nat, dt3 36 j = dt 36 j := fun j => (hF5 36 (by decide) j).trans ((fun _ => rfl) j)
    have C105 : ∀ j : Nat, dt3 80 j = dt 80 j := fun j => (hF5 80 (by decide) j).trans ((fun _ => rfl) j)
    have C106 : ∀ j : Nat, dt3 81 j = dt 81 j := fun j => (hF5 81 (by decide) j).trans ((fun _ => rfl) j)
    have C107 : ∀ j : Nat, dt3 85 j = dt 85 j := fun j => (hF5 85 (by decide) j).trans ((fun _ => rfl) j)
    refine go_toq PM267 (k := 6) (pc' := 281) (L' := [some (.inr (.inr (some 3000))), some (.inr (.inr (some 0))), some (.inr (.inr (some 79))), some (.inl i)]) (st' := [.inl (i + 1), .inr (.inr (some 3000)), .inr (.inr (some 79))]) (w' := (SH, dt3)) rfl ?_
    have r108 := i32_R (xs ((i + 1).toNat))
    refine go_smpq PM267 (L' := [some (.inr (.inr (some 3000))), some (.inr (.inr (some 0))), some (.inr (.inr (some 79))), some (.inl i)]) (st' := [.inl ((xs ((i + 1).toNat)).toInt), .inr (.inr (some 79))]) (w' := (SH, dt3)) rfl rfl (s_iald (n := L) (f := fun j => (xs j).toInt) (am_scr hLL) ⟨by omega, by omega⟩) ?_
    refine go_callq PM267 PM152 (Q' := _) rfl rfl rfl rfl (sp_X6_end_f L xs sio (d + 37) dt3 hI4  ((xs ((i + 1).toNat)).toInt) ⟨by omega, by omega⟩ ) ?_
    rintro _ _ ⟨dt110, rfl, hI111, hF112, h109⟩
    refine ⟨rfl, ?_⟩
    have hF113 : Fr [0, 1, 2, 3, 4, 5, 6, 7, 8, 9, 10, 11, 12, 13, 14, 15, 16, 17, 18, 19, 20, 21, 22, 23, 24, 25, 26, 27, 28, 29, 30, 31, 32, 33, 34, 35, 36, 37, 38, 39, 40, 41, 42, 43, 44, 45, 46, 47, 48, 49, 50, 51, 52, 53, 54, 55, 56, 57, 58, 59, 60, 61, 62, 63, 64, 65, 66, 67, 68, 69, 70, 71, 72, 73, 74, 75, 76, 77, 78, 79, 80, 81, 82, 83, 84, 85, 86, 87, 88, 89, 90, 91, 92, 93, 94, 95, 96, 97, 98, 99, 100, 101, 102, 103, 104] dt dt110 := Fr_tr hF6 hF112 (by decide)
    have hM114 : MW (dt110 80) := MW_fr hM7 hF112 (by decide)
    have w115 : dt110 1 0 = dt3 1 0 := hF112 1 (by decide) 0
    have w116 : dt110 7 3 = dt3 7 3 := hF112 7 (by decide) 3
    have w117 : dt110 10 3 = dt3 10 3 := hF112 10 (by decide) 3
    have w118 : dt110 12 3 = dt3 12 3 := hF112 12 (by decide) 3
    have w119 : dt110 14 3 = dt3 14 3 := hF112 14 (by decide) 3
    have w120 : dt110 16 3 = dt3 16 3 := hF112 16 (by decide) 3
    have w121 : dt110 18 0 = dt3 18 0 := hF112 18 (by decide) 0
    have w122 : dt110 24 3 = dt3 24 3 := hF112 24 (by decide) 3
    have w123 : dt110 27 3 = dt3 27 3 := hF112 27 (by decide) 3
    have w124 : dt110 29 3 = dt3 29 3 := hF112 29 (by decide) 3
    have w125 : dt110 31 3 = dt3 31 3 := hF112 31 (by decide) 3
    have w126 : dt110 33 3 = dt3 33 3 := hF112 33 (by decide) 3
    have w127 : dt110 0 2 = dt3 0 2 := hF112 0 (by decide) 2
    have w128 : dt110 35 1 = dt3 35 1 := hF112 35 (by decide) 1
    have w129 : dt110 35 2 = dt3 35 2 := hF112 35 (by decide) 2
    have w130 : dt110 35 3 = dt3 35 3 := hF112 35 (by decide) 3
    have w131 : dt110 80 0 = dt3 80 0 := hF112 80 (by decide) 0
    have w132 : dt110 80 1 = dt3 80 1 := hF112 80 (by decide) 1
    have w133 : dt110 80 2 = dt3 80 2 := hF112 80 (by decide) 2
    have w134 : dt110 80 3 = dt3 80 3 := hF112 80 (by decide) 3
    have w135 : dt110 80 4 = dt3 80 4 := hF112 80 (by decide) 4
    have w136 : dt110 80 5 = dt3 80 5 := hF112 80 (by decide) 5
    have w137 : dt110 81 0 = dt3 81 0 := hF112 81 (by decide) 0
    have w138 : dt110 81 1 = dt3 81 1 := hF112 81 (by decide) 1
    have w139 : dt110 81 2 = dt3 81 2 := hF112 81 (by decide) 2
    have w140 : dt110 81 3 = dt3 81 3 := hF112 81 (by decide) 3
    have w141 : dt110 81 4 = dt3 81 4 := hF112 81 (by decide) 4
    have w142 : dt110 81 5 = dt3 81 5 := hF112 81 (by decide) 5
    rcases h109 with ⟨rfl, h109⟩ | ⟨rfl, h109⟩
    · skip
      obtain ⟨h109_0, h109_1, h109_2, h109_3, h109_4⟩ := h109
      have M2143 : MW (dt110 81) := MW_frk M299 hF112 (by decide)
      have C144 : ∀ j : Nat, dt110 2 j = dt 2 j := fun j => (hF112 2 (by decide) j).trans (C100 j)
      have C145 : ∀ j : Nat, dt110 3 j = dt 3 j := fun j => (hF112 3 (by decide) j).trans (C101 j)
      have C146 : ∀ j : Nat, dt110 19 j = dt 19 j := fun j => (hF112 19 (by decide) j).trans (C102 j)
      have C147 : ∀ j : Nat, dt110 20 j = dt 20 j := fun j => (hF112 20 (by decide) j).trans (C103 j)
      have C148 : ∀ j : Nat, dt110 36 j = dt 36 j := fun j => (hF112 36 (by decide) j).trans (C104 j)
      have C149 : ∀ j : Nat, dt110 80 j = dt 80 j := fun j => (hF112 80 (by decide) j).trans (C105 j)
      have C150 : ∀ j : Nat, dt110 81 j = dt 81 j := fun j => (hF112 81 (by decide) j).trans (C106 j)
      have C151 : ∀ j : Nat, dt110 85 j = dt 85 j := fun j => (hF112 85 (by decide) j).trans (C107 j)
      refine go_toq PM267 (k := 2) (pc' := 1435) (L' := [some (.inr (.inr (some 3000))), some (.inr (.inr (some 0))), some (.inr (.inr (some 79))), some (.inl i)]) (st' := []) (w' := (SH, dt110)) rfl ?_
      exact K dt110 hI111 hM114 M2143 (by first | omega | (simp only [*]; done) | simp only [*]) (by omega) (by omega) (by omega) (by omega) (by omega) (by omega) (by omega) (by omega) (by omega) (by omega) (by omega) (by omega) (by omega) (by omega) (by omega) (by first | exact hI | exact TPL_k hd0 C148 C151 (by omega) | (exfalso; omega)) (by first | exact hI | exact SCL_k hd1 hM (fun j _ => C144 j) (fun j _ => C145 j) (fun j _ _ => C149 j) | (exfalso; omega)) (by first | exact hI | exact SCL_k hd2 hM2 (fun j _ => C146 j) (fun j _ => C147 j) (fun j _ _ => C150 j) | (exfalso; omega))
    · skip
      obtain ⟨h109_0, h109_1, h109_2, h109_3, h109_4⟩ := h109
      have M2152 : MW (dt110 81) := MW_frk M299 hF112 (by decide)
      have C153 : ∀ j : Nat, dt110 2 j = dt 2 j := fun j => (hF112 2 (by decide) j).trans (C100 j)
      have C154 : ∀ j : Nat, dt110 3 j = dt 3 j := fun j => (hF112 3 (by decide) j).trans (C101 j)
      have C155 : ∀ j : Nat, dt110 19 j = dt 19 j := fun j => (hF112 19 (by decide) j).trans (C102 j)
      have C156 : ∀ j : Nat, dt110 20 j = dt 20 j := fun j => (hF112 20 (by decide) j).trans (C103 j)
      have C157 : ∀ j : Nat, dt110 36 j = dt 36 j := fun j => (hF112 36 (by decide) j).trans (C104 j)
      have C158 : ∀ j : Nat, dt110 80 j = dt 80 j := fun j => (hF112 80 (by decide) j).trans (C105 j)
      have C159 : ∀ j : Nat, dt110 81 j = dt 81 j := fun j => (hF112 81 (by decide) j).trans (C106 j)
      have C160 : ∀ j : Nat, dt110 85 j = dt 85 j := fun j => (hF112 85 (by decide) j).trans (C107 j)
      refine go_toq PM267 (k := 2) (pc' := 1435) (L' := [some (.inr (.inr (some 3000))), some (.inr (.inr (some 0))), some (.inr (.inr (some 79))), some (.inl i)]) (st' := []) (w' := (SH, dt110)) rfl ?_
      exact K dt110 hI111 hM114 M2152 (by first | omega | (simp only [*]; done) | simp only [*]) (by omega) (by omega) (by omega) (by omega) (by omega) (by omega) (by omega) (by omega) (by omega) (by omega) (by omega) (by omega) (by omega) (by omega) (by omega) (by first | exact hI | exact TPL_k hd0 C157 C160 (by omega) | (exfalso; omega)) (by first | exact hI | exact SCL_k hd1 hM (fun j _ => C153 j) (fun j _ => C154 j) (fun j _ _ => C158 j) | (exfalso; omega)) (by first | exact hI | exact SCL_k hd2 hM2 (fun j _ => C155 j) (fun j _ => C156 j) (fun j _ _ => C159 j) | (exfalso; omega))
set_option maxRecDepth 20000 in
set_option maxHeartbeats 8000000 in
theorem sp_case3 (L : Nat) (xs : Nat → Int32) (sio : Option Nat) (d : Nat) (Q : Option AV → am_W → Prop) (hLL : L ≤ 3072) (i : Int) (hi : 0 ≤ i ∧ i ≤ 3066) (hil : i ≤ (L : Int) - 6) (dt : Nat → Nat → Int) (hI : InvC dt) (hM : MW (dt 80)) (hM2 : MW (dt 81)) (hk0 : dt 1 0 = dt 80 0) (hk1 : dt 7 3 = dt 80 1) (hk2 : dt 10 3 = dt 80 2) (hk3 : dt 12 3 = dt 80 3) (hk4 : dt 14 3 = dt 80 4) (hk5 : dt 16 3 = dt 80 5) (hk6 : dt 18 0 = dt 81 0) (hk7 : dt 24 3 = dt 81 1) (hk8 : dt 27 3 = dt 81 2) (hk9 : dt 29 3 = dt 81 3) (hk10 : dt 31 3 = dt 81 4) (hk11 : dt 33 3 = dt 81 5) (hk12 : dt 0 2 = dt 79 2) (hk13 : dt 35 1 = dt 79 12) (hk14 : dt 35 2 = dt 79 19) (hk15 : dt 35 3 = dt 79 21) (hd0 : TPL (dt 36) (dt 85) (dt 35 1)) (hd1 : SCL (dt 2) (dt 3) (dt 80)) (hd2 : SCL (dt 19) (dt 20) (dt 81)) (K : ∀ (dt : Nat → Nat → Int) (hI : InvC dt) (hM : MW (dt 80)) (hM2 : MW (dt 81)) (hk0 : dt 1 0 = dt 80 0) (hk1 : dt 7 3 = dt 80 1) (hk2 : dt 10 3 = dt 80 2) (hk3 : dt 12 3 = dt 80 3) (hk4 : dt 14 3 = dt 80 4) (hk5 : dt 16 3 = dt 80 5) (hk6 : dt 18 0 = dt 81 0) (hk7 : dt 24 3 = dt 81 1) (hk8 : dt 27 3 = dt 81 2) (hk9 : dt 29 3 = dt 81 3) (hk10 : dt 31 3 = dt 81 4) (hk11 : dt 33 3 = dt 81 5) (hk12 : dt 0 2 = dt 79 2) (hk13 : dt 35 1 = dt 79 12) (hk14 : dt 35 2 = dt 79 19) (hk15 : dt 35 3 = dt 79 21) (hd0 : TPL (dt 36) (dt 85) (dt 35 1)) (hd1 : SCL (dt 2) (dt 3) (dt 80)) (hd2 : SCL (dt 19) (dt 20) (dt 81)), GO (am_XX L xs sio) (d + 39) 267 1435 [some (.inr (.inr (some 3000))), some (.inr (.inr (some 0))), some (.inr (.inr (some 79))), some (.inl i)] [] (SH, dt) Q) : GO (am_XX L xs sio) (d + 39) 267 289 [some (.inr (.inr (some 3000))), some (.inr (.inr (some 0))), some (.inr (.inr (some 79))), some (.inl i)] [] (SH, dt) Q := by
  have hF : Fr [0, 1, 2, 3, 4, 5, 6, 7, 8, 9, 10, 11, 12, 13, 14, 15, 16, 17, 18, 19, 20, 21, 22, 23, 24, 25, 26, 27, 28, 29, 30, 31, 32, 33, 34, 35, 36, 37, 38, 39, 40, 41, 42, 43, 44, 45, 46, 47, 48, 49, 50, 51, 52, 53, 54, 55, 56, 57, 58, 59, 60, 61, 62, 63, 64, 65, 66, 67, 68, 69, 70, 71, 72, 73, 74, 75, 76, 77, 78, 79, 80, 81, 82, 83, 84, 85, 86, 87, 88, 89, 90, 91, 92, 93, 94, 95, 96, 97, 98, 99, 100, 101, 102, 103, 104] dt dt := Fr_refl
  have r1 : (-2147483648) ≤ dt 1 0 ∧ dt 1 0 ≤ 2147483647 := InvC_get hI 1 0 rfl rfl
  have r2 : 0 ≤ dt 7 3 ∧ dt 7 3 ≤ 12 := InvC_get hI 7 3 rfl rfl
  have r3 : 0 ≤ dt 10 3 ∧ dt 10 3 ≤ 40 := InvC_get hI 10 3 rfl rfl
  have r4 : 0 ≤ dt 12 3 ∧ dt 12 3 ≤ 300 := InvC_get hI 12 3 rfl rfl
  have r5 : 0 ≤ dt 14 3 ∧ dt 14 3 ≤ 40 := InvC_get hI 14 3 rfl rfl
  have r6 : 0 ≤ dt 16 3 ∧ dt 16 3 ≤ 20 := InvC_get hI 16 3 rfl rfl
  have r7 : (-2147483648) ≤ dt 18 0 ∧ dt 18 0 ≤ 2147483647 := InvC_get hI 18 0 rfl rfl
  have r8 : 0 ≤ dt 24 3 ∧ dt 24 3 ≤ 12 := InvC_get hI 24 3 rfl rfl
  have r9 : 0 ≤ dt 27 3 ∧ dt 27 3 ≤ 40 := InvC_get hI 27 3 rfl rfl
  have r10 : 0 ≤ dt 29 3 ∧ dt 29 3 ≤ 300 := InvC_get hI 29 3 rfl rfl
  have r11 : 0 ≤ dt 31 3 ∧ dt 31 3 ≤ 40 := InvC_get hI 31 3 rfl rfl
  have r12 : 0 ≤ dt 33 3 ∧ dt 33 3 ≤ 20 := InvC_get hI 33 3 rfl rfl
  have r13 : 0 ≤ dt 0 2 ∧ dt 0 2 ≤ 1 := InvC_get hI 0 2 rfl rfl
  have r14 : 0 ≤ dt 35 1 ∧ dt 35 1 ≤ 500 := InvC_get hI 35 1 rfl rfl
  have r15 : (-2147483648) ≤ dt 35 2 ∧ dt 35 2 ≤ 2147483647 := InvC_get hI 35 2 rfl rfl
  have r16 : (-2147483648) ≤ dt 35 3 ∧ dt 35 3 ≤ 2147483647 := InvC_get hI 35 3 rfl rfl
  have r17 : (-2147483648) ≤ dt 80 0 ∧ dt 80 0 ≤ 2147483647 := InvC_get hI 80 0 rfl rfl
  have r18 : (-2147483648) ≤ dt 80 1 ∧ dt 80 1 ≤ 2147483647 := InvC_get hI 80 1 rfl rfl
  have r19 := MW_n hM
  have r20 : (-2147483648) ≤ dt 80 2 ∧ dt 80 2 ≤ 2147483647 := InvC_get hI 80 2 rfl rfl
  have r21 : (-2147483648) ≤ dt 80 3 ∧ dt 80 3 ≤ 2147483647 := InvC_get hI 80 3 rfl rfl
  have r22 : (-2147483648) ≤ dt 80 4 ∧ dt 80 4 ≤ 2147483647 := InvC_get hI 80 4 rfl rfl
  have r23 : (-2147483648) ≤ dt 80 5 ∧ dt 80 5 ≤ 2147483647 := InvC_get hI 80 5 rfl rfl
  have r24 : (-2147483648) ≤ dt 81 0 ∧ dt 81 0 ≤ 2147483647 := InvC_get hI 81 0 rfl rfl
  have r25 : (-2147483648) ≤ dt 81 1 ∧ dt 81 1 ≤ 2147483647 := InvC_get hI 81 1 rfl rfl
  have r26 : (-2147483648) ≤ dt 81 2 ∧ dt 81 2 ≤ 2147483647 := InvC_get hI 81 2 rfl rfl
  have r27 : (-2147483648) ≤ dt 81 3 ∧ dt 81 3 ≤ 2147483647 := InvC_get hI 81 3 rfl rfl
  have r28 : (-2147483648) ≤ dt 81 4 ∧ dt 81 4 ≤ 2147483647 := InvC_get hI 81 4 rfl rfl
  have r29 : (-2147483648) ≤ dt 81 5 ∧ dt 81 5 ≤ 2147483647 := InvC_get hI 81 5 rfl rfl
  have r30 : 0 ≤ dt 79 2 ∧ dt 79 2 ≤ 1 := InvC_get hI 79 2 rfl rfl
  have r31 : 0 ≤ dt 79 12 ∧ dt 79 12 ≤ 500 := InvC_get hI 79 12 rfl rfl
  have r32 : (-2147483648) ≤ dt 79 19 ∧ dt 79 19 ≤ 2147483647 := InvC_get hI 79 19 rfl rfl
  have r33 : (-2147483648) ≤ dt 79 21 ∧ dt 79 21 ≤ 2147483647 := InvC_get hI 79 21 rfl rfl
  refine go_toq PM267 (k := 5) (pc' := 294) (L' := [some (.inr (.inr (some 3000))), some (.inr (.inr (some 0))), some (.inr (.inr (some 79))), some (.inl i)]) (st' := [.inl (i + 1), .inr (.inr (some 3000)), .inr (.inr (some 0))]) (w' := (SH, dt)) rfl ?_
  have r34 := i32_R (xs ((i + 1).toNat))
  refine go_smpq PM267 (L' := [some (.inr (.inr (some 3000))), some (.inr (.inr (some 0))), some (.inr (.inr (some 79))), some (.inl i)]) (st' := [.inl ((xs ((i + 1).toNat)).toInt), .inr (.inr (some 0))]) (w' := (SH, dt)) rfl rfl (s_iald (n := L) (f := fun j => (xs j).toInt) (am_scr hLL) ⟨by omega, by omega⟩) ?_
  refine go_toq PM267 (k := 4) (pc' := 299) (L' := [some (.inr (.inr (some 3000))), some (.inr (.inr (some 0))), some (.inr (.inr (some 79))), some (.inl i)]) (st' := [.inl (i + 2), .inr (.inr (some 3000)), .inl ((xs ((i + 1).toNat)).toInt), .inr (.inr (some 0))]) (w' := (SH, dt)) rfl ?_
  have r35 := i32_R (xs ((i + 2).toNat))
  refine go_smpq PM267 (L' := [some (.inr (.inr (some 3000))), some (.inr (.inr (some 0))), some (.inr (.inr (some 79))), some (.inl i)]) (st' := [.inl ((xs ((i + 2).toNat)).toInt), .inl ((xs ((i + 1).toNat)).toInt), .inr (.inr (some 0))]) (w' := (SH, dt)) rfl rfl (s_iald (n := L) (f := fun j => (xs j).toInt) (am_scr hLL) ⟨by omega, by omega⟩) ?_
  refine go_callq PM267 PM70 (Q' := _) rfl rfl rfl rfl (sp_X5_text_f L xs sio (d + 15) dt hI  ((xs ((i + 1).toNat)).toInt) ⟨by omega, by omega⟩ ((xs ((i + 2).toNat)).toInt) ⟨by omega, by omega⟩ ) ?_
  rintro _ _ ⟨dt37, rfl, hI38, hF39, h36⟩
  refine ⟨rfl, ?_⟩
  have hF40 : Fr [0, 1, 2, 3, 4, 5, 6, 7, 8, 9, 10, 11, 12, 13, 14, 15, 16, 17, 18, 19, 20, 21, 22, 23, 24, 25, 26, 27, 28, 29, 30, 31, 32, 33, 34, 35, 36, 37, 38, 39, 40, 41, 42, 43, 44, 45, 46, 47, 48, 49, 50, 51, 52, 53, 54, 55, 56, 57, 58, 59, 60, 61, 62, 63, 64, 65, 66, 67, 68, 69, 70, 71, 72, 73, 74, 75, 76, 77, 78, 79, 80, 81, 82, 83, 84, 85, 86, 87, 88, 89, 90, 91, 92, 93, 94, 95, 96, 97, 98, 99, 100, 101, 102, 103, 104] dt dt37 := Fr_tr hF hF39 (by decide)
  have hM41 : MW (dt37 80) := MW_fr hM hF39 (by decide)
  have w42 : dt37 1 0 = dt 1 0 := hF39 1 (by decide) 0
  have w43 : dt37 7 3 = dt 7 3 := hF39 7 (by decide) 3
  have w44 : dt37 10 3 = dt 10 3 := hF39 10 (by decide) 3
  have w45 : dt37 12 3 = dt 12 3 := hF39 12 (by decide) 3
  have w46 : dt37 14 3 = dt 14 3 := hF39 14 (by decide) 3
  have w47 : dt37 16 3 = dt 16 3 := hF39 16 (by decide) 3
  have w48 : dt37 18 0 = dt 18 0 := hF39 18 (by decide) 0
  have w49 : dt37 24 3 = dt 24 3 := hF39 24 (by decide) 3
  have w50 : dt37 27 3 = dt 27 3 := hF39 27 (by decide) 3
  have w51 : dt37 29 3 = dt 29 3 := hF39 29 (by decide) 3
  have w52 : dt37 31 3 = dt 31 3 := hF39 31 (by decide) 3
  have w53 : dt37 33 3 = dt 33 3 := hF39 33 (by decide) 3
  have w54 : dt37 0 2 = dt 0 2 := hF39 0 (by decide) 2
  have w55 : dt37 80 0 = dt 80 0 := hF39 80 (by decide) 0
  have w56 : dt37 80 1 = dt 80 1 := hF39 80 (by decide) 1
  have w57 : dt37 80 2 = dt 80 2 := hF39 80 (by decide) 2
  have w58 : dt37 80 3 = dt 80 3 := hF39 80 (by decide) 3
  have w59 : dt37 80 4 = dt 80 4 := hF39 80 (by decide) 4
  have w60 : dt37 80 5 = dt 80 5 := hF39 80 (by decide) 5
  have w61 : dt37 81 0 = dt 81 0 := hF39 81 (by decide) 0
  have w62 : dt37 81 1 = dt 81 1 := hF39 81 (by decide) 1
  have w63 : dt37 81 2 = dt 81 2 := hF39 81 (by decide) 2
  have w64 : dt37 81 3 = dt 81 3 := hF39 81 (by decide) 3
  have w65 : dt37 81 4 = dt 81 4 := hF39 81 (by decide) 4
  have w66 : dt37 81 5 = dt 81 5 := hF39 81 (by decide) 5
  have w67 : dt37 79 2 = dt 79 2 := hF39 79 (by decide) 2
  have w68 : dt37 79 12 = dt 79 12 := hF39 79 (by decide) 12
  have w69 : dt37 79 19 = dt 79 19 := hF39 79 (by decide) 19
  have w70 : dt37 79 21 = dt 79 21 := hF39 79 (by decide) 21
  rcases h36 with ⟨v_h36, rfl, h36r, h36⟩
  obtain ⟨h36_0, h36_1, h36_2⟩ := h36
  have M271 : MW (dt37 81) := MW_frk hM2 hF39 (by decide)
  have C72 : ∀ j : Nat, dt37 19 j = dt 19 j := fun j => (hF39 19 (by decide) j).trans ((fun _ => rfl) j)
  have C73 : ∀ j : Nat, dt37 20 j = dt 20 j := fun j => (hF39 20 (by decide) j).trans ((fun _ => rfl) j)
  have C74 : ∀ j : Nat, dt37 36 j = dt 36 j := fun j => (hF39 36 (by decide) j).trans ((fun _ => rfl) j)
  have C75 : ∀ j : Nat, dt37 80 j = dt 80 j := fun j => (hF39 80 (by decide) j).trans ((fun _ => rfl) j)
  have C76 : ∀ j : Nat, dt37 81 j = dt 81 j := fun j => (hF39 81 (by decide) j).trans ((fun _ => rfl) j)
  have C77 : ∀ j : Nat, dt37 85 j = dt 85 j := fun j => (hF39 85 (by decide) j).trans ((fun _ => rfl) j)
  refine go_toq PM267 (k := 6) (pc' := 309) (L' := [some (.inr (.inr (some 3000))), some (.inr (.inr (some 0))), some (.inr (.inr (some 79))), some (.inl i)]) (st' := [.inl (i + 1), .inr (.inr (some 3000)), .inr (.inr (some 79))]) (w' := (SH, dt37)) rfl ?_
  have r78 := i32_R (xs ((i + 1).toNat))
  refine go_smpq PM267 (L' := [some (.inr (.inr (some 3000))), some (.inr (.inr (some 0))), some (.inr (.inr (some 79))), some (.inl i)]) (st' := [.inl ((xs ((i + 1).toNat)).toInt), .inr (.inr (some 79))]) (w' := (SH, dt37)) rfl rfl (s_iald (n := L) (f := fun j => (xs j).toInt) (am_scr hLL) ⟨by omega, by omega⟩) ?_
  refine go_toq PM267 (k := 4) (pc' := 314) (L' := [some (.inr (.inr (some 3000))), some (.inr (.inr (some 0))), some (.inr (.inr (some 79))), some (.inl i)]) (st' := [.inl (i + 2), .inr (.inr (some 3000)), .inl ((xs ((i + 1).toNat)).toInt), .inr (.inr (some 79))]) (w' := (SH, dt37)) rfl ?_
  have r79 := i32_R (xs ((i + 2).toNat))
  refine go_smpq PM267 (L' := [some (.inr (.inr (some 3000))), some (.inr (.inr (some 0))), some (.inr (.inr (some 79))), some (.inl i)]) (st' := [.inl ((xs ((i + 2).toNat)).toInt), .inl ((xs ((i + 1).toNat)).toInt), .inr (.inr (some 79))]) (w' := (SH, dt37)) rfl rfl (s_iald (n := L) (f := fun j => (xs j).toInt) (am_scr hLL) ⟨by omega, by omega⟩) ?_
  refine go_callq PM267 PM174 (Q' := _) rfl rfl rfl rfl (sp_X6_text_og L xs sio (d + 0) dt37 hI38 hM41  ((xs ((i + 1).toNat)).toInt) ⟨by omega, by omega⟩ ((xs ((i + 2).toNat)).toInt) ⟨by omega, by omega⟩ ) ?_
  rintro _ _ ⟨dt81, rfl, hI82, hF83, h80⟩
  refine ⟨rfl, ?_⟩
  have hF84 : Fr [0, 1, 2, 3, 4, 5, 6, 7, 8, 9, 10, 11, 12, 13, 14, 15, 16, 17, 18, 19, 20, 21, 22, 23, 24, 25, 26, 27, 28, 29, 30, 31, 32, 33, 34, 35, 36, 37, 38, 39, 40, 41, 42, 43, 44, 45, 46, 47, 48, 49, 50, 51, 52, 53, 54, 55, 56, 57, 58, 59, 60, 61, 62, 63, 64, 65, 66, 67, 68, 69, 70, 71, 72, 73, 74, 75, 76, 77, 78, 79, 80, 81, 82, 83, 84, 85, 86, 87, 88, 89, 90, 91, 92, 93, 94, 95, 96, 97, 98, 99, 100, 101, 102, 103, 104] dt dt81 := Fr_tr hF40 hF83 (by decide)
  have w85 : dt81 1 0 = dt37 1 0 := hF83 1 (by decide) 0
  have w86 : dt81 7 3 = dt37 7 3 := hF83 7 (by decide) 3
  have w87 : dt81 10 3 = dt37 10 3 := hF83 10 (by decide) 3
  have w88 : dt81 12 3 = dt37 12 3 := hF83 12 (by decide) 3
  have w89 : dt81 14 3 = dt37 14 3 := hF83 14 (by decide) 3
  have w90 : dt81 16 3 = dt37 16 3 := hF83 16 (by decide) 3
  have w91 : dt81 18 0 = dt37 18 0 := hF83 18 (by decide) 0
  have w92 : dt81 24 3 = dt37 24 3 := hF83 24 (by decide) 3
  have w93 : dt81 27 3 = dt37 27 3 := hF83 27 (by decide) 3
  have w94 : dt81 29 3 = dt37 29 3 := hF83 29 (by decide) 3
  have w95 : dt81 31 3 = dt37 31 3 := hF83 31 (by decide) 3
  have w96 : dt81 33 3 = dt37 33 3 := hF83 33 (by decide) 3
  have w97 : dt81 0 2 = dt37 0 2 := hF83 0 (by decide) 2
  have w98 : dt81 35 1 = dt37 35 1 := hF83 35 (by decide) 1
  have w99 : dt81 35 2 = dt37 35 2 := hF83 35 (by decide) 2
  have w100 : dt81 35 3 = dt37 35 3 := hF83 35 (by decide) 3
  have w101 : dt81 81 0 = dt37 81 0 := hF83 81 (by decide) 0
  have w102 : dt81 81 1 = dt37 81 1 := hF83 81 (by decide) 1
  have w103 : dt81 81 2 = dt37 81 2 := hF83 81 (by decide) 2
  have w104 : dt81 81 3 = dt37 81 3 := hF83 81 (by decide) 3
  have w105 : dt81 81 4 = dt37 81 4 := hF83 81 (by decide) 4
  have w106 : dt81 81 5 = dt37 81 5 := hF83 81 (by decide) 5
  rcases h80 with ⟨v_h80, rfl, h80r, h80⟩
  have hM107 : MW (dt81 80) := h80.2.2.1
  obtain ⟨h80_0, h80_1, h80_2, h80_3, h80_4, h80_5, h80_6, h80_7, h80_8, h80_9, h80_10, h80_11, h80_12⟩ := h80
  have M2108 : MW (dt81 81) := MW_frk M271 hF83 (by decide)
  have C109 : ∀ j : Nat, dt81 19 j = dt 19 j := fun j => (hF83 19 (by decide) j).trans (C72 j)
  have C110 : ∀ j : Nat, dt81 20 j = dt 20 j := fun j => (hF83 20 (by decide) j).trans (C73 j)
  have C111 : ∀ j : Nat, dt81 36 j = dt 36 j := fun j => (hF83 36 (by decide) j).trans (C74 j)
  have C112 : ∀ j : Nat, dt81 81 j = dt 81 j := fun j => (hF83 81 (by decide) j).trans (C76 j)
  have C113 : ∀ j : Nat, dt81 85 j = dt 85 j := fun j => (hF83 85 (by decide) j).trans (C77 j)
  have ts114 : _ := TSA_k h36_2 (hF83 2 (by decide)) (hF83 3 (by decide))
  have z115 := h80_11
  rw [show dt37 85 = dt 85 from funext C77, show dt37 79 12 = dt 79 12 by omega, ← mB_con (g := fun j => am_and (dt 36 j) 255) (g' := dt 85) hd0 (show dt 79 12 = dt 35 1 by omega), show dt 79 12 = dt 35 1 by omega] at z115
  have y116 := TRS_u h36_1 z115
  have z117 := h80_12
  rw [show dt37 85 = dt 85 from funext C77, show dt37 79 12 = dt 79 12 by omega, ← mB_con (g := fun j => am_and (dt 36 j) 255) (g' := dt 85) hd0 (show dt 79 12 = dt 35 1 by omega), show dt 79 12 = dt 35 1 by omega, show dt37 80 = dt 80 from funext C75] at z117
  have S118 : SCL (dt81 2) (dt81 3) (dt81 80) := SCL_t hd1 hM ts114 z117 (by omega) (by omega)
  refine go_toq PM267 (k := 2) (pc' := 1435) (L' := [some (.inr (.inr (some 3000))), some (.inr (.inr (some 0))), some (.inr (.inr (some 79))), some (.inl i)]) (st' := []) (w' := (SH, dt81)) rfl ?_
  exact K dt81 hI82 hM107 M2108 (by first | omega | (simp only [*]; done) | simp only [*]) (by omega) (by omega) (by omega) (by omega) (by omega) (by omega) (by omega) (by omega) (by omega) (by omega) (by omega) (by omega) (by omega) (by omega) (by omega) (by first | exact hI | exact TPL_k hd0 C111 C113 (by omega) | (exfalso; omega)) (by first | exact S118 | exact SCL_k hd1 hM (fun j _ => hI j) (fun j _ => hI j) hI | (exfalso; omega)) (by first | exact hI | exact SCL_k hd2 hM2 (fun j _ => C109 j) (fun j _ => C110 j) (fun j _ _ => C112 j) | (exfalso; omega))
set_option maxRecDepth 20000 in
set_option maxHeartbeats 8000000 in
theorem sp_case4 (L : Nat) (xs : Nat → Int32) (sio : Option Nat) (d : Nat) (Q : Option AV → am_W → Prop) (hLL : L ≤ 3072) (i : Int) (hi : 0 ≤ i ∧ i ≤ 3066) (hil : i ≤ (L : Int) - 6) (dt : Nat → Nat → Int) (hI : InvC dt) (hM : MW (dt 80)) (hM2 : MW (dt 81)) (hk0 : dt 1 0 = dt 80 0) (hk1 : dt 7 3 = dt 80 1) (hk2 : dt 10 3 = dt 80 2) (hk3 : dt 12 3 = dt 80 3) (hk4 : dt 14 3 = dt 80 4) (hk5 : dt 16 3 = dt 80 5) (hk6 : dt 18 0 = dt 81 0) (hk7 : dt 24 3 = dt 81 1) (hk8 : dt 27 3 = dt 81 2) (hk9 : dt 29 3 = dt 81 3) (hk10 : dt 31 3 = dt 81 4) (hk11 : dt 33 3 = dt 81 5) (hk12 : dt 0 2 = dt 79 2) (hk13 : dt 35 1 = dt 79 12) (hk14 : dt 35 2 = dt 79 19) (hk15 : dt 35 3 = dt 79 21) (hd0 : TPL (dt 36) (dt 85) (dt 35 1)) (hd1 : SCL (dt 2) (dt 3) (dt 80)) (hd2 : SCL (dt 19) (dt 20) (dt 81)) (K : ∀ (dt : Nat → Nat → Int) (hI : InvC dt) (hM : MW (dt 80)) (hM2 : MW (dt 81)) (hk0 : dt 1 0 = dt 80 0) (hk1 : dt 7 3 = dt 80 1) (hk2 : dt 10 3 = dt 80 2) (hk3 : dt 12 3 = dt 80 3) (hk4 : dt 14 3 = dt 80 4) (hk5 : dt 16 3 = dt 80 5) (hk6 : dt 18 0 = dt 81 0) (hk7 : dt 24 3 = dt 81 1) (hk8 : dt 27 3 = dt 81 2) (hk9 : dt 29 3 = dt 81 3) (hk10 : dt 31 3 = dt 81 4) (hk11 : dt 33 3 = dt 81 5) (hk12 : dt 0 2 = dt 79 2) (hk13 : dt 35 1 = dt 79 12) (hk14 : dt 35 2 = dt 79 19) (hk15 : dt 35 3 = dt 79 21) (hd0 : TPL (dt 36) (dt 85) (dt 35 1)) (hd1 : SCL (dt 2) (dt 3) (dt 80)) (hd2 : SCL (dt 19) (dt 20) (dt 81)), GO (am_XX L xs sio) (d + 39) 267 1435 [some (.inr (.inr (some 3000))), some (.inr (.inr (some 0))), some (.inr (.inr (some 79))), some (.inl i)] [] (SH, dt) Q) : GO (am_XX L xs sio) (d + 39) 267 322 [some (.inr (.inr (some 3000))), some (.inr (.inr (some 0))), some (.inr (.inr (some 79))), some (.inl i)] [] (SH, dt) Q := by
  have hF : Fr [0, 1, 2, 3, 4, 5, 6, 7, 8, 9, 10, 11, 12, 13, 14, 15, 16, 17, 18, 19, 20, 21, 22, 23, 24, 25, 26, 27, 28, 29, 30, 31, 32, 33, 34, 35, 36, 37, 38, 39, 40, 41, 42, 43, 44, 45, 46, 47, 48, 49, 50, 51, 52, 53, 54, 55, 56, 57, 58, 59, 60, 61, 62, 63, 64, 65, 66, 67, 68, 69, 70, 71, 72, 73, 74, 75, 76, 77, 78, 79, 80, 81, 82, 83, 84, 85, 86, 87, 88, 89, 90, 91, 92, 93, 94, 95, 96, 97, 98, 99, 100, 101, 102, 103, 104] dt dt := Fr_refl
  refine go_toq PM267 (k := 5) (pc' := 327) (L' := [some (.inr (.inr (some 3000))), some (.inr (.inr (some 0))), some (.inr (.inr (some 79))), some (.inl i)]) (st' := [.inl (i + 1), .inr (.inr (some 3000)), .inr (.inr (some 0))]) (w' := (SH, dt)) rfl ?_
  have r1 := i32_R (xs ((i + 1).toNat))
  refine go_smpq PM267 (L' := [some (.inr (.inr (some 3000))), some (.inr (.inr (some 0))), some (.inr (.inr (some 79))), some (.inl i)]) (st' := [.inl ((xs ((i + 1).toNat)).toInt), .inr (.inr (some 0))]) (w' := (SH, dt)) rfl rfl (s_iald (n := L) (f := fun j => (xs j).toInt) (am_scr hLL) ⟨by omega, by omega⟩) ?_
  refine go_callq PM267 PM71 (Q' := _) rfl rfl rfl rfl (sp_X5_fault_f L xs sio (d + 38) dt hI  ((xs ((i + 1).toNat)).toInt) ⟨by omega, by omega⟩ ) ?_
  rintro _ _ ⟨rfl, h2⟩
  refine ⟨rfl, ?_⟩
  rcases h2 with ⟨v_h2, rfl, h2r, h2⟩
  refine go_toq PM267 (k := 6) (pc' := 337) (L' := [some (.inr (.inr (some 3000))), some (.inr (.inr (some 0))), some (.inr (.inr (some 79))), some (.inl i)]) (st' := [.inl (i + 1), .inr (.inr (some 3000)), .inr (.inr (some 79))]) (w' := (SH, dt)) rfl ?_
  refine go_smpq PM267 (L' := [some (.inr (.inr (some 3000))), some (.inr (.inr (some 0))), some (.inr (.inr (some 79))), some (.inl i)]) (st' := [.inl ((xs ((i + 1).toNat)).toInt), .inr (.inr (some 79))]) (w' := (SH, dt)) rfl rfl (s_iald (n := L) (f := fun j => (xs j).toInt) (am_scr hLL) ⟨by omega, by omega⟩) ?_
  refine go_callq PM267 PM176 (Q' := _) rfl rfl rfl rfl (sp_X6_fault_f L xs sio (d + 38) dt hI  ((xs ((i + 1).toNat)).toInt) ⟨by omega, by omega⟩ ) ?_
  rintro _ _ ⟨rfl, h3⟩
  refine ⟨rfl, ?_⟩
  rcases h3 with ⟨v_h3, rfl, h3r, h3⟩
  refine go_toq PM267 (k := 2) (pc' := 1435) (L' := [some (.inr (.inr (some 3000))), some (.inr (.inr (some 0))), some (.inr (.inr (some 79))), some (.inl i)]) (st' := []) (w' := (SH, dt)) rfl ?_
  exact K dt hI hM hM2 (by first | omega | (simp only [*]; done) | simp only [*]) (by omega) (by omega) (by omega) (by omega) (by omega) (by omega) (by omega) (by omega) (by omega) (by omega) (by omega) (by omega) (by omega) (by omega) (by omega) (by first | exact hI | exact TPL_k hd0 (fun _ => rfl) (fun _ => rfl) (by omega) | (exfalso; omega)) (by first | exact hI | exact SCL_k hd1 hM (fun j _ => (fun _ => rfl) j) (fun j _ => (fun _ => rfl) j) (fun j _ _ => (fun _ => rfl) j) | (exfalso; omega)) (by first | exact hI | exact SCL_k hd2 hM2 (fun j _ => (fun _ => rfl) j) (fun j _ => (fun _ => rfl) j) (fun j _ _ => (fun _ => rfl) j) | (exfalso; omega))
set_option maxRecDepth 20000 in
set_option maxHeartbeats 8000000 in
theorem sp_case5 (L : Nat) (xs : Nat → Int32) (sio : Option Nat) (d : Nat) (Q : Option AV → am_W → Prop) (hLL : L ≤ 3072) (i : Int) (hi : 0 ≤ i ∧ i ≤ 3066) (hil : i ≤ (L : Int) - 6) (dt : Nat → Nat → Int) (hI : InvC dt) (hM : MW (dt 80)) (hM2 : MW (dt 81)) (hk0 : dt 1 0 = dt 80 0) (hk1 : dt 7 3 = dt 80 1) (hk2 : dt 10 3 = dt 80 2) (hk3 : dt 12 3 = dt 80 3) (hk4 : dt 14 3 = dt 80 4) (hk5 : dt 16 3 = dt 80 5) (hk6 : dt 18 0 = dt 81 0) (hk7 : dt 24 3 = dt 81 1) (hk8 : dt 27 3 = dt 81 2) (hk9 : dt 29 3 = dt 81 3) (hk10 : dt 31 3 = dt 81 4) (hk11 : dt 33 3 = dt 81 5) (hk12 : dt 0 2 = dt 79 2) (hk13 : dt 35 1 = dt 79 12) (hk14 : dt 35 2 = dt 79 19) (hk15 : dt 35 3 = dt 79 21) (hd0 : TPL (dt 36) (dt 85) (dt 35 1)) (hd1 : SCL (dt 2) (dt 3) (dt 80)) (hd2 : SCL (dt 19) (dt 20) (dt 81)) (K : ∀ (dt : Nat → Nat → Int) (hI : InvC dt) (hM : MW (dt 80)) (hM2 : MW (dt 81)) (hk0 : dt 1 0 = dt 80 0) (hk1 : dt 7 3 = dt 80 1) (hk2 : dt 10 3 = dt 80 2) (hk3 : dt 12 3 = dt 80 3) (hk4 : dt 14 3 = dt 80 4) (hk5 : dt 16 3 = dt 80 5) (hk6 : dt 18 0 = dt 81 0) (hk7 : dt 24 3 = dt 81 1) (hk8 : dt 27 3 = dt 81 2) (hk9 : dt 29 3 = dt 81 3) (hk10 : dt 31 3 = dt 81 4) (hk11 : dt 33 3 = dt 81 5) (hk12 : dt 0 2 = dt 79 2) (hk13 : dt 35 1 = dt 79 12) (hk14 : dt 35 2 = dt 79 19) (hk15 : dt 35 3 = dt 79 21) (hd0 : TPL (dt 36) (dt 85) (dt 35 1)) (hd1 : SCL (dt 2) (dt 3) (dt 80)) (hd2 : SCL (dt 19) (dt 20) (dt 81)), GO (am_XX L xs sio) (d + 39) 267 1435 [some (.inr (.inr (some 3000))), some (.inr (.inr (some 0))), some (.inr (.inr (some 79))), some (.inl i)] [] (SH, dt) Q) : GO (am_XX L xs sio) (d + 39) 267 345 [some (.inr (.inr (some 3000))), some (.inr (.inr (some 0))), some (.inr (.inr (some 79))), some (.inl i)] [] (SH, dt) Q := by
  have hF : Fr [0, 1, 2, 3, 4, 5, 6, 7, 8, 9, 10, 11, 12, 13, 14, 15, 16, 17, 18, 19, 20, 21, 22, 23, 24, 25, 26, 27, 28, 29, 30, 31, 32, 33, 34, 35, 36, 37, 38, 39, 40, 41, 42, 43, 44, 45, 46, 47, 48, 49, 50, 51, 52, 53, 54, 55, 56, 57, 58, 59, 60, 61, 62, 63, 64, 65, 66, 67, 68, 69, 70, 71, 72, 73, 74, 75, 76, 77, 78, 79, 80, 81, 82, 83, 84, 85, 86, 87, 88, 89, 90, 91, 92, 93, 94, 95, 96, 97, 98, 99, 100, 101, 102, 103, 104] dt dt := Fr_refl
  have r1 : (-2147483648) ≤ dt 1 0 ∧ dt 1 0 ≤ 2147483647 := InvC_get hI 1 0 rfl rfl
  have r2 : 0 ≤ dt 7 3 ∧ dt 7 3 ≤ 12 := InvC_get hI 7 3 rfl rfl
  have r3 : 0 ≤ dt 10 3 ∧ dt 10 3 ≤ 40 := InvC_get hI 10 3 rfl rfl
  have r4 : 0 ≤ dt 12 3 ∧ dt 12 3 ≤ 300 := InvC_get hI 12 3 rfl rfl
  have r5 : 0 ≤ dt 14 3 ∧ dt 14 3 ≤ 40 := InvC_get hI 14 3 rfl rfl
  have r6 : 0 ≤ dt 16 3 ∧ dt 16 3 ≤ 20 := InvC_get hI 16 3 rfl rfl
  have r7 : (-2147483648) ≤ dt 18 0 ∧ dt 18 0 ≤ 2147483647 := InvC_get hI 18 0 rfl rfl
  have r8 : 0 ≤ dt 24 3 ∧ dt 24 3 ≤ 12 := InvC_get hI 24 3 rfl rfl
  have r9 : 0 ≤ dt 27 3 ∧ dt 27 3 ≤ 40 := InvC_get hI 27 3 rfl rfl
  have r10 : 0 ≤ dt 29 3 ∧ dt 29 3 ≤ 300 := InvC_get hI 29 3 rfl rfl
  have r11 : 0 ≤ dt 31 3 ∧ dt 31 3 ≤ 40 := InvC_get hI 31 3 rfl rfl
  have r12 : 0 ≤ dt 33 3 ∧ dt 33 3 ≤ 20 := InvC_get hI 33 3 rfl rfl
  have r13 : 0 ≤ dt 0 2 ∧ dt 0 2 ≤ 1 := InvC_get hI 0 2 rfl rfl
  have r14 : 0 ≤ dt 35 1 ∧ dt 35 1 ≤ 500 := InvC_get hI 35 1 rfl rfl
  have r15 : (-2147483648) ≤ dt 35 2 ∧ dt 35 2 ≤ 2147483647 := InvC_get hI 35 2 rfl rfl
  have r16 : (-2147483648) ≤ dt 35 3 ∧ dt 35 3 ≤ 2147483647 := InvC_get hI 35 3 rfl rfl
  have r17 : (-2147483648) ≤ dt 80 0 ∧ dt 80 0 ≤ 2147483647 := InvC_get hI 80 0 rfl rfl
  have r18 : (-2147483648) ≤ dt 80 1 ∧ dt 80 1 ≤ 2147483647 := InvC_get hI 80 1 rfl rfl
  have r19 := MW_n hM
  have r20 : (-2147483648) ≤ dt 80 2 ∧ dt 80 2 ≤ 2147483647 := InvC_get hI 80 2 rfl rfl
  have r21 : (-2147483648) ≤ dt 80 3 ∧ dt 80 3 ≤ 2147483647 := InvC_get hI 80 3 rfl rfl
  have r22 : (-2147483648) ≤ dt 80 4 ∧ dt 80 4 ≤ 2147483647 := InvC_get hI 80 4 rfl rfl
  have r23 : (-2147483648) ≤ dt 80 5 ∧ dt 80 5 ≤ 2147483647 := InvC_get hI 80 5 rfl rfl
  have r24 : (-2147483648) ≤ dt 81 0 ∧ dt 81 0 ≤ 2147483647 := InvC_get hI 81 0 rfl rfl
  have r25 : (-2147483648) ≤ dt 81 1 ∧ dt 81 1 ≤ 2147483647 := InvC_get hI 81 1 rfl rfl
  have r26 : (-2147483648) ≤ dt 81 2 ∧ dt 81 2 ≤ 2147483647 := InvC_get hI 81 2 rfl rfl
  have r27 : (-2147483648) ≤ dt 81 3 ∧ dt 81 3 ≤ 2147483647 := InvC_get hI 81 3 rfl rfl
  have r28 : (-2147483648) ≤ dt 81 4 ∧ dt 81 4 ≤ 2147483647 := InvC_get hI 81 4 rfl rfl
  have r29 : (-2147483648) ≤ dt 81 5 ∧ dt 81 5 ≤ 2147483647 := InvC_get hI 81 5 rfl rfl
  have r30 : 0 ≤ dt 79 2 ∧ dt 79 2 ≤ 1 := InvC_get hI 79 2 rfl rfl
  have r31 : 0 ≤ dt 79 12 ∧ dt 79 12 ≤ 500 := InvC_get hI 79 12 rfl rfl
  have r32 : (-2147483648) ≤ dt 79 19 ∧ dt 79 19 ≤ 2147483647 := InvC_get hI 79 19 rfl rfl
  have r33 : (-2147483648) ≤ dt 79 21 ∧ dt 79 21 ≤ 2147483647 := InvC_get hI 79 21 rfl rfl
  refine go_toq PM267 (k := 5) (pc' := 350) (L' := [some (.inr (.inr (some 3000))), some (.inr (.inr (some 0))), some (.inr (.inr (some 79))), some (.inl i)]) (st' := [.inl (i + 1), .inr (.inr (some 3000)), .inr (.inr (some 0))]) (w' := (SH, dt)) rfl ?_
  have r34 := i32_R (xs ((i + 1).toNat))
  refine go_smpq PM267 (L' := [some (.inr (.inr (some 3000))), some (.inr (.inr (some 0))), some (.inr (.inr (some 79))), some (.inl i)]) (st' := [.inl ((xs ((i + 1).toNat)).toInt), .inr (.inr (some 0))]) (w' := (SH, dt)) rfl rfl (s_iald (n := L) (f := fun j => (xs j).toInt) (am_scr hLL) ⟨by omega, by omega⟩) ?_
  refine go_toq PM267 (k := 4) (pc' := 355) (L' := [some (.inr (.inr (some 3000))), some (.inr (.inr (some 0))), some (.inr (.inr (some 79))), some (.inl i)]) (st' := [.inl (i + 2), .inr (.inr (some 3000)), .inl ((xs ((i + 1).toNat)).toInt), .inr (.inr (some 0))]) (w' := (SH, dt)) rfl ?_
  have r35 := i32_R (xs ((i + 2).toNat))
  refine go_smpq PM267 (L' := [some (.inr (.inr (some 3000))), some (.inr (.inr (some 0))), some (.inr (.inr (some 79))), some (.inl i)]) (st' := [.inl ((xs ((i + 2).toNat)).toInt), .inl ((xs ((i + 1).toNat)).toInt), .inr (.inr (some 0))]) (w' := (SH, dt)) rfl rfl (s_iald (n := L) (f := fun j => (xs j).toInt) (am_scr hLL) ⟨by omega, by omega⟩) ?_
  refine go_toq PM267 (k := 4) (pc' := 360) (L' := [some (.inr (.inr (some 3000))), some (.inr (.inr (some 0))), some (.inr (.inr (some 79))), some (.inl i)]) (st' := [.inl (i + 3), .inr (.inr (some 3000)), .inl ((xs ((i + 2).toNat)).toInt), .inl ((xs ((i + 1).toNat)).toInt), .inr (.inr (some 0))]) (w' := (SH, dt)) rfl ?_
  have r36 := i32_R (xs ((i + 3).toNat))
  refine go_smpq PM267 (L' := [some (.inr (.inr (some 3000))), some (.inr (.inr (some 0))), some (.inr (.inr (some 79))), some (.inl i)]) (st' := [.inl ((xs ((i + 3).toNat)).toInt), .inl ((xs ((i + 2).toNat)).toInt), .inl ((xs ((i + 1).toNat)).toInt), .inr (.inr (some 0))]) (w' := (SH, dt)) rfl rfl (s_iald (n := L) (f := fun j => (xs j).toInt) (am_scr hLL) ⟨by omega, by omega⟩) ?_
  refine go_toq PM267 (k := 4) (pc' := 365) (L' := [some (.inr (.inr (some 3000))), some (.inr (.inr (some 0))), some (.inr (.inr (some 79))), some (.inl i)]) (st' := [.inl (i + 4), .inr (.inr (some 3000)), .inl ((xs ((i + 3).toNat)).toInt), .inl ((xs ((i + 2).toNat)).toInt), .inl ((xs ((i + 1).toNat)).toInt), .inr (.inr (some 0))]) (w' := (SH, dt)) rfl ?_
  have r37 := i32_R (xs ((i + 4).toNat))
  refine go_smpq PM267 (L' := [some (.inr (.inr (some 3000))), some (.inr (.inr (some 0))), some (.inr (.inr (some 79))), some (.inl i)]) (st' := [.inl ((xs ((i + 4).toNat)).toInt), .inl ((xs ((i + 3).toNat)).toInt), .inl ((xs ((i + 2).toNat)).toInt), .inl ((xs ((i + 1).toNat)).toInt), .inr (.inr (some 0))]) (w' := (SH, dt)) rfl rfl (s_iald (n := L) (f := fun j => (xs j).toInt) (am_scr hLL) ⟨by omega, by omega⟩) ?_
  refine go_callq PM267 PM72 (Q' := _) rfl rfl rfl rfl (sp_X5_after_w L xs sio (d + 33) dt hI hM  ((xs ((i + 1).toNat)).toInt) ⟨by omega, by omega⟩ ((xs ((i + 2).toNat)).toInt) ⟨by omega, by omega⟩ ((xs ((i + 3).toNat)).toInt) ⟨by omega, by omega⟩ ((xs ((i + 4).toNat)).toInt) ⟨by omega, by omega⟩ (by first | exact True.intro | rfl | omega | trivial | exact hM2 | exact hd1)) ?_
  rintro _ _ ⟨dt39, rfl, hI40, hF41, h38⟩
  refine ⟨rfl, ?_⟩
  have hF42 : Fr [0, 1, 2, 3, 4, 5, 6, 7, 8, 9, 10, 11, 12, 13, 14, 15, 16, 17, 18, 19, 20, 21, 22, 23, 24, 25, 26, 27, 28, 29, 30, 31, 32, 33, 34, 35, 36, 37, 38, 39, 40, 41, 42, 43, 44, 45, 46, 47, 48, 49, 50, 51, 52, 53, 54, 55, 56, 57, 58, 59, 60, 61, 62, 63, 64, 65, 66, 67, 68, 69, 70, 71, 72, 73, 74, 75, 76, 77, 78, 79, 80, 81, 82, 83, 84, 85, 86, 87, 88, 89, 90, 91, 92, 93, 94, 95, 96, 97, 98, 99, 100, 101, 102, 103, 104] dt dt39 := Fr_tr hF hF41 (by decide)
  have hM43 : MW (dt39 80) := MW_fr hM hF41 (by decide)
  have w44 : dt39 1 0 = dt 1 0 := hF41 1 (by decide) 0
  have w45 : dt39 7 3 = dt 7 3 := hF41 7 (by decide) 3
  have w46 : dt39 10 3 = dt 10 3 := hF41 10 (by decide) 3
  have w47 : dt39 12 3 = dt 12 3 := hF41 12 (by decide) 3
  have w48 : dt39 14 3 = dt 14 3 := hF41 14 (by decide) 3
  have w49 : dt39 16 3 = dt 16 3 := hF41 16 (by decide) 3
  have w50 : dt39 18 0 = dt 18 0 := hF41 18 (by decide) 0
  have w51 : dt39 24 3 = dt 24 3 := hF41 24 (by decide) 3
  have w52 : dt39 27 3 = dt 27 3 := hF41 27 (by decide) 3
  have w53 : dt39 29 3 = dt 29 3 := hF41 29 (by decide) 3
  have w54 : dt39 31 3 = dt 31 3 := hF41 31 (by decide) 3
  have w55 : dt39 33 3 = dt 33 3 := hF41 33 (by decide) 3
  have w56 : dt39 0 2 = dt 0 2 := hF41 0 (by decide) 2
  have w57 : dt39 35 1 = dt 35 1 := hF41 35 (by decide) 1
  have w58 : dt39 35 2 = dt 35 2 := hF41 35 (by decide) 2
  have w59 : dt39 35 3 = dt 35 3 := hF41 35 (by decide) 3
  have w60 : dt39 80 0 = dt 80 0 := hF41 80 (by decide) 0
  have w61 : dt39 80 1 = dt 80 1 := hF41 80 (by decide) 1
  have w62 : dt39 80 2 = dt 80 2 := hF41 80 (by decide) 2
  have w63 : dt39 80 3 = dt 80 3 := hF41 80 (by decide) 3
  have w64 : dt39 80 4 = dt 80 4 := hF41 80 (by decide) 4
  have w65 : dt39 80 5 = dt 80 5 := hF41 80 (by decide) 5
  have w66 : dt39 81 0 = dt 81 0 := hF41 81 (by decide) 0
  have w67 : dt39 81 1 = dt 81 1 := hF41 81 (by decide) 1
  have w68 : dt39 81 2 = dt 81 2 := hF41 81 (by decide) 2
  have w69 : dt39 81 3 = dt 81 3 := hF41 81 (by decide) 3
  have w70 : dt39 81 4 = dt 81 4 := hF41 81 (by decide) 4
  have w71 : dt39 81 5 = dt 81 5 := hF41 81 (by decide) 5
  have w72 : dt39 79 2 = dt 79 2 := hF41 79 (by decide) 2
  have w73 : dt39 79 12 = dt 79 12 := hF41 79 (by decide) 12
  have w74 : dt39 79 19 = dt 79 19 := hF41 79 (by decide) 19
  have w75 : dt39 79 21 = dt 79 21 := hF41 79 (by decide) 21
  rcases h38 with ⟨rfl, h38⟩ | ⟨v_h38, rfl, h38r, h38⟩
  · skip
    have M276 : MW (dt39 81) := MW_frk hM2 hF41 (by decide)
    have C77 : ∀ j : Nat, dt39 2 j = dt 2 j := fun j => (hF41 2 (by decide) j).trans ((fun _ => rfl) j)
    have C78 : ∀ j : Nat, dt39 3 j = dt 3 j := fun j => (hF41 3 (by decide) j).trans ((fun _ => rfl) j)
    have C79 : ∀ j : Nat, dt39 19 j = dt 19 j := fun j => (hF41 19 (by decide) j).trans ((fun _ => rfl) j)
    have C80 : ∀ j : Nat, dt39 20 j = dt 20 j := fun j => (hF41 20 (by decide) j).trans ((fun _ => rfl) j)
    have C81 : ∀ j : Nat, dt39 36 j = dt 36 j := fun j => (hF41 36 (by decide) j).trans ((fun _ => rfl) j)
    have C82 : ∀ j : Nat, dt39 80 j = dt 80 j := fun j => (hF41 80 (by decide) j).trans ((fun _ => rfl) j)
    have C83 : ∀ j : Nat, dt39 81 j = dt 81 j := fun j => (hF41 81 (by decide) j).trans ((fun _ => rfl) j)
    have C84 : ∀ j : Nat, dt39 85 j = dt 85 j := fun j => (hF41 85 (by decide) j).trans ((fun _ => rfl) j)
    refine go_toq PM267 (k := 5) (pc' := 374) (L' := [some (.inr (.inr (some 3000))), some (.inr (.inr (some 0))), some (.inr (.inr (some 79))), some (.inl i)]) (st' := [.inl (i + 1), .inr (.inr (some 3000)), .inr (.inr (some 79)), .inl (-2)]) (w' := (SH, dt39)) rfl ?_
    have r85 := i32_R (xs ((i + 1).toNat))
    refine go_smpq PM267 (L' := [some (.inr (.inr (some 3000))), some (.inr (.inr (some 0))), some (.inr (.inr (some 79))), some (.inl i)]) (st' := [.inl ((xs ((i + 1).toNat)).toInt), .inr (.inr (some 79)), .inl (-2)]) (w' := (SH, dt39)) rfl rfl (s_iald (n := L) (f := fun j => (xs j).toInt) (am_scr hLL) ⟨by omega, by omega⟩) ?_
    refine go_toq PM267 (k := 4) (pc' := 379) (L' := [some (.inr (.inr (some 3000))), some (.inr (.inr (some 0))), some (.inr (.inr (some 79))), some (.inl i)]) (st' := [.inl (i + 2), .inr (.inr (some 3000)), .inl ((xs ((i + 1).toNat)).toInt), .inr (.inr (some 79)), .inl (-2)]) (w' := (SH, dt39)) rfl ?_
    have r86 := i32_R (xs ((i + 2).toNat))
    refine go_smpq PM267 (L' := [some (.inr (.inr (some 3000))), some (.inr (.inr (some 0))), some (.inr (.inr (some 79))), some (.inl i)]) (st' := [.inl ((xs ((i + 2).toNat)).toInt), .inl ((xs ((i + 1).toNat)).toInt), .inr (.inr (some 79)), .inl (-2)]) (w' := (SH, dt39)) rfl rfl (s_iald (n := L) (f := fun j => (xs j).toInt) (am_scr hLL) ⟨by omega, by omega⟩) ?_
    refine go_toq PM267 (k := 4) (pc' := 384) (L' := [some (.inr (.inr (some 3000))), some (.inr (.inr (some 0))), some (.inr (.inr (some 79))), some (.inl i)]) (st' := [.inl (i + 3), .inr (.inr (some 3000)), .inl ((xs ((i + 2).toNat)).toInt), .inl ((xs ((i + 1).toNat)).toInt), .inr (.inr (some 79)), .inl (-2)]) (w' := (SH, dt39)) rfl ?_
    have r87 := i32_R (xs ((i + 3).toNat))
    refine go_smpq PM267 (L' := [some (.inr (.inr (some 3000))), some (.inr (.inr (some 0))), some (.inr (.inr (some 79))), some (.inl i)]) (st' := [.inl ((xs ((i + 3).toNat)).toInt), .inl ((xs ((i + 2).toNat)).toInt), .inl ((xs ((i + 1).toNat)).toInt), .inr (.inr (some 79)), .inl (-2)]) (w' := (SH, dt39)) rfl rfl (s_iald (n := L) (f := fun j => (xs j).toInt) (am_scr hLL) ⟨by omega, by omega⟩) ?_
    refine go_toq PM267 (k := 4) (pc' := 389) (L' := [some (.inr (.inr (some 3000))), some (.inr (.inr (some 0))), some (.inr (.inr (some 79))), some (.inl i)]) (st' := [.inl (i + 4), .inr (.inr (some 3000)), .inl ((xs ((i + 3).toNat)).toInt), .inl ((xs ((i + 2).toNat)).toInt), .inl ((xs ((i + 1).toNat)).toInt), .inr (.inr (some 79)), .inl (-2)]) (w' := (SH, dt39)) rfl ?_
    have r88 := i32_R (xs ((i + 4).toNat))
    refine go_smpq PM267 (L' := [some (.inr (.inr (some 3000))), some (.inr (.inr (some 0))), some (.inr (.inr (some 79))), some (.inl i)]) (st' := [.inl ((xs ((i + 4).toNat)).toInt), .inl ((xs ((i + 3).toNat)).toInt), .inl ((xs ((i + 2).toNat)).toInt), .inl ((xs ((i + 1).toNat)).toInt), .inr (.inr (some 79)), .inl (-2)]) (w' := (SH, dt39)) rfl rfl (s_iald (n := L) (f := fun j => (xs j).toInt) (am_scr hLL) ⟨by omega, by omega⟩) ?_
    refine go_callq PM267 PM188 (Q' := _) rfl rfl rfl rfl (sp_X6_after_w L xs sio (d + 33) dt39 hI40 hM43  ((xs ((i + 1).toNat)).toInt) ⟨by omega, by omega⟩ ((xs ((i + 2).toNat)).toInt) ⟨by omega, by omega⟩ ((xs ((i + 3).toNat)).toInt) ⟨by omega, by omega⟩ ((xs ((i + 4).toNat)).toInt) ⟨by omega, by omega⟩ ) ?_
    rintro _ _ ⟨dt90, rfl, hI91, hF92, h89⟩
    refine ⟨rfl, ?_⟩
    have hF93 : Fr [0, 1, 2, 3, 4, 5, 6, 7, 8, 9, 10, 11, 12, 13, 14, 15, 16, 17, 18, 19, 20, 21, 22, 23, 24, 25, 26, 27, 28, 29, 30, 31, 32, 33, 34, 35, 36, 37, 38, 39, 40, 41, 42, 43, 44, 45, 46, 47, 48, 49, 50, 51, 52, 53, 54, 55, 56, 57, 58, 59, 60, 61, 62, 63, 64, 65, 66, 67, 68, 69, 70, 71, 72, 73, 74, 75, 76, 77, 78, 79, 80, 81, 82, 83, 84, 85, 86, 87, 88, 89, 90, 91, 92, 93, 94, 95, 96, 97, 98, 99, 100, 101, 102, 103, 104] dt dt90 := Fr_tr hF42 hF92 (by decide)
    have hM94 : MW (dt90 80) := MW_fr hM43 hF92 (by decide)
    have w95 : dt90 1 0 = dt39 1 0 := hF92 1 (by decide) 0
    have w96 : dt90 7 3 = dt39 7 3 := hF92 7 (by decide) 3
    have w97 : dt90 10 3 = dt39 10 3 := hF92 10 (by decide) 3
    have w98 : dt90 12 3 = dt39 12 3 := hF92 12 (by decide) 3
    have w99 : dt90 14 3 = dt39 14 3 := hF92 14 (by decide) 3
    have w100 : dt90 16 3 = dt39 16 3 := hF92 16 (by decide) 3
    have w101 : dt90 18 0 = dt39 18 0 := hF92 18 (by decide) 0
    have w102 : dt90 24 3 = dt39 24 3 := hF92 24 (by decide) 3
    have w103 : dt90 27 3 = dt39 27 3 := hF92 27 (by decide) 3
    have w104 : dt90 29 3 = dt39 29 3 := hF92 29 (by decide) 3
    have w105 : dt90 31 3 = dt39 31 3 := hF92 31 (by decide) 3
    have w106 : dt90 33 3 = dt39 33 3 := hF92 33 (by decide) 3
    have w107 : dt90 0 2 = dt39 0 2 := hF92 0 (by decide) 2
    have w108 : dt90 35 1 = dt39 35 1 := hF92 35 (by decide) 1
    have w109 : dt90 35 2 = dt39 35 2 := hF92 35 (by decide) 2
    have w110 : dt90 35 3 = dt39 35 3 := hF92 35 (by decide) 3
    have w111 : dt90 80 0 = dt39 80 0 := hF92 80 (by decide) 0
    have w112 : dt90 80 1 = dt39 80 1 := hF92 80 (by decide) 1
    have w113 : dt90 80 2 = dt39 80 2 := hF92 80 (by decide) 2
    have w114 : dt90 80 3 = dt39 80 3 := hF92 80 (by decide) 3
    have w115 : dt90 80 4 = dt39 80 4 := hF92 80 (by decide) 4
    have w116 : dt90 80 5 = dt39 80 5 := hF92 80 (by decide) 5
    have w117 : dt90 81 0 = dt39 81 0 := hF92 81 (by decide) 0
    have w118 : dt90 81 1 = dt39 81 1 := hF92 81 (by decide) 1
    have w119 : dt90 81 2 = dt39 81 2 := hF92 81 (by decide) 2
    have w120 : dt90 81 3 = dt39 81 3 := hF92 81 (by decide) 3
    have w121 : dt90 81 4 = dt39 81 4 := hF92 81 (by decide) 4
    have w122 : dt90 81 5 = dt39 81 5 := hF92 81 (by decide) 5
    have w123 : dt90 79 2 = dt39 79 2 := hF92 79 (by decide) 2
    have w124 : dt90 79 12 = dt39 79 12 := hF92 79 (by decide) 12
    have w125 : dt90 79 19 = dt39 79 19 := hF92 79 (by decide) 19
    have w126 : dt90 79 21 = dt39 79 21 := hF92 79 (by decide) 21
    rcases h89 with ⟨rfl, h89⟩ | ⟨v_h89, rfl, h89r, h89⟩
    · skip
      have M2127 : MW (dt90 81) := MW_frk M276 hF92 (by decide)
      have C128 : ∀ j : Nat, dt90 2 j = dt 2 j := fun j => (hF92 2 (by decide) j).trans (C77 j)
      have C129 : ∀ j : Nat, dt90 3 j = dt 3 j := fun j => (hF92 3 (by decide) j).trans (C78 j)
      have C130 : ∀ j : Nat, dt90 19 j = dt 19 j := fun j => (hF92 19 (by decide) j).trans (C79 j)
      have C131 : ∀ j : Nat, dt90 20 j = dt 20 j := fun j => (hF92 20 (by decide) j).trans (C80 j)
      have C132 : ∀ j : Nat, dt90 36 j = dt 36 j := fun j => (hF92 36 (by decide) j).trans (C81 j)
      have C133 : ∀ j : Nat, dt90 80 j = dt 80 j := fun j => (hF92 80 (by decide) j).trans (C82 j)
      have C134 : ∀ j : Nat, dt90 81 j = dt 81 j := fun j => (hF92 81 (by decide) j).trans (C83 j)
      have C135 : ∀ j : Nat, dt90 85 j = dt 85 j := fun j => (hF92 85 (by decide) j).trans (C84 j)
      refine go_toq PM267 (k := 1) (pc' := 1435) (L' := [some (.inr (.inr (some 3000))), some (.inr (.inr (some 0))), some (.inr (.inr (some 79))), some (.inl i)]) (st' := []) (w' := (SH, dt90)) rfl ?_
      exact K dt90 hI91 hM94 M2127 (by first | omega | (simp only [*]; done) | simp only [*]) (by omega) (by omega) (by omega) (by omega) (by omega) (by omega) (by omega) (by omega) (by omega) (by omega) (by omega) (by omega) (by omega) (by omega) (by omega) (by first | exact hI | exact TPL_k hd0 C132 C135 (by omega) | (exfalso; omega)) (by first | exact hI | exact SCL_k hd1 hM (fun j _ => C128 j) (fun j _ => C129 j) (fun j _ _ => C133 j) | (exfalso; omega)) (by first | exact hI | exact SCL_k hd2 hM2 (fun j _ => C130 j) (fun j _ => C131 j) (fun j _ _ => C134 j) | (exfalso; omega))
    · skip
      obtain ⟨h89_0, h89_1⟩ := h89
      have M2136 : MW (dt90 81) := MW_frk M276 hF92 (by decide)
      have C137 : ∀ j : Nat, dt90 2 j = dt 2 j := fun j => (hF92 2 (by decide) j).trans (C77 j)
      have C138 : ∀ j : Nat, dt90 3 j = dt 3 j := fun j => (hF92 3 (by decide) j).trans (C78 j)
      have C139 : ∀ j : Nat, dt90 19 j = dt 19 j := fun j => (hF92 19 (by decide) j).trans (C79 j)
      have C140 : ∀ j : Nat, dt90 20 j = dt 20 j := fun j => (hF92 20 (by decide) j).trans (C80 j)
      have C141 : ∀ j : Nat, dt90 36 j = dt 36 j := fun j => (hF92 36 (by decide) j).trans (C81 j)
      have C142 : ∀ j : Nat, dt90 80 j = dt 80 j := fun j => (hF92 80 (by decide) j).trans (C82 j)
      have C143 : ∀ j : Nat, dt90 81 j = dt 81 j := fun j => (hF92 81 (by decide) j).trans (C83 j)
      have C144 : ∀ j : Nat, dt90 85 j = dt 85 j := fun j => (hF92 85 (by decide) j).trans (C84 j)
      rw [show dt39 80 = dt 80 from funext C82] at h89_1
      have r146 := wr_RR (-2)
      have r147 := wr_RR v_h89
      refine go_ifq PM267 (k := 0) (p1 := 1435) (p2 := 396) (L' := [some (.inr (.inr (some 3000))), some (.inr (.inr (some 0))), some (.inr (.inr (some 79))), some (.inl i)]) (st' := []) (w' := (SH, dt90)) rfl (u_eq (a := wr (-2)) (b := wr v_h89)) (fun c145 => ?_) (fun c145 => ?_)
      · skip
        exact K dt90 hI91 hM94 M2136 (by first | omega | (simp only [*]; done) | simp only [*]) (by omega) (by omega) (by omega) (by omega) (by omega) (by omega) (by omega) (by omega) (by omega) (by omega) (by omega) (by omega) (by omega) (by omega) (by omega) (by first | exact hI | exact TPL_k hd0 C141 C144 (by omega) | (exfalso; omega)) (by first | exact hI | exact SCL_k hd1 hM (fun j _ => C137 j) (fun j _ => C138 j) (fun j _ _ => C142 j) | (exfalso; omega)) (by first | exact hI | exact SCL_k hd2 hM2 (fun j _ => C139 j) (fun j _ => C140 j) (fun j _ _ => C143 j) | (exfalso; omega))
      · skip
        exfalso; omega
  · skip
    obtain ⟨h38_0, h38_1⟩ := h38
    have M2148 : MW (dt39 81) := MW_frk hM2 hF41 (by decide)
    have C149 : ∀ j : Nat, dt39 2 j = dt 2 j := fun j => (hF41 2 (by decide) j).trans ((fun _ => rfl) j)
    have C150 : ∀ j : Nat, dt39 3 j = dt 3 j := fun j => (hF41 3 (by decide) j).trans ((fun _ => rfl) j)
    have C151 : ∀ j : Nat, dt39 19 j = dt 19 j := fun j => (hF41 19 (by decide) j).trans ((fun _ => rfl) j)
    have C152 : ∀ j : Nat, dt39 20 j = dt 20 j := fun j => (hF41 20 (by decide) j).trans ((fun _ => rfl) j)
    have C153 : ∀ j : Nat, dt39 36 j = dt 36 j := fun j => (hF41 36 (by decide) j).trans ((fun _ => rfl) j)
    have C154 : ∀ j : Nat, dt39 80 j = dt 80 j := fun j => (hF41 80 (by decide) j).trans ((fun _ => rfl) j)
    have C155 : ∀ j : Nat, dt39 81 j = dt 81 j := fun j => (hF41 81 (by decide) j).trans ((fun _ => rfl) j)
    have C156 : ∀ j : Nat, dt39 85 j = dt 85 j := fun j => (hF41 85 (by decide) j).trans ((fun _ => rfl) j)
    refine go_toq PM267 (k := 5) (pc' := 374) (L' := [some (.inr (.inr (some 3000))), some (.inr (.inr (some 0))), some (.inr (.inr (some 79))), some (.inl i)]) (st' := [.inl (i + 1), .inr (.inr (some 3000)), .inr (.inr (some 79)), .inl v_h38]) (w' := (SH, dt39)) rfl ?_
    have r157 := i32_R (xs ((i + 1).toNat))
    refine go_smpq PM267 (L' := [some (.inr (.inr (some 3000))), some (.inr (.inr (some 0))), some (.inr (.inr (some 79))), some (.inl i)]) (st' := [.inl ((xs ((i + 1).toNat)).toInt), .inr (.inr (some 79)), .inl v_h38]) (w' := (SH, dt39)) rfl rfl (s_iald (n := L) (f := fun j => (xs j).toInt) (am_scr hLL) ⟨by omega, by omega⟩) ?_
    refine go_toq PM267 (k := 4) (pc' := 379) (L' := [some (.inr (.inr (some 3000))), some (.inr (.inr (some 0))), some (.inr (.inr (some 79))), some (.inl i)]) (st' := [.inl (i + 2), .inr (.inr (some 3000)), .inl ((xs ((i + 1).toNat)).toInt), .inr (.inr (some 79)), .inl v_h38]) (w' := (SH, dt39)) rfl ?_
    have r158 := i32_R (xs ((i + 2).toNat))
    refine go_smpq PM267 (L' := [some (.inr (.inr (some 3000))), some (.inr (.inr (some 0))), some (.inr (.inr (some 79))), some (.inl i)]) (st' := [.inl ((xs ((i + 2).toNat)).toInt), .inl ((xs ((i + 1).toNat)).toInt), .inr (.inr (some 79)), .inl v_h38]) (w' := (SH, dt39)) rfl rfl (s_iald (n := L) (f := fun j => (xs j).toInt) (am_scr hLL) ⟨by omega, by omega⟩) ?_
    refine go_toq PM267 (k := 4) (pc' := 384) (L' := [some (.inr (.inr (some 3000))), some (.inr (.inr (some 0))), some (.inr (.inr (some 79))), some (.inl i)]) (st' := [.inl (i + 3), .inr (.inr (some 3000)), .inl ((xs ((i + 2).toNat)).toInt), .inl ((xs ((i + 1).toNat)).toInt), .inr (.inr (some 79)), .inl v_h38]) (w' := (SH, dt39)) rfl ?_
    have r159 := i32_R (xs ((i + 3).toNat))
    refine go_smpq PM267 (L' := [some (.inr (.inr (some 3000))), some (.inr (.inr (some 0))), some (.inr (.inr (some 79))), some (.inl i)]) (st' := [.inl ((xs ((i + 3).toNat)).toInt), .inl ((xs ((i + 2).toNat)).toInt), .inl ((xs ((i + 1).toNat)).toInt), .inr (.inr (some 79)), .inl v_h38]) (w' := (SH, dt39)) rfl rfl (s_iald (n := L) (f := fun j => (xs j).toInt) (am_scr hLL) ⟨by omega, by omega⟩) ?_
    refine go_toq PM267 (k := 4) (pc' := 389) (L' := [some (.inr (.inr (some 3000))), some (.inr (.inr (some 0))), some (.inr (.inr (some 79))), some (.inl i)]) (st' := [.inl (i + 4), .inr (.inr (some 3000)), .inl ((xs ((i + 3).toNat)).toInt), .inl ((xs ((i + 2).toNat)).toInt), .inl ((xs ((i + 1).toNat)).toInt), .inr (.inr (some 79)), .inl v_h38]) (w' := (SH, dt39)) rfl ?_
    have r160 := i32_R (xs ((i + 4).toNat))
    refine go_smpq PM267 (L' := [some (.inr (.inr (some 3000))), some (.inr (.inr (some 0))), some (.inr (.inr (some 79))), some (.inl i)]) (st' := [.inl ((xs ((i + 4).toNat)).toInt), .inl ((xs ((i + 3).toNat)).toInt), .inl ((xs ((i + 2).toNat)).toInt), .inl ((xs ((i + 1).toNat)).toInt), .inr (.inr (some 79)), .inl v_h38]) (w' := (SH, dt39)) rfl rfl (s_iald (n := L) (f := fun j => (xs j).toInt) (am_scr hLL) ⟨by omega, by omega⟩) ?_
    refine go_callq PM267 PM188 (Q' := _) rfl rfl rfl rfl (sp_X6_after_w L xs sio (d + 33) dt39 hI40 hM43  ((xs ((i + 1).toNat)).toInt) ⟨by omega, by omega⟩ ((xs ((i + 2).toNat)).toInt) ⟨by omega, by omega⟩ ((xs ((i + 3).toNat)).toInt) ⟨by omega, by omega⟩ ((xs ((i + 4).toNat)).toInt) ⟨by omega, by omega⟩ ) ?_
    rintro _ _ ⟨dt162, rfl, hI163, hF164, h161⟩
    refine ⟨rfl, ?_⟩
    have hF165 : Fr [0, 1, 2, 3, 4, 5, 6, 7, 8, 9, 10, 11, 12, 13, 14, 15, 16, 17, 18, 19, 20, 21, 22, 23, 24, 25, 26, 27, 28, 29, 30, 31, 32, 33, 34, 35, 36, 37, 38, 39, 40, 41, 42, 43, 44, 45, 46, 47, 48, 49, 50, 51, 52, 53, 54, 55, 56, 57, 58, 59, 60, 61, 62, 63, 64, 65, 66, 67, 68, 69, 70, 71, 72, 73, 74, 75, 76, 77, 78, 79, 80, 81, 82, 83, 84, 85, 86, 87, 88, 89, 90, 91, 92, 93, 94, 95, 96, 97, 98, 99, 100, 101, 102, 103, 104] dt dt162 := Fr_tr hF42 hF164 (by decide)
    have hM166 : MW (dt162 80) := MW_fr hM43 hF164 (by decide)
    have w167 : dt162 1 0 = dt39 1 0 := hF164 1 (by decide) 0
    have w168 : dt162 7 3 = dt39 7 3 := hF164 7 (by decide) 3
    have w169 : dt162 10 3 = dt39 10 3 := hF164 10 (by decide) 3
    have w170 : dt162 12 3 = dt39 12 3 := hF164 12 (by decide) 3
    have w171 : dt162 14 3 = dt39 14 3 := hF164 14 (by decide) 3
    have w172 : dt162 16 3 = dt39 16 3 := hF164 16 (by decide) 3
    have w173 : dt162 18 0 = dt39 18 0 := hF164 18 (by decide) 0
    have w174 : dt162 24 3 = dt39 24 3 := hF164 24 (by decide) 3
    have w175 : dt162 27 3 = dt39 27 3 := hF164 27 (by decide) 3
    have w176 : dt162 29 3 = dt39 29 3 := hF164 29 (by decide) 3
    have w177 : dt162 31 3 = dt39 31 3 := hF164 31 (by decide) 3
    have w178 : dt162 33 3 = dt39 33 3 := hF164 33 (by decide) 3
    have w179 : dt162 0 2 = dt39 0 2 := hF164 0 (by decide) 2
    have w180 : dt162 35 1 = dt39 35 1 := hF164 35 (by decide) 1
    have w181 : dt162 35 2 = dt39 35 2 := hF164 35 (by decide) 2
    have w182 : dt162 35 3 = dt39 35 3 := hF164 35 (by decide) 3
    have w183 : dt162 80 0 = dt39 80 0 := hF164 80 (by decide) 0
    have w184 : dt162 80 1 = dt39 80 1 := hF164 80 (by decide) 1
    have w185 : dt162 80 2 = dt39 80 2 := hF164 80 (by decide) 2
    have w186 : dt162 80 3 = dt39 80 3 := hF164 80 (by decide) 3
    have w187 : dt162 80 4 = dt39 80 4 := hF164 80 (by decide) 4
    have w188 : dt162 80 5 = dt39 80 5 := hF164 80 (by decide) 5
    have w189 : dt162 81 0 = dt39 81 0 := hF164 81 (by decide) 0
    have w190 : dt162 81 1 = dt39 81 1 := hF164 81 (by decide) 1
    have w191 : dt162 81 2 = dt39 81 2 := hF164 81 (by decide) 2
    have w192 : dt162 81 3 = dt39 81 3 := hF164 81 (by decide) 3
    have w193 : dt162 81 4 = dt39 81 4 := hF164 81 (by decide) 4
    have w194 : dt162 81 5 = dt39 81 5 := hF164 81 (by decide) 5
    have w195 : dt162 79 2 = dt39 79 2 := hF164 79 (by decide) 2
    have w196 : dt162 79 12 = dt39 79 12 := hF164 79 (by decide) 12
    have w197 : dt162 79 19 = dt39 79 19 := hF164 79 (by decide) 19
    have w198 : dt162 79 21 = dt39 79 21 := hF164 79 (by decide) 21
    rcases h161 with ⟨rfl, h161⟩ | ⟨v_h161, rfl, h161r, h161⟩
    · skip
      have M2199 : MW (dt162 81) := MW_frk M2148 hF164 (by decide)
      have C200 : ∀ j : Nat, dt162 2 j = dt 2 j := fun j => (hF164 2 (by decide) j).trans (C149 j)
      have C201 : ∀ j : Nat, dt162 3 j = dt 3 j := fun j => (hF164 3 (by decide) j).trans (C150 j)
      have C202 : ∀ j : Nat, dt162 19 j = dt 19 j := fun j => (hF164 19 (by decide) j).trans (C151 j)
      have C203 : ∀ j : Nat, dt162 20 j = dt 20 j := fun j => (hF164 20 (by decide) j).trans (C152 j)
      have C204 : ∀ j : Nat, dt162 36 j = dt 36 j := fun j => (hF164 36 (by decide) j).trans (C153 j)
      have C205 : ∀ j : Nat, dt162 80 j = dt 80 j := fun j => (hF164 80 (by decide) j).trans (C154 j)
      have C206 : ∀ j : Nat, dt162 81 j = dt 81 j := fun j => (hF164 81 (by decide) j).trans (C155 j)
      have C207 : ∀ j : Nat, dt162 85 j = dt 85 j := fun j => (hF164 85 (by decide) j).trans (C156 j)
      have r209 := wr_RR v_h38
      have r210 := wr_RR (-2)
      refine go_ifq PM267 (k := 0) (p1 := 1435) (p2 := 396) (L' := [some (.inr (.inr (some 3000))), some (.inr (.inr (some 0))), some (.inr (.inr (some 79))), some (.inl i)]) (st' := []) (w' := (SH, dt162)) rfl (u_eq (a := wr v_h38) (b := wr (-2))) (fun c208 => ?_) (fun c208 => ?_)
      · skip
        exact K dt162 hI163 hM166 M2199 (by first | omega | (simp only [*]; done) | simp only [*]) (by omega) (by omega) (by omega) (by omega) (by omega) (by omega) (by omega) (by omega) (by omega) (by omega) (by omega) (by omega) (by omega) (by omega) (by omega) (by first | exact hI | exact TPL_k hd0 C204 C207 (by omega) | (exfalso; omega)) (by first | exact hI | exact SCL_k hd1 hM (fun j _ => C200 j) (fun j _ => C201 j) (fun j _ _ => C205 j) | (exfalso; omega)) (by first | exact hI | exact SCL_k hd2 hM2 (fun j _ => C202 j) (fun j _ => C203 j) (fun j _ _ => C206 j) | (exfalso; omega))
      · skip
        exfalso; omega
    · skip
      obtain ⟨h161_0, h161_1⟩ := h161
      have M2211 : MW (dt162 81) := MW_frk M2148 hF164 (by decide)
      have C212 : ∀ j : Nat, dt162 2 j = dt 2 j := fun j => (hF164 2 (by decide) j).trans (C149 j)
      have C213 : ∀ j : Nat, dt162 3 j = dt 3 j := fun j => (hF164 3 (by decide) j).trans (C150 j)
      have C214 : ∀ j : Nat, dt162 19 j = dt 19 j := fun j => (hF164 19 (by decide) j).trans (C151 j)
      have C215 : ∀ j : Nat, dt162 20 j = dt 20 j := fun j => (hF164 20 (by decide) j).trans (C152 j)
      have C216 : ∀ j : Nat, dt162 36 j = dt 36 j := fun j => (hF164 36 (by decide) j).trans (C153 j)
      have C217 : ∀ j : Nat, dt162 80 j = dt 80 j := fun j => (hF164 80 (by decide) j).trans (C154 j)
      have C218 : ∀ j : Nat, dt162 81 j = dt 81 j := fun j => (hF164 81 (by decide) j).trans (C155 j)
      have C219 : ∀ j : Nat, dt162 85 j = dt 85 j := fun j => (hF164 85 (by decide) j).trans (C156 j)
      rw [show dt39 80 = dt 80 from funext C154] at h161_1
      have r221 := wr_RR v_h38
      have r222 := wr_RR v_h161
      refine go_ifq PM267 (k := 0) (p1 := 1435) (p2 := 396) (L' := [some (.inr (.inr (some 3000))), some (.inr (.inr (some 0))), some (.inr (.inr (some 79))), some (.inl i)]) (st' := []) (w' := (SH, dt162)) rfl (u_eq (a := wr v_h38) (b := wr v_h161)) (fun c220 => ?_) (fun c220 => ?_)
      · skip
        exact K dt162 hI163 hM166 M2211 (by first | omega | (simp only [*]; done) | simp only [*]) (by omega) (by omega) (by omega) (by omega) (by omega) (by omega) (by omega) (by omega) (by omega) (by omega) (by omega) (by omega) (by omega) (by omega) (by omega) (by first | exact hI | exact TPL_k hd0 C216 C219 (by omega) | (exfalso; omega)) (by first | exact hI | exact SCL_k hd1 hM (fun j _ => C212 j) (fun j _ => C213 j) (fun j _ _ => C217 j) | (exfalso; omega)) (by first | exact hI | exact SCL_k hd2 hM2 (fun j _ => C214 j) (fun j _ => C215 j) (fun j _ _ => C218 j) | (exfalso; omega))
      · skip
        exfalso; omega
set_option maxRecDepth 20000 in
set_option maxHeartbeats 8000000 in
theorem sp_case6 (L : Nat) (xs : Nat → Int32) (sio : Option Nat) (d : Nat) (Q : Option AV → am_W → Prop) (hLL : L ≤ 3072) (i : Int) (hi : 0 ≤ i ∧ i ≤ 3066) (hil : i ≤ (L : Int) - 6) (dt : Nat → Nat → Int) (hI : InvC dt) (hM : MW (dt 80)) (hM2 : MW (dt 81)) (hk0 : dt 1 0 = dt 80 0) (hk1 : dt 7 3 = dt 80 1) (hk2 : dt 10 3 = dt 80 2) (hk3 : dt 12 3 = dt 80 3) (hk4 : dt 14 3 = dt 80 4) (hk5 : dt 16 3 = dt 80 5) (hk6 : dt 18 0 = dt 81 0) (hk7 : dt 24 3 = dt 81 1) (hk8 : dt 27 3 = dt 81 2) (hk9 : dt 29 3 = dt 81 3) (hk10 : dt 31 3 = dt 81 4) (hk11 : dt 33 3 = dt 81 5) (hk12 : dt 0 2 = dt 79 2) (hk13 : dt 35 1 = dt 79 12) (hk14 : dt 35 2 = dt 79 19) (hk15 : dt 35 3 = dt 79 21) (hd0 : TPL (dt 36) (dt 85) (dt 35 1)) (hd1 : SCL (dt 2) (dt 3) (dt 80)) (hd2 : SCL (dt 19) (dt 20) (dt 81)) (K : ∀ (dt : Nat → Nat → Int) (hI : InvC dt) (hM : MW (dt 80)) (hM2 : MW (dt 81)) (hk0 : dt 1 0 = dt 80 0) (hk1 : dt 7 3 = dt 80 1) (hk2 : dt 10 3 = dt 80 2) (hk3 : dt 12 3 = dt 80 3) (hk4 : dt 14 3 = dt 80 4) (hk5 : dt 16 3 = dt 80 5) (hk6 : dt 18 0 = dt 81 0) (hk7 : dt 24 3 = dt 81 1) (hk8 : dt 27 3 = dt 81 2) (hk9 : dt 29 3 = dt 81 3) (hk10 : dt 31 3 = dt 81 4) (hk11 : dt 33 3 = dt 81 5) (hk12 : dt 0 2 = dt 79 2) (hk13 : dt 35 1 = dt 79 12) (hk14 : dt 35 2 = dt 79 19) (hk15 : dt 35 3 = dt 79 21) (hd0 : TPL (dt 36) (dt 85) (dt 35 1)) (hd1 : SCL (dt 2) (dt 3) (dt 80)) (hd2 : SCL (dt 19) (dt 20) (dt 81)), GO (am_XX L xs sio) (d + 39) 267 1435 [some (.inr (.inr (some 3000))), some (.inr (.inr (some 0))), some (.inr (.inr (some 79))), some (.inl i)] [] (SH, dt) Q) : GO (am_XX L xs sio) (d + 39) 267 398 [some (.inr (.inr (some 3000))), some (.inr (.inr (some 0))), some (.inr (.inr (some 79))), some (.inl i)] [] (SH, dt) Q := by
  have hF : Fr [0, 1, 2, 3, 4, 5, 6, 7, 8, 9, 10, 11, 12, 13, 14, 15, 16, 17, 18, 19, 20, 21, 22, 23, 24, 25, 26, 27, 28, 29, 30, 31, 32, 33, 34, 35, 36, 37, 38, 39, 40, 41, 42, 43, 44, 45, 46, 47, 48, 49, 50, 51, 52, 53, 54, 55, 56, 57, 58, 59, 60, 61, 62, 63, 64, 65, 66, 67, 68, 69, 70, 71, 72, 73, 74, 75, 76, 77, 78, 79, 80, 81, 82, 83, 84, 85, 86, 87, 88, 89, 90, 91, 92, 93, 94, 95, 96, 97, 98, 99, 100, 101, 102, 103, 104] dt dt := Fr_refl
  refine go_toq PM267 (k := 5) (pc' := 403) (L' := [some (.inr (.inr (some 3000))), some (.inr (.inr (some 0))), some (.inr (.inr (some 79))), some (.inl i)]) (st' := [.inl (i + 1), .inr (.inr (some 3000)), .inr (.inr (some 0))]) (w' := (SH, dt)) rfl ?_
  have r1 := i32_R (xs ((i + 1).toNat))
  refine go_smpq PM267 (L' := [some (.inr (.inr (some 3000))), some (.inr (.inr (some 0))), some (.inr (.inr (some 79))), some (.inl i)]) (st' := [.inl ((xs ((i + 1).toNat)).toInt), .inr (.inr (some 0))]) (w' := (SH, dt)) rfl rfl (s_iald (n := L) (f := fun j => (xs j).toInt) (am_scr hLL) ⟨by omega, by omega⟩) ?_
  refine go_toq PM267 (k := 4) (pc' := 408) (L' := [some (.inr (.inr (some 3000))), some (.inr (.inr (some 0))), some (.inr (.inr (some 79))), some (.inl i)]) (st' := [.inl (i + 2), .inr (.inr (some 3000)), .inl ((xs ((i + 1).toNat)).toInt), .inr (.inr (some 0))]) (w' := (SH, dt)) rfl ?_
  have r2 := i32_R (xs ((i + 2).toNat))
  refine go_smpq PM267 (L' := [some (.inr (.inr (some 3000))), some (.inr (.inr (some 0))), some (.inr (.inr (some 79))), some (.inl i)]) (st' := [.inl ((xs ((i + 2).toNat)).toInt), .inl ((xs ((i + 1).toNat)).toInt), .inr (.inr (some 0))]) (w' := (SH, dt)) rfl rfl (s_iald (n := L) (f := fun j => (xs j).toInt) (am_scr hLL) ⟨by omega, by omega⟩) ?_
  refine go_toq PM267 (k := 4) (pc' := 413) (L' := [some (.inr (.inr (some 3000))), some (.inr (.inr (some 0))), some (.inr (.inr (some 79))), some (.inl i)]) (st' := [.inl (i + 3), .inr (.inr (some 3000)), .inl ((xs ((i + 2).toNat)).toInt), .inl ((xs ((i + 1).toNat)).toInt), .inr (.inr (some 0))]) (w' := (SH, dt)) rfl ?_
  have r3 := i32_R (xs ((i + 3).toNat))
  refine go_smpq PM267 (L' := [some (.inr (.inr (some 3000))), some (.inr (.inr (some 0))), some (.inr (.inr (some 79))), some (.inl i)]) (st' := [.inl ((xs ((i + 3).toNat)).toInt), .inl ((xs ((i + 2).toNat)).toInt), .inl ((xs ((i + 1).toNat)).toInt), .inr (.inr (some 0))]) (w' := (SH, dt)) rfl rfl (s_iald (n := L) (f := fun j => (xs j).toInt) (am_scr hLL) ⟨by omega, by omega⟩) ?_
  refine go_toq PM267 (k := 4) (pc' := 418) (L' := [some (.inr (.inr (some 3000))), some (.inr (.inr (some 0))), some (.inr (.inr (some 79))), some (.inl i)]) (st' := [.inl (i + 4), .inr (.inr (some 3000)), .inl ((xs ((i + 3).toNat)).toInt), .inl ((xs ((i + 2).toNat)).toInt), .inl ((xs ((i + 1).toNat)).toInt), .inr (.inr (some 0))]) (w' := (SH, dt)) rfl ?_
  have r4 := i32_R (xs ((i + 4).toNat))
  refine go_smpq PM267 (L' := [some (.inr (.inr (some 3000))), some (.inr (.inr (some 0))), some (.inr (.inr (some 79))), some (.inl i)]) (st' := [.inl ((xs ((i + 4).toNat)).toInt), .inl ((xs ((i + 3).toNat)).toInt), .inl ((xs ((i + 2).toNat)).toInt), .inl ((xs ((i + 1).toNat)).toInt), .inr (.inr (some 0))]) (w' := (SH, dt)) rfl rfl (s_iald (n := L) (f := fun j => (xs j).toInt) (am_scr hLL) ⟨by omega, by omega⟩) ?_
  refine go_callq PM267 PM73 (Q' := _) rfl rfl rfl rfl (sp_X5_thinks_w L xs sio (d + 33) dt hI hM  ((xs ((i + 1).toNat)).toInt) ⟨by omega, by omega⟩ ((xs ((i + 2).toNat)).toInt) ⟨by omega, by omega⟩ ((xs ((i + 3).toNat)).toInt) ⟨by omega, by omega⟩ ((xs ((i + 4).toNat)).toInt) ⟨by omega, by omega⟩ (by first | exact True.intro | rfl | omega | trivial | exact hM2 | exact hd1)) ?_
  rintro _ _ ⟨dt6, rfl, hI7, hF8, h5⟩
  refine ⟨rfl, ?_⟩
  have hF9 : Fr [0, 1, 2, 3, 4, 5, 6, 7, 8, 9, 10, 11, 12, 13, 14, 15, 16, 17, 18, 19, 20, 21, 22, 23, 24, 25, 26, 27, 28, 29, 30, 31, 32, 33, 34, 35, 36, 37, 38, 39, 40, 41, 42, 43, 44, 45, 46, 47, 48, 49, 50, 51, 52, 53, 54, 55, 56, 57, 58, 59, 60, 61, 62, 63, 64, 65, 66, 67, 68, 69, 70, 71, 72, 73, 74, 75, 76, 77, 78, 79, 80, 81, 82, 83, 84, 85, 86, 87, 88, 89, 90, 91, 92, 93, 94, 95, 96, 97, 98, 99, 100, 101, 102, 103, 104] dt dt6 := Fr_tr hF hF8 (by decide)
  have hM10 : MW (dt6 80) := MW_fr hM hF8 (by decide)
  have w11 : dt6 1 0 = dt 1 0 := hF8 1 (by decide) 0
  have w12 : dt6 7 3 = dt 7 3 := hF8 7 (by decide) 3
  have w13 : dt6 10 3 = dt 10 3 := hF8 10 (by decide) 3
  have w14 : dt6 12 3 = dt 12 3 := hF8 12 (by decide) 3
  have w15 : dt6 14 3 = dt 14 3 := hF8 14 (by decide) 3
  have w16 : dt6 16 3 = dt 16 3 := hF8 16 (by decide) 3
  have w17 : dt6 18 0 = dt 18 0 := hF8 18 (by decide) 0
  have w18 : dt6 24 3 = dt 24 3 := hF8 24 (by decide) 3
  have w19 : dt6 27 3 = dt 27 3 := hF8 27 (by decide) 3
  have w20 : dt6 29 3 = dt 29 3 := hF8 29 (by decide) 3
  have w21 : dt6 31 3 = dt 31 3 := hF8 31 (by decide) 3
  have w22 : dt6 33 3 = dt 33 3 := hF8 33 (by decide) 3
  have w23 : dt6 0 2 = dt 0 2 := hF8 0 (by decide) 2
  have w24 : dt6 35 1 = dt 35 1 := hF8 35 (by decide) 1
  have w25 : dt6 35 2 = dt 35 2 := hF8 35 (by decide) 2
  have w26 : dt6 35 3 = dt 35 3 := hF8 35 (by decide) 3
  have w27 : dt6 80 0 = dt 80 0 := hF8 80 (by decide) 0
  have w28 : dt6 80 1 = dt 80 1 := hF8 80 (by decide) 1
  have w29 : dt6 80 2 = dt 80 2 := hF8 80 (by decide) 2
  have w30 : dt6 80 3 = dt 80 3 := hF8 80 (by decide) 3
  have w31 : dt6 80 4 = dt 80 4 := hF8 80 (by decide) 4
  have w32 : dt6 80 5 = dt 80 5 := hF8 80 (by decide) 5
  have w33 : dt6 81 0 = dt 81 0 := hF8 81 (by decide) 0
  have w34 : dt6 81 1 = dt 81 1 := hF8 81 (by decide) 1
  have w35 : dt6 81 2 = dt 81 2 := hF8 81 (by decide) 2
  have w36 : dt6 81 3 = dt 81 3 := hF8 81 (by decide) 3
  have w37 : dt6 81 4 = dt 81 4 := hF8 81 (by decide) 4
  have w38 : dt6 81 5 = dt 81 5 := hF8 81 (by decide) 5
  have w39 : dt6 79 2 = dt 79 2 := hF8 79 (by decide) 2
  have w40 : dt6 79 12 = dt 79 12 := hF8 79 (by decide) 12
  have w41 : dt6 79 19 = dt 79 19 := hF8 79 (by decide) 19
  have w42 : dt6 79 21 = dt 79 21 := hF8 79 (by decide) 21
  rcases h5 with ⟨rfl, h5⟩ | ⟨v_h5, rfl, h5r, h5⟩
  · skip
    have M243 : MW (dt6 81) := MW_frk hM2 hF8 (by decide)
    have C44 : ∀ j : Nat, dt6 2 j = dt 2 j := fun j => (hF8 2 (by decide) j).trans ((fun _ => rfl) j)
    have C45 : ∀ j : Nat, dt6 3 j = dt 3 j := fun j => (hF8 3 (by decide) j).trans ((fun _ => rfl) j)
    have C46 : ∀ j : Nat, dt6 19 j = dt 19 j := fun j => (hF8 19 (by decide) j).trans ((fun _ => rfl) j)
    have C47 : ∀ j : Nat, dt6 20 j = dt 20 j := fun j => (hF8 20 (by decide) j).trans ((fun _ => rfl) j)
    have C48 : ∀ j : Nat, dt6 36 j = dt 36 j := fun j => (hF8 36 (by decide) j).trans ((fun _ => rfl) j)
    have C49 : ∀ j : Nat, dt6 80 j = dt 80 j := fun j => (hF8 80 (by decide) j).trans ((fun _ => rfl) j)
    have C50 : ∀ j : Nat, dt6 81 j = dt 81 j := fun j => (hF8 81 (by decide) j).trans ((fun _ => rfl) j)
    have C51 : ∀ j : Nat, dt6 85 j = dt 85 j := fun j => (hF8 85 (by decide) j).trans ((fun _ => rfl) j)
    refine go_toq PM267 (k := 6) (pc' := 428) (L' := [some (.inr (.inr (some 3000))), some (.inr (.inr (some 0))), some (.inr (.inr (some 79))), some (.inl i)]) (st' := [.inl (i + 1), .inr (.inr (some 3000)), .inr (.inr (some 79))]) (w' := (SH, dt6)) rfl ?_
    have r52 := i32_R (xs ((i + 1).toNat))
    refine go_smpq PM267 (L' := [some (.inr (.inr (some 3000))), some (.inr (.inr (some 0))), some (.inr (.inr (some 79))), some (.inl i)]) (st' := [.inl ((xs ((i + 1).toNat)).toInt), .inr (.inr (some 79))]) (w' := (SH, dt6)) rfl rfl (s_iald (n := L) (f := fun j => (xs j).toInt) (am_scr hLL) ⟨by omega, by omega⟩) ?_
    refine go_toq PM267 (k := 4) (pc' := 433) (L' := [some (.inr (.inr (some 3000))), some (.inr (.inr (some 0))), some (.inr (.inr (some 79))), some (.inl i)]) (st' := [.inl (i + 2), .inr (.inr (some 3000)), .inl ((xs ((i + 1).toNat)).toInt), .inr (.inr (some 79))]) (w' := (SH, dt6)) rfl ?_
    have r53 := i32_R (xs ((i + 2).toNat))
    refine go_smpq PM267 (L' := [some (.inr (.inr (some 3000))), some (.inr (.inr (some 0))), some (.inr (.inr (some 79))), some (.inl i)]) (st' := [.inl ((xs ((i + 2).toNat)).toInt), .inl ((xs ((i + 1).toNat)).toInt), .inr (.inr (some 79))]) (w' := (SH, dt6)) rfl rfl (s_iald (n := L) (f := fun j => (xs j).toInt) (am_scr hLL) ⟨by omega, by omega⟩) ?_
    refine go_toq PM267 (k := 4) (pc' := 438) (L' := [some (.inr (.inr (some 3000))), some (.inr (.inr (some 0))), some (.inr (.inr (some 79))), some (.inl i)]) (st' := [.inl (i + 3), .inr (.inr (some 3000)), .inl ((xs ((i + 2).toNat)).toInt), .inl ((xs ((i + 1).toNat)).toInt), .inr (.inr (some 79))]) (w' := (SH, dt6)) rfl ?_
    have r54 := i32_R (xs ((i + 3).toNat))
    refine go_smpq PM267 (L' := [some (.inr (.inr (some 3000))), some (.inr (.inr (some 0))), some (.inr (.inr (some 79))), some (.inl i)]) (st' := [.inl ((xs ((i + 3).toNat)).toInt), .inl ((xs ((i + 2).toNat)).toInt), .inl ((xs ((i + 1).toNat)).toInt), .inr (.inr (some 79))]) (w' := (SH, dt6)) rfl rfl (s_iald (n := L) (f := fun j => (xs j).toInt) (am_scr hLL) ⟨by omega, by omega⟩) ?_
    refine go_toq PM267 (k := 4) (pc' := 443) (L' := [some (.inr (.inr (some 3000))), some (.inr (.inr (some 0))), some (.inr (.inr (some 79))), some (.inl i)]) (st' := [.inl (i + 4), .inr (.inr (some 3000)), .inl ((xs ((i + 3).toNat)).toInt), .inl ((xs ((i + 2).toNat)).toInt), .inl ((xs ((i + 1).toNat)).toInt), .inr (.inr (some 79))]) (w' := (SH, dt6)) rfl ?_
    have r55 := i32_R (xs ((i + 4).toNat))
    refine go_smpq PM267 (L' := [some (.inr (.inr (some 3000))), some (.inr (.inr (some 0))), some (.inr (.inr (some 79))), some (.inl i)]) (st' := [.inl ((xs ((i + 4).toNat)).toInt), .inl ((xs ((i + 3).toNat)).toInt), .inl ((xs ((i + 2).toNat)).toInt), .inl ((xs ((i + 1).toNat)).toInt), .inr (.inr (some 79))]) (w' := (SH, dt6)) rfl rfl (s_iald (n := L) (f := fun j => (xs j).toInt) (am_scr hLL) ⟨by omega, by omega⟩) ?_
    refine go_callq PM267 PM189 (Q' := _) rfl rfl rfl rfl (sp_X6_thinks_w L xs sio (d + 33) dt6 hI7 hM10  ((xs ((i + 1).toNat)).toInt) ⟨by omega, by omega⟩ ((xs ((i + 2).toNat)).toInt) ⟨by omega, by omega⟩ ((xs ((i + 3).toNat)).toInt) ⟨by omega, by omega⟩ ((xs ((i + 4).toNat)).toInt) ⟨by omega, by omega⟩ ) ?_
    rintro _ _ ⟨dt57, rfl, hI58, hF59, h56⟩
    refine ⟨rfl, ?_⟩
    have hF60 : Fr [0, 1, 2, 3, 4, 5, 6, 7, 8, 9, 10, 11, 12, 13, 14, 15, 16, 17, 18, 19, 20, 21, 22, 23, 24, 25, 26, 27, 28, 29, 30, 31, 32, 33, 34, 35, 36, 37, 38, 39, 40, 41, 42, 43, 44, 45, 46, 47, 48, 49, 50, 51, 52, 53, 54, 55, 56, 57, 58, 59, 60, 61, 62, 63, 64, 65, 66, 67, 68, 69, 70, 71, 72, 73, 74, 75, 76, 77, 78, 79, 80, 81, 82, 83, 84, 85, 86, 87, 88, 89, 90, 91, 92, 93, 94, 95, 96, 97, 98, 99, 100, 101, 102, 103, 104] dt dt57 := Fr_tr hF9 hF59 (by decide)
    have hM61 : MW (dt57 80) := MW_fr hM10 hF59 (by decide)
    have w62 : dt57 1 0 = dt6 1 0 := hF59 1 (by decide) 0
    have w63 : dt57 7 3 = dt6 7 3 := hF59 7 (by decide) 3
    have w64 : dt57 10 3 = dt6 10 3 := hF59 10 (by decide) 3
    have w65 : dt57 12 3 = dt6 12 3 := hF59 12 (by decide) 3
    have w66 : dt57 14 3 = dt6 14 3 := hF59 14 (by decide) 3
    have w67 : dt57 16 3 = dt6 16 3 := hF59 16 (by decide) 3
    have w68 : dt57 18 0 = dt6 18 0 := hF59 18 (by decide) 0
    have w69 : dt57 24 3 = dt6 24 3 := hF59 24 (by decide) 3
    have w70 : dt57 27 3 = dt6 27 3 := hF59 27 (by decide) 3
    have w71 : dt57 29 3 = dt6 29 3 := hF59 29 (by decide) 3
    have w72 : dt57 31 3 = dt6 31 3 := hF59 31 (by decide) 3
    have w73 : dt57 33 3 = dt6 33 3 := hF59 33 (by decide) 3
    have w74 : dt57 0 2 = dt6 0 2 := hF59 0 (by decide) 2
    have w75 : dt57 35 1 = dt6 35 1 := hF59 35 (by decide) 1
    have w76 : dt57 35 2 = dt6 35 2 := hF59 35 (by decide) 2
    have w77 : dt57 35 3 = dt6 35 3 := hF59 35 (by decide) 3
    have w78 : dt57 80 0 = dt6 80 0 := hF59 80 (by decide) 0
    have w79 : dt57 80 1 = dt6 80 1 := hF59 80 (by decide) 1
    have w80 : dt57 80 2 = dt6 80 2 := hF59 80 (by decide) 2
    have w81 : dt57 80 3 = dt6 80 3 := hF59 80 (by decide) 3
    have w82 : dt57 80 4 = dt6 80 4 := hF59 80 (by decide) 4
    have w83 : dt57 80 5 = dt6 80 5 := hF59 80 (by decide) 5
    have w84 : dt57 81 0 = dt6 81 0 := hF59 81 (by decide) 0
    have w85 : dt57 81 1 = dt6 81 1 := hF59 81 (by decide) 1
    have w86 : dt57 81 2 = dt6 81 2 := hF59 81 (by decide) 2
    have w87 : dt57 81 3 = dt6 81 3 := hF59 81 (by decide) 3
    have w88 : dt57 81 4 = dt6 81 4 := hF59 81 (by decide) 4
    have w89 : dt57 81 5 = dt6 81 5 := hF59 81 (by decide) 5
    have w90 : dt57 79 2 = dt6 79 2 := hF59 79 (by decide) 2
    have w91 : dt57 79 12 = dt6 79 12 := hF59 79 (by decide) 12
    have w92 : dt57 79 19 = dt6 79 19 := hF59 79 (by decide) 19
    have w93 : dt57 79 21 = dt6 79 21 := hF59 79 (by decide) 21
    rcases h56 with ⟨rfl, h56⟩ | ⟨v_h56, rfl, h56r, h56⟩
    · skip
      have M294 : MW (dt57 81) := MW_frk M243 hF59 (by decide)
      have C95 : ∀ j : Nat, dt57 2 j = dt 2 j := fun j => (hF59 2 (by decide) j).trans (C44 j)
      have C96 : ∀ j : Nat, dt57 3 j = dt 3 j := fun j => (hF59 3 (by decide) j).trans (C45 j)
      have C97 : ∀ j : Nat, dt57 19 j = dt 19 j := fun j => (hF59 19 (by decide) j).trans (C46 j)
      have C98 : ∀ j : Nat, dt57 20 j = dt 20 j := fun j => (hF59 20 (by decide) j).trans (C47 j)
      have C99 : ∀ j : Nat, dt57 36 j = dt 36 j := fun j => (hF59 36 (by decide) j).trans (C48 j)
      have C100 : ∀ j : Nat, dt57 80 j = dt 80 j := fun j => (hF59 80 (by decide) j).trans (C49 j)
      have C101 : ∀ j : Nat, dt57 81 j = dt 81 j := fun j => (hF59 81 (by decide) j).trans (C50 j)
      have C102 : ∀ j : Nat, dt57 85 j = dt 85 j := fun j => (hF59 85 (by decide) j).trans (C51 j)
      refine go_toq PM267 (k := 2) (pc' := 1435) (L' := [some (.inr (.inr (some 3000))), some (.inr (.inr (some 0))), some (.inr (.inr (some 79))), some (.inl i)]) (st' := []) (w' := (SH, dt57)) rfl ?_
      exact K dt57 hI58 hM61 M294 (by first | omega | (simp only [*]; done) | simp only [*]) (by omega) (by omega) (by omega) (by omega) (by omega) (by omega) (by omega) (by omega) (by omega) (by omega) (by omega) (by omega) (by omega) (by omega) (by omega) (by first | exact hI | exact TPL_k hd0 C99 C102 (by omega) | (exfalso; omega)) (by first | exact hI | exact SCL_k hd1 hM (fun j _ => C95 j) (fun j _ => C96 j) (fun j _ _ => C100 j) | (exfalso; omega)) (by first | exact hI | exact SCL_k hd2 hM2 (fun j _ => C97 j) (fun j _ => C98 j) (fun j _ _ => C101 j) | (exfalso; omega))
    · skip
      obtain ⟨h56_0, h56_1⟩ := h56
      have M2103 : MW (dt57 81) := MW_frk M243 hF59 (by decide)
      have C104 : ∀ j : Nat, dt57 2 j = dt 2 j := fun j => (hF59 2 (by decide) j).trans (C44 j)
      have C105 : ∀ j : Nat, dt57 3 j = dt 3 j := fun j => (hF59 3 (by decide) j).trans (C45 j)
      have C106 : ∀ j : Nat, dt57 19 j = dt 19 j := fun j => (hF59 19 (by decide) j).trans (C46 j)
      have C107 : ∀ j : Nat, dt57 20 j = dt 20 j := fun j => (hF59 20 (by decide) j).trans (C47 j)
      have C108 : ∀ j : Nat, dt57 36 j = dt 36 j := fun j => (hF59 36 (by decide) j).trans (C48 j)
      have C109 : ∀ j : Nat, dt57 80 j = dt 80 j := fun j => (hF59 80 (by decide) j).trans (C49 j)
      have C110 : ∀ j : Nat, dt57 81 j = dt 81 j := fun j => (hF59 81 (by decide) j).trans (C50 j)
      have C111 : ∀ j : Nat, dt57 85 j = dt 85 j := fun j => (hF59 85 (by decide) j).trans (C51 j)
      rw [show dt6 80 = dt 80 from funext C49] at h56_1
      refine go_toq PM267 (k := 2) (pc' := 1435) (L' := [some (.inr (.inr (some 3000))), some (.inr (.inr (some 0))), some (.inr (.inr (some 79))), some (.inl i)]) (st' := []) (w' := (SH, dt57)) rfl ?_
      exact K dt57 hI58 hM61 M2103 (by first | omega | (simp only [*]; done) | simp only [*]) (by omega) (by omega) (by omega) (by omega) (by omega) (by omega) (by omega) (by omega) (by omega) (by omega) (by omega) (by omega) (by omega) (by omega) (by omega) (by first | exact hI | exact TPL_k hd0 C108 C111 (by omega) | (exfalso; omega)) (by first | exact hI | exact SCL_k hd1 hM (fun j _ => C104 j) (fun j _ => C105 j) (fun j _ _ => C109 j) | (exfalso; omega)) (by first | exact hI | exact SCL_k hd2 hM2 (fun j _ => C106 j) (fun j _ => C107 j) (fun j _ _ => C110 j) | (exfalso; omega))
  · skip
    obtain ⟨h5_0, h5_1⟩ := h5
    have M2112 : MW (dt6 81) := MW_frk hM2 hF8 (by decide)
    have C113 : ∀ j : Nat, dt6 2 j = dt 2 j := fun j => (hF8 2 (by decide) j).trans ((fun _ => rfl) j)
    have C114 : ∀ j : Nat, dt6 3 j = dt 3 j := fun j => (hF8 3 (by decide) j).trans ((fun _ => rfl) j)
    have C115 : ∀ j : Nat, dt6 19 j = dt 19 j := fun j => (hF8 19 (by decide) j).trans ((fun _ => rfl) j)
    have C116 : ∀ j : Nat, dt6 20 j = dt 20 j := fun j => (hF8 20 (by decide) j).trans ((fun _ => rfl) j)
    have C117 : ∀ j : Nat, dt6 36 j = dt 36 j := fun j => (hF8 36 (by decide) j).trans ((fun _ => rfl) j)
    have C118 : ∀ j : Nat, dt6 80 j = dt 80 j := fun j => (hF8 80 (by decide) j).trans ((fun _ => rfl) j)
    have C119 : ∀ j : Nat, dt6 81 j = dt 81 j := fun j => (hF8 81 (by decide) j).trans ((fun _ => rfl) j)
    have C120 : ∀ j : Nat, dt6 85 j = dt 85 j := fun j => (hF8 85 (by decide) j).trans ((fun _ => rfl) j)
    refine go_toq PM267 (k := 6) (pc' := 428) (L' := [some (.inr (.inr (some 3000))), some (.inr (.inr (some 0))), some (.inr (.inr (some 79))), some (.inl i)]) (st' := [.inl (i + 1), .inr (.inr (some 3000)), .inr (.inr (some 79))]) (w' := (SH, dt6)) rfl ?_
    have r121 := i32_R (xs ((i + 1).toNat))
    refine go_smpq PM267 (L' := [some (.inr (.inr (some 3000))), some (.inr (.inr (some 0))), some (.inr (.inr (some 79))), some (.inl i)]) (st' := [.inl ((xs ((i + 1).toNat)).toInt), .inr (.inr (some 79))]) (w' := (SH, dt6)) rfl rfl (s_iald (n := L) (f := fun j => (xs j).toInt) (am_scr hLL) ⟨by omega, by omega⟩) ?_
    refine go_toq PM267 (k := 4) (pc' := 433) (L' := [some (.inr (.inr (some 3000))), some (.inr (.inr (some 0))), some (.inr (.inr (some 79))), some (.inl i)]) (st' := [.inl (i + 2), .inr (.inr (some 3000)), .inl ((xs ((i + 1).toNat)).toInt), .inr (.inr (some 79))]) (w' := (SH, dt6)) rfl ?_
    have r122 := i32_R (xs ((i + 2).toNat))
    refine go_smpq PM267 (L' := [some (.inr (.inr (some 3000))), some (.inr (.inr (some 0))), some (.inr (.inr (some 79))), some (.inl i)]) (st' := [.inl ((xs ((i + 2).toNat)).toInt), .inl ((xs ((i + 1).toNat)).toInt), .inr (.inr (some 79))]) (w' := (SH, dt6)) rfl rfl (s_iald (n := L) (f := fun j => (xs j).toInt) (am_scr hLL) ⟨by omega, by omega⟩) ?_
    refine go_toq PM267 (k := 4) (pc' := 438) (L' := [some (.inr (.inr (some 3000))), some (.inr (.inr (some 0))), some (.inr (.inr (some 79))), some (.inl i)]) (st' := [.inl (i + 3), .inr (.inr (some 3000)), .inl ((xs ((i + 2).toNat)).toInt), .inl ((xs ((i + 1).toNat)).toInt), .inr (.inr (some 79))]) (w' := (SH, dt6)) rfl ?_
    have r123 := i32_R (xs ((i + 3).toNat))
    refine go_smpq PM267 (L' := [some (.inr (.inr (some 3000))), some (.inr (.inr (some 0))), some (.inr (.inr (some 79))), some (.inl i)]) (st' := [.inl ((xs ((i + 3).toNat)).toInt), .inl ((xs ((i + 2).toNat)).toInt), .inl ((xs ((i + 1).toNat)).toInt), .inr (.inr (some 79))]) (w' := (SH, dt6)) rfl rfl (s_iald (n := L) (f := fun j => (xs j).toInt) (am_scr hLL) ⟨by omega, by omega⟩) ?_
    refine go_toq PM267 (k := 4) (pc' := 443) (L' := [some (.inr (.inr (some 3000))), some (.inr (.inr (some 0))), some (.inr (.inr (some 79))), some (.inl i)]) (st' := [.inl (i + 4), .inr (.inr (some 3000)), .inl ((xs ((i + 3).toNat)).toInt), .inl ((xs ((i + 2).toNat)).toInt), .inl ((xs ((i + 1).toNat)).toInt), .inr (.inr (some 79))]) (w' := (SH, dt6)) rfl ?_
    have r124 := i32_R (xs ((i + 4).toNat))
    refine go_smpq PM267 (L' := [some (.inr (.inr (some 3000))), some (.inr (.inr (some 0))), some (.inr (.inr (some 79))), some (.inl i)]) (st' := [.inl ((xs ((i + 4).toNat)).toInt), .inl ((xs ((i + 3).toNat)).toInt), .inl ((xs ((i + 2).toNat)).toInt), .inl ((xs ((i + 1).toNat)).toInt), .inr (.inr (some 79))]) (w' := (SH, dt6)) rfl rfl (s_iald (n := L) (f := fun j => (xs j).toInt) (am_scr hLL) ⟨by omega, by omega⟩) ?_
    refine go_callq PM267 PM189 (Q' := _) rfl rfl rfl rfl (sp_X6_thinks_w L xs sio (d + 33) dt6 hI7 hM10  ((xs ((i + 1).toNat)).toInt) ⟨by omega, by omega⟩ ((xs ((i + 2).toNat)).toInt) ⟨by omega, by omega⟩ ((xs ((i + 3).toNat)).toInt) ⟨by omega, by omega⟩ ((xs ((i + 4).toNat)).toInt) ⟨by omega, by omega⟩ ) ?_
    rintro _ _ ⟨dt126, rfl, hI127, hF128, h125⟩
    refine ⟨rfl, ?_⟩
    have hF129 : Fr [0, 1, 2, 3, 4, 5, 6, 7, 8, 9, 10, 11, 12, 13, 14, 15, 16, 17, 18, 19, 20, 21, 22, 23, 24, 25, 26, 27, 28, 29, 30, 31, 32, 33, 34, 35, 36, 37, 38, 39, 40, 41, 42, 43, 44, 45, 46, 47, 48, 49, 50, 51, 52, 53, 54, 55, 56, 57, 58, 59, 60, 61, 62, 63, 64, 65, 66, 67, 68, 69, 70, 71, 72, 73, 74, 75, 76, 77, 78, 79, 80, 81, 82, 83, 84, 85, 86, 87, 88, 89, 90, 91, 92, 93, 94, 95, 96, 97, 98, 99, 100, 101, 102, 103, 104] dt dt126 := Fr_tr hF9 hF128 (by decide)
    have hM130 : MW (dt126 80) := MW_fr hM10 hF128 (by decide)
    have w131 : dt126 1 0 = dt6 1 0 := hF128 1 (by decide) 0
    have w132 : dt126 7 3 = dt6 7 3 := hF128 7 (by decide) 3
    have w133 : dt126 10 3 = dt6 10 3 := hF128 10 (by decide) 3
    have w134 : dt126 12 3 = dt6 12 3 := hF128 12 (by decide) 3
    have w135 : dt126 14 3 = dt6 14 3 := hF128 14 (by decide) 3
    have w136 : dt126 16 3 = dt6 16 3 := hF128 16 (by decide) 3
    have w137 : dt126 18 0 = dt6 18 0 := hF128 18 (by decide) 0
    have w138 : dt126 24 3 = dt6 24 3 := hF128 24 (by decide) 3
    have w139 : dt126 27 3 = dt6 27 3 := hF128 27 (by decide) 3
    have w140 : dt126 29 3 = dt6 29 3 := hF128 29 (by decide) 3
    have w141 : dt126 31 3 = dt6 31 3 := hF128 31 (by decide) 3
    have w142 : dt126 33 3 = dt6 33 3 := hF128 33 (by decide) 3
    have w143 : dt126 0 2 = dt6 0 2 := hF128 0 (by decide) 2
    have w144 : dt126 35 1 = dt6 35 1 := hF128 35 (by decide) 1
    have w145 : dt126 35 2 = dt6 35 2 := hF128 35 (by decide) 2
    have w146 : dt126 35 3 = dt6 35 3 := hF128 35 (by decide) 3
    have w147 : dt126 80 0 = dt6 80 0 := hF128 80 (by decide) 0
    have w148 : dt126 80 1 = dt6 80 1 := hF128 80 (by decide) 1
    have w149 : dt126 80 2 = dt6 80 2 := hF128 80 (by decide) 2
    have w150 : dt126 80 3 = dt6 80 3 := hF128 80 (by decide) 3
    have w151 : dt126 80 4 = dt6 80 4 := hF128 80 (by decide) 4
    have w152 : dt126 80 5 = dt6 80 5 := hF128 80 (by decide) 5
    have w153 : dt126 81 0 = dt6 81 0 := hF128 81 (by decide) 0
    have w154 : dt126 81 1 = dt6 81 1 := hF128 81 (by decide) 1
    have w155 : dt126 81 2 = dt6 81 2 := hF128 81 (by decide) 2
    have w156 : dt126 81 3 = dt6 81 3 := hF128 81 (by decide) 3
    have w157 : dt126 81 4 = dt6 81 4 := hF128 81 (by decide) 4
    have w158 : dt126 81 5 = dt6 81 5 := hF128 81 (by decide) 5
    have w159 : dt126 79 2 = dt6 79 2 := hF128 79 (by decide) 2
    have w160 : dt126 79 12 = dt6 79 12 := hF128 79 (by decide) 12
    have w161 : dt126 79 19 = dt6 79 19 := hF128 79 (by decide) 19
    have w162 : dt126 79 21 = dt6 79 21 := hF128 79 (by decide) 21
    rcases h125 with ⟨rfl, h125⟩ | ⟨v_h125, rfl, h125r, h125⟩
    · skip
      have M2163 : MW (dt126 81) := MW_frk M2112 hF128 (by decide)
      have C164 : ∀ j : Nat, dt126 2 j = dt 2 j := fun j => (hF128 2 (by decide) j).trans (C113 j)
      have C165 : ∀ j : Nat, dt126 3 j = dt 3 j := fun j => (hF128 3 (by decide) j).trans (C114 j)
      have C166 : ∀ j : Nat, dt126 19 j = dt 19 j := fun j => (hF128 19 (by decide) j).trans (C115 j)
      have C167 : ∀ j : Nat, dt126 20 j = dt 20 j := fun j => (hF128 20 (by decide) j).trans (C116 j)
      have C168 : ∀ j : Nat, dt126 36 j = dt 36 j := fun j => (hF128 36 (by decide) j).trans (C117 j)
      have C169 : ∀ j : Nat, dt126 80 j = dt 80 j := fun j => (hF128 80 (by decide) j).trans (C118 j)
      have C170 : ∀ j : Nat, dt126 81 j = dt 81 j := fun j => (hF128 81 (by decide) j).trans (C119 j)
      have C171 : ∀ j : Nat, dt126 85 j = dt 85 j := fun j => (hF128 85 (by decide) j).trans (C120 j)
      refine go_toq PM267 (k := 2) (pc' := 1435) (L' := [some (.inr (.inr (some 3000))), some (.inr (.inr (some 0))), some (.inr (.inr (some 79))), some (.inl i)]) (st' := []) (w' := (SH, dt126)) rfl ?_
      exact K dt126 hI127 hM130 M2163 (by first | omega | (simp only [*]; done) | simp only [*]) (by omega) (by omega) (by omega) (by omega) (by omega) (by omega) (by omega) (by omega) (by omega) (by omega) (by omega) (by omega) (by omega) (by omega) (by omega) (by first | exact hI | exact TPL_k hd0 C168 C171 (by omega) | (exfalso; omega)) (by first | exact hI | exact SCL_k hd1 hM (fun j _ => C164 j) (fun j _ => C165 j) (fun j _ _ => C169 j) | (exfalso; omega)) (by first | exact hI | exact SCL_k hd2 hM2 (fun j _ => C166 j) (fun j _ => C167 j) (fun j _ _ => C170 j) | (exfalso; omega))
    · skip
      obtain ⟨h125_0, h125_1⟩ := h125
      have M2172 : MW (dt126 81) := MW_frk M2112 hF128 (by decide)
      have C173 : ∀ j : Nat, dt126 2 j = dt 2 j := fun j => (hF128 2 (by decide) j).trans (C113 j)
      have C174 : ∀ j : Nat, dt126 3 j = dt 3 j := fun j => (hF128 3 (by decide) j).trans (C114 j)
      have C175 : ∀ j : Nat, dt126 19 j = dt 19 j := fun j => (hF128 19 (by decide) j).trans (C115 j)
      have C176 : ∀ j : Nat, dt126 20 j = dt 20 j := fun j => (hF128 20 (by decide) j).trans (C116 j)
      have C177 : ∀ j : Nat, dt126 36 j = dt 36 j := fun j => (hF128 36 (by decide) j).trans (C117 j)
      have C178 : ∀ j : Nat, dt126 80 j = dt 80 j := fun j => (hF128 80 (by decide) j).trans (C118 j)
      have C179 : ∀ j : Nat, dt126 81 j = dt 81 j := fun j => (hF128 81 (by decide) j).trans (C119 j)
      have C180 : ∀ j : Nat, dt126 85 j = dt 85 j := fun j => (hF128 85 (by decide) j).trans (C120 j)
      rw [show dt6 80 = dt 80 from funext C118] at h125_1
      refine go_toq PM267 (k := 2) (pc' := 1435) (L' := [some (.inr (.inr (some 3000))), some (.inr (.inr (some 0))), some (.inr (.inr (some 79))), some (.inl i)]) (st' := []) (w' := (SH, dt126)) rfl ?_
      exact K dt126 hI127 hM130 M2172 (by first | omega | (simp only [*]; done) | simp only [*]) (by omega) (by omega) (by omega) (by omega) (by omega) (by omega) (by omega) (by omega) (by omega) (by omega) (by omega) (by omega) (by omega) (by omega) (by omega) (by first | exact hI | exact TPL_k hd0 C177 C180 (by omega) | (exfalso; omega)) (by first | exact hI | exact SCL_k hd1 hM (fun j _ => C173 j) (fun j _ => C174 j) (fun j _ _ => C178 j) | (exfalso; omega)) (by first | exact hI | exact SCL_k hd2 hM2 (fun j _ => C175 j) (fun j _ => C176 j) (fun j _ _ => C179 j) | (exfalso; omega))
set_option maxRecDepth 20000 in
set_option maxHeartbeats 8000000 in
theorem sp_case7 (L : Nat) (xs : Nat → Int32) (sio : Option Nat) (d : Nat) (Q : Option AV → am_W → Prop) (hLL : L ≤ 3072) (i : Int) (hi : 0 ≤ i ∧ i ≤ 3066) (hil : i ≤ (L : Int) - 6) (dt : Nat → Nat → Int) (hI : InvC dt) (hM : MW (dt 80)) (hM2 : MW (dt 81)) (hk0 : dt 1 0 = dt 80 0) (hk1 : dt 7 3 = dt 80 1) (hk2 : dt 10 3 = dt 80 2) (hk3 : dt 12 3 = dt 80 3) (hk4 : dt 14 3 = dt 80 4) (hk5 : dt 16 3 = dt 80 5) (hk6 : dt 18 0 = dt 81 0) (hk7 : dt 24 3 = dt 81 1) (hk8 : dt 27 3 = dt 81 2) (hk9 : dt 29 3 = dt 81 3) (hk10 : dt 31 3 = dt 81 4) (hk11 : dt 33 3 = dt 81 5) (hk12 : dt 0 2 = dt 79 2) (hk13 : dt 35 1 = dt 79 12) (hk14 : dt 35 2 = dt 79 19) (hk15 : dt 35 3 = dt 79 21) (hd0 : TPL (dt 36) (dt 85) (dt 35 1)) (hd1 : SCL (dt 2) (dt 3) (dt 80)) (hd2 : SCL (dt 19) (dt 20) (dt 81)) (K : ∀ (dt : Nat → Nat → Int) (hI : InvC dt) (hM : MW (dt 80)) (hM2 : MW (dt 81)) (hk0 : dt 1 0 = dt 80 0) (hk1 : dt 7 3 = dt 80 1) (hk2 : dt 10 3 = dt 80 2) (hk3 : dt 12 3 = dt 80 3) (hk4 : dt 14 3 = dt 80 4) (hk5 : dt 16 3 = dt 80 5) (hk6 : dt 18 0 = dt 81 0) (hk7 : dt 24 3 = dt 81 1) (hk8 : dt 27 3 = dt 81 2) (hk9 : dt 29 3 = dt 81 3) (hk10 : dt 31 3 = dt 81 4) (hk11 : dt 33 3 = dt 81 5) (hk12 : dt 0 2 = dt 79 2) (hk13 : dt 35 1 = dt 79 12) (hk14 : dt 35 2 = dt 79 19) (hk15 : dt 35 3 = dt 79 21) (hd0 : TPL (dt 36) (dt 85) (dt 35 1)) (hd1 : SCL (dt 2) (dt 3) (dt 80)) (hd2 : SCL (dt 19) (dt 20) (dt 81)), GO (am_XX L xs sio) (d + 39) 267 1435 [some (.inr (.inr (some 3000))), some (.inr (.inr (some 0))), some (.inr (.inr (some 79))), some (.inl i)] [] (SH, dt) Q) : GO (am_XX L xs sio) (d + 39) 267 451 [some (.inr (.inr (some 3000))), some (.inr (.inr (some 0))), some (.inr (.inr (some 79))), some (.inl i)] [] (SH, dt) Q := by
  have hF : Fr [0, 1, 2, 3, 4, 5, 6, 7, 8, 9, 10, 11, 12, 13, 14, 15, 16, 17, 18, 19, 20, 21, 22, 23, 24, 25, 26, 27, 28, 29, 30, 31, 32, 33, 34, 35, 36, 37, 38, 39, 40, 41, 42, 43, 44, 45, 46, 47, 48, 49, 50, 51, 52, 53, 54, 55, 56, 57, 58, 59, 60, 61, 62, 63, 64, 65, 66, 67, 68, 69, 70, 71, 72, 73, 74, 75, 76, 77, 78, 79, 80, 81, 82, 83, 84, 85, 86, 87, 88, 89, 90, 91, 92, 93, 94, 95, 96, 97, 98, 99, 100, 101, 102, 103, 104] dt dt := Fr_refl
  refine go_toq PM267 (k := 5) (pc' := 456) (L' := [some (.inr (.inr (some 3000))), some (.inr (.inr (some 0))), some (.inr (.inr (some 79))), some (.inl i)]) (st' := [.inl (i + 1), .inr (.inr (some 3000)), .inr (.inr (some 0))]) (w' := (SH, dt)) rfl ?_
  have r1 := i32_R (xs ((i + 1).toNat))
  refine go_smpq PM267 (L' := [some (.inr (.inr (some 3000))), some (.inr (.inr (some 0))), some (.inr (.inr (some 79))), some (.inl i)]) (st' := [.inl ((xs ((i + 1).toNat)).toInt), .inr (.inr (some 0))]) (w' := (SH, dt)) rfl rfl (s_iald (n := L) (f := fun j => (xs j).toInt) (am_scr hLL) ⟨by omega, by omega⟩) ?_
  refine go_toq PM267 (k := 4) (pc' := 461) (L' := [some (.inr (.inr (some 3000))), some (.inr (.inr (some 0))), some (.inr (.inr (some 79))), some (.inl i)]) (st' := [.inl (i + 2), .inr (.inr (some 3000)), .inl ((xs ((i + 1).toNat)).toInt), .inr (.inr (some 0))]) (w' := (SH, dt)) rfl ?_
  have r2 := i32_R (xs ((i + 2).toNat))
  refine go_smpq PM267 (L' := [some (.inr (.inr (some 3000))), some (.inr (.inr (some 0))), some (.inr (.inr (some 79))), some (.inl i)]) (st' := [.inl ((xs ((i + 2).toNat)).toInt), .inl ((xs ((i + 1).toNat)).toInt), .inr (.inr (some 0))]) (w' := (SH, dt)) rfl rfl (s_iald (n := L) (f := fun j => (xs j).toInt) (am_scr hLL) ⟨by omega, by omega⟩) ?_
  refine go_toq PM267 (k := 4) (pc' := 466) (L' := [some (.inr (.inr (some 3000))), some (.inr (.inr (some 0))), some (.inr (.inr (some 79))), some (.inl i)]) (st' := [.inl (i + 3), .inr (.inr (some 3000)), .inl ((xs ((i + 2).toNat)).toInt), .inl ((xs ((i + 1).toNat)).toInt), .inr (.inr (some 0))]) (w' := (SH, dt)) rfl ?_
  have r3 := i32_R (xs ((i + 3).toNat))
  refine go_smpq PM267 (L' := [some (.inr (.inr (some 3000))), some (.inr (.inr (some 0))), some (.inr (.inr (some 79))), some (.inl i)]) (st' := [.inl ((xs ((i + 3).toNat)).toInt), .inl ((xs ((i + 2).toNat)).toInt), .inl ((xs ((i + 1).toNat)).toInt), .inr (.inr (some 0))]) (w' := (SH, dt)) rfl rfl (s_iald (n := L) (f := fun j => (xs j).toInt) (am_scr hLL) ⟨by omega, by omega⟩) ?_
  refine go_callq PM267 PM74 (Q' := _) rfl rfl rfl rfl (sp_X5_here_w L xs sio (d + 33) dt hI hM  ((xs ((i + 1).toNat)).toInt) ⟨by omega, by omega⟩ ((xs ((i + 2).toNat)).toInt) ⟨by omega, by omega⟩ ((xs ((i + 3).toNat)).toInt) ⟨by omega, by omega⟩ (by first | exact True.intro | rfl | omega | trivial | exact hM2 | exact hd1)) ?_
  rintro _ _ ⟨dt5, rfl, hI6, hF7, h4⟩
  refine ⟨rfl, ?_⟩
  have hF8 : Fr [0, 1, 2, 3, 4, 5, 6, 7, 8, 9, 10, 11, 12, 13, 14, 15, 16, 17, 18, 19, 20, 21, 22, 23, 24, 25, 26, 27, 28, 29, 30, 31, 32, 33, 34, 35, 36, 37, 38, 39, 40, 41, 42, 43, 44, 45, 46, 47, 48, 49, 50, 51, 52, 53, 54, 55, 56, 57, 58, 59, 60, 61, 62, 63, 64, 65, 66, 67, 68, 69, 70, 71, 72, 73, 74, 75, 76, 77, 78, 79, 80, 81, 82, 83, 84, 85, 86, 87, 88, 89, 90, 91, 92, 93, 94, 95, 96, 97, 98, 99, 100, 101, 102, 103, 104] dt dt5 := Fr_tr hF hF7 (by decide)
  have hM9 : MW (dt5 80) := MW_fr hM hF7 (by decide)
  have w10 : dt5 1 0 = dt 1 0 := hF7 1 (by decide) 0
  have w11 : dt5 7 3 = dt 7 3 := hF7 7 (by decide) 3
  have w12 : dt5 10 3 = dt 10 3 := hF7 10 (by decide) 3
  have w13 : dt5 12 3 = dt 12 3 := hF7 12 (by decide) 3
  have w14 : dt5 14 3 = dt 14 3 := hF7 14 (by decide) 3
  have w15 : dt5 16 3 = dt 16 3 := hF7 16 (by decide) 3
  have w16 : dt5 18 0 = dt 18 0 := hF7 18 (by decide) 0
  have w17 : dt5 24 3 = dt 24 3 := hF7 24 (by decide) 3
  have w18 : dt5 27 3 = dt 27 3 := hF7 27 (by decide) 3
  have w19 : dt5 29 3 = dt 29 3 := hF7 29 (by decide) 3
  have w20 : dt5 31 3 = dt 31 3 := hF7 31 (by decide) 3
  have w21 : dt5 33 3 = dt 33 3 := hF7 33 (by decide) 3
  have w22 : dt5 0 2 = dt 0 2 := hF7 0 (by decide) 2
  have w23 : dt5 35 1 = dt 35 1 := hF7 35 (by decide) 1
  have w24 : dt5 35 2 = dt 35 2 := hF7 35 (by decide) 2
  have w25 : dt5 35 3 = dt 35 3 := hF7 35 (by decide) 3
  have w26 : dt5 80 0 = dt 80 0 := hF7 80 (by decide) 0
  have w27 : dt5 80 1 = dt 80 1 := hF7 80 (by decide) 1
  have w28 : dt5 80 2 = dt 80 2 := hF7 80 (by decide) 2
  have w29 : dt5 80 3 = dt 80 3 := hF7 80 (by decide) 3
  have w30 : dt5 80 4 = dt 80 4 := hF7 80 (by decide) 4
  have w31 : dt5 80 5 = dt 80 5 := hF7 80 (by decide) 5
  have w32 : dt5 81 0 = dt 81 0 := hF7 81 (by decide) 0
  have w33 : dt5 81 1 = dt 81 1 := hF7 81 (by decide) 1
  have w34 : dt5 81 2 = dt 81 2 := hF7 81 (by decide) 2
  have w35 : dt5 81 3 = dt 81 3 := hF7 81 (by decide) 3
  have w36 : dt5 81 4 = dt 81 4 := hF7 81 (by decide) 4
  have w37 : dt5 81 5 = dt 81 5 := hF7 81 (by decide) 5
  have w38 : dt5 79 2 = dt 79 2 := hF7 79 (by decide) 2
  have w39 : dt5 79 12 = dt 79 12 := hF7 79 (by decide) 12
  have w40 : dt5 79 19 = dt 79 19 := hF7 79 (by decide) 19
  have w41 : dt5 79 21 = dt 79 21 := hF7 79 (by decide) 21
  rcases h4 with ⟨rfl, h4⟩ | ⟨v_h4, rfl, h4r, h4⟩
  · skip
    have M242 : MW (dt5 81) := MW_frk hM2 hF7 (by decide)
    have C43 : ∀ j : Nat, dt5 2 j = dt 2 j := fun j => (hF7 2 (by decide) j).trans ((fun _ => rfl) j)
    have C44 : ∀ j : Nat, dt5 3 j = dt 3 j := fun j => (hF7 3 (by decide) j).trans ((fun _ => rfl) j)
    have C45 : ∀ j : Nat, dt5 19 j = dt 19 j := fun j => (hF7 19 (by decide) j).trans ((fun _ => rfl) j)
    have C46 : ∀ j : Nat, dt5 20 j = dt 20 j := fun j => (hF7 20 (by decide) j).trans ((fun _ => rfl) j)
    have C47 : ∀ j : Nat, dt5 36 j = dt 36 j := fun j => (hF7 36 (by decide) j).trans ((fun _ => rfl) j)
    have C48 : ∀ j : Nat, dt5 80 j = dt 80 j := fun j => (hF7 80 (by decide) j).trans ((fun _ => rfl) j)
    have C49 : ∀ j : Nat, dt5 81 j = dt 81 j := fun j => (hF7 81 (by decide) j).trans ((fun _ => rfl) j)
    have C50 : ∀ j : Nat, dt5 85 j = dt 85 j := fun j => (hF7 85 (by decide) j).trans ((fun _ => rfl) j)
    refine go_toq PM267 (k := 6) (pc' := 476) (L' := [some (.inr (.inr (some 3000))), some (.inr (.inr (some 0))), some (.inr (.inr (some 79))), some (.inl i)]) (st' := [.inl (i + 1), .inr (.inr (some 3000)), .inr (.inr (some 79))]) (w' := (SH, dt5)) rfl ?_
    have r51 := i32_R (xs ((i + 1).toNat))
    refine go_smpq PM267 (L' := [some (.inr (.inr (some 3000))), some (.inr (.inr (some 0))), some (.inr (.inr (some 79))), some (.inl i)]) (st' := [.inl ((xs ((i + 1).toNat)).toInt), .inr (.inr (some 79))]) (w' := (SH, dt5)) rfl rfl (s_iald (n := L) (f := fun j => (xs j).toInt) (am_scr hLL) ⟨by omega, by omega⟩) ?_
    refine go_toq PM267 (k := 4) (pc' := 481) (L' := [some (.inr (.inr (some 3000))), some (.inr (.inr (some 0))), some (.inr (.inr (some 79))), some (.inl i)]) (st' := [.inl (i + 2), .inr (.inr (some 3000)), .inl ((xs ((i + 1).toNat)).toInt), .inr (.inr (some 79))]) (w' := (SH, dt5)) rfl ?_
    have r52 := i32_R (xs ((i + 2).toNat))
    refine go_smpq PM267 (L' := [some (.inr (.inr (some 3000))), some (.inr (.inr (some 0))), some (.inr (.inr (some 79))), some (.inl i)]) (st' := [.inl ((xs ((i + 2).toNat)).toInt), .inl ((xs ((i + 1).toNat)).toInt), .inr (.inr (some 79))]) (w' := (SH, dt5)) rfl rfl (s_iald (n := L) (f := fun j => (xs j).toInt) (am_scr hLL) ⟨by omega, by omega⟩) ?_
    refine go_toq PM267 (k := 4) (pc' := 486) (L' := [some (.inr (.inr (some 3000))), some (.inr (.inr (some 0))), some (.inr (.inr (some 79))), some (.inl i)]) (st' := [.inl (i + 3), .inr (.inr (some 3000)), .inl ((xs ((i + 2).toNat)).toInt), .inl ((xs ((i + 1).toNat)).toInt), .inr (.inr (some 79))]) (w' := (SH, dt5)) rfl ?_
    have r53 := i32_R (xs ((i + 3).toNat))
    refine go_smpq PM267 (L' := [some (.inr (.inr (some 3000))), some (.inr (.inr (some 0))), some (.inr (.inr (some 79))), some (.inl i)]) (st' := [.inl ((xs ((i + 3).toNat)).toInt), .inl ((xs ((i + 2).toNat)).toInt), .inl ((xs ((i + 1).toNat)).toInt), .inr (.inr (some 79))]) (w' := (SH, dt5)) rfl rfl (s_iald (n := L) (f := fun j => (xs j).toInt) (am_scr hLL) ⟨by omega, by omega⟩) ?_
    refine go_callq PM267 PM190 (Q' := _) rfl rfl rfl rfl (sp_X6_here_w L xs sio (d + 33) dt5 hI6 hM9  ((xs ((i + 1).toNat)).toInt) ⟨by omega, by omega⟩ ((xs ((i + 2).toNat)).toInt) ⟨by omega, by omega⟩ ((xs ((i + 3).toNat)).toInt) ⟨by omega, by omega⟩ ) ?_
    rintro _ _ ⟨dt55, rfl, hI56, hF57, h54⟩
    refine ⟨rfl, ?_⟩
    have hF58 : Fr [0, 1, 2, 3, 4, 5, 6, 7, 8, 9, 10, 11, 12, 13, 14, 15, 16, 17, 18, 19, 20, 21, 22, 23, 24, 25, 26, 27, 28, 29, 30, 31, 32, 33, 34, 35, 36, 37, 38, 39, 40, 41, 42, 43, 44, 45, 46, 47, 48, 49, 50, 51, 52, 53, 54, 55, 56, 57, 58, 59, 60, 61, 62, 63, 64, 65, 66, 67, 68, 69, 70, 71, 72, 73, 74, 75, 76, 77, 78, 79, 80, 81, 82, 83, 84, 85, 86, 87, 88, 89, 90, 91, 92, 93, 94, 95, 96, 97, 98, 99, 100, 101, 102, 103, 104] dt dt55 := Fr_tr hF8 hF57 (by decide)
    have hM59 : MW (dt55 80) := MW_fr hM9 hF57 (by decide)
    have w60 : dt55 1 0 = dt5 1 0 := hF57 1 (by decide) 0
    have w61 : dt55 7 3 = dt5 7 3 := hF57 7 (by decide) 3
    have w62 : dt55 10 3 = dt5 10 3 := hF57 10 (by decide) 3
    have w63 : dt55 12 3 = dt5 12 3 := hF57 12 (by decide) 3
    have w64 : dt55 14 3 = dt5 14 3 := hF57 14 (by decide) 3
    have w65 : dt55 16 3 = dt5 16 3 := hF57 16 (by decide) 3
    have w66 : dt55 18 0 = dt5 18 0 := hF57 18 (by decide) 0
    have w67 : dt55 24 3 = dt5 24 3 := hF57 24 (by decide) 3
    have w68 : dt55 27 3 = dt5 27 3 := hF57 27 (by decide) 3
    have w69 : dt55 29 3 = dt5 29 3 := hF57 29 (by decide) 3
    have w70 : dt55 31 3 = dt5 31 3 := hF57 31 (by decide) 3
    have w71 : dt55 33 3 = dt5 33 3 := hF57 33 (by decide) 3
    have w72 : dt55 0 2 = dt5 0 2 := hF57 0 (by decide) 2
    have w73 : dt55 35 1 = dt5 35 1 := hF57 35 (by decide) 1
    have w74 : dt55 35 2 = dt5 35 2 := hF57 35 (by decide) 2
    have w75 : dt55 35 3 = dt5 35 3 := hF57 35 (by decide) 3
    have w76 : dt55 80 0 = dt5 80 0 := hF57 80 (by decide) 0
    have w77 : dt55 80 1 = dt5 80 1 := hF57 80 (by decide) 1
    have w78 : dt55 80 2 = dt5 80 2 := hF57 80 (by decide) 2
    have w79 : dt55 80 3 = dt5 80 3 := hF57 80 (by decide) 3
    have w80 : dt55 80 4 = dt5 80 4 := hF57 80 (by decide) 4
    have w81 : dt55 80 5 = dt5 80 5 := hF57 80 (by decide) 5
    have w82 : dt55 81 0 = dt5 81 0 := hF57 81 (by decide) 0
    have w83 : dt55 81 1 = dt5 81 1 := hF57 81 (by decide) 1
    have w84 : dt55 81 2 = dt5 81 2 := hF57 81 (by decide) 2
    have w85 : dt55 81 3 = dt5 81 3 := hF57 81 (by decide) 3
    have w86 : dt55 81 4 = dt5 81 4 := hF57 81 (by decide) 4
    have w87 : dt55 81 5 = dt5 81 5 := hF57 81 (by decide) 5
    have w88 : dt55 79 2 = dt5 79 2 := hF57 79 (by decide) 2
    have w89 : dt55 79 12 = dt5 79 12 := hF57 79 (by decide) 12
    have w90 : dt55 79 19 = dt5 79 19 := hF57 79 (by decide) 19
    have w91 : dt55 79 21 = dt5 79 21 := hF57 79 (by decide) 21
    rcases h54 with ⟨rfl, h54⟩ | ⟨v_h54, rfl, h54r, h54⟩
    · skip
      have M292 : MW (dt55 81) := MW_frk M242 hF57 (by decide)
      have C93 : ∀ j : Nat, dt55 2 j = dt 2 j := fun j => (hF57 2 (by decide) j).trans (C43 j)
      have C94 : ∀ j : Nat, dt55 3 j = dt 3 j := fun j => (hF57 3 (by decide) j).trans (C44 j)
      have C95 : ∀ j : Nat, dt55 19 j = dt 19 j := fun j => (hF57 19 (by decide) j).trans (C45 j)
      have C96 : ∀ j : Nat, dt55 20 j = dt 20 j := fun j => (hF57 20 (by decide) j).trans (C46 j)
      have C97 : ∀ j : Nat, dt55 36 j = dt 36 j := fun j => (hF57 36 (by decide) j).trans (C47 j)
      have C98 : ∀ j : Nat, dt55 80 j = dt 80 j := fun j => (hF57 80 (by decide) j).trans (C48 j)
      have C99 : ∀ j : Nat, dt55 81 j = dt 81 j := fun j => (hF57 81 (by decide) j).trans (C49 j)
      have C100 : ∀ j : Nat, dt55 85 j = dt 85 j := fun j => (hF57 85 (by decide) j).trans (C50 j)
      refine go_toq PM267 (k := 2) (pc' := 1435) (L' := [some (.inr (.inr (some 3000))), some (.inr (.inr (some 0))), some (.inr (.inr (some 79))), some (.inl i)]) (st' := []) (w' := (SH, dt55)) rfl ?_
      exact K dt55 hI56 hM59 M292 (by first | omega | (simp only [*]; done) | simp only [*]) (by omega) (by omega) (by omega) (by omega) (by omega) (by omega) (by omega) (by omega) (by omega) (by omega) (by omega) (by omega) (by omega) (by omega) (by omega) (by first | exact hI | exact TPL_k hd0 C97 C100 (by omega) | (exfalso; omega)) (by first | exact hI | exact SCL_k hd1 hM (fun j _ => C93 j) (fun j _ => C94 j) (fun j _ _ => C98 j) | (exfalso; omega)) (by first | exact hI | exact SCL_k hd2 hM2 (fun j _ => C95 j) (fun j _ => C96 j) (fun j _ _ => C99 j) | (exfalso; omega))
    · skip
      obtain ⟨h54_0, h54_1⟩ := h54
      have M2101 : MW (dt55 81) := MW_frk M242 hF57 (by decide)
      have C102 : ∀ j : Nat, dt55 2 j = dt 2 j := fun j => (hF57 2 (by decide) j).trans (C43 j)
      have C103 : ∀ j : Nat, dt55 3 j = dt 3 j := fun j => (hF57 3 (by decide) j).trans (C44 j)
      have C104 : ∀ j : Nat, dt55 19 j = dt 19 j := fun j => (hF57 19 (by decide) j).trans (C45 j)
      have C105 : ∀ j : Nat, dt55 20 j = dt 20 j := fun j => (hF57 20 (by decide) j).trans (C46 j)
      have C106 : ∀ j : Nat, dt55 36 j = dt 36 j := fun j => (hF57 36 (by decide) j).trans (C47 j)
      have C107 : ∀ j : Nat, dt55 80 j = dt 80 j := fun j => (hF57 80 (by decide) j).trans (C48 j)
      have C108 : ∀ j : Nat, dt55 81 j = dt 81 j := fun j => (hF57 81 (by decide) j).trans (C49 j)
      have C109 : ∀ j : Nat, dt55 85 j = dt 85 j := fun j => (hF57 85 (by decide) j).trans (C50 j)
      rw [show dt5 80 = dt 80 from funext C48] at h54_1
      refine go_toq PM267 (k := 2) (pc' := 1435) (L' := [some (.inr (.inr (some 3000))), some (.inr (.inr (some 0))), some (.inr (.inr (some 79))), some (.inl i)]) (st' := []) (w' := (SH, dt55)) rfl ?_
      exact K dt55 hI56 hM59 M2101 (by first | omega | (simp only [*]; done) | simp only [*]) (by omega) (by omega) (by omega) (by omega) (by omega) (by omega) (by omega) (by omega) (by omega) (by omega) (by omega) (by omega) (by omega) (by omega) (by omega) (by first | exact hI | exact TPL_k hd0 C106 C109 (by omega) | (exfalso; omega)) (by first | exact hI | exact SCL_k hd1 hM (fun j _ => C102 j) (fun j _ => C103 j) (fun j _ _ => C107 j) | (exfalso; omega)) (by first | exact hI | exact SCL_k hd2 hM2 (fun j _ => C104 j) (fun j _ => C105 j) (fun j _ _ => C108 j) | (exfalso; omega))
  · skip
    obtain ⟨h4_0, h4_1⟩ := h4
    have M2110 : MW (dt5 81) := MW_frk hM2 hF7 (by decide)
    have C111 : ∀ j : Nat, dt5 2 j = dt 2 j := fun j => (hF7 2 (by decide) j).trans ((fun _ => rfl) j)
    have C112 : ∀ j : Nat, dt5 3 j = dt 3 j := fun j => (hF7 3 (by decide) j).trans ((fun _ => rfl) j)
    have C113 : ∀ j : Nat, dt5 19 j = dt 19 j := fun j => (hF7 19 (by decide) j).trans ((fun _ => rfl) j)
    have C114 : ∀ j : Nat, dt5 20 j = dt 20 j := fun j => (hF7 20 (by decide) j).trans ((fun _ => rfl) j)
    have C115 : ∀ j : Nat, dt5 36 j = dt 36 j := fun j => (hF7 36 (by decide) j).trans ((fun _ => rfl) j)
    have C116 : ∀ j : Nat, dt5 80 j = dt 80 j := fun j => (hF7 80 (by decide) j).trans ((fun _ => rfl) j)
    have C117 : ∀ j : Nat, dt5 81 j = dt 81 j := fun j => (hF7 81 (by decide) j).trans ((fun _ => rfl) j)
    have C118 : ∀ j : Nat, dt5 85 j = dt 85 j := fun j => (hF7 85 (by decide) j).trans ((fun _ => rfl) j)
    refine go_toq PM267 (k := 6) (pc' := 476) (L' := [some (.inr (.inr (some 3000))), some (.inr (.inr (some 0))), some (.inr (.inr (some 79))), some (.inl i)]) (st' := [.inl (i + 1), .inr (.inr (some 3000)), .inr (.inr (some 79))]) (w' := (SH, dt5)) rfl ?_
    have r119 := i32_R (xs ((i + 1).toNat))
    refine go_smpq PM267 (L' := [some (.inr (.inr (some 3000))), some (.inr (.inr (some 0))), some (.inr (.inr (some 79))), some (.inl i)]) (st' := [.inl ((xs ((i + 1).toNat)).toInt), .inr (.inr (some 79))]) (w' := (SH, dt5)) rfl rfl (s_iald (n := L) (f := fun j => (xs j).toInt) (am_scr hLL) ⟨by omega, by omega⟩) ?_
    refine go_toq PM267 (k := 4) (pc' := 481) (L' := [some (.inr (.inr (some 3000))), some (.inr (.inr (some 0))), some (.inr (.inr (some 79))), some (.inl i)]) (st' := [.inl (i + 2), .inr (.inr (some 3000)), .inl ((xs ((i + 1).toNat)).toInt), .inr (.inr (some 79))]) (w' := (SH, dt5)) rfl ?_
    have r120 := i32_R (xs ((i + 2).toNat))
    refine go_smpq PM267 (L' := [some (.inr (.inr (some 3000))), some (.inr (.inr (some 0))), some (.inr (.inr (some 79))), some (.inl i)]) (st' := [.inl ((xs ((i + 2).toNat)).toInt), .inl ((xs ((i + 1).toNat)).toInt), .inr (.inr (some 79))]) (w' := (SH, dt5)) rfl rfl (s_iald (n := L) (f := fun j => (xs j).toInt) (am_scr hLL) ⟨by omega, by omega⟩) ?_
    refine go_toq PM267 (k := 4) (pc' := 486) (L' := [some (.inr (.inr (some 3000))), some (.inr (.inr (some 0))), some (.inr (.inr (some 79))), some (.inl i)]) (st' := [.inl (i + 3), .inr (.inr (some 3000)), .inl ((xs ((i + 2).toNat)).toInt), .inl ((xs ((i + 1).toNat)).toInt), .inr (.inr (some 79))]) (w' := (SH, dt5)) rfl ?_
    have r121 := i32_R (xs ((i + 3).toNat))
    refine go_smpq PM267 (L' := [some (.inr (.inr (some 3000))), some (.inr (.inr (some 0))), some (.inr (.inr (some 79))), some (.inl i)]) (st' := [.inl ((xs ((i + 3).toNat)).toInt), .inl ((xs ((i + 2).toNat)).toInt), .inl ((xs ((i + 1).toNat)).toInt), .inr (.inr (some 79))]) (w' := (SH, dt5)) rfl rfl (s_iald (n := L) (f := fun j => (xs j).toInt) (am_scr hLL) ⟨by omega, by omega⟩) ?_
    refine go_callq PM267 PM190 (Q' := _) rfl rfl rfl rfl (sp_X6_here_w L xs sio (d + 33) dt5 hI6 hM9  ((xs ((i + 1).toNat)).toInt) ⟨by omega, by omega⟩ ((xs ((i + 2).toNat)).toInt) ⟨by omega, by omega⟩ ((xs ((i + 3).toNat)).toInt) ⟨by omega, by omega⟩ ) ?_
    rintro _ _ ⟨dt123, rfl, hI124, hF125, h122⟩
    refine ⟨rfl, ?_⟩
    have hF126 : Fr [0, 1, 2, 3, 4, 5, 6, 7, 8, 9, 10, 11, 12, 13, 14, 15, 16, 17, 18, 19, 20, 21, 22, 23, 24, 25, 26, 27, 28, 29, 30, 31, 32, 33, 34, 35, 36, 37, 38, 39, 40, 41, 42, 43, 44, 45, 46, 47, 48, 49, 50, 51, 52, 53, 54, 55, 56, 57, 58, 59, 60, 61, 62, 63, 64, 65, 66, 67, 68, 69, 70, 71, 72, 73, 74, 75, 76, 77, 78, 79, 80, 81, 82, 83, 84, 85, 86, 87, 88, 89, 90, 91, 92, 93, 94, 95, 96, 97, 98, 99, 100, 101, 102, 103, 104] dt dt123 := Fr_tr hF8 hF125 (by decide)
    have hM127 : MW (dt123 80) := MW_fr hM9 hF125 (by decide)
    have w128 : dt123 1 0 = dt5 1 0 := hF125 1 (by decide) 0
    have w129 : dt123 7 3 = dt5 7 3 := hF125 7 (by decide) 3
    have w130 : dt123 10 3 = dt5 10 3 := hF125 10 (by decide) 3
    have w131 : dt123 12 3 = dt5 12 3 := hF125 12 (by decide) 3
    have w132 : dt123 14 3 = dt5 14 3 := hF125 14 (by decide) 3
    have w133 : dt123 16 3 = dt5 16 3 := hF125 16 (by decide) 3
    have w134 : dt123 18 0 = dt5 18 0 := hF125 18 (by decide) 0
    have w135 : dt123 24 3 = dt5 24 3 := hF125 24 (by decide) 3
    have w136 : dt123 27 3 = dt5 27 3 := hF125 27 (by decide) 3
    have w137 : dt123 29 3 = dt5 29 3 := hF125 29 (by decide) 3
    have w138 : dt123 31 3 = dt5 31 3 := hF125 31 (by decide) 3
    have w139 : dt123 33 3 = dt5 33 3 := hF125 33 (by decide) 3
    have w140 : dt123 0 2 = dt5 0 2 := hF125 0 (by decide) 2
    have w141 : dt123 35 1 = dt5 35 1 := hF125 35 (by decide) 1
    have w142 : dt123 35 2 = dt5 35 2 := hF125 35 (by decide) 2
    have w143 : dt123 35 3 = dt5 35 3 := hF125 35 (by decide) 3
    have w144 : dt123 80 0 = dt5 80 0 := hF125 80 (by decide) 0
    have w145 : dt123 80 1 = dt5 80 1 := hF125 80 (by decide) 1
    have w146 : dt123 80 2 = dt5 80 2 := hF125 80 (by decide) 2
    have w147 : dt123 80 3 = dt5 80 3 := hF125 80 (by decide) 3
    have w148 : dt123 80 4 = dt5 80 4 := hF125 80 (by decide) 4
    have w149 : dt123 80 5 = dt5 80 5 := hF125 80 (by decide) 5
    have w150 : dt123 81 0 = dt5 81 0 := hF125 81 (by decide) 0
    have w151 : dt123 81 1 = dt5 81 1 := hF125 81 (by decide) 1
    have w152 : dt123 81 2 = dt5 81 2 := hF125 81 (by decide) 2
    have w153 : dt123 81 3 = dt5 81 3 := hF125 81 (by decide) 3
    have w154 : dt123 81 4 = dt5 81 4 := hF125 81 (by decide) 4
    have w155 : dt123 81 5 = dt5 81 5 := hF125 81 (by decide) 5
    have w156 : dt123 79 2 = dt5 79 2 := hF125 79 (by decide) 2
    have w157 : dt123 79 12 = dt5 79 12 := hF125 79 (by decide) 12
    have w158 : dt123 79 19 = dt5 79 19 := hF125 79 (by decide) 19
    have w159 : dt123 79 21 = dt5 79 21 := hF125 79 (by decide) 21
    rcases h122 with ⟨rfl, h122⟩ | ⟨v_h122, rfl, h122r, h122⟩
    · skip
      have M2160 : MW (dt123 81) := MW_frk M2110 hF125 (by decide)
      have C161 : ∀ j : Nat, dt123 2 j = dt 2 j := fun j => (hF125 2 (by decide) j).trans (C111 j)
      have C162 : ∀ j : Nat, dt123 3 j = dt 3 j := fun j => (hF125 3 (by decide) j).trans (C112 j)
      have C163 : ∀ j : Nat, dt123 19 j = dt 19 j := fun j => (hF125 19 (by decide) j).trans (C113 j)
      have C164 : ∀ j : Nat, dt123 20 j = dt 20 j := fun j => (hF125 20 (by decide) j).trans (C114 j)
      have C165 : ∀ j : Nat, dt123 36 j = dt 36 j := fun j => (hF125 36 (by decide) j).trans (C115 j)
      have C166 : ∀ j : Nat, dt123 80 j = dt 80 j := fun j => (hF125 80 (by decide) j).trans (C116 j)
      have C167 : ∀ j : Nat, dt123 81 j = dt 81 j := fun j => (hF125 81 (by decide) j).trans (C117 j)
      have C168 : ∀ j : Nat, dt123 85 j = dt 85 j := fun j => (hF125 85 (by decide) j).trans (C118 j)
      refine go_toq PM267 (k := 2) (pc' := 1435) (L' := [some (.inr (.inr (some 3000))), some (.inr (.inr (some 0))), some (.inr (.inr (some 79))), some (.inl i)]) (st' := []) (w' := (SH, dt123)) rfl ?_
      exact K dt123 hI124 hM127 M2160 (by first | omega | (simp only [*]; done) | simp only [*]) (by omega) (by omega) (by omega) (by omega) (by omega) (by omega) (by omega) (by omega) (by omega) (by omega) (by omega) (by omega) (by omega) (by omega) (by omega) (by first | exact hI | exact TPL_k hd0 C165 C168 (by omega) | (exfalso; omega)) (by first | exact hI | exact SCL_k hd1 hM (fun j _ => C161 j) (fun j _ => C162 j) (fun j _ _ => C166 j) | (exfalso; omega)) (by first | exact hI | exact SCL_k hd2 hM2 (fun j _ => C163 j) (fun j _ => C164 j) (fun j _ _ => C167 j) | (exfalso; omega))
    · skip
      obtain ⟨h122_0, h122_1⟩ := h122
      have M2169 : MW (dt123 81) := MW_frk M2110 hF125 (by decide)
      have C170 : ∀ j : Nat, dt123 2 j = dt 2 j := fun j => (hF125 2 (by decide) j).trans (C111 j)
      have C171 : ∀ j : Nat, dt123 3 j = dt 3 j := fun j => (hF125 3 (by decide) j).trans (C112 j)
      have C172 : ∀ j : Nat, dt123 19 j = dt 19 j := fun j => (hF125 19 (by decide) j).trans (C113 j)
      have C173 : ∀ j : Nat, dt123 20 j = dt 20 j := fun j => (hF125 20 (by decide) j).trans (C114 j)
      have C174 : ∀ j : Nat, dt123 36 j = dt 36 j := fun j => (hF125 36 (by decide) j).trans (C115 j)
      have C175 : ∀ j : Nat, dt123 80 j = dt 80 j := fun j => (hF125 80 (by decide) j).trans (C116 j)
      have C176 : ∀ j : Nat, dt123 81 j = dt 81 j := fun j => (hF125 81 (by decide) j).trans (C117 j)
      have C177 : ∀ j : Nat, dt123 85 j = dt 85 j := fun j => (hF125 85 (by decide) j).trans (C118 j)
      rw [show dt5 80 = dt 80 from funext C116] at h122_1
      refine go_toq PM267 (k := 2) (pc' := 1435) (L' := [some (.inr (.inr (some 3000))), some (.inr (.inr (some 0))), some (.inr (.inr (some 79))), some (.inl i)]) (st' := []) (w' := (SH, dt123)) rfl ?_
      exact K dt123 hI124 hM127 M2169 (by first | omega | (simp only [*]; done) | simp only [*]) (by omega) (by omega) (by omega) (by omega) (by omega) (by omega) (by omega) (by omega) (by omega) (by omega) (by omega) (by omega) (by omega) (by omega) (by omega) (by first | exact hI | exact TPL_k hd0 C174 C177 (by omega) | (exfalso; omega)) (by first | exact hI | exact SCL_k hd1 hM (fun j _ => C170 j) (fun j _ => C171 j) (fun j _ _ => C175 j) | (exfalso; omega)) (by first | exact hI | exact SCL_k hd2 hM2 (fun j _ => C172 j) (fun j _ => C173 j) (fun j _ _ => C176 j) | (exfalso; omega))
set_option maxRecDepth 20000 in
set_option maxHeartbeats 8000000 in
theorem sp_case8 (L : Nat) (xs : Nat → Int32) (sio : Option Nat) (d : Nat) (Q : Option AV → am_W → Prop) (hLL : L ≤ 3072) (i : Int) (hi : 0 ≤ i ∧ i ≤ 3066) (hil : i ≤ (L : Int) - 6) (dt : Nat → Nat → Int) (hI : InvC dt) (hM : MW (dt 80)) (hM2 : MW (dt 81)) (hk0 : dt 1 0 = dt 80 0) (hk1 : dt 7 3 = dt 80 1) (hk2 : dt 10 3 = dt 80 2) (hk3 : dt 12 3 = dt 80 3) (hk4 : dt 14 3 = dt 80 4) (hk5 : dt 16 3 = dt 80 5) (hk6 : dt 18 0 = dt 81 0) (hk7 : dt 24 3 = dt 81 1) (hk8 : dt 27 3 = dt 81 2) (hk9 : dt 29 3 = dt 81 3) (hk10 : dt 31 3 = dt 81 4) (hk11 : dt 33 3 = dt 81 5) (hk12 : dt 0 2 = dt 79 2) (hk13 : dt 35 1 = dt 79 12) (hk14 : dt 35 2 = dt 79 19) (hk15 : dt 35 3 = dt 79 21) (hd0 : TPL (dt 36) (dt 85) (dt 35 1)) (hd1 : SCL (dt 2) (dt 3) (dt 80)) (hd2 : SCL (dt 19) (dt 20) (dt 81)) (K : ∀ (dt : Nat → Nat → Int) (hI : InvC dt) (hM : MW (dt 80)) (hM2 : MW (dt 81)) (hk0 : dt 1 0 = dt 80 0) (hk1 : dt 7 3 = dt 80 1) (hk2 : dt 10 3 = dt 80 2) (hk3 : dt 12 3 = dt 80 3) (hk4 : dt 14 3 = dt 80 4) (hk5 : dt 16 3 = dt 80 5) (hk6 : dt 18 0 = dt 81 0) (hk7 : dt 24 3 = dt 81 1) (hk8 : dt 27 3 = dt 81 2) (hk9 : dt 29 3 = dt 81 3) (hk10 : dt 31 3 = dt 81 4) (hk11 : dt 33 3 = dt 81 5) (hk12 : dt 0 2 = dt 79 2) (hk13 : dt 35 1 = dt 79 12) (hk14 : dt 35 2 = dt 79 19) (hk15 : dt 35 3 = dt 79 21) (hd0 : TPL (dt 36) (dt 85) (dt 35 1)) (hd1 : SCL (dt 2) (dt 3) (dt 80)) (hd2 : SCL (dt 19) (dt 20) (dt 81)), GO (am_XX L xs sio) (d + 39) 267 1435 [some (.inr (.inr (some 3000))), some (.inr (.inr (some 0))), some (.inr (.inr (some 79))), some (.inl i)] [] (SH, dt) Q) : GO (am_XX L xs sio) (d + 39) 267 494 [some (.inr (.inr (some 3000))), some (.inr (.inr (some 0))), some (.inr (.inr (some 79))), some (.inl i)] [] (SH, dt) Q := by
  have hF : Fr [0, 1, 2, 3, 4, 5, 6, 7, 8, 9, 10, 11, 12, 13, 14, 15, 16, 17, 18, 19, 20, 21, 22, 23, 24, 25, 26, 27, 28, 29, 30, 31, 32, 33, 34, 35, 36, 37, 38, 39, 40, 41, 42, 43, 44, 45, 46, 47, 48, 49, 50, 51, 52, 53, 54, 55, 56, 57, 58, 59, 60, 61, 62, 63, 64, 65, 66, 67, 68, 69, 70, 71, 72, 73, 74, 75, 76, 77, 78, 79, 80, 81, 82, 83, 84, 85, 86, 87, 88, 89, 90, 91, 92, 93, 94, 95, 96, 97, 98, 99, 100, 101, 102, 103, 104] dt dt := Fr_refl
  refine go_toq PM267 (k := 5) (pc' := 499) (L' := [some (.inr (.inr (some 3000))), some (.inr (.inr (some 0))), some (.inr (.inr (some 79))), some (.inl i)]) (st' := [.inl (i + 1), .inr (.inr (some 3000)), .inr (.inr (some 0))]) (w' := (SH, dt)) rfl ?_
  have r1 := i32_R (xs ((i + 1).toNat))
  refine go_smpq PM267 (L' := [some (.inr (.inr (some 3000))), some (.inr (.inr (some 0))), some (.inr (.inr (some 79))), some (.inl i)]) (st' := [.inl ((xs ((i + 1).toNat)).toInt), .inr (.inr (some 0))]) (w' := (SH, dt)) rfl rfl (s_iald (n := L) (f := fun j => (xs j).toInt) (am_scr hLL) ⟨by omega, by omega⟩) ?_
  refine go_toq PM267 (k := 4) (pc' := 504) (L' := [some (.inr (.inr (some 3000))), some (.inr (.inr (some 0))), some (.inr (.inr (some 79))), some (.inl i)]) (st' := [.inl (i + 2), .inr (.inr (some 3000)), .inl ((xs ((i + 1).toNat)).toInt), .inr (.inr (some 0))]) (w' := (SH, dt)) rfl ?_
  have r2 := i32_R (xs ((i + 2).toNat))
  refine go_smpq PM267 (L' := [some (.inr (.inr (some 3000))), some (.inr (.inr (some 0))), some (.inr (.inr (some 79))), some (.inl i)]) (st' := [.inl ((xs ((i + 2).toNat)).toInt), .inl ((xs ((i + 1).toNat)).toInt), .inr (.inr (some 0))]) (w' := (SH, dt)) rfl rfl (s_iald (n := L) (f := fun j => (xs j).toInt) (am_scr hLL) ⟨by omega, by omega⟩) ?_
  refine go_toq PM267 (k := 4) (pc' := 509) (L' := [some (.inr (.inr (some 3000))), some (.inr (.inr (some 0))), some (.inr (.inr (some 79))), some (.inl i)]) (st' := [.inl (i + 3), .inr (.inr (some 3000)), .inl ((xs ((i + 2).toNat)).toInt), .inl ((xs ((i + 1).toNat)).toInt), .inr (.inr (some 0))]) (w' := (SH, dt)) rfl ?_
  have r3 := i32_R (xs ((i + 3).toNat))
  refine go_smpq PM267 (L' := [some (.inr (.inr (some 3000))), some (.inr (.inr (some 0))), some (.inr (.inr (some 79))), some (.inl i)]) (st' := [.inl ((xs ((i + 3).toNat)).toInt), .inl ((xs ((i + 2).toNat)).toInt), .inl ((xs ((i + 1).toNat)).toInt), .inr (.inr (some 0))]) (w' := (SH, dt)) rfl rfl (s_iald (n := L) (f := fun j => (xs j).toInt) (am_scr hLL) ⟨by omega, by omega⟩) ?_
  refine go_toq PM267 (k := 4) (pc' := 514) (L' := [some (.inr (.inr (some 3000))), some (.inr (.inr (some 0))), some (.inr (.inr (some 79))), some (.inl i)]) (st' := [.inl (i + 4), .inr (.inr (some 3000)), .inl ((xs ((i + 3).toNat)).toInt), .inl ((xs ((i + 2).toNat)).toInt), .inl ((xs ((i + 1).toNat)).toInt), .inr (.inr (some 0))]) (w' := (SH, dt)) rfl ?_
  have r4 := i32_R (xs ((i + 4).toNat))
  refine go_smpq PM267 (L' := [some (.inr (.inr (some 3000))), some (.inr (.inr (some 0))), some (.inr (.inr (some 79))), some (.inl i)]) (st' := [.inl ((xs ((i + 4).toNat)).toInt), .inl ((xs ((i + 3).toNat)).toInt), .inl ((xs ((i + 2).toNat)).toInt), .inl ((xs ((i + 1).toNat)).toInt), .inr (.inr (some 0))]) (w' := (SH, dt)) rfl rfl (s_iald (n := L) (f := fun j => (xs j).toInt) (am_scr hLL) ⟨by omega, by omega⟩) ?_
  refine go_toq PM267 (k := 4) (pc' := 519) (L' := [some (.inr (.inr (some 3000))), some (.inr (.inr (some 0))), some (.inr (.inr (some 79))), some (.inl i)]) (st' := [.inl (i + 5), .inr (.inr (some 3000)), .inl ((xs ((i + 4).toNat)).toInt), .inl ((xs ((i + 3).toNat)).toInt), .inl ((xs ((i + 2).toNat)).toInt), .inl ((xs ((i + 1).toNat)).toInt), .inr (.inr (some 0))]) (w' := (SH, dt)) rfl ?_
  have r5 := i32_R (xs ((i + 5).toNat))
  refine go_smpq PM267 (L' := [some (.inr (.inr (some 3000))), some (.inr (.inr (some 0))), some (.inr (.inr (some 79))), some (.inl i)]) (st' := [.inl ((xs ((i + 5).toNat)).toInt), .inl ((xs ((i + 4).toNat)).toInt), .inl ((xs ((i + 3).toNat)).toInt), .inl ((xs ((i + 2).toNat)).toInt), .inl ((xs ((i + 1).toNat)).toInt), .inr (.inr (some 0))]) (w' := (SH, dt)) rfl rfl (s_iald (n := L) (f := fun j => (xs j).toInt) (am_scr hLL) ⟨by omega, by omega⟩) ?_
  refine go_callq PM267 PM75 (Q' := _) rfl rfl rfl rfl (sp_X5_question L xs sio (d + 33) dt hI  ((xs ((i + 1).toNat)).toInt) ⟨by omega, by omega⟩ ((xs ((i + 2).toNat)).toInt) ⟨by omega, by omega⟩ ((xs ((i + 3).toNat)).toInt) ⟨by omega, by omega⟩ ((xs ((i + 4).toNat)).toInt) ⟨by omega, by omega⟩ ((xs ((i + 5).toNat)).toInt) ⟨by omega, by omega⟩ ) ?_
  rintro _ _ ⟨dt7, rfl, hI8, hF9, h6⟩
  refine ⟨rfl, ?_⟩
  have hF10 : Fr [0, 1, 2, 3, 4, 5, 6, 7, 8, 9, 10, 11, 12, 13, 14, 15, 16, 17, 18, 19, 20, 21, 22, 23, 24, 25, 26, 27, 28, 29, 30, 31, 32, 33, 34, 35, 36, 37, 38, 39, 40, 41, 42, 43, 44, 45, 46, 47, 48, 49, 50, 51, 52, 53, 54, 55, 56, 57, 58, 59, 60, 61, 62, 63, 64, 65, 66, 67, 68, 69, 70, 71, 72, 73, 74, 75, 76, 77, 78, 79, 80, 81, 82, 83, 84, 85, 86, 87, 88, 89, 90, 91, 92, 93, 94, 95, 96, 97, 98, 99, 100, 101, 102, 103, 104] dt dt7 := Fr_tr hF hF9 (by decide)
  have hM11 : MW (dt7 80) := MW_fr hM hF9 (by decide)
  have w12 : dt7 1 0 = dt 1 0 := hF9 1 (by decide) 0
  have w13 : dt7 10 3 = dt 10 3 := hF9 10 (by decide) 3
  have w14 : dt7 12 3 = dt 12 3 := hF9 12 (by decide) 3
  have w15 : dt7 14 3 = dt 14 3 := hF9 14 (by decide) 3
  have w16 : dt7 16 3 = dt 16 3 := hF9 16 (by decide) 3
  have w17 : dt7 18 0 = dt 18 0 := hF9 18 (by decide) 0
  have w18 : dt7 24 3 = dt 24 3 := hF9 24 (by decide) 3
  have w19 : dt7 27 3 = dt 27 3 := hF9 27 (by decide) 3
  have w20 : dt7 29 3 = dt 29 3 := hF9 29 (by decide) 3
  have w21 : dt7 31 3 = dt 31 3 := hF9 31 (by decide) 3
  have w22 : dt7 33 3 = dt 33 3 := hF9 33 (by decide) 3
  have w23 : dt7 0 2 = dt 0 2 := hF9 0 (by decide) 2
  have w24 : dt7 35 1 = dt 35 1 := hF9 35 (by decide) 1
  have w25 : dt7 35 2 = dt 35 2 := hF9 35 (by decide) 2
  have w26 : dt7 35 3 = dt 35 3 := hF9 35 (by decide) 3
  have w27 : dt7 80 0 = dt 80 0 := hF9 80 (by decide) 0
  have w28 : dt7 80 1 = dt 80 1 := hF9 80 (by decide) 1
  have w29 : dt7 80 2 = dt 80 2 := hF9 80 (by decide) 2
  have w30 : dt7 80 3 = dt 80 3 := hF9 80 (by decide) 3
  have w31 : dt7 80 4 = dt 80 4 := hF9 80 (by decide) 4
  have w32 : dt7 80 5 = dt 80 5 := hF9 80 (by decide) 5
  have w33 : dt7 81 0 = dt 81 0 := hF9 81 (by decide) 0
  have w34 : dt7 81 1 = dt 81 1 := hF9 81 (by decide) 1
  have w35 : dt7 81 2 = dt 81 2 := hF9 81 (by decide) 2
  have w36 : dt7 81 3 = dt 81 3 := hF9 81 (by decide) 3
  have w37 : dt7 81 4 = dt 81 4 := hF9 81 (by decide) 4
  have w38 : dt7 81 5 = dt 81 5 := hF9 81 (by decide) 5
  have w39 : dt7 79 2 = dt 79 2 := hF9 79 (by decide) 2
  have w40 : dt7 79 12 = dt 79 12 := hF9 79 (by decide) 12
  have w41 : dt7 79 19 = dt 79 19 := hF9 79 (by decide) 19
  have w42 : dt7 79 21 = dt 79 21 := hF9 79 (by decide) 21
  rcases h6 with ⟨rfl, h6⟩ | ⟨v_h6, rfl, h6r, h6⟩
  · skip
    obtain ⟨h6_0, h6_1⟩ := h6
    have M243 : MW (dt7 81) := MW_frk hM2 hF9 (by decide)
    have C44 : ∀ j : Nat, dt7 2 j = dt 2 j := fun j => (hF9 2 (by decide) j).trans ((fun _ => rfl) j)
    have C45 : ∀ j : Nat, dt7 3 j = dt 3 j := fun j => (hF9 3 (by decide) j).trans ((fun _ => rfl) j)
    have C46 : ∀ j : Nat, dt7 19 j = dt 19 j := fun j => (hF9 19 (by decide) j).trans ((fun _ => rfl) j)
    have C47 : ∀ j : Nat, dt7 20 j = dt 20 j := fun j => (hF9 20 (by decide) j).trans ((fun _ => rfl) j)
    have C48 : ∀ j : Nat, dt7 36 j = dt 36 j := fun j => (hF9 36 (by decide) j).trans ((fun _ => rfl) j)
    have C49 : ∀ j : Nat, dt7 80 j = dt 80 j := fun j => (hF9 80 (by decide) j).trans ((fun _ => rfl) j)
    have C50 : ∀ j : Nat, dt7 81 j = dt 81 j := fun j => (hF9 81 (by decide) j).trans ((fun _ => rfl) j)
    have C51 : ∀ j : Nat, dt7 85 j = dt 85 j := fun j => (hF9 85 (by decide) j).trans ((fun _ => rfl) j)
    refine go_toq PM267 (k := 6) (pc' := 529) (L' := [some (.inr (.inr (some 3000))), some (.inr (.inr (some 0))), some (.inr (.inr (some 79))), some (.inl i)]) (st' := [.inl (i + 1), .inr (.inr (some 3000)), .inr (.inr (some 79))]) (w' := (SH, dt7)) rfl ?_
    have r52 := i32_R (xs ((i + 1).toNat))
    refine go_smpq PM267 (L' := [some (.inr (.inr (some 3000))), some (.inr (.inr (some 0))), some (.inr (.inr (some 79))), some (.inl i)]) (st' := [.inl ((xs ((i + 1).toNat)).toInt), .inr (.inr (some 79))]) (w' := (SH, dt7)) rfl rfl (s_iald (n := L) (f := fun j => (xs j).toInt) (am_scr hLL) ⟨by omega, by omega⟩) ?_
    refine go_toq PM267 (k := 4) (pc' := 534) (L' := [some (.inr (.inr (some 3000))), some (.inr (.inr (some 0))), some (.inr (.inr (some 79))), some (.inl i)]) (st' := [.inl (i + 2), .inr (.inr (some 3000)), .inl ((xs ((i + 1).toNat)).toInt), .inr (.inr (some 79))]) (w' := (SH, dt7)) rfl ?_
    have r53 := i32_R (xs ((i + 2).toNat))
    refine go_smpq PM267 (L' := [some (.inr (.inr (some 3000))), some (.inr (.inr (some 0))), some (.inr (.inr (some 79))), some (.inl i)]) (st' := [.inl ((xs ((i + 2).toNat)).toInt), .inl ((xs ((i + 1).toNat)).toInt), .inr (.inr (some 79))]) (w' := (SH, dt7)) rfl rfl (s_iald (n := L) (f := fun j => (xs j).toInt) (am_scr hLL) ⟨by omega, by omega⟩) ?_
    refine go_toq PM267 (k := 4) (pc' := 539) (L' := [some (.inr (.inr (some 3000))), some (.inr (.inr (some 0))), some (.inr (.inr (some 79))), some (.inl i)]) (st' := [.inl (i + 3), .inr (.inr (some 3000)), .inl ((xs ((i + 2).toNat)).toInt), .inl ((xs ((i + 1).toNat)).toInt), .inr (.inr (some 79))]) (w' := (SH, dt7)) rfl ?_
    have r54 := i32_R (xs ((i + 3).toNat))
    refine go_smpq PM267 (L' := [some (.inr (.inr (some 3000))), some (.inr (.inr (some 0))), some (.inr (.inr (some 79))), some (.inl i)]) (st' := [.inl ((xs ((i + 3).toNat)).toInt), .inl ((xs ((i + 2).toNat)).toInt), .inl ((xs ((i + 1).toNat)).toInt), .inr (.inr (some 79))]) (w' := (SH, dt7)) rfl rfl (s_iald (n := L) (f := fun j => (xs j).toInt) (am_scr hLL) ⟨by omega, by omega⟩) ?_
    refine go_toq PM267 (k := 4) (pc' := 544) (L' := [some (.inr (.inr (some 3000))), some (.inr (.inr (some 0))), some (.inr (.inr (some 79))), some (.inl i)]) (st' := [.inl (i + 4), .inr (.inr (some 3000)), .inl ((xs ((i + 3).toNat)).toInt), .inl ((xs ((i + 2).toNat)).toInt), .inl ((xs ((i + 1).toNat)).toInt), .inr (.inr (some 79))]) (w' := (SH, dt7)) rfl ?_
    have r55 := i32_R (xs ((i + 4).toNat))
    refine go_smpq PM267 (L' := [some (.inr (.inr (some 3000))), some (.inr (.inr (some 0))), some (.inr (.inr (some 79))), some (.inl i)]) (st' := [.inl ((xs ((i + 4).toNat)).toInt), .inl ((xs ((i + 3).toNat)).toInt), .inl ((xs ((i + 2).toNat)).toInt), .inl ((xs ((i + 1).toNat)).toInt), .inr (.inr (some 79))]) (w' := (SH, dt7)) rfl rfl (s_iald (n := L) (f := fun j => (xs j).toInt) (am_scr hLL) ⟨by omega, by omega⟩) ?_
    refine go_toq PM267 (k := 4) (pc' := 549) (L' := [some (.inr (.inr (some 3000))), some (.inr (.inr (some 0))), some (.inr (.inr (some 79))), some (.inl i)]) (st' := [.inl (i + 5), .inr (.inr (some 3000)), .inl ((xs ((i + 4).toNat)).toInt), .inl ((xs ((i + 3).toNat)).toInt), .inl ((xs ((i + 2).toNat)).toInt), .inl ((xs ((i + 1).toNat)).toInt), .inr (.inr (some 79))]) (w' := (SH, dt7)) rfl ?_
    have r56 := i32_R (xs ((i + 5).toNat))
    refine go_smpq PM267 (L' := [some (.inr (.inr (some 3000))), some (.inr (.inr (some 0))), some (.inr (.inr (some 79))), some (.inl i)]) (st' := [.inl ((xs ((i + 5).toNat)).toInt), .inl ((xs ((i + 4).toNat)).toInt), .inl ((xs ((i + 3).toNat)).toInt), .inl ((xs ((i + 2).toNat)).toInt), .inl ((xs ((i + 1).toNat)).toInt), .inr (.inr (some 79))]) (w' := (SH, dt7)) rfl rfl (s_iald (n := L) (f := fun j => (xs j).toInt) (am_scr hLL) ⟨by omega, by omega⟩) ?_
    refine go_callq PM267 PM193 (Q' := _) rfl rfl rfl rfl (sp_X6_question_v L xs sio (d + 36) dt7 hI8 hM11  ((xs ((i + 1).toNat)).toInt) ⟨by omega, by omega⟩ ((xs ((i + 2).toNat)).toInt) ⟨by omega, by omega⟩ ((xs ((i + 3).toNat)).toInt) ⟨by omega, by omega⟩ ((xs ((i + 4).toNat)).toInt) ⟨by omega, by omega⟩ ((xs ((i + 5).toNat)).toInt) ⟨by omega, by omega⟩ ) ?_
    rintro _ _ ⟨dt58, rfl, hI59, hF60, h57⟩
    refine ⟨rfl, ?_⟩
    have hF61 : Fr [0, 1, 2, 3, 4, 5, 6, 7, 8, 9, 10, 11, 12, 13, 14, 15, 16, 17, 18, 19, 20, 21, 22, 23, 24, 25, 26, 27, 28, 29, 30, 31, 32, 33, 34, 35, 36, 37, 38, 39, 40, 41, 42, 43, 44, 45, 46, 47, 48, 49, 50, 51, 52, 53, 54, 55, 56, 57, 58, 59, 60, 61, 62, 63, 64, 65, 66, 67, 68, 69, 70, 71, 72, 73, 74, 75, 76, 77, 78, 79, 80, 81, 82, 83, 84, 85, 86, 87, 88, 89, 90, 91, 92, 93, 94, 95, 96, 97, 98, 99, 100, 101, 102, 103, 104] dt dt58 := Fr_tr hF10 hF60 (by decide)
    have w62 : dt58 1 0 = dt7 1 0 := hF60 1 (by decide) 0
    have w63 : dt58 7 3 = dt7 7 3 := hF60 7 (by decide) 3
    have w64 : dt58 10 3 = dt7 10 3 := hF60 10 (by decide) 3
    have w65 : dt58 12 3 = dt7 12 3 := hF60 12 (by decide) 3
    have w66 : dt58 14 3 = dt7 14 3 := hF60 14 (by decide) 3
    have w67 : dt58 16 3 = dt7 16 3 := hF60 16 (by decide) 3
    have w68 : dt58 18 0 = dt7 18 0 := hF60 18 (by decide) 0
    have w69 : dt58 24 3 = dt7 24 3 := hF60 24 (by decide) 3
    have w70 : dt58 27 3 = dt7 27 3 := hF60 27 (by decide) 3
    have w71 : dt58 29 3 = dt7 29 3 := hF60 29 (by decide) 3
    have w72 : dt58 31 3 = dt7 31 3 := hF60 31 (by decide) 3
    have w73 : dt58 33 3 = dt7 33 3 := hF60 33 (by decide) 3
    have w74 : dt58 0 2 = dt7 0 2 := hF60 0 (by decide) 2
    have w75 : dt58 35 1 = dt7 35 1 := hF60 35 (by decide) 1
    have w76 : dt58 35 2 = dt7 35 2 := hF60 35 (by decide) 2
    have w77 : dt58 35 3 = dt7 35 3 := hF60 35 (by decide) 3
    have w78 : dt58 81 0 = dt7 81 0 := hF60 81 (by decide) 0
    have w79 : dt58 81 1 = dt7 81 1 := hF60 81 (by decide) 1
    have w80 : dt58 81 2 = dt7 81 2 := hF60 81 (by decide) 2
    have w81 : dt58 81 3 = dt7 81 3 := hF60 81 (by decide) 3
    have w82 : dt58 81 4 = dt7 81 4 := hF60 81 (by decide) 4
    have w83 : dt58 81 5 = dt7 81 5 := hF60 81 (by decide) 5
    have w84 : dt58 79 2 = dt7 79 2 := hF60 79 (by decide) 2
    have w85 : dt58 79 12 = dt7 79 12 := hF60 79 (by decide) 12
    have w86 : dt58 79 19 = dt7 79 19 := hF60 79 (by decide) 19
    have w87 : dt58 79 21 = dt7 79 21 := hF60 79 (by decide) 21
    rcases h57 with ⟨rfl, h57⟩ | ⟨v_h57, rfl, h57r, h57⟩
    · skip
      have hM88 : MW (dt58 80) := h57.2.1
      obtain ⟨h57_0, h57_1, h57_2, h57_3, h57_4, h57_5, h57_6, h57_7, h57_8⟩ := h57
      have M289 : MW (dt58 81) := MW_frk M243 hF60 (by decide)
      have C90 : ∀ j : Nat, dt58 2 j = dt 2 j := fun j => (hF60 2 (by decide) j).trans (C44 j)
      have C91 : ∀ j : Nat, dt58 3 j = dt 3 j := fun j => (hF60 3 (by decide) j).trans (C45 j)
      have C92 : ∀ j : Nat, dt58 19 j = dt 19 j := fun j => (hF60 19 (by decide) j).trans (C46 j)
      have C93 : ∀ j : Nat, dt58 20 j = dt 20 j := fun j => (hF60 20 (by decide) j).trans (C47 j)
      have C94 : ∀ j : Nat, dt58 36 j = dt 36 j := fun j => (hF60 36 (by decide) j).trans (C48 j)
      have C95 : ∀ j : Nat, dt58 80 j = dt 80 j := fun j => (h57_8 j).trans (C49 j)
      have C96 : ∀ j : Nat, dt58 81 j = dt 81 j := fun j => (hF60 81 (by decide) j).trans (C50 j)
      have C97 : ∀ j : Nat, dt58 85 j = dt 85 j := fun j => (hF60 85 (by decide) j).trans (C51 j)
      refine go_toq PM267 (k := 2) (pc' := 1435) (L' := [some (.inr (.inr (some 3000))), some (.inr (.inr (some 0))), some (.inr (.inr (some 79))), some (.inl i)]) (st' := []) (w' := (SH, dt58)) rfl ?_
      exact K dt58 hI59 hM88 M289 (by first | omega | (simp only [*]; done) | simp only [*]) (by omega) (by omega) (by omega) (by omega) (by omega) (by omega) (by omega) (by omega) (by omega) (by omega) (by omega) (by omega) (by omega) (by omega) (by omega) (by first | exact hI | exact TPL_k hd0 C94 C97 (by omega) | (exfalso; omega)) (by first | exact hI | exact SCL_k hd1 hM (fun j _ => C90 j) (fun j _ => C91 j) (fun j _ _ => C95 j) | (exfalso; omega)) (by first | exact hI | exact SCL_k hd2 hM2 (fun j _ => C92 j) (fun j _ => C93 j) (fun j _ _ => C96 j) | (exfalso; omega))
    · skip
      have hM98 : MW (dt58 80) := h57.2.2.1
      obtain ⟨h57_0, h57_1, h57_2, h57_3, h57_4, h57_5, h57_6, h57_7, h57_8, h57_9, h57_10, h57_11, h57_12, h57_13, h57_14⟩ := h57
      have M299 : MW (dt58 81) := MW_frk M243 hF60 (by decide)
      have C100 : ∀ j : Nat, dt58 2 j = dt 2 j := fun j => (hF60 2 (by decide) j).trans (C44 j)
      have C101 : ∀ j : Nat, dt58 3 j = dt 3 j := fun j => (hF60 3 (by decide) j).trans (C45 j)
      have C102 : ∀ j : Nat, dt58 19 j = dt 19 j := fun j => (hF60 19 (by decide) j).trans (C46 j)
      have C103 : ∀ j : Nat, dt58 20 j = dt 20 j := fun j => (hF60 20 (by decide) j).trans (C47 j)
      have C104 : ∀ j : Nat, dt58 36 j = dt 36 j := fun j => (hF60 36 (by decide) j).trans (C48 j)
      have C105 : ∀ j : Nat, dt58 81 j = dt 81 j := fun j => (hF60 81 (by decide) j).trans (C50 j)
      have C106 : ∀ j : Nat, dt58 85 j = dt 85 j := fun j => (hF60 85 (by decide) j).trans (C51 j)
      have F107 : ∀ j : Nat, 6 ≤ j → j < 974 → dt58 80 j = dt 80 j := fun j h1_ h2_ => (h57_9 j (by omega) (by omega)).trans (C49 j)
      refine go_toq PM267 (k := 2) (pc' := 1435) (L' := [some (.inr (.inr (some 3000))), some (.inr (.inr (some 0))), some (.inr (.inr (some 79))), some (.inl i)]) (st' := []) (w' := (SH, dt58)) rfl ?_
      exact K dt58 hI59 hM98 M299 (by first | omega | (simp only [*]; done) | simp only [*]) (by omega) (by omega) (by omega) (by omega) (by omega) (by omega) (by omega) (by omega) (by omega) (by omega) (by omega) (by omega) (by omega) (by omega) (by omega) (by first | exact hI | exact TPL_k hd0 C104 C106 (by omega) | (exfalso; omega)) (by first | exact hI | exact SCL_k hd1 hM (fun j _ => C100 j) (fun j _ => C101 j) F107 | (exfalso; omega)) (by first | exact hI | exact SCL_k hd2 hM2 (fun j _ => C102 j) (fun j _ => C103 j) (fun j _ _ => C105 j) | (exfalso; omega))
  · skip
    obtain ⟨h6_0, h6_1, h6_2⟩ := h6
    have M2108 : MW (dt7 81) := MW_frk hM2 hF9 (by decide)
    have C109 : ∀ j : Nat, dt7 2 j = dt 2 j := fun j => (hF9 2 (by decide) j).trans ((fun _ => rfl) j)
    have C110 : ∀ j : Nat, dt7 3 j = dt 3 j := fun j => (hF9 3 (by decide) j).trans ((fun _ => rfl) j)
    have C111 : ∀ j : Nat, dt7 19 j = dt 19 j := fun j => (hF9 19 (by decide) j).trans ((fun _ => rfl) j)
    have C112 : ∀ j : Nat, dt7 20 j = dt 20 j := fun j => (hF9 20 (by decide) j).trans ((fun _ => rfl) j)
    have C113 : ∀ j : Nat, dt7 36 j = dt 36 j := fun j => (hF9 36 (by decide) j).trans ((fun _ => rfl) j)
    have C114 : ∀ j : Nat, dt7 80 j = dt 80 j := fun j => (hF9 80 (by decide) j).trans ((fun _ => rfl) j)
    have C115 : ∀ j : Nat, dt7 81 j = dt 81 j := fun j => (hF9 81 (by decide) j).trans ((fun _ => rfl) j)
    have C116 : ∀ j : Nat, dt7 85 j = dt 85 j := fun j => (hF9 85 (by decide) j).trans ((fun _ => rfl) j)
    refine go_toq PM267 (k := 6) (pc' := 529) (L' := [some (.inr (.inr (some 3000))), some (.inr (.inr (some 0))), some (.inr (.inr (some 79))), some (.inl i)]) (st' := [.inl (i + 1), .inr (.inr (some 3000)), .inr (.inr (some 79))]) (w' := (SH, dt7)) rfl ?_
    have r117 := i32_R (xs ((i + 1).toNat))
    refine go_smpq PM267 (L' := [some (.inr (.inr (some 3000))), some (.inr (.inr (some 0))), some (.inr (.inr (some 79))), some (.inl i)]) (st' := [.inl ((xs ((i + 1).toNat)).toInt), .inr (.inr (some 79))]) (w' := (SH, dt7)) rfl rfl (s_iald (n := L) (f := fun j => (xs j).toInt) (am_scr hLL) ⟨by omega, by omega⟩) ?_
    refine go_toq PM267 (k := 4) (pc' := 534) (L' := [some (.inr (.inr (some 3000))), some (.inr (.inr (some 0))), some (.inr (.inr (some 79))), some (.inl i)]) (st' := [.inl (i + 2), .inr (.inr (some 3000)), .inl ((xs ((i + 1).toNat)).toInt), .inr (.inr (some 79))]) (w' := (SH, dt7)) rfl ?_
    have r118 := i32_R (xs ((i + 2).toNat))
    refine go_smpq PM267 (L' := [some (.inr (.inr (some 3000))), some (.inr (.inr (some 0))), some (.inr (.inr (some 79))), some (.inl i)]) (st' := [.inl ((xs ((i + 2).toNat)).toInt), .inl ((xs ((i + 1).toNat)).toInt), .inr (.inr (some 79))]) (w' := (SH, dt7)) rfl rfl (s_iald (n := L) (f := fun j => (xs j).toInt) (am_scr hLL) ⟨by omega, by omega⟩) ?_
    refine go_toq PM267 (k := 4) (pc' := 539) (L' := [some (.inr (.inr (some 3000))), some (.inr (.inr (some 0))), some (.inr (.inr (some 79))), some (.inl i)]) (st' := [.inl (i + 3), .inr (.inr (some 3000)), .inl ((xs ((i + 2).toNat)).toInt), .inl ((xs ((i + 1).toNat)).toInt), .inr (.inr (some 79))]) (w' := (SH, dt7)) rfl ?_
    have r119 := i32_R (xs ((i + 3).toNat))
    refine go_smpq PM267 (L' := [some (.inr (.inr (some 3000))), some (.inr (.inr (some 0))), some (.inr (.inr (some 79))), some (.inl i)]) (st' := [.inl ((xs ((i + 3).toNat)).toInt), .inl ((xs ((i + 2).toNat)).toInt), .inl ((xs ((i + 1).toNat)).toInt), .inr (.inr (some 79))]) (w' := (SH, dt7)) rfl rfl (s_iald (n := L) (f := fun j => (xs j).toInt) (am_scr hLL) ⟨by omega, by omega⟩) ?_
    refine go_toq PM267 (k := 4) (pc' := 544) (L' := [some (.inr (.inr (some 3000))), some (.inr (.inr (some 0))), some (.inr (.inr (some 79))), some (.inl i)]) (st' := [.inl (i + 4), .inr (.inr (some 3000)), .inl ((xs ((i + 3).toNat)).toInt), .inl ((xs ((i + 2).toNat)).toInt), .inl ((xs ((i + 1).toNat)).toInt), .inr (.inr (some 79))]) (w' := (SH, dt7)) rfl ?_
    have r120 := i32_R (xs ((i + 4).toNat))
    refine go_smpq PM267 (L' := [some (.inr (.inr (some 3000))), some (.inr (.inr (some 0))), some (.inr (.inr (some 79))), some (.inl i)]) (st' := [.inl ((xs ((i + 4).toNat)).toInt), .inl ((xs ((i + 3).toNat)).toInt), .inl ((xs ((i + 2).toNat)).toInt), .inl ((xs ((i + 1).toNat)).toInt), .inr (.inr (some 79))]) (w' := (SH, dt7)) rfl rfl (s_iald (n := L) (f := fun j => (xs j).toInt) (am_scr hLL) ⟨by omega, by omega⟩) ?_
    refine go_toq PM267 (k := 4) (pc' := 549) (L' := [some (.inr (.inr (some 3000))), some (.inr (.inr (some 0))), some (.inr (.inr (some 79))), some (.inl i)]) (st' := [.inl (i + 5), .inr (.inr (some 3000)), .inl ((xs ((i + 4).toNat)).toInt), .inl ((xs ((i + 3).toNat)).toInt), .inl ((xs ((i + 2).toNat)).toInt), .inl ((xs ((i + 1).toNat)).toInt), .inr (.inr (some 79))]) (w' := (SH, dt7)) rfl ?_
    have r121 := i32_R (xs ((i + 5).toNat))
    refine go_smpq PM267 (L' := [some (.inr (.inr (some 3000))), some (.inr (.inr (some 0))), some (.inr (.inr (some 79))), some (.inl i)]) (st' := [.inl ((xs ((i + 5).toNat)).toInt), .inl ((xs ((i + 4).toNat)).toInt), .inl ((xs ((i + 3).toNat)).toInt), .inl ((xs ((i + 2).toNat)).toInt), .inl ((xs ((i + 1).toNat)).toInt), .inr (.inr (some 79))]) (w' := (SH, dt7)) rfl rfl (s_iald (n := L) (f := fun j => (xs j).toInt) (am_scr hLL) ⟨by omega, by omega⟩) ?_
    refine go_callq PM267 PM193 (Q' := _) rfl rfl rfl rfl (sp_X6_question_v L xs sio (d + 36) dt7 hI8 hM11  ((xs ((i + 1).toNat)).toInt) ⟨by omega, by omega⟩ ((xs ((i + 2).toNat)).toInt) ⟨by omega, by omega⟩ ((xs ((i + 3).toNat)).toInt) ⟨by omega, by omega⟩ ((xs ((i + 4).toNat)).toInt) ⟨by omega, by omega⟩ ((xs ((i + 5).toNat)).toInt) ⟨by omega, by omega⟩ ) ?_
    rintro _ _ ⟨dt123, rfl, hI124, hF125, h122⟩
    refine ⟨rfl, ?_⟩
    have hF126 : Fr [0, 1, 2, 3, 4, 5, 6, 7, 8, 9, 10, 11, 12, 13, 14, 15, 16, 17, 18, 19, 20, 21, 22, 23, 24, 25, 26, 27, 28, 29, 30, 31, 32, 33, 34, 35, 36, 37, 38, 39, 40, 41, 42, 43, 44, 45, 46, 47, 48, 49, 50, 51, 52, 53, 54, 55, 56, 57, 58, 59, 60, 61, 62, 63, 64, 65, 66, 67, 68, 69, 70, 71, 72, 73, 74, 75, 76, 77, 78, 79, 80, 81, 82, 83, 84, 85, 86, 87, 88, 89, 90, 91, 92, 93, 94, 95, 96, 97, 98, 99, 100, 101, 102, 103, 104] dt dt123 := Fr_tr hF10 hF125 (by decide)
    have w127 : dt123 1 0 = dt7 1 0 := hF125 1 (by decide) 0
    have w128 : dt123 7 3 = dt7 7 3 := hF125 7 (by decide) 3
    have w129 : dt123 10 3 = dt7 10 3 := hF125 10 (by decide) 3
    have w130 : dt123 12 3 = dt7 12 3 := hF125 12 (by decide) 3
    have w131 : dt123 14 3 = dt7 14 3 := hF125 14 (by decide) 3
    have w132 : dt123 16 3 = dt7 16 3 := hF125 16 (by decide) 3
    have w133 : dt123 18 0 = dt7 18 0 := hF125 18 (by decide) 0
    have w134 : dt123 24 3 = dt7 24 3 := hF125 24 (by decide) 3
    have w135 : dt123 27 3 = dt7 27 3 := hF125 27 (by decide) 3
    have w136 : dt123 29 3 = dt7 29 3 := hF125 29 (by decide) 3
    have w137 : dt123 31 3 = dt7 31 3 := hF125 31 (by decide) 3
    have w138 : dt123 33 3 = dt7 33 3 := hF125 33 (by decide) 3
    have w139 : dt123 0 2 = dt7 0 2 := hF125 0 (by decide) 2
    have w140 : dt123 35 1 = dt7 35 1 := hF125 35 (by decide) 1
    have w141 : dt123 35 2 = dt7 35 2 := hF125 35 (by decide) 2
    have w142 : dt123 35 3 = dt7 35 3 := hF125 35 (by decide) 3
    have w143 : dt123 81 0 = dt7 81 0 := hF125 81 (by decide) 0
    have w144 : dt123 81 1 = dt7 81 1 := hF125 81 (by decide) 1
    have w145 : dt123 81 2 = dt7 81 2 := hF125 81 (by decide) 2
    have w146 : dt123 81 3 = dt7 81 3 := hF125 81 (by decide) 3
    have w147 : dt123 81 4 = dt7 81 4 := hF125 81 (by decide) 4
    have w148 : dt123 81 5 = dt7 81 5 := hF125 81 (by decide) 5
    have w149 : dt123 79 2 = dt7 79 2 := hF125 79 (by decide) 2
    have w150 : dt123 79 12 = dt7 79 12 := hF125 79 (by decide) 12
    have w151 : dt123 79 19 = dt7 79 19 := hF125 79 (by decide) 19
    have w152 : dt123 79 21 = dt7 79 21 := hF125 79 (by decide) 21
    rcases h122 with ⟨rfl, h122⟩ | ⟨v_h122, rfl, h122r, h122⟩
    · skip
      have hM153 : MW (dt123 80) := h122.2.1
      obtain ⟨h122_0, h122_1, h122_2, h122_3, h122_4, h122_5, h122_6, h122_7, h122_8⟩ := h122
      have M2154 : MW (dt123 81) := MW_frk M2108 hF125 (by decide)
      have C155 : ∀ j : Nat, dt123 2 j = dt 2 j := fun j => (hF125 2 (by decide) j).trans (C109 j)
      have C156 : ∀ j : Nat, dt123 3 j = dt 3 j := fun j => (hF125 3 (by decide) j).trans (C110 j)
      have C157 : ∀ j : Nat, dt123 19 j = dt 19 j := fun j => (hF125 19 (by decide) j).trans (C111 j)
      have C158 : ∀ j : Nat, dt123 20 j = dt 20 j := fun j => (hF125 20 (by decide) j).trans (C112 j)
      have C159 : ∀ j : Nat, dt123 36 j = dt 36 j := fun j => (hF125 36 (by decide) j).trans (C113 j)
      have C160 : ∀ j : Nat, dt123 80 j = dt 80 j := fun j => (h122_8 j).trans (C114 j)
      have C161 : ∀ j : Nat, dt123 81 j = dt 81 j := fun j => (hF125 81 (by decide) j).trans (C115 j)
      have C162 : ∀ j : Nat, dt123 85 j = dt 85 j := fun j => (hF125 85 (by decide) j).trans (C116 j)
      refine go_toq PM267 (k := 2) (pc' := 1435) (L' := [some (.inr (.inr (some 3000))), some (.inr (.inr (some 0))), some (.inr (.inr (some 79))), some (.inl i)]) (st' := []) (w' := (SH, dt123)) rfl ?_
      exact K dt123 hI124 hM153 M2154 (by first | omega | (simp only [*]; done) | simp only [*]) (by omega) (by omega) (by omega) (by omega) (by omega) (by omega) (by omega) (by omega) (by omega) (by omega) (by omega) (by omega) (by omega) (by omega) (by omega) (by first | exact hI | exact TPL_k hd0 C159 C162 (by omega) | (exfalso; omega)) (by first | exact hI | exact SCL_k hd1 hM (fun j _ => C155 j) (fun j _ => C156 j) (fun j _ _ => C160 j) | (exfalso; omega)) (by first | exact hI | exact SCL_k hd2 hM2 (fun j _ => C157 j) (fun j _ => C158 j) (fun j _ _ => C161 j) | (exfalso; omega))
    · skip
      have hM163 : MW (dt123 80) := h122.2.2.1
      obtain ⟨h122_0, h122_1, h122_2, h122_3, h122_4, h122_5, h122_6, h122_7, h122_8, h122_9, h122_10, h122_11, h122_12, h122_13, h122_14⟩ := h122
      have M2164 : MW (dt123 81) := MW_frk M2108 hF125 (by decide)
      have C165 : ∀ j : Nat, dt123 2 j = dt 2 j := fun j => (hF125 2 (by decide) j).trans (C109 j)
      have C166 : ∀ j : Nat, dt123 3 j = dt 3 j := fun j => (hF125 3 (by decide) j).trans (C110 j)
      have C167 : ∀ j : Nat, dt123 19 j = dt 19 j := fun j => (hF125 19 (by decide) j).trans (C111 j)
      have C168 : ∀ j : Nat, dt123 20 j = dt 20 j := fun j => (hF125 20 (by decide) j).trans (C112 j)
      have C169 : ∀ j : Nat, dt123 36 j = dt 36 j := fun j => (hF125 36 (by decide) j).trans (C113 j)
      have C170 : ∀ j : Nat, dt123 81 j = dt 81 j := fun j => (hF125 81 (by decide) j).trans (C115 j)
      have C171 : ∀ j : Nat, dt123 85 j = dt 85 j := fun j => (hF125 85 (by decide) j).trans (C116 j)
      have F172 : ∀ j : Nat, 6 ≤ j → j < 974 → dt123 80 j = dt 80 j := fun j h1_ h2_ => (h122_9 j (by omega) (by omega)).trans (C114 j)
      refine go_toq PM267 (k := 2) (pc' := 1435) (L' := [some (.inr (.inr (some 3000))), some (.inr (.inr (some 0))), some (.inr (.inr (some 79))), some (.inl i)]) (st' := []) (w' := (SH, dt123)) rfl ?_
      exact K dt123 hI124 hM163 M2164 (by first | omega | (simp only [*]; done) | simp only [*]) (by omega) (by omega) (by omega) (by omega) (by omega) (by omega) (by omega) (by omega) (by omega) (by omega) (by omega) (by omega) (by omega) (by omega) (by omega) (by first | exact hI | exact TPL_k hd0 C169 C171 (by omega) | (exfalso; omega)) (by first | exact hI | exact SCL_k hd1 hM (fun j _ => C165 j) (fun j _ => C166 j) F172 | (exfalso; omega)) (by first | exact hI | exact SCL_k hd2 hM2 (fun j _ => C167 j) (fun j _ => C168 j) (fun j _ _ => C170 j) | (exfalso; omega))
set_option maxRecDepth 20000 in
set_option maxHeartbeats 8000000 in
theorem sp_case9 (L : Nat) (xs : Nat → Int32) (sio : Option Nat) (d : Nat) (Q : Option AV → am_W → Prop) (hLL : L ≤ 3072) (i : Int) (hi : 0 ≤ i ∧ i ≤ 3066) (hil : i ≤ (L : Int) - 6) (dt : Nat → Nat → Int) (hI : InvC dt) (hM : MW (dt 80)) (hM2 : MW (dt 81)) (hk0 : dt 1 0 = dt 80 0) (hk1 : dt 7 3 = dt 80 1) (hk2 : dt 10 3 = dt 80 2) (hk3 : dt 12 3 = dt 80 3) (hk4 : dt 14 3 = dt 80 4) (hk5 : dt 16 3 = dt 80 5) (hk6 : dt 18 0 = dt 81 0) (hk7 : dt 24 3 = dt 81 1) (hk8 : dt 27 3 = dt 81 2) (hk9 : dt 29 3 = dt 81 3) (hk10 : dt 31 3 = dt 81 4) (hk11 : dt 33 3 = dt 81 5) (hk12 : dt 0 2 = dt 79 2) (hk13 : dt 35 1 = dt 79 12) (hk14 : dt 35 2 = dt 79 19) (hk15 : dt 35 3 = dt 79 21) (hd0 : TPL (dt 36) (dt 85) (dt 35 1)) (hd1 : SCL (dt 2) (dt 3) (dt 80)) (hd2 : SCL (dt 19) (dt 20) (dt 81)) (K : ∀ (dt : Nat → Nat → Int) (hI : InvC dt) (hM : MW (dt 80)) (hM2 : MW (dt 81)) (hk0 : dt 1 0 = dt 80 0) (hk1 : dt 7 3 = dt 80 1) (hk2 : dt 10 3 = dt 80 2) (hk3 : dt 12 3 = dt 80 3) (hk4 : dt 14 3 = dt 80 4) (hk5 : dt 16 3 = dt 80 5) (hk6 : dt 18 0 = dt 81 0) (hk7 : dt 24 3 = dt 81 1) (hk8 : dt 27 3 = dt 81 2) (hk9 : dt 29 3 = dt 81 3) (hk10 : dt 31 3 = dt 81 4) (hk11 : dt 33 3 = dt 81 5) (hk12 : dt 0 2 = dt 79 2) (hk13 : dt 35 1 = dt 79 12) (hk14 : dt 35 2 = dt 79 19) (hk15 : dt 35 3 = dt 79 21) (hd0 : TPL (dt 36) (dt 85) (dt 35 1)) (hd1 : SCL (dt 2) (dt 3) (dt 80)) (hd2 : SCL (dt 19) (dt 20) (dt 81)), GO (am_XX L xs sio) (d + 39) 267 1435 [some (.inr (.inr (some 3000))), some (.inr (.inr (some 0))), some (.inr (.inr (some 79))), some (.inl i)] [] (SH, dt) Q) : GO (am_XX L xs sio) (d + 39) 267 557 [some (.inr (.inr (some 3000))), some (.inr (.inr (some 0))), some (.inr (.inr (some 79))), some (.inl i)] [] (SH, dt) Q := by
  have hF : Fr [0, 1, 2, 3, 4, 5, 6, 7, 8, 9, 10, 11, 12, 13, 14, 15, 16, 17, 18, 19, 20, 21, 22, 23, 24, 25, 26, 27, 28, 29, 30, 31, 32, 33, 34, 35, 36, 37, 38, 39, 40, 41, 42, 43, 44, 45, 46, 47, 48, 49, 50, 51, 52, 53, 54, 55, 56, 57, 58, 59, 60, 61, 62, 63, 64, 65, 66, 67, 68, 69, 70, 71, 72, 73, 74, 75, 76, 77, 78, 79, 80, 81, 82, 83, 84, 85, 86, 87, 88, 89, 90, 91, 92, 93, 94, 95, 96, 97, 98, 99, 100, 101, 102, 103, 104] dt dt := Fr_refl
  refine go_toq PM267 (k := 5) (pc' := 562) (L' := [some (.inr (.inr (some 3000))), some (.inr (.inr (some 0))), some (.inr (.inr (some 79))), some (.inl i)]) (st' := [.inl (i + 1), .inr (.inr (some 3000)), .inr (.inr (some 0))]) (w' := (SH, dt)) rfl ?_
  have r1 := i32_R (xs ((i + 1).toNat))
  refine go_smpq PM267 (L' := [some (.inr (.inr (some 3000))), some (.inr (.inr (some 0))), some (.inr (.inr (some 79))), some (.inl i)]) (st' := [.inl ((xs ((i + 1).toNat)).toInt), .inr (.inr (some 0))]) (w' := (SH, dt)) rfl rfl (s_iald (n := L) (f := fun j => (xs j).toInt) (am_scr hLL) ⟨by omega, by omega⟩) ?_
  refine go_toq PM267 (k := 4) (pc' := 567) (L' := [some (.inr (.inr (some 3000))), some (.inr (.inr (some 0))), some (.inr (.inr (some 79))), some (.inl i)]) (st' := [.inl (i + 2), .inr (.inr (some 3000)), .inl ((xs ((i + 1).toNat)).toInt), .inr (.inr (some 0))]) (w' := (SH, dt)) rfl ?_
  have r2 := i32_R (xs ((i + 2).toNat))
  refine go_smpq PM267 (L' := [some (.inr (.inr (some 3000))), some (.inr (.inr (some 0))), some (.inr (.inr (some 79))), some (.inl i)]) (st' := [.inl ((xs ((i + 2).toNat)).toInt), .inl ((xs ((i + 1).toNat)).toInt), .inr (.inr (some 0))]) (w' := (SH, dt)) rfl rfl (s_iald (n := L) (f := fun j => (xs j).toInt) (am_scr hLL) ⟨by omega, by omega⟩) ?_
  refine go_callq PM267 PM76 (Q' := _) rfl rfl rfl rfl (sp_X5_says L xs sio (d + 36) dt hI  ((xs ((i + 1).toNat)).toInt) ⟨by omega, by omega⟩ ((xs ((i + 2).toNat)).toInt) ⟨by omega, by omega⟩ ) ?_
  rintro _ _ ⟨rfl, h3⟩
  refine ⟨rfl, ?_⟩
  rcases h3 with ⟨v_h3, rfl, h3r, h3⟩
  refine go_toq PM267 (k := 6) (pc' := 577) (L' := [some (.inr (.inr (some 3000))), some (.inr (.inr (some 0))), some (.inr (.inr (some 79))), some (.inl i)]) (st' := [.inl (i + 1), .inr (.inr (some 3000)), .inr (.inr (some 79))]) (w' := (SH, dt)) rfl ?_
  refine go_smpq PM267 (L' := [some (.inr (.inr (some 3000))), some (.inr (.inr (some 0))), some (.inr (.inr (some 79))), some (.inl i)]) (st' := [.inl ((xs ((i + 1).toNat)).toInt), .inr (.inr (some 79))]) (w' := (SH, dt)) rfl rfl (s_iald (n := L) (f := fun j => (xs j).toInt) (am_scr hLL) ⟨by omega, by omega⟩) ?_
  refine go_toq PM267 (k := 4) (pc' := 582) (L' := [some (.inr (.inr (some 3000))), some (.inr (.inr (some 0))), some (.inr (.inr (some 79))), some (.inl i)]) (st' := [.inl (i + 2), .inr (.inr (some 3000)), .inl ((xs ((i + 1).toNat)).toInt), .inr (.inr (some 79))]) (w' := (SH, dt)) rfl ?_
  refine go_smpq PM267 (L' := [some (.inr (.inr (some 3000))), some (.inr (.inr (some 0))), some (.inr (.inr (some 79))), some (.inl i)]) (st' := [.inl ((xs ((i + 2).toNat)).toInt), .inl ((xs ((i + 1).toNat)).toInt), .inr (.inr (some 79))]) (w' := (SH, dt)) rfl rfl (s_iald (n := L) (f := fun j => (xs j).toInt) (am_scr hLL) ⟨by omega, by omega⟩) ?_
  refine go_callq PM267 PM197 (Q' := _) rfl rfl rfl rfl (sp_X6_says L xs sio (d + 32) dt hI hM  ((xs ((i + 1).toNat)).toInt) ⟨by omega, by omega⟩ ((xs ((i + 2).toNat)).toInt) ⟨by omega, by omega⟩ ) ?_
  rintro _ _ ⟨dt5, rfl, hI6, hF7, h4⟩
  refine ⟨rfl, ?_⟩
  have hF8 : Fr [0, 1, 2, 3, 4, 5, 6, 7, 8, 9, 10, 11, 12, 13, 14, 15, 16, 17, 18, 19, 20, 21, 22, 23, 24, 25, 26, 27, 28, 29, 30, 31, 32, 33, 34, 35, 36, 37, 38, 39, 40, 41, 42, 43, 44, 45, 46, 47, 48, 49, 50, 51, 52, 53, 54, 55, 56, 57, 58, 59, 60, 61, 62, 63, 64, 65, 66, 67, 68, 69, 70, 71, 72, 73, 74, 75, 76, 77, 78, 79, 80, 81, 82, 83, 84, 85, 86, 87, 88, 89, 90, 91, 92, 93, 94, 95, 96, 97, 98, 99, 100, 101, 102, 103, 104] dt dt5 := Fr_tr hF hF7 (by decide)
  have hM9 : MW (dt5 80) := MW_fr hM hF7 (by decide)
  have w10 : dt5 1 0 = dt 1 0 := hF7 1 (by decide) 0
  have w11 : dt5 7 3 = dt 7 3 := hF7 7 (by decide) 3
  have w12 : dt5 10 3 = dt 10 3 := hF7 10 (by decide) 3
  have w13 : dt5 12 3 = dt 12 3 := hF7 12 (by decide) 3
  have w14 : dt5 14 3 = dt 14 3 := hF7 14 (by decide) 3
  have w15 : dt5 16 3 = dt 16 3 := hF7 16 (by decide) 3
  have w16 : dt5 18 0 = dt 18 0 := hF7 18 (by decide) 0
  have w17 : dt5 24 3 = dt 24 3 := hF7 24 (by decide) 3
  have w18 : dt5 27 3 = dt 27 3 := hF7 27 (by decide) 3
  have w19 : dt5 29 3 = dt 29 3 := hF7 29 (by decide) 3
  have w20 : dt5 31 3 = dt 31 3 := hF7 31 (by decide) 3
  have w21 : dt5 33 3 = dt 33 3 := hF7 33 (by decide) 3
  have w22 : dt5 0 2 = dt 0 2 := hF7 0 (by decide) 2
  have w23 : dt5 35 1 = dt 35 1 := hF7 35 (by decide) 1
  have w24 : dt5 35 2 = dt 35 2 := hF7 35 (by decide) 2
  have w25 : dt5 35 3 = dt 35 3 := hF7 35 (by decide) 3
  have w26 : dt5 80 0 = dt 80 0 := hF7 80 (by decide) 0
  have w27 : dt5 80 1 = dt 80 1 := hF7 80 (by decide) 1
  have w28 : dt5 80 2 = dt 80 2 := hF7 80 (by decide) 2
  have w29 : dt5 80 3 = dt 80 3 := hF7 80 (by decide) 3
  have w30 : dt5 80 4 = dt 80 4 := hF7 80 (by decide) 4
  have w31 : dt5 80 5 = dt 80 5 := hF7 80 (by decide) 5
  have w32 : dt5 81 0 = dt 81 0 := hF7 81 (by decide) 0
  have w33 : dt5 81 1 = dt 81 1 := hF7 81 (by decide) 1
  have w34 : dt5 81 2 = dt 81 2 := hF7 81 (by decide) 2
  have w35 : dt5 81 3 = dt 81 3 := hF7 81 (by decide) 3
  have w36 : dt5 81 4 = dt 81 4 := hF7 81 (by decide) 4
  have w37 : dt5 81 5 = dt 81 5 := hF7 81 (by decide) 5
  have w38 : dt5 79 2 = dt 79 2 := hF7 79 (by decide) 2
  have w39 : dt5 79 12 = dt 79 12 := hF7 79 (by decide) 12
  have w40 : dt5 79 19 = dt 79 19 := hF7 79 (by decide) 19
  have w41 : dt5 79 21 = dt 79 21 := hF7 79 (by decide) 21
  rcases h4 with ⟨v_h4, rfl, h4r, h4⟩
  have M242 : MW (dt5 81) := MW_frk hM2 hF7 (by decide)
  have C43 : ∀ j : Nat, dt5 2 j = dt 2 j := fun j => (hF7 2 (by decide) j).trans ((fun _ => rfl) j)
  have C44 : ∀ j : Nat, dt5 3 j = dt 3 j := fun j => (hF7 3 (by decide) j).trans ((fun _ => rfl) j)
  have C45 : ∀ j : Nat, dt5 19 j = dt 19 j := fun j => (hF7 19 (by decide) j).trans ((fun _ => rfl) j)
  have C46 : ∀ j : Nat, dt5 20 j = dt 20 j := fun j => (hF7 20 (by decide) j).trans ((fun _ => rfl) j)
  have C47 : ∀ j : Nat, dt5 36 j = dt 36 j := fun j => (hF7 36 (by decide) j).trans ((fun _ => rfl) j)
  have C48 : ∀ j : Nat, dt5 80 j = dt 80 j := fun j => (hF7 80 (by decide) j).trans ((fun _ => rfl) j)
  have C49 : ∀ j : Nat, dt5 81 j = dt 81 j := fun j => (hF7 81 (by decide) j).trans ((fun _ => rfl) j)
  have C50 : ∀ j : Nat, dt5 85 j = dt 85 j := fun j => (hF7 85 (by decide) j).trans ((fun _ => rfl) j)
  refine go_toq PM267 (k := 2) (pc' := 1435) (L' := [some (.inr (.inr (some 3000))), some (.inr (.inr (some 0))), some (.inr (.inr (some 79))), some (.inl i)]) (st' := []) (w' := (SH, dt5)) rfl ?_
  exact K dt5 hI6 hM9 M242 (by first | omega | (simp only [*]; done) | simp only [*]) (by omega) (by omega) (by omega) (by omega) (by omega) (by omega) (by omega) (by omega) (by omega) (by omega) (by omega) (by omega) (by omega) (by omega) (by omega) (by first | exact hI | exact TPL_k hd0 C47 C50 (by omega) | (exfalso; omega)) (by first | exact hI | exact SCL_k hd1 hM (fun j _ => C43 j) (fun j _ => C44 j) (fun j _ _ => C48 j) | (exfalso; omega)) (by first | exact hI | exact SCL_k hd2 hM2 (fun j _ => C45 j) (fun j _ => C46 j) (fun j _ _ => C49 j) | (exfalso; omega))
set_option maxRecDepth 20000 in
set_option maxHeartbeats 8000000 in
theorem sp_case10 (L : Nat) (xs : Nat → Int32) (sio : Option Nat) (d : Nat) (Q : Option AV → am_W → Prop) (hLL : L ≤ 3072) (i : Int) (hi : 0 ≤ i ∧ i ≤ 3066) (hil : i ≤ (L : Int) - 6) (dt : Nat → Nat → Int) (hI : InvC dt) (hM : MW (dt 80)) (hM2 : MW (dt 81)) (hk0 : dt 1 0 = dt 80 0) (hk1 : dt 7 3 = dt 80 1) (hk2 : dt 10 3 = dt 80 2) (hk3 : dt 12 3 = dt 80 3) (hk4 : dt 14 3 = dt 80 4) (hk5 : dt 16 3 = dt 80 5) (hk6 : dt 18 0 = dt 81 0) (hk7 : dt 24 3 = dt 81 1) (hk8 : dt 27 3 = dt 81 2) (hk9 : dt 29 3 = dt 81 3) (hk10 : dt 31 3 = dt 81 4) (hk11 : dt 33 3 = dt 81 5) (hk12 : dt 0 2 = dt 79 2) (hk13 : dt 35 1 = dt 79 12) (hk14 : dt 35 2 = dt 79 19) (hk15 : dt 35 3 = dt 79 21) (hd0 : TPL (dt 36) (dt 85) (dt 35 1)) (hd1 : SCL (dt 2) (dt 3) (dt 80)) (hd2 : SCL (dt 19) (dt 20) (dt 81)) (K : ∀ (dt : Nat → Nat → Int) (hI : InvC dt) (hM : MW (dt 80)) (hM2 : MW (dt 81)) (hk0 : dt 1 0 = dt 80 0) (hk1 : dt 7 3 = dt 80 1) (hk2 : dt 10 3 = dt 80 2) (hk3 : dt 12 3 = dt 80 3) (hk4 : dt 14 3 = dt 80 4) (hk5 : dt 16 3 = dt 80 5) (hk6 : dt 18 0 = dt 81 0) (hk7 : dt 24 3 = dt 81 1) (hk8 : dt 27 3 = dt 81 2) (hk9 : dt 29 3 = dt 81 3) (hk10 : dt 31 3 = dt 81 4) (hk11 : dt 33 3 = dt 81 5) (hk12 : dt 0 2 = dt 79 2) (hk13 : dt 35 1 = dt 79 12) (hk14 : dt 35 2 = dt 79 19) (hk15 : dt 35 3 = dt 79 21) (hd0 : TPL (dt 36) (dt 85) (dt 35 1)) (hd1 : SCL (dt 2) (dt 3) (dt 80)) (hd2 : SCL (dt 19) (dt 20) (dt 81)), GO (am_XX L xs sio) (d + 39) 267 1435 [some (.inr (.inr (some 3000))), some (.inr (.inr (some 0))), some (.inr (.inr (some 79))), some (.inl i)] [] (SH, dt) Q) : GO (am_XX L xs sio) (d + 39) 267 590 [some (.inr (.inr (some 3000))), some (.inr (.inr (some 0))), some (.inr (.inr (some 79))), some (.inl i)] [] (SH, dt) Q := by
  have hF : Fr [0, 1, 2, 3, 4, 5, 6, 7, 8, 9, 10, 11, 12, 13, 14, 15, 16, 17, 18, 19, 20, 21, 22, 23, 24, 25, 26, 27, 28, 29, 30, 31, 32, 33, 34, 35, 36, 37, 38, 39, 40, 41, 42, 43, 44, 45, 46, 47, 48, 49, 50, 51, 52, 53, 54, 55, 56, 57, 58, 59, 60, 61, 62, 63, 64, 65, 66, 67, 68, 69, 70, 71, 72, 73, 74, 75, 76, 77, 78, 79, 80, 81, 82, 83, 84, 85, 86, 87, 88, 89, 90, 91, 92, 93, 94, 95, 96, 97, 98, 99, 100, 101, 102, 103, 104] dt dt := Fr_refl
  refine go_toq PM267 (k := 5) (pc' := 595) (L' := [some (.inr (.inr (some 3000))), some (.inr (.inr (some 0))), some (.inr (.inr (some 79))), some (.inl i)]) (st' := [.inl (i + 1), .inr (.inr (some 3000)), .inr (.inr (some 0))]) (w' := (SH, dt)) rfl ?_
  have r1 := i32_R (xs ((i + 1).toNat))
  refine go_smpq PM267 (L' := [some (.inr (.inr (some 3000))), some (.inr (.inr (some 0))), some (.inr (.inr (some 79))), some (.inl i)]) (st' := [.inl ((xs ((i + 1).toNat)).toInt), .inr (.inr (some 0))]) (w' := (SH, dt)) rfl rfl (s_iald (n := L) (f := fun j => (xs j).toInt) (am_scr hLL) ⟨by omega, by omega⟩) ?_
  refine go_toq PM267 (k := 4) (pc' := 600) (L' := [some (.inr (.inr (some 3000))), some (.inr (.inr (some 0))), some (.inr (.inr (some 79))), some (.inl i)]) (st' := [.inl (i + 2), .inr (.inr (some 3000)), .inl ((xs ((i + 1).toNat)).toInt), .inr (.inr (some 0))]) (w' := (SH, dt)) rfl ?_
  have r2 := i32_R (xs ((i + 2).toNat))
  refine go_smpq PM267 (L' := [some (.inr (.inr (some 3000))), some (.inr (.inr (some 0))), some (.inr (.inr (some 79))), some (.inl i)]) (st' := [.inl ((xs ((i + 2).toNat)).toInt), .inl ((xs ((i + 1).toNat)).toInt), .inr (.inr (some 0))]) (w' := (SH, dt)) rfl rfl (s_iald (n := L) (f := fun j => (xs j).toInt) (am_scr hLL) ⟨by omega, by omega⟩) ?_
  refine go_toq PM267 (k := 4) (pc' := 605) (L' := [some (.inr (.inr (some 3000))), some (.inr (.inr (some 0))), some (.inr (.inr (some 79))), some (.inl i)]) (st' := [.inl (i + 3), .inr (.inr (some 3000)), .inl ((xs ((i + 2).toNat)).toInt), .inl ((xs ((i + 1).toNat)).toInt), .inr (.inr (some 0))]) (w' := (SH, dt)) rfl ?_
  have r3 := i32_R (xs ((i + 3).toNat))
  refine go_smpq PM267 (L' := [some (.inr (.inr (some 3000))), some (.inr (.inr (some 0))), some (.inr (.inr (some 79))), some (.inl i)]) (st' := [.inl ((xs ((i + 3).toNat)).toInt), .inl ((xs ((i + 2).toNat)).toInt), .inl ((xs ((i + 1).toNat)).toInt), .inr (.inr (some 0))]) (w' := (SH, dt)) rfl rfl (s_iald (n := L) (f := fun j => (xs j).toInt) (am_scr hLL) ⟨by omega, by omega⟩) ?_
  refine go_toq PM267 (k := 4) (pc' := 610) (L' := [some (.inr (.inr (some 3000))), some (.inr (.inr (some 0))), some (.inr (.inr (some 79))), some (.inl i)]) (st' := [.inl (i + 4), .inr (.inr (some 3000)), .inl ((xs ((i + 3).toNat)).toInt), .inl ((xs ((i + 2).toNat)).toInt), .inl ((xs ((i + 1).toNat)).toInt), .inr (.inr (some 0))]) (w' := (SH, dt)) rfl ?_
  have r4 := i32_R (xs ((i + 4).toNat))
  refine go_smpq PM267 (L' := [some (.inr (.inr (some 3000))), some (.inr (.inr (some 0))), some (.inr (.inr (some 79))), some (.inl i)]) (st' := [.inl ((xs ((i + 4).toNat)).toInt), .inl ((xs ((i + 3).toNat)).toInt), .inl ((xs ((i + 2).toNat)).toInt), .inl ((xs ((i + 1).toNat)).toInt), .inr (.inr (some 0))]) (w' := (SH, dt)) rfl rfl (s_iald (n := L) (f := fun j => (xs j).toInt) (am_scr hLL) ⟨by omega, by omega⟩) ?_
  refine go_callq PM267 PM77 (Q' := _) rfl rfl rfl rfl (sp_X5_child L xs sio (d + 36) dt hI  ((xs ((i + 1).toNat)).toInt) ⟨by omega, by omega⟩ ((xs ((i + 2).toNat)).toInt) ⟨by omega, by omega⟩ ((xs ((i + 3).toNat)).toInt) ⟨by omega, by omega⟩ ((xs ((i + 4).toNat)).toInt) ⟨by omega, by omega⟩ ) ?_
  rintro _ _ ⟨dt6, rfl, hI7, hF8, h5⟩
  refine ⟨rfl, ?_⟩
  have hF9 : Fr [0, 1, 2, 3, 4, 5, 6, 7, 8, 9, 10, 11, 12, 13, 14, 15, 16, 17, 18, 19, 20, 21, 22, 23, 24, 25, 26, 27, 28, 29, 30, 31, 32, 33, 34, 35, 36, 37, 38, 39, 40, 41, 42, 43, 44, 45, 46, 47, 48, 49, 50, 51, 52, 53, 54, 55, 56, 57, 58, 59, 60, 61, 62, 63, 64, 65, 66, 67, 68, 69, 70, 71, 72, 73, 74, 75, 76, 77, 78, 79, 80, 81, 82, 83, 84, 85, 86, 87, 88, 89, 90, 91, 92, 93, 94, 95, 96, 97, 98, 99, 100, 101, 102, 103, 104] dt dt6 := Fr_tr hF hF8 (by decide)
  have hM10 : MW (dt6 80) := MW_fr hM hF8 (by decide)
  have w11 : dt6 1 0 = dt 1 0 := hF8 1 (by decide) 0
  have w12 : dt6 7 3 = dt 7 3 := hF8 7 (by decide) 3
  have w13 : dt6 12 3 = dt 12 3 := hF8 12 (by decide) 3
  have w14 : dt6 14 3 = dt 14 3 := hF8 14 (by decide) 3
  have w15 : dt6 16 3 = dt 16 3 := hF8 16 (by decide) 3
  have w16 : dt6 18 0 = dt 18 0 := hF8 18 (by decide) 0
  have w17 : dt6 24 3 = dt 24 3 := hF8 24 (by decide) 3
  have w18 : dt6 27 3 = dt 27 3 := hF8 27 (by decide) 3
  have w19 : dt6 29 3 = dt 29 3 := hF8 29 (by decide) 3
  have w20 : dt6 31 3 = dt 31 3 := hF8 31 (by decide) 3
  have w21 : dt6 33 3 = dt 33 3 := hF8 33 (by decide) 3
  have w22 : dt6 0 2 = dt 0 2 := hF8 0 (by decide) 2
  have w23 : dt6 35 1 = dt 35 1 := hF8 35 (by decide) 1
  have w24 : dt6 35 2 = dt 35 2 := hF8 35 (by decide) 2
  have w25 : dt6 35 3 = dt 35 3 := hF8 35 (by decide) 3
  have w26 : dt6 80 0 = dt 80 0 := hF8 80 (by decide) 0
  have w27 : dt6 80 1 = dt 80 1 := hF8 80 (by decide) 1
  have w28 : dt6 80 2 = dt 80 2 := hF8 80 (by decide) 2
  have w29 : dt6 80 3 = dt 80 3 := hF8 80 (by decide) 3
  have w30 : dt6 80 4 = dt 80 4 := hF8 80 (by decide) 4
  have w31 : dt6 80 5 = dt 80 5 := hF8 80 (by decide) 5
  have w32 : dt6 81 0 = dt 81 0 := hF8 81 (by decide) 0
  have w33 : dt6 81 1 = dt 81 1 := hF8 81 (by decide) 1
  have w34 : dt6 81 2 = dt 81 2 := hF8 81 (by decide) 2
  have w35 : dt6 81 3 = dt 81 3 := hF8 81 (by decide) 3
  have w36 : dt6 81 4 = dt 81 4 := hF8 81 (by decide) 4
  have w37 : dt6 81 5 = dt 81 5 := hF8 81 (by decide) 5
  have w38 : dt6 79 2 = dt 79 2 := hF8 79 (by decide) 2
  have w39 : dt6 79 12 = dt 79 12 := hF8 79 (by decide) 12
  have w40 : dt6 79 19 = dt 79 19 := hF8 79 (by decide) 19
  have w41 : dt6 79 21 = dt 79 21 := hF8 79 (by decide) 21
  rcases h5 with ⟨rfl, h5⟩ | ⟨v_h5, rfl, h5r, h5⟩
  · skip
    obtain ⟨h5_0, h5_1⟩ := h5
    have M242 : MW (dt6 81) := MW_frk hM2 hF8 (by decide)
    have C43 : ∀ j : Nat, dt6 2 j = dt 2 j := fun j => (hF8 2 (by decide) j).trans ((fun _ => rfl) j)
    have C44 : ∀ j : Nat, dt6 3 j = dt 3 j := fun j => (hF8 3 (by decide) j).trans ((fun _ => rfl) j)
    have C45 : ∀ j : Nat, dt6 19 j = dt 19 j := fun j => (hF8 19 (by decide) j).trans ((fun _ => rfl) j)
    have C46 : ∀ j : Nat, dt6 20 j = dt 20 j := fun j => (hF8 20 (by decide) j).trans ((fun _ => rfl) j)
    have C47 : ∀ j : Nat, dt6 36 j = dt 36 j := fun j => (hF8 36 (by decide) j).trans ((fun _ => rfl) j)
    have C48 : ∀ j : Nat, dt6 80 j = dt 80 j := fun j => (hF8 80 (by decide) j).trans ((fun _ => rfl) j)
    have C49 : ∀ j : Nat, dt6 81 j = dt 81 j := fun j => (hF8 81 (by decide) j).trans ((fun _ => rfl) j)
    have C50 : ∀ j : Nat, dt6 85 j = dt 85 j := fun j => (hF8 85 (by decide) j).trans ((fun _ => rfl) j)
    refine go_toq PM267 (k := 6) (pc' := 620) (L' := [some (.inr (.inr (some 3000))), some (.inr (.inr (some 0))), some (.inr (.inr (some 79))), some (.inl i)]) (st' := [.inl (i + 1), .inr (.inr (some 3000)), .inr (.inr (some 79))]) (w' := (SH, dt6)) rfl ?_
    have r51 := i32_R (xs ((i + 1).toNat))
    refine go_smpq PM267 (L' := [some (.inr (.inr (some 3000))), some (.inr (.inr (some 0))), some (.inr (.inr (some 79))), some (.inl i)]) (st' := [.inl ((xs ((i + 1).toNat)).toInt), .inr (.inr (some 79))]) (w' := (SH, dt6)) rfl rfl (s_iald (n := L) (f := fun j => (xs j).toInt) (am_scr hLL) ⟨by omega, by omega⟩) ?_
    refine go_toq PM267 (k := 4) (pc' := 625) (L' := [some (.inr (.inr (some 3000))), some (.inr (.inr (some 0))), some (.inr (.inr (some 79))), some (.inl i)]) (st' := [.inl (i + 2), .inr (.inr (some 3000)), .inl ((xs ((i + 1).toNat)).toInt), .inr (.inr (some 79))]) (w' := (SH, dt6)) rfl ?_
    have r52 := i32_R (xs ((i + 2).toNat))
    refine go_smpq PM267 (L' := [some (.inr (.inr (some 3000))), some (.inr (.inr (some 0))), some (.inr (.inr (some 79))), some (.inl i)]) (st' := [.inl ((xs ((i + 2).toNat)).toInt), .inl ((xs ((i + 1).toNat)).toInt), .inr (.inr (some 79))]) (w' := (SH, dt6)) rfl rfl (s_iald (n := L) (f := fun j => (xs j).toInt) (am_scr hLL) ⟨by omega, by omega⟩) ?_
    refine go_toq PM267 (k := 4) (pc' := 630) (L' := [some (.inr (.inr (some 3000))), some (.inr (.inr (some 0))), some (.inr (.inr (some 79))), some (.inl i)]) (st' := [.inl (i + 3), .inr (.inr (some 3000)), .inl ((xs ((i + 2).toNat)).toInt), .inl ((xs ((i + 1).toNat)).toInt), .inr (.inr (some 79))]) (w' := (SH, dt6)) rfl ?_
    have r53 := i32_R (xs ((i + 3).toNat))
    refine go_smpq PM267 (L' := [some (.inr (.inr (some 3000))), some (.inr (.inr (some 0))), some (.inr (.inr (some 79))), some (.inl i)]) (st' := [.inl ((xs ((i + 3).toNat)).toInt), .inl ((xs ((i + 2).toNat)).toInt), .inl ((xs ((i + 1).toNat)).toInt), .inr (.inr (some 79))]) (w' := (SH, dt6)) rfl rfl (s_iald (n := L) (f := fun j => (xs j).toInt) (am_scr hLL) ⟨by omega, by omega⟩) ?_
    refine go_toq PM267 (k := 4) (pc' := 635) (L' := [some (.inr (.inr (some 3000))), some (.inr (.inr (some 0))), some (.inr (.inr (some 79))), some (.inl i)]) (st' := [.inl (i + 4), .inr (.inr (some 3000)), .inl ((xs ((i + 3).toNat)).toInt), .inl ((xs ((i + 2).toNat)).toInt), .inl ((xs ((i + 1).toNat)).toInt), .inr (.inr (some 79))]) (w' := (SH, dt6)) rfl ?_
    have r54 := i32_R (xs ((i + 4).toNat))
    refine go_smpq PM267 (L' := [some (.inr (.inr (some 3000))), some (.inr (.inr (some 0))), some (.inr (.inr (some 79))), some (.inl i)]) (st' := [.inl ((xs ((i + 4).toNat)).toInt), .inl ((xs ((i + 3).toNat)).toInt), .inl ((xs ((i + 2).toNat)).toInt), .inl ((xs ((i + 1).toNat)).toInt), .inr (.inr (some 79))]) (w' := (SH, dt6)) rfl rfl (s_iald (n := L) (f := fun j => (xs j).toInt) (am_scr hLL) ⟨by omega, by omega⟩) ?_
    refine go_callq PM267 PM202 (Q' := _) rfl rfl rfl rfl (sp_X6_child_v L xs sio (d + 36) dt6 hI7 hM10  ((xs ((i + 1).toNat)).toInt) ⟨by omega, by omega⟩ ((xs ((i + 2).toNat)).toInt) ⟨by omega, by omega⟩ ((xs ((i + 3).toNat)).toInt) ⟨by omega, by omega⟩ ((xs ((i + 4).toNat)).toInt) ⟨by omega, by omega⟩ ) ?_
    rintro _ _ ⟨dt56, rfl, hI57, hF58, h55⟩
    refine ⟨rfl, ?_⟩
    have hF59 : Fr [0, 1, 2, 3, 4, 5, 6, 7, 8, 9, 10, 11, 12, 13, 14, 15, 16, 17, 18, 19, 20, 21, 22, 23, 24, 25, 26, 27, 28, 29, 30, 31, 32, 33, 34, 35, 36, 37, 38, 39, 40, 41, 42, 43, 44, 45, 46, 47, 48, 49, 50, 51, 52, 53, 54, 55, 56, 57, 58, 59, 60, 61, 62, 63, 64, 65, 66, 67, 68, 69, 70, 71, 72, 73, 74, 75, 76, 77, 78, 79, 80, 81, 82, 83, 84, 85, 86, 87, 88, 89, 90, 91, 92, 93, 94, 95, 96, 97, 98, 99, 100, 101, 102, 103, 104] dt dt56 := Fr_tr hF9 hF58 (by decide)
    have w60 : dt56 1 0 = dt6 1 0 := hF58 1 (by decide) 0
    have w61 : dt56 7 3 = dt6 7 3 := hF58 7 (by decide) 3
    have w62 : dt56 10 3 = dt6 10 3 := hF58 10 (by decide) 3
    have w63 : dt56 12 3 = dt6 12 3 := hF58 12 (by decide) 3
    have w64 : dt56 14 3 = dt6 14 3 := hF58 14 (by decide) 3
    have w65 : dt56 16 3 = dt6 16 3 := hF58 16 (by decide) 3
    have w66 : dt56 18 0 = dt6 18 0 := hF58 18 (by decide) 0
    have w67 : dt56 24 3 = dt6 24 3 := hF58 24 (by decide) 3
    have w68 : dt56 27 3 = dt6 27 3 := hF58 27 (by decide) 3
    have w69 : dt56 29 3 = dt6 29 3 := hF58 29 (by decide) 3
    have w70 : dt56 31 3 = dt6 31 3 := hF58 31 (by decide) 3
    have w71 : dt56 33 3 = dt6 33 3 := hF58 33 (by decide) 3
    have w72 : dt56 0 2 = dt6 0 2 := hF58 0 (by decide) 2
    have w73 : dt56 35 1 = dt6 35 1 := hF58 35 (by decide) 1
    have w74 : dt56 35 2 = dt6 35 2 := hF58 35 (by decide) 2
    have w75 : dt56 35 3 = dt6 35 3 := hF58 35 (by decide) 3
    have w76 : dt56 81 0 = dt6 81 0 := hF58 81 (by decide) 0
    have w77 : dt56 81 1 = dt6 81 1 := hF58 81 (by decide) 1
    have w78 : dt56 81 2 = dt6 81 2 := hF58 81 (by decide) 2
    have w79 : dt56 81 3 = dt6 81 3 := hF58 81 (by decide) 3
    have w80 : dt56 81 4 = dt6 81 4 := hF58 81 (by decide) 4
    have w81 : dt56 81 5 = dt6 81 5 := hF58 81 (by decide) 5
    have w82 : dt56 79 2 = dt6 79 2 := hF58 79 (by decide) 2
    have w83 : dt56 79 12 = dt6 79 12 := hF58 79 (by decide) 12
    have w84 : dt56 79 19 = dt6 79 19 := hF58 79 (by decide) 19
    have w85 : dt56 79 21 = dt6 79 21 := hF58 79 (by decide) 21
    rcases h55 with ⟨rfl, h55⟩ | ⟨v_h55, rfl, h55r, h55⟩
    · skip
      have hM86 : MW (dt56 80) := h55.2.1
      obtain ⟨h55_0, h55_1, h55_2, h55_3, h55_4, h55_5, h55_6, h55_7, h55_8⟩ := h55
      have M287 : MW (dt56 81) := MW_frk M242 hF58 (by decide)
      have C88 : ∀ j : Nat, dt56 2 j = dt 2 j := fun j => (hF58 2 (by decide) j).trans (C43 j)
      have C89 : ∀ j : Nat, dt56 3 j = dt 3 j := fun j => (hF58 3 (by decide) j).trans (C44 j)
      have C90 : ∀ j : Nat, dt56 19 j = dt 19 j := fun j => (hF58 19 (by decide) j).trans (C45 j)
      have C91 : ∀ j : Nat, dt56 20 j = dt 20 j := fun j => (hF58 20 (by decide) j).trans (C46 j)
      have C92 : ∀ j : Nat, dt56 36 j = dt 36 j := fun j => (hF58 36 (by decide) j).trans (C47 j)
      have C93 : ∀ j : Nat, dt56 80 j = dt 80 j := fun j => (h55_8 j).trans (C48 j)
      have C94 : ∀ j : Nat, dt56 81 j = dt 81 j := fun j => (hF58 81 (by decide) j).trans (C49 j)
      have C95 : ∀ j : Nat, dt56 85 j = dt 85 j := fun j => (hF58 85 (by decide) j).trans (C50 j)
      refine go_toq PM267 (k := 2) (pc' := 1435) (L' := [some (.inr (.inr (some 3000))), some (.inr (.inr (some 0))), some (.inr (.inr (some 79))), some (.inl i)]) (st' := []) (w' := (SH, dt56)) rfl ?_
      exact K dt56 hI57 hM86 M287 (by first | omega | (simp only [*]; done) | simp only [*]) (by omega) (by omega) (by omega) (by omega) (by omega) (by omega) (by omega) (by omega) (by omega) (by omega) (by omega) (by omega) (by omega) (by omega) (by omega) (by first | exact hI | exact TPL_k hd0 C92 C95 (by omega) | (exfalso; omega)) (by first | exact hI | exact SCL_k hd1 hM (fun j _ => C88 j) (fun j _ => C89 j) (fun j _ _ => C93 j) | (exfalso; omega)) (by first | exact hI | exact SCL_k hd2 hM2 (fun j _ => C90 j) (fun j _ => C91 j) (fun j _ _ => C94 j) | (exfalso; omega))
    · skip
      have hM96 : MW (dt56 80) := h55.2.2.1
      obtain ⟨h55_0, h55_1, h55_2, h55_3, h55_4, h55_5, h55_6, h55_7, h55_8, h55_9, h55_10, h55_11, h55_12, h55_13⟩ := h55
      have M297 : MW (dt56 81) := MW_frk M242 hF58 (by decide)
      have C98 : ∀ j : Nat, dt56 2 j = dt 2 j := fun j => (hF58 2 (by decide) j).trans (C43 j)
      have C99 : ∀ j : Nat, dt56 3 j = dt 3 j := fun j => (hF58 3 (by decide) j).trans (C44 j)
      have C100 : ∀ j : Nat, dt56 19 j = dt 19 j := fun j => (hF58 19 (by decide) j).trans (C45 j)
      have C101 : ∀ j : Nat, dt56 20 j = dt 20 j := fun j => (hF58 20 (by decide) j).trans (C46 j)
      have C102 : ∀ j : Nat, dt56 36 j = dt 36 j := fun j => (hF58 36 (by decide) j).trans (C47 j)
      have C103 : ∀ j : Nat, dt56 81 j = dt 81 j := fun j => (hF58 81 (by decide) j).trans (C49 j)
      have C104 : ∀ j : Nat, dt56 85 j = dt 85 j := fun j => (hF58 85 (by decide) j).trans (C50 j)
      have F105 : ∀ j : Nat, 6 ≤ j → j < 974 → dt56 80 j = dt 80 j := fun j h1_ h2_ => (h55_9 j (by omega) (by omega)).trans (C48 j)
      refine go_toq PM267 (k := 2) (pc' := 1435) (L' := [some (.inr (.inr (some 3000))), some (.inr (.inr (some 0))), some (.inr (.inr (some 79))), some (.inl i)]) (st' := []) (w' := (SH, dt56)) rfl ?_
      exact K dt56 hI57 hM96 M297 (by first | omega | (simp only [*]; done) | simp only [*]) (by omega) (by omega) (by omega) (by omega) (by omega) (by omega) (by omega) (by omega) (by omega) (by omega) (by omega) (by omega) (by omega) (by omega) (by omega) (by first | exact hI | exact TPL_k hd0 C102 C104 (by omega) | (exfalso; omega)) (by first | exact hI | exact SCL_k hd1 hM (fun j _ => C98 j) (fun j _ => C99 j) F105 | (exfalso; omega)) (by first | exact hI | exact SCL_k hd2 hM2 (fun j _ => C100 j) (fun j _ => C101 j) (fun j _ _ => C103 j) | (exfalso; omega))
  · skip
    obtain ⟨h5_0, h5_1, h5_2⟩ := h5
    have M2106 : MW (dt6 81) := MW_frk hM2 hF8 (by decide)
    have C107 : ∀ j : Nat, dt6 2 j = dt 2 j := fun j => (hF8 2 (by decide) j).trans ((fun _ => rfl) j)
    have C108 : ∀ j : Nat, dt6 3 j = dt 3 j := fun j => (hF8 3 (by decide) j).trans ((fun _ => rfl) j)
    have C109 : ∀ j : Nat, dt6 19 j = dt 19 j := fun j => (hF8 19 (by decide) j).trans ((fun _ => rfl) j)
    have C110 : ∀ j : Nat, dt6 20 j = dt 20 j := fun j => (hF8 20 (by decide) j).trans ((fun _ => rfl) j)
    have C111 : ∀ j : Nat, dt6 36 j = dt 36 j := fun j => (hF8 36 (by decide) j).trans ((fun _ => rfl) j)
    have C112 : ∀ j : Nat, dt6 80 j = dt 80 j := fun j => (hF8 80 (by decide) j).trans ((fun _ => rfl) j)
    have C113 : ∀ j : Nat, dt6 81 j = dt 81 j := fun j => (hF8 81 (by decide) j).trans ((fun _ => rfl) j)
    have C114 : ∀ j : Nat, dt6 85 j = dt 85 j := fun j => (hF8 85 (by decide) j).trans ((fun _ => rfl) j)
    refine go_toq PM267 (k := 6) (pc' := 620) (L' := [some (.inr (.inr (some 3000))), some (.inr (.inr (some 0))), some (.inr (.inr (some 79))), some (.inl i)]) (st' := [.inl (i + 1), .inr (.inr (some 3000)), .inr (.inr (some 79))]) (w' := (SH, dt6)) rfl ?_
    have r115 := i32_R (xs ((i + 1).toNat))
    refine go_smpq PM267 (L' := [some (.inr (.inr (some 3000))), some (.inr (.inr (some 0))), some (.inr (.inr (some 79))), some (.inl i)]) (st' := [.inl ((xs ((i + 1).toNat)).toInt), .inr (.inr (some 79))]) (w' := (SH, dt6)) rfl rfl (s_iald (n := L) (f := fun j => (xs j).toInt) (am_scr hLL) ⟨by omega, by omega⟩) ?_
    refine go_toq PM267 (k := 4) (pc' := 625) (L' := [some (.inr (.inr (some 3000))), some (.inr (.inr (some 0))), some (.inr (.inr (some 79))), some (.inl i)]) (st' := [.inl (i + 2), .inr (.inr (some 3000)), .inl ((xs ((i + 1).toNat)).toInt), .inr (.inr (some 79))]) (w' := (SH, dt6)) rfl ?_
    have r116 := i32_R (xs ((i + 2).toNat))
    refine go_smpq PM267 (L' := [some (.inr (.inr (some 3000))), some (.inr (.inr (some 0))), some (.inr (.inr (some 79))), some (.inl i)]) (st' := [.inl ((xs ((i + 2).toNat)).toInt), .inl ((xs ((i + 1).toNat)).toInt), .inr (.inr (some 79))]) (w' := (SH, dt6)) rfl rfl (s_iald (n := L) (f := fun j => (xs j).toInt) (am_scr hLL) ⟨by omega, by omega⟩) ?_
    refine go_toq PM267 (k := 4) (pc' := 630) (L' := [some (.inr (.inr (some 3000))), some (.inr (.inr (some 0))), some (.inr (.inr (some 79))), some (.inl i)]) (st' := [.inl (i + 3), .inr (.inr (some 3000)), .inl ((xs ((i + 2).toNat)).toInt), .inl ((xs ((i + 1).toNat)).toInt), .inr (.inr (some 79))]) (w' := (SH, dt6)) rfl ?_
    have r117 := i32_R (xs ((i + 3).toNat))
    refine go_smpq PM267 (L' := [some (.inr (.inr (some 3000))), some (.inr (.inr (some 0))), some (.inr (.inr (some 79))), some (.inl i)]) (st' := [.inl ((xs ((i + 3).toNat)).toInt), .inl ((xs ((i + 2).toNat)).toInt), .inl ((xs ((i + 1).toNat)).toInt), .inr (.inr (some 79))]) (w' := (SH, dt6)) rfl rfl (s_iald (n := L) (f := fun j => (xs j).toInt) (am_scr hLL) ⟨by omega, by omega⟩) ?_
    refine go_toq PM267 (k := 4) (pc' := 635) (L' := [some (.inr (.inr (some 3000))), some (.inr (.inr (some 0))), some (.inr (.inr (some 79))), some (.inl i)]) (st' := [.inl (i + 4), .inr (.inr (some 3000)), .inl ((xs ((i + 3).toNat)).toInt), .inl ((xs ((i + 2).toNat)).toInt), .inl ((xs ((i + 1).toNat)).toInt), .inr (.inr (some 79))]) (w' := (SH, dt6)) rfl ?_
    have r118 := i32_R (xs ((i + 4).toNat))
    refine go_smpq PM267 (L' := [some (.inr (.inr (some 3000))), some (.inr (.inr (some 0))), some (.inr (.inr (some 79))), some (.inl i)]) (st' := [.inl ((xs ((i + 4).toNat)).toInt), .inl ((xs ((i + 3).toNat)).toInt), .inl ((xs ((i + 2).toNat)).toInt), .inl ((xs ((i + 1).toNat)).toInt), .inr (.inr (some 79))]) (w' := (SH, dt6)) rfl rfl (s_iald (n := L) (f := fun j => (xs j).toInt) (am_scr hLL) ⟨by omega, by omega⟩) ?_
    refine go_callq PM267 PM202 (Q' := _) rfl rfl rfl rfl (sp_X6_child_v L xs sio (d + 36) dt6 hI7 hM10  ((xs ((i + 1).toNat)).toInt) ⟨by omega, by omega⟩ ((xs ((i + 2).toNat)).toInt) ⟨by omega, by omega⟩ ((xs ((i + 3).toNat)).toInt) ⟨by omega, by omega⟩ ((xs ((i + 4).toNat)).toInt) ⟨by omega, by omega⟩ ) ?_
    rintro _ _ ⟨dt120, rfl, hI121, hF122, h119⟩
    refine ⟨rfl, ?_⟩
    have hF123 : Fr [0, 1, 2, 3, 4, 5, 6, 7, 8, 9, 10, 11, 12, 13, 14, 15, 16, 17, 18, 19, 20, 21, 22, 23, 24, 25, 26, 27, 28, 29, 30, 31, 32, 33, 34, 35, 36, 37, 38, 39, 40, 41, 42, 43, 44, 45, 46, 47, 48, 49, 50, 51, 52, 53, 54, 55, 56, 57, 58, 59, 60, 61, 62, 63, 64, 65, 66, 67, 68, 69, 70, 71, 72, 73, 74, 75, 76, 77, 78, 79, 80, 81, 82, 83, 84, 85, 86, 87, 88, 89, 90, 91, 92, 93, 94, 95, 96, 97, 98, 99, 100, 101, 102, 103, 104] dt dt120 := Fr_tr hF9 hF122 (by decide)
    have w124 : dt120 1 0 = dt6 1 0 := hF122 1 (by decide) 0
    have w125 : dt120 7 3 = dt6 7 3 := hF122 7 (by decide) 3
    have w126 : dt120 10 3 = dt6 10 3 := hF122 10 (by decide) 3
    have w127 : dt120 12 3 = dt6 12 3 := hF122 12 (by decide) 3
    have w128 : dt120 14 3 = dt6 14 3 := hF122 14 (by decide) 3
    have w129 : dt120 16 3 = dt6 16 3 := hF122 16 (by decide) 3
    have w130 : dt120 18 0 = dt6 18 0 := hF122 18 (by decide) 0
    have w131 : dt120 24 3 = dt6 24 3 := hF122 24 (by decide) 3
    have w132 : dt120 27 3 = dt6 27 3 := hF122 27 (by decide) 3
    have w133 : dt120 29 3 = dt6 29 3 := hF122 29 (by decide) 3
    have w134 : dt120 31 3 = dt6 31 3 := hF122 31 (by decide) 3
    have w135 : dt120 33 3 = dt6 33 3 := hF122 33 (by decide) 3
    have w136 : dt120 0 2 = dt6 0 2 := hF122 0 (by decide) 2
    have w137 : dt120 35 1 = dt6 35 1 := hF122 35 (by decide) 1
    have w138 : dt120 35 2 = dt6 35 2 := hF122 35 (by decide) 2
    have w139 : dt120 35 3 = dt6 35 3 := hF122 35 (by decide) 3
    have w140 : dt120 81 0 = dt6 81 0 := hF122 81 (by decide) 0
    have w141 : dt120 81 1 = dt6 81 1 := hF122 81 (by decide) 1
    have w142 : dt120 81 2 = dt6 81 2 := hF122 81 (by decide) 2
    have w143 : dt120 81 3 = dt6 81 3 := hF122 81 (by decide) 3
    have w144 : dt120 81 4 = dt6 81 4 := hF122 81 (by decide) 4
    have w145 : dt120 81 5 = dt6 81 5 := hF122 81 (by decide) 5
    have w146 : dt120 79 2 = dt6 79 2 := hF122 79 (by decide) 2
    have w147 : dt120 79 12 = dt6 79 12 := hF122 79 (by decide) 12
    have w148 : dt120 79 19 = dt6 79 19 := hF122 79 (by decide) 19
    have w149 : dt120 79 21 = dt6 79 21 := hF122 79 (by decide) 21
    rcases h119 with ⟨rfl, h119⟩ | ⟨v_h119, rfl, h119r, h119⟩
    · skip
      have hM150 : MW (dt120 80) := h119.2.1
      obtain ⟨h119_0, h119_1, h119_2, h119_3, h119_4, h119_5, h119_6, h119_7, h119_8⟩ := h119
      have M2151 : MW (dt120 81) := MW_frk M2106 hF122 (by decide)
      have C152 : ∀ j : Nat, dt120 2 j = dt 2 j := fun j => (hF122 2 (by decide) j).trans (C107 j)
      have C153 : ∀ j : Nat, dt120 3 j = dt 3 j := fun j => (hF122 3 (by decide) j).trans (C108 j)
      have C154 : ∀ j : Nat, dt120 19 j = dt 19 j := fun j => (hF122 19 (by decide) j).trans (C109 j)
      have C155 : ∀ j : Nat, dt120 20 j = dt 20 j := fun j => (hF122 20 (by decide) j).trans (C110 j)
      have C156 : ∀ j : Nat, dt120 36 j = dt 36 j := fun j => (hF122 36 (by decide) j).trans (C111 j)
      have C157 : ∀ j : Nat, dt120 80 j = dt 80 j := fun j => (h119_8 j).trans (C112 j)
      have C158 : ∀ j : Nat, dt120 81 j = dt 81 j := fun j => (hF122 81 (by decide) j).trans (C113 j)
      have C159 : ∀ j : Nat, dt120 85 j = dt 85 j := fun j => (hF122 85 (by decide) j).trans (C114 j)
      refine go_toq PM267 (k := 2) (pc' := 1435) (L' := [some (.inr (.inr (some 3000))), some (.inr (.inr (some 0))), some (.inr (.inr (some 79))), some (.inl i)]) (st' := []) (w' := (SH, dt120)) rfl ?_
      exact K dt120 hI121 hM150 M2151 (by first | omega | (simp only [*]; done) | simp only [*]) (by omega) (by omega) (by omega) (by omega) (by omega) (by omega) (by omega) (by omega) (by omega) (by omega) (by omega) (by omega) (by omega) (by omega) (by omega) (by first | exact hI | exact TPL_k hd0 C156 C159 (by omega) | (exfalso; omega)) (by first | exact hI | exact SCL_k hd1 hM (fun j _ => C152 j) (fun j _ => C153 j) (fun j _ _ => C157 j) | (exfalso; omega)) (by first | exact hI | exact SCL_k hd2 hM2 (fun j _ => C154 j) (fun j _ => C155 j) (fun j _ _ => C158 j) | (exfalso; omega))
    · skip
      have hM160 : MW (dt120 80) := h119.2.2.1
      obtain ⟨h119_0, h119_1, h119_2, h119_3, h119_4, h119_5, h119_6, h119_7, h119_8, h119_9, h119_10, h119_11, h119_12, h119_13⟩ := h119
      have M2161 : MW (dt120 81) := MW_frk M2106 hF122 (by decide)
      have C162 : ∀ j : Nat, dt120 2 j = dt 2 j := fun j => (hF122 2 (by decide) j).trans (C107 j)
      have C163 : ∀ j : Nat, dt120 3 j = dt 3 j := fun j => (hF122 3 (by decide) j).trans (C108 j)
      have C164 : ∀ j : Nat, dt120 19 j = dt 19 j := fun j => (hF122 19 (by decide) j).trans (C109 j)
      have C165 : ∀ j : Nat, dt120 20 j = dt 20 j := fun j => (hF122 20 (by decide) j).trans (C110 j)
      have C166 : ∀ j : Nat, dt120 36 j = dt 36 j := fun j => (hF122 36 (by decide) j).trans (C111 j)
      have C167 : ∀ j : Nat, dt120 81 j = dt 81 j := fun j => (hF122 81 (by decide) j).trans (C113 j)
      have C168 : ∀ j : Nat, dt120 85 j = dt 85 j := fun j => (hF122 85 (by decide) j).trans (C114 j)
      have F169 : ∀ j : Nat, 6 ≤ j → j < 974 → dt120 80 j = dt 80 j := fun j h1_ h2_ => (h119_9 j (by omega) (by omega)).trans (C112 j)
      refine go_toq PM267 (k := 2) (pc' := 1435) (L' := [some (.inr (.inr (some 3000))), some (.inr (.inr (some 0))), some (.inr (.inr (some 79))), some (.inl i)]) (st' := []) (w' := (SH, dt120)) rfl ?_
      exact K dt120 hI121 hM160 M2161 (by first | omega | (simp only [*]; done) | simp only [*]) (by omega) (by omega) (by omega) (by omega) (by omega) (by omega) (by omega) (by omega) (by omega) (by omega) (by omega) (by omega) (by omega) (by omega) (by omega) (by first | exact hI | exact TPL_k hd0 C166 C168 (by omega) | (exfalso; omega)) (by first | exact hI | exact SCL_k hd1 hM (fun j _ => C162 j) (fun j _ => C163 j) F169 | (exfalso; omega)) (by first | exact hI | exact SCL_k hd2 hM2 (fun j _ => C164 j) (fun j _ => C165 j) (fun j _ _ => C167 j) | (exfalso; omega))
