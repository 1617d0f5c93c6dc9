theorem am_scr {L : Nat} {xs : Nat → Int32} {sio : Option Nat} {dt : Nat → Nat → Int} (h : L ≤ 3072) : am_arr (am_XX L xs sio) (SH, dt) 3000 = some (0, L, fun j => (xs j).toInt) := by
  have e : SH[3000]? = none := by decide +kernel
  unfold am_arr
  rw [show (SH, dt).1[3000]? = none from e]
  dsimp only [am_XX]
  rw [if_pos rfl]
  dsimp only
  have : Nat.blt L 2147483648 = true := Nat.blt_eq.mpr (by omega)
  rw [this]
  rfl
theorem s_alen {X : am_X} {L : am_L} {w : am_W} {tg : List Nat} {cv : Int} {r n ty : Nat} {f : Nat → Int} {rest : List AV} (hw : am_arr X w r = some (ty, n, f)) (h : Nat.blt ty 4 = true) : am_smp X .arraylength tg cv L (.inr (.inr (some r)) :: rest) w = some (L, .inl (n : Int) :: rest, w) := by
  simp only [am_smp, hw, h, cond_true]

set_option maxRecDepth 20000 in
set_option maxHeartbeats 8000000 in
theorem sp_case0 (L : Nat) (xs : Nat → Int32) (sio : Option Nat) (d : Nat) (Q : Option AV → am_W → Prop) (hLL : L ≤ 3072) (i : Int) (hi : 0 ≤ i ∧ i ≤ 3066) (hil : i ≤ (L : Int) - 6) (dt : Nat → Nat → Int) (hI : InvC dt) (hM : MW (dt 80)) (hM2 : MW (dt 81)) (hk0 : dt 1 0 = dt 80 0) (hk1 : dt 7 3 = dt 80 1) (hk2 : dt 10 3 = dt 80 2) (hk3 : dt 12 3 = dt 80 3) (hk4 : dt 14 3 = dt 80 4) (hk5 : dt 16 3 = dt 80 5) (hk6 : dt 18 0 = dt 81 0) (hk7 : dt 24 3 = dt 81 1) (hk8 : dt 27 3 = dt 81 2) (hk9 : dt 29 3 = dt 81 3) (hk10 : dt 31 3 = dt 81 4) (hk11 : dt 33 3 = dt 81 5) (hk12 : dt 0 2 = dt 79 2) (hk13 : dt 35 1 = dt 79 12) (hk14 : dt 35 2 = dt 79 19) (hk15 : dt 35 3 = dt 79 21) (hd0 : TPL (dt 36) (dt 85) (dt 35 1)) (hd1 : SCL (dt 2) (dt 3) (dt 80)) (hd2 : SCL (dt 19) (dt 20) (dt 81)) (hd3 : QRL (dt 8) (dt 80)) (hd4 : QRL (dt 25) (dt 81)) (hd5 : SDL (dt 9) (dt 80)) (hd6 : SDL (dt 26) (dt 81)) (K : ∀ (dt : Nat → Nat → Int) (hI : InvC dt) (hM : MW (dt 80)) (hM2 : MW (dt 81)) (hk0 : dt 1 0 = dt 80 0) (hk1 : dt 7 3 = dt 80 1) (hk2 : dt 10 3 = dt 80 2) (hk3 : dt 12 3 = dt 80 3) (hk4 : dt 14 3 = dt 80 4) (hk5 : dt 16 3 = dt 80 5) (hk6 : dt 18 0 = dt 81 0) (hk7 : dt 24 3 = dt 81 1) (hk8 : dt 27 3 = dt 81 2) (hk9 : dt 29 3 = dt 81 3) (hk10 : dt 31 3 = dt 81 4) (hk11 : dt 33 3 = dt 81 5) (hk12 : dt 0 2 = dt 79 2) (hk13 : dt 35 1 = dt 79 12) (hk14 : dt 35 2 = dt 79 19) (hk15 : dt 35 3 = dt 79 21) (hd0 : TPL (dt 36) (dt 85) (dt 35 1)) (hd1 : SCL (dt 2) (dt 3) (dt 80)) (hd2 : SCL (dt 19) (dt 20) (dt 81)) (hd3 : QRL (dt 8) (dt 80)) (hd4 : QRL (dt 25) (dt 81)) (hd5 : SDL (dt 9) (dt 80)) (hd6 : SDL (dt 26) (dt 81)), GO (am_XX L xs sio) (d + 39) 267 1435 [some (.inr (.inr (some 3000))), some (.inr (.inr (some 0))), some (.inr (.inr (some 79))), some (.inl i)] [] (SH, dt) Q) : GO (am_XX L xs sio) (d + 39) 267 180 [some (.inr (.inr (some 3000))), some (.inr (.inr (some 0))), some (.inr (.inr (some 79))), some (.inl i)] [] (SH, dt) Q := by
  have hF : Fr [0, 1, 2, 3, 4, 5, 6, 7, 8, 9, 10, 11, 12, 13, 14, 15, 16, 17, 18, 19, 20, 21, 22, 23, 24, 25, 26, 27, 28, 29, 30, 31, 32, 33, 34, 35, 36, 37, 38, 39, 40, 41, 42, 43, 44, 45, 46, 47, 48, 49, 50, 51, 52, 53, 54, 55, 56, 57, 58, 59, 60, 61, 62, 63, 64, 65, 66, 67, 68, 69, 70, 71, 72, 73, 74, 75, 76, 77, 78, 79, 80, 81, 82, 83, 84, 85, 86, 87, 88, 89, 90, 91, 92, 93, 94, 95, 96, 97, 98, 99, 100, 101, 102, 103, 104] dt dt := Fr_refl
  have hqo := QOC_R hd3 hM hk1
  have hb1_ := hM.1.1
  refine go_toq PM267 (k := 5) (pc' := 185) (L' := [some (.inr (.inr (some 3000))), some (.inr (.inr (some 0))), some (.inr (.inr (some 79))), some (.inl i)]) (st' := [.inl (i + 1), .inr (.inr (some 3000)), .inr (.inr (some 0))]) (w' := (SH, dt)) rfl ?_
  have r1 := i32_R (xs ((i + 1).toNat))
  refine go_smpq PM267 (L' := [some (.inr (.inr (some 3000))), some (.inr (.inr (some 0))), some (.inr (.inr (some 79))), some (.inl i)]) (st' := [.inl ((xs ((i + 1).toNat)).toInt), .inr (.inr (some 0))]) (w' := (SH, dt)) rfl rfl (s_iald (n := L) (f := fun j => (xs j).toInt) (am_scr hLL) ⟨by omega, by omega⟩) ?_
  refine go_callq PM267 PM67 (Q' := _) rfl rfl rfl rfl (sp_X5_state L xs sio (d + 38) dt hI  ((xs ((i + 1).toNat)).toInt) ⟨by omega, by omega⟩ ) ?_
  rintro _ _ ⟨dt3, rfl, hI4, hF5, h2⟩
  refine ⟨rfl, ?_⟩
  have hF6 : Fr [0, 1, 2, 3, 4, 5, 6, 7, 8, 9, 10, 11, 12, 13, 14, 15, 16, 17, 18, 19, 20, 21, 22, 23, 24, 25, 26, 27, 28, 29, 30, 31, 32, 33, 34, 35, 36, 37, 38, 39, 40, 41, 42, 43, 44, 45, 46, 47, 48, 49, 50, 51, 52, 53, 54, 55, 56, 57, 58, 59, 60, 61, 62, 63, 64, 65, 66, 67, 68, 69, 70, 71, 72, 73, 74, 75, 76, 77, 78, 79, 80, 81, 82, 83, 84, 85, 86, 87, 88, 89, 90, 91, 92, 93, 94, 95, 96, 97, 98, 99, 100, 101, 102, 103, 104] dt dt3 := Fr_tr hF hF5 (by decide)
  have hM7 : MW (dt3 80) := MW_fr hM hF5 (by decide)
  have w8 : dt3 7 3 = dt 7 3 := hF5 7 (by decide) 3
  have w9 : dt3 10 3 = dt 10 3 := hF5 10 (by decide) 3
  have w10 : dt3 12 3 = dt 12 3 := hF5 12 (by decide) 3
  have w11 : dt3 14 3 = dt 14 3 := hF5 14 (by decide) 3
  have w12 : dt3 16 3 = dt 16 3 := hF5 16 (by decide) 3
  have w13 : dt3 18 0 = dt 18 0 := hF5 18 (by decide) 0
  have w14 : dt3 24 3 = dt 24 3 := hF5 24 (by decide) 3
  have w15 : dt3 27 3 = dt 27 3 := hF5 27 (by decide) 3
  have w16 : dt3 29 3 = dt 29 3 := hF5 29 (by decide) 3
  have w17 : dt3 31 3 = dt 31 3 := hF5 31 (by decide) 3
  have w18 : dt3 33 3 = dt 33 3 := hF5 33 (by decide) 3
  have w19 : dt3 0 2 = dt 0 2 := hF5 0 (by decide) 2
  have w20 : dt3 35 1 = dt 35 1 := hF5 35 (by decide) 1
  have w21 : dt3 35 2 = dt 35 2 := hF5 35 (by decide) 2
  have w22 : dt3 35 3 = dt 35 3 := hF5 35 (by decide) 3
  have w23 : dt3 80 0 = dt 80 0 := hF5 80 (by decide) 0
  have w24 : dt3 80 1 = dt 80 1 := hF5 80 (by decide) 1
  have w25 : dt3 80 2 = dt 80 2 := hF5 80 (by decide) 2
  have w26 : dt3 80 3 = dt 80 3 := hF5 80 (by decide) 3
  have w27 : dt3 80 4 = dt 80 4 := hF5 80 (by decide) 4
  have w28 : dt3 80 5 = dt 80 5 := hF5 80 (by decide) 5
  have w29 : dt3 81 0 = dt 81 0 := hF5 81 (by decide) 0
  have w30 : dt3 81 1 = dt 81 1 := hF5 81 (by decide) 1
  have w31 : dt3 81 2 = dt 81 2 := hF5 81 (by decide) 2
  have w32 : dt3 81 3 = dt 81 3 := hF5 81 (by decide) 3
  have w33 : dt3 81 4 = dt 81 4 := hF5 81 (by decide) 4
  have w34 : dt3 81 5 = dt 81 5 := hF5 81 (by decide) 5
  have w35 : dt3 79 2 = dt 79 2 := hF5 79 (by decide) 2
  have w36 : dt3 79 12 = dt 79 12 := hF5 79 (by decide) 12
  have w37 : dt3 79 19 = dt 79 19 := hF5 79 (by decide) 19
  have w38 : dt3 79 21 = dt 79 21 := hF5 79 (by decide) 21
  rcases h2 with ⟨rfl, h2⟩
  have M239 : MW (dt3 81) := MW_frk hM2 hF5 (by decide)
  have C40 : ∀ j : Nat, dt3 2 j = dt 2 j := fun j => (hF5 2 (by decide) j).trans ((fun _ => rfl) j)
  have C41 : ∀ j : Nat, dt3 3 j = dt 3 j := fun j => (hF5 3 (by decide) j).trans ((fun _ => rfl) j)
  have C42 : ∀ j : Nat, dt3 19 j = dt 19 j := fun j => (hF5 19 (by decide) j).trans ((fun _ => rfl) j)
  have C43 : ∀ j : Nat, dt3 20 j = dt 20 j := fun j => (hF5 20 (by decide) j).trans ((fun _ => rfl) j)
  have C44 : ∀ j : Nat, dt3 8 j = dt 8 j := fun j => (hF5 8 (by decide) j).trans ((fun _ => rfl) j)
  have C45 : ∀ j : Nat, dt3 25 j = dt 25 j := fun j => (hF5 25 (by decide) j).trans ((fun _ => rfl) j)
  have C46 : ∀ j : Nat, dt3 9 j = dt 9 j := fun j => (hF5 9 (by decide) j).trans ((fun _ => rfl) j)
  have C47 : ∀ j : Nat, dt3 26 j = dt 26 j := fun j => (hF5 26 (by decide) j).trans ((fun _ => rfl) j)
  have C48 : ∀ j : Nat, dt3 36 j = dt 36 j := fun j => (hF5 36 (by decide) j).trans ((fun _ => rfl) j)
  have C49 : ∀ j : Nat, dt3 80 j = dt 80 j := fun j => (hF5 80 (by decide) j).trans ((fun _ => rfl) j)
  have C50 : ∀ j : Nat, dt3 81 j = dt 81 j := fun j => (hF5 81 (by decide) j).trans ((fun _ => rfl) j)
  have C51 : ∀ j : Nat, dt3 85 j = dt 85 j := fun j => (hF5 85 (by decide) j).trans ((fun _ => rfl) j)
  refine go_toq PM267 (k := 6) (pc' := 195) (L' := [some (.inr (.inr (some 3000))), some (.inr (.inr (some 0))), some (.inr (.inr (some 79))), some (.inl i)]) (st' := [.inl (i + 1), .inr (.inr (some 3000)), .inr (.inr (some 79))]) (w' := (SH, dt3)) rfl ?_
  have r52 := i32_R (xs ((i + 1).toNat))
  refine go_smpq PM267 (L' := [some (.inr (.inr (some 3000))), some (.inr (.inr (some 0))), some (.inr (.inr (some 79))), some (.inl i)]) (st' := [.inl ((xs ((i + 1).toNat)).toInt), .inr (.inr (some 79))]) (w' := (SH, dt3)) rfl rfl (s_iald (n := L) (f := fun j => (xs j).toInt) (am_scr hLL) ⟨by omega, by omega⟩) ?_
  refine go_callq PM267 PM149 (Q' := _) rfl rfl rfl rfl (sp_X6_state_v L xs sio (d + 38) dt3 hI4 hM7  ((xs ((i + 1).toNat)).toInt) ⟨by omega, by omega⟩ ) ?_
  rintro _ _ ⟨dt54, rfl, hI55, hF56, h53⟩
  refine ⟨rfl, ?_⟩
  have hF57 : Fr [0, 1, 2, 3, 4, 5, 6, 7, 8, 9, 10, 11, 12, 13, 14, 15, 16, 17, 18, 19, 20, 21, 22, 23, 24, 25, 26, 27, 28, 29, 30, 31, 32, 33, 34, 35, 36, 37, 38, 39, 40, 41, 42, 43, 44, 45, 46, 47, 48, 49, 50, 51, 52, 53, 54, 55, 56, 57, 58, 59, 60, 61, 62, 63, 64, 65, 66, 67, 68, 69, 70, 71, 72, 73, 74, 75, 76, 77, 78, 79, 80, 81, 82, 83, 84, 85, 86, 87, 88, 89, 90, 91, 92, 93, 94, 95, 96, 97, 98, 99, 100, 101, 102, 103, 104] dt dt54 := Fr_tr hF6 hF56 (by decide)
  have w58 : dt54 1 0 = dt3 1 0 := hF56 1 (by decide) 0
  have w59 : dt54 7 3 = dt 7 3 := (hF56 7 (by decide) 3).trans w8
  have w60 : dt54 10 3 = dt 10 3 := (hF56 10 (by decide) 3).trans w9
  have w61 : dt54 12 3 = dt 12 3 := (hF56 12 (by decide) 3).trans w10
  have w62 : dt54 14 3 = dt 14 3 := (hF56 14 (by decide) 3).trans w11
  have w63 : dt54 16 3 = dt 16 3 := (hF56 16 (by decide) 3).trans w12
  have w64 : dt54 18 0 = dt 18 0 := (hF56 18 (by decide) 0).trans w13
  have w65 : dt54 24 3 = dt 24 3 := (hF56 24 (by decide) 3).trans w14
  have w66 : dt54 27 3 = dt 27 3 := (hF56 27 (by decide) 3).trans w15
  have w67 : dt54 29 3 = dt 29 3 := (hF56 29 (by decide) 3).trans w16
  have w68 : dt54 31 3 = dt 31 3 := (hF56 31 (by decide) 3).trans w17
  have w69 : dt54 33 3 = dt 33 3 := (hF56 33 (by decide) 3).trans w18
  have w70 : dt54 0 2 = dt 0 2 := (hF56 0 (by decide) 2).trans w19
  have w71 : dt54 35 1 = dt 35 1 := (hF56 35 (by decide) 1).trans w20
  have w72 : dt54 35 2 = dt 35 2 := (hF56 35 (by decide) 2).trans w21
  have w73 : dt54 35 3 = dt 35 3 := (hF56 35 (by decide) 3).trans w22
  have w74 : dt54 81 0 = dt 81 0 := (hF56 81 (by decide) 0).trans w29
  have w75 : dt54 81 1 = dt 81 1 := (hF56 81 (by decide) 1).trans w30
  have w76 : dt54 81 2 = dt 81 2 := (hF56 81 (by decide) 2).trans w31
  have w77 : dt54 81 3 = dt 81 3 := (hF56 81 (by decide) 3).trans w32
  have w78 : dt54 81 4 = dt 81 4 := (hF56 81 (by decide) 4).trans w33
  have w79 : dt54 81 5 = dt 81 5 := (hF56 81 (by decide) 5).trans w34
  have w80 : dt54 79 2 = dt 79 2 := (hF56 79 (by decide) 2).trans w35
  have w81 : dt54 79 12 = dt 79 12 := (hF56 79 (by decide) 12).trans w36
  have w82 : dt54 79 19 = dt 79 19 := (hF56 79 (by decide) 19).trans w37
  have w83 : dt54 79 21 = dt 79 21 := (hF56 79 (by decide) 21).trans w38
  rcases h53 with ⟨rfl, h53⟩
  have hM84 : MW (dt54 80) := h53.2.1
  obtain ⟨h53_0, h53_1, h53_2, h53_3, h53_4, h53_5, h53_6, h53_7⟩ := h53
  have w85 : dt54 80 1 = dt 80 1 := h53_2.trans w24
  have w86 : dt54 80 2 = dt 80 2 := h53_3.trans w25
  have w87 : dt54 80 3 = dt 80 3 := h53_4.trans w26
  have w88 : dt54 80 4 = dt 80 4 := h53_5.trans w27
  have w89 : dt54 80 5 = dt 80 5 := h53_6.trans w28
  have M290 : MW (dt54 81) := MW_frk M239 hF56 (by decide)
  have C91 : ∀ j : Nat, dt54 2 j = dt 2 j := fun j => (hF56 2 (by decide) j).trans (C40 j)
  have C92 : ∀ j : Nat, dt54 3 j = dt 3 j := fun j => (hF56 3 (by decide) j).trans (C41 j)
  have C93 : ∀ j : Nat, dt54 19 j = dt 19 j := fun j => (hF56 19 (by decide) j).trans (C42 j)
  have C94 : ∀ j : Nat, dt54 20 j = dt 20 j := fun j => (hF56 20 (by decide) j).trans (C43 j)
  have C95 : ∀ j : Nat, dt54 8 j = dt 8 j := fun j => (hF56 8 (by decide) j).trans (C44 j)
  have C96 : ∀ j : Nat, dt54 25 j = dt 25 j := fun j => (hF56 25 (by decide) j).trans (C45 j)
  have C97 : ∀ j : Nat, dt54 9 j = dt 9 j := fun j => (hF56 9 (by decide) j).trans (C46 j)
  have C98 : ∀ j : Nat, dt54 26 j = dt 26 j := fun j => (hF56 26 (by decide) j).trans (C47 j)
  have C99 : ∀ j : Nat, dt54 36 j = dt 36 j := fun j => (hF56 36 (by decide) j).trans (C48 j)
  have C100 : ∀ j : Nat, dt54 81 j = dt 81 j := fun j => (hF56 81 (by decide) j).trans (C50 j)
  have C101 : ∀ j : Nat, dt54 85 j = dt 85 j := fun j => (hF56 85 (by decide) j).trans (C51 j)
  have F102 : ∀ j : Nat, 6 ≤ j → j < 974 → dt54 80 j = dt 80 j := fun j h1_ h2_ => (h53_7 j (by omega)).trans (C49 j)
  have F103 : ∀ j : Nat, 5320 ≤ j → j < 5380 → dt54 80 j = dt 80 j := fun j h1_ h2_ => (h53_7 j (by omega)).trans (C49 j)
  have F104 : dt54 80 1 = dt 80 1 := (h53_7 1 (by omega)).trans (C49 1)
  refine go_toq PM267 (k := 2) (pc' := 1435) (L' := [some (.inr (.inr (some 3000))), some (.inr (.inr (some 0))), some (.inr (.inr (some 79))), some (.inl i)]) (st' := []) (w' := (SH, dt54)) rfl ?_
  exact K dt54 hI55 hM84 M290 (by first | omega | (simp only [*]; done) | simp only [*]) (w59.trans (hk1.trans w85.symm)) (w60.trans (hk2.trans w86.symm)) (w61.trans (hk3.trans w87.symm)) (w62.trans (hk4.trans w88.symm)) (w63.trans (hk5.trans w89.symm)) (w64.trans (hk6.trans w74.symm)) (w65.trans (hk7.trans w75.symm)) (w66.trans (hk8.trans w76.symm)) (w67.trans (hk9.trans w77.symm)) (w68.trans (hk10.trans w78.symm)) (w69.trans (hk11.trans w79.symm)) (w70.trans (hk12.trans w80.symm)) (w71.trans (hk13.trans w81.symm)) (w72.trans (hk14.trans w82.symm)) (w73.trans (hk15.trans w83.symm)) (by first | exact hI | exact TPL_k hd0 C99 C101 (by omega) | (exfalso; omega)) (by first | exact hI | exact SCL_k hd1 hM (fun j _ => C91 j) (fun j _ => C92 j) F102 | (exfalso; omega)) (by first | exact hI | exact SCL_k hd2 hM2 (fun j _ => C93 j) (fun j _ => C94 j) (fun j _ _ => C100 j) | (exfalso; omega)) (by first | exact hI | exact QRL_k hd3 hM (fun j _ => C95 j) F104 F103 | (exfalso; omega)) (by first | exact hI | exact QRL_k hd4 hM2 (fun j _ => C96 j) (C100 1) (fun j _ _ => C100 j) | (exfalso; omega)) (by first | exact hI | exact SDL_k hd5 hM (fun j _ => C97 j) F104 F102 F103 | (exfalso; omega)) (by first | exact hI | exact SDL_k hd6 hM2 (fun j _ => C98 j) (C100 1) (fun j _ _ => C100 j) (fun j _ _ => C100 j) | (exfalso; omega))
set_option maxRecDepth 20000 in
set_option maxHeartbeats 8000000 in
theorem sp_case1 (L : Nat) (xs : Nat → Int32) (sio : Option Nat) (d : Nat) (Q : Option AV → am_W → Prop) (hLL : L ≤ 3072) (i : Int) (hi : 0 ≤ i ∧ i ≤ 3066) (hil : i ≤ (L : Int) - 6) (dt : Nat → Nat → Int) (hI : InvC dt) (hM : MW (dt 80)) (hM2 : MW (dt 81)) (hk0 : dt 1 0 = dt 80 0) (hk1 : dt 7 3 = dt 80 1) (hk2 : dt 10 3 = dt 80 2) (hk3 : dt 12 3 = dt 80 3) (hk4 : dt 14 3 = dt 80 4) (hk5 : dt 16 3 = dt 80 5) (hk6 : dt 18 0 = dt 81 0) (hk7 : dt 24 3 = dt 81 1) (hk8 : dt 27 3 = dt 81 2) (hk9 : dt 29 3 = dt 81 3) (hk10 : dt 31 3 = dt 81 4) (hk11 : dt 33 3 = dt 81 5) (hk12 : dt 0 2 = dt 79 2) (hk13 : dt 35 1 = dt 79 12) (hk14 : dt 35 2 = dt 79 19) (hk15 : dt 35 3 = dt 79 21) (hd0 : TPL (dt 36) (dt 85) (dt 35 1)) (hd1 : SCL (dt 2) (dt 3) (dt 80)) (hd2 : SCL (dt 19) (dt 20) (dt 81)) (hd3 : QRL (dt 8) (dt 80)) (hd4 : QRL (dt 25) (dt 81)) (hd5 : SDL (dt 9) (dt 80)) (hd6 : SDL (dt 26) (dt 81)) (K : ∀ (dt : Nat → Nat → Int) (hI : InvC dt) (hM : MW (dt 80)) (hM2 : MW (dt 81)) (hk0 : dt 1 0 = dt 80 0) (hk1 : dt 7 3 = dt 80 1) (hk2 : dt 10 3 = dt 80 2) (hk3 : dt 12 3 = dt 80 3) (hk4 : dt 14 3 = dt 80 4) (hk5 : dt 16 3 = dt 80 5) (hk6 : dt 18 0 = dt 81 0) (hk7 : dt 24 3 = dt 81 1) (hk8 : dt 27 3 = dt 81 2) (hk9 : dt 29 3 = dt 81 3) (hk10 : dt 31 3 = dt 81 4) (hk11 : dt 33 3 = dt 81 5) (hk12 : dt 0 2 = dt 79 2) (hk13 : dt 35 1 = dt 79 12) (hk14 : dt 35 2 = dt 79 19) (hk15 : dt 35 3 = dt 79 21) (hd0 : TPL (dt 36) (dt 85) (dt 35 1)) (hd1 : SCL (dt 2) (dt 3) (dt 80)) (hd2 : SCL (dt 19) (dt 20) (dt 81)) (hd3 : QRL (dt 8) (dt 80)) (hd4 : QRL (dt 25) (dt 81)) (hd5 : SDL (dt 9) (dt 80)) (hd6 : SDL (dt 26) (dt 81)), GO (am_XX L xs sio) (d + 39) 267 1435 [some (.inr (.inr (some 3000))), some (.inr (.inr (some 0))), some (.inr (.inr (some 79))), some (.inl i)] [] (SH, dt) Q) : GO (am_XX L xs sio) (d + 39) 267 203 [some (.inr (.inr (some 3000))), some (.inr (.inr (some 0))), some (.inr (.inr (some 79))), some (.inl i)] [] (SH, dt) Q := by
  have hF : Fr [0, 1, 2, 3, 4, 5, 6, 7, 8, 9, 10, 11, 12, 13, 14, 15, 16, 17, 18, 19, 20, 21, 22, 23, 24, 25, 26, 27, 28, 29, 30, 31, 32, 33, 34, 35, 36, 37, 38, 39, 40, 41, 42, 43, 44, 45, 46, 47, 48, 49, 50, 51, 52, 53, 54, 55, 56, 57, 58, 59, 60, 61, 62, 63, 64, 65, 66, 67, 68, 69, 70, 71, 72, 73, 74, 75, 76, 77, 78, 79, 80, 81, 82, 83, 84, 85, 86, 87, 88, 89, 90, 91, 92, 93, 94, 95, 96, 97, 98, 99, 100, 101, 102, 103, 104] dt dt := Fr_refl
  have hqo := QOC_R hd3 hM hk1
  have hb1_ := hM.1.1
  refine go_toq PM267 (k := 5) (pc' := 208) (L' := [some (.inr (.inr (some 3000))), some (.inr (.inr (some 0))), some (.inr (.inr (some 79))), some (.inl i)]) (st' := [.inl (i + 1), .inr (.inr (some 3000)), .inr (.inr (some 0))]) (w' := (SH, dt)) rfl ?_
  have r1 := i32_R (xs ((i + 1).toNat))
  refine go_smpq PM267 (L' := [some (.inr (.inr (some 3000))), some (.inr (.inr (some 0))), some (.inr (.inr (some 79))), some (.inl i)]) (st' := [.inl ((xs ((i + 1).toNat)).toInt), .inr (.inr (some 0))]) (w' := (SH, dt)) rfl rfl (s_iald (n := L) (f := fun j => (xs j).toInt) (am_scr hLL) ⟨by omega, by omega⟩) ?_
  refine go_toq PM267 (k := 4) (pc' := 213) (L' := [some (.inr (.inr (some 3000))), some (.inr (.inr (some 0))), some (.inr (.inr (some 79))), some (.inl i)]) (st' := [.inl (i + 2), .inr (.inr (some 3000)), .inl ((xs ((i + 1).toNat)).toInt), .inr (.inr (some 0))]) (w' := (SH, dt)) rfl ?_
  have r2 := i32_R (xs ((i + 2).toNat))
  refine go_smpq PM267 (L' := [some (.inr (.inr (some 3000))), some (.inr (.inr (some 0))), some (.inr (.inr (some 79))), some (.inl i)]) (st' := [.inl ((xs ((i + 2).toNat)).toInt), .inl ((xs ((i + 1).toNat)).toInt), .inr (.inr (some 0))]) (w' := (SH, dt)) rfl rfl (s_iald (n := L) (f := fun j => (xs j).toInt) (am_scr hLL) ⟨by omega, by omega⟩) ?_
  refine go_toq PM267 (k := 4) (pc' := 218) (L' := [some (.inr (.inr (some 3000))), some (.inr (.inr (some 0))), some (.inr (.inr (some 79))), some (.inl i)]) (st' := [.inl (i + 3), .inr (.inr (some 3000)), .inl ((xs ((i + 2).toNat)).toInt), .inl ((xs ((i + 1).toNat)).toInt), .inr (.inr (some 0))]) (w' := (SH, dt)) rfl ?_
  have r3 := i32_R (xs ((i + 3).toNat))
  refine go_smpq PM267 (L' := [some (.inr (.inr (some 3000))), some (.inr (.inr (some 0))), some (.inr (.inr (some 79))), some (.inl i)]) (st' := [.inl ((xs ((i + 3).toNat)).toInt), .inl ((xs ((i + 2).toNat)).toInt), .inl ((xs ((i + 1).toNat)).toInt), .inr (.inr (some 0))]) (w' := (SH, dt)) rfl rfl (s_iald (n := L) (f := fun j => (xs j).toInt) (am_scr hLL) ⟨by omega, by omega⟩) ?_
  refine go_toq PM267 (k := 4) (pc' := 223) (L' := [some (.inr (.inr (some 3000))), some (.inr (.inr (some 0))), some (.inr (.inr (some 79))), some (.inl i)]) (st' := [.inl (i + 4), .inr (.inr (some 3000)), .inl ((xs ((i + 3).toNat)).toInt), .inl ((xs ((i + 2).toNat)).toInt), .inl ((xs ((i + 1).toNat)).toInt), .inr (.inr (some 0))]) (w' := (SH, dt)) rfl ?_
  have r4 := i32_R (xs ((i + 4).toNat))
  refine go_smpq PM267 (L' := [some (.inr (.inr (some 3000))), some (.inr (.inr (some 0))), some (.inr (.inr (some 79))), some (.inl i)]) (st' := [.inl ((xs ((i + 4).toNat)).toInt), .inl ((xs ((i + 3).toNat)).toInt), .inl ((xs ((i + 2).toNat)).toInt), .inl ((xs ((i + 1).toNat)).toInt), .inr (.inr (some 0))]) (w' := (SH, dt)) rfl rfl (s_iald (n := L) (f := fun j => (xs j).toInt) (am_scr hLL) ⟨by omega, by omega⟩) ?_
  refine go_toq PM267 (k := 4) (pc' := 228) (L' := [some (.inr (.inr (some 3000))), some (.inr (.inr (some 0))), some (.inr (.inr (some 79))), some (.inl i)]) (st' := [.inl (i + 5), .inr (.inr (some 3000)), .inl ((xs ((i + 4).toNat)).toInt), .inl ((xs ((i + 3).toNat)).toInt), .inl ((xs ((i + 2).toNat)).toInt), .inl ((xs ((i + 1).toNat)).toInt), .inr (.inr (some 0))]) (w' := (SH, dt)) rfl ?_
  have r5 := i32_R (xs ((i + 5).toNat))
  refine go_smpq PM267 (L' := [some (.inr (.inr (some 3000))), some (.inr (.inr (some 0))), some (.inr (.inr (some 79))), some (.inl i)]) (st' := [.inl ((xs ((i + 5).toNat)).toInt), .inl ((xs ((i + 4).toNat)).toInt), .inl ((xs ((i + 3).toNat)).toInt), .inl ((xs ((i + 2).toNat)).toInt), .inl ((xs ((i + 1).toNat)).toInt), .inr (.inr (some 0))]) (w' := (SH, dt)) rfl rfl (s_iald (n := L) (f := fun j => (xs j).toInt) (am_scr hLL) ⟨by omega, by omega⟩) ?_
  refine go_callq PM267 PM68 (Q' := _) rfl rfl rfl rfl (sp_X5_feed_f L xs sio (d + 37) dt hI  ((xs ((i + 1).toNat)).toInt) ⟨by omega, by omega⟩ ((xs ((i + 2).toNat)).toInt) ⟨by omega, by omega⟩ ((xs ((i + 3).toNat)).toInt) ⟨by omega, by omega⟩ ((xs ((i + 4).toNat)).toInt) ⟨by omega, by omega⟩ ((xs ((i + 5).toNat)).toInt) ⟨by omega, by omega⟩ ) ?_
  rintro _ _ ⟨dt7, rfl, hI8, hF9, h6⟩
  refine ⟨rfl, ?_⟩
  have hF10 : Fr [0, 1, 2, 3, 4, 5, 6, 7, 8, 9, 10, 11, 12, 13, 14, 15, 16, 17, 18, 19, 20, 21, 22, 23, 24, 25, 26, 27, 28, 29, 30, 31, 32, 33, 34, 35, 36, 37, 38, 39, 40, 41, 42, 43, 44, 45, 46, 47, 48, 49, 50, 51, 52, 53, 54, 55, 56, 57, 58, 59, 60, 61, 62, 63, 64, 65, 66, 67, 68, 69, 70, 71, 72, 73, 74, 75, 76, 77, 78, 79, 80, 81, 82, 83, 84, 85, 86, 87, 88, 89, 90, 91, 92, 93, 94, 95, 96, 97, 98, 99, 100, 101, 102, 103, 104] dt dt7 := Fr_tr hF hF9 (by decide)
  have hM11 : MW (dt7 80) := MW_fr hM hF9 (by decide)
  have w12 : dt7 1 0 = dt 1 0 := hF9 1 (by decide) 0
  have w13 : dt7 7 3 = dt 7 3 := hF9 7 (by decide) 3
  have w14 : dt7 10 3 = dt 10 3 := hF9 10 (by decide) 3
  have w15 : dt7 12 3 = dt 12 3 := hF9 12 (by decide) 3
  have w16 : dt7 14 3 = dt 14 3 := hF9 14 (by decide) 3
  have w17 : dt7 16 3 = dt 16 3 := hF9 16 (by decide) 3
  have w18 : dt7 18 0 = dt 18 0 := hF9 18 (by decide) 0
  have w19 : dt7 24 3 = dt 24 3 := hF9 24 (by decide) 3
  have w20 : dt7 27 3 = dt 27 3 := hF9 27 (by decide) 3
  have w21 : dt7 29 3 = dt 29 3 := hF9 29 (by decide) 3
  have w22 : dt7 31 3 = dt 31 3 := hF9 31 (by decide) 3
  have w23 : dt7 33 3 = dt 33 3 := hF9 33 (by decide) 3
  have w24 : dt7 0 2 = dt 0 2 := hF9 0 (by decide) 2
  have w25 : dt7 80 0 = dt 80 0 := hF9 80 (by decide) 0
  have w26 : dt7 80 1 = dt 80 1 := hF9 80 (by decide) 1
  have w27 : dt7 80 2 = dt 80 2 := hF9 80 (by decide) 2
  have w28 : dt7 80 3 = dt 80 3 := hF9 80 (by decide) 3
  have w29 : dt7 80 4 = dt 80 4 := hF9 80 (by decide) 4
  have w30 : dt7 80 5 = dt 80 5 := hF9 80 (by decide) 5
  have w31 : dt7 81 0 = dt 81 0 := hF9 81 (by decide) 0
  have w32 : dt7 81 1 = dt 81 1 := hF9 81 (by decide) 1
  have w33 : dt7 81 2 = dt 81 2 := hF9 81 (by decide) 2
  have w34 : dt7 81 3 = dt 81 3 := hF9 81 (by decide) 3
  have w35 : dt7 81 4 = dt 81 4 := hF9 81 (by decide) 4
  have w36 : dt7 81 5 = dt 81 5 := hF9 81 (by decide) 5
  have w37 : dt7 79 2 = dt 79 2 := hF9 79 (by decide) 2
  have w38 : dt7 79 12 = dt 79 12 := hF9 79 (by decide) 12
  have w39 : dt7 79 19 = dt 79 19 := hF9 79 (by decide) 19
  have w40 : dt7 79 21 = dt 79 21 := hF9 79 (by decide) 21
  rcases h6 with ⟨rfl, h6⟩ | ⟨v_h6, rfl, h6r, h6⟩
  · skip
    obtain ⟨h6_0, h6_1, h6_2, h6_3, h6_4⟩ := h6
    have w41 : dt7 35 1 = dt 35 1 := h6_1
    have w42 : dt7 35 2 = dt 35 2 := h6_3
    have w43 : dt7 35 3 = dt 35 3 := h6_4
    have M244 : MW (dt7 81) := MW_frk hM2 hF9 (by decide)
    have C45 : ∀ j : Nat, dt7 2 j = dt 2 j := fun j => (hF9 2 (by decide) j).trans ((fun _ => rfl) j)
    have C46 : ∀ j : Nat, dt7 3 j = dt 3 j := fun j => (hF9 3 (by decide) j).trans ((fun _ => rfl) j)
    have C47 : ∀ j : Nat, dt7 19 j = dt 19 j := fun j => (hF9 19 (by decide) j).trans ((fun _ => rfl) j)
    have C48 : ∀ j : Nat, dt7 20 j = dt 20 j := fun j => (hF9 20 (by decide) j).trans ((fun _ => rfl) j)
    have C49 : ∀ j : Nat, dt7 8 j = dt 8 j := fun j => (hF9 8 (by decide) j).trans ((fun _ => rfl) j)
    have C50 : ∀ j : Nat, dt7 25 j = dt 25 j := fun j => (hF9 25 (by decide) j).trans ((fun _ => rfl) j)
    have C51 : ∀ j : Nat, dt7 9 j = dt 9 j := fun j => (hF9 9 (by decide) j).trans ((fun _ => rfl) j)
    have C52 : ∀ j : Nat, dt7 26 j = dt 26 j := fun j => (hF9 26 (by decide) j).trans ((fun _ => rfl) j)
    have C53 : ∀ j : Nat, dt7 36 j = dt 36 j := fun j => (h6_2 j).trans ((fun _ => rfl) j)
    have C54 : ∀ j : Nat, dt7 80 j = dt 80 j := fun j => (hF9 80 (by decide) j).trans ((fun _ => rfl) j)
    have C55 : ∀ j : Nat, dt7 81 j = dt 81 j := fun j => (hF9 81 (by decide) j).trans ((fun _ => rfl) j)
    have C56 : ∀ j : Nat, dt7 85 j = dt 85 j := fun j => (hF9 85 (by decide) j).trans ((fun _ => rfl) j)
    refine go_toq PM267 (k := 6) (pc' := 238) (L' := [some (.inr (.inr (some 3000))), some (.inr (.inr (some 0))), some (.inr (.inr (some 79))), some (.inl i)]) (st' := [.inl (i + 1), .inr (.inr (some 3000)), .inr (.inr (some 79))]) (w' := (SH, dt7)) rfl ?_
    have r57 := i32_R (xs ((i + 1).toNat))
    refine go_smpq PM267 (L' := [some (.inr (.inr (some 3000))), some (.inr (.inr (some 0))), some (.inr (.inr (some 79))), some (.inl i)]) (st' := [.inl ((xs ((i + 1).toNat)).toInt), .inr (.inr (some 79))]) (w' := (SH, dt7)) rfl rfl (s_iald (n := L) (f := fun j => (xs j).toInt) (am_scr hLL) ⟨by omega, by omega⟩) ?_
    refine go_toq PM267 (k := 4) (pc' := 243) (L' := [some (.inr (.inr (some 3000))), some (.inr (.inr (some 0))), some (.inr (.inr (some 79))), some (.inl i)]) (st' := [.inl (i + 2), .inr (.inr (some 3000)), .inl ((xs ((i + 1).toNat)).toInt), .inr (.inr (some 79))]) (w' := (SH, dt7)) rfl ?_
    have r58 := i32_R (xs ((i + 2).toNat))
    refine go_smpq PM267 (L' := [some (.inr (.inr (some 3000))), some (.inr (.inr (some 0))), some (.inr (.inr (some 79))), some (.inl i)]) (st' := [.inl ((xs ((i + 2).toNat)).toInt), .inl ((xs ((i + 1).toNat)).toInt), .inr (.inr (some 79))]) (w' := (SH, dt7)) rfl rfl (s_iald (n := L) (f := fun j => (xs j).toInt) (am_scr hLL) ⟨by omega, by omega⟩) ?_
    refine go_toq PM267 (k := 4) (pc' := 248) (L' := [some (.inr (.inr (some 3000))), some (.inr (.inr (some 0))), some (.inr (.inr (some 79))), some (.inl i)]) (st' := [.inl (i + 3), .inr (.inr (some 3000)), .inl ((xs ((i + 2).toNat)).toInt), .inl ((xs ((i + 1).toNat)).toInt), .inr (.inr (some 79))]) (w' := (SH, dt7)) rfl ?_
    have r59 := i32_R (xs ((i + 3).toNat))
    refine go_smpq PM267 (L' := [some (.inr (.inr (some 3000))), some (.inr (.inr (some 0))), some (.inr (.inr (some 79))), some (.inl i)]) (st' := [.inl ((xs ((i + 3).toNat)).toInt), .inl ((xs ((i + 2).toNat)).toInt), .inl ((xs ((i + 1).toNat)).toInt), .inr (.inr (some 79))]) (w' := (SH, dt7)) rfl rfl (s_iald (n := L) (f := fun j => (xs j).toInt) (am_scr hLL) ⟨by omega, by omega⟩) ?_
    refine go_toq PM267 (k := 4) (pc' := 253) (L' := [some (.inr (.inr (some 3000))), some (.inr (.inr (some 0))), some (.inr (.inr (some 79))), some (.inl i)]) (st' := [.inl (i + 4), .inr (.inr (some 3000)), .inl ((xs ((i + 3).toNat)).toInt), .inl ((xs ((i + 2).toNat)).toInt), .inl ((xs ((i + 1).toNat)).toInt), .inr (.inr (some 79))]) (w' := (SH, dt7)) rfl ?_
    have r60 := i32_R (xs ((i + 4).toNat))
    refine go_smpq PM267 (L' := [some (.inr (.inr (some 3000))), some (.inr (.inr (some 0))), some (.inr (.inr (some 79))), some (.inl i)]) (st' := [.inl ((xs ((i + 4).toNat)).toInt), .inl ((xs ((i + 3).toNat)).toInt), .inl ((xs ((i + 2).toNat)).toInt), .inl ((xs ((i + 1).toNat)).toInt), .inr (.inr (some 79))]) (w' := (SH, dt7)) rfl rfl (s_iald (n := L) (f := fun j => (xs j).toInt) (am_scr hLL) ⟨by omega, by omega⟩) ?_
    refine go_toq PM267 (k := 4) (pc' := 258) (L' := [some (.inr (.inr (some 3000))), some (.inr (.inr (some 0))), some (.inr (.inr (some 79))), some (.inl i)]) (st' := [.inl (i + 5), .inr (.inr (some 3000)), .inl ((xs ((i + 4).toNat)).toInt), .inl ((xs ((i + 3).toNat)).toInt), .inl ((xs ((i + 2).toNat)).toInt), .inl ((xs ((i + 1).toNat)).toInt), .inr (.inr (some 79))]) (w' := (SH, dt7)) rfl ?_
    have r61 := i32_R (xs ((i + 5).toNat))
    refine go_smpq PM267 (L' := [some (.inr (.inr (some 3000))), some (.inr (.inr (some 0))), some (.inr (.inr (some 79))), some (.inl i)]) (st' := [.inl ((xs ((i + 5).toNat)).toInt), .inl ((xs ((i + 4).toNat)).toInt), .inl ((xs ((i + 3).toNat)).toInt), .inl ((xs ((i + 2).toNat)).toInt), .inl ((xs ((i + 1).toNat)).toInt), .inr (.inr (some 79))]) (w' := (SH, dt7)) rfl rfl (s_iald (n := L) (f := fun j => (xs j).toInt) (am_scr hLL) ⟨by omega, by omega⟩) ?_
    refine go_callq PM267 PM151 (Q' := _) rfl rfl rfl rfl (sp_X6_feed_f L xs sio (d + 38) dt7 hI8  ((xs ((i + 1).toNat)).toInt) ⟨by omega, by omega⟩ ((xs ((i + 2).toNat)).toInt) ⟨by omega, by omega⟩ ((xs ((i + 3).toNat)).toInt) ⟨by omega, by omega⟩ ((xs ((i + 4).toNat)).toInt) ⟨by omega, by omega⟩ ((xs ((i + 5).toNat)).toInt) ⟨by omega, by omega⟩ ) ?_
    rintro _ _ ⟨dt63, rfl, hI64, hF65, h62⟩
    refine ⟨rfl, ?_⟩
    have hF66 : Fr [0, 1, 2, 3, 4, 5, 6, 7, 8, 9, 10, 11, 12, 13, 14, 15, 16, 17, 18, 19, 20, 21, 22, 23, 24, 25, 26, 27, 28, 29, 30, 31, 32, 33, 34, 35, 36, 37, 38, 39, 40, 41, 42, 43, 44, 45, 46, 47, 48, 49, 50, 51, 52, 53, 54, 55, 56, 57, 58, 59, 60, 61, 62, 63, 64, 65, 66, 67, 68, 69, 70, 71, 72, 73, 74, 75, 76, 77, 78, 79, 80, 81, 82, 83, 84, 85, 86, 87, 88, 89, 90, 91, 92, 93, 94, 95, 96, 97, 98, 99, 100, 101, 102, 103, 104] dt dt63 := Fr_tr hF10 hF65 (by decide)
    have hM67 : MW (dt63 80) := MW_fr hM11 hF65 (by decide)
    have w68 : dt63 1 0 = dt 1 0 := (hF65 1 (by decide) 0).trans w12
    have w69 : dt63 7 3 = dt 7 3 := (hF65 7 (by decide) 3).trans w13
    have w70 : dt63 10 3 = dt 10 3 := (hF65 10 (by decide) 3).trans w14
    have w71 : dt63 12 3 = dt 12 3 := (hF65 12 (by decide) 3).trans w15
    have w72 : dt63 14 3 = dt 14 3 := (hF65 14 (by decide) 3).trans w16
    have w73 : dt63 16 3 = dt 16 3 := (hF65 16 (by decide) 3).trans w17
    have w74 : dt63 18 0 = dt 18 0 := (hF65 18 (by decide) 0).trans w18
    have w75 : dt63 24 3 = dt 24 3 := (hF65 24 (by decide) 3).trans w19
    have w76 : dt63 27 3 = dt 27 3 := (hF65 27 (by decide) 3).trans w20
    have w77 : dt63 29 3 = dt 29 3 := (hF65 29 (by decide) 3).trans w21
    have w78 : dt63 31 3 = dt 31 3 := (hF65 31 (by decide) 3).trans w22
    have w79 : dt63 33 3 = dt 33 3 := (hF65 33 (by decide) 3).trans w23
    have w80 : dt63 0 2 = dt 0 2 := (hF65 0 (by decide) 2).trans w24
    have w81 : dt63 35 1 = dt 35 1 := (hF65 35 (by decide) 1).trans w41
    have w82 : dt63 35 2 = dt 35 2 := (hF65 35 (by decide) 2).trans w42
    have w83 : dt63 35 3 = dt 35 3 := (hF65 35 (by decide) 3).trans w43
    have w84 : dt63 80 0 = dt 80 0 := (hF65 80 (by decide) 0).trans w25
    have w85 : dt63 80 1 = dt 80 1 := (hF65 80 (by decide) 1).trans w26
    have w86 : dt63 80 2 = dt 80 2 := (hF65 80 (by decide) 2).trans w27
    have w87 : dt63 80 3 = dt 80 3 := (hF65 80 (by decide) 3).trans w28
    have w88 : dt63 80 4 = dt 80 4 := (hF65 80 (by decide) 4).trans w29
    have w89 : dt63 80 5 = dt 80 5 := (hF65 80 (by decide) 5).trans w30
    have w90 : dt63 81 0 = dt 81 0 := (hF65 81 (by decide) 0).trans w31
    have w91 : dt63 81 1 = dt 81 1 := (hF65 81 (by decide) 1).trans w32
    have w92 : dt63 81 2 = dt 81 2 := (hF65 81 (by decide) 2).trans w33
    have w93 : dt63 81 3 = dt 81 3 := (hF65 81 (by decide) 3).trans w34
    have w94 : dt63 81 4 = dt 81 4 := (hF65 81 (by decide) 4).trans w35
    have w95 : dt63 81 5 = dt 81 5 := (hF65 81 (by decide) 5).trans w36
    rcases h62 with ⟨rfl, h62⟩ | ⟨v_h62, rfl, h62r, h62⟩
    · skip
      obtain ⟨h62_0, h62_1, h62_2, h62_3, h62_4, h62_5⟩ := h62
      have w96 : dt63 79 12 = dt 79 12 := h62_1.trans w38
      have w97 : dt63 79 2 = dt 79 2 := h62_3.trans w37
      have w98 : dt63 79 19 = dt 79 19 := h62_4.trans w39
      have w99 : dt63 79 21 = dt 79 21 := h62_5.trans w40
      have M2100 : MW (dt63 81) := MW_frk M244 hF65 (by decide)
      have C101 : ∀ j : Nat, dt63 2 j = dt 2 j := fun j => (hF65 2 (by decide) j).trans (C45 j)
      have C102 : ∀ j : Nat, dt63 3 j = dt 3 j := fun j => (hF65 3 (by decide) j).trans (C46 j)
      have C103 : ∀ j : Nat, dt63 19 j = dt 19 j := fun j => (hF65 19 (by decide) j).trans (C47 j)
      have C104 : ∀ j : Nat, dt63 20 j = dt 20 j := fun j => (hF65 20 (by decide) j).trans (C48 j)
      have C105 : ∀ j : Nat, dt63 8 j = dt 8 j := fun j => (hF65 8 (by decide) j).trans (C49 j)
      have C106 : ∀ j : Nat, dt63 25 j = dt 25 j := fun j => (hF65 25 (by decide) j).trans (C50 j)
      have C107 : ∀ j : Nat, dt63 9 j = dt 9 j := fun j => (hF65 9 (by decide) j).trans (C51 j)
      have C108 : ∀ j : Nat, dt63 26 j = dt 26 j := fun j => (hF65 26 (by decide) j).trans (C52 j)
      have C109 : ∀ j : Nat, dt63 36 j = dt 36 j := fun j => (hF65 36 (by decide) j).trans (C53 j)
      have C110 : ∀ j : Nat, dt63 80 j = dt 80 j := fun j => (hF65 80 (by decide) j).trans (C54 j)
      have C111 : ∀ j : Nat, dt63 81 j = dt 81 j := fun j => (hF65 81 (by decide) j).trans (C55 j)
      have C112 : ∀ j : Nat, dt63 85 j = dt 85 j := fun j => (h62_2 j).trans (C56 j)
      refine go_toq PM267 (k := 2) (pc' := 1435) (L' := [some (.inr (.inr (some 3000))), some (.inr (.inr (some 0))), some (.inr (.inr (some 79))), some (.inl i)]) (st' := []) (w' := (SH, dt63)) rfl ?_
      exact K dt63 hI64 hM67 M2100 (w68.trans (hk0.trans w84.symm)) (w69.trans (hk1.trans w85.symm)) (w70.trans (hk2.trans w86.symm)) (w71.trans (hk3.trans w87.symm)) (w72.trans (hk4.trans w88.symm)) (w73.trans (hk5.trans w89.symm)) (w74.trans (hk6.trans w90.symm)) (w75.trans (hk7.trans w91.symm)) (w76.trans (hk8.trans w92.symm)) (w77.trans (hk9.trans w93.symm)) (w78.trans (hk10.trans w94.symm)) (w79.trans (hk11.trans w95.symm)) (w80.trans (hk12.trans w97.symm)) (w81.trans (hk13.trans w96.symm)) (w82.trans (hk14.trans w98.symm)) (w83.trans (hk15.trans w99.symm)) (by first | exact hI | exact TPL_k hd0 C109 C112 (by omega) | (exfalso; omega)) (by first | exact hI | exact SCL_k hd1 hM (fun j _ => C101 j) (fun j _ => C102 j) (fun j _ _ => C110 j) | (exfalso; omega)) (by first | exact hI | exact SCL_k hd2 hM2 (fun j _ => C103 j) (fun j _ => C104 j) (fun j _ _ => C111 j) | (exfalso; omega)) (by first | exact hI | exact QRL_k hd3 hM (fun j _ => C105 j) (C110 1) (fun j _ _ => C110 j) | (exfalso; omega)) (by first | exact hI | exact QRL_k hd4 hM2 (fun j _ => C106 j) (C111 1) (fun j _ _ => C111 j) | (exfalso; omega)) (by first | exact hI | exact SDL_k hd5 hM (fun j _ => C107 j) (C110 1) (fun j _ _ => C110 j) (fun j _ _ => C110 j) | (exfalso; omega)) (by first | exact hI | exact SDL_k hd6 hM2 (fun j _ => C108 j) (C111 1) (fun j _ _ => C111 j) (fun j _ _ => C111 j) | (exfalso; omega))
    · skip
      obtain ⟨h62_0, h62_1, h62_2, h62_3, h62_4, h62_5, h62_6⟩ := h62
      have w113 : dt63 79 2 = dt 79 2 := h62_4.trans w37
      have w114 : dt63 79 19 = dt 79 19 := h62_5.trans w39
      have w115 : dt63 79 21 = dt 79 21 := h62_6.trans w40
      have M2116 : MW (dt63 81) := MW_frk M244 hF65 (by decide)
      have C117 : ∀ j : Nat, dt63 2 j = dt 2 j := fun j => (hF65 2 (by decide) j).trans (C45 j)
      have C118 : ∀ j : Nat, dt63 3 j = dt 3 j := fun j => (hF65 3 (by decide) j).trans (C46 j)
      have C119 : ∀ j : Nat, dt63 19 j = dt 19 j := fun j => (hF65 19 (by decide) j).trans (C47 j)
      have C120 : ∀ j : Nat, dt63 20 j = dt 20 j := fun j => (hF65 20 (by decide) j).trans (C48 j)
      have C121 : ∀ j : Nat, dt63 8 j = dt 8 j := fun j => (hF65 8 (by decide) j).trans (C49 j)
      have C122 : ∀ j : Nat, dt63 25 j = dt 25 j := fun j => (hF65 25 (by decide) j).trans (C50 j)
      have C123 : ∀ j : Nat, dt63 9 j = dt 9 j := fun j => (hF65 9 (by decide) j).trans (C51 j)
      have C124 : ∀ j : Nat, dt63 26 j = dt 26 j := fun j => (hF65 26 (by decide) j).trans (C52 j)
      have C125 : ∀ j : Nat, dt63 36 j = dt 36 j := fun j => (hF65 36 (by decide) j).trans (C53 j)
      have C126 : ∀ j : Nat, dt63 80 j = dt 80 j := fun j => (hF65 80 (by decide) j).trans (C54 j)
      have C127 : ∀ j : Nat, dt63 81 j = dt 81 j := fun j => (hF65 81 (by decide) j).trans (C55 j)
      have E128 : TPL (dt7 36) (dt63 85) (dt7 35 1) := by first | exact TPL_f hd0 hI (show FDX (dt 85) (dt63 85) (dt 35 1) (dt7 35 1) _ from by have z_ := h62_3; rw [show dt7 79 12 = dt 35 1 by first | with_reducible assumption | omega, show dt63 79 12 = dt7 35 1 by first | with_reducible assumption | omega, show dt7 85 = dt 85 from funext C56] at z_; exact z_) rfl rfl | (exfalso; omega)
      have E129 : TPL (dt63 36) (dt63 85) (dt63 35 1) := by have z_ := E128; rw [show dt63 36 = dt7 36 from (funext (hF65 36 (by decide))), show dt63 35 1 = dt7 35 1 by first | with_reducible assumption | omega]; exact z_
      refine go_toq PM267 (k := 2) (pc' := 1435) (L' := [some (.inr (.inr (some 3000))), some (.inr (.inr (some 0))), some (.inr (.inr (some 79))), some (.inl i)]) (st' := []) (w' := (SH, dt63)) rfl ?_
      exact K dt63 hI64 hM67 M2116 (w68.trans (hk0.trans w84.symm)) (w69.trans (hk1.trans w85.symm)) (w70.trans (hk2.trans w86.symm)) (w71.trans (hk3.trans w87.symm)) (w72.trans (hk4.trans w88.symm)) (w73.trans (hk5.trans w89.symm)) (w74.trans (hk6.trans w90.symm)) (w75.trans (hk7.trans w91.symm)) (w76.trans (hk8.trans w92.symm)) (w77.trans (hk9.trans w93.symm)) (w78.trans (hk10.trans w94.symm)) (w79.trans (hk11.trans w95.symm)) (w80.trans (hk12.trans w113.symm)) (by omega) (w82.trans (hk14.trans w114.symm)) (w83.trans (hk15.trans w115.symm)) (by first | exact E129 | exact TPL_k hd0 C125 hI (by omega) | (exfalso; omega)) (by first | exact hI | exact SCL_k hd1 hM (fun j _ => C117 j) (fun j _ => C118 j) (fun j _ _ => C126 j) | (exfalso; omega)) (by first | exact hI | exact SCL_k hd2 hM2 (fun j _ => C119 j) (fun j _ => C120 j) (fun j _ _ => C127 j) | (exfalso; omega)) (by first | exact hI | exact QRL_k hd3 hM (fun j _ => C121 j) (C126 1) (fun j _ _ => C126 j) | (exfalso; omega)) (by first | exact hI | exact QRL_k hd4 hM2 (fun j _ => C122 j) (C127 1) (fun j _ _ => C127 j) | (exfalso; omega)) (by first | exact hI | exact SDL_k hd5 hM (fun j _ => C123 j) (C126 1) (fun j _ _ => C126 j) (fun j _ _ => C126 j) | (exfalso; omega)) (by first | exact hI | exact SDL_k hd6 hM2 (fun j _ => C124 j) (C127 1) (fun j _ _ => C127 j) (fun j _ _ => C127 j) | (exfalso; omega))
  · skip
    obtain ⟨h6_0, h6_1, h6_2, h6_3, h6_4, h6_5⟩ := h6
    have w130 : dt7 35 2 = dt 35 2 := h6_4
    have w131 : dt7 35 3 = dt 35 3 := h6_5
    have M2132 : MW (dt7 81) := MW_frk hM2 hF9 (by decide)
    have C133 : ∀ j : Nat, dt7 2 j = dt 2 j := fun j => (hF9 2 (by decide) j).trans ((fun _ => rfl) j)
    have C134 : ∀ j : Nat, dt7 3 j = dt 3 j := fun j => (hF9 3 (by decide) j).trans ((fun _ => rfl) j)
    have C135 : ∀ j : Nat, dt7 19 j = dt 19 j := fun j => (hF9 19 (by decide) j).trans ((fun _ => rfl) j)
    have C136 : ∀ j : Nat, dt7 20 j = dt 20 j := fun j => (hF9 20 (by decide) j).trans ((fun _ => rfl) j)
    have C137 : ∀ j : Nat, dt7 8 j = dt 8 j := fun j => (hF9 8 (by decide) j).trans ((fun _ => rfl) j)
    have C138 : ∀ j : Nat, dt7 25 j = dt 25 j := fun j => (hF9 25 (by decide) j).trans ((fun _ => rfl) j)
    have C139 : ∀ j : Nat, dt7 9 j = dt 9 j := fun j => (hF9 9 (by decide) j).trans ((fun _ => rfl) j)
    have C140 : ∀ j : Nat, dt7 26 j = dt 26 j := fun j => (hF9 26 (by decide) j).trans ((fun _ => rfl) j)
    have C141 : ∀ j : Nat, dt7 80 j = dt 80 j := fun j => (hF9 80 (by decide) j).trans ((fun _ => rfl) j)
    have C142 : ∀ j : Nat, dt7 81 j = dt 81 j := fun j => (hF9 81 (by decide) j).trans ((fun _ => rfl) j)
    have C143 : ∀ j : Nat, dt7 85 j = dt 85 j := fun j => (hF9 85 (by decide) j).trans ((fun _ => rfl) j)
    refine go_toq PM267 (k := 6) (pc' := 238) (L' := [some (.inr (.inr (some 3000))), some (.inr (.inr (some 0))), some (.inr (.inr (some 79))), some (.inl i)]) (st' := [.inl (i + 1), .inr (.inr (some 3000)), .inr (.inr (some 79))]) (w' := (SH, dt7)) rfl ?_
    have r144 := i32_R (xs ((i + 1).toNat))
    refine go_smpq PM267 (L' := [some (.inr (.inr (some 3000))), some (.inr (.inr (some 0))), some (.inr (.inr (some 79))), some (.inl i)]) (st' := [.inl ((xs ((i + 1).toNat)).toInt), .inr (.inr (some 79))]) (w' := (SH, dt7)) rfl rfl (s_iald (n := L) (f := fun j => (xs j).toInt) (am_scr hLL) ⟨by omega, by omega⟩) ?_
    refine go_toq PM267 (k := 4) (pc' := 243) (L' := [some (.inr (.inr (some 3000))), some (.inr (.inr (some 0))), some (.inr (.inr (some 79))), some (.inl i)]) (st' := [.inl (i + 2), .inr (.inr (some 3000)), .inl ((xs ((i + 1).toNat)).toInt), .inr (.inr (some 79))]) (w' := (SH, dt7)) rfl ?_
    have r145 := i32_R (xs ((i + 2).toNat))
    refine go_smpq PM267 (L' := [some (.inr (.inr (some 3000))), some (.inr (.inr (some 0))), some (.inr (.inr (some 79))), some (.inl i)]) (st' := [.inl ((xs ((i + 2).toNat)).toInt), .inl ((xs ((i + 1).toNat)).toInt), .inr (.inr (some 79))]) (w' := (SH, dt7)) rfl rfl (s_iald (n := L) (f := fun j => (xs j).toInt) (am_scr hLL) ⟨by omega, by omega⟩) ?_
    refine go_toq PM267 (k := 4) (pc' := 248) (L' := [some (.inr (.inr (some 3000))), some (.inr (.inr (some 0))), some (.inr (.inr (some 79))), some (.inl i)]) (st' := [.inl (i + 3), .inr (.inr (some 3000)), .inl ((xs ((i + 2).toNat)).toInt), .inl ((xs ((i + 1).toNat)).toInt), .inr (.inr (some 79))]) (w' := (SH, dt7)) rfl ?_
    have r146 := i32_R (xs ((i + 3).toNat))
    refine go_smpq PM267 (L' := [some (.inr (.inr (some 3000))), some (.inr (.inr (some 0))), some (.inr (.inr (some 79))), some (.inl i)]) (st' := [.inl ((xs ((i + 3).toNat)).toInt), .inl ((xs ((i + 2).toNat)).toInt), .inl ((xs ((i + 1).toNat)).toInt), .inr (.inr (some 79))]) (w' := (SH, dt7)) rfl rfl (s_iald (n := L) (f := fun j => (xs j).toInt) (am_scr hLL) ⟨by omega, by omega⟩) ?_
    refine go_toq PM267 (k := 4) (pc' := 253) (L' := [some (.inr (.inr (some 3000))), some (.inr (.inr (some 0))), some (.inr (.inr (some 79))), some (.inl i)]) (st' := [.inl (i + 4), .inr (.inr (some 3000)), .inl ((xs ((i + 3).toNat)).toInt), .inl ((xs ((i + 2).toNat)).toInt), .inl ((xs ((i + 1).toNat)).toInt), .inr (.inr (some 79))]) (w' := (SH, dt7)) rfl ?_
    have r147 := i32_R (xs ((i + 4).toNat))
    refine go_smpq PM267 (L' := [some (.inr (.inr (some 3000))), some (.inr (.inr (some 0))), some (.inr (.inr (some 79))), some (.inl i)]) (st' := [.inl ((xs ((i + 4).toNat)).toInt), .inl ((xs ((i + 3).toNat)).toInt), .inl ((xs ((i + 2).toNat)).toInt), .inl ((xs ((i + 1).toNat)).toInt), .inr (.inr (some 79))]) (w' := (SH, dt7)) rfl rfl (s_iald (n := L) (f := fun j => (xs j).toInt) (am_scr hLL) ⟨by omega, by omega⟩) ?_
    refine go_toq PM267 (k := 4) (pc' := 258) (L' := [some (.inr (.inr (some 3000))), some (.inr (.inr (some 0))), some (.inr (.inr (some 79))), some (.inl i)]) (st' := [.inl (i + 5), .inr (.inr (some 3000)), .inl ((xs ((i + 4).toNat)).toInt), .inl ((xs ((i + 3).toNat)).toInt), .inl ((xs ((i + 2).toNat)).toInt), .inl ((xs ((i + 1).toNat)).toInt), .inr (.inr (some 79))]) (w' := (SH, dt7)) rfl ?_
    have r148 := i32_R (xs ((i + 5).toNat))
    refine go_smpq PM267 (L' := [some (.inr (.inr (some 3000))), some (.inr (.inr (some 0))), some (.inr (.inr (some 79))), some (.inl i)]) (st' := [.inl ((xs ((i + 5).toNat)).toInt), .inl ((xs ((i + 4).toNat)).toInt), .inl ((xs ((i + 3).toNat)).toInt), .inl ((xs ((i + 2).toNat)).toInt), .inl ((xs ((i + 1).toNat)).toInt), .inr (.inr (some 79))]) (w' := (SH, dt7)) rfl rfl (s_iald (n := L) (f := fun j => (xs j).toInt) (am_scr hLL) ⟨by omega, by omega⟩) ?_
    refine go_callq PM267 PM151 (Q' := _) rfl rfl rfl rfl (sp_X6_feed_f L xs sio (d + 38) dt7 hI8  ((xs ((i + 1).toNat)).toInt) ⟨by omega, by omega⟩ ((xs ((i + 2).toNat)).toInt) ⟨by omega, by omega⟩ ((xs ((i + 3).toNat)).toInt) ⟨by omega, by omega⟩ ((xs ((i + 4).toNat)).toInt) ⟨by omega, by omega⟩ ((xs ((i + 5).toNat)).toInt) ⟨by omega, by omega⟩ ) ?_
    rintro _ _ ⟨dt150, rfl, hI151, hF152, h149⟩
    refine ⟨rfl, ?_⟩
    have hF153 : Fr [0, 1, 2, 3, 4, 5, 6, 7, 8, 9, 10, 11, 12, 13, 14, 15, 16, 17, 18, 19, 20, 21, 22, 23, 24, 25, 26, 27, 28, 29, 30, 31, 32, 33, 34, 35, 36, 37, 38, 39, 40, 41, 42, 43, 44, 45, 46, 47, 48, 49, 50, 51, 52, 53, 54, 55, 56, 57, 58, 59, 60, 61, 62, 63, 64, 65, 66, 67, 68, 69, 70, 71, 72, 73, 74, 75, 76, 77, 78, 79, 80, 81, 82, 83, 84, 85, 86, 87, 88, 89, 90, 91, 92, 93, 94, 95, 96, 97, 98, 99, 100, 101, 102, 103, 104] dt dt150 := Fr_tr hF10 hF152 (by decide)
    have hM154 : MW (dt150 80) := MW_fr hM11 hF152 (by decide)
    have w155 : dt150 1 0 = dt 1 0 := (hF152 1 (by decide) 0).trans w12
    have w156 : dt150 7 3 = dt 7 3 := (hF152 7 (by decide) 3).trans w13
    have w157 : dt150 10 3 = dt 10 3 := (hF152 10 (by decide) 3).trans w14
    have w158 : dt150 12 3 = dt 12 3 := (hF152 12 (by decide) 3).trans w15
    have w159 : dt150 14 3 = dt 14 3 := (hF152 14 (by decide) 3).trans w16
    have w160 : dt150 16 3 = dt 16 3 := (hF152 16 (by decide) 3).trans w17
    have w161 : dt150 18 0 = dt 18 0 := (hF152 18 (by decide) 0).trans w18
    have w162 : dt150 24 3 = dt 24 3 := (hF152 24 (by decide) 3).trans w19
    have w163 : dt150 27 3 = dt 27 3 := (hF152 27 (by decide) 3).trans w20
    have w164 : dt150 29 3 = dt 29 3 := (hF152 29 (by decide) 3).trans w21
    have w165 : dt150 31 3 = dt 31 3 := (hF152 31 (by decide) 3).trans w22
    have w166 : dt150 33 3 = dt 33 3 := (hF152 33 (by decide) 3).trans w23
    have w167 : dt150 0 2 = dt 0 2 := (hF152 0 (by decide) 2).trans w24
    have w168 : dt150 35 1 = dt7 35 1 := hF152 35 (by decide) 1
    have w169 : dt150 35 2 = dt 35 2 := (hF152 35 (by decide) 2).trans w130
    have w170 : dt150 35 3 = dt 35 3 := (hF152 35 (by decide) 3).trans w131
    have w171 : dt150 80 0 = dt 80 0 := (hF152 80 (by decide) 0).trans w25
    have w172 : dt150 80 1 = dt 80 1 := (hF152 80 (by decide) 1).trans w26
    have w173 : dt150 80 2 = dt 80 2 := (hF152 80 (by decide) 2).trans w27
    have w174 : dt150 80 3 = dt 80 3 := (hF152 80 (by decide) 3).trans w28
    have w175 : dt150 80 4 = dt 80 4 := (hF152 80 (by decide) 4).trans w29
    have w176 : dt150 80 5 = dt 80 5 := (hF152 80 (by decide) 5).trans w30
    have w177 : dt150 81 0 = dt 81 0 := (hF152 81 (by decide) 0).trans w31
    have w178 : dt150 81 1 = dt 81 1 := (hF152 81 (by decide) 1).trans w32
    have w179 : dt150 81 2 = dt 81 2 := (hF152 81 (by decide) 2).trans w33
    have w180 : dt150 81 3 = dt 81 3 := (hF152 81 (by decide) 3).trans w34
    have w181 : dt150 81 4 = dt 81 4 := (hF152 81 (by decide) 4).trans w35
    have w182 : dt150 81 5 = dt 81 5 := (hF152 81 (by decide) 5).trans w36
    rcases h149 with ⟨rfl, h149⟩ | ⟨v_h149, rfl, h149r, h149⟩
    · skip
      obtain ⟨h149_0, h149_1, h149_2, h149_3, h149_4, h149_5⟩ := h149
      have w183 : dt150 79 12 = dt 79 12 := h149_1.trans w38
      have w184 : dt150 79 2 = dt 79 2 := h149_3.trans w37
      have w185 : dt150 79 19 = dt 79 19 := h149_4.trans w39
      have w186 : dt150 79 21 = dt 79 21 := h149_5.trans w40
      have M2187 : MW (dt150 81) := MW_frk M2132 hF152 (by decide)
      have C188 : ∀ j : Nat, dt150 2 j = dt 2 j := fun j => (hF152 2 (by decide) j).trans (C133 j)
      have C189 : ∀ j : Nat, dt150 3 j = dt 3 j := fun j => (hF152 3 (by decide) j).trans (C134 j)
      have C190 : ∀ j : Nat, dt150 19 j = dt 19 j := fun j => (hF152 19 (by decide) j).trans (C135 j)
      have C191 : ∀ j : Nat, dt150 20 j = dt 20 j := fun j => (hF152 20 (by decide) j).trans (C136 j)
      have C192 : ∀ j : Nat, dt150 8 j = dt 8 j := fun j => (hF152 8 (by decide) j).trans (C137 j)
      have C193 : ∀ j : Nat, dt150 25 j = dt 25 j := fun j => (hF152 25 (by decide) j).trans (C138 j)
      have C194 : ∀ j : Nat, dt150 9 j = dt 9 j := fun j => (hF152 9 (by decide) j).trans (C139 j)
      have C195 : ∀ j : Nat, dt150 26 j = dt 26 j := fun j => (hF152 26 (by decide) j).trans (C140 j)
      have C196 : ∀ j : Nat, dt150 80 j = dt 80 j := fun j => (hF152 80 (by decide) j).trans (C141 j)
      have C197 : ∀ j : Nat, dt150 81 j = dt 81 j := fun j => (hF152 81 (by decide) j).trans (C142 j)
      have C198 : ∀ j : Nat, dt150 85 j = dt 85 j := fun j => (h149_2 j).trans (C143 j)
      refine go_toq PM267 (k := 2) (pc' := 1435) (L' := [some (.inr (.inr (some 3000))), some (.inr (.inr (some 0))), some (.inr (.inr (some 79))), some (.inl i)]) (st' := []) (w' := (SH, dt150)) rfl ?_
      exact K dt150 hI151 hM154 M2187 (w155.trans (hk0.trans w171.symm)) (w156.trans (hk1.trans w172.symm)) (w157.trans (hk2.trans w173.symm)) (w158.trans (hk3.trans w174.symm)) (w159.trans (hk4.trans w175.symm)) (w160.trans (hk5.trans w176.symm)) (w161.trans (hk6.trans w177.symm)) (w162.trans (hk7.trans w178.symm)) (w163.trans (hk8.trans w179.symm)) (w164.trans (hk9.trans w180.symm)) (w165.trans (hk10.trans w181.symm)) (w166.trans (hk11.trans w182.symm)) (w167.trans (hk12.trans w184.symm)) (by omega) (w169.trans (hk14.trans w185.symm)) (w170.trans (hk15.trans w186.symm)) (by first | exact hI | exact TPL_k hd0 hI C198 (by omega) | (exfalso; omega)) (by first | exact hI | exact SCL_k hd1 hM (fun j _ => C188 j) (fun j _ => C189 j) (fun j _ _ => C196 j) | (exfalso; omega)) (by first | exact hI | exact SCL_k hd2 hM2 (fun j _ => C190 j) (fun j _ => C191 j) (fun j _ _ => C197 j) | (exfalso; omega)) (by first | exact hI | exact QRL_k hd3 hM (fun j _ => C192 j) (C196 1) (fun j _ _ => C196 j) | (exfalso; omega)) (by first | exact hI | exact QRL_k hd4 hM2 (fun j _ => C193 j) (C197 1) (fun j _ _ => C197 j) | (exfalso; omega)) (by first | exact hI | exact SDL_k hd5 hM (fun j _ => C194 j) (C196 1) (fun j _ _ => C196 j) (fun j _ _ => C196 j) | (exfalso; omega)) (by first | exact hI | exact SDL_k hd6 hM2 (fun j _ => C195 j) (C197 1) (fun j _ _ => C197 j) (fun j _ _ => C197 j) | (exfalso; omega))
    · skip
      obtain ⟨h149_0, h149_1, h149_2, h149_3, h149_4, h149_5, h149_6⟩ := h149
      have w199 : dt150 79 2 = dt 79 2 := h149_4.trans w37
      have w200 : dt150 79 19 = dt 79 19 := h149_5.trans w39
      have w201 : dt150 79 21 = dt 79 21 := h149_6.trans w40
      have M2202 : MW (dt150 81) := MW_frk M2132 hF152 (by decide)
      have C203 : ∀ j : Nat, dt150 2 j = dt 2 j := fun j => (hF152 2 (by decide) j).trans (C133 j)
      have C204 : ∀ j : Nat, dt150 3 j = dt 3 j := fun j => (hF152 3 (by decide) j).trans (C134 j)
      have C205 : ∀ j : Nat, dt150 19 j = dt 19 j := fun j => (hF152 19 (by decide) j).trans (C135 j)
      have C206 : ∀ j : Nat, dt150 20 j = dt 20 j := fun j => (hF152 20 (by decide) j).trans (C136 j)
      have C207 : ∀ j : Nat, dt150 8 j = dt 8 j := fun j => (hF152 8 (by decide) j).trans (C137 j)
      have C208 : ∀ j : Nat, dt150 25 j = dt 25 j := fun j => (hF152 25 (by decide) j).trans (C138 j)
      have C209 : ∀ j : Nat, dt150 9 j = dt 9 j := fun j => (hF152 9 (by decide) j).trans (C139 j)
      have C210 : ∀ j : Nat, dt150 26 j = dt 26 j := fun j => (hF152 26 (by decide) j).trans (C140 j)
      have C211 : ∀ j : Nat, dt150 80 j = dt 80 j := fun j => (hF152 80 (by decide) j).trans (C141 j)
      have C212 : ∀ j : Nat, dt150 81 j = dt 81 j := fun j => (hF152 81 (by decide) j).trans (C142 j)
      have E213 : TPL (dt7 36) (dt150 85) (dt7 35 1) := by first | exact TPL_f hd0 h6_3 (show FDX (dt 85) (dt150 85) (dt 35 1) (dt7 35 1) _ from by have z_ := h149_3; rw [show dt7 79 12 = dt 35 1 by first | with_reducible assumption | omega, show dt150 79 12 = dt7 35 1 by first | with_reducible assumption | omega, show dt7 85 = dt 85 from funext C143] at z_; exact z_) rfl rfl | (exfalso; omega)
      have E214 : TPL (dt150 36) (dt150 85) (dt150 35 1) := by have z_ := E213; rw [show dt150 36 = dt7 36 from (funext (hF152 36 (by decide))), show dt150 35 1 = dt7 35 1 by first | with_reducible assumption | omega]; exact z_
      refine go_toq PM267 (k := 2) (pc' := 1435) (L' := [some (.inr (.inr (some 3000))), some (.inr (.inr (some 0))), some (.inr (.inr (some 79))), some (.inl i)]) (st' := []) (w' := (SH, dt150)) rfl ?_
      exact K dt150 hI151 hM154 M2202 (w155.trans (hk0.trans w171.symm)) (w156.trans (hk1.trans w172.symm)) (w157.trans (hk2.trans w173.symm)) (w158.trans (hk3.trans w174.symm)) (w159.trans (hk4.trans w175.symm)) (w160.trans (hk5.trans w176.symm)) (w161.trans (hk6.trans w177.symm)) (w162.trans (hk7.trans w178.symm)) (w163.trans (hk8.trans w179.symm)) (w164.trans (hk9.trans w180.symm)) (w165.trans (hk10.trans w181.symm)) (w166.trans (hk11.trans w182.symm)) (w167.trans (hk12.trans w199.symm)) (by omega) (w169.trans (hk14.trans w200.symm)) (w170.trans (hk15.trans w201.symm)) (by first | exact E214 | exact TPL_k hd0 hI hI (by omega) | (exfalso; omega)) (by first | exact hI | exact SCL_k hd1 hM (fun j _ => C203 j) (fun j _ => C204 j) (fun j _ _ => C211 j) | (exfalso; omega)) (by first | exact hI | exact SCL_k hd2 hM2 (fun j _ => C205 j) (fun j _ => C206 j) (fun j _ _ => C212 j) | (exfalso; omega)) (by first | exact hI | exact QRL_k hd3 hM (fun j _ => C207 j) (C211 1) (fun j _ _ => C211 j) | (exfalso; omega)) (by first | exact hI | exact QRL_k hd4 hM2 (fun j _ => C208 j) (C212 1) (fun j _ _ => C212 j) | (exfalso; omega)) (by first | exact hI | exact SDL_k hd5 hM (fun j _ => C209 j) (C211 1) (fun j _ _ => C211 j) (fun j _ _ => C211 j) | (exfalso; omega)) (by first | exact hI | exact SDL_k hd6 hM2 (fun j _ => C210 j) (C212 1) (fun j _ _ => C212 j) (fun j _ _ => C212 j) | (exfalso; omega))
set_option maxRecDepth 20000 in
set_option maxHeartbeats 8000000 in
theorem sp_case2 (L : Nat) (xs : Nat → Int32) (sio : Option Nat) (d : Nat) (Q : Option AV → am_W → Prop) (hLL : L ≤ 3072) (i : Int) (hi : 0 ≤ i ∧ i ≤ 3066) (hil : i ≤ (L : Int) - 6) (dt : Nat → Nat → Int) (hI : InvC dt) (hM : MW (dt 80)) (hM2 : MW (dt 81)) (hk0 : dt 1 0 = dt 80 0) (hk1 : dt 7 3 = dt 80 1) (hk2 : dt 10 3 = dt 80 2) (hk3 : dt 12 3 = dt 80 3) (hk4 : dt 14 3 = dt 80 4) (hk5 : dt 16 3 = dt 80 5) (hk6 : dt 18 0 = dt 81 0) (hk7 : dt 24 3 = dt 81 1) (hk8 : dt 27 3 = dt 81 2) (hk9 : dt 29 3 = dt 81 3) (hk10 : dt 31 3 = dt 81 4) (hk11 : dt 33 3 = dt 81 5) (hk12 : dt 0 2 = dt 79 2) (hk13 : dt 35 1 = dt 79 12) (hk14 : dt 35 2 = dt 79 19) (hk15 : dt 35 3 = dt 79 21) (hd0 : TPL (dt 36) (dt 85) (dt 35 1)) (hd1 : SCL (dt 2) (dt 3) (dt 80)) (hd2 : SCL (dt 19) (dt 20) (dt 81)) (hd3 : QRL (dt 8) (dt 80)) (hd4 : QRL (dt 25) (dt 81)) (hd5 : SDL (dt 9) (dt 80)) (hd6 : SDL (dt 26) (dt 81)) (K : ∀ (dt : Nat → Nat → Int) (hI : InvC dt) (hM : MW (dt 80)) (hM2 : MW (dt 81)) (hk0 : dt 1 0 = dt 80 0) (hk1 : dt 7 3 = dt 80 1) (hk2 : dt 10 3 = dt 80 2) (hk3 : dt 12 3 = dt 80 3) (hk4 : dt 14 3 = dt 80 4) (hk5 : dt 16 3 = dt 80 5) (hk6 : dt 18 0 = dt 81 0) (hk7 : dt 24 3 = dt 81 1) (hk8 : dt 27 3 = dt 81 2) (hk9 : dt 29 3 = dt 81 3) (hk10 : dt 31 3 = dt 81 4) (hk11 : dt 33 3 = dt 81 5) (hk12 : dt 0 2 = dt 79 2) (hk13 : dt 35 1 = dt 79 12) (hk14 : dt 35 2 = dt 79 19) (hk15 : dt 35 3 = dt 79 21) (hd0 : TPL (dt 36) (dt 85) (dt 35 1)) (hd1 : SCL (dt 2) (dt 3) (dt 80)) (hd2 : SCL (dt 19) (dt 20) (dt 81)) (hd3 : QRL (dt 8) (dt 80)) (hd4 : QRL (dt 25) (dt 81)) (hd5 : SDL (dt 9) (dt 80)) (hd6 : SDL (dt 26) (dt 81)), GO (am_XX L xs sio) (d + 39) 267 1435 [some (.inr (.inr (some 3000))), some (.inr (.inr (some 0))), some (.inr (.inr (some 79))), some (.inl i)] [] (SH, dt) Q) : GO (am_XX L xs sio) (d + 39) 267 266 [some (.inr (.inr (some 3000))), some (.inr (.inr (some 0))), some (.inr (.inr (some 79))), some (.inl i)] [] (SH, dt) Q := by
  have hF : Fr [0, 1, 2, 3, 4, 5, 6, 7, 8, 9, 10, 11, 12, 13, 14, 15, 16, 17, 18, 19, 20, 21, 22, 23, 24, 25, 26, 27, 28, 29, 30, 31, 32, 33, 34, 35, 36, 37, 38, 39, 40, 41, 42, 43, 44, 45, 46, 47, 48, 49, 50, 51, 52, 53, 54, 55, 56, 57, 58, 59, 60, 61, 62, 63, 64, 65, 66, 67, 68, 69, 70, 71, 72, 73, 74, 75, 76, 77, 78, 79, 80, 81, 82, 83, 84, 85, 86, 87, 88, 89, 90, 91, 92, 93, 94, 95, 96, 97, 98, 99, 100, 101, 102, 103, 104] dt dt := Fr_refl
  have hqo := QOC_R hd3 hM hk1
  have hb1_ := hM.1.1
  refine go_toq PM267 (k := 5) (pc' := 271) (L' := [some (.inr (.inr (some 3000))), some (.inr (.inr (some 0))), some (.inr (.inr (some 79))), some (.inl i)]) (st' := [.inl (i + 1), .inr (.inr (some 3000)), .inr (.inr (some 0))]) (w' := (SH, dt)) rfl ?_
  have r1 := i32_R (xs ((i + 1).toNat))
  refine go_smpq PM267 (L' := [some (.inr (.inr (some 3000))), some (.inr (.inr (some 0))), some (.inr (.inr (some 79))), some (.inl i)]) (st' := [.inl ((xs ((i + 1).toNat)).toInt), .inr (.inr (some 0))]) (w' := (SH, dt)) rfl rfl (s_iald (n := L) (f := fun j => (xs j).toInt) (am_scr hLL) ⟨by omega, by omega⟩) ?_
  refine go_callq PM267 PM69 (Q' := _) rfl rfl rfl rfl (sp_X5_end_f L xs sio (d + 37) dt hI  ((xs ((i + 1).toNat)).toInt) ⟨by omega, by omega⟩ ) ?_
  rintro _ _ ⟨dt3, rfl, hI4, hF5, h2⟩
  refine ⟨rfl, ?_⟩
  have hF6 : Fr [0, 1, 2, 3, 4, 5, 6, 7, 8, 9, 10, 11, 12, 13, 14, 15, 16, 17, 18, 19, 20, 21, 22, 23, 24, 25, 26, 27, 28, 29, 30, 31, 32, 33, 34, 35, 36, 37, 38, 39, 40, 41, 42, 43, 44, 45, 46, 47, 48, 49, 50, 51, 52, 53, 54, 55, 56, 57, 58, 59, 60, 61, 62, 63, 64, 65, 66, 67, 68, 69, 70, 71, 72, 73, 74, 75, 76, 77, 78, 79, 80, 81, 82, 83, 84, 85, 86, 87, 88, 89, 90, 91, 92, 93, 94, 95, 96, 97, 98, 99, 100, 101, 102, 103, 104] dt dt3 := Fr_tr hF hF5 (by decide)
  have hM7 : MW (dt3 80) := MW_fr hM hF5 (by decide)
  have w8 : dt3 1 0 = dt 1 0 := hF5 1 (by decide) 0
  have w9 : dt3 7 3 = dt 7 3 := hF5 7 (by decide) 3
  have w10 : dt3 10 3 = dt 10 3 := hF5 10 (by decide) 3
  have w11 : dt3 12 3 = dt 12 3 := hF5 12 (by decide) 3
  have w12 : dt3 14 3 = dt 14 3 := hF5 14 (by decide) 3
  have w13 : dt3 16 3 = dt 16 3 := hF5 16 (by decide) 3
  have w14 : dt3 18 0 = dt 18 0 := hF5 18 (by decide) 0
  have w15 : dt3 24 3 = dt 24 3 := hF5 24 (by decide) 3
  have w16 : dt3 27 3 = dt 27 3 := hF5 27 (by decide) 3
  have w17 : dt3 29 3 = dt 29 3 := hF5 29 (by decide) 3
  have w18 : dt3 31 3 = dt 31 3 := hF5 31 (by decide) 3
  have w19 : dt3 33 3 = dt 33 3 := hF5 33 (by decide) 3
  have w20 : dt3 0 2 = dt 0 2 := hF5 0 (by decide) 2
  have w21 : dt3 80 0 = dt 80 0 := hF5 80 (by decide) 0
  have w22 : dt3 80 1 = dt 80 1 := hF5 80 (by decide) 1
  have w23 : dt3 80 2 = dt 80 2 := hF5 80 (by decide) 2
  have w24 : dt3 80 3 = dt 80 3 := hF5 80 (by decide) 3
  have w25 : dt3 80 4 = dt 80 4 := hF5 80 (by decide) 4
  have w26 : dt3 80 5 = dt 80 5 := hF5 80 (by decide) 5
  have w27 : dt3 81 0 = dt 81 0 := hF5 81 (by decide) 0
  have w28 : dt3 81 1 = dt 81 1 := hF5 81 (by decide) 1
  have w29 : dt3 81 2 = dt 81 2 := hF5 81 (by decide) 2
  have w30 : dt3 81 3 = dt 81 3 := hF5 81 (by decide) 3
  have w31 : dt3 81 4 = dt 81 4 := hF5 81 (by decide) 4
  have w32 : dt3 81 5 = dt 81 5 := hF5 81 (by decide) 5
  have w33 : dt3 79 2 = dt 79 2 := hF5 79 (by decide) 2
  have w34 : dt3 79 12 = dt 79 12 := hF5 79 (by decide) 12
  have w35 : dt3 79 19 = dt 79 19 := hF5 79 (by decide) 19
  have w36 : dt3 79 21 = dt 79 21 := hF5 79 (by decide) 21
  rcases h2 with ⟨rfl, h2⟩ | ⟨rfl, h2⟩
  · skip
    obtain ⟨h2_0, h2_1, h2_2, h2_3⟩ := h2
    have w37 : dt3 35 2 = dt 35 2 := h2_2
    have w38 : dt3 35 3 = dt 35 3 := h2_3
    have M239 : MW (dt3 81) := MW_frk hM2 hF5 (by decide)
    have C40 : ∀ j : Nat, dt3 2 j = dt 2 j := fun j => (hF5 2 (by decide) j).trans ((fun _ => rfl) j)
    have C41 : ∀ j : Nat, dt3 3 j = dt 3 j := fun j => (hF5 3 (by decide) j).trans ((fun _ => rfl) j)
    have C42 : ∀ j : Nat, dt3 19 j = dt 19 j := fun j => (hF5 19 (by decide) j).trans ((fun _ => rfl) j)
    have C43 : ∀ j : Nat, dt3 20 j = dt 20 j := fun j => (hF5 20 (by decide) j).trans ((fun _ => rfl) j)
    have C44 : ∀ j : Nat, dt3 8 j = dt 8 j := fun j => (hF5 8 (by decide) j).trans ((fun _ => rfl) j)
    have C45 : ∀ j : Nat, dt3 25 j = dt 25 j := fun j => (hF5 25 (by decide) j).trans ((fun _ => rfl) j)
    have C46 : ∀ j : Nat, dt3 9 j = dt 9 j := fun j => (hF5 9 (by decide) j).trans ((fun _ => rfl) j)
    have C47 : ∀ j : Nat, dt3 26 j = dt 26 j := fun j => (hF5 26 (by decide) j).trans ((fun _ => rfl) j)
    have C48 : ∀ j : Nat, dt3 36 j = dt 36 j := fun j => (hF5 36 (by decide) j).trans ((fun _ => rfl) j)
    have C49 : ∀ j : Nat, dt3 80 j = dt 80 j := fun j => (hF5 80 (by decide) j).trans ((fun _ => rfl) j)
    have C50 : ∀ j : Nat, dt3 81 j = dt 81 j := fun j => (hF5 81 (by decide) j).trans ((fun _ => rfl) j)
    have C51 : ∀ j : Nat, dt3 85 j = dt 85 j := fun j => (hF5 85 (by decide) j).trans ((fun _ => rfl) j)
    refine go_toq PM267 (k := 6) (pc' := 281) (L' := [some (.inr (.inr (some 3000))), some (.inr (.inr (some 0))), some (.inr (.inr (some 79))), some (.inl i)]) (st' := [.inl (i + 1), .inr (.inr (some 3000)), .inr (.inr (some 79))]) (w' := (SH, dt3)) rfl ?_
    have r52 := i32_R (xs ((i + 1).toNat))
    refine go_smpq PM267 (L' := [some (.inr (.inr (some 3000))), some (.inr (.inr (some 0))), some (.inr (.inr (some 79))), some (.inl i)]) (st' := [.inl ((xs ((i + 1).toNat)).toInt), .inr (.inr (some 79))]) (w' := (SH, dt3)) rfl rfl (s_iald (n := L) (f := fun j => (xs j).toInt) (am_scr hLL) ⟨by omega, by omega⟩) ?_
    refine go_callq PM267 PM152 (Q' := _) rfl rfl rfl rfl (sp_X6_end_f L xs sio (d + 37) dt3 hI4  ((xs ((i + 1).toNat)).toInt) ⟨by omega, by omega⟩ ) ?_
    rintro _ _ ⟨dt54, rfl, hI55, hF56, h53⟩
    refine ⟨rfl, ?_⟩
    have hF57 : Fr [0, 1, 2, 3, 4, 5, 6, 7, 8, 9, 10, 11, 12, 13, 14, 15, 16, 17, 18, 19, 20, 21, 22, 23, 24, 25, 26, 27, 28, 29, 30, 31, 32, 33, 34, 35, 36, 37, 38, 39, 40, 41, 42, 43, 44, 45, 46, 47, 48, 49, 50, 51, 52, 53, 54, 55, 56, 57, 58, 59, 60, 61, 62, 63, 64, 65, 66, 67, 68, 69, 70, 71, 72, 73, 74, 75, 76, 77, 78, 79, 80, 81, 82, 83, 84, 85, 86, 87, 88, 89, 90, 91, 92, 93, 94, 95, 96, 97, 98, 99, 100, 101, 102, 103, 104] dt dt54 := Fr_tr hF6 hF56 (by decide)
    have hM58 : MW (dt54 80) := MW_fr hM7 hF56 (by decide)
    have w59 : dt54 1 0 = dt 1 0 := (hF56 1 (by decide) 0).trans w8
    have w60 : dt54 7 3 = dt 7 3 := (hF56 7 (by decide) 3).trans w9
    have w61 : dt54 10 3 = dt 10 3 := (hF56 10 (by decide) 3).trans w10
    have w62 : dt54 12 3 = dt 12 3 := (hF56 12 (by decide) 3).trans w11
    have w63 : dt54 14 3 = dt 14 3 := (hF56 14 (by decide) 3).trans w12
    have w64 : dt54 16 3 = dt 16 3 := (hF56 16 (by decide) 3).trans w13
    have w65 : dt54 18 0 = dt 18 0 := (hF56 18 (by decide) 0).trans w14
    have w66 : dt54 24 3 = dt 24 3 := (hF56 24 (by decide) 3).trans w15
    have w67 : dt54 27 3 = dt 27 3 := (hF56 27 (by decide) 3).trans w16
    have w68 : dt54 29 3 = dt 29 3 := (hF56 29 (by decide) 3).trans w17
    have w69 : dt54 31 3 = dt 31 3 := (hF56 31 (by decide) 3).trans w18
    have w70 : dt54 33 3 = dt 33 3 := (hF56 33 (by decide) 3).trans w19
    have w71 : dt54 0 2 = dt 0 2 := (hF56 0 (by decide) 2).trans w20
    have w72 : dt54 35 1 = dt3 35 1 := hF56 35 (by decide) 1
    have w73 : dt54 35 2 = dt 35 2 := (hF56 35 (by decide) 2).trans w37
    have w74 : dt54 35 3 = dt 35 3 := (hF56 35 (by decide) 3).trans w38
    have w75 : dt54 80 0 = dt 80 0 := (hF56 80 (by decide) 0).trans w21
    have w76 : dt54 80 1 = dt 80 1 := (hF56 80 (by decide) 1).trans w22
    have w77 : dt54 80 2 = dt 80 2 := (hF56 80 (by decide) 2).trans w23
    have w78 : dt54 80 3 = dt 80 3 := (hF56 80 (by decide) 3).trans w24
    have w79 : dt54 80 4 = dt 80 4 := (hF56 80 (by decide) 4).trans w25
    have w80 : dt54 80 5 = dt 80 5 := (hF56 80 (by decide) 5).trans w26
    have w81 : dt54 81 0 = dt 81 0 := (hF56 81 (by decide) 0).trans w27
    have w82 : dt54 81 1 = dt 81 1 := (hF56 81 (by decide) 1).trans w28
    have w83 : dt54 81 2 = dt 81 2 := (hF56 81 (by decide) 2).trans w29
    have w84 : dt54 81 3 = dt 81 3 := (hF56 81 (by decide) 3).trans w30
    have w85 : dt54 81 4 = dt 81 4 := (hF56 81 (by decide) 4).trans w31
    have w86 : dt54 81 5 = dt 81 5 := (hF56 81 (by decide) 5).trans w32
    rcases h53 with ⟨rfl, h53⟩ | ⟨rfl, h53⟩
    · skip
      obtain ⟨h53_0, h53_1, h53_2, h53_3, h53_4⟩ := h53
      have w87 : dt54 79 2 = dt 79 2 := h53_2.trans w33
      have w88 : dt54 79 19 = dt 79 19 := h53_3.trans w35
      have w89 : dt54 79 21 = dt 79 21 := h53_4.trans w36
      have M290 : MW (dt54 81) := MW_frk M239 hF56 (by decide)
      have C91 : ∀ j : Nat, dt54 2 j = dt 2 j := fun j => (hF56 2 (by decide) j).trans (C40 j)
      have C92 : ∀ j : Nat, dt54 3 j = dt 3 j := fun j => (hF56 3 (by decide) j).trans (C41 j)
      have C93 : ∀ j : Nat, dt54 19 j = dt 19 j := fun j => (hF56 19 (by decide) j).trans (C42 j)
      have C94 : ∀ j : Nat, dt54 20 j = dt 20 j := fun j => (hF56 20 (by decide) j).trans (C43 j)
      have C95 : ∀ j : Nat, dt54 8 j = dt 8 j := fun j => (hF56 8 (by decide) j).trans (C44 j)
      have C96 : ∀ j : Nat, dt54 25 j = dt 25 j := fun j => (hF56 25 (by decide) j).trans (C45 j)
      have C97 : ∀ j : Nat, dt54 9 j = dt 9 j := fun j => (hF56 9 (by decide) j).trans (C46 j)
      have C98 : ∀ j : Nat, dt54 26 j = dt 26 j := fun j => (hF56 26 (by decide) j).trans (C47 j)
      have C99 : ∀ j : Nat, dt54 36 j = dt 36 j := fun j => (hF56 36 (by decide) j).trans (C48 j)
      have C100 : ∀ j : Nat, dt54 80 j = dt 80 j := fun j => (hF56 80 (by decide) j).trans (C49 j)
      have C101 : ∀ j : Nat, dt54 81 j = dt 81 j := fun j => (hF56 81 (by decide) j).trans (C50 j)
      have C102 : ∀ j : Nat, dt54 85 j = dt 85 j := fun j => (hF56 85 (by decide) j).trans (C51 j)
      refine go_toq PM267 (k := 2) (pc' := 1435) (L' := [some (.inr (.inr (some 3000))), some (.inr (.inr (some 0))), some (.inr (.inr (some 79))), some (.inl i)]) (st' := []) (w' := (SH, dt54)) rfl ?_
      exact K dt54 hI55 hM58 M290 (w59.trans (hk0.trans w75.symm)) (w60.trans (hk1.trans w76.symm)) (w61.trans (hk2.trans w77.symm)) (w62.trans (hk3.trans w78.symm)) (w63.trans (hk4.trans w79.symm)) (w64.trans (hk5.trans w80.symm)) (w65.trans (hk6.trans w81.symm)) (w66.trans (hk7.trans w82.symm)) (w67.trans (hk8.trans w83.symm)) (w68.trans (hk9.trans w84.symm)) (w69.trans (hk10.trans w85.symm)) (w70.trans (hk11.trans w86.symm)) (w71.trans (hk12.trans w87.symm)) (by omega) (w73.trans (hk14.trans w88.symm)) (w74.trans (hk15.trans w89.symm)) (by first | exact hI | exact TPL_k hd0 C99 C102 (by omega) | (exfalso; omega)) (by first | exact hI | exact SCL_k hd1 hM (fun j _ => C91 j) (fun j _ => C92 j) (fun j _ _ => C100 j) | (exfalso; omega)) (by first | exact hI | exact SCL_k hd2 hM2 (fun j _ => C93 j) (fun j _ => C94 j) (fun j _ _ => C101 j) | (exfalso; omega)) (by first | exact hI | exact QRL_k hd3 hM (fun j _ => C95 j) (C100 1) (fun j _ _ => C100 j) | (exfalso; omega)) (by first | exact hI | exact QRL_k hd4 hM2 (fun j _ => C96 j) (C101 1) (fun j _ _ => C101 j) | (exfalso; omega)) (by first | exact hI | exact SDL_k hd5 hM (fun j _ => C97 j) (C100 1) (fun j _ _ => C100 j) (fun j _ _ => C100 j) | (exfalso; omega)) (by first | exact hI | exact SDL_k hd6 hM2 (fun j _ => C98 j) (C101 1) (fun j _ _ => C101 j) (fun j _ _ => C101 j) | (exfalso; omega))
    · skip
      obtain ⟨h53_0, h53_1, h53_2, h53_3, h53_4⟩ := h53
      have w103 : dt54 79 12 = dt 79 12 := h53_1.trans w34
      have w104 : dt54 79 2 = dt 79 2 := h53_2.trans w33
      have w105 : dt54 79 19 = dt 79 19 := h53_3.trans w35
      have w106 : dt54 79 21 = dt 79 21 := h53_4.trans w36
      have M2107 : MW (dt54 81) := MW_frk M239 hF56 (by decide)
      have C108 : ∀ j : Nat, dt54 2 j = dt 2 j := fun j => (hF56 2 (by decide) j).trans (C40 j)
      have C109 : ∀ j : Nat, dt54 3 j = dt 3 j := fun j => (hF56 3 (by decide) j).trans (C41 j)
      have C110 : ∀ j : Nat, dt54 19 j = dt 19 j := fun j => (hF56 19 (by decide) j).trans (C42 j)
      have C111 : ∀ j : Nat, dt54 20 j = dt 20 j := fun j => (hF56 20 (by decide) j).trans (C43 j)
      have C112 : ∀ j : Nat, dt54 8 j = dt 8 j := fun j => (hF56 8 (by decide) j).trans (C44 j)
      have C113 : ∀ j : Nat, dt54 25 j = dt 25 j := fun j => (hF56 25 (by decide) j).trans (C45 j)
      have C114 : ∀ j : Nat, dt54 9 j = dt 9 j := fun j => (hF56 9 (by decide) j).trans (C46 j)
      have C115 : ∀ j : Nat, dt54 26 j = dt 26 j := fun j => (hF56 26 (by decide) j).trans (C47 j)
      have C116 : ∀ j : Nat, dt54 36 j = dt 36 j := fun j => (hF56 36 (by decide) j).trans (C48 j)
      have C117 : ∀ j : Nat, dt54 80 j = dt 80 j := fun j => (hF56 80 (by decide) j).trans (C49 j)
      have C118 : ∀ j : Nat, dt54 81 j = dt 81 j := fun j => (hF56 81 (by decide) j).trans (C50 j)
      have C119 : ∀ j : Nat, dt54 85 j = dt 85 j := fun j => (hF56 85 (by decide) j).trans (C51 j)
      refine go_toq PM267 (k := 2) (pc' := 1435) (L' := [some (.inr (.inr (some 3000))), some (.inr (.inr (some 0))), some (.inr (.inr (some 79))), some (.inl i)]) (st' := []) (w' := (SH, dt54)) rfl ?_
      exact K dt54 hI55 hM58 M2107 (w59.trans (hk0.trans w75.symm)) (w60.trans (hk1.trans w76.symm)) (w61.trans (hk2.trans w77.symm)) (w62.trans (hk3.trans w78.symm)) (w63.trans (hk4.trans w79.symm)) (w64.trans (hk5.trans w80.symm)) (w65.trans (hk6.trans w81.symm)) (w66.trans (hk7.trans w82.symm)) (w67.trans (hk8.trans w83.symm)) (w68.trans (hk9.trans w84.symm)) (w69.trans (hk10.trans w85.symm)) (w70.trans (hk11.trans w86.symm)) (w71.trans (hk12.trans w104.symm)) (by omega) (w73.trans (hk14.trans w105.symm)) (w74.trans (hk15.trans w106.symm)) (by first | exact hI | exact TPL_k hd0 C116 C119 (by omega) | (exfalso; omega)) (by first | exact hI | exact SCL_k hd1 hM (fun j _ => C108 j) (fun j _ => C109 j) (fun j _ _ => C117 j) | (exfalso; omega)) (by first | exact hI | exact SCL_k hd2 hM2 (fun j _ => C110 j) (fun j _ => C111 j) (fun j _ _ => C118 j) | (exfalso; omega)) (by first | exact hI | exact QRL_k hd3 hM (fun j _ => C112 j) (C117 1) (fun j _ _ => C117 j) | (exfalso; omega)) (by first | exact hI | exact QRL_k hd4 hM2 (fun j _ => C113 j) (C118 1) (fun j _ _ => C118 j) | (exfalso; omega)) (by first | exact hI | exact SDL_k hd5 hM (fun j _ => C114 j) (C117 1) (fun j _ _ => C117 j) (fun j _ _ => C117 j) | (exfalso; omega)) (by first | exact hI | exact SDL_k hd6 hM2 (fun j _ => C115 j) (C118 1) (fun j _ _ => C118 j) (fun j _ _ => C118 j) | (exfalso; omega))
  · skip
    obtain ⟨h2_0, h2_1, h2_2, h2_3⟩ := h2
    have w120 : dt3 35 1 = dt 35 1 := h2_1
    have w121 : dt3 35 2 = dt 35 2 := h2_2
    have w122 : dt3 35 3 = dt 35 3 := h2_3
    have M2123 : MW (dt3 81) := MW_frk hM2 hF5 (by decide)
    have C124 : ∀ j : Nat, dt3 2 j = dt 2 j := fun j => (hF5 2 (by decide) j).trans ((fun _ => rfl) j)
    have C125 : ∀ j : Nat, dt3 3 j = dt 3 j := fun j => (hF5 3 (by decide) j).trans ((fun _ => rfl) j)
    have C126 : ∀ j : Nat, dt3 19 j = dt 19 j := fun j => (hF5 19 (by decide) j).trans ((fun _ => rfl) j)
    have C127 : ∀ j : Nat, dt3 20 j = dt 20 j := fun j => (hF5 20 (by decide) j).trans ((fun _ => rfl) j)
    have C128 : ∀ j : Nat, dt3 8 j = dt 8 j := fun j => (hF5 8 (by decide) j).trans ((fun _ => rfl) j)
    have C129 : ∀ j : Nat, dt3 25 j = dt 25 j := fun j => (hF5 25 (by decide) j).trans ((fun _ => rfl) j)
    have C130 : ∀ j : Nat, dt3 9 j = dt 9 j := fun j => (hF5 9 (by decide) j).trans ((fun _ => rfl) j)
    have C131 : ∀ j : Nat, dt3 26 j = dt 26 j := fun j => (hF5 26 (by decide) j).trans ((fun _ => rfl) j)
    have C132 : ∀ j : Nat, dt3 36 j = dt 36 j := fun j => (hF5 36 (by decide) j).trans ((fun _ => rfl) j)
    have C133 : ∀ j : Nat, dt3 80 j = dt 80 j := fun j => (hF5 80 (by decide) j).trans ((fun _ => rfl) j)
    have C134 : ∀ j : Nat, dt3 81 j = dt 81 j := fun j => (hF5 81 (by decide) j).trans ((fun _ => rfl) j)
    have C135 : ∀ j : Nat, dt3 85 j = dt 85 j := fun j => (hF5 85 (by decide) j).trans ((fun _ => rfl) j)
    refine go_toq PM267 (k := 6) (pc' := 281) (L' := [some (.inr (.inr (some 3000))), some (.inr (.inr (some 0))), some (.inr (.inr (some 79))), some (.inl i)]) (st' := [.inl (i + 1), .inr (.inr (some 3000)), .inr (.inr (some 79))]) (w' := (SH, dt3)) rfl ?_
    have r136 := i32_R (xs ((i + 1).toNat))
    refine go_smpq PM267 (L' := [some (.inr (.inr (some 3000))), some (.inr (.inr (some 0))), some (.inr (.inr (some 79))), some (.inl i)]) (st' := [.inl ((xs ((i + 1).toNat)).toInt), .inr (.inr (some 79))]) (w' := (SH, dt3)) rfl rfl (s_iald (n := L) (f := fun j => (xs j).toInt) (am_scr hLL) ⟨by omega, by omega⟩) ?_
    refine go_callq PM267 PM152 (Q' := _) rfl rfl rfl rfl (sp_X6_end_f L xs sio (d + 37) dt3 hI4  ((xs ((i + 1).toNat)).toInt) ⟨by omega, by omega⟩ ) ?_
    rintro _ _ ⟨dt138, rfl, hI139, hF140, h137⟩
    refine ⟨rfl, ?_⟩
    have hF141 : Fr [0, 1, 2, 3, 4, 5, 6, 7, 8, 9, 10, 11, 12, 13, 14, 15, 16, 17, 18, 19, 20, 21, 22, 23, 24, 25, 26, 27, 28, 29, 30, 31, 32, 33, 34, 35, 36, 37, 38, 39, 40, 41, 42, 43, 44, 45, 46, 47, 48, 49, 50, 51, 52, 53, 54, 55, 56, 57, 58, 59, 60, 61, 62, 63, 64, 65, 66, 67, 68, 69, 70, 71, 72, 73, 74, 75, 76, 77, 78, 79, 80, 81, 82, 83, 84, 85, 86, 87, 88, 89, 90, 91, 92, 93, 94, 95, 96, 97, 98, 99, 100, 101, 102, 103, 104] dt dt138 := Fr_tr hF6 hF140 (by decide)
    have hM142 : MW (dt138 80) := MW_fr hM7 hF140 (by decide)
    have w143 : dt138 1 0 = dt 1 0 := (hF140 1 (by decide) 0).trans w8
    have w144 : dt138 7 3 = dt 7 3 := (hF140 7 (by decide) 3).trans w9
    have w145 : dt138 10 3 = dt 10 3 := (hF140 10 (by decide) 3).trans w10
    have w146 : dt138 12 3 = dt 12 3 := (hF140 12 (by decide) 3).trans w11
    have w147 : dt138 14 3 = dt 14 3 := (hF140 14 (by decide) 3).trans w12
    have w148 : dt138 16 3 = dt 16 3 := (hF140 16 (by decide) 3).trans w13
    have w149 : dt138 18 0 = dt 18 0 := (hF140 18 (by decide) 0).trans w14
    have w150 : dt138 24 3 = dt 24 3 := (hF140 24 (by decide) 3).trans w15
    have w151 : dt138 27 3 = dt 27 3 := (hF140 27 (by decide) 3).trans w16
    have w152 : dt138 29 3 = dt 29 3 := (hF140 29 (by decide) 3).trans w17
    have w153 : dt138 31 3 = dt 31 3 := (hF140 31 (by decide) 3).trans w18
    have w154 : dt138 33 3 = dt 33 3 := (hF140 33 (by decide) 3).trans w19
    have w155 : dt138 0 2 = dt 0 2 := (hF140 0 (by decide) 2).trans w20
    have w156 : dt138 35 1 = dt 35 1 := (hF140 35 (by decide) 1).trans w120
    have w157 : dt138 35 2 = dt 35 2 := (hF140 35 (by decide) 2).trans w121
    have w158 : dt138 35 3 = dt 35 3 := (hF140 35 (by decide) 3).trans w122
    have w159 : dt138 80 0 = dt 80 0 := (hF140 80 (by decide) 0).trans w21
    have w160 : dt138 80 1 = dt 80 1 := (hF140 80 (by decide) 1).trans w22
    have w161 : dt138 80 2 = dt 80 2 := (hF140 80 (by decide) 2).trans w23
    have w162 : dt138 80 3 = dt 80 3 := (hF140 80 (by decide) 3).trans w24
    have w163 : dt138 80 4 = dt 80 4 := (hF140 80 (by decide) 4).trans w25
    have w164 : dt138 80 5 = dt 80 5 := (hF140 80 (by decide) 5).trans w26
    have w165 : dt138 81 0 = dt 81 0 := (hF140 81 (by decide) 0).trans w27
    have w166 : dt138 81 1 = dt 81 1 := (hF140 81 (by decide) 1).trans w28
    have w167 : dt138 81 2 = dt 81 2 := (hF140 81 (by decide) 2).trans w29
    have w168 : dt138 81 3 = dt 81 3 := (hF140 81 (by decide) 3).trans w30
    have w169 : dt138 81 4 = dt 81 4 := (hF140 81 (by decide) 4).trans w31
    have w170 : dt138 81 5 = dt 81 5 := (hF140 81 (by decide) 5).trans w32
    rcases h137 with ⟨rfl, h137⟩ | ⟨rfl, h137⟩
    · skip
      obtain ⟨h137_0, h137_1, h137_2, h137_3, h137_4⟩ := h137
      have w171 : dt138 79 2 = dt 79 2 := h137_2.trans w33
      have w172 : dt138 79 19 = dt 79 19 := h137_3.trans w35
      have w173 : dt138 79 21 = dt 79 21 := h137_4.trans w36
      have M2174 : MW (dt138 81) := MW_frk M2123 hF140 (by decide)
      have C175 : ∀ j : Nat, dt138 2 j = dt 2 j := fun j => (hF140 2 (by decide) j).trans (C124 j)
      have C176 : ∀ j : Nat, dt138 3 j = dt 3 j := fun j => (hF140 3 (by decide) j).trans (C125 j)
      have C177 : ∀ j : Nat, dt138 19 j = dt 19 j := fun j => (hF140 19 (by decide) j).trans (C126 j)
      have C178 : ∀ j : Nat, dt138 20 j = dt 20 j := fun j => (hF140 20 (by decide) j).trans (C127 j)
      have C179 : ∀ j : Nat, dt138 8 j = dt 8 j := fun j => (hF140 8 (by decide) j).trans (C128 j)
      have C180 : ∀ j : Nat, dt138 25 j = dt 25 j := fun j => (hF140 25 (by decide) j).trans (C129 j)
      have C181 : ∀ j : Nat, dt138 9 j = dt 9 j := fun j => (hF140 9 (by decide) j).trans (C130 j)
      have C182 : ∀ j : Nat, dt138 26 j = dt 26 j := fun j => (hF140 26 (by decide) j).trans (C131 j)
      have C183 : ∀ j : Nat, dt138 36 j = dt 36 j := fun j => (hF140 36 (by decide) j).trans (C132 j)
      have C184 : ∀ j : Nat, dt138 80 j = dt 80 j := fun j => (hF140 80 (by decide) j).trans (C133 j)
      have C185 : ∀ j : Nat, dt138 81 j = dt 81 j := fun j => (hF140 81 (by decide) j).trans (C134 j)
      have C186 : ∀ j : Nat, dt138 85 j = dt 85 j := fun j => (hF140 85 (by decide) j).trans (C135 j)
      refine go_toq PM267 (k := 2) (pc' := 1435) (L' := [some (.inr (.inr (some 3000))), some (.inr (.inr (some 0))), some (.inr (.inr (some 79))), some (.inl i)]) (st' := []) (w' := (SH, dt138)) rfl ?_
      exact K dt138 hI139 hM142 M2174 (w143.trans (hk0.trans w159.symm)) (w144.trans (hk1.trans w160.symm)) (w145.trans (hk2.trans w161.symm)) (w146.trans (hk3.trans w162.symm)) (w147.trans (hk4.trans w163.symm)) (w148.trans (hk5.trans w164.symm)) (w149.trans (hk6.trans w165.symm)) (w150.trans (hk7.trans w166.symm)) (w151.trans (hk8.trans w167.symm)) (w152.trans (hk9.trans w168.symm)) (w153.trans (hk10.trans w169.symm)) (w154.trans (hk11.trans w170.symm)) (w155.trans (hk12.trans w171.symm)) (by omega) (w157.trans (hk14.trans w172.symm)) (w158.trans (hk15.trans w173.symm)) (by first | exact hI | exact TPL_k hd0 C183 C186 (by omega) | (exfalso; omega)) (by first | exact hI | exact SCL_k hd1 hM (fun j _ => C175 j) (fun j _ => C176 j) (fun j _ _ => C184 j) | (exfalso; omega)) (by first | exact hI | exact SCL_k hd2 hM2 (fun j _ => C177 j) (fun j _ => C178 j) (fun j _ _ => C185 j) | (exfalso; omega)) (by first | exact hI | exact QRL_k hd3 hM (fun j _ => C179 j) (C184 1) (fun j _ _ => C184 j) | (exfalso; omega)) (by first | exact hI | exact QRL_k hd4 hM2 (fun j _ => C180 j) (C185 1) (fun j _ _ => C185 j) | (exfalso; omega)) (by first | exact hI | exact SDL_k hd5 hM (fun j _ => C181 j) (C184 1) (fun j _ _ => C184 j) (fun j _ _ => C184 j) | (exfalso; omega)) (by first | exact hI | exact SDL_k hd6 hM2 (fun j _ => C182 j) (C185 1) (fun j _ _ => C185 j) (fun j _ _ => C185 j) | (exfalso; omega))
    · skip
      obtain ⟨h137_0, h137_1, h137_2, h137_3, h137_4⟩ := h137
      have w187 : dt138 79 12 = dt 79 12 := h137_1.trans w34
      have w188 : dt138 79 2 = dt 79 2 := h137_2.trans w33
      have w189 : dt138 79 19 = dt 79 19 := h137_3.trans w35
      have w190 : dt138 79 21 = dt 79 21 := h137_4.trans w36
      have M2191 : MW (dt138 81) := MW_frk M2123 hF140 (by decide)
      have C192 : ∀ j : Nat, dt138 2 j = dt 2 j := fun j => (hF140 2 (by decide) j).trans (C124 j)
      have C193 : ∀ j : Nat, dt138 3 j = dt 3 j := fun j => (hF140 3 (by decide) j).trans (C125 j)
      have C194 : ∀ j : Nat, dt138 19 j = dt 19 j := fun j => (hF140 19 (by decide) j).trans (C126 j)
      have C195 : ∀ j : Nat, dt138 20 j = dt 20 j := fun j => (hF140 20 (by decide) j).trans (C127 j)
      have C196 : ∀ j : Nat, dt138 8 j = dt 8 j := fun j => (hF140 8 (by decide) j).trans (C128 j)
      have C197 : ∀ j : Nat, dt138 25 j = dt 25 j := fun j => (hF140 25 (by decide) j).trans (C129 j)
      have C198 : ∀ j : Nat, dt138 9 j = dt 9 j := fun j => (hF140 9 (by decide) j).trans (C130 j)
      have C199 : ∀ j : Nat, dt138 26 j = dt 26 j := fun j => (hF140 26 (by decide) j).trans (C131 j)
      have C200 : ∀ j : Nat, dt138 36 j = dt 36 j := fun j => (hF140 36 (by decide) j).trans (C132 j)
      have C201 : ∀ j : Nat, dt138 80 j = dt 80 j := fun j => (hF140 80 (by decide) j).trans (C133 j)
      have C202 : ∀ j : Nat, dt138 81 j = dt 81 j := fun j => (hF140 81 (by decide) j).trans (C134 j)
      have C203 : ∀ j : Nat, dt138 85 j = dt 85 j := fun j => (hF140 85 (by decide) j).trans (C135 j)
      refine go_toq PM267 (k := 2) (pc' := 1435) (L' := [some (.inr (.inr (some 3000))), some (.inr (.inr (some 0))), some (.inr (.inr (some 79))), some (.inl i)]) (st' := []) (w' := (SH, dt138)) rfl ?_
      exact K dt138 hI139 hM142 M2191 (w143.trans (hk0.trans w159.symm)) (w144.trans (hk1.trans w160.symm)) (w145.trans (hk2.trans w161.symm)) (w146.trans (hk3.trans w162.symm)) (w147.trans (hk4.trans w163.symm)) (w148.trans (hk5.trans w164.symm)) (w149.trans (hk6.trans w165.symm)) (w150.trans (hk7.trans w166.symm)) (w151.trans (hk8.trans w167.symm)) (w152.trans (hk9.trans w168.symm)) (w153.trans (hk10.trans w169.symm)) (w154.trans (hk11.trans w170.symm)) (w155.trans (hk12.trans w188.symm)) (w156.trans (hk13.trans w187.symm)) (w157.trans (hk14.trans w189.symm)) (w158.trans (hk15.trans w190.symm)) (by first | exact hI | exact TPL_k hd0 C200 C203 (by omega) | (exfalso; omega)) (by first | exact hI | exact SCL_k hd1 hM (fun j _ => C192 j) (fun j _ => C193 j) (fun j _ _ => C201 j) | (exfalso; omega)) (by first | exact hI | exact SCL_k hd2 hM2 (fun j _ => C194 j) (fun j _ => C195 j) (fun j _ _ => C202 j) | (exfalso; omega)) (by first | exact hI | exact QRL_k hd3 hM (fun j _ => C196 j) (C201 1) (fun j _ _ => C201 j) | (exfalso; omega)) (by first | exact hI | exact QRL_k hd4 hM2 (fun j _ => C197 j) (C202 1) (fun j _ _ => C202 j) | (exfalso; omega)) (by first | exact hI | exact SDL_k hd5 hM (fun j _ => C198 j) (C201 1) (fun j _ _ => C201 j) (fun j _ _ => C201 j) | (exfalso; omega)) (by first | exact hI | exact SDL_k hd6 hM2 (fun j _ => C199 j) (C202 1) (fun j _ _ => C202 j) (fun j _ _ => C202 j) | (exfalso; omega))
set_option maxRecDepth 20000 in
set_option maxHeartbeats 8000000 in
theorem sp_case3 (L : Nat) (xs : Nat → Int32) (sio : Option Nat) (d : Nat) (Q : Option AV → am_W → Prop) (hLL : L ≤ 3072) (i : Int) (hi : 0 ≤ i ∧ i ≤ 3066) (hil : i ≤ (L : Int) - 6) (dt : Nat → Nat → Int) (hI : InvC dt) (hM : MW (dt 80)) (hM2 : MW (dt 81)) (hk0 : dt 1 0 = dt 80 0) (hk1 : dt 7 3 = dt 80 1) (hk2 : dt 10 3 = dt 80 2) (hk3 : dt 12 3 = dt 80 3) (hk4 : dt 14 3 = dt 80 4) (hk5 : dt 16 3 = dt 80 5) (hk6 : dt 18 0 = dt 81 0) (hk7 : dt 24 3 = dt 81 1) (hk8 : dt 27 3 = dt 81 2) (hk9 : dt 29 3 = dt 81 3) (hk10 : dt 31 3 = dt 81 4) (hk11 : dt 33 3 = dt 81 5) (hk12 : dt 0 2 = dt 79 2) (hk13 : dt 35 1 = dt 79 12) (hk14 : dt 35 2 = dt 79 19) (hk15 : dt 35 3 = dt 79 21) (hd0 : TPL (dt 36) (dt 85) (dt 35 1)) (hd1 : SCL (dt 2) (dt 3) (dt 80)) (hd2 : SCL (dt 19) (dt 20) (dt 81)) (hd3 : QRL (dt 8) (dt 80)) (hd4 : QRL (dt 25) (dt 81)) (hd5 : SDL (dt 9) (dt 80)) (hd6 : SDL (dt 26) (dt 81)) (K : ∀ (dt : Nat → Nat → Int) (hI : InvC dt) (hM : MW (dt 80)) (hM2 : MW (dt 81)) (hk0 : dt 1 0 = dt 80 0) (hk1 : dt 7 3 = dt 80 1) (hk2 : dt 10 3 = dt 80 2) (hk3 : dt 12 3 = dt 80 3) (hk4 : dt 14 3 = dt 80 4) (hk5 : dt 16 3 = dt 80 5) (hk6 : dt 18 0 = dt 81 0) (hk7 : dt 24 3 = dt 81 1) (hk8 : dt 27 3 = dt 81 2) (hk9 : dt 29 3 = dt 81 3) (hk10 : dt 31 3 = dt 81 4) (hk11 : dt 33 3 = dt 81 5) (hk12 : dt 0 2 = dt 79 2) (hk13 : dt 35 1 = dt 79 12) (hk14 : dt 35 2 = dt 79 19) (hk15 : dt 35 3 = dt 79 21) (hd0 : TPL (dt 36) (dt 85) (dt 35 1)) (hd1 : SCL (dt 2) (dt 3) (dt 80)) (hd2 : SCL (dt 19) (dt 20) (dt 81)) (hd3 : QRL (dt 8) (dt 80)) (hd4 : QRL (dt 25) (dt 81)) (hd5 : SDL (dt 9) (dt 80)) (hd6 : SDL (dt 26) (dt 81)), GO (am_XX L xs sio) (d + 39) 267 1435 [some (.inr (.inr (some 3000))), some (.inr (.inr (some 0))), some (.inr (.inr (some 79))), some (.inl i)] [] (SH, dt) Q) : GO (am_XX L xs sio) (d + 39) 267 289 [some (.inr (.inr (some 3000))), some (.inr (.inr (some 0))), some (.inr (.inr (some 79))), some (.inl i)] [] (SH, dt) Q := by
  have hF : Fr [0, 1, 2, 3, 4, 5, 6, 7, 8, 9, 10, 11, 12, 13, 14, 15, 16, 17, 18, 19, 20, 21, 22, 23, 24, 25, 26, 27, 28, 29, 30, 31, 32, 33, 34, 35, 36, 37, 38, 39, 40, 41, 42, 43, 44, 45, 46, 47, 48, 49, 50, 51, 52, 53, 54, 55, 56, 57, 58, 59, 60, 61, 62, 63, 64, 65, 66, 67, 68, 69, 70, 71, 72, 73, 74, 75, 76, 77, 78, 79, 80, 81, 82, 83, 84, 85, 86, 87, 88, 89, 90, 91, 92, 93, 94, 95, 96, 97, 98, 99, 100, 101, 102, 103, 104] dt dt := Fr_refl
  have hqo := QOC_R hd3 hM hk1
  have hb1_ := hM.1.1
  have r1 : (-2147483648) ≤ dt 1 0 ∧ dt 1 0 ≤ 2147483647 := InvC_get hI 1 0 rfl rfl
  have r2 : 0 ≤ dt 7 3 ∧ dt 7 3 ≤ 12 := InvC_get hI 7 3 rfl rfl
  have r3 : 0 ≤ dt 10 3 ∧ dt 10 3 ≤ 40 := InvC_get hI 10 3 rfl rfl
  have r4 : 0 ≤ dt 12 3 ∧ dt 12 3 ≤ 300 := InvC_get hI 12 3 rfl rfl
  have r5 : 0 ≤ dt 14 3 ∧ dt 14 3 ≤ 40 := InvC_get hI 14 3 rfl rfl
  have r6 : 0 ≤ dt 16 3 ∧ dt 16 3 ≤ 20 := InvC_get hI 16 3 rfl rfl
  have r7 : (-2147483648) ≤ dt 18 0 ∧ dt 18 0 ≤ 2147483647 := InvC_get hI 18 0 rfl rfl
  have r8 : 0 ≤ dt 24 3 ∧ dt 24 3 ≤ 12 := InvC_get hI 24 3 rfl rfl
  have r9 : 0 ≤ dt 27 3 ∧ dt 27 3 ≤ 40 := InvC_get hI 27 3 rfl rfl
  have r10 : 0 ≤ dt 29 3 ∧ dt 29 3 ≤ 300 := InvC_get hI 29 3 rfl rfl
  have r11 : 0 ≤ dt 31 3 ∧ dt 31 3 ≤ 40 := InvC_get hI 31 3 rfl rfl
  have r12 : 0 ≤ dt 33 3 ∧ dt 33 3 ≤ 20 := InvC_get hI 33 3 rfl rfl
  have r13 : 0 ≤ dt 0 2 ∧ dt 0 2 ≤ 1 := InvC_get hI 0 2 rfl rfl
  have r14 : 0 ≤ dt 35 1 ∧ dt 35 1 ≤ 500 := InvC_get hI 35 1 rfl rfl
  have r15 : (-2147483648) ≤ dt 35 2 ∧ dt 35 2 ≤ 2147483647 := InvC_get hI 35 2 rfl rfl
  have r16 : (-2147483648) ≤ dt 35 3 ∧ dt 35 3 ≤ 2147483647 := InvC_get hI 35 3 rfl rfl
  have r17 : (-2147483648) ≤ dt 80 0 ∧ dt 80 0 ≤ 2147483647 := InvC_get hI 80 0 rfl rfl
  have r18 : (-2147483648) ≤ dt 80 1 ∧ dt 80 1 ≤ 2147483647 := InvC_get hI 80 1 rfl rfl
  have r19 := MW_n hM
  have r20 : (-2147483648) ≤ dt 80 2 ∧ dt 80 2 ≤ 2147483647 := InvC_get hI 80 2 rfl rfl
  have r21 : (-2147483648) ≤ dt 80 3 ∧ dt 80 3 ≤ 2147483647 := InvC_get hI 80 3 rfl rfl
  have r22 : (-2147483648) ≤ dt 80 4 ∧ dt 80 4 ≤ 2147483647 := InvC_get hI 80 4 rfl rfl
  have r23 : (-2147483648) ≤ dt 80 5 ∧ dt 80 5 ≤ 2147483647 := InvC_get hI 80 5 rfl rfl
  have r24 : (-2147483648) ≤ dt 81 0 ∧ dt 81 0 ≤ 2147483647 := InvC_get hI 81 0 rfl rfl
  have r25 : (-2147483648) ≤ dt 81 1 ∧ dt 81 1 ≤ 2147483647 := InvC_get hI 81 1 rfl rfl
  have r26 : (-2147483648) ≤ dt 81 2 ∧ dt 81 2 ≤ 2147483647 := InvC_get hI 81 2 rfl rfl
  have r27 : (-2147483648) ≤ dt 81 3 ∧ dt 81 3 ≤ 2147483647 := InvC_get hI 81 3 rfl rfl
  have r28 : (-2147483648) ≤ dt 81 4 ∧ dt 81 4 ≤ 2147483647 := InvC_get hI 81 4 rfl rfl
  have r29 : (-2147483648) ≤ dt 81 5 ∧ dt 81 5 ≤ 2147483647 := InvC_get hI 81 5 rfl rfl
  have r30 : 0 ≤ dt 79 2 ∧ dt 79 2 ≤ 1 := InvC_get hI 79 2 rfl rfl
  have r31 : 0 ≤ dt 79 12 ∧ dt 79 12 ≤ 500 := InvC_get hI 79 12 rfl rfl
  have r32 : (-2147483648) ≤ dt 79 19 ∧ dt 79 19 ≤ 2147483647 := InvC_get hI 79 19 rfl rfl
  have r33 : (-2147483648) ≤ dt 79 21 ∧ dt 79 21 ≤ 2147483647 := InvC_get hI 79 21 rfl rfl
  refine go_toq PM267 (k := 5) (pc' := 294) (L' := [some (.inr (.inr (some 3000))), some (.inr (.inr (some 0))), some (.inr (.inr (some 79))), some (.inl i)]) (st' := [.inl (i + 1), .inr (.inr (some 3000)), .inr (.inr (some 0))]) (w' := (SH, dt)) rfl ?_
  have r34 := i32_R (xs ((i + 1).toNat))
  refine go_smpq PM267 (L' := [some (.inr (.inr (some 3000))), some (.inr (.inr (some 0))), some (.inr (.inr (some 79))), some (.inl i)]) (st' := [.inl ((xs ((i + 1).toNat)).toInt), .inr (.inr (some 0))]) (w' := (SH, dt)) rfl rfl (s_iald (n := L) (f := fun j => (xs j).toInt) (am_scr hLL) ⟨by omega, by omega⟩) ?_
  refine go_toq PM267 (k := 4) (pc' := 299) (L' := [some (.inr (.inr (some 3000))), some (.inr (.inr (some 0))), some (.inr (.inr (some 79))), some (.inl i)]) (st' := [.inl (i + 2), .inr (.inr (some 3000)), .inl ((xs ((i + 1).toNat)).toInt), .inr (.inr (some 0))]) (w' := (SH, dt)) rfl ?_
  have r35 := i32_R (xs ((i + 2).toNat))
  refine go_smpq PM267 (L' := [some (.inr (.inr (some 3000))), some (.inr (.inr (some 0))), some (.inr (.inr (some 79))), some (.inl i)]) (st' := [.inl ((xs ((i + 2).toNat)).toInt), .inl ((xs ((i + 1).toNat)).toInt), .inr (.inr (some 0))]) (w' := (SH, dt)) rfl rfl (s_iald (n := L) (f := fun j => (xs j).toInt) (am_scr hLL) ⟨by omega, by omega⟩) ?_
  refine go_callq PM267 PM70 (Q' := _) rfl rfl rfl rfl (sp_X5_text_h L xs sio (d + 15) dt hI hM  ((xs ((i + 1).toNat)).toInt) ⟨by omega, by omega⟩ ((xs ((i + 2).toNat)).toInt) ⟨by omega, by omega⟩ (by first | exact True.intro | with_reducible assumption | rfl | omega | trivial | exact hM2 | exact hd1 | exact hqo) (by first | exact True.intro | with_reducible assumption | rfl | omega | trivial | exact hM2 | exact hd1 | exact hqo)) ?_
  rintro _ _ ⟨dt37, rfl, hI38, hF39, h36⟩
  refine ⟨rfl, ?_⟩
  have hF40 : Fr [0, 1, 2, 3, 4, 5, 6, 7, 8, 9, 10, 11, 12, 13, 14, 15, 16, 17, 18, 19, 20, 21, 22, 23, 24, 25, 26, 27, 28, 29, 30, 31, 32, 33, 34, 35, 36, 37, 38, 39, 40, 41, 42, 43, 44, 45, 46, 47, 48, 49, 50, 51, 52, 53, 54, 55, 56, 57, 58, 59, 60, 61, 62, 63, 64, 65, 66, 67, 68, 69, 70, 71, 72, 73, 74, 75, 76, 77, 78, 79, 80, 81, 82, 83, 84, 85, 86, 87, 88, 89, 90, 91, 92, 93, 94, 95, 96, 97, 98, 99, 100, 101, 102, 103, 104] dt dt37 := Fr_tr hF hF39 (by decide)
  have hM41 : MW (dt37 80) := MW_fr hM hF39 (by decide)
  have w42 : dt37 1 0 = dt 1 0 := hF39 1 (by decide) 0
  have w43 : dt37 7 3 = dt 7 3 := hF39 7 (by decide) 3
  have w44 : dt37 10 3 = dt 10 3 := hF39 10 (by decide) 3
  have w45 : dt37 12 3 = dt 12 3 := hF39 12 (by decide) 3
  have w46 : dt37 14 3 = dt 14 3 := hF39 14 (by decide) 3
  have w47 : dt37 16 3 = dt 16 3 := hF39 16 (by decide) 3
  have w48 : dt37 18 0 = dt 18 0 := hF39 18 (by decide) 0
  have w49 : dt37 24 3 = dt 24 3 := hF39 24 (by decide) 3
  have w50 : dt37 27 3 = dt 27 3 := hF39 27 (by decide) 3
  have w51 : dt37 29 3 = dt 29 3 := hF39 29 (by decide) 3
  have w52 : dt37 31 3 = dt 31 3 := hF39 31 (by decide) 3
  have w53 : dt37 33 3 = dt 33 3 := hF39 33 (by decide) 3
  have w54 : dt37 0 2 = dt 0 2 := hF39 0 (by decide) 2
  have w55 : dt37 80 0 = dt 80 0 := hF39 80 (by decide) 0
  have w56 : dt37 80 1 = dt 80 1 := hF39 80 (by decide) 1
  have w57 : dt37 80 2 = dt 80 2 := hF39 80 (by decide) 2
  have w58 : dt37 80 3 = dt 80 3 := hF39 80 (by decide) 3
  have w59 : dt37 80 4 = dt 80 4 := hF39 80 (by decide) 4
  have w60 : dt37 80 5 = dt 80 5 := hF39 80 (by decide) 5
  have w61 : dt37 81 0 = dt 81 0 := hF39 81 (by decide) 0
  have w62 : dt37 81 1 = dt 81 1 := hF39 81 (by decide) 1
  have w63 : dt37 81 2 = dt 81 2 := hF39 81 (by decide) 2
  have w64 : dt37 81 3 = dt 81 3 := hF39 81 (by decide) 3
  have w65 : dt37 81 4 = dt 81 4 := hF39 81 (by decide) 4
  have w66 : dt37 81 5 = dt 81 5 := hF39 81 (by decide) 5
  have w67 : dt37 79 2 = dt 79 2 := hF39 79 (by decide) 2
  have w68 : dt37 79 12 = dt 79 12 := hF39 79 (by decide) 12
  have w69 : dt37 79 19 = dt 79 19 := hF39 79 (by decide) 19
  have w70 : dt37 79 21 = dt 79 21 := hF39 79 (by decide) 21
  rcases h36 with ⟨v_h36, rfl, h36r, h36⟩
  obtain ⟨h36_0, h36_1, h36_2, h36_3, h36_4, h36_5⟩ := h36
  have w71 : dt37 7 3 = dt 7 3 := h36_3
  have M272 : MW (dt37 81) := MW_frk hM2 hF39 (by decide)
  have C73 : ∀ j : Nat, dt37 19 j = dt 19 j := fun j => (hF39 19 (by decide) j).trans ((fun _ => rfl) j)
  have C74 : ∀ j : Nat, dt37 20 j = dt 20 j := fun j => (hF39 20 (by decide) j).trans ((fun _ => rfl) j)
  have C75 : ∀ j : Nat, dt37 8 j = dt 8 j := fun j => (hF39 8 (by decide) j).trans ((fun _ => rfl) j)
  have C76 : ∀ j : Nat, dt37 25 j = dt 25 j := fun j => (hF39 25 (by decide) j).trans ((fun _ => rfl) j)
  have C77 : ∀ j : Nat, dt37 26 j = dt 26 j := fun j => (hF39 26 (by decide) j).trans ((fun _ => rfl) j)
  have C78 : ∀ j : Nat, dt37 36 j = dt 36 j := fun j => (hF39 36 (by decide) j).trans ((fun _ => rfl) j)
  have C79 : ∀ j : Nat, dt37 80 j = dt 80 j := fun j => (hF39 80 (by decide) j).trans ((fun _ => rfl) j)
  have C80 : ∀ j : Nat, dt37 81 j = dt 81 j := fun j => (hF39 81 (by decide) j).trans ((fun _ => rfl) j)
  have C81 : ∀ j : Nat, dt37 85 j = dt 85 j := fun j => (hF39 85 (by decide) j).trans ((fun _ => rfl) j)
  refine go_toq PM267 (k := 6) (pc' := 309) (L' := [some (.inr (.inr (some 3000))), some (.inr (.inr (some 0))), some (.inr (.inr (some 79))), some (.inl i)]) (st' := [.inl (i + 1), .inr (.inr (some 3000)), .inr (.inr (some 79))]) (w' := (SH, dt37)) rfl ?_
  have r82 := i32_R (xs ((i + 1).toNat))
  refine go_smpq PM267 (L' := [some (.inr (.inr (some 3000))), some (.inr (.inr (some 0))), some (.inr (.inr (some 79))), some (.inl i)]) (st' := [.inl ((xs ((i + 1).toNat)).toInt), .inr (.inr (some 79))]) (w' := (SH, dt37)) rfl rfl (s_iald (n := L) (f := fun j => (xs j).toInt) (am_scr hLL) ⟨by omega, by omega⟩) ?_
  refine go_toq PM267 (k := 4) (pc' := 314) (L' := [some (.inr (.inr (some 3000))), some (.inr (.inr (some 0))), some (.inr (.inr (some 79))), some (.inl i)]) (st' := [.inl (i + 2), .inr (.inr (some 3000)), .inl ((xs ((i + 1).toNat)).toInt), .inr (.inr (some 79))]) (w' := (SH, dt37)) rfl ?_
  have r83 := i32_R (xs ((i + 2).toNat))
  refine go_smpq PM267 (L' := [some (.inr (.inr (some 3000))), some (.inr (.inr (some 0))), some (.inr (.inr (some 79))), some (.inl i)]) (st' := [.inl ((xs ((i + 2).toNat)).toInt), .inl ((xs ((i + 1).toNat)).toInt), .inr (.inr (some 79))]) (w' := (SH, dt37)) rfl rfl (s_iald (n := L) (f := fun j => (xs j).toInt) (am_scr hLL) ⟨by omega, by omega⟩) ?_
  refine go_callq PM267 PM174 (Q' := _) rfl rfl rfl rfl (sp_X6_text_qg L xs sio (d + 0) dt37 hI38 hM41  ((xs ((i + 1).toNat)).toInt) ⟨by omega, by omega⟩ ((xs ((i + 2).toNat)).toInt) ⟨by omega, by omega⟩ ) ?_
  rintro _ _ ⟨dt85, rfl, hI86, hF87, h84⟩
  refine ⟨rfl, ?_⟩
  have hF88 : Fr [0, 1, 2, 3, 4, 5, 6, 7, 8, 9, 10, 11, 12, 13, 14, 15, 16, 17, 18, 19, 20, 21, 22, 23, 24, 25, 26, 27, 28, 29, 30, 31, 32, 33, 34, 35, 36, 37, 38, 39, 40, 41, 42, 43, 44, 45, 46, 47, 48, 49, 50, 51, 52, 53, 54, 55, 56, 57, 58, 59, 60, 61, 62, 63, 64, 65, 66, 67, 68, 69, 70, 71, 72, 73, 74, 75, 76, 77, 78, 79, 80, 81, 82, 83, 84, 85, 86, 87, 88, 89, 90, 91, 92, 93, 94, 95, 96, 97, 98, 99, 100, 101, 102, 103, 104] dt dt85 := Fr_tr hF40 hF87 (by decide)
  have w89 : dt85 1 0 = dt 1 0 := (hF87 1 (by decide) 0).trans w42
  have w90 : dt85 7 3 = dt 7 3 := (hF87 7 (by decide) 3).trans w71
  have w91 : dt85 10 3 = dt 10 3 := (hF87 10 (by decide) 3).trans w44
  have w92 : dt85 12 3 = dt 12 3 := (hF87 12 (by decide) 3).trans w45
  have w93 : dt85 14 3 = dt 14 3 := (hF87 14 (by decide) 3).trans w46
  have w94 : dt85 16 3 = dt 16 3 := (hF87 16 (by decide) 3).trans w47
  have w95 : dt85 18 0 = dt 18 0 := (hF87 18 (by decide) 0).trans w48
  have w96 : dt85 24 3 = dt 24 3 := (hF87 24 (by decide) 3).trans w49
  have w97 : dt85 27 3 = dt 27 3 := (hF87 27 (by decide) 3).trans w50
  have w98 : dt85 29 3 = dt 29 3 := (hF87 29 (by decide) 3).trans w51
  have w99 : dt85 31 3 = dt 31 3 := (hF87 31 (by decide) 3).trans w52
  have w100 : dt85 33 3 = dt 33 3 := (hF87 33 (by decide) 3).trans w53
  have w101 : dt85 0 2 = dt 0 2 := (hF87 0 (by decide) 2).trans w54
  have w102 : dt85 35 1 = dt37 35 1 := hF87 35 (by decide) 1
  have w103 : dt85 35 2 = dt37 35 2 := hF87 35 (by decide) 2
  have w104 : dt85 35 3 = dt37 35 3 := hF87 35 (by decide) 3
  have w105 : dt85 81 0 = dt 81 0 := (hF87 81 (by decide) 0).trans w61
  have w106 : dt85 81 1 = dt 81 1 := (hF87 81 (by decide) 1).trans w62
  have w107 : dt85 81 2 = dt 81 2 := (hF87 81 (by decide) 2).trans w63
  have w108 : dt85 81 3 = dt 81 3 := (hF87 81 (by decide) 3).trans w64
  have w109 : dt85 81 4 = dt 81 4 := (hF87 81 (by decide) 4).trans w65
  have w110 : dt85 81 5 = dt 81 5 := (hF87 81 (by decide) 5).trans w66
  rcases h84 with ⟨v_h84, rfl, h84r, h84⟩
  have hM111 : MW (dt85 80) := h84.2.2.1
  obtain ⟨h84_0, h84_1, h84_2, h84_3, h84_4, h84_5, h84_6, h84_7, h84_8, h84_9, h84_10, h84_11, h84_12, h84_13⟩ := h84
  have w112 : dt85 79 2 = dt 79 2 := h84_1.trans w67
  have w113 : dt85 80 0 = dt 80 0 := h84_3.trans w55
  have w114 : dt85 80 1 = dt 80 1 := h84_4.trans w56
  have w115 : dt85 80 2 = dt 80 2 := h84_5.trans w57
  have w116 : dt85 80 3 = dt 80 3 := h84_6.trans w58
  have w117 : dt85 80 4 = dt 80 4 := h84_7.trans w59
  have w118 : dt85 80 5 = dt 80 5 := h84_8.trans w60
  have w119 : dt85 79 2 = dt 79 2 := h84_11.trans w67
  have M2120 : MW (dt85 81) := MW_frk M272 hF87 (by decide)
  have C121 : ∀ j : Nat, dt85 19 j = dt 19 j := fun j => (hF87 19 (by decide) j).trans (C73 j)
  have C122 : ∀ j : Nat, dt85 20 j = dt 20 j := fun j => (hF87 20 (by decide) j).trans (C74 j)
  have C123 : ∀ j : Nat, dt85 8 j = dt 8 j := fun j => (hF87 8 (by decide) j).trans (C75 j)
  have C124 : ∀ j : Nat, dt85 25 j = dt 25 j := fun j => (hF87 25 (by decide) j).trans (C76 j)
  have C125 : ∀ j : Nat, dt85 26 j = dt 26 j := fun j => (hF87 26 (by decide) j).trans (C77 j)
  have C126 : ∀ j : Nat, dt85 36 j = dt 36 j := fun j => (hF87 36 (by decide) j).trans (C78 j)
  have C127 : ∀ j : Nat, dt85 81 j = dt 81 j := fun j => (hF87 81 (by decide) j).trans (C80 j)
  have C128 : ∀ j : Nat, dt85 85 j = dt 85 j := fun j => (hF87 85 (by decide) j).trans (C81 j)
  have ts129 : _ := TSA_k h36_2 (hF87 2 (by decide)) (hF87 3 (by decide))
  have z130 := h84_12
  rw [show dt37 85 = dt 85 from funext C81, show dt37 79 12 = dt 79 12 by first | with_reducible assumption | omega, ← mB_con (g := fun j => am_and (dt 36 j) 255) (g' := dt 85) hd0 (show dt 79 12 = dt 35 1 by omega), show dt 79 12 = dt 35 1 by first | with_reducible assumption | omega] at z130
  have y131 := TRS_u h36_1 z130
  have z132 := h84_13
  rw [show dt37 85 = dt 85 from funext C81, show dt37 79 12 = dt 79 12 by first | with_reducible assumption | omega, ← mB_con (g := fun j => am_and (dt 36 j) 255) (g' := dt 85) hd0 (show dt 79 12 = dt 35 1 by omega), show dt 79 12 = dt 35 1 by first | with_reducible assumption | omega, show dt37 80 = dt 80 from funext C79] at z132
  have S133 : SCL (dt85 2) (dt85 3) (dt85 80) := SCL_t hd1 hM ts129 z132 (by omega) (by omega)
  have F134 : dt85 80 1 = dt 80 1 := (h84_9 1 (.inl rfl)).trans (C79 1)
  have F135 : ∀ j : Nat, 5320 ≤ j → j < 5380 → dt85 80 j = dt 80 j := fun j h1_ _ => (h84_9 j (.inr h1_)).trans (C79 j)
  have S136 : SDL (dt85 9) (dt85 80) := by by_cases z_ : (((xs ((i + 1).toNat)).toInt) = 0 ∧ (0 ≤ ((xs ((i + 2).toNat)).toInt) ∧ ((xs ((i + 2).toNat)).toInt) ≤ 7) ∧ dt37 35 2 = 0); (obtain ⟨F_, _, hSF_, hSA_⟩ := h36_5.1 z_; obtain ⟨_, y2_, _⟩ := z132.1 ⟨z_.1, z_.2.1, by omega⟩; rw [show dt37 2 = dt85 2 from (funext (hF87 2 (by decide))).symm, show dt37 3 = dt85 3 from (funext (hF87 3 (by decide))).symm] at hSF_; rw [show dt85 9 = dt37 9 from funext (hF87 9 (by decide))]; exact SDL_t (A2' := dt 0) (A3' := dt 0) hd5 hd3 hM hSA_ hSF_ S133 z_.2.1 hk1 F134 (fun j _ b_ c_ d_ => y2_ j b_ c_ d_) F135); exact SDL_k hd5 hM (fun j _ => (hF87 9 (by decide) j).trans (h36_5.2 z_ j)) F134 (fun j _ b_ => z132.2 (fun w_ => z_ ⟨w_.1, w_.2.1, by omega⟩) j b_) F135
  refine go_toq PM267 (k := 2) (pc' := 1435) (L' := [some (.inr (.inr (some 3000))), some (.inr (.inr (some 0))), some (.inr (.inr (some 79))), some (.inl i)]) (st' := []) (w' := (SH, dt85)) rfl ?_
  exact K dt85 hI86 hM111 M2120 (w89.trans (hk0.trans w113.symm)) (w90.trans (hk1.trans w114.symm)) (w91.trans (hk2.trans w115.symm)) (w92.trans (hk3.trans w116.symm)) (w93.trans (hk4.trans w117.symm)) (w94.trans (hk5.trans w118.symm)) (w95.trans (hk6.trans w105.symm)) (w96.trans (hk7.trans w106.symm)) (w97.trans (hk8.trans w107.symm)) (w98.trans (hk9.trans w108.symm)) (w99.trans (hk10.trans w109.symm)) (w100.trans (hk11.trans w110.symm)) (w101.trans (hk12.trans w119.symm)) (by omega) (by omega) (by omega) (by first | exact hI | exact TPL_k hd0 C126 C128 (by omega) | (exfalso; omega)) (by first | exact S133 | exact SCL_k hd1 hM hI hI hI | (exfalso; omega)) (by first | exact hI | exact SCL_k hd2 hM2 (fun j _ => C121 j) (fun j _ => C122 j) (fun j _ _ => C127 j) | (exfalso; omega)) (by first | exact hI | exact QRL_k hd3 hM (fun j _ => C123 j) F134 F135 | (exfalso; omega)) (by first | exact hI | exact QRL_k hd4 hM2 (fun j _ => C124 j) (C127 1) (fun j _ _ => C127 j) | (exfalso; omega)) (by first | exact S136 | exact SDL_k hd5 hM hI F134 hI F135 | (exfalso; omega)) (by first | exact hI | exact SDL_k hd6 hM2 (fun j _ => C125 j) (C127 1) (fun j _ _ => C127 j) (fun j _ _ => C127 j) | (exfalso; omega))
set_option maxRecDepth 20000 in
set_option maxHeartbeats 8000000 in
theorem sp_case4 (L : Nat) (xs : Nat → Int32) (sio : Option Nat) (d : Nat) (Q : Option AV → am_W → Prop) (hLL : L ≤ 3072) (i : Int) (hi : 0 ≤ i ∧ i ≤ 3066) (hil : i ≤ (L : Int) - 6) (dt : Nat → Nat → Int) (hI : InvC dt) (hM : MW (dt 80)) (hM2 : MW (dt 81)) (hk0 : dt 1 0 = dt 80 0) (hk1 : dt 7 3 = dt 80 1) (hk2 : dt 10 3 = dt 80 2) (hk3 : dt 12 3 = dt 80 3) (hk4 : dt 14 3 = dt 80 4) (hk5 : dt 16 3 = dt 80 5) (hk6 : dt 18 0 = dt 81 0) (hk7 : dt 24 3 = dt 81 1) (hk8 : dt 27 3 = dt 81 2) (hk9 : dt 29 3 = dt 81 3) (hk10 : dt 31 3 = dt 81 4) (hk11 : dt 33 3 = dt 81 5) (hk12 : dt 0 2 = dt 79 2) (hk13 : dt 35 1 = dt 79 12) (hk14 : dt 35 2 = dt 79 19) (hk15 : dt 35 3 = dt 79 21) (hd0 : TPL (dt 36) (dt 85) (dt 35 1)) (hd1 : SCL (dt 2) (dt 3) (dt 80)) (hd2 : SCL (dt 19) (dt 20) (dt 81)) (hd3 : QRL (dt 8) (dt 80)) (hd4 : QRL (dt 25) (dt 81)) (hd5 : SDL (dt 9) (dt 80)) (hd6 : SDL (dt 26) (dt 81)) (K : ∀ (dt : Nat → Nat → Int) (hI : InvC dt) (hM : MW (dt 80)) (hM2 : MW (dt 81)) (hk0 : dt 1 0 = dt 80 0) (hk1 : dt 7 3 = dt 80 1) (hk2 : dt 10 3 = dt 80 2) (hk3 : dt 12 3 = dt 80 3) (hk4 : dt 14 3 = dt 80 4) (hk5 : dt 16 3 = dt 80 5) (hk6 : dt 18 0 = dt 81 0) (hk7 : dt 24 3 = dt 81 1) (hk8 : dt 27 3 = dt 81 2) (hk9 : dt 29 3 = dt 81 3) (hk10 : dt 31 3 = dt 81 4) (hk11 : dt 33 3 = dt 81 5) (hk12 : dt 0 2 = dt 79 2) (hk13 : dt 35 1 = dt 79 12) (hk14 : dt 35 2 = dt 79 19) (hk15 : dt 35 3 = dt 79 21) (hd0 : TPL (dt 36) (dt 85) (dt 35 1)) (hd1 : SCL (dt 2) (dt 3) (dt 80)) (hd2 : SCL (dt 19) (dt 20) (dt 81)) (hd3 : QRL (dt 8) (dt 80)) (hd4 : QRL (dt 25) (dt 81)) (hd5 : SDL (dt 9) (dt 80)) (hd6 : SDL (dt 26) (dt 81)), GO (am_XX L xs sio) (d + 39) 267 1435 [some (.inr (.inr (some 3000))), some (.inr (.inr (some 0))), some (.inr (.inr (some 79))), some (.inl i)] [] (SH, dt) Q) : GO (am_XX L xs sio) (d + 39) 267 322 [some (.inr (.inr (some 3000))), some (.inr (.inr (some 0))), some (.inr (.inr (some 79))), some (.inl i)] [] (SH, dt) Q := by
  have hF : Fr [0, 1, 2, 3, 4, 5, 6, 7, 8, 9, 10, 11, 12, 13, 14, 15, 16, 17, 18, 19, 20, 21, 22, 23, 24, 25, 26, 27, 28, 29, 30, 31, 32, 33, 34, 35, 36, 37, 38, 39, 40, 41, 42, 43, 44, 45, 46, 47, 48, 49, 50, 51, 52, 53, 54, 55, 56, 57, 58, 59, 60, 61, 62, 63, 64, 65, 66, 67, 68, 69, 70, 71, 72, 73, 74, 75, 76, 77, 78, 79, 80, 81, 82, 83, 84, 85, 86, 87, 88, 89, 90, 91, 92, 93, 94, 95, 96, 97, 98, 99, 100, 101, 102, 103, 104] dt dt := Fr_refl
  have hqo := QOC_R hd3 hM hk1
  have hb1_ := hM.1.1
  refine go_toq PM267 (k := 5) (pc' := 327) (L' := [some (.inr (.inr (some 3000))), some (.inr (.inr (some 0))), some (.inr (.inr (some 79))), some (.inl i)]) (st' := [.inl (i + 1), .inr (.inr (some 3000)), .inr (.inr (some 0))]) (w' := (SH, dt)) rfl ?_
  have r1 := i32_R (xs ((i + 1).toNat))
  refine go_smpq PM267 (L' := [some (.inr (.inr (some 3000))), some (.inr (.inr (some 0))), some (.inr (.inr (some 79))), some (.inl i)]) (st' := [.inl ((xs ((i + 1).toNat)).toInt), .inr (.inr (some 0))]) (w' := (SH, dt)) rfl rfl (s_iald (n := L) (f := fun j => (xs j).toInt) (am_scr hLL) ⟨by omega, by omega⟩) ?_
  refine go_callq PM267 PM71 (Q' := _) rfl rfl rfl rfl (sp_X5_fault_f L xs sio (d + 38) dt hI  ((xs ((i + 1).toNat)).toInt) ⟨by omega, by omega⟩ ) ?_
  rintro _ _ ⟨rfl, h2⟩
  refine ⟨rfl, ?_⟩
  rcases h2 with ⟨v_h2, rfl, h2r, h2⟩
  refine go_toq PM267 (k := 6) (pc' := 337) (L' := [some (.inr (.inr (some 3000))), some (.inr (.inr (some 0))), some (.inr (.inr (some 79))), some (.inl i)]) (st' := [.inl (i + 1), .inr (.inr (some 3000)), .inr (.inr (some 79))]) (w' := (SH, dt)) rfl ?_
  refine go_smpq PM267 (L' := [some (.inr (.inr (some 3000))), some (.inr (.inr (some 0))), some (.inr (.inr (some 79))), some (.inl i)]) (st' := [.inl ((xs ((i + 1).toNat)).toInt), .inr (.inr (some 79))]) (w' := (SH, dt)) rfl rfl (s_iald (n := L) (f := fun j => (xs j).toInt) (am_scr hLL) ⟨by omega, by omega⟩) ?_
  refine go_callq PM267 PM176 (Q' := _) rfl rfl rfl rfl (sp_X6_fault_f L xs sio (d + 38) dt hI  ((xs ((i + 1).toNat)).toInt) ⟨by omega, by omega⟩ ) ?_
  rintro _ _ ⟨rfl, h3⟩
  refine ⟨rfl, ?_⟩
  rcases h3 with ⟨v_h3, rfl, h3r, h3⟩
  refine go_toq PM267 (k := 2) (pc' := 1435) (L' := [some (.inr (.inr (some 3000))), some (.inr (.inr (some 0))), some (.inr (.inr (some 79))), some (.inl i)]) (st' := []) (w' := (SH, dt)) rfl ?_
  exact K dt hI hM hM2 hk0 hk1 hk2 hk3 hk4 hk5 hk6 hk7 hk8 hk9 hk10 hk11 hk12 hk13 hk14 hk15 (by first | exact hI | exact TPL_k hd0 (fun _ => rfl) (fun _ => rfl) (by omega) | (exfalso; omega)) (by first | exact hI | exact SCL_k hd1 hM (fun j _ => (fun _ => rfl) j) (fun j _ => (fun _ => rfl) j) (fun j _ _ => (fun _ => rfl) j) | (exfalso; omega)) (by first | exact hI | exact SCL_k hd2 hM2 (fun j _ => (fun _ => rfl) j) (fun j _ => (fun _ => rfl) j) (fun j _ _ => (fun _ => rfl) j) | (exfalso; omega)) (by first | exact hI | exact QRL_k hd3 hM (fun j _ => (fun _ => rfl) j) ((fun _ => rfl) 1) (fun j _ _ => (fun _ => rfl) j) | (exfalso; omega)) (by first | exact hI | exact QRL_k hd4 hM2 (fun j _ => (fun _ => rfl) j) ((fun _ => rfl) 1) (fun j _ _ => (fun _ => rfl) j) | (exfalso; omega)) (by first | exact hI | exact SDL_k hd5 hM (fun j _ => (fun _ => rfl) j) ((fun _ => rfl) 1) (fun j _ _ => (fun _ => rfl) j) (fun j _ _ => (fun _ => rfl) j) | (exfalso; omega)) (by first | exact hI | exact SDL_k hd6 hM2 (fun j _ => (fun _ => rfl) j) ((fun _ => rfl) 1) (fun j _ _ => (fun _ => rfl) j) (fun j _ _ => (fun _ => rfl) j) | (exfalso; omega))
set_option maxRecDepth 20000 in
set_option maxHeartbeats 8000000 in
theorem sp_case5 (L : Nat) (xs : Nat → Int32) (sio : Option Nat) (d : Nat) (Q : Option AV → am_W → Prop) (hLL : L ≤ 3072) (i : Int) (hi : 0 ≤ i ∧ i ≤ 3066) (hil : i ≤ (L : Int) - 6) (dt : Nat → Nat → Int) (hI : InvC dt) (hM : MW (dt 80)) (hM2 : MW (dt 81)) (hk0 : dt 1 0 = dt 80 0) (hk1 : dt 7 3 = dt 80 1) (hk2 : dt 10 3 = dt 80 2) (hk3 : dt 12 3 = dt 80 3) (hk4 : dt 14 3 = dt 80 4) (hk5 : dt 16 3 = dt 80 5) (hk6 : dt 18 0 = dt 81 0) (hk7 : dt 24 3 = dt 81 1) (hk8 : dt 27 3 = dt 81 2) (hk9 : dt 29 3 = dt 81 3) (hk10 : dt 31 3 = dt 81 4) (hk11 : dt 33 3 = dt 81 5) (hk12 : dt 0 2 = dt 79 2) (hk13 : dt 35 1 = dt 79 12) (hk14 : dt 35 2 = dt 79 19) (hk15 : dt 35 3 = dt 79 21) (hd0 : TPL (dt 36) (dt 85) (dt 35 1)) (hd1 : SCL (dt 2) (dt 3) (dt 80)) (hd2 : SCL (dt 19) (dt 20) (dt 81)) (hd3 : QRL (dt 8) (dt 80)) (hd4 : QRL (dt 25) (dt 81)) (hd5 : SDL (dt 9) (dt 80)) (hd6 : SDL (dt 26) (dt 81)) (K : ∀ (dt : Nat → Nat → Int) (hI : InvC dt) (hM : MW (dt 80)) (hM2 : MW (dt 81)) (hk0 : dt 1 0 = dt 80 0) (hk1 : dt 7 3 = dt 80 1) (hk2 : dt 10 3 = dt 80 2) (hk3 : dt 12 3 = dt 80 3) (hk4 : dt 14 3 = dt 80 4) (hk5 : dt 16 3 = dt 80 5) (hk6 : dt 18 0 = dt 81 0) (hk7 : dt 24 3 = dt 81 1) (hk8 : dt 27 3 = dt 81 2) (hk9 : dt 29 3 = dt 81 3) (hk10 : dt 31 3 = dt 81 4) (hk11 : dt 33 3 = dt 81 5) (hk12 : dt 0 2 = dt 79 2) (hk13 : dt 35 1 = dt 79 12) (hk14 : dt 35 2 = dt 79 19) (hk15 : dt 35 3 = dt 79 21) (hd0 : TPL (dt 36) (dt 85) (dt 35 1)) (hd1 : SCL (dt 2) (dt 3) (dt 80)) (hd2 : SCL (dt 19) (dt 20) (dt 81)) (hd3 : QRL (dt 8) (dt 80)) (hd4 : QRL (dt 25) (dt 81)) (hd5 : SDL (dt 9) (dt 80)) (hd6 : SDL (dt 26) (dt 81)), GO (am_XX L xs sio) (d + 39) 267 1435 [some (.inr (.inr (some 3000))), some (.inr (.inr (some 0))), some (.inr (.inr (some 79))), some (.inl i)] [] (SH, dt) Q) : GO (am_XX L xs sio) (d + 39) 267 345 [some (.inr (.inr (some 3000))), some (.inr (.inr (some 0))), some (.inr (.inr (some 79))), some (.inl i)] [] (SH, dt) Q := by
  have hF : Fr [0, 1, 2, 3, 4, 5, 6, 7, 8, 9, 10, 11, 12, 13, 14, 15, 16, 17, 18, 19, 20, 21, 22, 23, 24, 25, 26, 27, 28, 29, 30, 31, 32, 33, 34, 35, 36, 37, 38, 39, 40, 41, 42, 43, 44, 45, 46, 47, 48, 49, 50, 51, 52, 53, 54, 55, 56, 57, 58, 59, 60, 61, 62, 63, 64, 65, 66, 67, 68, 69, 70, 71, 72, 73, 74, 75, 76, 77, 78, 79, 80, 81, 82, 83, 84, 85, 86, 87, 88, 89, 90, 91, 92, 93, 94, 95, 96, 97, 98, 99, 100, 101, 102, 103, 104] dt dt := Fr_refl
  have hqo := QOC_R hd3 hM hk1
  have hb1_ := hM.1.1
  refine go_toq PM267 (k := 5) (pc' := 350) (L' := [some (.inr (.inr (some 3000))), some (.inr (.inr (some 0))), some (.inr (.inr (some 79))), some (.inl i)]) (st' := [.inl (i + 1), .inr (.inr (some 3000)), .inr (.inr (some 0))]) (w' := (SH, dt)) rfl ?_
  have r1 := i32_R (xs ((i + 1).toNat))
  refine go_smpq PM267 (L' := [some (.inr (.inr (some 3000))), some (.inr (.inr (some 0))), some (.inr (.inr (some 79))), some (.inl i)]) (st' := [.inl ((xs ((i + 1).toNat)).toInt), .inr (.inr (some 0))]) (w' := (SH, dt)) rfl rfl (s_iald (n := L) (f := fun j => (xs j).toInt) (am_scr hLL) ⟨by omega, by omega⟩) ?_
  refine go_toq PM267 (k := 4) (pc' := 355) (L' := [some (.inr (.inr (some 3000))), some (.inr (.inr (some 0))), some (.inr (.inr (some 79))), some (.inl i)]) (st' := [.inl (i + 2), .inr (.inr (some 3000)), .inl ((xs ((i + 1).toNat)).toInt), .inr (.inr (some 0))]) (w' := (SH, dt)) rfl ?_
  have r2 := i32_R (xs ((i + 2).toNat))
  refine go_smpq PM267 (L' := [some (.inr (.inr (some 3000))), some (.inr (.inr (some 0))), some (.inr (.inr (some 79))), some (.inl i)]) (st' := [.inl ((xs ((i + 2).toNat)).toInt), .inl ((xs ((i + 1).toNat)).toInt), .inr (.inr (some 0))]) (w' := (SH, dt)) rfl rfl (s_iald (n := L) (f := fun j => (xs j).toInt) (am_scr hLL) ⟨by omega, by omega⟩) ?_
  refine go_toq PM267 (k := 4) (pc' := 360) (L' := [some (.inr (.inr (some 3000))), some (.inr (.inr (some 0))), some (.inr (.inr (some 79))), some (.inl i)]) (st' := [.inl (i + 3), .inr (.inr (some 3000)), .inl ((xs ((i + 2).toNat)).toInt), .inl ((xs ((i + 1).toNat)).toInt), .inr (.inr (some 0))]) (w' := (SH, dt)) rfl ?_
  have r3 := i32_R (xs ((i + 3).toNat))
  refine go_smpq PM267 (L' := [some (.inr (.inr (some 3000))), some (.inr (.inr (some 0))), some (.inr (.inr (some 79))), some (.inl i)]) (st' := [.inl ((xs ((i + 3).toNat)).toInt), .inl ((xs ((i + 2).toNat)).toInt), .inl ((xs ((i + 1).toNat)).toInt), .inr (.inr (some 0))]) (w' := (SH, dt)) rfl rfl (s_iald (n := L) (f := fun j => (xs j).toInt) (am_scr hLL) ⟨by omega, by omega⟩) ?_
  refine go_toq PM267 (k := 4) (pc' := 365) (L' := [some (.inr (.inr (some 3000))), some (.inr (.inr (some 0))), some (.inr (.inr (some 79))), some (.inl i)]) (st' := [.inl (i + 4), .inr (.inr (some 3000)), .inl ((xs ((i + 3).toNat)).toInt), .inl ((xs ((i + 2).toNat)).toInt), .inl ((xs ((i + 1).toNat)).toInt), .inr (.inr (some 0))]) (w' := (SH, dt)) rfl ?_
  have r4 := i32_R (xs ((i + 4).toNat))
  refine go_smpq PM267 (L' := [some (.inr (.inr (some 3000))), some (.inr (.inr (some 0))), some (.inr (.inr (some 79))), some (.inl i)]) (st' := [.inl ((xs ((i + 4).toNat)).toInt), .inl ((xs ((i + 3).toNat)).toInt), .inl ((xs ((i + 2).toNat)).toInt), .inl ((xs ((i + 1).toNat)).toInt), .inr (.inr (some 0))]) (w' := (SH, dt)) rfl rfl (s_iald (n := L) (f := fun j => (xs j).toInt) (am_scr hLL) ⟨by omega, by omega⟩) ?_
  refine go_callq PM267 PM72 (Q' := _) rfl rfl rfl rfl (sp_X5_after L xs sio (d + 33) dt hI  ((xs ((i + 1).toNat)).toInt) ⟨by omega, by omega⟩ ((xs ((i + 2).toNat)).toInt) ⟨by omega, by omega⟩ ((xs ((i + 3).toNat)).toInt) ⟨by omega, by omega⟩ ((xs ((i + 4).toNat)).toInt) ⟨by omega, by omega⟩ ) ?_
  rintro _ _ ⟨dt6, rfl, hI7, hF8, h5⟩
  refine ⟨rfl, ?_⟩
  have hF9 : Fr [0, 1, 2, 3, 4, 5, 6, 7, 8, 9, 10, 11, 12, 13, 14, 15, 16, 17, 18, 19, 20, 21, 22, 23, 24, 25, 26, 27, 28, 29, 30, 31, 32, 33, 34, 35, 36, 37, 38, 39, 40, 41, 42, 43, 44, 45, 46, 47, 48, 49, 50, 51, 52, 53, 54, 55, 56, 57, 58, 59, 60, 61, 62, 63, 64, 65, 66, 67, 68, 69, 70, 71, 72, 73, 74, 75, 76, 77, 78, 79, 80, 81, 82, 83, 84, 85, 86, 87, 88, 89, 90, 91, 92, 93, 94, 95, 96, 97, 98, 99, 100, 101, 102, 103, 104] dt dt6 := Fr_tr hF hF8 (by decide)
  have hM10 : MW (dt6 80) := MW_fr hM hF8 (by decide)
  have w11 : dt6 1 0 = dt 1 0 := hF8 1 (by decide) 0
  have w12 : dt6 7 3 = dt 7 3 := hF8 7 (by decide) 3
  have w13 : dt6 10 3 = dt 10 3 := hF8 10 (by decide) 3
  have w14 : dt6 12 3 = dt 12 3 := hF8 12 (by decide) 3
  have w15 : dt6 14 3 = dt 14 3 := hF8 14 (by decide) 3
  have w16 : dt6 16 3 = dt 16 3 := hF8 16 (by decide) 3
  have w17 : dt6 18 0 = dt 18 0 := hF8 18 (by decide) 0
  have w18 : dt6 24 3 = dt 24 3 := hF8 24 (by decide) 3
  have w19 : dt6 27 3 = dt 27 3 := hF8 27 (by decide) 3
  have w20 : dt6 29 3 = dt 29 3 := hF8 29 (by decide) 3
  have w21 : dt6 31 3 = dt 31 3 := hF8 31 (by decide) 3
  have w22 : dt6 33 3 = dt 33 3 := hF8 33 (by decide) 3
  have w23 : dt6 0 2 = dt 0 2 := hF8 0 (by decide) 2
  have w24 : dt6 35 1 = dt 35 1 := hF8 35 (by decide) 1
  have w25 : dt6 35 2 = dt 35 2 := hF8 35 (by decide) 2
  have w26 : dt6 35 3 = dt 35 3 := hF8 35 (by decide) 3
  have w27 : dt6 80 0 = dt 80 0 := hF8 80 (by decide) 0
  have w28 : dt6 80 1 = dt 80 1 := hF8 80 (by decide) 1
  have w29 : dt6 80 2 = dt 80 2 := hF8 80 (by decide) 2
  have w30 : dt6 80 3 = dt 80 3 := hF8 80 (by decide) 3
  have w31 : dt6 80 4 = dt 80 4 := hF8 80 (by decide) 4
  have w32 : dt6 80 5 = dt 80 5 := hF8 80 (by decide) 5
  have w33 : dt6 81 0 = dt 81 0 := hF8 81 (by decide) 0
  have w34 : dt6 81 1 = dt 81 1 := hF8 81 (by decide) 1
  have w35 : dt6 81 2 = dt 81 2 := hF8 81 (by decide) 2
  have w36 : dt6 81 3 = dt 81 3 := hF8 81 (by decide) 3
  have w37 : dt6 81 4 = dt 81 4 := hF8 81 (by decide) 4
  have w38 : dt6 81 5 = dt 81 5 := hF8 81 (by decide) 5
  have w39 : dt6 79 2 = dt 79 2 := hF8 79 (by decide) 2
  have w40 : dt6 79 12 = dt 79 12 := hF8 79 (by decide) 12
  have w41 : dt6 79 19 = dt 79 19 := hF8 79 (by decide) 19
  have w42 : dt6 79 21 = dt 79 21 := hF8 79 (by decide) 21
  rcases h5 with ⟨v_h5, rfl, h5r, h5⟩
  have M243 : MW (dt6 81) := MW_frk hM2 hF8 (by decide)
  have C44 : ∀ j : Nat, dt6 2 j = dt 2 j := fun j => (hF8 2 (by decide) j).trans ((fun _ => rfl) j)
  have C45 : ∀ j : Nat, dt6 3 j = dt 3 j := fun j => (hF8 3 (by decide) j).trans ((fun _ => rfl) j)
  have C46 : ∀ j : Nat, dt6 19 j = dt 19 j := fun j => (hF8 19 (by decide) j).trans ((fun _ => rfl) j)
  have C47 : ∀ j : Nat, dt6 20 j = dt 20 j := fun j => (hF8 20 (by decide) j).trans ((fun _ => rfl) j)
  have C48 : ∀ j : Nat, dt6 8 j = dt 8 j := fun j => (hF8 8 (by decide) j).trans ((fun _ => rfl) j)
  have C49 : ∀ j : Nat, dt6 25 j = dt 25 j := fun j => (hF8 25 (by decide) j).trans ((fun _ => rfl) j)
  have C50 : ∀ j : Nat, dt6 9 j = dt 9 j := fun j => (hF8 9 (by decide) j).trans ((fun _ => rfl) j)
  have C51 : ∀ j : Nat, dt6 26 j = dt 26 j := fun j => (hF8 26 (by decide) j).trans ((fun _ => rfl) j)
  have C52 : ∀ j : Nat, dt6 36 j = dt 36 j := fun j => (hF8 36 (by decide) j).trans ((fun _ => rfl) j)
  have C53 : ∀ j : Nat, dt6 80 j = dt 80 j := fun j => (hF8 80 (by decide) j).trans ((fun _ => rfl) j)
  have C54 : ∀ j : Nat, dt6 81 j = dt 81 j := fun j => (hF8 81 (by decide) j).trans ((fun _ => rfl) j)
  have C55 : ∀ j : Nat, dt6 85 j = dt 85 j := fun j => (hF8 85 (by decide) j).trans ((fun _ => rfl) j)
  refine go_toq PM267 (k := 6) (pc' := 375) (L' := [some (.inr (.inr (some 3000))), some (.inr (.inr (some 0))), some (.inr (.inr (some 79))), some (.inl i)]) (st' := [.inl (i + 1), .inr (.inr (some 3000)), .inr (.inr (some 79))]) (w' := (SH, dt6)) rfl ?_
  have r56 := i32_R (xs ((i + 1).toNat))
  refine go_smpq PM267 (L' := [some (.inr (.inr (some 3000))), some (.inr (.inr (some 0))), some (.inr (.inr (some 79))), some (.inl i)]) (st' := [.inl ((xs ((i + 1).toNat)).toInt), .inr (.inr (some 79))]) (w' := (SH, dt6)) rfl rfl (s_iald (n := L) (f := fun j => (xs j).toInt) (am_scr hLL) ⟨by omega, by omega⟩) ?_
  refine go_toq PM267 (k := 4) (pc' := 380) (L' := [some (.inr (.inr (some 3000))), some (.inr (.inr (some 0))), some (.inr (.inr (some 79))), some (.inl i)]) (st' := [.inl (i + 2), .inr (.inr (some 3000)), .inl ((xs ((i + 1).toNat)).toInt), .inr (.inr (some 79))]) (w' := (SH, dt6)) rfl ?_
  have r57 := i32_R (xs ((i + 2).toNat))
  refine go_smpq PM267 (L' := [some (.inr (.inr (some 3000))), some (.inr (.inr (some 0))), some (.inr (.inr (some 79))), some (.inl i)]) (st' := [.inl ((xs ((i + 2).toNat)).toInt), .inl ((xs ((i + 1).toNat)).toInt), .inr (.inr (some 79))]) (w' := (SH, dt6)) rfl rfl (s_iald (n := L) (f := fun j => (xs j).toInt) (am_scr hLL) ⟨by omega, by omega⟩) ?_
  refine go_toq PM267 (k := 4) (pc' := 385) (L' := [some (.inr (.inr (some 3000))), some (.inr (.inr (some 0))), some (.inr (.inr (some 79))), some (.inl i)]) (st' := [.inl (i + 3), .inr (.inr (some 3000)), .inl ((xs ((i + 2).toNat)).toInt), .inl ((xs ((i + 1).toNat)).toInt), .inr (.inr (some 79))]) (w' := (SH, dt6)) rfl ?_
  have r58 := i32_R (xs ((i + 3).toNat))
  refine go_smpq PM267 (L' := [some (.inr (.inr (some 3000))), some (.inr (.inr (some 0))), some (.inr (.inr (some 79))), some (.inl i)]) (st' := [.inl ((xs ((i + 3).toNat)).toInt), .inl ((xs ((i + 2).toNat)).toInt), .inl ((xs ((i + 1).toNat)).toInt), .inr (.inr (some 79))]) (w' := (SH, dt6)) rfl rfl (s_iald (n := L) (f := fun j => (xs j).toInt) (am_scr hLL) ⟨by omega, by omega⟩) ?_
  refine go_toq PM267 (k := 4) (pc' := 390) (L' := [some (.inr (.inr (some 3000))), some (.inr (.inr (some 0))), some (.inr (.inr (some 79))), some (.inl i)]) (st' := [.inl (i + 4), .inr (.inr (some 3000)), .inl ((xs ((i + 3).toNat)).toInt), .inl ((xs ((i + 2).toNat)).toInt), .inl ((xs ((i + 1).toNat)).toInt), .inr (.inr (some 79))]) (w' := (SH, dt6)) rfl ?_
  have r59 := i32_R (xs ((i + 4).toNat))
  refine go_smpq PM267 (L' := [some (.inr (.inr (some 3000))), some (.inr (.inr (some 0))), some (.inr (.inr (some 79))), some (.inl i)]) (st' := [.inl ((xs ((i + 4).toNat)).toInt), .inl ((xs ((i + 3).toNat)).toInt), .inl ((xs ((i + 2).toNat)).toInt), .inl ((xs ((i + 1).toNat)).toInt), .inr (.inr (some 79))]) (w' := (SH, dt6)) rfl rfl (s_iald (n := L) (f := fun j => (xs j).toInt) (am_scr hLL) ⟨by omega, by omega⟩) ?_
  refine go_callq PM267 PM188 (Q' := _) rfl rfl rfl rfl (sp_X6_after L xs sio (d + 33) dt6 hI7 hM10  ((xs ((i + 1).toNat)).toInt) ⟨by omega, by omega⟩ ((xs ((i + 2).toNat)).toInt) ⟨by omega, by omega⟩ ((xs ((i + 3).toNat)).toInt) ⟨by omega, by omega⟩ ((xs ((i + 4).toNat)).toInt) ⟨by omega, by omega⟩ ) ?_
  rintro _ _ ⟨dt61, rfl, hI62, hF63, h60⟩
  refine ⟨rfl, ?_⟩
  have hF64 : Fr [0, 1, 2, 3, 4, 5, 6, 7, 8, 9, 10, 11, 12, 13, 14, 15, 16, 17, 18, 19, 20, 21, 22, 23, 24, 25, 26, 27, 28, 29, 30, 31, 32, 33, 34, 35, 36, 37, 38, 39, 40, 41, 42, 43, 44, 45, 46, 47, 48, 49, 50, 51, 52, 53, 54, 55, 56, 57, 58, 59, 60, 61, 62, 63, 64, 65, 66, 67, 68, 69, 70, 71, 72, 73, 74, 75, 76, 77, 78, 79, 80, 81, 82, 83, 84, 85, 86, 87, 88, 89, 90, 91, 92, 93, 94, 95, 96, 97, 98, 99, 100, 101, 102, 103, 104] dt dt61 := Fr_tr hF9 hF63 (by decide)
  have hM65 : MW (dt61 80) := MW_fr hM10 hF63 (by decide)
  have w66 : dt61 1 0 = dt 1 0 := (hF63 1 (by decide) 0).trans w11
  have w67 : dt61 7 3 = dt 7 3 := (hF63 7 (by decide) 3).trans w12
  have w68 : dt61 10 3 = dt 10 3 := (hF63 10 (by decide) 3).trans w13
  have w69 : dt61 12 3 = dt 12 3 := (hF63 12 (by decide) 3).trans w14
  have w70 : dt61 14 3 = dt 14 3 := (hF63 14 (by decide) 3).trans w15
  have w71 : dt61 16 3 = dt 16 3 := (hF63 16 (by decide) 3).trans w16
  have w72 : dt61 18 0 = dt 18 0 := (hF63 18 (by decide) 0).trans w17
  have w73 : dt61 24 3 = dt 24 3 := (hF63 24 (by decide) 3).trans w18
  have w74 : dt61 27 3 = dt 27 3 := (hF63 27 (by decide) 3).trans w19
  have w75 : dt61 29 3 = dt 29 3 := (hF63 29 (by decide) 3).trans w20
  have w76 : dt61 31 3 = dt 31 3 := (hF63 31 (by decide) 3).trans w21
  have w77 : dt61 33 3 = dt 33 3 := (hF63 33 (by decide) 3).trans w22
  have w78 : dt61 0 2 = dt 0 2 := (hF63 0 (by decide) 2).trans w23
  have w79 : dt61 35 1 = dt 35 1 := (hF63 35 (by decide) 1).trans w24
  have w80 : dt61 35 2 = dt 35 2 := (hF63 35 (by decide) 2).trans w25
  have w81 : dt61 35 3 = dt 35 3 := (hF63 35 (by decide) 3).trans w26
  have w82 : dt61 80 0 = dt 80 0 := (hF63 80 (by decide) 0).trans w27
  have w83 : dt61 80 1 = dt 80 1 := (hF63 80 (by decide) 1).trans w28
  have w84 : dt61 80 2 = dt 80 2 := (hF63 80 (by decide) 2).trans w29
  have w85 : dt61 80 3 = dt 80 3 := (hF63 80 (by decide) 3).trans w30
  have w86 : dt61 80 4 = dt 80 4 := (hF63 80 (by decide) 4).trans w31
  have w87 : dt61 80 5 = dt 80 5 := (hF63 80 (by decide) 5).trans w32
  have w88 : dt61 81 0 = dt 81 0 := (hF63 81 (by decide) 0).trans w33
  have w89 : dt61 81 1 = dt 81 1 := (hF63 81 (by decide) 1).trans w34
  have w90 : dt61 81 2 = dt 81 2 := (hF63 81 (by decide) 2).trans w35
  have w91 : dt61 81 3 = dt 81 3 := (hF63 81 (by decide) 3).trans w36
  have w92 : dt61 81 4 = dt 81 4 := (hF63 81 (by decide) 4).trans w37
  have w93 : dt61 81 5 = dt 81 5 := (hF63 81 (by decide) 5).trans w38
  have w94 : dt61 79 2 = dt 79 2 := (hF63 79 (by decide) 2).trans w39
  have w95 : dt61 79 12 = dt 79 12 := (hF63 79 (by decide) 12).trans w40
  have w96 : dt61 79 19 = dt 79 19 := (hF63 79 (by decide) 19).trans w41
  have w97 : dt61 79 21 = dt 79 21 := (hF63 79 (by decide) 21).trans w42
  rcases h60 with ⟨v_h60, rfl, h60r, h60⟩
  have M298 : MW (dt61 81) := MW_frk M243 hF63 (by decide)
  have C99 : ∀ j : Nat, dt61 2 j = dt 2 j := fun j => (hF63 2 (by decide) j).trans (C44 j)
  have C100 : ∀ j : Nat, dt61 3 j = dt 3 j := fun j => (hF63 3 (by decide) j).trans (C45 j)
  have C101 : ∀ j : Nat, dt61 19 j = dt 19 j := fun j => (hF63 19 (by decide) j).trans (C46 j)
  have C102 : ∀ j : Nat, dt61 20 j = dt 20 j := fun j => (hF63 20 (by decide) j).trans (C47 j)
  have C103 : ∀ j : Nat, dt61 8 j = dt 8 j := fun j => (hF63 8 (by decide) j).trans (C48 j)
  have C104 : ∀ j : Nat, dt61 25 j = dt 25 j := fun j => (hF63 25 (by decide) j).trans (C49 j)
  have C105 : ∀ j : Nat, dt61 9 j = dt 9 j := fun j => (hF63 9 (by decide) j).trans (C50 j)
  have C106 : ∀ j : Nat, dt61 26 j = dt 26 j := fun j => (hF63 26 (by decide) j).trans (C51 j)
  have C107 : ∀ j : Nat, dt61 36 j = dt 36 j := fun j => (hF63 36 (by decide) j).trans (C52 j)
  have C108 : ∀ j : Nat, dt61 80 j = dt 80 j := fun j => (hF63 80 (by decide) j).trans (C53 j)
  have C109 : ∀ j : Nat, dt61 81 j = dt 81 j := fun j => (hF63 81 (by decide) j).trans (C54 j)
  have C110 : ∀ j : Nat, dt61 85 j = dt 85 j := fun j => (hF63 85 (by decide) j).trans (C55 j)
  refine go_toq PM267 (k := 2) (pc' := 1435) (L' := [some (.inr (.inr (some 3000))), some (.inr (.inr (some 0))), some (.inr (.inr (some 79))), some (.inl i)]) (st' := []) (w' := (SH, dt61)) rfl ?_
  exact K dt61 hI62 hM65 M298 (w66.trans (hk0.trans w82.symm)) (w67.trans (hk1.trans w83.symm)) (w68.trans (hk2.trans w84.symm)) (w69.trans (hk3.trans w85.symm)) (w70.trans (hk4.trans w86.symm)) (w71.trans (hk5.trans w87.symm)) (w72.trans (hk6.trans w88.symm)) (w73.trans (hk7.trans w89.symm)) (w74.trans (hk8.trans w90.symm)) (w75.trans (hk9.trans w91.symm)) (w76.trans (hk10.trans w92.symm)) (w77.trans (hk11.trans w93.symm)) (w78.trans (hk12.trans w94.symm)) (w79.trans (hk13.trans w95.symm)) (w80.trans (hk14.trans w96.symm)) (w81.trans (hk15.trans w97.symm)) (by first | exact hI | exact TPL_k hd0 C107 C110 (by omega) | (exfalso; omega)) (by first | exact hI | exact SCL_k hd1 hM (fun j _ => C99 j) (fun j _ => C100 j) (fun j _ _ => C108 j) | (exfalso; omega)) (by first | exact hI | exact SCL_k hd2 hM2 (fun j _ => C101 j) (fun j _ => C102 j) (fun j _ _ => C109 j) | (exfalso; omega)) (by first | exact hI | exact QRL_k hd3 hM (fun j _ => C103 j) (C108 1) (fun j _ _ => C108 j) | (exfalso; omega)) (by first | exact hI | exact QRL_k hd4 hM2 (fun j _ => C104 j) (C109 1) (fun j _ _ => C109 j) | (exfalso; omega)) (by first | exact hI | exact SDL_k hd5 hM (fun j _ => C105 j) (C108 1) (fun j _ _ => C108 j) (fun j _ _ => C108 j) | (exfalso; omega)) (by first | exact hI | exact SDL_k hd6 hM2 (fun j _ => C106 j) (C109 1) (fun j _ _ => C109 j) (fun j _ _ => C109 j) | (exfalso; omega))
set_option maxRecDepth 20000 in
set_option maxHeartbeats 8000000 in
theorem sp_case6 (L : Nat) (xs : Nat → Int32) (sio : Option Nat) (d : Nat) (Q : Option AV → am_W → Prop) (hLL : L ≤ 3072) (i : Int) (hi : 0 ≤ i ∧ i ≤ 3066) (hil : i ≤ (L : Int) - 6) (dt : Nat → Nat → Int) (hI : InvC dt) (hM : MW (dt 80)) (hM2 : MW (dt 81)) (hk0 : dt 1 0 = dt 80 0) (hk1 : dt 7 3 = dt 80 1) (hk2 : dt 10 3 = dt 80 2) (hk3 : dt 12 3 = dt 80 3) (hk4 : dt 14 3 = dt 80 4) (hk5 : dt 16 3 = dt 80 5) (hk6 : dt 18 0 = dt 81 0) (hk7 : dt 24 3 = dt 81 1) (hk8 : dt 27 3 = dt 81 2) (hk9 : dt 29 3 = dt 81 3) (hk10 : dt 31 3 = dt 81 4) (hk11 : dt 33 3 = dt 81 5) (hk12 : dt 0 2 = dt 79 2) (hk13 : dt 35 1 = dt 79 12) (hk14 : dt 35 2 = dt 79 19) (hk15 : dt 35 3 = dt 79 21) (hd0 : TPL (dt 36) (dt 85) (dt 35 1)) (hd1 : SCL (dt 2) (dt 3) (dt 80)) (hd2 : SCL (dt 19) (dt 20) (dt 81)) (hd3 : QRL (dt 8) (dt 80)) (hd4 : QRL (dt 25) (dt 81)) (hd5 : SDL (dt 9) (dt 80)) (hd6 : SDL (dt 26) (dt 81)) (K : ∀ (dt : Nat → Nat → Int) (hI : InvC dt) (hM : MW (dt 80)) (hM2 : MW (dt 81)) (hk0 : dt 1 0 = dt 80 0) (hk1 : dt 7 3 = dt 80 1) (hk2 : dt 10 3 = dt 80 2) (hk3 : dt 12 3 = dt 80 3) (hk4 : dt 14 3 = dt 80 4) (hk5 : dt 16 3 = dt 80 5) (hk6 : dt 18 0 = dt 81 0) (hk7 : dt 24 3 = dt 81 1) (hk8 : dt 27 3 = dt 81 2) (hk9 : dt 29 3 = dt 81 3) (hk10 : dt 31 3 = dt 81 4) (hk11 : dt 33 3 = dt 81 5) (hk12 : dt 0 2 = dt 79 2) (hk13 : dt 35 1 = dt 79 12) (hk14 : dt 35 2 = dt 79 19) (hk15 : dt 35 3 = dt 79 21) (hd0 : TPL (dt 36) (dt 85) (dt 35 1)) (hd1 : SCL (dt 2) (dt 3) (dt 80)) (hd2 : SCL (dt 19) (dt 20) (dt 81)) (hd3 : QRL (dt 8) (dt 80)) (hd4 : QRL (dt 25) (dt 81)) (hd5 : SDL (dt 9) (dt 80)) (hd6 : SDL (dt 26) (dt 81)), GO (am_XX L xs sio) (d + 39) 267 1435 [some (.inr (.inr (some 3000))), some (.inr (.inr (some 0))), some (.inr (.inr (some 79))), some (.inl i)] [] (SH, dt) Q) : GO (am_XX L xs sio) (d + 39) 267 398 [some (.inr (.inr (some 3000))), some (.inr (.inr (some 0))), some (.inr (.inr (some 79))), some (.inl i)] [] (SH, dt) Q := by
  have hF : Fr [0, 1, 2, 3, 4, 5, 6, 7, 8, 9, 10, 11, 12, 13, 14, 15, 16, 17, 18, 19, 20, 21, 22, 23, 24, 25, 26, 27, 28, 29, 30, 31, 32, 33, 34, 35, 36, 37, 38, 39, 40, 41, 42, 43, 44, 45, 46, 47, 48, 49, 50, 51, 52, 53, 54, 55, 56, 57, 58, 59, 60, 61, 62, 63, 64, 65, 66, 67, 68, 69, 70, 71, 72, 73, 74, 75, 76, 77, 78, 79, 80, 81, 82, 83, 84, 85, 86, 87, 88, 89, 90, 91, 92, 93, 94, 95, 96, 97, 98, 99, 100, 101, 102, 103, 104] dt dt := Fr_refl
  have hqo := QOC_R hd3 hM hk1
  have hb1_ := hM.1.1
  refine go_toq PM267 (k := 5) (pc' := 403) (L' := [some (.inr (.inr (some 3000))), some (.inr (.inr (some 0))), some (.inr (.inr (some 79))), some (.inl i)]) (st' := [.inl (i + 1), .inr (.inr (some 3000)), .inr (.inr (some 0))]) (w' := (SH, dt)) rfl ?_
  have r1 := i32_R (xs ((i + 1).toNat))
  refine go_smpq PM267 (L' := [some (.inr (.inr (some 3000))), some (.inr (.inr (some 0))), some (.inr (.inr (some 79))), some (.inl i)]) (st' := [.inl ((xs ((i + 1).toNat)).toInt), .inr (.inr (some 0))]) (w' := (SH, dt)) rfl rfl (s_iald (n := L) (f := fun j => (xs j).toInt) (am_scr hLL) ⟨by omega, by omega⟩) ?_
  refine go_toq PM267 (k := 4) (pc' := 408) (L' := [some (.inr (.inr (some 3000))), some (.inr (.inr (some 0))), some (.inr (.inr (some 79))), some (.inl i)]) (st' := [.inl (i + 2), .inr (.inr (some 3000)), .inl ((xs ((i + 1).toNat)).toInt), .inr (.inr (some 0))]) (w' := (SH, dt)) rfl ?_
  have r2 := i32_R (xs ((i + 2).toNat))
  refine go_smpq PM267 (L' := [some (.inr (.inr (some 3000))), some (.inr (.inr (some 0))), some (.inr (.inr (some 79))), some (.inl i)]) (st' := [.inl ((xs ((i + 2).toNat)).toInt), .inl ((xs ((i + 1).toNat)).toInt), .inr (.inr (some 0))]) (w' := (SH, dt)) rfl rfl (s_iald (n := L) (f := fun j => (xs j).toInt) (am_scr hLL) ⟨by omega, by omega⟩) ?_
  refine go_toq PM267 (k := 4) (pc' := 413) (L' := [some (.inr (.inr (some 3000))), some (.inr (.inr (some 0))), some (.inr (.inr (some 79))), some (.inl i)]) (st' := [.inl (i + 3), .inr (.inr (some 3000)), .inl ((xs ((i + 2).toNat)).toInt), .inl ((xs ((i + 1).toNat)).toInt), .inr (.inr (some 0))]) (w' := (SH, dt)) rfl ?_
  have r3 := i32_R (xs ((i + 3).toNat))
  refine go_smpq PM267 (L' := [some (.inr (.inr (some 3000))), some (.inr (.inr (some 0))), some (.inr (.inr (some 79))), some (.inl i)]) (st' := [.inl ((xs ((i + 3).toNat)).toInt), .inl ((xs ((i + 2).toNat)).toInt), .inl ((xs ((i + 1).toNat)).toInt), .inr (.inr (some 0))]) (w' := (SH, dt)) rfl rfl (s_iald (n := L) (f := fun j => (xs j).toInt) (am_scr hLL) ⟨by omega, by omega⟩) ?_
  refine go_toq PM267 (k := 4) (pc' := 418) (L' := [some (.inr (.inr (some 3000))), some (.inr (.inr (some 0))), some (.inr (.inr (some 79))), some (.inl i)]) (st' := [.inl (i + 4), .inr (.inr (some 3000)), .inl ((xs ((i + 3).toNat)).toInt), .inl ((xs ((i + 2).toNat)).toInt), .inl ((xs ((i + 1).toNat)).toInt), .inr (.inr (some 0))]) (w' := (SH, dt)) rfl ?_
  have r4 := i32_R (xs ((i + 4).toNat))
  refine go_smpq PM267 (L' := [some (.inr (.inr (some 3000))), some (.inr (.inr (some 0))), some (.inr (.inr (some 79))), some (.inl i)]) (st' := [.inl ((xs ((i + 4).toNat)).toInt), .inl ((xs ((i + 3).toNat)).toInt), .inl ((xs ((i + 2).toNat)).toInt), .inl ((xs ((i + 1).toNat)).toInt), .inr (.inr (some 0))]) (w' := (SH, dt)) rfl rfl (s_iald (n := L) (f := fun j => (xs j).toInt) (am_scr hLL) ⟨by omega, by omega⟩) ?_
  refine go_callq PM267 PM73 (Q' := _) rfl rfl rfl rfl (sp_X5_thinks L xs sio (d + 33) dt hI  ((xs ((i + 1).toNat)).toInt) ⟨by omega, by omega⟩ ((xs ((i + 2).toNat)).toInt) ⟨by omega, by omega⟩ ((xs ((i + 3).toNat)).toInt) ⟨by omega, by omega⟩ ((xs ((i + 4).toNat)).toInt) ⟨by omega, by omega⟩ ) ?_
  rintro _ _ ⟨dt6, rfl, hI7, hF8, h5⟩
  refine ⟨rfl, ?_⟩
  have hF9 : Fr [0, 1, 2, 3, 4, 5, 6, 7, 8, 9, 10, 11, 12, 13, 14, 15, 16, 17, 18, 19, 20, 21, 22, 23, 24, 25, 26, 27, 28, 29, 30, 31, 32, 33, 34, 35, 36, 37, 38, 39, 40, 41, 42, 43, 44, 45, 46, 47, 48, 49, 50, 51, 52, 53, 54, 55, 56, 57, 58, 59, 60, 61, 62, 63, 64, 65, 66, 67, 68, 69, 70, 71, 72, 73, 74, 75, 76, 77, 78, 79, 80, 81, 82, 83, 84, 85, 86, 87, 88, 89, 90, 91, 92, 93, 94, 95, 96, 97, 98, 99, 100, 101, 102, 103, 104] dt dt6 := Fr_tr hF hF8 (by decide)
  have hM10 : MW (dt6 80) := MW_fr hM hF8 (by decide)
  have w11 : dt6 1 0 = dt 1 0 := hF8 1 (by decide) 0
  have w12 : dt6 7 3 = dt 7 3 := hF8 7 (by decide) 3
  have w13 : dt6 10 3 = dt 10 3 := hF8 10 (by decide) 3
  have w14 : dt6 12 3 = dt 12 3 := hF8 12 (by decide) 3
  have w15 : dt6 14 3 = dt 14 3 := hF8 14 (by decide) 3
  have w16 : dt6 16 3 = dt 16 3 := hF8 16 (by decide) 3
  have w17 : dt6 18 0 = dt 18 0 := hF8 18 (by decide) 0
  have w18 : dt6 24 3 = dt 24 3 := hF8 24 (by decide) 3
  have w19 : dt6 27 3 = dt 27 3 := hF8 27 (by decide) 3
  have w20 : dt6 29 3 = dt 29 3 := hF8 29 (by decide) 3
  have w21 : dt6 31 3 = dt 31 3 := hF8 31 (by decide) 3
  have w22 : dt6 33 3 = dt 33 3 := hF8 33 (by decide) 3
  have w23 : dt6 0 2 = dt 0 2 := hF8 0 (by decide) 2
  have w24 : dt6 35 1 = dt 35 1 := hF8 35 (by decide) 1
  have w25 : dt6 35 2 = dt 35 2 := hF8 35 (by decide) 2
  have w26 : dt6 35 3 = dt 35 3 := hF8 35 (by decide) 3
  have w27 : dt6 80 0 = dt 80 0 := hF8 80 (by decide) 0
  have w28 : dt6 80 1 = dt 80 1 := hF8 80 (by decide) 1
  have w29 : dt6 80 2 = dt 80 2 := hF8 80 (by decide) 2
  have w30 : dt6 80 3 = dt 80 3 := hF8 80 (by decide) 3
  have w31 : dt6 80 4 = dt 80 4 := hF8 80 (by decide) 4
  have w32 : dt6 80 5 = dt 80 5 := hF8 80 (by decide) 5
  have w33 : dt6 81 0 = dt 81 0 := hF8 81 (by decide) 0
  have w34 : dt6 81 1 = dt 81 1 := hF8 81 (by decide) 1
  have w35 : dt6 81 2 = dt 81 2 := hF8 81 (by decide) 2
  have w36 : dt6 81 3 = dt 81 3 := hF8 81 (by decide) 3
  have w37 : dt6 81 4 = dt 81 4 := hF8 81 (by decide) 4
  have w38 : dt6 81 5 = dt 81 5 := hF8 81 (by decide) 5
  have w39 : dt6 79 2 = dt 79 2 := hF8 79 (by decide) 2
  have w40 : dt6 79 12 = dt 79 12 := hF8 79 (by decide) 12
  have w41 : dt6 79 19 = dt 79 19 := hF8 79 (by decide) 19
  have w42 : dt6 79 21 = dt 79 21 := hF8 79 (by decide) 21
  rcases h5 with ⟨v_h5, rfl, h5r, h5⟩
  have M243 : MW (dt6 81) := MW_frk hM2 hF8 (by decide)
  have C44 : ∀ j : Nat, dt6 2 j = dt 2 j := fun j => (hF8 2 (by decide) j).trans ((fun _ => rfl) j)
  have C45 : ∀ j : Nat, dt6 3 j = dt 3 j := fun j => (hF8 3 (by decide) j).trans ((fun _ => rfl) j)
  have C46 : ∀ j : Nat, dt6 19 j = dt 19 j := fun j => (hF8 19 (by decide) j).trans ((fun _ => rfl) j)
  have C47 : ∀ j : Nat, dt6 20 j = dt 20 j := fun j => (hF8 20 (by decide) j).trans ((fun _ => rfl) j)
  have C48 : ∀ j : Nat, dt6 8 j = dt 8 j := fun j => (hF8 8 (by decide) j).trans ((fun _ => rfl) j)
  have C49 : ∀ j : Nat, dt6 25 j = dt 25 j := fun j => (hF8 25 (by decide) j).trans ((fun _ => rfl) j)
  have C50 : ∀ j : Nat, dt6 9 j = dt 9 j := fun j => (hF8 9 (by decide) j).trans ((fun _ => rfl) j)
  have C51 : ∀ j : Nat, dt6 26 j = dt 26 j := fun j => (hF8 26 (by decide) j).trans ((fun _ => rfl) j)
  have C52 : ∀ j : Nat, dt6 36 j = dt 36 j := fun j => (hF8 36 (by decide) j).trans ((fun _ => rfl) j)
  have C53 : ∀ j : Nat, dt6 80 j = dt 80 j := fun j => (hF8 80 (by decide) j).trans ((fun _ => rfl) j)
  have C54 : ∀ j : Nat, dt6 81 j = dt 81 j := fun j => (hF8 81 (by decide) j).trans ((fun _ => rfl) j)
  have C55 : ∀ j : Nat, dt6 85 j = dt 85 j := fun j => (hF8 85 (by decide) j).trans ((fun _ => rfl) j)
  refine go_toq PM267 (k := 6) (pc' := 428) (L' := [some (.inr (.inr (some 3000))), some (.inr (.inr (some 0))), some (.inr (.inr (some 79))), some (.inl i)]) (st' := [.inl (i + 1), .inr (.inr (some 3000)), .inr (.inr (some 79))]) (w' := (SH, dt6)) rfl ?_
  have r56 := i32_R (xs ((i + 1).toNat))
  refine go_smpq PM267 (L' := [some (.inr (.inr (some 3000))), some (.inr (.inr (some 0))), some (.inr (.inr (some 79))), some (.inl i)]) (st' := [.inl ((xs ((i + 1).toNat)).toInt), .inr (.inr (some 79))]) (w' := (SH, dt6)) rfl rfl (s_iald (n := L) (f := fun j => (xs j).toInt) (am_scr hLL) ⟨by omega, by omega⟩) ?_
  refine go_toq PM267 (k := 4) (pc' := 433) (L' := [some (.inr (.inr (some 3000))), some (.inr (.inr (some 0))), some (.inr (.inr (some 79))), some (.inl i)]) (st' := [.inl (i + 2), .inr (.inr (some 3000)), .inl ((xs ((i + 1).toNat)).toInt), .inr (.inr (some 79))]) (w' := (SH, dt6)) rfl ?_
  have r57 := i32_R (xs ((i + 2).toNat))
  refine go_smpq PM267 (L' := [some (.inr (.inr (some 3000))), some (.inr (.inr (some 0))), some (.inr (.inr (some 79))), some (.inl i)]) (st' := [.inl ((xs ((i + 2).toNat)).toInt), .inl ((xs ((i + 1).toNat)).toInt), .inr (.inr (some 79))]) (w' := (SH, dt6)) rfl rfl (s_iald (n := L) (f := fun j => (xs j).toInt) (am_scr hLL) ⟨by omega, by omega⟩) ?_
  refine go_toq PM267 (k := 4) (pc' := 438) (L' := [some (.inr (.inr (some 3000))), some (.inr (.inr (some 0))), some (.inr (.inr (some 79))), some (.inl i)]) (st' := [.inl (i + 3), .inr (.inr (some 3000)), .inl ((xs ((i + 2).toNat)).toInt), .inl ((xs ((i + 1).toNat)).toInt), .inr (.inr (some 79))]) (w' := (SH, dt6)) rfl ?_
  have r58 := i32_R (xs ((i + 3).toNat))
  refine go_smpq PM267 (L' := [some (.inr (.inr (some 3000))), some (.inr (.inr (some 0))), some (.inr (.inr (some 79))), some (.inl i)]) (st' := [.inl ((xs ((i + 3).toNat)).toInt), .inl ((xs ((i + 2).toNat)).toInt), .inl ((xs ((i + 1).toNat)).toInt), .inr (.inr (some 79))]) (w' := (SH, dt6)) rfl rfl (s_iald (n := L) (f := fun j => (xs j).toInt) (am_scr hLL) ⟨by omega, by omega⟩) ?_
  refine go_toq PM267 (k := 4) (pc' := 443) (L' := [some (.inr (.inr (some 3000))), some (.inr (.inr (some 0))), some (.inr (.inr (some 79))), some (.inl i)]) (st' := [.inl (i + 4), .inr (.inr (some 3000)), .inl ((xs ((i + 3).toNat)).toInt), .inl ((xs ((i + 2).toNat)).toInt), .inl ((xs ((i + 1).toNat)).toInt), .inr (.inr (some 79))]) (w' := (SH, dt6)) rfl ?_
  have r59 := i32_R (xs ((i + 4).toNat))
  refine go_smpq PM267 (L' := [some (.inr (.inr (some 3000))), some (.inr (.inr (some 0))), some (.inr (.inr (some 79))), some (.inl i)]) (st' := [.inl ((xs ((i + 4).toNat)).toInt), .inl ((xs ((i + 3).toNat)).toInt), .inl ((xs ((i + 2).toNat)).toInt), .inl ((xs ((i + 1).toNat)).toInt), .inr (.inr (some 79))]) (w' := (SH, dt6)) rfl rfl (s_iald (n := L) (f := fun j => (xs j).toInt) (am_scr hLL) ⟨by omega, by omega⟩) ?_
  refine go_callq PM267 PM189 (Q' := _) rfl rfl rfl rfl (sp_X6_thinks L xs sio (d + 33) dt6 hI7 hM10  ((xs ((i + 1).toNat)).toInt) ⟨by omega, by omega⟩ ((xs ((i + 2).toNat)).toInt) ⟨by omega, by omega⟩ ((xs ((i + 3).toNat)).toInt) ⟨by omega, by omega⟩ ((xs ((i + 4).toNat)).toInt) ⟨by omega, by omega⟩ ) ?_
  rintro _ _ ⟨dt61, rfl, hI62, hF63, h60⟩
  refine ⟨rfl, ?_⟩
  have hF64 : Fr [0, 1, 2, 3, 4, 5, 6, 7, 8, 9, 10, 11, 12, 13, 14, 15, 16, 17, 18, 19, 20, 21, 22, 23, 24, 25, 26, 27, 28, 29, 30, 31, 32, 33, 34, 35, 36, 37, 38, 39, 40, 41, 42, 43, 44, 45, 46, 47, 48, 49, 50, 51, 52, 53, 54, 55, 56, 57, 58, 59, 60, 61, 62, 63, 64, 65, 66, 67, 68, 69, 70, 71, 72, 73, 74, 75, 76, 77, 78, 79, 80, 81, 82, 83, 84, 85, 86, 87, 88, 89, 90, 91, 92, 93, 94, 95, 96, 97, 98, 99, 100, 101, 102, 103, 104] dt dt61 := Fr_tr hF9 hF63 (by decide)
  have hM65 : MW (dt61 80) := MW_fr hM10 hF63 (by decide)
  have w66 : dt61 1 0 = dt 1 0 := (hF63 1 (by decide) 0).trans w11
  have w67 : dt61 7 3 = dt 7 3 := (hF63 7 (by decide) 3).trans w12
  have w68 : dt61 10 3 = dt 10 3 := (hF63 10 (by decide) 3).trans w13
  have w69 : dt61 12 3 = dt 12 3 := (hF63 12 (by decide) 3).trans w14
  have w70 : dt61 14 3 = dt 14 3 := (hF63 14 (by decide) 3).trans w15
  have w71 : dt61 16 3 = dt 16 3 := (hF63 16 (by decide) 3).trans w16
  have w72 : dt61 18 0 = dt 18 0 := (hF63 18 (by decide) 0).trans w17
  have w73 : dt61 24 3 = dt 24 3 := (hF63 24 (by decide) 3).trans w18
  have w74 : dt61 27 3 = dt 27 3 := (hF63 27 (by decide) 3).trans w19
  have w75 : dt61 29 3 = dt 29 3 := (hF63 29 (by decide) 3).trans w20
  have w76 : dt61 31 3 = dt 31 3 := (hF63 31 (by decide) 3).trans w21
  have w77 : dt61 33 3 = dt 33 3 := (hF63 33 (by decide) 3).trans w22
  have w78 : dt61 0 2 = dt 0 2 := (hF63 0 (by decide) 2).trans w23
  have w79 : dt61 35 1 = dt 35 1 := (hF63 35 (by decide) 1).trans w24
  have w80 : dt61 35 2 = dt 35 2 := (hF63 35 (by decide) 2).trans w25
  have w81 : dt61 35 3 = dt 35 3 := (hF63 35 (by decide) 3).trans w26
  have w82 : dt61 80 0 = dt 80 0 := (hF63 80 (by decide) 0).trans w27
  have w83 : dt61 80 1 = dt 80 1 := (hF63 80 (by decide) 1).trans w28
  have w84 : dt61 80 2 = dt 80 2 := (hF63 80 (by decide) 2).trans w29
  have w85 : dt61 80 3 = dt 80 3 := (hF63 80 (by decide) 3).trans w30
  have w86 : dt61 80 4 = dt 80 4 := (hF63 80 (by decide) 4).trans w31
  have w87 : dt61 80 5 = dt 80 5 := (hF63 80 (by decide) 5).trans w32
  have w88 : dt61 81 0 = dt 81 0 := (hF63 81 (by decide) 0).trans w33
  have w89 : dt61 81 1 = dt 81 1 := (hF63 81 (by decide) 1).trans w34
  have w90 : dt61 81 2 = dt 81 2 := (hF63 81 (by decide) 2).trans w35
  have w91 : dt61 81 3 = dt 81 3 := (hF63 81 (by decide) 3).trans w36
  have w92 : dt61 81 4 = dt 81 4 := (hF63 81 (by decide) 4).trans w37
  have w93 : dt61 81 5 = dt 81 5 := (hF63 81 (by decide) 5).trans w38
  have w94 : dt61 79 2 = dt 79 2 := (hF63 79 (by decide) 2).trans w39
  have w95 : dt61 79 12 = dt 79 12 := (hF63 79 (by decide) 12).trans w40
  have w96 : dt61 79 19 = dt 79 19 := (hF63 79 (by decide) 19).trans w41
  have w97 : dt61 79 21 = dt 79 21 := (hF63 79 (by decide) 21).trans w42
  rcases h60 with ⟨v_h60, rfl, h60r, h60⟩
  have M298 : MW (dt61 81) := MW_frk M243 hF63 (by decide)
  have C99 : ∀ j : Nat, dt61 2 j = dt 2 j := fun j => (hF63 2 (by decide) j).trans (C44 j)
  have C100 : ∀ j : Nat, dt61 3 j = dt 3 j := fun j => (hF63 3 (by decide) j).trans (C45 j)
  have C101 : ∀ j : Nat, dt61 19 j = dt 19 j := fun j => (hF63 19 (by decide) j).trans (C46 j)
  have C102 : ∀ j : Nat, dt61 20 j = dt 20 j := fun j => (hF63 20 (by decide) j).trans (C47 j)
  have C103 : ∀ j : Nat, dt61 8 j = dt 8 j := fun j => (hF63 8 (by decide) j).trans (C48 j)
  have C104 : ∀ j : Nat, dt61 25 j = dt 25 j := fun j => (hF63 25 (by decide) j).trans (C49 j)
  have C105 : ∀ j : Nat, dt61 9 j = dt 9 j := fun j => (hF63 9 (by decide) j).trans (C50 j)
  have C106 : ∀ j : Nat, dt61 26 j = dt 26 j := fun j => (hF63 26 (by decide) j).trans (C51 j)
  have C107 : ∀ j : Nat, dt61 36 j = dt 36 j := fun j => (hF63 36 (by decide) j).trans (C52 j)
  have C108 : ∀ j : Nat, dt61 80 j = dt 80 j := fun j => (hF63 80 (by decide) j).trans (C53 j)
  have C109 : ∀ j : Nat, dt61 81 j = dt 81 j := fun j => (hF63 81 (by decide) j).trans (C54 j)
  have C110 : ∀ j : Nat, dt61 85 j = dt 85 j := fun j => (hF63 85 (by decide) j).trans (C55 j)
  refine go_toq PM267 (k := 2) (pc' := 1435) (L' := [some (.inr (.inr (some 3000))), some (.inr (.inr (some 0))), some (.inr (.inr (some 79))), some (.inl i)]) (st' := []) (w' := (SH, dt61)) rfl ?_
  exact K dt61 hI62 hM65 M298 (w66.trans (hk0.trans w82.symm)) (w67.trans (hk1.trans w83.symm)) (w68.trans (hk2.trans w84.symm)) (w69.trans (hk3.trans w85.symm)) (w70.trans (hk4.trans w86.symm)) (w71.trans (hk5.trans w87.symm)) (w72.trans (hk6.trans w88.symm)) (w73.trans (hk7.trans w89.symm)) (w74.trans (hk8.trans w90.symm)) (w75.trans (hk9.trans w91.symm)) (w76.trans (hk10.trans w92.symm)) (w77.trans (hk11.trans w93.symm)) (w78.trans (hk12.trans w94.symm)) (w79.trans (hk13.trans w95.symm)) (w80.trans (hk14.trans w96.symm)) (w81.trans (hk15.trans w97.symm)) (by first | exact hI | exact TPL_k hd0 C107 C110 (by omega) | (exfalso; omega)) (by first | exact hI | exact SCL_k hd1 hM (fun j _ => C99 j) (fun j _ => C100 j) (fun j _ _ => C108 j) | (exfalso; omega)) (by first | exact hI | exact SCL_k hd2 hM2 (fun j _ => C101 j) (fun j _ => C102 j) (fun j _ _ => C109 j) | (exfalso; omega)) (by first | exact hI | exact QRL_k hd3 hM (fun j _ => C103 j) (C108 1) (fun j _ _ => C108 j) | (exfalso; omega)) (by first | exact hI | exact QRL_k hd4 hM2 (fun j _ => C104 j) (C109 1) (fun j _ _ => C109 j) | (exfalso; omega)) (by first | exact hI | exact SDL_k hd5 hM (fun j _ => C105 j) (C108 1) (fun j _ _ => C108 j) (fun j _ _ => C108 j) | (exfalso; omega)) (by first | exact hI | exact SDL_k hd6 hM2 (fun j _ => C106 j) (C109 1) (fun j _ _ => C109 j) (fun j _ _ => C109 j) | (exfalso; omega))
set_option maxRecDepth 20000 in
set_option maxHeartbeats 8000000 in
theorem sp_case7 (L : Nat) (xs : Nat → Int32) (sio : Option Nat) (d : Nat) (Q : Option AV → am_W → Prop) (hLL : L ≤ 3072) (i : Int) (hi : 0 ≤ i ∧ i ≤ 3066) (hil : i ≤ (L : Int) - 6) (dt : Nat → Nat → Int) (hI : InvC dt) (hM : MW (dt 80)) (hM2 : MW (dt 81)) (hk0 : dt 1 0 = dt 80 0) (hk1 : dt 7 3 = dt 80 1) (hk2 : dt 10 3 = dt 80 2) (hk3 : dt 12 3 = dt 80 3) (hk4 : dt 14 3 = dt 80 4) (hk5 : dt 16 3 = dt 80 5) (hk6 : dt 18 0 = dt 81 0) (hk7 : dt 24 3 = dt 81 1) (hk8 : dt 27 3 = dt 81 2) (hk9 : dt 29 3 = dt 81 3) (hk10 : dt 31 3 = dt 81 4) (hk11 : dt 33 3 = dt 81 5) (hk12 : dt 0 2 = dt 79 2) (hk13 : dt 35 1 = dt 79 12) (hk14 : dt 35 2 = dt 79 19) (hk15 : dt 35 3 = dt 79 21) (hd0 : TPL (dt 36) (dt 85) (dt 35 1)) (hd1 : SCL (dt 2) (dt 3) (dt 80)) (hd2 : SCL (dt 19) (dt 20) (dt 81)) (hd3 : QRL (dt 8) (dt 80)) (hd4 : QRL (dt 25) (dt 81)) (hd5 : SDL (dt 9) (dt 80)) (hd6 : SDL (dt 26) (dt 81)) (K : ∀ (dt : Nat → Nat → Int) (hI : InvC dt) (hM : MW (dt 80)) (hM2 : MW (dt 81)) (hk0 : dt 1 0 = dt 80 0) (hk1 : dt 7 3 = dt 80 1) (hk2 : dt 10 3 = dt 80 2) (hk3 : dt 12 3 = dt 80 3) (hk4 : dt 14 3 = dt 80 4) (hk5 : dt 16 3 = dt 80 5) (hk6 : dt 18 0 = dt 81 0) (hk7 : dt 24 3 = dt 81 1) (hk8 : dt 27 3 = dt 81 2) (hk9 : dt 29 3 = dt 81 3) (hk10 : dt 31 3 = dt 81 4) (hk11 : dt 33 3 = dt 81 5) (hk12 : dt 0 2 = dt 79 2) (hk13 : dt 35 1 = dt 79 12) (hk14 : dt 35 2 = dt 79 19) (hk15 : dt 35 3 = dt 79 21) (hd0 : TPL (dt 36) (dt 85) (dt 35 1)) (hd1 : SCL (dt 2) (dt 3) (dt 80)) (hd2 : SCL (dt 19) (dt 20) (dt 81)) (hd3 : QRL (dt 8) (dt 80)) (hd4 : QRL (dt 25) (dt 81)) (hd5 : SDL (dt 9) (dt 80)) (hd6 : SDL (dt 26) (dt 81)), GO (am_XX L xs sio) (d + 39) 267 1435 [some (.inr (.inr (some 3000))), some (.inr (.inr (some 0))), some (.inr (.inr (some 79))), some (.inl i)] [] (SH, dt) Q) : GO (am_XX L xs sio) (d + 39) 267 451 [some (.inr (.inr (some 3000))), some (.inr (.inr (some 0))), some (.inr (.inr (some 79))), some (.inl i)] [] (SH, dt) Q := by
  have hF : Fr [0, 1, 2, 3, 4, 5, 6, 7, 8, 9, 10, 11, 12, 13, 14, 15, 16, 17, 18, 19, 20, 21, 22, 23, 24, 25, 26, 27, 28, 29, 30, 31, 32, 33, 34, 35, 36, 37, 38, 39, 40, 41, 42, 43, 44, 45, 46, 47, 48, 49, 50, 51, 52, 53, 54, 55, 56, 57, 58, 59, 60, 61, 62, 63, 64, 65, 66, 67, 68, 69, 70, 71, 72, 73, 74, 75, 76, 77, 78, 79, 80, 81, 82, 83, 84, 85, 86, 87, 88, 89, 90, 91, 92, 93, 94, 95, 96, 97, 98, 99, 100, 101, 102, 103, 104] dt dt := Fr_refl
  have hqo := QOC_R hd3 hM hk1
  have hb1_ := hM.1.1
  refine go_toq PM267 (k := 5) (pc' := 456) (L' := [some (.inr (.inr (some 3000))), some (.inr (.inr (some 0))), some (.inr (.inr (some 79))), some (.inl i)]) (st' := [.inl (i + 1), .inr (.inr (some 3000)), .inr (.inr (some 0))]) (w' := (SH, dt)) rfl ?_
  have r1 := i32_R (xs ((i + 1).toNat))
  refine go_smpq PM267 (L' := [some (.inr (.inr (some 3000))), some (.inr (.inr (some 0))), some (.inr (.inr (some 79))), some (.inl i)]) (st' := [.inl ((xs ((i + 1).toNat)).toInt), .inr (.inr (some 0))]) (w' := (SH, dt)) rfl rfl (s_iald (n := L) (f := fun j => (xs j).toInt) (am_scr hLL) ⟨by omega, by omega⟩) ?_
  refine go_toq PM267 (k := 4) (pc' := 461) (L' := [some (.inr (.inr (some 3000))), some (.inr (.inr (some 0))), some (.inr (.inr (some 79))), some (.inl i)]) (st' := [.inl (i + 2), .inr (.inr (some 3000)), .inl ((xs ((i + 1).toNat)).toInt), .inr (.inr (some 0))]) (w' := (SH, dt)) rfl ?_
  have r2 := i32_R (xs ((i + 2).toNat))
  refine go_smpq PM267 (L' := [some (.inr (.inr (some 3000))), some (.inr (.inr (some 0))), some (.inr (.inr (some 79))), some (.inl i)]) (st' := [.inl ((xs ((i + 2).toNat)).toInt), .inl ((xs ((i + 1).toNat)).toInt), .inr (.inr (some 0))]) (w' := (SH, dt)) rfl rfl (s_iald (n := L) (f := fun j => (xs j).toInt) (am_scr hLL) ⟨by omega, by omega⟩) ?_
  refine go_toq PM267 (k := 4) (pc' := 466) (L' := [some (.inr (.inr (some 3000))), some (.inr (.inr (some 0))), some (.inr (.inr (some 79))), some (.inl i)]) (st' := [.inl (i + 3), .inr (.inr (some 3000)), .inl ((xs ((i + 2).toNat)).toInt), .inl ((xs ((i + 1).toNat)).toInt), .inr (.inr (some 0))]) (w' := (SH, dt)) rfl ?_
  have r3 := i32_R (xs ((i + 3).toNat))
  refine go_smpq PM267 (L' := [some (.inr (.inr (some 3000))), some (.inr (.inr (some 0))), some (.inr (.inr (some 79))), some (.inl i)]) (st' := [.inl ((xs ((i + 3).toNat)).toInt), .inl ((xs ((i + 2).toNat)).toInt), .inl ((xs ((i + 1).toNat)).toInt), .inr (.inr (some 0))]) (w' := (SH, dt)) rfl rfl (s_iald (n := L) (f := fun j => (xs j).toInt) (am_scr hLL) ⟨by omega, by omega⟩) ?_
  refine go_callq PM267 PM74 (Q' := _) rfl rfl rfl rfl (sp_X5_here L xs sio (d + 33) dt hI  ((xs ((i + 1).toNat)).toInt) ⟨by omega, by omega⟩ ((xs ((i + 2).toNat)).toInt) ⟨by omega, by omega⟩ ((xs ((i + 3).toNat)).toInt) ⟨by omega, by omega⟩ ) ?_
  rintro _ _ ⟨dt5, rfl, hI6, hF7, h4⟩
  refine ⟨rfl, ?_⟩
  have hF8 : Fr [0, 1, 2, 3, 4, 5, 6, 7, 8, 9, 10, 11, 12, 13, 14, 15, 16, 17, 18, 19, 20, 21, 22, 23, 24, 25, 26, 27, 28, 29, 30, 31, 32, 33, 34, 35, 36, 37, 38, 39, 40, 41, 42, 43, 44, 45, 46, 47, 48, 49, 50, 51, 52, 53, 54, 55, 56, 57, 58, 59, 60, 61, 62, 63, 64, 65, 66, 67, 68, 69, 70, 71, 72, 73, 74, 75, 76, 77, 78, 79, 80, 81, 82, 83, 84, 85, 86, 87, 88, 89, 90, 91, 92, 93, 94, 95, 96, 97, 98, 99, 100, 101, 102, 103, 104] dt dt5 := Fr_tr hF hF7 (by decide)
  have hM9 : MW (dt5 80) := MW_fr hM hF7 (by decide)
  have w10 : dt5 1 0 = dt 1 0 := hF7 1 (by decide) 0
  have w11 : dt5 7 3 = dt 7 3 := hF7 7 (by decide) 3
  have w12 : dt5 10 3 = dt 10 3 := hF7 10 (by decide) 3
  have w13 : dt5 12 3 = dt 12 3 := hF7 12 (by decide) 3
  have w14 : dt5 14 3 = dt 14 3 := hF7 14 (by decide) 3
  have w15 : dt5 16 3 = dt 16 3 := hF7 16 (by decide) 3
  have w16 : dt5 18 0 = dt 18 0 := hF7 18 (by decide) 0
  have w17 : dt5 24 3 = dt 24 3 := hF7 24 (by decide) 3
  have w18 : dt5 27 3 = dt 27 3 := hF7 27 (by decide) 3
  have w19 : dt5 29 3 = dt 29 3 := hF7 29 (by decide) 3
  have w20 : dt5 31 3 = dt 31 3 := hF7 31 (by decide) 3
  have w21 : dt5 33 3 = dt 33 3 := hF7 33 (by decide) 3
  have w22 : dt5 0 2 = dt 0 2 := hF7 0 (by decide) 2
  have w23 : dt5 35 1 = dt 35 1 := hF7 35 (by decide) 1
  have w24 : dt5 35 2 = dt 35 2 := hF7 35 (by decide) 2
  have w25 : dt5 35 3 = dt 35 3 := hF7 35 (by decide) 3
  have w26 : dt5 80 0 = dt 80 0 := hF7 80 (by decide) 0
  have w27 : dt5 80 1 = dt 80 1 := hF7 80 (by decide) 1
  have w28 : dt5 80 2 = dt 80 2 := hF7 80 (by decide) 2
  have w29 : dt5 80 3 = dt 80 3 := hF7 80 (by decide) 3
  have w30 : dt5 80 4 = dt 80 4 := hF7 80 (by decide) 4
  have w31 : dt5 80 5 = dt 80 5 := hF7 80 (by decide) 5
  have w32 : dt5 81 0 = dt 81 0 := hF7 81 (by decide) 0
  have w33 : dt5 81 1 = dt 81 1 := hF7 81 (by decide) 1
  have w34 : dt5 81 2 = dt 81 2 := hF7 81 (by decide) 2
  have w35 : dt5 81 3 = dt 81 3 := hF7 81 (by decide) 3
  have w36 : dt5 81 4 = dt 81 4 := hF7 81 (by decide) 4
  have w37 : dt5 81 5 = dt 81 5 := hF7 81 (by decide) 5
  have w38 : dt5 79 2 = dt 79 2 := hF7 79 (by decide) 2
  have w39 : dt5 79 12 = dt 79 12 := hF7 79 (by decide) 12
  have w40 : dt5 79 19 = dt 79 19 := hF7 79 (by decide) 19
  have w41 : dt5 79 21 = dt 79 21 := hF7 79 (by decide) 21
  rcases h4 with ⟨v_h4, rfl, h4r, h4⟩
  have M242 : MW (dt5 81) := MW_frk hM2 hF7 (by decide)
  have C43 : ∀ j : Nat, dt5 2 j = dt 2 j := fun j => (hF7 2 (by decide) j).trans ((fun _ => rfl) j)
  have C44 : ∀ j : Nat, dt5 3 j = dt 3 j := fun j => (hF7 3 (by decide) j).trans ((fun _ => rfl) j)
  have C45 : ∀ j : Nat, dt5 19 j = dt 19 j := fun j => (hF7 19 (by decide) j).trans ((fun _ => rfl) j)
  have C46 : ∀ j : Nat, dt5 20 j = dt 20 j := fun j => (hF7 20 (by decide) j).trans ((fun _ => rfl) j)
  have C47 : ∀ j : Nat, dt5 8 j = dt 8 j := fun j => (hF7 8 (by decide) j).trans ((fun _ => rfl) j)
  have C48 : ∀ j : Nat, dt5 25 j = dt 25 j := fun j => (hF7 25 (by decide) j).trans ((fun _ => rfl) j)
  have C49 : ∀ j : Nat, dt5 9 j = dt 9 j := fun j => (hF7 9 (by decide) j).trans ((fun _ => rfl) j)
  have C50 : ∀ j : Nat, dt5 26 j = dt 26 j := fun j => (hF7 26 (by decide) j).trans ((fun _ => rfl) j)
  have C51 : ∀ j : Nat, dt5 36 j = dt 36 j := fun j => (hF7 36 (by decide) j).trans ((fun _ => rfl) j)
  have C52 : ∀ j : Nat, dt5 80 j = dt 80 j := fun j => (hF7 80 (by decide) j).trans ((fun _ => rfl) j)
  have C53 : ∀ j : Nat, dt5 81 j = dt 81 j := fun j => (hF7 81 (by decide) j).trans ((fun _ => rfl) j)
  have C54 : ∀ j : Nat, dt5 85 j = dt 85 j := fun j => (hF7 85 (by decide) j).trans ((fun _ => rfl) j)
  refine go_toq PM267 (k := 6) (pc' := 476) (L' := [some (.inr (.inr (some 3000))), some (.inr (.inr (some 0))), some (.inr (.inr (some 79))), some (.inl i)]) (st' := [.inl (i + 1), .inr (.inr (some 3000)), .inr (.inr (some 79))]) (w' := (SH, dt5)) rfl ?_
  have r55 := i32_R (xs ((i + 1).toNat))
  refine go_smpq PM267 (L' := [some (.inr (.inr (some 3000))), some (.inr (.inr (some 0))), some (.inr (.inr (some 79))), some (.inl i)]) (st' := [.inl ((xs ((i + 1).toNat)).toInt), .inr (.inr (some 79))]) (w' := (SH, dt5)) rfl rfl (s_iald (n := L) (f := fun j => (xs j).toInt) (am_scr hLL) ⟨by omega, by omega⟩) ?_
  refine go_toq PM267 (k := 4) (pc' := 481) (L' := [some (.inr (.inr (some 3000))), some (.inr (.inr (some 0))), some (.inr (.inr (some 79))), some (.inl i)]) (st' := [.inl (i + 2), .inr (.inr (some 3000)), .inl ((xs ((i + 1).toNat)).toInt), .inr (.inr (some 79))]) (w' := (SH, dt5)) rfl ?_
  have r56 := i32_R (xs ((i + 2).toNat))
  refine go_smpq PM267 (L' := [some (.inr (.inr (some 3000))), some (.inr (.inr (some 0))), some (.inr (.inr (some 79))), some (.inl i)]) (st' := [.inl ((xs ((i + 2).toNat)).toInt), .inl ((xs ((i + 1).toNat)).toInt), .inr (.inr (some 79))]) (w' := (SH, dt5)) rfl rfl (s_iald (n := L) (f := fun j => (xs j).toInt) (am_scr hLL) ⟨by omega, by omega⟩) ?_
  refine go_toq PM267 (k := 4) (pc' := 486) (L' := [some (.inr (.inr (some 3000))), some (.inr (.inr (some 0))), some (.inr (.inr (some 79))), some (.inl i)]) (st' := [.inl (i + 3), .inr (.inr (some 3000)), .inl ((xs ((i + 2).toNat)).toInt), .inl ((xs ((i + 1).toNat)).toInt), .inr (.inr (some 79))]) (w' := (SH, dt5)) rfl ?_
  have r57 := i32_R (xs ((i + 3).toNat))
  refine go_smpq PM267 (L' := [some (.inr (.inr (some 3000))), some (.inr (.inr (some 0))), some (.inr (.inr (some 79))), some (.inl i)]) (st' := [.inl ((xs ((i + 3).toNat)).toInt), .inl ((xs ((i + 2).toNat)).toInt), .inl ((xs ((i + 1).toNat)).toInt), .inr (.inr (some 79))]) (w' := (SH, dt5)) rfl rfl (s_iald (n := L) (f := fun j => (xs j).toInt) (am_scr hLL) ⟨by omega, by omega⟩) ?_
  refine go_callq PM267 PM190 (Q' := _) rfl rfl rfl rfl (sp_X6_here L xs sio (d + 33) dt5 hI6 hM9  ((xs ((i + 1).toNat)).toInt) ⟨by omega, by omega⟩ ((xs ((i + 2).toNat)).toInt) ⟨by omega, by omega⟩ ((xs ((i + 3).toNat)).toInt) ⟨by omega, by omega⟩ ) ?_
  rintro _ _ ⟨dt59, rfl, hI60, hF61, h58⟩
  refine ⟨rfl, ?_⟩
  have hF62 : Fr [0, 1, 2, 3, 4, 5, 6, 7, 8, 9, 10, 11, 12, 13, 14, 15, 16, 17, 18, 19, 20, 21, 22, 23, 24, 25, 26, 27, 28, 29, 30, 31, 32, 33, 34, 35, 36, 37, 38, 39, 40, 41, 42, 43, 44, 45, 46, 47, 48, 49, 50, 51, 52, 53, 54, 55, 56, 57, 58, 59, 60, 61, 62, 63, 64, 65, 66, 67, 68, 69, 70, 71, 72, 73, 74, 75, 76, 77, 78, 79, 80, 81, 82, 83, 84, 85, 86, 87, 88, 89, 90, 91, 92, 93, 94, 95, 96, 97, 98, 99, 100, 101, 102, 103, 104] dt dt59 := Fr_tr hF8 hF61 (by decide)
  have hM63 : MW (dt59 80) := MW_fr hM9 hF61 (by decide)
  have w64 : dt59 1 0 = dt 1 0 := (hF61 1 (by decide) 0).trans w10
  have w65 : dt59 7 3 = dt 7 3 := (hF61 7 (by decide) 3).trans w11
  have w66 : dt59 10 3 = dt 10 3 := (hF61 10 (by decide) 3).trans w12
  have w67 : dt59 12 3 = dt 12 3 := (hF61 12 (by decide) 3).trans w13
  have w68 : dt59 14 3 = dt 14 3 := (hF61 14 (by decide) 3).trans w14
  have w69 : dt59 16 3 = dt 16 3 := (hF61 16 (by decide) 3).trans w15
  have w70 : dt59 18 0 = dt 18 0 := (hF61 18 (by decide) 0).trans w16
  have w71 : dt59 24 3 = dt 24 3 := (hF61 24 (by decide) 3).trans w17
  have w72 : dt59 27 3 = dt 27 3 := (hF61 27 (by decide) 3).trans w18
  have w73 : dt59 29 3 = dt 29 3 := (hF61 29 (by decide) 3).trans w19
  have w74 : dt59 31 3 = dt 31 3 := (hF61 31 (by decide) 3).trans w20
  have w75 : dt59 33 3 = dt 33 3 := (hF61 33 (by decide) 3).trans w21
  have w76 : dt59 0 2 = dt 0 2 := (hF61 0 (by decide) 2).trans w22
  have w77 : dt59 35 1 = dt 35 1 := (hF61 35 (by decide) 1).trans w23
  have w78 : dt59 35 2 = dt 35 2 := (hF61 35 (by decide) 2).trans w24
  have w79 : dt59 35 3 = dt 35 3 := (hF61 35 (by decide) 3).trans w25
  have w80 : dt59 80 0 = dt 80 0 := (hF61 80 (by decide) 0).trans w26
  have w81 : dt59 80 1 = dt 80 1 := (hF61 80 (by decide) 1).trans w27
  have w82 : dt59 80 2 = dt 80 2 := (hF61 80 (by decide) 2).trans w28
  have w83 : dt59 80 3 = dt 80 3 := (hF61 80 (by decide) 3).trans w29
  have w84 : dt59 80 4 = dt 80 4 := (hF61 80 (by decide) 4).trans w30
  have w85 : dt59 80 5 = dt 80 5 := (hF61 80 (by decide) 5).trans w31
  have w86 : dt59 81 0 = dt 81 0 := (hF61 81 (by decide) 0).trans w32
  have w87 : dt59 81 1 = dt 81 1 := (hF61 81 (by decide) 1).trans w33
  have w88 : dt59 81 2 = dt 81 2 := (hF61 81 (by decide) 2).trans w34
  have w89 : dt59 81 3 = dt 81 3 := (hF61 81 (by decide) 3).trans w35
  have w90 : dt59 81 4 = dt 81 4 := (hF61 81 (by decide) 4).trans w36
  have w91 : dt59 81 5 = dt 81 5 := (hF61 81 (by decide) 5).trans w37
  have w92 : dt59 79 2 = dt 79 2 := (hF61 79 (by decide) 2).trans w38
  have w93 : dt59 79 12 = dt 79 12 := (hF61 79 (by decide) 12).trans w39
  have w94 : dt59 79 19 = dt 79 19 := (hF61 79 (by decide) 19).trans w40
  have w95 : dt59 79 21 = dt 79 21 := (hF61 79 (by decide) 21).trans w41
  rcases h58 with ⟨rfl, h58⟩ | ⟨rfl, h58⟩ | ⟨rfl, h58⟩
  · skip
    have M296 : MW (dt59 81) := MW_frk M242 hF61 (by decide)
    have C97 : ∀ j : Nat, dt59 2 j = dt 2 j := fun j => (hF61 2 (by decide) j).trans (C43 j)
    have C98 : ∀ j : Nat, dt59 3 j = dt 3 j := fun j => (hF61 3 (by decide) j).trans (C44 j)
    have C99 : ∀ j : Nat, dt59 19 j = dt 19 j := fun j => (hF61 19 (by decide) j).trans (C45 j)
    have C100 : ∀ j : Nat, dt59 20 j = dt 20 j := fun j => (hF61 20 (by decide) j).trans (C46 j)
    have C101 : ∀ j : Nat, dt59 8 j = dt 8 j := fun j => (hF61 8 (by decide) j).trans (C47 j)
    have C102 : ∀ j : Nat, dt59 25 j = dt 25 j := fun j => (hF61 25 (by decide) j).trans (C48 j)
    have C103 : ∀ j : Nat, dt59 9 j = dt 9 j := fun j => (hF61 9 (by decide) j).trans (C49 j)
    have C104 : ∀ j : Nat, dt59 26 j = dt 26 j := fun j => (hF61 26 (by decide) j).trans (C50 j)
    have C105 : ∀ j : Nat, dt59 36 j = dt 36 j := fun j => (hF61 36 (by decide) j).trans (C51 j)
    have C106 : ∀ j : Nat, dt59 80 j = dt 80 j := fun j => (hF61 80 (by decide) j).trans (C52 j)
    have C107 : ∀ j : Nat, dt59 81 j = dt 81 j := fun j => (hF61 81 (by decide) j).trans (C53 j)
    have C108 : ∀ j : Nat, dt59 85 j = dt 85 j := fun j => (hF61 85 (by decide) j).trans (C54 j)
    refine go_toq PM267 (k := 2) (pc' := 1435) (L' := [some (.inr (.inr (some 3000))), some (.inr (.inr (some 0))), some (.inr (.inr (some 79))), some (.inl i)]) (st' := []) (w' := (SH, dt59)) rfl ?_
    exact K dt59 hI60 hM63 M296 (w64.trans (hk0.trans w80.symm)) (w65.trans (hk1.trans w81.symm)) (w66.trans (hk2.trans w82.symm)) (w67.trans (hk3.trans w83.symm)) (w68.trans (hk4.trans w84.symm)) (w69.trans (hk5.trans w85.symm)) (w70.trans (hk6.trans w86.symm)) (w71.trans (hk7.trans w87.symm)) (w72.trans (hk8.trans w88.symm)) (w73.trans (hk9.trans w89.symm)) (w74.trans (hk10.trans w90.symm)) (w75.trans (hk11.trans w91.symm)) (w76.trans (hk12.trans w92.symm)) (w77.trans (hk13.trans w93.symm)) (w78.trans (hk14.trans w94.symm)) (w79.trans (hk15.trans w95.symm)) (by first | exact hI | exact TPL_k hd0 C105 C108 (by omega) | (exfalso; omega)) (by first | exact hI | exact SCL_k hd1 hM (fun j _ => C97 j) (fun j _ => C98 j) (fun j _ _ => C106 j) | (exfalso; omega)) (by first | exact hI | exact SCL_k hd2 hM2 (fun j _ => C99 j) (fun j _ => C100 j) (fun j _ _ => C107 j) | (exfalso; omega)) (by first | exact hI | exact QRL_k hd3 hM (fun j _ => C101 j) (C106 1) (fun j _ _ => C106 j) | (exfalso; omega)) (by first | exact hI | exact QRL_k hd4 hM2 (fun j _ => C102 j) (C107 1) (fun j _ _ => C107 j) | (exfalso; omega)) (by first | exact hI | exact SDL_k hd5 hM (fun j _ => C103 j) (C106 1) (fun j _ _ => C106 j) (fun j _ _ => C106 j) | (exfalso; omega)) (by first | exact hI | exact SDL_k hd6 hM2 (fun j _ => C104 j) (C107 1) (fun j _ _ => C107 j) (fun j _ _ => C107 j) | (exfalso; omega))
  · skip
    have M2109 : MW (dt59 81) := MW_frk M242 hF61 (by decide)
    have C110 : ∀ j : Nat, dt59 2 j = dt 2 j := fun j => (hF61 2 (by decide) j).trans (C43 j)
    have C111 : ∀ j : Nat, dt59 3 j = dt 3 j := fun j => (hF61 3 (by decide) j).trans (C44 j)
    have C112 : ∀ j : Nat, dt59 19 j = dt 19 j := fun j => (hF61 19 (by decide) j).trans (C45 j)
    have C113 : ∀ j : Nat, dt59 20 j = dt 20 j := fun j => (hF61 20 (by decide) j).trans (C46 j)
    have C114 : ∀ j : Nat, dt59 8 j = dt 8 j := fun j => (hF61 8 (by decide) j).trans (C47 j)
    have C115 : ∀ j : Nat, dt59 25 j = dt 25 j := fun j => (hF61 25 (by decide) j).trans (C48 j)
    have C116 : ∀ j : Nat, dt59 9 j = dt 9 j := fun j => (hF61 9 (by decide) j).trans (C49 j)
    have C117 : ∀ j : Nat, dt59 26 j = dt 26 j := fun j => (hF61 26 (by decide) j).trans (C50 j)
    have C118 : ∀ j : Nat, dt59 36 j = dt 36 j := fun j => (hF61 36 (by decide) j).trans (C51 j)
    have C119 : ∀ j : Nat, dt59 80 j = dt 80 j := fun j => (hF61 80 (by decide) j).trans (C52 j)
    have C120 : ∀ j : Nat, dt59 81 j = dt 81 j := fun j => (hF61 81 (by decide) j).trans (C53 j)
    have C121 : ∀ j : Nat, dt59 85 j = dt 85 j := fun j => (hF61 85 (by decide) j).trans (C54 j)
    refine go_toq PM267 (k := 2) (pc' := 1435) (L' := [some (.inr (.inr (some 3000))), some (.inr (.inr (some 0))), some (.inr (.inr (some 79))), some (.inl i)]) (st' := []) (w' := (SH, dt59)) rfl ?_
    exact K dt59 hI60 hM63 M2109 (w64.trans (hk0.trans w80.symm)) (w65.trans (hk1.trans w81.symm)) (w66.trans (hk2.trans w82.symm)) (w67.trans (hk3.trans w83.symm)) (w68.trans (hk4.trans w84.symm)) (w69.trans (hk5.trans w85.symm)) (w70.trans (hk6.trans w86.symm)) (w71.trans (hk7.trans w87.symm)) (w72.trans (hk8.trans w88.symm)) (w73.trans (hk9.trans w89.symm)) (w74.trans (hk10.trans w90.symm)) (w75.trans (hk11.trans w91.symm)) (w76.trans (hk12.trans w92.symm)) (w77.trans (hk13.trans w93.symm)) (w78.trans (hk14.trans w94.symm)) (w79.trans (hk15.trans w95.symm)) (by first | exact hI | exact TPL_k hd0 C118 C121 (by omega) | (exfalso; omega)) (by first | exact hI | exact SCL_k hd1 hM (fun j _ => C110 j) (fun j _ => C111 j) (fun j _ _ => C119 j) | (exfalso; omega)) (by first | exact hI | exact SCL_k hd2 hM2 (fun j _ => C112 j) (fun j _ => C113 j) (fun j _ _ => C120 j) | (exfalso; omega)) (by first | exact hI | exact QRL_k hd3 hM (fun j _ => C114 j) (C119 1) (fun j _ _ => C119 j) | (exfalso; omega)) (by first | exact hI | exact QRL_k hd4 hM2 (fun j _ => C115 j) (C120 1) (fun j _ _ => C120 j) | (exfalso; omega)) (by first | exact hI | exact SDL_k hd5 hM (fun j _ => C116 j) (C119 1) (fun j _ _ => C119 j) (fun j _ _ => C119 j) | (exfalso; omega)) (by first | exact hI | exact SDL_k hd6 hM2 (fun j _ => C117 j) (C120 1) (fun j _ _ => C120 j) (fun j _ _ => C120 j) | (exfalso; omega))
  · skip
    have M2122 : MW (dt59 81) := MW_frk M242 hF61 (by decide)
    have C123 : ∀ j : Nat, dt59 2 j = dt 2 j := fun j => (hF61 2 (by decide) j).trans (C43 j)
    have C124 : ∀ j : Nat, dt59 3 j = dt 3 j := fun j => (hF61 3 (by decide) j).trans (C44 j)
    have C125 : ∀ j : Nat, dt59 19 j = dt 19 j := fun j => (hF61 19 (by decide) j).trans (C45 j)
    have C126 : ∀ j : Nat, dt59 20 j = dt 20 j := fun j => (hF61 20 (by decide) j).trans (C46 j)
    have C127 : ∀ j : Nat, dt59 8 j = dt 8 j := fun j => (hF61 8 (by decide) j).trans (C47 j)
    have C128 : ∀ j : Nat, dt59 25 j = dt 25 j := fun j => (hF61 25 (by decide) j).trans (C48 j)
    have C129 : ∀ j : Nat, dt59 9 j = dt 9 j := fun j => (hF61 9 (by decide) j).trans (C49 j)
    have C130 : ∀ j : Nat, dt59 26 j = dt 26 j := fun j => (hF61 26 (by decide) j).trans (C50 j)
    have C131 : ∀ j : Nat, dt59 36 j = dt 36 j := fun j => (hF61 36 (by decide) j).trans (C51 j)
    have C132 : ∀ j : Nat, dt59 80 j = dt 80 j := fun j => (hF61 80 (by decide) j).trans (C52 j)
    have C133 : ∀ j : Nat, dt59 81 j = dt 81 j := fun j => (hF61 81 (by decide) j).trans (C53 j)
    have C134 : ∀ j : Nat, dt59 85 j = dt 85 j := fun j => (hF61 85 (by decide) j).trans (C54 j)
    refine go_toq PM267 (k := 2) (pc' := 1435) (L' := [some (.inr (.inr (some 3000))), some (.inr (.inr (some 0))), some (.inr (.inr (some 79))), some (.inl i)]) (st' := []) (w' := (SH, dt59)) rfl ?_
    exact K dt59 hI60 hM63 M2122 (w64.trans (hk0.trans w80.symm)) (w65.trans (hk1.trans w81.symm)) (w66.trans (hk2.trans w82.symm)) (w67.trans (hk3.trans w83.symm)) (w68.trans (hk4.trans w84.symm)) (w69.trans (hk5.trans w85.symm)) (w70.trans (hk6.trans w86.symm)) (w71.trans (hk7.trans w87.symm)) (w72.trans (hk8.trans w88.symm)) (w73.trans (hk9.trans w89.symm)) (w74.trans (hk10.trans w90.symm)) (w75.trans (hk11.trans w91.symm)) (w76.trans (hk12.trans w92.symm)) (w77.trans (hk13.trans w93.symm)) (w78.trans (hk14.trans w94.symm)) (w79.trans (hk15.trans w95.symm)) (by first | exact hI | exact TPL_k hd0 C131 C134 (by omega) | (exfalso; omega)) (by first | exact hI | exact SCL_k hd1 hM (fun j _ => C123 j) (fun j _ => C124 j) (fun j _ _ => C132 j) | (exfalso; omega)) (by first | exact hI | exact SCL_k hd2 hM2 (fun j _ => C125 j) (fun j _ => C126 j) (fun j _ _ => C133 j) | (exfalso; omega)) (by first | exact hI | exact QRL_k hd3 hM (fun j _ => C127 j) (C132 1) (fun j _ _ => C132 j) | (exfalso; omega)) (by first | exact hI | exact QRL_k hd4 hM2 (fun j _ => C128 j) (C133 1) (fun j _ _ => C133 j) | (exfalso; omega)) (by first | exact hI | exact SDL_k hd5 hM (fun j _ => C129 j) (C132 1) (fun j _ _ => C132 j) (fun j _ _ => C132 j) | (exfalso; omega)) (by first | exact hI | exact SDL_k hd6 hM2 (fun j _ => C130 j) (C133 1) (fun j _ _ => C133 j) (fun j _ _ => C133 j) | (exfalso; omega))
set_option maxRecDepth 20000 in
set_option maxHeartbeats 8000000 in
theorem sp_case8 (L : Nat) (xs : Nat → Int32) (sio : Option Nat) (d : Nat) (Q : Option AV → am_W → Prop) (hLL : L ≤ 3072) (i : Int) (hi : 0 ≤ i ∧ i ≤ 3066) (hil : i ≤ (L : Int) - 6) (dt : Nat → Nat → Int) (hI : InvC dt) (hM : MW (dt 80)) (hM2 : MW (dt 81)) (hk0 : dt 1 0 = dt 80 0) (hk1 : dt 7 3 = dt 80 1) (hk2 : dt 10 3 = dt 80 2) (hk3 : dt 12 3 = dt 80 3) (hk4 : dt 14 3 = dt 80 4) (hk5 : dt 16 3 = dt 80 5) (hk6 : dt 18 0 = dt 81 0) (hk7 : dt 24 3 = dt 81 1) (hk8 : dt 27 3 = dt 81 2) (hk9 : dt 29 3 = dt 81 3) (hk10 : dt 31 3 = dt 81 4) (hk11 : dt 33 3 = dt 81 5) (hk12 : dt 0 2 = dt 79 2) (hk13 : dt 35 1 = dt 79 12) (hk14 : dt 35 2 = dt 79 19) (hk15 : dt 35 3 = dt 79 21) (hd0 : TPL (dt 36) (dt 85) (dt 35 1)) (hd1 : SCL (dt 2) (dt 3) (dt 80)) (hd2 : SCL (dt 19) (dt 20) (dt 81)) (hd3 : QRL (dt 8) (dt 80)) (hd4 : QRL (dt 25) (dt 81)) (hd5 : SDL (dt 9) (dt 80)) (hd6 : SDL (dt 26) (dt 81)) (K : ∀ (dt : Nat → Nat → Int) (hI : InvC dt) (hM : MW (dt 80)) (hM2 : MW (dt 81)) (hk0 : dt 1 0 = dt 80 0) (hk1 : dt 7 3 = dt 80 1) (hk2 : dt 10 3 = dt 80 2) (hk3 : dt 12 3 = dt 80 3) (hk4 : dt 14 3 = dt 80 4) (hk5 : dt 16 3 = dt 80 5) (hk6 : dt 18 0 = dt 81 0) (hk7 : dt 24 3 = dt 81 1) (hk8 : dt 27 3 = dt 81 2) (hk9 : dt 29 3 = dt 81 3) (hk10 : dt 31 3 = dt 81 4) (hk11 : dt 33 3 = dt 81 5) (hk12 : dt 0 2 = dt 79 2) (hk13 : dt 35 1 = dt 79 12) (hk14 : dt 35 2 = dt 79 19) (hk15 : dt 35 3 = dt 79 21) (hd0 : TPL (dt 36) (dt 85) (dt 35 1)) (hd1 : SCL (dt 2) (dt 3) (dt 80)) (hd2 : SCL (dt 19) (dt 20) (dt 81)) (hd3 : QRL (dt 8) (dt 80)) (hd4 : QRL (dt 25) (dt 81)) (hd5 : SDL (dt 9) (dt 80)) (hd6 : SDL (dt 26) (dt 81)), GO (am_XX L xs sio) (d + 39) 267 1435 [some (.inr (.inr (some 3000))), some (.inr (.inr (some 0))), some (.inr (.inr (some 79))), some (.inl i)] [] (SH, dt) Q) : GO (am_XX L xs sio) (d + 39) 267 494 [some (.inr (.inr (some 3000))), some (.inr (.inr (some 0))), some (.inr (.inr (some 79))), some (.inl i)] [] (SH, dt) Q := by
  have hF : Fr [0, 1, 2, 3, 4, 5, 6, 7, 8, 9, 10, 11, 12, 13, 14, 15, 16, 17, 18, 19, 20, 21, 22, 23, 24, 25, 26, 27, 28, 29, 30, 31, 32, 33, 34, 35, 36, 37, 38, 39, 40, 41, 42, 43, 44, 45, 46, 47, 48, 49, 50, 51, 52, 53, 54, 55, 56, 57, 58, 59, 60, 61, 62, 63, 64, 65, 66, 67, 68, 69, 70, 71, 72, 73, 74, 75, 76, 77, 78, 79, 80, 81, 82, 83, 84, 85, 86, 87, 88, 89, 90, 91, 92, 93, 94, 95, 96, 97, 98, 99, 100, 101, 102, 103, 104] dt dt := Fr_refl
  have hqo := QOC_R hd3 hM hk1
  have hb1_ := hM.1.1
  refine go_toq PM267 (k := 5) (pc' := 499) (L' := [some (.inr (.inr (some 3000))), some (.inr (.inr (some 0))), some (.inr (.inr (some 79))), some (.inl i)]) (st' := [.inl (i + 1), .inr (.inr (some 3000)), .inr (.inr (some 0))]) (w' := (SH, dt)) rfl ?_
  have r1 := i32_R (xs ((i + 1).toNat))
  refine go_smpq PM267 (L' := [some (.inr (.inr (some 3000))), some (.inr (.inr (some 0))), some (.inr (.inr (some 79))), some (.inl i)]) (st' := [.inl ((xs ((i + 1).toNat)).toInt), .inr (.inr (some 0))]) (w' := (SH, dt)) rfl rfl (s_iald (n := L) (f := fun j => (xs j).toInt) (am_scr hLL) ⟨by omega, by omega⟩) ?_
  refine go_toq PM267 (k := 4) (pc' := 504) (L' := [some (.inr (.inr (some 3000))), some (.inr (.inr (some 0))), some (.inr (.inr (some 79))), some (.inl i)]) (st' := [.inl (i + 2), .inr (.inr (some 3000)), .inl ((xs ((i + 1).toNat)).toInt), .inr (.inr (some 0))]) (w' := (SH, dt)) rfl ?_
  have r2 := i32_R (xs ((i + 2).toNat))
  refine go_smpq PM267 (L' := [some (.inr (.inr (some 3000))), some (.inr (.inr (some 0))), some (.inr (.inr (some 79))), some (.inl i)]) (st' := [.inl ((xs ((i + 2).toNat)).toInt), .inl ((xs ((i + 1).toNat)).toInt), .inr (.inr (some 0))]) (w' := (SH, dt)) rfl rfl (s_iald (n := L) (f := fun j => (xs j).toInt) (am_scr hLL) ⟨by omega, by omega⟩) ?_
  refine go_toq PM267 (k := 4) (pc' := 509) (L' := [some (.inr (.inr (some 3000))), some (.inr (.inr (some 0))), some (.inr (.inr (some 79))), some (.inl i)]) (st' := [.inl (i + 3), .inr (.inr (some 3000)), .inl ((xs ((i + 2).toNat)).toInt), .inl ((xs ((i + 1).toNat)).toInt), .inr (.inr (some 0))]) (w' := (SH, dt)) rfl ?_
  have r3 := i32_R (xs ((i + 3).toNat))
  refine go_smpq PM267 (L' := [some (.inr (.inr (some 3000))), some (.inr (.inr (some 0))), some (.inr (.inr (some 79))), some (.inl i)]) (st' := [.inl ((xs ((i + 3).toNat)).toInt), .inl ((xs ((i + 2).toNat)).toInt), .inl ((xs ((i + 1).toNat)).toInt), .inr (.inr (some 0))]) (w' := (SH, dt)) rfl rfl (s_iald (n := L) (f := fun j => (xs j).toInt) (am_scr hLL) ⟨by omega, by omega⟩) ?_
  refine go_toq PM267 (k := 4) (pc' := 514) (L' := [some (.inr (.inr (some 3000))), some (.inr (.inr (some 0))), some (.inr (.inr (some 79))), some (.inl i)]) (st' := [.inl (i + 4), .inr (.inr (some 3000)), .inl ((xs ((i + 3).toNat)).toInt), .inl ((xs ((i + 2).toNat)).toInt), .inl ((xs ((i + 1).toNat)).toInt), .inr (.inr (some 0))]) (w' := (SH, dt)) rfl ?_
  have r4 := i32_R (xs ((i + 4).toNat))
  refine go_smpq PM267 (L' := [some (.inr (.inr (some 3000))), some (.inr (.inr (some 0))), some (.inr (.inr (some 79))), some (.inl i)]) (st' := [.inl ((xs ((i + 4).toNat)).toInt), .inl ((xs ((i + 3).toNat)).toInt), .inl ((xs ((i + 2).toNat)).toInt), .inl ((xs ((i + 1).toNat)).toInt), .inr (.inr (some 0))]) (w' := (SH, dt)) rfl rfl (s_iald (n := L) (f := fun j => (xs j).toInt) (am_scr hLL) ⟨by omega, by omega⟩) ?_
  refine go_toq PM267 (k := 4) (pc' := 519) (L' := [some (.inr (.inr (some 3000))), some (.inr (.inr (some 0))), some (.inr (.inr (some 79))), some (.inl i)]) (st' := [.inl (i + 5), .inr (.inr (some 3000)), .inl ((xs ((i + 4).toNat)).toInt), .inl ((xs ((i + 3).toNat)).toInt), .inl ((xs ((i + 2).toNat)).toInt), .inl ((xs ((i + 1).toNat)).toInt), .inr (.inr (some 0))]) (w' := (SH, dt)) rfl ?_
  have r5 := i32_R (xs ((i + 5).toNat))
  refine go_smpq PM267 (L' := [some (.inr (.inr (some 3000))), some (.inr (.inr (some 0))), some (.inr (.inr (some 79))), some (.inl i)]) (st' := [.inl ((xs ((i + 5).toNat)).toInt), .inl ((xs ((i + 4).toNat)).toInt), .inl ((xs ((i + 3).toNat)).toInt), .inl ((xs ((i + 2).toNat)).toInt), .inl ((xs ((i + 1).toNat)).toInt), .inr (.inr (some 0))]) (w' := (SH, dt)) rfl rfl (s_iald (n := L) (f := fun j => (xs j).toInt) (am_scr hLL) ⟨by omega, by omega⟩) ?_
  refine go_callq PM267 PM75 (Q' := _) rfl rfl rfl rfl (sp_X5_question_f L xs sio (d + 33) dt hI (dt 80) hM ((xs ((i + 1).toNat)).toInt) ⟨by omega, by omega⟩ ((xs ((i + 2).toNat)).toInt) ⟨by omega, by omega⟩ ((xs ((i + 3).toNat)).toInt) ⟨by omega, by omega⟩ ((xs ((i + 4).toNat)).toInt) ⟨by omega, by omega⟩ ((xs ((i + 5).toNat)).toInt) ⟨by omega, by omega⟩ (by first | exact True.intro | with_reducible assumption | rfl | omega | trivial | exact hM2 | exact hd1 | exact hqo) (by first | exact True.intro | with_reducible assumption | rfl | omega | trivial | exact hM2 | exact hd1 | exact hqo)) ?_
  rintro _ _ ⟨dt7, rfl, hI8, hF9, h6⟩
  refine ⟨rfl, ?_⟩
  have hF10 : Fr [0, 1, 2, 3, 4, 5, 6, 7, 8, 9, 10, 11, 12, 13, 14, 15, 16, 17, 18, 19, 20, 21, 22, 23, 24, 25, 26, 27, 28, 29, 30, 31, 32, 33, 34, 35, 36, 37, 38, 39, 40, 41, 42, 43, 44, 45, 46, 47, 48, 49, 50, 51, 52, 53, 54, 55, 56, 57, 58, 59, 60, 61, 62, 63, 64, 65, 66, 67, 68, 69, 70, 71, 72, 73, 74, 75, 76, 77, 78, 79, 80, 81, 82, 83, 84, 85, 86, 87, 88, 89, 90, 91, 92, 93, 94, 95, 96, 97, 98, 99, 100, 101, 102, 103, 104] dt dt7 := Fr_tr hF hF9 (by decide)
  have hM11 : MW (dt7 80) := MW_fr hM hF9 (by decide)
  have w12 : dt7 1 0 = dt 1 0 := hF9 1 (by decide) 0
  have w13 : dt7 10 3 = dt 10 3 := hF9 10 (by decide) 3
  have w14 : dt7 12 3 = dt 12 3 := hF9 12 (by decide) 3
  have w15 : dt7 14 3 = dt 14 3 := hF9 14 (by decide) 3
  have w16 : dt7 16 3 = dt 16 3 := hF9 16 (by decide) 3
  have w17 : dt7 18 0 = dt 18 0 := hF9 18 (by decide) 0
  have w18 : dt7 24 3 = dt 24 3 := hF9 24 (by decide) 3
  have w19 : dt7 27 3 = dt 27 3 := hF9 27 (by decide) 3
  have w20 : dt7 29 3 = dt 29 3 := hF9 29 (by decide) 3
  have w21 : dt7 31 3 = dt 31 3 := hF9 31 (by decide) 3
  have w22 : dt7 33 3 = dt 33 3 := hF9 33 (by decide) 3
  have w23 : dt7 0 2 = dt 0 2 := hF9 0 (by decide) 2
  have w24 : dt7 35 1 = dt 35 1 := hF9 35 (by decide) 1
  have w25 : dt7 35 2 = dt 35 2 := hF9 35 (by decide) 2
  have w26 : dt7 35 3 = dt 35 3 := hF9 35 (by decide) 3
  have w27 : dt7 80 0 = dt 80 0 := hF9 80 (by decide) 0
  have w28 : dt7 80 1 = dt 80 1 := hF9 80 (by decide) 1
  have w29 : dt7 80 2 = dt 80 2 := hF9 80 (by decide) 2
  have w30 : dt7 80 3 = dt 80 3 := hF9 80 (by decide) 3
  have w31 : dt7 80 4 = dt 80 4 := hF9 80 (by decide) 4
  have w32 : dt7 80 5 = dt 80 5 := hF9 80 (by decide) 5
  have w33 : dt7 81 0 = dt 81 0 := hF9 81 (by decide) 0
  have w34 : dt7 81 1 = dt 81 1 := hF9 81 (by decide) 1
  have w35 : dt7 81 2 = dt 81 2 := hF9 81 (by decide) 2
  have w36 : dt7 81 3 = dt 81 3 := hF9 81 (by decide) 3
  have w37 : dt7 81 4 = dt 81 4 := hF9 81 (by decide) 4
  have w38 : dt7 81 5 = dt 81 5 := hF9 81 (by decide) 5
  have w39 : dt7 79 2 = dt 79 2 := hF9 79 (by decide) 2
  have w40 : dt7 79 12 = dt 79 12 := hF9 79 (by decide) 12
  have w41 : dt7 79 19 = dt 79 19 := hF9 79 (by decide) 19
  have w42 : dt7 79 21 = dt 79 21 := hF9 79 (by decide) 21
  rcases h6 with ⟨rfl, h6⟩ | ⟨v_h6, rfl, h6r, h6⟩
  · skip
    obtain ⟨h6_0, h6_1, h6_2, h6_3⟩ := h6
    have w43 : dt7 7 3 = dt 7 3 := h6_1
    have M244 : MW (dt7 81) := MW_frk hM2 hF9 (by decide)
    have C45 : ∀ j : Nat, dt7 2 j = dt 2 j := fun j => (hF9 2 (by decide) j).trans ((fun _ => rfl) j)
    have C46 : ∀ j : Nat, dt7 3 j = dt 3 j := fun j => (hF9 3 (by decide) j).trans ((fun _ => rfl) j)
    have C47 : ∀ j : Nat, dt7 19 j = dt 19 j := fun j => (hF9 19 (by decide) j).trans ((fun _ => rfl) j)
    have C48 : ∀ j : Nat, dt7 20 j = dt 20 j := fun j => (hF9 20 (by decide) j).trans ((fun _ => rfl) j)
    have C49 : ∀ j : Nat, dt7 8 j = dt 8 j := fun j => (h6_2 j).trans ((fun _ => rfl) j)
    have C50 : ∀ j : Nat, dt7 25 j = dt 25 j := fun j => (hF9 25 (by decide) j).trans ((fun _ => rfl) j)
    have C51 : ∀ j : Nat, dt7 9 j = dt 9 j := fun j => (h6_3 j).trans ((fun _ => rfl) j)
    have C52 : ∀ j : Nat, dt7 26 j = dt 26 j := fun j => (hF9 26 (by decide) j).trans ((fun _ => rfl) j)
    have C53 : ∀ j : Nat, dt7 36 j = dt 36 j := fun j => (hF9 36 (by decide) j).trans ((fun _ => rfl) j)
    have C54 : ∀ j : Nat, dt7 80 j = dt 80 j := fun j => (hF9 80 (by decide) j).trans ((fun _ => rfl) j)
    have C55 : ∀ j : Nat, dt7 81 j = dt 81 j := fun j => (hF9 81 (by decide) j).trans ((fun _ => rfl) j)
    have C56 : ∀ j : Nat, dt7 85 j = dt 85 j := fun j => (hF9 85 (by decide) j).trans ((fun _ => rfl) j)
    refine go_toq PM267 (k := 6) (pc' := 529) (L' := [some (.inr (.inr (some 3000))), some (.inr (.inr (some 0))), some (.inr (.inr (some 79))), some (.inl i)]) (st' := [.inl (i + 1), .inr (.inr (some 3000)), .inr (.inr (some 79))]) (w' := (SH, dt7)) rfl ?_
    have r57 := i32_R (xs ((i + 1).toNat))
    refine go_smpq PM267 (L' := [some (.inr (.inr (some 3000))), some (.inr (.inr (some 0))), some (.inr (.inr (some 79))), some (.inl i)]) (st' := [.inl ((xs ((i + 1).toNat)).toInt), .inr (.inr (some 79))]) (w' := (SH, dt7)) rfl rfl (s_iald (n := L) (f := fun j => (xs j).toInt) (am_scr hLL) ⟨by omega, by omega⟩) ?_
    refine go_toq PM267 (k := 4) (pc' := 534) (L' := [some (.inr (.inr (some 3000))), some (.inr (.inr (some 0))), some (.inr (.inr (some 79))), some (.inl i)]) (st' := [.inl (i + 2), .inr (.inr (some 3000)), .inl ((xs ((i + 1).toNat)).toInt), .inr (.inr (some 79))]) (w' := (SH, dt7)) rfl ?_
    have r58 := i32_R (xs ((i + 2).toNat))
    refine go_smpq PM267 (L' := [some (.inr (.inr (some 3000))), some (.inr (.inr (some 0))), some (.inr (.inr (some 79))), some (.inl i)]) (st' := [.inl ((xs ((i + 2).toNat)).toInt), .inl ((xs ((i + 1).toNat)).toInt), .inr (.inr (some 79))]) (w' := (SH, dt7)) rfl rfl (s_iald (n := L) (f := fun j => (xs j).toInt) (am_scr hLL) ⟨by omega, by omega⟩) ?_
    refine go_toq PM267 (k := 4) (pc' := 539) (L' := [some (.inr (.inr (some 3000))), some (.inr (.inr (some 0))), some (.inr (.inr (some 79))), some (.inl i)]) (st' := [.inl (i + 3), .inr (.inr (some 3000)), .inl ((xs ((i + 2).toNat)).toInt), .inl ((xs ((i + 1).toNat)).toInt), .inr (.inr (some 79))]) (w' := (SH, dt7)) rfl ?_
    have r59 := i32_R (xs ((i + 3).toNat))
    refine go_smpq PM267 (L' := [some (.inr (.inr (some 3000))), some (.inr (.inr (some 0))), some (.inr (.inr (some 79))), some (.inl i)]) (st' := [.inl ((xs ((i + 3).toNat)).toInt), .inl ((xs ((i + 2).toNat)).toInt), .inl ((xs ((i + 1).toNat)).toInt), .inr (.inr (some 79))]) (w' := (SH, dt7)) rfl rfl (s_iald (n := L) (f := fun j => (xs j).toInt) (am_scr hLL) ⟨by omega, by omega⟩) ?_
    refine go_toq PM267 (k := 4) (pc' := 544) (L' := [some (.inr (.inr (some 3000))), some (.inr (.inr (some 0))), some (.inr (.inr (some 79))), some (.inl i)]) (st' := [.inl (i + 4), .inr (.inr (some 3000)), .inl ((xs ((i + 3).toNat)).toInt), .inl ((xs ((i + 2).toNat)).toInt), .inl ((xs ((i + 1).toNat)).toInt), .inr (.inr (some 79))]) (w' := (SH, dt7)) rfl ?_
    have r60 := i32_R (xs ((i + 4).toNat))
    refine go_smpq PM267 (L' := [some (.inr (.inr (some 3000))), some (.inr (.inr (some 0))), some (.inr (.inr (some 79))), some (.inl i)]) (st' := [.inl ((xs ((i + 4).toNat)).toInt), .inl ((xs ((i + 3).toNat)).toInt), .inl ((xs ((i + 2).toNat)).toInt), .inl ((xs ((i + 1).toNat)).toInt), .inr (.inr (some 79))]) (w' := (SH, dt7)) rfl rfl (s_iald (n := L) (f := fun j => (xs j).toInt) (am_scr hLL) ⟨by omega, by omega⟩) ?_
    refine go_toq PM267 (k := 4) (pc' := 549) (L' := [some (.inr (.inr (some 3000))), some (.inr (.inr (some 0))), some (.inr (.inr (some 79))), some (.inl i)]) (st' := [.inl (i + 5), .inr (.inr (some 3000)), .inl ((xs ((i + 4).toNat)).toInt), .inl ((xs ((i + 3).toNat)).toInt), .inl ((xs ((i + 2).toNat)).toInt), .inl ((xs ((i + 1).toNat)).toInt), .inr (.inr (some 79))]) (w' := (SH, dt7)) rfl ?_
    have r61 := i32_R (xs ((i + 5).toNat))
    refine go_smpq PM267 (L' := [some (.inr (.inr (some 3000))), some (.inr (.inr (some 0))), some (.inr (.inr (some 79))), some (.inl i)]) (st' := [.inl ((xs ((i + 5).toNat)).toInt), .inl ((xs ((i + 4).toNat)).toInt), .inl ((xs ((i + 3).toNat)).toInt), .inl ((xs ((i + 2).toNat)).toInt), .inl ((xs ((i + 1).toNat)).toInt), .inr (.inr (some 79))]) (w' := (SH, dt7)) rfl rfl (s_iald (n := L) (f := fun j => (xs j).toInt) (am_scr hLL) ⟨by omega, by omega⟩) ?_
    refine go_callq PM267 PM193 (Q' := _) rfl rfl rfl rfl (sp_X6_question_v L xs sio (d + 36) dt7 hI8 hM11  ((xs ((i + 1).toNat)).toInt) ⟨by omega, by omega⟩ ((xs ((i + 2).toNat)).toInt) ⟨by omega, by omega⟩ ((xs ((i + 3).toNat)).toInt) ⟨by omega, by omega⟩ ((xs ((i + 4).toNat)).toInt) ⟨by omega, by omega⟩ ((xs ((i + 5).toNat)).toInt) ⟨by omega, by omega⟩ ) ?_
    rintro _ _ ⟨dt63, rfl, hI64, hF65, h62⟩
    refine ⟨rfl, ?_⟩
    have hF66 : Fr [0, 1, 2, 3, 4, 5, 6, 7, 8, 9, 10, 11, 12, 13, 14, 15, 16, 17, 18, 19, 20, 21, 22, 23, 24, 25, 26, 27, 28, 29, 30, 31, 32, 33, 34, 35, 36, 37, 38, 39, 40, 41, 42, 43, 44, 45, 46, 47, 48, 49, 50, 51, 52, 53, 54, 55, 56, 57, 58, 59, 60, 61, 62, 63, 64, 65, 66, 67, 68, 69, 70, 71, 72, 73, 74, 75, 76, 77, 78, 79, 80, 81, 82, 83, 84, 85, 86, 87, 88, 89, 90, 91, 92, 93, 94, 95, 96, 97, 98, 99, 100, 101, 102, 103, 104] dt dt63 := Fr_tr hF10 hF65 (by decide)
    have w67 : dt63 1 0 = dt 1 0 := (hF65 1 (by decide) 0).trans w12
    have w68 : dt63 7 3 = dt 7 3 := (hF65 7 (by decide) 3).trans w43
    have w69 : dt63 10 3 = dt 10 3 := (hF65 10 (by decide) 3).trans w13
    have w70 : dt63 12 3 = dt 12 3 := (hF65 12 (by decide) 3).trans w14
    have w71 : dt63 14 3 = dt 14 3 := (hF65 14 (by decide) 3).trans w15
    have w72 : dt63 16 3 = dt 16 3 := (hF65 16 (by decide) 3).trans w16
    have w73 : dt63 18 0 = dt 18 0 := (hF65 18 (by decide) 0).trans w17
    have w74 : dt63 24 3 = dt 24 3 := (hF65 24 (by decide) 3).trans w18
    have w75 : dt63 27 3 = dt 27 3 := (hF65 27 (by decide) 3).trans w19
    have w76 : dt63 29 3 = dt 29 3 := (hF65 29 (by decide) 3).trans w20
    have w77 : dt63 31 3 = dt 31 3 := (hF65 31 (by decide) 3).trans w21
    have w78 : dt63 33 3 = dt 33 3 := (hF65 33 (by decide) 3).trans w22
    have w79 : dt63 0 2 = dt 0 2 := (hF65 0 (by decide) 2).trans w23
    have w80 : dt63 35 1 = dt 35 1 := (hF65 35 (by decide) 1).trans w24
    have w81 : dt63 35 2 = dt 35 2 := (hF65 35 (by decide) 2).trans w25
    have w82 : dt63 35 3 = dt 35 3 := (hF65 35 (by decide) 3).trans w26
    have w83 : dt63 81 0 = dt 81 0 := (hF65 81 (by decide) 0).trans w33
    have w84 : dt63 81 1 = dt 81 1 := (hF65 81 (by decide) 1).trans w34
    have w85 : dt63 81 2 = dt 81 2 := (hF65 81 (by decide) 2).trans w35
    have w86 : dt63 81 3 = dt 81 3 := (hF65 81 (by decide) 3).trans w36
    have w87 : dt63 81 4 = dt 81 4 := (hF65 81 (by decide) 4).trans w37
    have w88 : dt63 81 5 = dt 81 5 := (hF65 81 (by decide) 5).trans w38
    have w89 : dt63 79 2 = dt 79 2 := (hF65 79 (by decide) 2).trans w39
    have w90 : dt63 79 12 = dt 79 12 := (hF65 79 (by decide) 12).trans w40
    have w91 : dt63 79 19 = dt 79 19 := (hF65 79 (by decide) 19).trans w41
    have w92 : dt63 79 21 = dt 79 21 := (hF65 79 (by decide) 21).trans w42
    rcases h62 with ⟨rfl, h62⟩ | ⟨v_h62, rfl, h62r, h62⟩
    · skip
      have hM93 : MW (dt63 80) := h62.2.1
      obtain ⟨h62_0, h62_1, h62_2, h62_3, h62_4, h62_5, h62_6, h62_7, h62_8⟩ := h62
      have w94 : dt63 80 0 = dt 80 0 := h62_2.trans w27
      have w95 : dt63 80 1 = dt 80 1 := h62_3.trans w28
      have w96 : dt63 80 2 = dt 80 2 := h62_4.trans w29
      have w97 : dt63 80 3 = dt 80 3 := h62_5.trans w30
      have w98 : dt63 80 4 = dt 80 4 := h62_6.trans w31
      have w99 : dt63 80 5 = dt 80 5 := h62_7.trans w32
      have M2100 : MW (dt63 81) := MW_frk M244 hF65 (by decide)
      have C101 : ∀ j : Nat, dt63 2 j = dt 2 j := fun j => (hF65 2 (by decide) j).trans (C45 j)
      have C102 : ∀ j : Nat, dt63 3 j = dt 3 j := fun j => (hF65 3 (by decide) j).trans (C46 j)
      have C103 : ∀ j : Nat, dt63 19 j = dt 19 j := fun j => (hF65 19 (by decide) j).trans (C47 j)
      have C104 : ∀ j : Nat, dt63 20 j = dt 20 j := fun j => (hF65 20 (by decide) j).trans (C48 j)
      have C105 : ∀ j : Nat, dt63 8 j = dt 8 j := fun j => (hF65 8 (by decide) j).trans (C49 j)
      have C106 : ∀ j : Nat, dt63 25 j = dt 25 j := fun j => (hF65 25 (by decide) j).trans (C50 j)
      have C107 : ∀ j : Nat, dt63 9 j = dt 9 j := fun j => (hF65 9 (by decide) j).trans (C51 j)
      have C108 : ∀ j : Nat, dt63 26 j = dt 26 j := fun j => (hF65 26 (by decide) j).trans (C52 j)
      have C109 : ∀ j : Nat, dt63 36 j = dt 36 j := fun j => (hF65 36 (by decide) j).trans (C53 j)
      have C110 : ∀ j : Nat, dt63 80 j = dt 80 j := fun j => (h62_8 j).trans (C54 j)
      have C111 : ∀ j : Nat, dt63 81 j = dt 81 j := fun j => (hF65 81 (by decide) j).trans (C55 j)
      have C112 : ∀ j : Nat, dt63 85 j = dt 85 j := fun j => (hF65 85 (by decide) j).trans (C56 j)
      refine go_toq PM267 (k := 2) (pc' := 1435) (L' := [some (.inr (.inr (some 3000))), some (.inr (.inr (some 0))), some (.inr (.inr (some 79))), some (.inl i)]) (st' := []) (w' := (SH, dt63)) rfl ?_
      exact K dt63 hI64 hM93 M2100 (w67.trans (hk0.trans w94.symm)) (w68.trans (hk1.trans w95.symm)) (w69.trans (hk2.trans w96.symm)) (w70.trans (hk3.trans w97.symm)) (w71.trans (hk4.trans w98.symm)) (w72.trans (hk5.trans w99.symm)) (w73.trans (hk6.trans w83.symm)) (w74.trans (hk7.trans w84.symm)) (w75.trans (hk8.trans w85.symm)) (w76.trans (hk9.trans w86.symm)) (w77.trans (hk10.trans w87.symm)) (w78.trans (hk11.trans w88.symm)) (w79.trans (hk12.trans w89.symm)) (w80.trans (hk13.trans w90.symm)) (w81.trans (hk14.trans w91.symm)) (w82.trans (hk15.trans w92.symm)) (by first | exact hI | exact TPL_k hd0 C109 C112 (by omega) | (exfalso; omega)) (by first | exact hI | exact SCL_k hd1 hM (fun j _ => C101 j) (fun j _ => C102 j) (fun j _ _ => C110 j) | (exfalso; omega)) (by first | exact hI | exact SCL_k hd2 hM2 (fun j _ => C103 j) (fun j _ => C104 j) (fun j _ _ => C111 j) | (exfalso; omega)) (by first | exact hI | exact QRL_k hd3 hM (fun j _ => C105 j) (C110 1) (fun j _ _ => C110 j) | (exfalso; omega)) (by first | exact hI | exact QRL_k hd4 hM2 (fun j _ => C106 j) (C111 1) (fun j _ _ => C111 j) | (exfalso; omega)) (by first | exact hI | exact SDL_k hd5 hM (fun j _ => C107 j) (C110 1) (fun j _ _ => C110 j) (fun j _ _ => C110 j) | (exfalso; omega)) (by first | exact hI | exact SDL_k hd6 hM2 (fun j _ => C108 j) (C111 1) (fun j _ _ => C111 j) (fun j _ _ => C111 j) | (exfalso; omega))
    · skip
      have hM113 : MW (dt63 80) := h62.2.2.1
      obtain ⟨h62_0, h62_1, h62_2, h62_3, h62_4, h62_5, h62_6, h62_7, h62_8, h62_9, h62_10, h62_11, h62_12, h62_13, h62_14⟩ := h62
      have w114 : dt63 80 0 = dt 80 0 := h62_4.trans w27
      have w115 : dt63 80 2 = dt 80 2 := h62_5.trans w29
      have w116 : dt63 80 3 = dt 80 3 := h62_6.trans w30
      have w117 : dt63 80 4 = dt 80 4 := h62_7.trans w31
      have w118 : dt63 80 5 = dt 80 5 := h62_8.trans w32
      have M2119 : MW (dt63 81) := MW_frk M244 hF65 (by decide)
      have C120 : ∀ j : Nat, dt63 2 j = dt 2 j := fun j => (hF65 2 (by decide) j).trans (C45 j)
      have C121 : ∀ j : Nat, dt63 3 j = dt 3 j := fun j => (hF65 3 (by decide) j).trans (C46 j)
      have C122 : ∀ j : Nat, dt63 19 j = dt 19 j := fun j => (hF65 19 (by decide) j).trans (C47 j)
      have C123 : ∀ j : Nat, dt63 20 j = dt 20 j := fun j => (hF65 20 (by decide) j).trans (C48 j)
      have C124 : ∀ j : Nat, dt63 8 j = dt 8 j := fun j => (hF65 8 (by decide) j).trans (C49 j)
      have C125 : ∀ j : Nat, dt63 25 j = dt 25 j := fun j => (hF65 25 (by decide) j).trans (C50 j)
      have C126 : ∀ j : Nat, dt63 9 j = dt 9 j := fun j => (hF65 9 (by decide) j).trans (C51 j)
      have C127 : ∀ j : Nat, dt63 26 j = dt 26 j := fun j => (hF65 26 (by decide) j).trans (C52 j)
      have C128 : ∀ j : Nat, dt63 36 j = dt 36 j := fun j => (hF65 36 (by decide) j).trans (C53 j)
      have C129 : ∀ j : Nat, dt63 81 j = dt 81 j := fun j => (hF65 81 (by decide) j).trans (C55 j)
      have C130 : ∀ j : Nat, dt63 85 j = dt 85 j := fun j => (hF65 85 (by decide) j).trans (C56 j)
      have F131 : ∀ j : Nat, 6 ≤ j → j < 974 → dt63 80 j = dt 80 j := fun j h1_ h2_ => (h62_9 j (by omega) (by omega)).trans (C54 j)
      refine go_toq PM267 (k := 2) (pc' := 1435) (L' := [some (.inr (.inr (some 3000))), some (.inr (.inr (some 0))), some (.inr (.inr (some 79))), some (.inl i)]) (st' := []) (w' := (SH, dt63)) rfl ?_
      exact K dt63 hI64 hM113 M2119 (w67.trans (hk0.trans w114.symm)) (by omega) (w69.trans (hk2.trans w115.symm)) (w70.trans (hk3.trans w116.symm)) (w71.trans (hk4.trans w117.symm)) (w72.trans (hk5.trans w118.symm)) (w73.trans (hk6.trans w83.symm)) (w74.trans (hk7.trans w84.symm)) (w75.trans (hk8.trans w85.symm)) (w76.trans (hk9.trans w86.symm)) (w77.trans (hk10.trans w87.symm)) (w78.trans (hk11.trans w88.symm)) (w79.trans (hk12.trans w89.symm)) (w80.trans (hk13.trans w90.symm)) (w81.trans (hk14.trans w91.symm)) (w82.trans (hk15.trans w92.symm)) (by first | exact hI | exact TPL_k hd0 C128 C130 (by omega) | (exfalso; omega)) (by first | exact hI | exact SCL_k hd1 hM (fun j _ => C120 j) (fun j _ => C121 j) F131 | (exfalso; omega)) (by first | exact hI | exact SCL_k hd2 hM2 (fun j _ => C122 j) (fun j _ => C123 j) (fun j _ _ => C129 j) | (exfalso; omega)) (by first | exact hI | exact QRL_k hd3 hM (fun j _ => C124 j) hI hI | (exfalso; omega)) (by first | exact hI | exact QRL_k hd4 hM2 (fun j _ => C125 j) (C129 1) (fun j _ _ => C129 j) | (exfalso; omega)) (by first | exact hI | exact SDL_k hd5 hM (fun j _ => C126 j) hI F131 hI | (exfalso; omega)) (by first | exact hI | exact SDL_k hd6 hM2 (fun j _ => C127 j) (C129 1) (fun j _ _ => C129 j) (fun j _ _ => C129 j) | (exfalso; omega))
  · skip
    obtain ⟨h6_0, h6_1, h6_2, h6_3, h6_4, h6_5, h6_6, h6_7, h6_8, h6_9, h6_10⟩ := h6
    have M2132 : MW (dt7 81) := MW_frk hM2 hF9 (by decide)
    have C133 : ∀ j : Nat, dt7 2 j = dt 2 j := fun j => (hF9 2 (by decide) j).trans ((fun _ => rfl) j)
    have C134 : ∀ j : Nat, dt7 3 j = dt 3 j := fun j => (hF9 3 (by decide) j).trans ((fun _ => rfl) j)
    have C135 : ∀ j : Nat, dt7 19 j = dt 19 j := fun j => (hF9 19 (by decide) j).trans ((fun _ => rfl) j)
    have C136 : ∀ j : Nat, dt7 20 j = dt 20 j := fun j => (hF9 20 (by decide) j).trans ((fun _ => rfl) j)
    have C137 : ∀ j : Nat, dt7 25 j = dt 25 j := fun j => (hF9 25 (by decide) j).trans ((fun _ => rfl) j)
    have C138 : ∀ j : Nat, dt7 26 j = dt 26 j := fun j => (hF9 26 (by decide) j).trans ((fun _ => rfl) j)
    have C139 : ∀ j : Nat, dt7 36 j = dt 36 j := fun j => (hF9 36 (by decide) j).trans ((fun _ => rfl) j)
    have C140 : ∀ j : Nat, dt7 80 j = dt 80 j := fun j => (hF9 80 (by decide) j).trans ((fun _ => rfl) j)
    have C141 : ∀ j : Nat, dt7 81 j = dt 81 j := fun j => (hF9 81 (by decide) j).trans ((fun _ => rfl) j)
    have C142 : ∀ j : Nat, dt7 85 j = dt 85 j := fun j => (hF9 85 (by decide) j).trans ((fun _ => rfl) j)
    refine go_toq PM267 (k := 6) (pc' := 529) (L' := [some (.inr (.inr (some 3000))), some (.inr (.inr (some 0))), some (.inr (.inr (some 79))), some (.inl i)]) (st' := [.inl (i + 1), .inr (.inr (some 3000)), .inr (.inr (some 79))]) (w' := (SH, dt7)) rfl ?_
    have r143 := i32_R (xs ((i + 1).toNat))
    refine go_smpq PM267 (L' := [some (.inr (.inr (some 3000))), some (.inr (.inr (some 0))), some (.inr (.inr (some 79))), some (.inl i)]) (st' := [.inl ((xs ((i + 1).toNat)).toInt), .inr (.inr (some 79))]) (w' := (SH, dt7)) rfl rfl (s_iald (n := L) (f := fun j => (xs j).toInt) (am_scr hLL) ⟨by omega, by omega⟩) ?_
    refine go_toq PM267 (k := 4) (pc' := 534) (L' := [some (.inr (.inr (some 3000))), some (.inr (.inr (some 0))), some (.inr (.inr (some 79))), some (.inl i)]) (st' := [.inl (i + 2), .inr (.inr (some 3000)), .inl ((xs ((i + 1).toNat)).toInt), .inr (.inr (some 79))]) (w' := (SH, dt7)) rfl ?_
    have r144 := i32_R (xs ((i + 2).toNat))
    refine go_smpq PM267 (L' := [some (.inr (.inr (some 3000))), some (.inr (.inr (some 0))), some (.inr (.inr (some 79))), some (.inl i)]) (st' := [.inl ((xs ((i + 2).toNat)).toInt), .inl ((xs ((i + 1).toNat)).toInt), .inr (.inr (some 79))]) (w' := (SH, dt7)) rfl rfl (s_iald (n := L) (f := fun j => (xs j).toInt) (am_scr hLL) ⟨by omega, by omega⟩) ?_
    refine go_toq PM267 (k := 4) (pc' := 539) (L' := [some (.inr (.inr (some 3000))), some (.inr (.inr (some 0))), some (.inr (.inr (some 79))), some (.inl i)]) (st' := [.inl (i + 3), .inr (.inr (some 3000)), .inl ((xs ((i + 2).toNat)).toInt), .inl ((xs ((i + 1).toNat)).toInt), .inr (.inr (some 79))]) (w' := (SH, dt7)) rfl ?_
    have r145 := i32_R (xs ((i + 3).toNat))
    refine go_smpq PM267 (L' := [some (.inr (.inr (some 3000))), some (.inr (.inr (some 0))), some (.inr (.inr (some 79))), some (.inl i)]) (st' := [.inl ((xs ((i + 3).toNat)).toInt), .inl ((xs ((i + 2).toNat)).toInt), .inl ((xs ((i + 1).toNat)).toInt), .inr (.inr (some 79))]) (w' := (SH, dt7)) rfl rfl (s_iald (n := L) (f := fun j => (xs j).toInt) (am_scr hLL) ⟨by omega, by omega⟩) ?_
    refine go_toq PM267 (k := 4) (pc' := 544) (L' := [some (.inr (.inr (some 3000))), some (.inr (.inr (some 0))), some (.inr (.inr (some 79))), some (.inl i)]) (st' := [.inl (i + 4), .inr (.inr (some 3000)), .inl ((xs ((i + 3).toNat)).toInt), .inl ((xs ((i + 2).toNat)).toInt), .inl ((xs ((i + 1).toNat)).toInt), .inr (.inr (some 79))]) (w' := (SH, dt7)) rfl ?_
    have r146 := i32_R (xs ((i + 4).toNat))
    refine go_smpq PM267 (L' := [some (.inr (.inr (some 3000))), some (.inr (.inr (some 0))), some (.inr (.inr (some 79))), some (.inl i)]) (st' := [.inl ((xs ((i + 4).toNat)).toInt), .inl ((xs ((i + 3).toNat)).toInt), .inl ((xs ((i + 2).toNat)).toInt), .inl ((xs ((i + 1).toNat)).toInt), .inr (.inr (some 79))]) (w' := (SH, dt7)) rfl rfl (s_iald (n := L) (f := fun j => (xs j).toInt) (am_scr hLL) ⟨by omega, by omega⟩) ?_
    refine go_toq PM267 (k := 4) (pc' := 549) (L' := [some (.inr (.inr (some 3000))), some (.inr (.inr (some 0))), some (.inr (.inr (some 79))), some (.inl i)]) (st' := [.inl (i + 5), .inr (.inr (some 3000)), .inl ((xs ((i + 4).toNat)).toInt), .inl ((xs ((i + 3).toNat)).toInt), .inl ((xs ((i + 2).toNat)).toInt), .inl ((xs ((i + 1).toNat)).toInt), .inr (.inr (some 79))]) (w' := (SH, dt7)) rfl ?_
    have r147 := i32_R (xs ((i + 5).toNat))
    refine go_smpq PM267 (L' := [some (.inr (.inr (some 3000))), some (.inr (.inr (some 0))), some (.inr (.inr (some 79))), some (.inl i)]) (st' := [.inl ((xs ((i + 5).toNat)).toInt), .inl ((xs ((i + 4).toNat)).toInt), .inl ((xs ((i + 3).toNat)).toInt), .inl ((xs ((i + 2).toNat)).toInt), .inl ((xs ((i + 1).toNat)).toInt), .inr (.inr (some 79))]) (w' := (SH, dt7)) rfl rfl (s_iald (n := L) (f := fun j => (xs j).toInt) (am_scr hLL) ⟨by omega, by omega⟩) ?_
    refine go_callq PM267 PM193 (Q' := _) rfl rfl rfl rfl (sp_X6_question_v L xs sio (d + 36) dt7 hI8 hM11  ((xs ((i + 1).toNat)).toInt) ⟨by omega, by omega⟩ ((xs ((i + 2).toNat)).toInt) ⟨by omega, by omega⟩ ((xs ((i + 3).toNat)).toInt) ⟨by omega, by omega⟩ ((xs ((i + 4).toNat)).toInt) ⟨by omega, by omega⟩ ((xs ((i + 5).toNat)).toInt) ⟨by omega, by omega⟩ ) ?_
    rintro _ _ ⟨dt149, rfl, hI150, hF151, h148⟩
    refine ⟨rfl, ?_⟩
    have hF152 : Fr [0, 1, 2, 3, 4, 5, 6, 7, 8, 9, 10, 11, 12, 13, 14, 15, 16, 17, 18, 19, 20, 21, 22, 23, 24, 25, 26, 27, 28, 29, 30, 31, 32, 33, 34, 35, 36, 37, 38, 39, 40, 41, 42, 43, 44, 45, 46, 47, 48, 49, 50, 51, 52, 53, 54, 55, 56, 57, 58, 59, 60, 61, 62, 63, 64, 65, 66, 67, 68, 69, 70, 71, 72, 73, 74, 75, 76, 77, 78, 79, 80, 81, 82, 83, 84, 85, 86, 87, 88, 89, 90, 91, 92, 93, 94, 95, 96, 97, 98, 99, 100, 101, 102, 103, 104] dt dt149 := Fr_tr hF10 hF151 (by decide)
    have w153 : dt149 1 0 = dt 1 0 := (hF151 1 (by decide) 0).trans w12
    have w154 : dt149 7 3 = dt7 7 3 := hF151 7 (by decide) 3
    have w155 : dt149 10 3 = dt 10 3 := (hF151 10 (by decide) 3).trans w13
    have w156 : dt149 12 3 = dt 12 3 := (hF151 12 (by decide) 3).trans w14
    have w157 : dt149 14 3 = dt 14 3 := (hF151 14 (by decide) 3).trans w15
    have w158 : dt149 16 3 = dt 16 3 := (hF151 16 (by decide) 3).trans w16
    have w159 : dt149 18 0 = dt 18 0 := (hF151 18 (by decide) 0).trans w17
    have w160 : dt149 24 3 = dt 24 3 := (hF151 24 (by decide) 3).trans w18
    have w161 : dt149 27 3 = dt 27 3 := (hF151 27 (by decide) 3).trans w19
    have w162 : dt149 29 3 = dt 29 3 := (hF151 29 (by decide) 3).trans w20
    have w163 : dt149 31 3 = dt 31 3 := (hF151 31 (by decide) 3).trans w21
    have w164 : dt149 33 3 = dt 33 3 := (hF151 33 (by decide) 3).trans w22
    have w165 : dt149 0 2 = dt 0 2 := (hF151 0 (by decide) 2).trans w23
    have w166 : dt149 35 1 = dt 35 1 := (hF151 35 (by decide) 1).trans w24
    have w167 : dt149 35 2 = dt 35 2 := (hF151 35 (by decide) 2).trans w25
    have w168 : dt149 35 3 = dt 35 3 := (hF151 35 (by decide) 3).trans w26
    have w169 : dt149 81 0 = dt 81 0 := (hF151 81 (by decide) 0).trans w33
    have w170 : dt149 81 1 = dt 81 1 := (hF151 81 (by decide) 1).trans w34
    have w171 : dt149 81 2 = dt 81 2 := (hF151 81 (by decide) 2).trans w35
    have w172 : dt149 81 3 = dt 81 3 := (hF151 81 (by decide) 3).trans w36
    have w173 : dt149 81 4 = dt 81 4 := (hF151 81 (by decide) 4).trans w37
    have w174 : dt149 81 5 = dt 81 5 := (hF151 81 (by decide) 5).trans w38
    have w175 : dt149 79 2 = dt 79 2 := (hF151 79 (by decide) 2).trans w39
    have w176 : dt149 79 12 = dt 79 12 := (hF151 79 (by decide) 12).trans w40
    have w177 : dt149 79 19 = dt 79 19 := (hF151 79 (by decide) 19).trans w41
    have w178 : dt149 79 21 = dt 79 21 := (hF151 79 (by decide) 21).trans w42
    rcases h148 with ⟨rfl, h148⟩ | ⟨v_h148, rfl, h148r, h148⟩
    · skip
      have hM179 : MW (dt149 80) := h148.2.1
      obtain ⟨h148_0, h148_1, h148_2, h148_3, h148_4, h148_5, h148_6, h148_7, h148_8⟩ := h148
      have w180 : dt149 80 0 = dt 80 0 := h148_2.trans w27
      have w181 : dt149 80 1 = dt 80 1 := h148_3.trans w28
      have w182 : dt149 80 2 = dt 80 2 := h148_4.trans w29
      have w183 : dt149 80 3 = dt 80 3 := h148_5.trans w30
      have w184 : dt149 80 4 = dt 80 4 := h148_6.trans w31
      have w185 : dt149 80 5 = dt 80 5 := h148_7.trans w32
      have M2186 : MW (dt149 81) := MW_frk M2132 hF151 (by decide)
      have C187 : ∀ j : Nat, dt149 2 j = dt 2 j := fun j => (hF151 2 (by decide) j).trans (C133 j)
      have C188 : ∀ j : Nat, dt149 3 j = dt 3 j := fun j => (hF151 3 (by decide) j).trans (C134 j)
      have C189 : ∀ j : Nat, dt149 19 j = dt 19 j := fun j => (hF151 19 (by decide) j).trans (C135 j)
      have C190 : ∀ j : Nat, dt149 20 j = dt 20 j := fun j => (hF151 20 (by decide) j).trans (C136 j)
      have C191 : ∀ j : Nat, dt149 25 j = dt 25 j := fun j => (hF151 25 (by decide) j).trans (C137 j)
      have C192 : ∀ j : Nat, dt149 26 j = dt 26 j := fun j => (hF151 26 (by decide) j).trans (C138 j)
      have C193 : ∀ j : Nat, dt149 36 j = dt 36 j := fun j => (hF151 36 (by decide) j).trans (C139 j)
      have C194 : ∀ j : Nat, dt149 80 j = dt 80 j := fun j => (h148_8 j).trans (C140 j)
      have C195 : ∀ j : Nat, dt149 81 j = dt 81 j := fun j => (hF151 81 (by decide) j).trans (C141 j)
      have C196 : ∀ j : Nat, dt149 85 j = dt 85 j := fun j => (hF151 85 (by decide) j).trans (C142 j)
      have N197 := fun (j : Nat) (hj : (j : Int) < 5 * dt 7 3) => (hF151 8 (by decide) j).trans (h6_3 j hj)
      have N198 := (hF151 8 (by decide) _).trans h6_4
      have N199 := (hF151 8 (by decide) _).trans h6_5
      have N200 := (hF151 8 (by decide) _).trans h6_6
      have N201 := (hF151 8 (by decide) _).trans h6_7
      have N202 := (hF151 8 (by decide) _).trans h6_8
      have N203 := fun (j : Nat) (hj : j < 11 * (dt 7 3).toNat) => (hF151 9 (by decide) j).trans (h6_9 j hj)
      have N204 := fun (r : Nat) (hr : r ≤ 10) => (hF151 9 (by decide) _).trans (h6_10 r hr)
      refine go_toq PM267 (k := 2) (pc' := 1435) (L' := [some (.inr (.inr (some 3000))), some (.inr (.inr (some 0))), some (.inr (.inr (some 79))), some (.inl i)]) (st' := []) (w' := (SH, dt149)) rfl ?_
      exact K dt149 hI150 hM179 M2186 (w153.trans (hk0.trans w180.symm)) (by omega) (w155.trans (hk2.trans w182.symm)) (w156.trans (hk3.trans w183.symm)) (w157.trans (hk4.trans w184.symm)) (w158.trans (hk5.trans w185.symm)) (w159.trans (hk6.trans w169.symm)) (w160.trans (hk7.trans w170.symm)) (w161.trans (hk8.trans w171.symm)) (w162.trans (hk9.trans w172.symm)) (w163.trans (hk10.trans w173.symm)) (w164.trans (hk11.trans w174.symm)) (w165.trans (hk12.trans w175.symm)) (w166.trans (hk13.trans w176.symm)) (w167.trans (hk14.trans w177.symm)) (w168.trans (hk15.trans w178.symm)) (by first | exact hI | exact TPL_k hd0 C193 C196 (by omega) | (exfalso; omega)) (by first | exact hI | exact SCL_k hd1 hM (fun j _ => C187 j) (fun j _ => C188 j) (fun j _ _ => C194 j) | (exfalso; omega)) (by first | exact hI | exact SCL_k hd2 hM2 (fun j _ => C189 j) (fun j _ => C190 j) (fun j _ _ => C195 j) | (exfalso; omega)) (by first | exact hI | exact QRL_k hd3 hM hI (C194 1) (fun j _ _ => C194 j) | (exfalso; omega)) (by first | exact hI | exact QRL_k hd4 hM2 (fun j _ => C191 j) (C195 1) (fun j _ _ => C195 j) | (exfalso; omega)) (by first | exact hI | exact SDL_k hd5 hM hI (C194 1) (fun j _ _ => C194 j) (fun j _ _ => C194 j) | (exfalso; omega)) (by first | exact hI | exact SDL_k hd6 hM2 (fun j _ => C192 j) (C195 1) (fun j _ _ => C195 j) (fun j _ _ => C195 j) | (exfalso; omega))
    · skip
      have hM205 : MW (dt149 80) := h148.2.2.1
      obtain ⟨h148_0, h148_1, h148_2, h148_3, h148_4, h148_5, h148_6, h148_7, h148_8, h148_9, h148_10, h148_11, h148_12, h148_13, h148_14⟩ := h148
      have w206 : dt149 80 0 = dt 80 0 := h148_4.trans w27
      have w207 : dt149 80 2 = dt 80 2 := h148_5.trans w29
      have w208 : dt149 80 3 = dt 80 3 := h148_6.trans w30
      have w209 : dt149 80 4 = dt 80 4 := h148_7.trans w31
      have w210 : dt149 80 5 = dt 80 5 := h148_8.trans w32
      have M2211 : MW (dt149 81) := MW_frk M2132 hF151 (by decide)
      have C212 : ∀ j : Nat, dt149 2 j = dt 2 j := fun j => (hF151 2 (by decide) j).trans (C133 j)
      have C213 : ∀ j : Nat, dt149 3 j = dt 3 j := fun j => (hF151 3 (by decide) j).trans (C134 j)
      have C214 : ∀ j : Nat, dt149 19 j = dt 19 j := fun j => (hF151 19 (by decide) j).trans (C135 j)
      have C215 : ∀ j : Nat, dt149 20 j = dt 20 j := fun j => (hF151 20 (by decide) j).trans (C136 j)
      have C216 : ∀ j : Nat, dt149 25 j = dt 25 j := fun j => (hF151 25 (by decide) j).trans (C137 j)
      have C217 : ∀ j : Nat, dt149 26 j = dt 26 j := fun j => (hF151 26 (by decide) j).trans (C138 j)
      have C218 : ∀ j : Nat, dt149 36 j = dt 36 j := fun j => (hF151 36 (by decide) j).trans (C139 j)
      have C219 : ∀ j : Nat, dt149 81 j = dt 81 j := fun j => (hF151 81 (by decide) j).trans (C141 j)
      have C220 : ∀ j : Nat, dt149 85 j = dt 85 j := fun j => (hF151 85 (by decide) j).trans (C142 j)
      have N221 := fun (j : Nat) (hj : (j : Int) < 5 * dt 7 3) => (hF151 8 (by decide) j).trans (h6_3 j hj)
      have N222 := (hF151 8 (by decide) _).trans h6_4
      have N223 := (hF151 8 (by decide) _).trans h6_5
      have N224 := (hF151 8 (by decide) _).trans h6_6
      have N225 := (hF151 8 (by decide) _).trans h6_7
      have N226 := (hF151 8 (by decide) _).trans h6_8
      have N227 := fun (j : Nat) (hj : j < 11 * (dt 7 3).toNat) => (hF151 9 (by decide) j).trans (h6_9 j hj)
      have N228 := fun (r : Nat) (hr : r ≤ 10) => (hF151 9 (by decide) _).trans (h6_10 r hr)
      have F229 : ∀ j : Nat, 6 ≤ j → j < 974 → dt149 80 j = dt 80 j := fun j h1_ h2_ => (h148_9 j (by omega) (by omega)).trans (C140 j)
      have N230 := h148_9
      rw [show dt7 80 = dt 80 from funext C140] at N230
      have N231 := h148_10
      rw [show dt7 80 = dt 80 from funext C140] at N231
      have N232 := h148_11
      rw [show dt7 80 = dt 80 from funext C140] at N232
      have N233 := h148_12
      rw [show dt7 80 = dt 80 from funext C140] at N233
      have N234 := h148_13
      rw [show dt7 80 = dt 80 from funext C140] at N234
      have N235 := h148_14
      rw [show dt7 80 = dt 80 from funext C140] at N235
      have S236 : QRL (dt149 8) (dt149 80) := by first | exact QRL_q hd3 hk1 (by omega) N221 N222 N223 N224 N225 N226 ⟨fun z_ => if_neg z_, fun z_ => if_pos z_⟩ (by omega) N230 N231 N232 N233 N234 N235 | (exfalso; omega)
      have S237 : SDL (dt149 9) (dt149 80) := by first | exact SDL_q hd5 hM hM205 hk1 (by omega) N227 N228 (fun z_ => if_neg z_) (by omega) N230 N231 N232 N233 N234 N235 (by omega) | (exfalso; omega)
      refine go_toq PM267 (k := 2) (pc' := 1435) (L' := [some (.inr (.inr (some 3000))), some (.inr (.inr (some 0))), some (.inr (.inr (some 79))), some (.inl i)]) (st' := []) (w' := (SH, dt149)) rfl ?_
      exact K dt149 hI150 hM205 M2211 (w153.trans (hk0.trans w206.symm)) (by omega) (w155.trans (hk2.trans w207.symm)) (w156.trans (hk3.trans w208.symm)) (w157.trans (hk4.trans w209.symm)) (w158.trans (hk5.trans w210.symm)) (w159.trans (hk6.trans w169.symm)) (w160.trans (hk7.trans w170.symm)) (w161.trans (hk8.trans w171.symm)) (w162.trans (hk9.trans w172.symm)) (w163.trans (hk10.trans w173.symm)) (w164.trans (hk11.trans w174.symm)) (w165.trans (hk12.trans w175.symm)) (w166.trans (hk13.trans w176.symm)) (w167.trans (hk14.trans w177.symm)) (w168.trans (hk15.trans w178.symm)) (by first | exact hI | exact TPL_k hd0 C218 C220 (by omega) | (exfalso; omega)) (by first | exact hI | exact SCL_k hd1 hM (fun j _ => C212 j) (fun j _ => C213 j) F229 | (exfalso; omega)) (by first | exact hI | exact SCL_k hd2 hM2 (fun j _ => C214 j) (fun j _ => C215 j) (fun j _ _ => C219 j) | (exfalso; omega)) (by first | exact S236 | exact QRL_k hd3 hM hI hI hI | (exfalso; omega)) (by first | exact hI | exact QRL_k hd4 hM2 (fun j _ => C216 j) (C219 1) (fun j _ _ => C219 j) | (exfalso; omega)) (by first | exact S237 | exact SDL_k hd5 hM hI hI F229 hI | (exfalso; omega)) (by first | exact hI | exact SDL_k hd6 hM2 (fun j _ => C217 j) (C219 1) (fun j _ _ => C219 j) (fun j _ _ => C219 j) | (exfalso; omega))
set_option maxRecDepth 20000 in
set_option maxHeartbeats 8000000 in
theorem sp_case9 (L : Nat) (xs : Nat → Int32) (sio : Option Nat) (d : Nat) (Q : Option AV → am_W → Prop) (hLL : L ≤ 3072) (i : Int) (hi : 0 ≤ i ∧ i ≤ 3066) (hil : i ≤ (L : Int) - 6) (dt : Nat → Nat → Int) (hI : InvC dt) (hM : MW (dt 80)) (hM2 : MW (dt 81)) (hk0 : dt 1 0 = dt 80 0) (hk1 : dt 7 3 = dt 80 1) (hk2 : dt 10 3 = dt 80 2) (hk3 : dt 12 3 = dt 80 3) (hk4 : dt 14 3 = dt 80 4) (hk5 : dt 16 3 = dt 80 5) (hk6 : dt 18 0 = dt 81 0) (hk7 : dt 24 3 = dt 81 1) (hk8 : dt 27 3 = dt 81 2) (hk9 : dt 29 3 = dt 81 3) (hk10 : dt 31 3 = dt 81 4) (hk11 : dt 33 3 = dt 81 5) (hk12 : dt 0 2 = dt 79 2) (hk13 : dt 35 1 = dt 79 12) (hk14 : dt 35 2 = dt 79 19) (hk15 : dt 35 3 = dt 79 21) (hd0 : TPL (dt 36) (dt 85) (dt 35 1)) (hd1 : SCL (dt 2) (dt 3) (dt 80)) (hd2 : SCL (dt 19) (dt 20) (dt 81)) (hd3 : QRL (dt 8) (dt 80)) (hd4 : QRL (dt 25) (dt 81)) (hd5 : SDL (dt 9) (dt 80)) (hd6 : SDL (dt 26) (dt 81)) (K : ∀ (dt : Nat → Nat → Int) (hI : InvC dt) (hM : MW (dt 80)) (hM2 : MW (dt 81)) (hk0 : dt 1 0 = dt 80 0) (hk1 : dt 7 3 = dt 80 1) (hk2 : dt 10 3 = dt 80 2) (hk3 : dt 12 3 = dt 80 3) (hk4 : dt 14 3 = dt 80 4) (hk5 : dt 16 3 = dt 80 5) (hk6 : dt 18 0 = dt 81 0) (hk7 : dt 24 3 = dt 81 1) (hk8 : dt 27 3 = dt 81 2) (hk9 : dt 29 3 = dt 81 3) (hk10 : dt 31 3 = dt 81 4) (hk11 : dt 33 3 = dt 81 5) (hk12 : dt 0 2 = dt 79 2) (hk13 : dt 35 1 = dt 79 12) (hk14 : dt 35 2 = dt 79 19) (hk15 : dt 35 3 = dt 79 21) (hd0 : TPL (dt 36) (dt 85) (dt 35 1)) (hd1 : SCL (dt 2) (dt 3) (dt 80)) (hd2 : SCL (dt 19) (dt 20) (dt 81)) (hd3 : QRL (dt 8) (dt 80)) (hd4 : QRL (dt 25) (dt 81)) (hd5 : SDL (dt 9) (dt 80)) (hd6 : SDL (dt 26) (dt 81)), GO (am_XX L xs sio) (d + 39) 267 1435 [some (.inr (.inr (some 3000))), some (.inr (.inr (some 0))), some (.inr (.inr (some 79))), some (.inl i)] [] (SH, dt) Q) : GO (am_XX L xs sio) (d + 39) 267 557 [some (.inr (.inr (some 3000))), some (.inr (.inr (some 0))), some (.inr (.inr (some 79))), some (.inl i)] [] (SH, dt) Q := by
  have hF : Fr [0, 1, 2, 3, 4, 5, 6, 7, 8, 9, 10, 11, 12, 13, 14, 15, 16, 17, 18, 19, 20, 21, 22, 23, 24, 25, 26, 27, 28, 29, 30, 31, 32, 33, 34, 35, 36, 37, 38, 39, 40, 41, 42, 43, 44, 45, 46, 47, 48, 49, 50, 51, 52, 53, 54, 55, 56, 57, 58, 59, 60, 61, 62, 63, 64, 65, 66, 67, 68, 69, 70, 71, 72, 73, 74, 75, 76, 77, 78, 79, 80, 81, 82, 83, 84, 85, 86, 87, 88, 89, 90, 91, 92, 93, 94, 95, 96, 97, 98, 99, 100, 101, 102, 103, 104] dt dt := Fr_refl
  have hqo := QOC_R hd3 hM hk1
  have hb1_ := hM.1.1
  refine go_toq PM267 (k := 5) (pc' := 562) (L' := [some (.inr (.inr (some 3000))), some (.inr (.inr (some 0))), some (.inr (.inr (some 79))), some (.inl i)]) (st' := [.inl (i + 1), .inr (.inr (some 3000)), .inr (.inr (some 0))]) (w' := (SH, dt)) rfl ?_
  have r1 := i32_R (xs ((i + 1).toNat))
  refine go_smpq PM267 (L' := [some (.inr (.inr (some 3000))), some (.inr (.inr (some 0))), some (.inr (.inr (some 79))), some (.inl i)]) (st' := [.inl ((xs ((i + 1).toNat)).toInt), .inr (.inr (some 0))]) (w' := (SH, dt)) rfl rfl (s_iald (n := L) (f := fun j => (xs j).toInt) (am_scr hLL) ⟨by omega, by omega⟩) ?_
  refine go_toq PM267 (k := 4) (pc' := 567) (L' := [some (.inr (.inr (some 3000))), some (.inr (.inr (some 0))), some (.inr (.inr (some 79))), some (.inl i)]) (st' := [.inl (i + 2), .inr (.inr (some 3000)), .inl ((xs ((i + 1).toNat)).toInt), .inr (.inr (some 0))]) (w' := (SH, dt)) rfl ?_
  have r2 := i32_R (xs ((i + 2).toNat))
  refine go_smpq PM267 (L' := [some (.inr (.inr (some 3000))), some (.inr (.inr (some 0))), some (.inr (.inr (some 79))), some (.inl i)]) (st' := [.inl ((xs ((i + 2).toNat)).toInt), .inl ((xs ((i + 1).toNat)).toInt), .inr (.inr (some 0))]) (w' := (SH, dt)) rfl rfl (s_iald (n := L) (f := fun j => (xs j).toInt) (am_scr hLL) ⟨by omega, by omega⟩) ?_
  refine go_callq PM267 PM76 (Q' := _) rfl rfl rfl rfl (sp_X5_says_f L xs sio (d + 36) dt hI  ((xs ((i + 1).toNat)).toInt) ⟨by omega, by omega⟩ ((xs ((i + 2).toNat)).toInt) ⟨by omega, by omega⟩ ) ?_
  rintro _ _ ⟨rfl, h3⟩
  refine ⟨rfl, ?_⟩
  rcases h3 with ⟨rfl, h3⟩ | ⟨v_h3, rfl, h3r, h3⟩
  · skip
    refine go_toq PM267 (k := 6) (pc' := 577) (L' := [some (.inr (.inr (some 3000))), some (.inr (.inr (some 0))), some (.inr (.inr (some 79))), some (.inl i)]) (st' := [.inl (i + 1), .inr (.inr (some 3000)), .inr (.inr (some 79))]) (w' := (SH, dt)) rfl ?_
    refine go_smpq PM267 (L' := [some (.inr (.inr (some 3000))), some (.inr (.inr (some 0))), some (.inr (.inr (some 79))), some (.inl i)]) (st' := [.inl ((xs ((i + 1).toNat)).toInt), .inr (.inr (some 79))]) (w' := (SH, dt)) rfl rfl (s_iald (n := L) (f := fun j => (xs j).toInt) (am_scr hLL) ⟨by omega, by omega⟩) ?_
    refine go_toq PM267 (k := 4) (pc' := 582) (L' := [some (.inr (.inr (some 3000))), some (.inr (.inr (some 0))), some (.inr (.inr (some 79))), some (.inl i)]) (st' := [.inl (i + 2), .inr (.inr (some 3000)), .inl ((xs ((i + 1).toNat)).toInt), .inr (.inr (some 79))]) (w' := (SH, dt)) rfl ?_
    refine go_smpq PM267 (L' := [some (.inr (.inr (some 3000))), some (.inr (.inr (some 0))), some (.inr (.inr (some 79))), some (.inl i)]) (st' := [.inl ((xs ((i + 2).toNat)).toInt), .inl ((xs ((i + 1).toNat)).toInt), .inr (.inr (some 79))]) (w' := (SH, dt)) rfl rfl (s_iald (n := L) (f := fun j => (xs j).toInt) (am_scr hLL) ⟨by omega, by omega⟩) ?_
    refine go_callq PM267 PM197 (Q' := _) rfl rfl rfl rfl (sp_X6_says_f L xs sio (d + 32) dt hI hM  ((xs ((i + 1).toNat)).toInt) ⟨by omega, by omega⟩ ((xs ((i + 2).toNat)).toInt) ⟨by omega, by omega⟩ ) ?_
    rintro _ _ ⟨dt5, rfl, hI6, hF7, h4⟩
    refine ⟨rfl, ?_⟩
    have hF8 : Fr [0, 1, 2, 3, 4, 5, 6, 7, 8, 9, 10, 11, 12, 13, 14, 15, 16, 17, 18, 19, 20, 21, 22, 23, 24, 25, 26, 27, 28, 29, 30, 31, 32, 33, 34, 35, 36, 37, 38, 39, 40, 41, 42, 43, 44, 45, 46, 47, 48, 49, 50, 51, 52, 53, 54, 55, 56, 57, 58, 59, 60, 61, 62, 63, 64, 65, 66, 67, 68, 69, 70, 71, 72, 73, 74, 75, 76, 77, 78, 79, 80, 81, 82, 83, 84, 85, 86, 87, 88, 89, 90, 91, 92, 93, 94, 95, 96, 97, 98, 99, 100, 101, 102, 103, 104] dt dt5 := Fr_tr hF hF7 (by decide)
    have hM9 : MW (dt5 80) := MW_fr hM hF7 (by decide)
    have w10 : dt5 1 0 = dt 1 0 := hF7 1 (by decide) 0
    have w11 : dt5 7 3 = dt 7 3 := hF7 7 (by decide) 3
    have w12 : dt5 10 3 = dt 10 3 := hF7 10 (by decide) 3
    have w13 : dt5 12 3 = dt 12 3 := hF7 12 (by decide) 3
    have w14 : dt5 14 3 = dt 14 3 := hF7 14 (by decide) 3
    have w15 : dt5 16 3 = dt 16 3 := hF7 16 (by decide) 3
    have w16 : dt5 18 0 = dt 18 0 := hF7 18 (by decide) 0
    have w17 : dt5 24 3 = dt 24 3 := hF7 24 (by decide) 3
    have w18 : dt5 27 3 = dt 27 3 := hF7 27 (by decide) 3
    have w19 : dt5 29 3 = dt 29 3 := hF7 29 (by decide) 3
    have w20 : dt5 31 3 = dt 31 3 := hF7 31 (by decide) 3
    have w21 : dt5 33 3 = dt 33 3 := hF7 33 (by decide) 3
    have w22 : dt5 0 2 = dt 0 2 := hF7 0 (by decide) 2
    have w23 : dt5 35 1 = dt 35 1 := hF7 35 (by decide) 1
    have w24 : dt5 35 2 = dt 35 2 := hF7 35 (by decide) 2
    have w25 : dt5 35 3 = dt 35 3 := hF7 35 (by decide) 3
    have w26 : dt5 80 0 = dt 80 0 := hF7 80 (by decide) 0
    have w27 : dt5 80 1 = dt 80 1 := hF7 80 (by decide) 1
    have w28 : dt5 80 2 = dt 80 2 := hF7 80 (by decide) 2
    have w29 : dt5 80 3 = dt 80 3 := hF7 80 (by decide) 3
    have w30 : dt5 80 4 = dt 80 4 := hF7 80 (by decide) 4
    have w31 : dt5 80 5 = dt 80 5 := hF7 80 (by decide) 5
    have w32 : dt5 81 0 = dt 81 0 := hF7 81 (by decide) 0
    have w33 : dt5 81 1 = dt 81 1 := hF7 81 (by decide) 1
    have w34 : dt5 81 2 = dt 81 2 := hF7 81 (by decide) 2
    have w35 : dt5 81 3 = dt 81 3 := hF7 81 (by decide) 3
    have w36 : dt5 81 4 = dt 81 4 := hF7 81 (by decide) 4
    have w37 : dt5 81 5 = dt 81 5 := hF7 81 (by decide) 5
    have w38 : dt5 79 2 = dt 79 2 := hF7 79 (by decide) 2
    have w39 : dt5 79 12 = dt 79 12 := hF7 79 (by decide) 12
    have w40 : dt5 79 19 = dt 79 19 := hF7 79 (by decide) 19
    have w41 : dt5 79 21 = dt 79 21 := hF7 79 (by decide) 21
    rcases h4 with ⟨rfl, h4⟩ | ⟨v_h4, rfl, h4r, h4⟩
    · skip
      have M242 : MW (dt5 81) := MW_frk hM2 hF7 (by decide)
      have y43 : (0 ≤ ((xs ((i + 1).toNat)).toInt) ∧ ((xs ((i + 1).toNat)).toInt) < dt 7 3) → (0 ≤ ((xs ((i + 2).toNat)).toInt) ∧ ((xs ((i + 2).toNat)).toInt) ≤ 9) → SDC (dt 9) (((xs ((i + 1).toNat)).toInt)).toNat ((xs ((i + 2).toNat)).toInt) = SAID (dt 80) (((xs ((i + 1).toNat)).toInt)).toNat ((xs ((i + 2).toNat)).toInt) := fun h1_ h2_ => SDL_c hd5 (by omega) (by omega)
      have C44 : ∀ j : Nat, dt5 2 j = dt 2 j := fun j => (hF7 2 (by decide) j).trans ((fun _ => rfl) j)
      have C45 : ∀ j : Nat, dt5 3 j = dt 3 j := fun j => (hF7 3 (by decide) j).trans ((fun _ => rfl) j)
      have C46 : ∀ j : Nat, dt5 19 j = dt 19 j := fun j => (hF7 19 (by decide) j).trans ((fun _ => rfl) j)
      have C47 : ∀ j : Nat, dt5 20 j = dt 20 j := fun j => (hF7 20 (by decide) j).trans ((fun _ => rfl) j)
      have C48 : ∀ j : Nat, dt5 8 j = dt 8 j := fun j => (hF7 8 (by decide) j).trans ((fun _ => rfl) j)
      have C49 : ∀ j : Nat, dt5 25 j = dt 25 j := fun j => (hF7 25 (by decide) j).trans ((fun _ => rfl) j)
      have C50 : ∀ j : Nat, dt5 9 j = dt 9 j := fun j => (hF7 9 (by decide) j).trans ((fun _ => rfl) j)
      have C51 : ∀ j : Nat, dt5 26 j = dt 26 j := fun j => (hF7 26 (by decide) j).trans ((fun _ => rfl) j)
      have C52 : ∀ j : Nat, dt5 36 j = dt 36 j := fun j => (hF7 36 (by decide) j).trans ((fun _ => rfl) j)
      have C53 : ∀ j : Nat, dt5 80 j = dt 80 j := fun j => (hF7 80 (by decide) j).trans ((fun _ => rfl) j)
      have C54 : ∀ j : Nat, dt5 81 j = dt 81 j := fun j => (hF7 81 (by decide) j).trans ((fun _ => rfl) j)
      have C55 : ∀ j : Nat, dt5 85 j = dt 85 j := fun j => (hF7 85 (by decide) j).trans ((fun _ => rfl) j)
      refine go_toq PM267 (k := 2) (pc' := 1435) (L' := [some (.inr (.inr (some 3000))), some (.inr (.inr (some 0))), some (.inr (.inr (some 79))), some (.inl i)]) (st' := []) (w' := (SH, dt5)) rfl ?_
      exact K dt5 hI6 hM9 M242 (w10.trans (hk0.trans w26.symm)) (w11.trans (hk1.trans w27.symm)) (w12.trans (hk2.trans w28.symm)) (w13.trans (hk3.trans w29.symm)) (w14.trans (hk4.trans w30.symm)) (w15.trans (hk5.trans w31.symm)) (w16.trans (hk6.trans w32.symm)) (w17.trans (hk7.trans w33.symm)) (w18.trans (hk8.trans w34.symm)) (w19.trans (hk9.trans w35.symm)) (w20.trans (hk10.trans w36.symm)) (w21.trans (hk11.trans w37.symm)) (w22.trans (hk12.trans w38.symm)) (w23.trans (hk13.trans w39.symm)) (w24.trans (hk14.trans w40.symm)) (w25.trans (hk15.trans w41.symm)) (by first | exact hI | exact TPL_k hd0 C52 C55 (by omega) | (exfalso; omega)) (by first | exact hI | exact SCL_k hd1 hM (fun j _ => C44 j) (fun j _ => C45 j) (fun j _ _ => C53 j) | (exfalso; omega)) (by first | exact hI | exact SCL_k hd2 hM2 (fun j _ => C46 j) (fun j _ => C47 j) (fun j _ _ => C54 j) | (exfalso; omega)) (by first | exact hI | exact QRL_k hd3 hM (fun j _ => C48 j) (C53 1) (fun j _ _ => C53 j) | (exfalso; omega)) (by first | exact hI | exact QRL_k hd4 hM2 (fun j _ => C49 j) (C54 1) (fun j _ _ => C54 j) | (exfalso; omega)) (by first | exact hI | exact SDL_k hd5 hM (fun j _ => C50 j) (C53 1) (fun j _ _ => C53 j) (fun j _ _ => C53 j) | (exfalso; omega)) (by first | exact hI | exact SDL_k hd6 hM2 (fun j _ => C51 j) (C54 1) (fun j _ _ => C54 j) (fun j _ _ => C54 j) | (exfalso; omega))
    · skip
      obtain ⟨h4_0, h4_1⟩ := h4
      have M256 : MW (dt5 81) := MW_frk hM2 hF7 (by decide)
      have y57 : (0 ≤ ((xs ((i + 1).toNat)).toInt) ∧ ((xs ((i + 1).toNat)).toInt) < dt 7 3) → (0 ≤ ((xs ((i + 2).toNat)).toInt) ∧ ((xs ((i + 2).toNat)).toInt) ≤ 9) → SDC (dt 9) (((xs ((i + 1).toNat)).toInt)).toNat ((xs ((i + 2).toNat)).toInt) = SAID (dt 80) (((xs ((i + 1).toNat)).toInt)).toNat ((xs ((i + 2).toNat)).toInt) := fun h1_ h2_ => SDL_c hd5 (by omega) (by omega)
      have C58 : ∀ j : Nat, dt5 2 j = dt 2 j := fun j => (hF7 2 (by decide) j).trans ((fun _ => rfl) j)
      have C59 : ∀ j : Nat, dt5 3 j = dt 3 j := fun j => (hF7 3 (by decide) j).trans ((fun _ => rfl) j)
      have C60 : ∀ j : Nat, dt5 19 j = dt 19 j := fun j => (hF7 19 (by decide) j).trans ((fun _ => rfl) j)
      have C61 : ∀ j : Nat, dt5 20 j = dt 20 j := fun j => (hF7 20 (by decide) j).trans ((fun _ => rfl) j)
      have C62 : ∀ j : Nat, dt5 8 j = dt 8 j := fun j => (hF7 8 (by decide) j).trans ((fun _ => rfl) j)
      have C63 : ∀ j : Nat, dt5 25 j = dt 25 j := fun j => (hF7 25 (by decide) j).trans ((fun _ => rfl) j)
      have C64 : ∀ j : Nat, dt5 9 j = dt 9 j := fun j => (hF7 9 (by decide) j).trans ((fun _ => rfl) j)
      have C65 : ∀ j : Nat, dt5 26 j = dt 26 j := fun j => (hF7 26 (by decide) j).trans ((fun _ => rfl) j)
      have C66 : ∀ j : Nat, dt5 36 j = dt 36 j := fun j => (hF7 36 (by decide) j).trans ((fun _ => rfl) j)
      have C67 : ∀ j : Nat, dt5 80 j = dt 80 j := fun j => (hF7 80 (by decide) j).trans ((fun _ => rfl) j)
      have C68 : ∀ j : Nat, dt5 81 j = dt 81 j := fun j => (hF7 81 (by decide) j).trans ((fun _ => rfl) j)
      have C69 : ∀ j : Nat, dt5 85 j = dt 85 j := fun j => (hF7 85 (by decide) j).trans ((fun _ => rfl) j)
      refine go_toq PM267 (k := 2) (pc' := 1435) (L' := [some (.inr (.inr (some 3000))), some (.inr (.inr (some 0))), some (.inr (.inr (some 79))), some (.inl i)]) (st' := []) (w' := (SH, dt5)) rfl ?_
      exact K dt5 hI6 hM9 M256 (w10.trans (hk0.trans w26.symm)) (w11.trans (hk1.trans w27.symm)) (w12.trans (hk2.trans w28.symm)) (w13.trans (hk3.trans w29.symm)) (w14.trans (hk4.trans w30.symm)) (w15.trans (hk5.trans w31.symm)) (w16.trans (hk6.trans w32.symm)) (w17.trans (hk7.trans w33.symm)) (w18.trans (hk8.trans w34.symm)) (w19.trans (hk9.trans w35.symm)) (w20.trans (hk10.trans w36.symm)) (w21.trans (hk11.trans w37.symm)) (w22.trans (hk12.trans w38.symm)) (w23.trans (hk13.trans w39.symm)) (w24.trans (hk14.trans w40.symm)) (w25.trans (hk15.trans w41.symm)) (by first | exact hI | exact TPL_k hd0 C66 C69 (by omega) | (exfalso; omega)) (by first | exact hI | exact SCL_k hd1 hM (fun j _ => C58 j) (fun j _ => C59 j) (fun j _ _ => C67 j) | (exfalso; omega)) (by first | exact hI | exact SCL_k hd2 hM2 (fun j _ => C60 j) (fun j _ => C61 j) (fun j _ _ => C68 j) | (exfalso; omega)) (by first | exact hI | exact QRL_k hd3 hM (fun j _ => C62 j) (C67 1) (fun j _ _ => C67 j) | (exfalso; omega)) (by first | exact hI | exact QRL_k hd4 hM2 (fun j _ => C63 j) (C68 1) (fun j _ _ => C68 j) | (exfalso; omega)) (by first | exact hI | exact SDL_k hd5 hM (fun j _ => C64 j) (C67 1) (fun j _ _ => C67 j) (fun j _ _ => C67 j) | (exfalso; omega)) (by first | exact hI | exact SDL_k hd6 hM2 (fun j _ => C65 j) (C68 1) (fun j _ _ => C68 j) (fun j _ _ => C68 j) | (exfalso; omega))
  · skip
    obtain ⟨h3_0, h3_1⟩ := h3
    refine go_toq PM267 (k := 6) (pc' := 577) (L' := [some (.inr (.inr (some 3000))), some (.inr (.inr (some 0))), some (.inr (.inr (some 79))), some (.inl i)]) (st' := [.inl (i + 1), .inr (.inr (some 3000)), .inr (.inr (some 79))]) (w' := (SH, dt)) rfl ?_
    refine go_smpq PM267 (L' := [some (.inr (.inr (some 3000))), some (.inr (.inr (some 0))), some (.inr (.inr (some 79))), some (.inl i)]) (st' := [.inl ((xs ((i + 1).toNat)).toInt), .inr (.inr (some 79))]) (w' := (SH, dt)) rfl rfl (s_iald (n := L) (f := fun j => (xs j).toInt) (am_scr hLL) ⟨by omega, by omega⟩) ?_
    refine go_toq PM267 (k := 4) (pc' := 582) (L' := [some (.inr (.inr (some 3000))), some (.inr (.inr (some 0))), some (.inr (.inr (some 79))), some (.inl i)]) (st' := [.inl (i + 2), .inr (.inr (some 3000)), .inl ((xs ((i + 1).toNat)).toInt), .inr (.inr (some 79))]) (w' := (SH, dt)) rfl ?_
    refine go_smpq PM267 (L' := [some (.inr (.inr (some 3000))), some (.inr (.inr (some 0))), some (.inr (.inr (some 79))), some (.inl i)]) (st' := [.inl ((xs ((i + 2).toNat)).toInt), .inl ((xs ((i + 1).toNat)).toInt), .inr (.inr (some 79))]) (w' := (SH, dt)) rfl rfl (s_iald (n := L) (f := fun j => (xs j).toInt) (am_scr hLL) ⟨by omega, by omega⟩) ?_
    refine go_callq PM267 PM197 (Q' := _) rfl rfl rfl rfl (sp_X6_says_f L xs sio (d + 32) dt hI hM  ((xs ((i + 1).toNat)).toInt) ⟨by omega, by omega⟩ ((xs ((i + 2).toNat)).toInt) ⟨by omega, by omega⟩ ) ?_
    rintro _ _ ⟨dt71, rfl, hI72, hF73, h70⟩
    refine ⟨rfl, ?_⟩
    have hF74 : Fr [0, 1, 2, 3, 4, 5, 6, 7, 8, 9, 10, 11, 12, 13, 14, 15, 16, 17, 18, 19, 20, 21, 22, 23, 24, 25, 26, 27, 28, 29, 30, 31, 32, 33, 34, 35, 36, 37, 38, 39, 40, 41, 42, 43, 44, 45, 46, 47, 48, 49, 50, 51, 52, 53, 54, 55, 56, 57, 58, 59, 60, 61, 62, 63, 64, 65, 66, 67, 68, 69, 70, 71, 72, 73, 74, 75, 76, 77, 78, 79, 80, 81, 82, 83, 84, 85, 86, 87, 88, 89, 90, 91, 92, 93, 94, 95, 96, 97, 98, 99, 100, 101, 102, 103, 104] dt dt71 := Fr_tr hF hF73 (by decide)
    have hM75 : MW (dt71 80) := MW_fr hM hF73 (by decide)
    have w76 : dt71 1 0 = dt 1 0 := hF73 1 (by decide) 0
    have w77 : dt71 7 3 = dt 7 3 := hF73 7 (by decide) 3
    have w78 : dt71 10 3 = dt 10 3 := hF73 10 (by decide) 3
    have w79 : dt71 12 3 = dt 12 3 := hF73 12 (by decide) 3
    have w80 : dt71 14 3 = dt 14 3 := hF73 14 (by decide) 3
    have w81 : dt71 16 3 = dt 16 3 := hF73 16 (by decide) 3
    have w82 : dt71 18 0 = dt 18 0 := hF73 18 (by decide) 0
    have w83 : dt71 24 3 = dt 24 3 := hF73 24 (by decide) 3
    have w84 : dt71 27 3 = dt 27 3 := hF73 27 (by decide) 3
    have w85 : dt71 29 3 = dt 29 3 := hF73 29 (by decide) 3
    have w86 : dt71 31 3 = dt 31 3 := hF73 31 (by decide) 3
    have w87 : dt71 33 3 = dt 33 3 := hF73 33 (by decide) 3
    have w88 : dt71 0 2 = dt 0 2 := hF73 0 (by decide) 2
    have w89 : dt71 35 1 = dt 35 1 := hF73 35 (by decide) 1
    have w90 : dt71 35 2 = dt 35 2 := hF73 35 (by decide) 2
    have w91 : dt71 35 3 = dt 35 3 := hF73 35 (by decide) 3
    have w92 : dt71 80 0 = dt 80 0 := hF73 80 (by decide) 0
    have w93 : dt71 80 1 = dt 80 1 := hF73 80 (by decide) 1
    have w94 : dt71 80 2 = dt 80 2 := hF73 80 (by decide) 2
    have w95 : dt71 80 3 = dt 80 3 := hF73 80 (by decide) 3
    have w96 : dt71 80 4 = dt 80 4 := hF73 80 (by decide) 4
    have w97 : dt71 80 5 = dt 80 5 := hF73 80 (by decide) 5
    have w98 : dt71 81 0 = dt 81 0 := hF73 81 (by decide) 0
    have w99 : dt71 81 1 = dt 81 1 := hF73 81 (by decide) 1
    have w100 : dt71 81 2 = dt 81 2 := hF73 81 (by decide) 2
    have w101 : dt71 81 3 = dt 81 3 := hF73 81 (by decide) 3
    have w102 : dt71 81 4 = dt 81 4 := hF73 81 (by decide) 4
    have w103 : dt71 81 5 = dt 81 5 := hF73 81 (by decide) 5
    have w104 : dt71 79 2 = dt 79 2 := hF73 79 (by decide) 2
    have w105 : dt71 79 12 = dt 79 12 := hF73 79 (by decide) 12
    have w106 : dt71 79 19 = dt 79 19 := hF73 79 (by decide) 19
    have w107 : dt71 79 21 = dt 79 21 := hF73 79 (by decide) 21
    rcases h70 with ⟨rfl, h70⟩ | ⟨v_h70, rfl, h70r, h70⟩
    · skip
      have M2108 : MW (dt71 81) := MW_frk hM2 hF73 (by decide)
      have y109 : (0 ≤ ((xs ((i + 1).toNat)).toInt) ∧ ((xs ((i + 1).toNat)).toInt) < dt 7 3) → (0 ≤ ((xs ((i + 2).toNat)).toInt) ∧ ((xs ((i + 2).toNat)).toInt) ≤ 9) → SDC (dt 9) (((xs ((i + 1).toNat)).toInt)).toNat ((xs ((i + 2).toNat)).toInt) = SAID (dt 80) (((xs ((i + 1).toNat)).toInt)).toNat ((xs ((i + 2).toNat)).toInt) := fun h1_ h2_ => SDL_c hd5 (by omega) (by omega)
      have C110 : ∀ j : Nat, dt71 2 j = dt 2 j := fun j => (hF73 2 (by decide) j).trans ((fun _ => rfl) j)
      have C111 : ∀ j : Nat, dt71 3 j = dt 3 j := fun j => (hF73 3 (by decide) j).trans ((fun _ => rfl) j)
      have C112 : ∀ j : Nat, dt71 19 j = dt 19 j := fun j => (hF73 19 (by decide) j).trans ((fun _ => rfl) j)
      have C113 : ∀ j : Nat, dt71 20 j = dt 20 j := fun j => (hF73 20 (by decide) j).trans ((fun _ => rfl) j)
      have C114 : ∀ j : Nat, dt71 8 j = dt 8 j := fun j => (hF73 8 (by decide) j).trans ((fun _ => rfl) j)
      have C115 : ∀ j : Nat, dt71 25 j = dt 25 j := fun j => (hF73 25 (by decide) j).trans ((fun _ => rfl) j)
      have C116 : ∀ j : Nat, dt71 9 j = dt 9 j := fun j => (hF73 9 (by decide) j).trans ((fun _ => rfl) j)
      have C117 : ∀ j : Nat, dt71 26 j = dt 26 j := fun j => (hF73 26 (by decide) j).trans ((fun _ => rfl) j)
      have C118 : ∀ j : Nat, dt71 36 j = dt 36 j := fun j => (hF73 36 (by decide) j).trans ((fun _ => rfl) j)
      have C119 : ∀ j : Nat, dt71 80 j = dt 80 j := fun j => (hF73 80 (by decide) j).trans ((fun _ => rfl) j)
      have C120 : ∀ j : Nat, dt71 81 j = dt 81 j := fun j => (hF73 81 (by decide) j).trans ((fun _ => rfl) j)
      have C121 : ∀ j : Nat, dt71 85 j = dt 85 j := fun j => (hF73 85 (by decide) j).trans ((fun _ => rfl) j)
      refine go_toq PM267 (k := 2) (pc' := 1435) (L' := [some (.inr (.inr (some 3000))), some (.inr (.inr (some 0))), some (.inr (.inr (some 79))), some (.inl i)]) (st' := []) (w' := (SH, dt71)) rfl ?_
      exact K dt71 hI72 hM75 M2108 (w76.trans (hk0.trans w92.symm)) (w77.trans (hk1.trans w93.symm)) (w78.trans (hk2.trans w94.symm)) (w79.trans (hk3.trans w95.symm)) (w80.trans (hk4.trans w96.symm)) (w81.trans (hk5.trans w97.symm)) (w82.trans (hk6.trans w98.symm)) (w83.trans (hk7.trans w99.symm)) (w84.trans (hk8.trans w100.symm)) (w85.trans (hk9.trans w101.symm)) (w86.trans (hk10.trans w102.symm)) (w87.trans (hk11.trans w103.symm)) (w88.trans (hk12.trans w104.symm)) (w89.trans (hk13.trans w105.symm)) (w90.trans (hk14.trans w106.symm)) (w91.trans (hk15.trans w107.symm)) (by first | exact hI | exact TPL_k hd0 C118 C121 (by omega) | (exfalso; omega)) (by first | exact hI | exact SCL_k hd1 hM (fun j _ => C110 j) (fun j _ => C111 j) (fun j _ _ => C119 j) | (exfalso; omega)) (by first | exact hI | exact SCL_k hd2 hM2 (fun j _ => C112 j) (fun j _ => C113 j) (fun j _ _ => C120 j) | (exfalso; omega)) (by first | exact hI | exact QRL_k hd3 hM (fun j _ => C114 j) (C119 1) (fun j _ _ => C119 j) | (exfalso; omega)) (by first | exact hI | exact QRL_k hd4 hM2 (fun j _ => C115 j) (C120 1) (fun j _ _ => C120 j) | (exfalso; omega)) (by first | exact hI | exact SDL_k hd5 hM (fun j _ => C116 j) (C119 1) (fun j _ _ => C119 j) (fun j _ _ => C119 j) | (exfalso; omega)) (by first | exact hI | exact SDL_k hd6 hM2 (fun j _ => C117 j) (C120 1) (fun j _ _ => C120 j) (fun j _ _ => C120 j) | (exfalso; omega))
    · skip
      obtain ⟨h70_0, h70_1⟩ := h70
      have M2122 : MW (dt71 81) := MW_frk hM2 hF73 (by decide)
      have y123 : (0 ≤ ((xs ((i + 1).toNat)).toInt) ∧ ((xs ((i + 1).toNat)).toInt) < dt 7 3) → (0 ≤ ((xs ((i + 2).toNat)).toInt) ∧ ((xs ((i + 2).toNat)).toInt) ≤ 9) → SDC (dt 9) (((xs ((i + 1).toNat)).toInt)).toNat ((xs ((i + 2).toNat)).toInt) = SAID (dt 80) (((xs ((i + 1).toNat)).toInt)).toNat ((xs ((i + 2).toNat)).toInt) := fun h1_ h2_ => SDL_c hd5 (by omega) (by omega)
      have C124 : ∀ j : Nat, dt71 2 j = dt 2 j := fun j => (hF73 2 (by decide) j).trans ((fun _ => rfl) j)
      have C125 : ∀ j : Nat, dt71 3 j = dt 3 j := fun j => (hF73 3 (by decide) j).trans ((fun _ => rfl) j)
      have C126 : ∀ j : Nat, dt71 19 j = dt 19 j := fun j => (hF73 19 (by decide) j).trans ((fun _ => rfl) j)
      have C127 : ∀ j : Nat, dt71 20 j = dt 20 j := fun j => (hF73 20 (by decide) j).trans ((fun _ => rfl) j)
      have C128 : ∀ j : Nat, dt71 8 j = dt 8 j := fun j => (hF73 8 (by decide) j).trans ((fun _ => rfl) j)
      have C129 : ∀ j : Nat, dt71 25 j = dt 25 j := fun j => (hF73 25 (by decide) j).trans ((fun _ => rfl) j)
      have C130 : ∀ j : Nat, dt71 9 j = dt 9 j := fun j => (hF73 9 (by decide) j).trans ((fun _ => rfl) j)
      have C131 : ∀ j : Nat, dt71 26 j = dt 26 j := fun j => (hF73 26 (by decide) j).trans ((fun _ => rfl) j)
      have C132 : ∀ j : Nat, dt71 36 j = dt 36 j := fun j => (hF73 36 (by decide) j).trans ((fun _ => rfl) j)
      have C133 : ∀ j : Nat, dt71 80 j = dt 80 j := fun j => (hF73 80 (by decide) j).trans ((fun _ => rfl) j)
      have C134 : ∀ j : Nat, dt71 81 j = dt 81 j := fun j => (hF73 81 (by decide) j).trans ((fun _ => rfl) j)
      have C135 : ∀ j : Nat, dt71 85 j = dt 85 j := fun j => (hF73 85 (by decide) j).trans ((fun _ => rfl) j)
      refine go_toq PM267 (k := 2) (pc' := 1435) (L' := [some (.inr (.inr (some 3000))), some (.inr (.inr (some 0))), some (.inr (.inr (some 79))), some (.inl i)]) (st' := []) (w' := (SH, dt71)) rfl ?_
      exact K dt71 hI72 hM75 M2122 (w76.trans (hk0.trans w92.symm)) (w77.trans (hk1.trans w93.symm)) (w78.trans (hk2.trans w94.symm)) (w79.trans (hk3.trans w95.symm)) (w80.trans (hk4.trans w96.symm)) (w81.trans (hk5.trans w97.symm)) (w82.trans (hk6.trans w98.symm)) (w83.trans (hk7.trans w99.symm)) (w84.trans (hk8.trans w100.symm)) (w85.trans (hk9.trans w101.symm)) (w86.trans (hk10.trans w102.symm)) (w87.trans (hk11.trans w103.symm)) (w88.trans (hk12.trans w104.symm)) (w89.trans (hk13.trans w105.symm)) (w90.trans (hk14.trans w106.symm)) (w91.trans (hk15.trans w107.symm)) (by first | exact hI | exact TPL_k hd0 C132 C135 (by omega) | (exfalso; omega)) (by first | exact hI | exact SCL_k hd1 hM (fun j _ => C124 j) (fun j _ => C125 j) (fun j _ _ => C133 j) | (exfalso; omega)) (by first | exact hI | exact SCL_k hd2 hM2 (fun j _ => C126 j) (fun j _ => C127 j) (fun j _ _ => C134 j) | (exfalso; omega)) (by first | exact hI | exact QRL_k hd3 hM (fun j _ => C128 j) (C133 1) (fun j _ _ => C133 j) | (exfalso; omega)) (by first | exact hI | exact QRL_k hd4 hM2 (fun j _ => C129 j) (C134 1) (fun j _ _ => C134 j) | (exfalso; omega)) (by first | exact hI | exact SDL_k hd5 hM (fun j _ => C130 j) (C133 1) (fun j _ _ => C133 j) (fun j _ _ => C133 j) | (exfalso; omega)) (by first | exact hI | exact SDL_k hd6 hM2 (fun j _ => C131 j) (C134 1) (fun j _ _ => C134 j) (fun j _ _ => C134 j) | (exfalso; omega))
set_option maxRecDepth 20000 in
set_option maxHeartbeats 8000000 in
theorem sp_case10 (L : Nat) (xs : Nat → Int32) (sio : Option Nat) (d : Nat) (Q : Option AV → am_W → Prop) (hLL : L ≤ 3072) (i : Int) (hi : 0 ≤ i ∧ i ≤ 3066) (hil : i ≤ (L : Int) - 6) (dt : Nat → Nat → Int) (hI : InvC dt) (hM : MW (dt 80)) (hM2 : MW (dt 81)) (hk0 : dt 1 0 = dt 80 0) (hk1 : dt 7 3 = dt 80 1) (hk2 : dt 10 3 = dt 80 2) (hk3 : dt 12 3 = dt 80 3) (hk4 : dt 14 3 = dt 80 4) (hk5 : dt 16 3 = dt 80 5) (hk6 : dt 18 0 = dt 81 0) (hk7 : dt 24 3 = dt 81 1) (hk8 : dt 27 3 = dt 81 2) (hk9 : dt 29 3 = dt 81 3) (hk10 : dt 31 3 = dt 81 4) (hk11 : dt 33 3 = dt 81 5) (hk12 : dt 0 2 = dt 79 2) (hk13 : dt 35 1 = dt 79 12) (hk14 : dt 35 2 = dt 79 19) (hk15 : dt 35 3 = dt 79 21) (hd0 : TPL (dt 36) (dt 85) (dt 35 1)) (hd1 : SCL (dt 2) (dt 3) (dt 80)) (hd2 : SCL (dt 19) (dt 20) (dt 81)) (hd3 : QRL (dt 8) (dt 80)) (hd4 : QRL (dt 25) (dt 81)) (hd5 : SDL (dt 9) (dt 80)) (hd6 : SDL (dt 26) (dt 81)) (K : ∀ (dt : Nat → Nat → Int) (hI : InvC dt) (hM : MW (dt 80)) (hM2 : MW (dt 81)) (hk0 : dt 1 0 = dt 80 0) (hk1 : dt 7 3 = dt 80 1) (hk2 : dt 10 3 = dt 80 2) (hk3 : dt 12 3 = dt 80 3) (hk4 : dt 14 3 = dt 80 4) (hk5 : dt 16 3 = dt 80 5) (hk6 : dt 18 0 = dt 81 0) (hk7 : dt 24 3 = dt 81 1) (hk8 : dt 27 3 = dt 81 2) (hk9 : dt 29 3 = dt 81 3) (hk10 : dt 31 3 = dt 81 4) (hk11 : dt 33 3 = dt 81 5) (hk12 : dt 0 2 = dt 79 2) (hk13 : dt 35 1 = dt 79 12) (hk14 : dt 35 2 = dt 79 19) (hk15 : dt 35 3 = dt 79 21) (hd0 : TPL (dt 36) (dt 85) (dt 35 1)) (hd1 : SCL (dt 2) (dt 3) (dt 80)) (hd2 : SCL (dt 19) (dt 20) (dt 81)) (hd3 : QRL (dt 8) (dt 80)) (hd4 : QRL (dt 25) (dt 81)) (hd5 : SDL (dt 9) (dt 80)) (hd6 : SDL (dt 26) (dt 81)), GO (am_XX L xs sio) (d + 39) 267 1435 [some (.inr (.inr (some 3000))), some (.inr (.inr (some 0))), some (.inr (.inr (some 79))), some (.inl i)] [] (SH, dt) Q) : GO (am_XX L xs sio) (d + 39) 267 590 [some (.inr (.inr (some 3000))), some (.inr (.inr (some 0))), some (.inr (.inr (some 79))), some (.inl i)] [] (SH, dt) Q := by
  have hF : Fr [0, 1, 2, 3, 4, 5, 6, 7, 8, 9, 10, 11, 12, 13, 14, 15, 16, 17, 18, 19, 20, 21, 22, 23, 24, 25, 26, 27, 28, 29, 30, 31, 32, 33, 34, 35, 36, 37, 38, 39, 40, 41, 42, 43, 44, 45, 46, 47, 48, 49, 50, 51, 52, 53, 54, 55, 56, 57, 58, 59, 60, 61, 62, 63, 64, 65, 66, 67, 68, 69, 70, 71, 72, 73, 74, 75, 76, 77, 78, 79, 80, 81, 82, 83, 84, 85, 86, 87, 88, 89, 90, 91, 92, 93, 94, 95, 96, 97, 98, 99, 100, 101, 102, 103, 104] dt dt := Fr_refl
  have hqo := QOC_R hd3 hM hk1
  have hb1_ := hM.1.1
  refine go_toq PM267 (k := 5) (pc' := 595) (L' := [some (.inr (.inr (some 3000))), some (.inr (.inr (some 0))), some (.inr (.inr (some 79))), some (.inl i)]) (st' := [.inl (i + 1), .inr (.inr (some 3000)), .inr (.inr (some 0))]) (w' := (SH, dt)) rfl ?_
  have r1 := i32_R (xs ((i + 1).toNat))
  refine go_smpq PM267 (L' := [some (.inr (.inr (some 3000))), some (.inr (.inr (some 0))), some (.inr (.inr (some 79))), some (.inl i)]) (st' := [.inl ((xs ((i + 1).toNat)).toInt), .inr (.inr (some 0))]) (w' := (SH, dt)) rfl rfl (s_iald (n := L) (f := fun j => (xs j).toInt) (am_scr hLL) ⟨by omega, by omega⟩) ?_
  refine go_toq PM267 (k := 4) (pc' := 600) (L' := [some (.inr (.inr (some 3000))), some (.inr (.inr (some 0))), some (.inr (.inr (some 79))), some (.inl i)]) (st' := [.inl (i + 2), .inr (.inr (some 3000)), .inl ((xs ((i + 1).toNat)).toInt), .inr (.inr (some 0))]) (w' := (SH, dt)) rfl ?_
  have r2 := i32_R (xs ((i + 2).toNat))
  refine go_smpq PM267 (L' := [some (.inr (.inr (some 3000))), some (.inr (.inr (some 0))), some (.inr (.inr (some 79))), some (.inl i)]) (st' := [.inl ((xs ((i + 2).toNat)).toInt), .inl ((xs ((i + 1).toNat)).toInt), .inr (.inr (some 0))]) (w' := (SH, dt)) rfl rfl (s_iald (n := L) (f := fun j => (xs j).toInt) (am_scr hLL) ⟨by omega, by omega⟩) ?_
  refine go_toq PM267 (k := 4) (pc' := 605) (L' := [some (.inr (.inr (some 3000))), some (.inr (.inr (some 0))), some (.inr (.inr (some 79))), some (.inl i)]) (st' := [.inl (i + 3), .inr (.inr (some 3000)), .inl ((xs ((i + 2).toNat)).toInt), .inl ((xs ((i + 1).toNat)).toInt), .inr (.inr (some 0))]) (w' := (SH, dt)) rfl ?_
  have r3 := i32_R (xs ((i + 3).toNat))
  refine go_smpq PM267 (L' := [some (.inr (.inr (some 3000))), some (.inr (.inr (some 0))), some (.inr (.inr (some 79))), some (.inl i)]) (st' := [.inl ((xs ((i + 3).toNat)).toInt), .inl ((xs ((i + 2).toNat)).toInt), .inl ((xs ((i + 1).toNat)).toInt), .inr (.inr (some 0))]) (w' := (SH, dt)) rfl rfl (s_iald (n := L) (f := fun j => (xs j).toInt) (am_scr hLL) ⟨by omega, by omega⟩) ?_
  refine go_toq PM267 (k := 4) (pc' := 610) (L' := [some (.inr (.inr (some 3000))), some (.inr (.inr (some 0))), some (.inr (.inr (some 79))), some (.inl i)]) (st' := [.inl (i + 4), .inr (.inr (some 3000)), .inl ((xs ((i + 3).toNat)).toInt), .inl ((xs ((i + 2).toNat)).toInt), .inl ((xs ((i + 1).toNat)).toInt), .inr (.inr (some 0))]) (w' := (SH, dt)) rfl ?_
  have r4 := i32_R (xs ((i + 4).toNat))
  refine go_smpq PM267 (L' := [some (.inr (.inr (some 3000))), some (.inr (.inr (some 0))), some (.inr (.inr (some 79))), some (.inl i)]) (st' := [.inl ((xs ((i + 4).toNat)).toInt), .inl ((xs ((i + 3).toNat)).toInt), .inl ((xs ((i + 2).toNat)).toInt), .inl ((xs ((i + 1).toNat)).toInt), .inr (.inr (some 0))]) (w' := (SH, dt)) rfl rfl (s_iald (n := L) (f := fun j => (xs j).toInt) (am_scr hLL) ⟨by omega, by omega⟩) ?_
  refine go_callq PM267 PM77 (Q' := _) rfl rfl rfl rfl (sp_X5_child L xs sio (d + 36) dt hI  ((xs ((i + 1).toNat)).toInt) ⟨by omega, by omega⟩ ((xs ((i + 2).toNat)).toInt) ⟨by omega, by omega⟩ ((xs ((i + 3).toNat)).toInt) ⟨by omega, by omega⟩ ((xs ((i + 4).toNat)).toInt) ⟨by omega, by omega⟩ ) ?_
  rintro _ _ ⟨dt6, rfl, hI7, hF8, h5⟩
  refine ⟨rfl, ?_⟩
  have hF9 : Fr [0, 1, 2, 3, 4, 5, 6, 7, 8, 9, 10, 11, 12, 13, 14, 15, 16, 17, 18, 19, 20, 21, 22, 23, 24, 25, 26, 27, 28, 29, 30, 31, 32, 33, 34, 35, 36, 37, 38, 39, 40, 41, 42, 43, 44, 45, 46, 47, 48, 49, 50, 51, 52, 53, 54, 55, 56, 57, 58, 59, 60, 61, 62, 63, 64, 65, 66, 67, 68, 69, 70, 71, 72, 73, 74, 75, 76, 77, 78, 79, 80, 81, 82, 83, 84, 85, 86, 87, 88, 89, 90, 91, 92, 93, 94, 95, 96, 97, 98, 99, 100, 101, 102, 103, 104] dt dt6 := Fr_tr hF hF8 (by decide)
  have hM10 : MW (dt6 80) := MW_fr hM hF8 (by decide)
  have w11 : dt6 1 0 = dt 1 0 := hF8 1 (by decide) 0
  have w12 : dt6 7 3 = dt 7 3 := hF8 7 (by decide) 3
  have w13 : dt6 12 3 = dt 12 3 := hF8 12 (by decide) 3
  have w14 : dt6 14 3 = dt 14 3 := hF8 14 (by decide) 3
  have w15 : dt6 16 3 = dt 16 3 := hF8 16 (by decide) 3
  have w16 : dt6 18 0 = dt 18 0 := hF8 18 (by decide) 0
  have w17 : dt6 24 3 = dt 24 3 := hF8 24 (by decide) 3
  have w18 : dt6 27 3 = dt 27 3 := hF8 27 (by decide) 3
  have w19 : dt6 29 3 = dt 29 3 := hF8 29 (by decide) 3
  have w20 : dt6 31 3 = dt 31 3 := hF8 31 (by decide) 3
  have w21 : dt6 33 3 = dt 33 3 := hF8 33 (by decide) 3
  have w22 : dt6 0 2 = dt 0 2 := hF8 0 (by decide) 2
  have w23 : dt6 35 1 = dt 35 1 := hF8 35 (by decide) 1
  have w24 : dt6 35 2 = dt 35 2 := hF8 35 (by decide) 2
  have w25 : dt6 35 3 = dt 35 3 := hF8 35 (by decide) 3
  have w26 : dt6 80 0 = dt 80 0 := hF8 80 (by decide) 0
  have w27 : dt6 80 1 = dt 80 1 := hF8 80 (by decide) 1
  have w28 : dt6 80 2 = dt 80 2 := hF8 80 (by decide) 2
  have w29 : dt6 80 3 = dt 80 3 := hF8 80 (by decide) 3
  have w30 : dt6 80 4 = dt 80 4 := hF8 80 (by decide) 4
  have w31 : dt6 80 5 = dt 80 5 := hF8 80 (by decide) 5
  have w32 : dt6 81 0 = dt 81 0 := hF8 81 (by decide) 0
  have w33 : dt6 81 1 = dt 81 1 := hF8 81 (by decide) 1
  have w34 : dt6 81 2 = dt 81 2 := hF8 81 (by decide) 2
  have w35 : dt6 81 3 = dt 81 3 := hF8 81 (by decide) 3
  have w36 : dt6 81 4 = dt 81 4 := hF8 81 (by decide) 4
  have w37 : dt6 81 5 = dt 81 5 := hF8 81 (by decide) 5
  have w38 : dt6 79 2 = dt 79 2 := hF8 79 (by decide) 2
  have w39 : dt6 79 12 = dt 79 12 := hF8 79 (by decide) 12
  have w40 : dt6 79 19 = dt 79 19 := hF8 79 (by decide) 19
  have w41 : dt6 79 21 = dt 79 21 := hF8 79 (by decide) 21
  rcases h5 with ⟨rfl, h5⟩ | ⟨v_h5, rfl, h5r, h5⟩
  · skip
    obtain ⟨h5_0, h5_1⟩ := h5
    have w42 : dt6 10 3 = dt 10 3 := h5_1
    have M243 : MW (dt6 81) := MW_frk hM2 hF8 (by decide)
    have C44 : ∀ j : Nat, dt6 2 j = dt 2 j := fun j => (hF8 2 (by decide) j).trans ((fun _ => rfl) j)
    have C45 : ∀ j : Nat, dt6 3 j = dt 3 j := fun j => (hF8 3 (by decide) j).trans ((fun _ => rfl) j)
    have C46 : ∀ j : Nat, dt6 19 j = dt 19 j := fun j => (hF8 19 (by decide) j).trans ((fun _ => rfl) j)
    have C47 : ∀ j : Nat, dt6 20 j = dt 20 j := fun j => (hF8 20 (by decide) j).trans ((fun _ => rfl) j)
    have C48 : ∀ j : Nat, dt6 8 j = dt 8 j := fun j => (hF8 8 (by decide) j).trans ((fun _ => rfl) j)
    have C49 : ∀ j : Nat, dt6 25 j = dt 25 j := fun j => (hF8 25 (by decide) j).trans ((fun _ => rfl) j)
    have C50 : ∀ j : Nat, dt6 9 j = dt 9 j := fun j => (hF8 9 (by decide) j).trans ((fun _ => rfl) j)
    have C51 : ∀ j : Nat, dt6 26 j = dt 26 j := fun j => (hF8 26 (by decide) j).trans ((fun _ => rfl) j)
    have C52 : ∀ j : Nat, dt6 36 j = dt 36 j := fun j => (hF8 36 (by decide) j).trans ((fun _ => rfl) j)
    have C53 : ∀ j : Nat, dt6 80 j = dt 80 j := fun j => (hF8 80 (by decide) j).trans ((fun _ => rfl) j)
    have C54 : ∀ j : Nat, dt6 81 j = dt 81 j := fun j => (hF8 81 (by decide) j).trans ((fun _ => rfl) j)
    have C55 : ∀ j : Nat, dt6 85 j = dt 85 j := fun j => (hF8 85 (by decide) j).trans ((fun _ => rfl) j)
    refine go_toq PM267 (k := 6) (pc' := 620) (L' := [some (.inr (.inr (some 3000))), some (.inr (.inr (some 0))), some (.inr (.inr (some 79))), some (.inl i)]) (st' := [.inl (i + 1), .inr (.inr (some 3000)), .inr (.inr (some 79))]) (w' := (SH, dt6)) rfl ?_
    have r56 := i32_R (xs ((i + 1).toNat))
    refine go_smpq PM267 (L' := [some (.inr (.inr (some 3000))), some (.inr (.inr (some 0))), some (.inr (.inr (some 79))), some (.inl i)]) (st' := [.inl ((xs ((i + 1).toNat)).toInt), .inr (.inr (some 79))]) (w' := (SH, dt6)) rfl rfl (s_iald (n := L) (f := fun j => (xs j).toInt) (am_scr hLL) ⟨by omega, by omega⟩) ?_
    refine go_toq PM267 (k := 4) (pc' := 625) (L' := [some (.inr (.inr (some 3000))), some (.inr (.inr (some 0))), some (.inr (.inr (some 79))), some (.inl i)]) (st' := [.inl (i + 2), .inr (.inr (some 3000)), .inl ((xs ((i + 1).toNat)).toInt), .inr (.inr (some 79))]) (w' := (SH, dt6)) rfl ?_
    have r57 := i32_R (xs ((i + 2).toNat))
    refine go_smpq PM267 (L' := [some (.inr (.inr (some 3000))), some (.inr (.inr (some 0))), some (.inr (.inr (some 79))), some (.inl i)]) (st' := [.inl ((xs ((i + 2).toNat)).toInt), .inl ((xs ((i + 1).toNat)).toInt), .inr (.inr (some 79))]) (w' := (SH, dt6)) rfl rfl (s_iald (n := L) (f := fun j => (xs j).toInt) (am_scr hLL) ⟨by omega, by omega⟩) ?_
    refine go_toq PM267 (k := 4) (pc' := 630) (L' := [some (.inr (.inr (some 3000))), some (.inr (.inr (some 0))), some (.inr (.inr (some 79))), some (.inl i)]) (st' := [.inl (i + 3), .inr (.inr (some 3000)), .inl ((xs ((i + 2).toNat)).toInt), .inl ((xs ((i + 1).toNat)).toInt), .inr (.inr (some 79))]) (w' := (SH, dt6)) rfl ?_
    have r58 := i32_R (xs ((i + 3).toNat))
    refine go_smpq PM267 (L' := [some (.inr (.inr (some 3000))), some (.inr (.inr (some 0))), some (.inr (.inr (some 79))), some (.inl i)]) (st' := [.inl ((xs ((i + 3).toNat)).toInt), .inl ((xs ((i + 2).toNat)).toInt), .inl ((xs ((i + 1).toNat)).toInt), .inr (.inr (some 79))]) (w' := (SH, dt6)) rfl rfl (s_iald (n := L) (f := fun j => (xs j).toInt) (am_scr hLL) ⟨by omega, by omega⟩) ?_
    refine go_toq PM267 (k := 4) (pc' := 635) (L' := [some (.inr (.inr (some 3000))), some (.inr (.inr (some 0))), some (.inr (.inr (some 79))), some (.inl i)]) (st' := [.inl (i + 4), .inr (.inr (some 3000)), .inl ((xs ((i + 3).toNat)).toInt), .inl ((xs ((i + 2).toNat)).toInt), .inl ((xs ((i + 1).toNat)).toInt), .inr (.inr (some 79))]) (w' := (SH, dt6)) rfl ?_
    have r59 := i32_R (xs ((i + 4).toNat))
    refine go_smpq PM267 (L' := [some (.inr (.inr (some 3000))), some (.inr (.inr (some 0))), some (.inr (.inr (some 79))), some (.inl i)]) (st' := [.inl ((xs ((i + 4).toNat)).toInt), .inl ((xs ((i + 3).toNat)).toInt), .inl ((xs ((i + 2).toNat)).toInt), .inl ((xs ((i + 1).toNat)).toInt), .inr (.inr (some 79))]) (w' := (SH, dt6)) rfl rfl (s_iald (n := L) (f := fun j => (xs j).toInt) (am_scr hLL) ⟨by omega, by omega⟩) ?_
    refine go_callq PM267 PM202 (Q' := _) rfl rfl rfl rfl (sp_X6_child_v L xs sio (d + 36) dt6 hI7 hM10  ((xs ((i + 1).toNat)).toInt) ⟨by omega, by omega⟩ ((xs ((i + 2).toNat)).toInt) ⟨by omega, by omega⟩ ((xs ((i + 3).toNat)).toInt) ⟨by omega, by omega⟩ ((xs ((i + 4).toNat)).toInt) ⟨by omega, by omega⟩ ) ?_
    rintro _ _ ⟨dt61, rfl, hI62, hF63, h60⟩
    refine ⟨rfl, ?_⟩
    have hF64 : Fr [0, 1, 2, 3, 4, 5, 6, 7, 8, 9, 10, 11, 12, 13, 14, 15, 16, 17, 18, 19, 20, 21, 22, 23, 24, 25, 26, 27, 28, 29, 30, 31, 32, 33, 34, 35, 36, 37, 38, 39, 40, 41, 42, 43, 44, 45, 46, 47, 48, 49, 50, 51, 52, 53, 54, 55, 56, 57, 58, 59, 60, 61, 62, 63, 64, 65, 66, 67, 68, 69, 70, 71, 72, 73, 74, 75, 76, 77, 78, 79, 80, 81, 82, 83, 84, 85, 86, 87, 88, 89, 90, 91, 92, 93, 94, 95, 96, 97, 98, 99, 100, 101, 102, 103, 104] dt dt61 := Fr_tr hF9 hF63 (by decide)
    have w65 : dt61 1 0 = dt 1 0 := (hF63 1 (by decide) 0).trans w11
    have w66 : dt61 7 3 = dt 7 3 := (hF63 7 (by decide) 3).trans w12
    have w67 : dt61 10 3 = dt 10 3 := (hF63 10 (by decide) 3).trans w42
    have w68 : dt61 12 3 = dt 12 3 := (hF63 12 (by decide) 3).trans w13
    have w69 : dt61 14 3 = dt 14 3 := (hF63 14 (by decide) 3).trans w14
    have w70 : dt61 16 3 = dt 16 3 := (hF63 16 (by decide) 3).trans w15
    have w71 : dt61 18 0 = dt 18 0 := (hF63 18 (by decide) 0).trans w16
    have w72 : dt61 24 3 = dt 24 3 := (hF63 24 (by decide) 3).trans w17
    have w73 : dt61 27 3 = dt 27 3 := (hF63 27 (by decide) 3).trans w18
    have w74 : dt61 29 3 = dt 29 3 := (hF63 29 (by decide) 3).trans w19
    have w75 : dt61 31 3 = dt 31 3 := (hF63 31 (by decide) 3).trans w20
    have w76 : dt61 33 3 = dt 33 3 := (hF63 33 (by decide) 3).trans w21
    have w77 : dt61 0 2 = dt 0 2 := (hF63 0 (by decide) 2).trans w22
    have w78 : dt61 35 1 = dt 35 1 := (hF63 35 (by decide) 1).trans w23
    have w79 : dt61 35 2 = dt 35 2 := (hF63 35 (by decide) 2).trans w24
    have w80 : dt61 35 3 = dt 35 3 := (hF63 35 (by decide) 3).trans w25
    have w81 : dt61 81 0 = dt 81 0 := (hF63 81 (by decide) 0).trans w32
    have w82 : dt61 81 1 = dt 81 1 := (hF63 81 (by decide) 1).trans w33
    have w83 : dt61 81 2 = dt 81 2 := (hF63 81 (by decide) 2).trans w34
    have w84 : dt61 81 3 = dt 81 3 := (hF63 81 (by decide) 3).trans w35
    have w85 : dt61 81 4 = dt 81 4 := (hF63 81 (by decide) 4).trans w36
    have w86 : dt61 81 5 = dt 81 5 := (hF63 81 (by decide) 5).trans w37
    have w87 : dt61 79 2 = dt 79 2 := (hF63 79 (by decide) 2).trans w38
    have w88 : dt61 79 12 = dt 79 12 := (hF63 79 (by decide) 12).trans w39
    have w89 : dt61 79 19 = dt 79 19 := (hF63 79 (by decide) 19).trans w40
    have w90 : dt61 79 21 = dt 79 21 := (hF63 79 (by decide) 21).trans w41
    rcases h60 with ⟨rfl, h60⟩ | ⟨v_h60, rfl, h60r, h60⟩
    · skip
      have hM91 : MW (dt61 80) := h60.2.1
      obtain ⟨h60_0, h60_1, h60_2, h60_3, h60_4, h60_5, h60_6, h60_7, h60_8⟩ := h60
      have w92 : dt61 80 0 = dt 80 0 := h60_2.trans w26
      have w93 : dt61 80 1 = dt 80 1 := h60_3.trans w27
      have w94 : dt61 80 2 = dt 80 2 := h60_4.trans w28
      have w95 : dt61 80 3 = dt 80 3 := h60_5.trans w29
      have w96 : dt61 80 4 = dt 80 4 := h60_6.trans w30
      have w97 : dt61 80 5 = dt 80 5 := h60_7.trans w31
      have M298 : MW (dt61 81) := MW_frk M243 hF63 (by decide)
      have C99 : ∀ j : Nat, dt61 2 j = dt 2 j := fun j => (hF63 2 (by decide) j).trans (C44 j)
      have C100 : ∀ j : Nat, dt61 3 j = dt 3 j := fun j => (hF63 3 (by decide) j).trans (C45 j)
      have C101 : ∀ j : Nat, dt61 19 j = dt 19 j := fun j => (hF63 19 (by decide) j).trans (C46 j)
      have C102 : ∀ j : Nat, dt61 20 j = dt 20 j := fun j => (hF63 20 (by decide) j).trans (C47 j)
      have C103 : ∀ j : Nat, dt61 8 j = dt 8 j := fun j => (hF63 8 (by decide) j).trans (C48 j)
      have C104 : ∀ j : Nat, dt61 25 j = dt 25 j := fun j => (hF63 25 (by decide) j).trans (C49 j)
      have C105 : ∀ j : Nat, dt61 9 j = dt 9 j := fun j => (hF63 9 (by decide) j).trans (C50 j)
      have C106 : ∀ j : Nat, dt61 26 j = dt 26 j := fun j => (hF63 26 (by decide) j).trans (C51 j)
      have C107 : ∀ j : Nat, dt61 36 j = dt 36 j := fun j => (hF63 36 (by decide) j).trans (C52 j)
      have C108 : ∀ j : Nat, dt61 80 j = dt 80 j := fun j => (h60_8 j).trans (C53 j)
      have C109 : ∀ j : Nat, dt61 81 j = dt 81 j := fun j => (hF63 81 (by decide) j).trans (C54 j)
      have C110 : ∀ j : Nat, dt61 85 j = dt 85 j := fun j => (hF63 85 (by decide) j).trans (C55 j)
      refine go_toq PM267 (k := 2) (pc' := 1435) (L' := [some (.inr (.inr (some 3000))), some (.inr (.inr (some 0))), some (.inr (.inr (some 79))), some (.inl i)]) (st' := []) (w' := (SH, dt61)) rfl ?_
      exact K dt61 hI62 hM91 M298 (w65.trans (hk0.trans w92.symm)) (w66.trans (hk1.trans w93.symm)) (w67.trans (hk2.trans w94.symm)) (w68.trans (hk3.trans w95.symm)) (w69.trans (hk4.trans w96.symm)) (w70.trans (hk5.trans w97.symm)) (w71.trans (hk6.trans w81.symm)) (w72.trans (hk7.trans w82.symm)) (w73.trans (hk8.trans w83.symm)) (w74.trans (hk9.trans w84.symm)) (w75.trans (hk10.trans w85.symm)) (w76.trans (hk11.trans w86.symm)) (w77.trans (hk12.trans w87.symm)) (w78.trans (hk13.trans w88.symm)) (w79.trans (hk14.trans w89.symm)) (w80.trans (hk15.trans w90.symm)) (by first | exact hI | exact TPL_k hd0 C107 C110 (by omega) | (exfalso; omega)) (by first | exact hI | exact SCL_k hd1 hM (fun j _ => C99 j) (fun j _ => C100 j) (fun j _ _ => C108 j) | (exfalso; omega)) (by first | exact hI | exact SCL_k hd2 hM2 (fun j _ => C101 j) (fun j _ => C102 j) (fun j _ _ => C109 j) | (exfalso; omega)) (by first | exact hI | exact QRL_k hd3 hM (fun j _ => C103 j) (C108 1) (fun j _ _ => C108 j) | (exfalso; omega)) (by first | exact hI | exact QRL_k hd4 hM2 (fun j _ => C104 j) (C109 1) (fun j _ _ => C109 j) | (exfalso; omega)) (by first | exact hI | exact SDL_k hd5 hM (fun j _ => C105 j) (C108 1) (fun j _ _ => C108 j) (fun j _ _ => C108 j) | (exfalso; omega)) (by first | exact hI | exact SDL_k hd6 hM2 (fun j _ => C106 j) (C109 1) (fun j _ _ => C109 j) (fun j _ _ => C109 j) | (exfalso; omega))
    · skip
      have hM111 : MW (dt61 80) := h60.2.2.1
      obtain ⟨h60_0, h60_1, h60_2, h60_3, h60_4, h60_5, h60_6, h60_7, h60_8, h60_9, h60_10, h60_11, h60_12, h60_13⟩ := h60
      have w112 : dt61 80 0 = dt 80 0 := h60_4.trans w26
      have w113 : dt61 80 1 = dt 80 1 := h60_5.trans w27
      have w114 : dt61 80 3 = dt 80 3 := h60_6.trans w29
      have w115 : dt61 80 4 = dt 80 4 := h60_7.trans w30
      have w116 : dt61 80 5 = dt 80 5 := h60_8.trans w31
      have M2117 : MW (dt61 81) := MW_frk M243 hF63 (by decide)
      have C118 : ∀ j : Nat, dt61 2 j = dt 2 j := fun j => (hF63 2 (by decide) j).trans (C44 j)
      have C119 : ∀ j : Nat, dt61 3 j = dt 3 j := fun j => (hF63 3 (by decide) j).trans (C45 j)
      have C120 : ∀ j : Nat, dt61 19 j = dt 19 j := fun j => (hF63 19 (by decide) j).trans (C46 j)
      have C121 : ∀ j : Nat, dt61 20 j = dt 20 j := fun j => (hF63 20 (by decide) j).trans (C47 j)
      have C122 : ∀ j : Nat, dt61 8 j = dt 8 j := fun j => (hF63 8 (by decide) j).trans (C48 j)
      have C123 : ∀ j : Nat, dt61 25 j = dt 25 j := fun j => (hF63 25 (by decide) j).trans (C49 j)
      have C124 : ∀ j : Nat, dt61 9 j = dt 9 j := fun j => (hF63 9 (by decide) j).trans (C50 j)
      have C125 : ∀ j : Nat, dt61 26 j = dt 26 j := fun j => (hF63 26 (by decide) j).trans (C51 j)
      have C126 : ∀ j : Nat, dt61 36 j = dt 36 j := fun j => (hF63 36 (by decide) j).trans (C52 j)
      have C127 : ∀ j : Nat, dt61 81 j = dt 81 j := fun j => (hF63 81 (by decide) j).trans (C54 j)
      have C128 : ∀ j : Nat, dt61 85 j = dt 85 j := fun j => (hF63 85 (by decide) j).trans (C55 j)
      have F129 : ∀ j : Nat, 6 ≤ j → j < 974 → dt61 80 j = dt 80 j := fun j h1_ h2_ => (h60_9 j (by omega) (by omega)).trans (C53 j)
      have F130 : ∀ j : Nat, 5320 ≤ j → j < 5380 → dt61 80 j = dt 80 j := fun j h1_ h2_ => (h60_9 j (by omega) (by omega)).trans (C53 j)
      have F131 : dt61 80 1 = dt 80 1 := (h60_9 1 (by omega) (by omega)).trans (C53 1)
      refine go_toq PM267 (k := 2) (pc' := 1435) (L' := [some (.inr (.inr (some 3000))), some (.inr (.inr (some 0))), some (.inr (.inr (some 79))), some (.inl i)]) (st' := []) (w' := (SH, dt61)) rfl ?_
      exact K dt61 hI62 hM111 M2117 (w65.trans (hk0.trans w112.symm)) (w66.trans (hk1.trans w113.symm)) (by omega) (w68.trans (hk3.trans w114.symm)) (w69.trans (hk4.trans w115.symm)) (w70.trans (hk5.trans w116.symm)) (w71.trans (hk6.trans w81.symm)) (w72.trans (hk7.trans w82.symm)) (w73.trans (hk8.trans w83.symm)) (w74.trans (hk9.trans w84.symm)) (w75.trans (hk10.trans w85.symm)) (w76.trans (hk11.trans w86.symm)) (w77.trans (hk12.trans w87.symm)) (w78.trans (hk13.trans w88.symm)) (w79.trans (hk14.trans w89.symm)) (w80.trans (hk15.trans w90.symm)) (by first | exact hI | exact TPL_k hd0 C126 C128 (by omega) | (exfalso; omega)) (by first | exact hI | exact SCL_k hd1 hM (fun j _ => C118 j) (fun j _ => C119 j) F129 | (exfalso; omega)) (by first | exact hI | exact SCL_k hd2 hM2 (fun j _ => C120 j) (fun j _ => C121 j) (fun j _ _ => C127 j) | (exfalso; omega)) (by first | exact hI | exact QRL_k hd3 hM (fun j _ => C122 j) F131 F130 | (exfalso; omega)) (by first | exact hI | exact QRL_k hd4 hM2 (fun j _ => C123 j) (C127 1) (fun j _ _ => C127 j) | (exfalso; omega)) (by first | exact hI | exact SDL_k hd5 hM (fun j _ => C124 j) F131 F129 F130 | (exfalso; omega)) (by first | exact hI | exact SDL_k hd6 hM2 (fun j _ => C125 j) (C127 1) (fun j _ _ => C127 j) (fun j _ _ => C127 j) | (exfalso; omega))
  · skip
    obtain ⟨h5_0, h5_1, h5_2⟩ := h5
    have M2132 : MW (dt6 81) := MW_frk hM2 hF8 (by decide)
    have C133 : ∀ j : Nat, dt6 2 j = dt 2 j := fun j => (hF8 2 (by decide) j).trans ((fun _ => rfl) j)
    have C134 : ∀ j : Nat, dt6 3 j = dt 3 j := fun j => (hF8 3 (by decide) j).trans ((fun _ => rfl) j)
    have C135 : ∀ j : Nat, dt6 19 j = dt 19 j := fun j => (hF8 19 (by decide) j).trans ((fun _ => rfl) j)
    have C136 : ∀ j : Nat, dt6 20 j = dt 20 j := fun j => (hF8 20 (by decide) j).trans ((fun _ => rfl) j)
    have C137 : ∀ j : Nat, dt6 8 j = dt 8 j := fun j => (hF8 8 (by decide) j).trans ((fun _ => rfl) j)
    have C138 : ∀ j : Nat, dt6 25 j = dt 25 j := fun j => (hF8 25 (by decide) j).trans ((fun _ => rfl) j)
    have C139 : ∀ j : Nat, dt6 9 j = dt 9 j := fun j => (hF8 9 (by decide) j).trans ((fun _ => rfl) j)
    have C140 : ∀ j : Nat, dt6 26 j = dt 26 j := fun j => (hF8 26 (by decide) j).trans ((fun _ => rfl) j)
    have C141 : ∀ j : Nat, dt6 36 j = dt 36 j := fun j => (hF8 36 (by decide) j).trans ((fun _ => rfl) j)
    have C142 : ∀ j : Nat, dt6 80 j = dt 80 j := fun j => (hF8 80 (by decide) j).trans ((fun _ => rfl) j)
    have C143 : ∀ j : Nat, dt6 81 j = dt 81 j := fun j => (hF8 81 (by decide) j).trans ((fun _ => rfl) j)
    have C144 : ∀ j : Nat, dt6 85 j = dt 85 j := fun j => (hF8 85 (by decide) j).trans ((fun _ => rfl) j)
    refine go_toq PM267 (k := 6) (pc' := 620) (L' := [some (.inr (.inr (some 3000))), some (.inr (.inr (some 0))), some (.inr (.inr (some 79))), some (.inl i)]) (st' := [.inl (i + 1), .inr (.inr (some 3000)), .inr (.inr (some 79))]) (w' := (SH, dt6)) rfl ?_
    have r145 := i32_R (xs ((i + 1).toNat))
    refine go_smpq PM267 (L' := [some (.inr (.inr (some 3000))), some (.inr (.inr (some 0))), some (.inr (.inr (some 79))), some (.inl i)]) (st' := [.inl ((xs ((i + 1).toNat)).toInt), .inr (.inr (some 79))]) (w' := (SH, dt6)) rfl rfl (s_iald (n := L) (f := fun j => (xs j).toInt) (am_scr hLL) ⟨by omega, by omega⟩) ?_
    refine go_toq PM267 (k := 4) (pc' := 625) (L' := [some (.inr (.inr (some 3000))), some (.inr (.inr (some 0))), some (.inr (.inr (some 79))), some (.inl i)]) (st' := [.inl (i + 2), .inr (.inr (some 3000)), .inl ((xs ((i + 1).toNat)).toInt), .inr (.inr (some 79))]) (w' := (SH, dt6)) rfl ?_
    have r146 := i32_R (xs ((i + 2).toNat))
    refine go_smpq PM267 (L' := [some (.inr (.inr (some 3000))), some (.inr (.inr (some 0))), some (.inr (.inr (some 79))), some (.inl i)]) (st' := [.inl ((xs ((i + 2).toNat)).toInt), .inl ((xs ((i + 1).toNat)).toInt), .inr (.inr (some 79))]) (w' := (SH, dt6)) rfl rfl (s_iald (n := L) (f := fun j => (xs j).toInt) (am_scr hLL) ⟨by omega, by omega⟩) ?_
    refine go_toq PM267 (k := 4) (pc' := 630) (L' := [some (.inr (.inr (some 3000))), some (.inr (.inr (some 0))), some (.inr (.inr (some 79))), some (.inl i)]) (st' := [.inl (i + 3), .inr (.inr (some 3000)), .inl ((xs ((i + 2).toNat)).toInt), .inl ((xs ((i + 1).toNat)).toInt), .inr (.inr (some 79))]) (w' := (SH, dt6)) rfl ?_
    have r147 := i32_R (xs ((i + 3).toNat))
    refine go_smpq PM267 (L' := [some (.inr (.inr (some 3000))), some (.inr (.inr (some 0))), some (.inr (.inr (some 79))), some (.inl i)]) (st' := [.inl ((xs ((i + 3).toNat)).toInt), .inl ((xs ((i + 2).toNat)).toInt), .inl ((xs ((i + 1).toNat)).toInt), .inr (.inr (some 79))]) (w' := (SH, dt6)) rfl rfl (s_iald (n := L) (f := fun j => (xs j).toInt) (am_scr hLL) ⟨by omega, by omega⟩) ?_
    refine go_toq PM267 (k := 4) (pc' := 635) (L' := [some (.inr (.inr (some 3000))), some (.inr (.inr (some 0))), some (.inr (.inr (some 79))), some (.inl i)]) (st' := [.inl (i + 4), .inr (.inr (some 3000)), .inl ((xs ((i + 3).toNat)).toInt), .inl ((xs ((i + 2).toNat)).toInt), .inl ((xs ((i + 1).toNat)).toInt), .inr (.inr (some 79))]) (w' := (SH, dt6)) rfl ?_
    have r148 := i32_R (xs ((i + 4).toNat))
    refine go_smpq PM267 (L' := [some (.inr (.inr (some 3000))), some (.inr (.inr (some 0))), some (.inr (.inr (some 79))), some (.inl i)]) (st' := [.inl ((xs ((i + 4).toNat)).toInt), .inl ((xs ((i + 3).toNat)).toInt), .inl ((xs ((i + 2).toNat)).toInt), .inl ((xs ((i + 1).toNat)).toInt), .inr (.inr (some 79))]) (w' := (SH, dt6)) rfl rfl (s_iald (n := L) (f := fun j => (xs j).toInt) (am_scr hLL) ⟨by omega, by omega⟩) ?_
    refine go_callq PM267 PM202 (Q' := _) rfl rfl rfl rfl (sp_X6_child_v L xs sio (d + 36) dt6 hI7 hM10  ((xs ((i + 1).toNat)).toInt) ⟨by omega, by omega⟩ ((xs ((i + 2).toNat)).toInt) ⟨by omega, by omega⟩ ((xs ((i + 3).toNat)).toInt) ⟨by omega, by omega⟩ ((xs ((i + 4).toNat)).toInt) ⟨by omega, by omega⟩ ) ?_
    rintro _ _ ⟨dt150, rfl, hI151, hF152, h149⟩
    refine ⟨rfl, ?_⟩
    have hF153 : Fr [0, 1, 2, 3, 4, 5, 6, 7, 8, 9, 10, 11, 12, 13, 14, 15, 16, 17, 18, 19, 20, 21, 22, 23, 24, 25, 26, 27, 28, 29, 30, 31, 32, 33, 34, 35, 36, 37, 38, 39, 40, 41, 42, 43, 44, 45, 46, 47, 48, 49, 50, 51, 52, 53, 54, 55, 56, 57, 58, 59, 60, 61, 62, 63, 64, 65, 66, 67, 68, 69, 70, 71, 72, 73, 74, 75, 76, 77, 78, 79, 80, 81, 82, 83, 84, 85, 86, 87, 88, 89, 90, 91, 92, 93, 94, 95, 96, 97, 98, 99, 100, 101, 102, 103, 104] dt dt150 := Fr_tr hF9 hF152 (by decide)
    have w154 : dt150 1 0 = dt 1 0 := (hF152 1 (by decide) 0).trans w11
    have w155 : dt150 7 3 = dt 7 3 := (hF152 7 (by decide) 3).trans w12
    have w156 : dt150 10 3 = dt6 10 3 := hF152 10 (by decide) 3
    have w157 : dt150 12 3 = dt 12 3 := (hF152 12 (by decide) 3).trans w13
    have w158 : dt150 14 3 = dt 14 3 := (hF152 14 (by decide) 3).trans w14
    have w159 : dt150 16 3 = dt 16 3 := (hF152 16 (by decide) 3).trans w15
    have w160 : dt150 18 0 = dt 18 0 := (hF152 18 (by decide) 0).trans w16
    have w161 : dt150 24 3 = dt 24 3 := (hF152 24 (by decide) 3).trans w17
    have w162 : dt150 27 3 = dt 27 3 := (hF152 27 (by decide) 3).trans w18
    have w163 : dt150 29 3 = dt 29 3 := (hF152 29 (by decide) 3).trans w19
    have w164 : dt150 31 3 = dt 31 3 := (hF152 31 (by decide) 3).trans w20
    have w165 : dt150 33 3 = dt 33 3 := (hF152 33 (by decide) 3).trans w21
    have w166 : dt150 0 2 = dt 0 2 := (hF152 0 (by decide) 2).trans w22
    have w167 : dt150 35 1 = dt 35 1 := (hF152 35 (by decide) 1).trans w23
    have w168 : dt150 35 2 = dt 35 2 := (hF152 35 (by decide) 2).trans w24
    have w169 : dt150 35 3 = dt 35 3 := (hF152 35 (by decide) 3).trans w25
    have w170 : dt150 81 0 = dt 81 0 := (hF152 81 (by decide) 0).trans w32
    have w171 : dt150 81 1 = dt 81 1 := (hF152 81 (by decide) 1).trans w33
    have w172 : dt150 81 2 = dt 81 2 := (hF152 81 (by decide) 2).trans w34
    have w173 : dt150 81 3 = dt 81 3 := (hF152 81 (by decide) 3).trans w35
    have w174 : dt150 81 4 = dt 81 4 := (hF152 81 (by decide) 4).trans w36
    have w175 : dt150 81 5 = dt 81 5 := (hF152 81 (by decide) 5).trans w37
    have w176 : dt150 79 2 = dt 79 2 := (hF152 79 (by decide) 2).trans w38
    have w177 : dt150 79 12 = dt 79 12 := (hF152 79 (by decide) 12).trans w39
    have w178 : dt150 79 19 = dt 79 19 := (hF152 79 (by decide) 19).trans w40
    have w179 : dt150 79 21 = dt 79 21 := (hF152 79 (by decide) 21).trans w41
    rcases h149 with ⟨rfl, h149⟩ | ⟨v_h149, rfl, h149r, h149⟩
    · skip
      have hM180 : MW (dt150 80) := h149.2.1
      obtain ⟨h149_0, h149_1, h149_2, h149_3, h149_4, h149_5, h149_6, h149_7, h149_8⟩ := h149
      have w181 : dt150 80 0 = dt 80 0 := h149_2.trans w26
      have w182 : dt150 80 1 = dt 80 1 := h149_3.trans w27
      have w183 : dt150 80 2 = dt 80 2 := h149_4.trans w28
      have w184 : dt150 80 3 = dt 80 3 := h149_5.trans w29
      have w185 : dt150 80 4 = dt 80 4 := h149_6.trans w30
      have w186 : dt150 80 5 = dt 80 5 := h149_7.trans w31
      have M2187 : MW (dt150 81) := MW_frk M2132 hF152 (by decide)
      have C188 : ∀ j : Nat, dt150 2 j = dt 2 j := fun j => (hF152 2 (by decide) j).trans (C133 j)
      have C189 : ∀ j : Nat, dt150 3 j = dt 3 j := fun j => (hF152 3 (by decide) j).trans (C134 j)
      have C190 : ∀ j : Nat, dt150 19 j = dt 19 j := fun j => (hF152 19 (by decide) j).trans (C135 j)
      have C191 : ∀ j : Nat, dt150 20 j = dt 20 j := fun j => (hF152 20 (by decide) j).trans (C136 j)
      have C192 : ∀ j : Nat, dt150 8 j = dt 8 j := fun j => (hF152 8 (by decide) j).trans (C137 j)
      have C193 : ∀ j : Nat, dt150 25 j = dt 25 j := fun j => (hF152 25 (by decide) j).trans (C138 j)
      have C194 : ∀ j : Nat, dt150 9 j = dt 9 j := fun j => (hF152 9 (by decide) j).trans (C139 j)
      have C195 : ∀ j : Nat, dt150 26 j = dt 26 j := fun j => (hF152 26 (by decide) j).trans (C140 j)
      have C196 : ∀ j : Nat, dt150 36 j = dt 36 j := fun j => (hF152 36 (by decide) j).trans (C141 j)
      have C197 : ∀ j : Nat, dt150 80 j = dt 80 j := fun j => (h149_8 j).trans (C142 j)
      have C198 : ∀ j : Nat, dt150 81 j = dt 81 j := fun j => (hF152 81 (by decide) j).trans (C143 j)
      have C199 : ∀ j : Nat, dt150 85 j = dt 85 j := fun j => (hF152 85 (by decide) j).trans (C144 j)
      refine go_toq PM267 (k := 2) (pc' := 1435) (L' := [some (.inr (.inr (some 3000))), some (.inr (.inr (some 0))), some (.inr (.inr (some 79))), some (.inl i)]) (st' := []) (w' := (SH, dt150)) rfl ?_
      exact K dt150 hI151 hM180 M2187 (w154.trans (hk0.trans w181.symm)) (w155.trans (hk1.trans w182.symm)) (by omega) (w157.trans (hk3.trans w184.symm)) (w158.trans (hk4.trans w185.symm)) (w159.trans (hk5.trans w186.symm)) (w160.trans (hk6.trans w170.symm)) (w161.trans (hk7.trans w171.symm)) (w162.trans (hk8.trans w172.symm)) (w163.trans (hk9.trans w173.symm)) (w164.trans (hk10.trans w174.symm)) (w165.trans (hk11.trans w175.symm)) (w166.trans (hk12.trans w176.symm)) (w167.trans (hk13.trans w177.symm)) (w168.trans (hk14.trans w178.symm)) (w169.trans (hk15.trans w179.symm)) (by first | exact hI | exact TPL_k hd0 C196 C199 (by omega) | (exfalso; omega)) (by first | exact hI | exact SCL_k hd1 hM (fun j _ => C188 j) (fun j _ => C189 j) (fun j _ _ => C197 j) | (exfalso; omega)) (by first | exact hI | exact SCL_k hd2 hM2 (fun j _ => C190 j) (fun j _ => C191 j) (fun j _ _ => C198 j) | (exfalso; omega)) (by first | exact hI | exact QRL_k hd3 hM (fun j _ => C192 j) (C197 1) (fun j _ _ => C197 j) | (exfalso; omega)) (by first | exact hI | exact QRL_k hd4 hM2 (fun j _ => C193 j) (C198 1) (fun j _ _ => C198 j) | (exfalso; omega)) (by first | exact hI | exact SDL_k hd5 hM (fun j _ => C194 j) (C197 1) (fun j _ _ => C197 j) (fun j _ _ => C197 j) | (exfalso; omega)) (by first | exact hI | exact SDL_k hd6 hM2 (fun j _ => C195 j) (C198 1) (fun j _ _ => C198 j) (fun j _ _ => C198 j) | (exfalso; omega))
    · skip
      have hM200 : MW (dt150 80) := h149.2.2.1
      obtain ⟨h149_0, h149_1, h149_2, h149_3, h149_4, h149_5, h149_6, h149_7, h149_8, h149_9, h149_10, h149_11, h149_12, h149_13⟩ := h149
      have w201 : dt150 80 0 = dt 80 0 := h149_4.trans w26
      have w202 : dt150 80 1 = dt 80 1 := h149_5.trans w27
      have w203 : dt150 80 3 = dt 80 3 := h149_6.trans w29
      have w204 : dt150 80 4 = dt 80 4 := h149_7.trans w30
      have w205 : dt150 80 5 = dt 80 5 := h149_8.trans w31
      have M2206 : MW (dt150 81) := MW_frk M2132 hF152 (by decide)
      have C207 : ∀ j : Nat, dt150 2 j = dt 2 j := fun j => (hF152 2 (by decide) j).trans (C133 j)
      have C208 : ∀ j : Nat, dt150 3 j = dt 3 j := fun j => (hF152 3 (by decide) j).trans (C134 j)
      have C209 : ∀ j : Nat, dt150 19 j = dt 19 j := fun j => (hF152 19 (by decide) j).trans (C135 j)
      have C210 : ∀ j : Nat, dt150 20 j = dt 20 j := fun j => (hF152 20 (by decide) j).trans (C136 j)
      have C211 : ∀ j : Nat, dt150 8 j = dt 8 j := fun j => (hF152 8 (by decide) j).trans (C137 j)
      have C212 : ∀ j : Nat, dt150 25 j = dt 25 j := fun j => (hF152 25 (by decide) j).trans (C138 j)
      have C213 : ∀ j : Nat, dt150 9 j = dt 9 j := fun j => (hF152 9 (by decide) j).trans (C139 j)
      have C214 : ∀ j : Nat, dt150 26 j = dt 26 j := fun j => (hF152 26 (by decide) j).trans (C140 j)
      have C215 : ∀ j : Nat, dt150 36 j = dt 36 j := fun j => (hF152 36 (by decide) j).trans (C141 j)
      have C216 : ∀ j : Nat, dt150 81 j = dt 81 j := fun j => (hF152 81 (by decide) j).trans (C143 j)
      have C217 : ∀ j : Nat, dt150 85 j = dt 85 j := fun j => (hF152 85 (by decide) j).trans (C144 j)
      have F218 : ∀ j : Nat, 6 ≤ j → j < 974 → dt150 80 j = dt 80 j := fun j h1_ h2_ => (h149_9 j (by omega) (by omega)).trans (C142 j)
      have F219 : ∀ j : Nat, 5320 ≤ j → j < 5380 → dt150 80 j = dt 80 j := fun j h1_ h2_ => (h149_9 j (by omega) (by omega)).trans (C142 j)
      have F220 : dt150 80 1 = dt 80 1 := (h149_9 1 (by omega) (by omega)).trans (C142 1)
      refine go_toq PM267 (k := 2) (pc' := 1435) (L' := [some (.inr (.inr (some 3000))), some (.inr (.inr (some 0))), some (.inr (.inr (some 79))), some (.inl i)]) (st' := []) (w' := (SH, dt150)) rfl ?_
      exact K dt150 hI151 hM200 M2206 (w154.trans (hk0.trans w201.symm)) (w155.trans (hk1.trans w202.symm)) (by omega) (w157.trans (hk3.trans w203.symm)) (w158.trans (hk4.trans w204.symm)) (w159.trans (hk5.trans w205.symm)) (w160.trans (hk6.trans w170.symm)) (w161.trans (hk7.trans w171.symm)) (w162.trans (hk8.trans w172.symm)) (w163.trans (hk9.trans w173.symm)) (w164.trans (hk10.trans w174.symm)) (w165.trans (hk11.trans w175.symm)) (w166.trans (hk12.trans w176.symm)) (w167.trans (hk13.trans w177.symm)) (w168.trans (hk14.trans w178.symm)) (w169.trans (hk15.trans w179.symm)) (by first | exact hI | exact TPL_k hd0 C215 C217 (by omega) | (exfalso; omega)) (by first | exact hI | exact SCL_k hd1 hM (fun j _ => C207 j) (fun j _ => C208 j) F218 | (exfalso; omega)) (by first | exact hI | exact SCL_k hd2 hM2 (fun j _ => C209 j) (fun j _ => C210 j) (fun j _ _ => C216 j) | (exfalso; omega)) (by first | exact hI | exact QRL_k hd3 hM (fun j _ => C211 j) F220 F219 | (exfalso; omega)) (by first | exact hI | exact QRL_k hd4 hM2 (fun j _ => C212 j) (C216 1) (fun j _ _ => C216 j) | (exfalso; omega)) (by first | exact hI | exact SDL_k hd5 hM (fun j _ => C213 j) F220 F218 F219 | (exfalso; omega)) (by first | exact hI | exact SDL_k hd6 hM2 (fun j _ => C214 j) (C216 1) (fun j _ _ => C216 j) (fun j _ _ => C216 j) | (exfalso; omega))
