theorem or33 {x : Int} (h : ¬ (x < 0 ∨ 32 < x)) : x = 0 ∨ x = 1 ∨ x = 2 ∨ x = 3 ∨ x = 4 ∨ x = 5 ∨ x = 6 ∨ x = 7 ∨ x = 8 ∨ x = 9 ∨ x = 10 ∨ x = 11 ∨ x = 12 ∨ x = 13 ∨ x = 14 ∨ x = 15 ∨ x = 16 ∨ x = 17 ∨ x = 18 ∨ x = 19 ∨ x = 20 ∨ x = 21 ∨ x = 22 ∨ x = 23 ∨ x = 24 ∨ x = 25 ∨ x = 26 ∨ x = 27 ∨ x = 28 ∨ x = 29 ∨ x = 30 ∨ x = 31 ∨ x = 32 := by
  have key : ∀ j : Fin 33, ((j.val : Nat) : Int) = 0 ∨ ((j.val : Nat) : Int) = 1 ∨ ((j.val : Nat) : Int) = 2 ∨ ((j.val : Nat) : Int) = 3 ∨ ((j.val : Nat) : Int) = 4 ∨ ((j.val : Nat) : Int) = 5 ∨ ((j.val : Nat) : Int) = 6 ∨ ((j.val : Nat) : Int) = 7 ∨ ((j.val : Nat) : Int) = 8 ∨ ((j.val : Nat) : Int) = 9 ∨ ((j.val : Nat) : Int) = 10 ∨ ((j.val : Nat) : Int) = 11 ∨ ((j.val : Nat) : Int) = 12 ∨ ((j.val : Nat) : Int) = 13 ∨ ((j.val : Nat) : Int) = 14 ∨ ((j.val : Nat) : Int) = 15 ∨ ((j.val : Nat) : Int) = 16 ∨ ((j.val : Nat) : Int) = 17 ∨ ((j.val : Nat) : Int) = 18 ∨ ((j.val : Nat) : Int) = 19 ∨ ((j.val : Nat) : Int) = 20 ∨ ((j.val : Nat) : Int) = 21 ∨ ((j.val : Nat) : Int) = 22 ∨ ((j.val : Nat) : Int) = 23 ∨ ((j.val : Nat) : Int) = 24 ∨ ((j.val : Nat) : Int) = 25 ∨ ((j.val : Nat) : Int) = 26 ∨ ((j.val : Nat) : Int) = 27 ∨ ((j.val : Nat) : Int) = 28 ∨ ((j.val : Nat) : Int) = 29 ∨ ((j.val : Nat) : Int) = 30 ∨ ((j.val : Nat) : Int) = 31 ∨ ((j.val : Nat) : Int) = 32 := by decide +kernel
  have e : ((x.toNat : Nat) : Int) = x := Int.toNat_of_nonneg (by omega)
  have := key ⟨x.toNat, by omega⟩
  rw [e] at this
  exact this
set_option maxRecDepth 20000 in
set_option maxHeartbeats 8000000 in
theorem sp_loop (L : Nat) (xs : Nat → Int32) (sio : Option Nat) (d : Nat) (hLL : L ≤ 3072) : ∀ (k_ : Nat) (i : Int) (dt : Nat → Nat → Int) (hI : InvC dt) (hM : MW (dt 80)) (hM2 : MW (dt 81)) (hk0 : dt 1 0 = dt 80 0) (hk1 : dt 7 3 = dt 80 1) (hk2 : dt 10 3 = dt 80 2) (hk3 : dt 12 3 = dt 80 3) (hk4 : dt 14 3 = dt 80 4) (hk5 : dt 16 3 = dt 80 5) (hk6 : dt 18 0 = dt 81 0) (hk7 : dt 24 3 = dt 81 1) (hk8 : dt 27 3 = dt 81 2) (hk9 : dt 29 3 = dt 81 3) (hk10 : dt 31 3 = dt 81 4) (hk11 : dt 33 3 = dt 81 5) (hk12 : dt 0 2 = dt 79 2) (hk13 : dt 35 1 = dt 79 12) (hi : 0 ≤ i ∧ i ≤ 3078), (3079 - i).toNat < k_ → GO (am_XX L xs sio) (d + 39) 267 18 [some (.inr (.inr (some 3000))), some (.inr (.inr (some 0))), some (.inr (.inr (some 79))), some (.inl i)] [] (SH, dt) (fun r w2 => r = some (.inl 1) ∧ w2.1 = SH) := by
  intro k_
  induction k_ with
  | zero => intro i dt hI hM hM2 hk0 hk1 hk2 hk3 hk4 hk5 hk6 hk7 hk8 hk9 hk10 hk11 hk12 hk13 hi hm; exact absurd hm (Nat.not_lt_zero _)
  | succ k_ ih =>
    intro i dt hI hM hM2 hk0 hk1 hk2 hk3 hk4 hk5 hk6 hk7 hk8 hk9 hk10 hk11 hk12 hk13 hi hm
    refine go_to (k := 2) (pc' := 20) (L' := [some (.inr (.inr (some 3000))), some (.inr (.inr (some 0))), some (.inr (.inr (some 79))), some (.inl i)]) (st' := [.inr (.inr (some 3000)), .inl i]) (w' := (SH, dt)) (fun _ => rfl) ?_
    refine go_smp (L' := [some (.inr (.inr (some 3000))), some (.inr (.inr (some 0))), some (.inr (.inr (some 79))), some (.inl i)]) (st' := [.inl (L : Int), .inl i]) (w' := (SH, dt)) rfl rfl (s_alen (am_scr hLL) rfl) ?_
    refine go_if (k := 3) (p1 := 1441) (p2 := 27) (L' := [some (.inr (.inr (some 3000))), some (.inr (.inr (some 0))), some (.inr (.inr (some 79))), some (.inl i)]) (st' := []) (w' := (SH, dt)) (fun _ => rfl) (c_gt (a := i) (b := (L : Int) - 6) ⟨by omega, by omega⟩ ⟨by omega, by omega⟩) (fun c1 => ?_) (fun c1 => ?_)
    · refine go_ret (k := 2) (r := some (.inl 1)) (w1 := (SH, dt)) (fun _ => rfl) ⟨rfl, rfl⟩
    · have K : ∀ (dt : Nat → Nat → Int) (hI : InvC dt) (hM : MW (dt 80)) (hM2 : MW (dt 81)) (hk0 : dt 1 0 = dt 80 0) (hk1 : dt 7 3 = dt 80 1) (hk2 : dt 10 3 = dt 80 2) (hk3 : dt 12 3 = dt 80 3) (hk4 : dt 14 3 = dt 80 4) (hk5 : dt 16 3 = dt 80 5) (hk6 : dt 18 0 = dt 81 0) (hk7 : dt 24 3 = dt 81 1) (hk8 : dt 27 3 = dt 81 2) (hk9 : dt 29 3 = dt 81 3) (hk10 : dt 31 3 = dt 81 4) (hk11 : dt 33 3 = dt 81 5) (hk12 : dt 0 2 = dt 79 2) (hk13 : dt 35 1 = dt 79 12), GO (am_XX L xs sio) (d + 39) 267 1435 [some (.inr (.inr (some 3000))), some (.inr (.inr (some 0))), some (.inr (.inr (some 79))), some (.inl i)] [] (SH, dt) (fun r w2 => r = some (.inl 1) ∧ w2.1 = SH) := by
        intro dt hI hM hM2 hk0 hk1 hk2 hk3 hk4 hk5 hk6 hk7 hk8 hk9 hk10 hk11 hk12 hk13
        refine go_to (k := 2) (pc' := 18) (L' := [some (.inr (.inr (some 3000))), some (.inr (.inr (some 0))), some (.inr (.inr (some 79))), some (.inl (i + 6))]) (st' := []) (w' := (SH, dt)) (fun _ => rfl) ?_
        exact ih (i + 6) dt hI hM hM2 hk0 hk1 hk2 hk3 hk4 hk5 hk6 hk7 hk8 hk9 hk10 hk11 hk12 hk13 ⟨by omega, by omega⟩ (by omega)
      refine go_to (k := 2) (pc' := 29) (L' := [some (.inr (.inr (some 3000))), some (.inr (.inr (some 0))), some (.inr (.inr (some 79))), some (.inl i)]) (st' := [.inl i, .inr (.inr (some 3000))]) (w' := (SH, dt)) (fun _ => rfl) ?_
      have r1 := i32_R (xs i.toNat)
      refine go_smp (L' := [some (.inr (.inr (some 3000))), some (.inr (.inr (some 0))), some (.inr (.inr (some 79))), some (.inl i)]) (st' := [.inl (xs i.toNat).toInt]) (w' := (SH, dt)) rfl rfl (s_iald (n := L) (f := fun j => (xs j).toInt) (am_scr hLL) ⟨by omega, by omega⟩) ?_
      have r2 : 0 ≤ am_and (xs i.toNat).toInt 63 ∧ am_and (xs i.toNat).toInt 63 ≤ 63 := and_R63
      have e2 : wr (am_and (xs i.toNat).toInt 63) = am_and (xs i.toNat).toInt 63 := wr_R ⟨by omega, by omega⟩
      refine go_to (k := 2) (pc' := 33) (L' := [some (.inr (.inr (some 3000))), some (.inr (.inr (some 0))), some (.inr (.inr (some 79))), some (.inl i)]) (st' := [.inl (am_and (xs i.toNat).toInt 63)]) (w' := (SH, dt)) (fun _ => rfl) ?_
      by_cases c2 : wr (am_and (xs i.toNat).toInt 63) < 0 ∨ 32 < wr (am_and (xs i.toNat).toInt 63)
      · refine go_swo (p1 := 1435) (lo := 0) (hi := 32) rfl rfl c2 ?_
        exact K dt hI hM hM2 hk0 hk1 hk2 hk3 hk4 hk5 hk6 hk7 hk8 hk9 hk10 hk11 hk12 hk13
      · have c3 : wr (am_and (xs i.toNat).toInt 63) = 0 ∨ wr (am_and (xs i.toNat).toInt 63) = 1 ∨ wr (am_and (xs i.toNat).toInt 63) = 2 ∨ wr (am_and (xs i.toNat).toInt 63) = 3 ∨ wr (am_and (xs i.toNat).toInt 63) = 4 ∨ wr (am_and (xs i.toNat).toInt 63) = 5 ∨ wr (am_and (xs i.toNat).toInt 63) = 6 ∨ wr (am_and (xs i.toNat).toInt 63) = 7 ∨ wr (am_and (xs i.toNat).toInt 63) = 8 ∨ wr (am_and (xs i.toNat).toInt 63) = 9 ∨ wr (am_and (xs i.toNat).toInt 63) = 10 ∨ wr (am_and (xs i.toNat).toInt 63) = 11 ∨ wr (am_and (xs i.toNat).toInt 63) = 12 ∨ wr (am_and (xs i.toNat).toInt 63) = 13 ∨ wr (am_and (xs i.toNat).toInt 63) = 14 ∨ wr (am_and (xs i.toNat).toInt 63) = 15 ∨ wr (am_and (xs i.toNat).toInt 63) = 16 ∨ wr (am_and (xs i.toNat).toInt 63) = 17 ∨ wr (am_and (xs i.toNat).toInt 63) = 18 ∨ wr (am_and (xs i.toNat).toInt 63) = 19 ∨ wr (am_and (xs i.toNat).toInt 63) = 20 ∨ wr (am_and (xs i.toNat).toInt 63) = 21 ∨ wr (am_and (xs i.toNat).toInt 63) = 22 ∨ wr (am_and (xs i.toNat).toInt 63) = 23 ∨ wr (am_and (xs i.toNat).toInt 63) = 24 ∨ wr (am_and (xs i.toNat).toInt 63) = 25 ∨ wr (am_and (xs i.toNat).toInt 63) = 26 ∨ wr (am_and (xs i.toNat).toInt 63) = 27 ∨ wr (am_and (xs i.toNat).toInt 63) = 28 ∨ wr (am_and (xs i.toNat).toInt 63) = 29 ∨ wr (am_and (xs i.toNat).toInt 63) = 30 ∨ wr (am_and (xs i.toNat).toInt 63) = 31 ∨ wr (am_and (xs i.toNat).toInt 63) = 32 := or33 c2
        rcases c3 with c3 | c3 | c3 | c3 | c3 | c3 | c3 | c3 | c3 | c3 | c3 | c3 | c3 | c3 | c3 | c3 | c3 | c3 | c3 | c3 | c3 | c3 | c3 | c3 | c3 | c3 | c3 | c3 | c3 | c3 | c3 | c3 | c3
        · refine go_swi (v := 0) (p1 := 180) (lo := 0) (hi := 32) rfl c3 (by decide) rfl ?_
          exact sp_case0 L xs sio d _ hLL i ⟨by omega, by omega⟩ (by omega) dt hI hM hM2 hk0 hk1 hk2 hk3 hk4 hk5 hk6 hk7 hk8 hk9 hk10 hk11 hk12 hk13 K
        · refine go_swi (v := 1) (p1 := 203) (lo := 0) (hi := 32) rfl c3 (by decide) rfl ?_
          exact sp_case1 L xs sio d _ hLL i ⟨by omega, by omega⟩ (by omega) dt hI hM hM2 hk0 hk1 hk2 hk3 hk4 hk5 hk6 hk7 hk8 hk9 hk10 hk11 hk12 hk13 K
        · refine go_swi (v := 2) (p1 := 266) (lo := 0) (hi := 32) rfl c3 (by decide) rfl ?_
          exact sp_case2 L xs sio d _ hLL i ⟨by omega, by omega⟩ (by omega) dt hI hM hM2 hk0 hk1 hk2 hk3 hk4 hk5 hk6 hk7 hk8 hk9 hk10 hk11 hk12 hk13 K
        · refine go_swi (v := 3) (p1 := 289) (lo := 0) (hi := 32) rfl c3 (by decide) rfl ?_
          exact sp_case3 L xs sio d _ hLL i ⟨by omega, by omega⟩ (by omega) dt hI hM hM2 hk0 hk1 hk2 hk3 hk4 hk5 hk6 hk7 hk8 hk9 hk10 hk11 hk12 hk13 K
        · refine go_swi (v := 4) (p1 := 322) (lo := 0) (hi := 32) rfl c3 (by decide) rfl ?_
          exact sp_case4 L xs sio d _ hLL i ⟨by omega, by omega⟩ (by omega) dt hI hM hM2 hk0 hk1 hk2 hk3 hk4 hk5 hk6 hk7 hk8 hk9 hk10 hk11 hk12 hk13 K
        · refine go_swi (v := 5) (p1 := 345) (lo := 0) (hi := 32) rfl c3 (by decide) rfl ?_
          exact sp_case5 L xs sio d _ hLL i ⟨by omega, by omega⟩ (by omega) dt hI hM hM2 hk0 hk1 hk2 hk3 hk4 hk5 hk6 hk7 hk8 hk9 hk10 hk11 hk12 hk13 K
        · refine go_swi (v := 6) (p1 := 398) (lo := 0) (hi := 32) rfl c3 (by decide) rfl ?_
          exact sp_case6 L xs sio d _ hLL i ⟨by omega, by omega⟩ (by omega) dt hI hM hM2 hk0 hk1 hk2 hk3 hk4 hk5 hk6 hk7 hk8 hk9 hk10 hk11 hk12 hk13 K
        · refine go_swi (v := 7) (p1 := 451) (lo := 0) (hi := 32) rfl c3 (by decide) rfl ?_
          exact sp_case7 L xs sio d _ hLL i ⟨by omega, by omega⟩ (by omega) dt hI hM hM2 hk0 hk1 hk2 hk3 hk4 hk5 hk6 hk7 hk8 hk9 hk10 hk11 hk12 hk13 K
        · refine go_swi (v := 8) (p1 := 494) (lo := 0) (hi := 32) rfl c3 (by decide) rfl ?_
          exact sp_case8 L xs sio d _ hLL i ⟨by omega, by omega⟩ (by omega) dt hI hM hM2 hk0 hk1 hk2 hk3 hk4 hk5 hk6 hk7 hk8 hk9 hk10 hk11 hk12 hk13 K
        · refine go_swi (v := 9) (p1 := 557) (lo := 0) (hi := 32) rfl c3 (by decide) rfl ?_
          exact sp_case9 L xs sio d _ hLL i ⟨by omega, by omega⟩ (by omega) dt hI hM hM2 hk0 hk1 hk2 hk3 hk4 hk5 hk6 hk7 hk8 hk9 hk10 hk11 hk12 hk13 K
        · refine go_swi (v := 10) (p1 := 590) (lo := 0) (hi := 32) rfl c3 (by decide) rfl ?_
          exact sp_case10 L xs sio d _ hLL i ⟨by omega, by omega⟩ (by omega) dt hI hM hM2 hk0 hk1 hk2 hk3 hk4 hk5 hk6 hk7 hk8 hk9 hk10 hk11 hk12 hk13 K
        · refine go_swi (v := 11) (p1 := 643) (lo := 0) (hi := 32) rfl c3 (by decide) rfl ?_
          exact sp_case11 L xs sio d _ hLL i ⟨by omega, by omega⟩ (by omega) dt hI hM hM2 hk0 hk1 hk2 hk3 hk4 hk5 hk6 hk7 hk8 hk9 hk10 hk11 hk12 hk13 K
        · refine go_swi (v := 12) (p1 := 696) (lo := 0) (hi := 32) rfl c3 (by decide) rfl ?_
          exact sp_case12 L xs sio d _ hLL i ⟨by omega, by omega⟩ (by omega) dt hI hM hM2 hk0 hk1 hk2 hk3 hk4 hk5 hk6 hk7 hk8 hk9 hk10 hk11 hk12 hk13 K
        · refine go_swi (v := 13) (p1 := 739) (lo := 0) (hi := 32) rfl c3 (by decide) rfl ?_
          exact sp_case13 L xs sio d _ hLL i ⟨by omega, by omega⟩ (by omega) dt hI hM hM2 hk0 hk1 hk2 hk3 hk4 hk5 hk6 hk7 hk8 hk9 hk10 hk11 hk12 hk13 K
        · refine go_swi (v := 14) (p1 := 792) (lo := 0) (hi := 32) rfl c3 (by decide) rfl ?_
          exact sp_case14 L xs sio d _ hLL i ⟨by omega, by omega⟩ (by omega) dt hI hM hM2 hk0 hk1 hk2 hk3 hk4 hk5 hk6 hk7 hk8 hk9 hk10 hk11 hk12 hk13 K
        · refine go_swi (v := 15) (p1 := 825) (lo := 0) (hi := 32) rfl c3 (by decide) rfl ?_
          exact sp_case15 L xs sio d _ hLL i ⟨by omega, by omega⟩ (by omega) dt hI hM hM2 hk0 hk1 hk2 hk3 hk4 hk5 hk6 hk7 hk8 hk9 hk10 hk11 hk12 hk13 K
        · refine go_swi (v := 16) (p1 := 888) (lo := 0) (hi := 32) rfl c3 (by decide) rfl ?_
          exact sp_case16 L xs sio d _ hLL i ⟨by omega, by omega⟩ (by omega) dt hI hM hM2 hk0 hk1 hk2 hk3 hk4 hk5 hk6 hk7 hk8 hk9 hk10 hk11 hk12 hk13 K
        · refine go_swi (v := 17) (p1 := 921) (lo := 0) (hi := 32) rfl c3 (by decide) rfl ?_
          exact sp_case17 L xs sio d _ hLL i ⟨by omega, by omega⟩ (by omega) dt hI hM hM2 hk0 hk1 hk2 hk3 hk4 hk5 hk6 hk7 hk8 hk9 hk10 hk11 hk12 hk13 K
        · refine go_swi (v := 18) (p1 := 944) (lo := 0) (hi := 32) rfl c3 (by decide) rfl ?_
          exact sp_case18 L xs sio d _ hLL i ⟨by omega, by omega⟩ (by omega) dt hI hM hM2 hk0 hk1 hk2 hk3 hk4 hk5 hk6 hk7 hk8 hk9 hk10 hk11 hk12 hk13 K
        · refine go_swi (v := 19) (p1 := 987) (lo := 0) (hi := 32) rfl c3 (by decide) rfl ?_
          exact sp_case19 L xs sio d _ hLL i ⟨by omega, by omega⟩ (by omega) dt hI hM hM2 hk0 hk1 hk2 hk3 hk4 hk5 hk6 hk7 hk8 hk9 hk10 hk11 hk12 hk13 K
        · refine go_swi (v := 20) (p1 := 1020) (lo := 0) (hi := 32) rfl c3 (by decide) rfl ?_
          exact sp_case20 L xs sio d _ hLL i ⟨by omega, by omega⟩ (by omega) dt hI hM hM2 hk0 hk1 hk2 hk3 hk4 hk5 hk6 hk7 hk8 hk9 hk10 hk11 hk12 hk13 K
        · refine go_swi (v := 21) (p1 := 1053) (lo := 0) (hi := 32) rfl c3 (by decide) rfl ?_
          exact sp_case21 L xs sio d _ hLL i ⟨by omega, by omega⟩ (by omega) dt hI hM hM2 hk0 hk1 hk2 hk3 hk4 hk5 hk6 hk7 hk8 hk9 hk10 hk11 hk12 hk13 K
        · refine go_swi (v := 22) (p1 := 1086) (lo := 0) (hi := 32) rfl c3 (by decide) rfl ?_
          exact sp_case22 L xs sio d _ hLL i ⟨by omega, by omega⟩ (by omega) dt hI hM hM2 hk0 hk1 hk2 hk3 hk4 hk5 hk6 hk7 hk8 hk9 hk10 hk11 hk12 hk13 K
        · refine go_swi (v := 23) (p1 := 1109) (lo := 0) (hi := 32) rfl c3 (by decide) rfl ?_
          exact sp_case23 L xs sio d _ hLL i ⟨by omega, by omega⟩ (by omega) dt hI hM hM2 hk0 hk1 hk2 hk3 hk4 hk5 hk6 hk7 hk8 hk9 hk10 hk11 hk12 hk13 K
        · refine go_swi (v := 24) (p1 := 1142) (lo := 0) (hi := 32) rfl c3 (by decide) rfl ?_
          exact sp_case24 L xs sio d _ hLL i ⟨by omega, by omega⟩ (by omega) dt hI hM hM2 hk0 hk1 hk2 hk3 hk4 hk5 hk6 hk7 hk8 hk9 hk10 hk11 hk12 hk13 K
        · refine go_swi (v := 25) (p1 := 1165) (lo := 0) (hi := 32) rfl c3 (by decide) rfl ?_
          exact sp_case25 L xs sio d _ hLL i ⟨by omega, by omega⟩ (by omega) dt hI hM hM2 hk0 hk1 hk2 hk3 hk4 hk5 hk6 hk7 hk8 hk9 hk10 hk11 hk12 hk13 K
        · refine go_swi (v := 26) (p1 := 1198) (lo := 0) (hi := 32) rfl c3 (by decide) rfl ?_
          exact sp_case26 L xs sio d _ hLL i ⟨by omega, by omega⟩ (by omega) dt hI hM hM2 hk0 hk1 hk2 hk3 hk4 hk5 hk6 hk7 hk8 hk9 hk10 hk11 hk12 hk13 K
        · refine go_swi (v := 27) (p1 := 1221) (lo := 0) (hi := 32) rfl c3 (by decide) rfl ?_
          exact sp_case27 L xs sio d _ hLL i ⟨by omega, by omega⟩ (by omega) dt hI hM hM2 hk0 hk1 hk2 hk3 hk4 hk5 hk6 hk7 hk8 hk9 hk10 hk11 hk12 hk13 K
        · refine go_swi (v := 28) (p1 := 1254) (lo := 0) (hi := 32) rfl c3 (by decide) rfl ?_
          exact sp_case28 L xs sio d _ hLL i ⟨by omega, by omega⟩ (by omega) dt hI hM hM2 hk0 hk1 hk2 hk3 hk4 hk5 hk6 hk7 hk8 hk9 hk10 hk11 hk12 hk13 K
        · refine go_swi (v := 29) (p1 := 1287) (lo := 0) (hi := 32) rfl c3 (by decide) rfl ?_
          exact sp_case29 L xs sio d _ hLL i ⟨by omega, by omega⟩ (by omega) dt hI hM hM2 hk0 hk1 hk2 hk3 hk4 hk5 hk6 hk7 hk8 hk9 hk10 hk11 hk12 hk13 K
        · refine go_swi (v := 30) (p1 := 1310) (lo := 0) (hi := 32) rfl c3 (by decide) rfl ?_
          exact sp_case30 L xs sio d _ hLL i ⟨by omega, by omega⟩ (by omega) dt hI hM hM2 hk0 hk1 hk2 hk3 hk4 hk5 hk6 hk7 hk8 hk9 hk10 hk11 hk12 hk13 K
        · refine go_swi (v := 31) (p1 := 1373) (lo := 0) (hi := 32) rfl c3 (by decide) rfl ?_
          exact sp_case31 L xs sio d _ hLL i ⟨by omega, by omega⟩ (by omega) dt hI hM hM2 hk0 hk1 hk2 hk3 hk4 hk5 hk6 hk7 hk8 hk9 hk10 hk11 hk12 hk13 K
        · refine go_swi (v := 32) (p1 := 1412) (lo := 0) (hi := 32) rfl c3 (by decide) rfl ?_
          exact sp_case32 L xs sio d _ hLL i ⟨by omega, by omega⟩ (by omega) dt hI hM hM2 hk0 hk1 hk2 hk3 hk4 hk5 hk6 hk7 hk8 hk9 hk10 hk11 hk12 hk13 K

