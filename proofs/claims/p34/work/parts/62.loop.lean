theorem am_scr {L : Nat} {xs : Nat → Int32} {sio : Option Nat} {dt : Nat → Nat → Int} (h : L ≤ 3072) : am_arr (am_XX L xs sio) (SH, dt) 3000 = some (0, L, fun j => (xs j).toInt) := by
  have e : SH[3000]? = none := by decide +kernel
  unfold am_arr
  rw [show (SH, dt).1[3000]? = none from e]
  dsimp only [am_XX]
  rw [if_pos rfl]
  dsimp only
  have : Nat.blt L 2147483648 = true := Nat.blt_eq.mpr (by omega)
  rw [this]
  rfl
theorem s_alen {X : am_X} {L : am_L} {w : am_W} {tg : List Nat} {cv : Int} {r n ty : Nat} {f : Nat → Int} {rest : List AV} (hw : am_arr X w r = some (ty, n, f)) (h : Nat.blt ty 4 = true) : am_smp X .arraylength tg cv L (.inr (.inr (some r)) :: rest) w = some (L, .inl (n : Int) :: rest, w) := by
  simp only [am_smp, hw, h, cond_true]
set_option maxRecDepth 20000 in
set_option maxHeartbeats 8000000 in
theorem sp_law (L : Nat) (xs : Nat → Int32) (sio : Option Nat) (d : Nat) (dt : Nat → Nat → Int) (hLL : L ≤ 3072) (hI : InvC dt) (hM : MW (dt 80)) (hM2 : MW (dt 81)) (hk0 : dt 1 0 = dt 80 0) (hk1 : dt 7 3 = dt 80 1) (hk2 : dt 10 3 = dt 80 2) (hk3 : dt 12 3 = dt 80 3) (hk4 : dt 14 3 = dt 80 4) (hk5 : dt 16 3 = dt 80 5) (hk6 : dt 18 0 = dt 81 0) (hk7 : dt 24 3 = dt 81 1) (hk8 : dt 27 3 = dt 81 2) (hk9 : dt 29 3 = dt 81 3) (hk10 : dt 31 3 = dt 81 4) (hk11 : dt 33 3 = dt 81 5) (hk12 : dt 0 2 = dt 79 2) (hk13 : dt 35 1 = dt 79 12) : GO (am_XX L xs sio) (d + 39) 267 18 [some (.inr (.inr (some 3000))), some (.inr (.inr (some 0))), some (.inr (.inr (some 79))), some (.inl 0)] [] (SH, dt) (fun r w2 => ∃ dt2 : Nat → Nat → Int, w2 = (SH, dt2) ∧ InvC dt2 ∧ Fr [0, 1, 2, 3, 4, 5, 6, 7, 8, 9, 10, 11, 12, 13, 14, 15, 16, 17, 18, 19, 20, 21, 22, 23, 24, 25, 26, 27, 28, 29, 30, 31, 32, 33, 34, 35, 36, 37, 38, 39, 40, 41, 42, 43, 44, 45, 46, 47, 48, 49, 50, 51, 52, 53, 54, 55, 56, 57, 58, 59, 60, 61, 62, 63, 64, 65, 66, 67, 68, 69, 70, 71, 72, 73, 74, 75, 76, 77, 78, 79, 80, 81, 82, 83, 84, 85, 86, 87, 88, 89, 90, 91, 92, 93, 94, 95, 96, 97, 98, 99, 100, 101, 102, 103, 104] dt dt2 ∧ ((r = some (.inl 1) ∧ True))) := by
  have hF : Fr [0, 1, 2, 3, 4, 5, 6, 7, 8, 9, 10, 11, 12, 13, 14, 15, 16, 17, 18, 19, 20, 21, 22, 23, 24, 25, 26, 27, 28, 29, 30, 31, 32, 33, 34, 35, 36, 37, 38, 39, 40, 41, 42, 43, 44, 45, 46, 47, 48, 49, 50, 51, 52, 53, 54, 55, 56, 57, 58, 59, 60, 61, 62, 63, 64, 65, 66, 67, 68, 69, 70, 71, 72, 73, 74, 75, 76, 77, 78, 79, 80, 81, 82, 83, 84, 85, 86, 87, 88, 89, 90, 91, 92, 93, 94, 95, 96, 97, 98, 99, 100, 101, 102, 103, 104] dt dt := Fr_refl
  have loop2795 : ∀ (k_ : Nat) (l18_3 : Int) (dt2776 : Nat → Nat → Int) (hI2777 : InvC dt2776) (hF2778 : Fr [0, 1, 2, 3, 4, 5, 6, 7, 8, 9, 10, 11, 12, 13, 14, 15, 16, 17, 18, 19, 20, 21, 22, 23, 24, 25, 26, 27, 28, 29, 30, 31, 32, 33, 34, 35, 36, 37, 38, 39, 40, 41, 42, 43, 44, 45, 46, 47, 48, 49, 50, 51, 52, 53, 54, 55, 56, 57, 58, 59, 60, 61, 62, 63, 64, 65, 66, 67, 68, 69, 70, 71, 72, 73, 74, 75, 76, 77, 78, 79, 80, 81, 82, 83, 84, 85, 86, 87, 88, 89, 90, 91, 92, 93, 94, 95, 96, 97, 98, 99, 100, 101, 102, 103, 104] dt dt2776) (hM_dt2776 : MW (dt2776 80)) (i2779 : 0 ≤ l18_3 ∧ l18_3 ≤ 3078) (i2780 : MW (dt2776 81)) (i2781 : dt2776 1 0 = dt2776 80 0) (i2782 : dt2776 7 3 = dt2776 80 1) (i2783 : dt2776 10 3 = dt2776 80 2) (i2784 : dt2776 12 3 = dt2776 80 3) (i2785 : dt2776 14 3 = dt2776 80 4) (i2786 : dt2776 16 3 = dt2776 80 5) (i2787 : dt2776 18 0 = dt2776 81 0) (i2788 : dt2776 24 3 = dt2776 81 1) (i2789 : dt2776 27 3 = dt2776 81 2) (i2790 : dt2776 29 3 = dt2776 81 3) (i2791 : dt2776 31 3 = dt2776 81 4) (i2792 : dt2776 33 3 = dt2776 81 5) (i2793 : dt2776 0 2 = dt2776 79 2) (i2794 : dt2776 35 1 = dt2776 79 12), (3079 - l18_3).toNat < k_ → GO (am_XX L xs sio) (d + 39) 267 18 [some (.inr (.inr (some 3000))), some (.inr (.inr (some 0))), some (.inr (.inr (some 79))), some (.inl l18_3)] [] (SH, dt2776) (fun r w2 => ∃ dt2 : Nat → Nat → Int, w2 = (SH, dt2) ∧ InvC dt2 ∧ Fr [0, 1, 2, 3, 4, 5, 6, 7, 8, 9, 10, 11, 12, 13, 14, 15, 16, 17, 18, 19, 20, 21, 22, 23, 24, 25, 26, 27, 28, 29, 30, 31, 32, 33, 34, 35, 36, 37, 38, 39, 40, 41, 42, 43, 44, 45, 46, 47, 48, 49, 50, 51, 52, 53, 54, 55, 56, 57, 58, 59, 60, 61, 62, 63, 64, 65, 66, 67, 68, 69, 70, 71, 72, 73, 74, 75, 76, 77, 78, 79, 80, 81, 82, 83, 84, 85, 86, 87, 88, 89, 90, 91, 92, 93, 94, 95, 96, 97, 98, 99, 100, 101, 102, 103, 104] dt dt2 ∧ ((r = some (.inl 1) ∧ True))) := by
    intro k_
    induction k_ with
    | zero => intro l18_3 dt2776 hI2777 hF2778 hM_dt2776 i2779 i2780 i2781 i2782 i2783 i2784 i2785 i2786 i2787 i2788 i2789 i2790 i2791 i2792 i2793 i2794 hm; exact absurd hm (Nat.not_lt_zero _)
    | succ k_ ih_loop2795 =>
      intro l18_3 dt2776 hI2777 hF2778 hM_dt2776 i2779 i2780 i2781 i2782 i2783 i2784 i2785 i2786 i2787 i2788 i2789 i2790 i2791 i2792 i2793 i2794 hm
      have hM2L := i2780
      refine go_to (k := 2) (pc' := 20) (L' := [some (.inr (.inr (some 3000))), some (.inr (.inr (some 0))), some (.inr (.inr (some 79))), some (.inl l18_3)]) (st' := [.inr (.inr (some 3000)), .inl l18_3]) (w' := (SH, dt2776)) (fun _ => rfl) ?_
      refine go_smp (L' := [some (.inr (.inr (some 3000))), some (.inr (.inr (some 0))), some (.inr (.inr (some 79))), some (.inl l18_3)]) (st' := [.inl (L : Int), .inl l18_3]) (w' := (SH, dt2776)) rfl rfl (s_alen (am_scr hLL) rfl) ?_
      refine go_if (k := 3) (p1 := 1441) (p2 := 27) (L' := [some (.inr (.inr (some 3000))), some (.inr (.inr (some 0))), some (.inr (.inr (some 79))), some (.inl l18_3)]) (st' := []) (w' := (SH, dt2776)) (fun _ => rfl) (c_gt (a := l18_3) (b := (L : Int) - 6) ⟨by omega, by omega⟩ ⟨by omega, by omega⟩) (fun c2796 => ?_) (fun c2796 => ?_)
      · skip
        refine go_ret (k := 2) (r := some (.inl 1)) (w1 := (SH, dt2776)) (fun _ => rfl) ?_
        exact ⟨dt2776, rfl, hI2777, hF2778, ⟨rfl, trivial⟩⟩
      · skip
        refine go_to (k := 2) (pc' := 29) (L' := [some (.inr (.inr (some 3000))), some (.inr (.inr (some 0))), some (.inr (.inr (some 79))), some (.inl l18_3)]) (st' := [.inl l18_3, .inr (.inr (some 3000))]) (w' := (SH, dt2776)) (fun _ => rfl) ?_
        have r2797 := i32_R (xs (l18_3).toNat)
        refine go_smp (L' := [some (.inr (.inr (some 3000))), some (.inr (.inr (some 0))), some (.inr (.inr (some 79))), some (.inl l18_3)]) (st' := [.inl ((xs (l18_3).toNat).toInt)]) (w' := (SH, dt2776)) rfl rfl (s_iald (n := L) (f := fun j => (xs j).toInt) (am_scr hLL) ⟨by omega, by omega⟩) ?_
        have r2798 : 0 ≤ am_and ((xs (l18_3).toNat).toInt) 63 ∧ am_and ((xs (l18_3).toNat).toInt) 63 ≤ 63 := and_R63
        have r2799 := wr_RR (am_and ((xs (l18_3).toNat).toInt) 63)
        refine go_to (k := 2) (pc' := 33) (L' := [some (.inr (.inr (some 3000))), some (.inr (.inr (some 0))), some (.inr (.inr (some 79))), some (.inl l18_3)]) (st' := [.inl (am_and ((xs (l18_3).toNat).toInt) 63)]) (w' := (SH, dt2776)) (fun _ => rfl) ?_
        have e2801 : wr (am_and ((xs (l18_3).toNat).toInt) 63) = (am_and ((xs (l18_3).toNat).toInt) 63) := wr_R ⟨by omega, by omega⟩
        by_cases c2800 : wr (am_and ((xs (l18_3).toNat).toInt) 63) < 0 ∨ 32 < wr (am_and ((xs (l18_3).toNat).toInt) 63)
        · refine go_swo (p1 := 1435) (lo := 0) (hi := 32) rfl rfl c2800 ?_
          refine go_to (k := 2) (pc' := 18) (L' := [some (.inr (.inr (some 3000))), some (.inr (.inr (some 0))), some (.inr (.inr (some 79))), some (.inl (l18_3 + 6))]) (st' := []) (w' := (SH, dt2776)) (fun _ => rfl) ?_
          exact GO.le (ih_loop2795 (l18_3 + 6) dt2776 hI2777 hF2778 hM_dt2776 (by omega) (by exact hM2L) (by omega) (by omega) (by omega) (by omega) (by omega) (by omega) (by omega) (by omega) (by omega) (by omega) (by omega) (by omega) (by omega) (by omega) (by omega)) ⟨.inl rfl, .inl rfl, .inl rfl, .inl rfl, trivial⟩
        · have c2802 : wr (am_and ((xs (l18_3).toNat).toInt) 63) = 0 ∨ wr (am_and ((xs (l18_3).toNat).toInt) 63) = 1 ∨ wr (am_and ((xs (l18_3).toNat).toInt) 63) = 2 ∨ wr (am_and ((xs (l18_3).toNat).toInt) 63) = 3 ∨ wr (am_and ((xs (l18_3).toNat).toInt) 63) = 4 ∨ wr (am_and ((xs (l18_3).toNat).toInt) 63) = 5 ∨ wr (am_and ((xs (l18_3).toNat).toInt) 63) = 6 ∨ wr (am_and ((xs (l18_3).toNat).toInt) 63) = 7 ∨ wr (am_and ((xs (l18_3).toNat).toInt) 63) = 8 ∨ wr (am_and ((xs (l18_3).toNat).toInt) 63) = 9 ∨ wr (am_and ((xs (l18_3).toNat).toInt) 63) = 10 ∨ wr (am_and ((xs (l18_3).toNat).toInt) 63) = 11 ∨ wr (am_and ((xs (l18_3).toNat).toInt) 63) = 12 ∨ wr (am_and ((xs (l18_3).toNat).toInt) 63) = 13 ∨ wr (am_and ((xs (l18_3).toNat).toInt) 63) = 14 ∨ wr (am_and ((xs (l18_3).toNat).toInt) 63) = 15 ∨ wr (am_and ((xs (l18_3).toNat).toInt) 63) = 16 ∨ wr (am_and ((xs (l18_3).toNat).toInt) 63) = 17 ∨ wr (am_and ((xs (l18_3).toNat).toInt) 63) = 18 ∨ wr (am_and ((xs (l18_3).toNat).toInt) 63) = 19 ∨ wr (am_and ((xs (l18_3).toNat).toInt) 63) = 20 ∨ wr (am_and ((xs (l18_3).toNat).toInt) 63) = 21 ∨ wr (am_and ((xs (l18_3).toNat).toInt) 63) = 22 ∨ wr (am_and ((xs (l18_3).toNat).toInt) 63) = 23 ∨ wr (am_and ((xs (l18_3).toNat).toInt) 63) = 24 ∨ wr (am_and ((xs (l18_3).toNat).toInt) 63) = 25 ∨ wr (am_and ((xs (l18_3).toNat).toInt) 63) = 26 ∨ wr (am_and ((xs (l18_3).toNat).toInt) 63) = 27 ∨ wr (am_and ((xs (l18_3).toNat).toInt) 63) = 28 ∨ wr (am_and ((xs (l18_3).toNat).toInt) 63) = 29 ∨ wr (am_and ((xs (l18_3).toNat).toInt) 63) = 30 ∨ wr (am_and ((xs (l18_3).toNat).toInt) 63) = 31 ∨ wr (am_and ((xs (l18_3).toNat).toInt) 63) = 32 := by omega
          rcases c2802 with c2802 | c2802 | c2802 | c2802 | c2802 | c2802 | c2802 | c2802 | c2802 | c2802 | c2802 | c2802 | c2802 | c2802 | c2802 | c2802 | c2802 | c2802 | c2802 | c2802 | c2802 | c2802 | c2802 | c2802 | c2802 | c2802 | c2802 | c2802 | c2802 | c2802 | c2802 | c2802 | c2802
          · refine go_swi (v := 0) (p1 := 180) (lo := 0) (hi := 32) rfl c2802 (by decide) rfl ?_
            refine go_to (k := 5) (pc' := 185) (L' := [some (.inr (.inr (some 3000))), some (.inr (.inr (some 0))), some (.inr (.inr (some 79))), some (.inl l18_3)]) (st' := [.inl (l18_3 + 1), .inr (.inr (some 3000)), .inr (.inr (some 0))]) (w' := (SH, dt2776)) (fun _ => rfl) ?_
            have r2803 := i32_R (xs ((l18_3 + 1).toNat))
            refine go_smp (L' := [some (.inr (.inr (some 3000))), some (.inr (.inr (some 0))), some (.inr (.inr (some 79))), some (.inl l18_3)]) (st' := [.inl ((xs ((l18_3 + 1).toNat)).toInt), .inr (.inr (some 0))]) (w' := (SH, dt2776)) rfl rfl (s_iald (n := L) (f := fun j => (xs j).toInt) (am_scr hLL) ⟨by omega, by omega⟩) ?_
            refine go_call (Q' := _) rfl rfl rfl rfl rfl (sp_X5_state L xs sio (d + 38) dt2776 hI2777  ((xs ((l18_3 + 1).toNat)).toInt) ⟨by omega, by omega⟩ ) ?_
            rintro _ _ ⟨dt2805, rfl, hI2806, hF2807, h2804⟩
            refine ⟨rfl, ?_⟩
            have hF2808 : Fr [0, 1, 2, 3, 4, 5, 6, 7, 8, 9, 10, 11, 12, 13, 14, 15, 16, 17, 18, 19, 20, 21, 22, 23, 24, 25, 26, 27, 28, 29, 30, 31, 32, 33, 34, 35, 36, 37, 38, 39, 40, 41, 42, 43, 44, 45, 46, 47, 48, 49, 50, 51, 52, 53, 54, 55, 56, 57, 58, 59, 60, 61, 62, 63, 64, 65, 66, 67, 68, 69, 70, 71, 72, 73, 74, 75, 76, 77, 78, 79, 80, 81, 82, 83, 84, 85, 86, 87, 88, 89, 90, 91, 92, 93, 94, 95, 96, 97, 98, 99, 100, 101, 102, 103, 104] dt dt2805 := Fr_tr hF2778 hF2807 (by decide)
            have hM2809 : MW (dt2805 80) := MW_fr hM_dt2776 hF2807 (by decide)
            have w2810 : dt2805 7 3 = dt2776 7 3 := hF2807 7 (by decide) 3
            have w2811 : dt2805 10 3 = dt2776 10 3 := hF2807 10 (by decide) 3
            have w2812 : dt2805 12 3 = dt2776 12 3 := hF2807 12 (by decide) 3
            have w2813 : dt2805 14 3 = dt2776 14 3 := hF2807 14 (by decide) 3
            have w2814 : dt2805 16 3 = dt2776 16 3 := hF2807 16 (by decide) 3
            have w2815 : dt2805 18 0 = dt2776 18 0 := hF2807 18 (by decide) 0
            have w2816 : dt2805 24 3 = dt2776 24 3 := hF2807 24 (by decide) 3
            have w2817 : dt2805 27 3 = dt2776 27 3 := hF2807 27 (by decide) 3
            have w2818 : dt2805 29 3 = dt2776 29 3 := hF2807 29 (by decide) 3
            have w2819 : dt2805 31 3 = dt2776 31 3 := hF2807 31 (by decide) 3
            have w2820 : dt2805 33 3 = dt2776 33 3 := hF2807 33 (by decide) 3
            have w2821 : dt2805 0 2 = dt2776 0 2 := hF2807 0 (by decide) 2
            have w2822 : dt2805 35 1 = dt2776 35 1 := hF2807 35 (by decide) 1
            have w2823 : dt2805 80 0 = dt2776 80 0 := hF2807 80 (by decide) 0
            have w2824 : dt2805 80 1 = dt2776 80 1 := hF2807 80 (by decide) 1
            have w2825 : dt2805 80 2 = dt2776 80 2 := hF2807 80 (by decide) 2
            have w2826 : dt2805 80 3 = dt2776 80 3 := hF2807 80 (by decide) 3
            have w2827 : dt2805 80 4 = dt2776 80 4 := hF2807 80 (by decide) 4
            have w2828 : dt2805 80 5 = dt2776 80 5 := hF2807 80 (by decide) 5
            have w2829 : dt2805 81 0 = dt2776 81 0 := hF2807 81 (by decide) 0
            have w2830 : dt2805 81 1 = dt2776 81 1 := hF2807 81 (by decide) 1
            have w2831 : dt2805 81 2 = dt2776 81 2 := hF2807 81 (by decide) 2
            have w2832 : dt2805 81 3 = dt2776 81 3 := hF2807 81 (by decide) 3
            have w2833 : dt2805 81 4 = dt2776 81 4 := hF2807 81 (by decide) 4
            have w2834 : dt2805 81 5 = dt2776 81 5 := hF2807 81 (by decide) 5
            have w2835 : dt2805 79 2 = dt2776 79 2 := hF2807 79 (by decide) 2
            have w2836 : dt2805 79 12 = dt2776 79 12 := hF2807 79 (by decide) 12
            rcases h2804 with ⟨rfl, h2804⟩
            have M22837 : MW (dt2805 81) := MW_frk hM2L hF2807 (by decide)
            refine go_to (k := 6) (pc' := 195) (L' := [some (.inr (.inr (some 3000))), some (.inr (.inr (some 0))), some (.inr (.inr (some 79))), some (.inl l18_3)]) (st' := [.inl (l18_3 + 1), .inr (.inr (some 3000)), .inr (.inr (some 79))]) (w' := (SH, dt2805)) (fun _ => rfl) ?_
            have r2838 := i32_R (xs ((l18_3 + 1).toNat))
            refine go_smp (L' := [some (.inr (.inr (some 3000))), some (.inr (.inr (some 0))), some (.inr (.inr (some 79))), some (.inl l18_3)]) (st' := [.inl ((xs ((l18_3 + 1).toNat)).toInt), .inr (.inr (some 79))]) (w' := (SH, dt2805)) rfl rfl (s_iald (n := L) (f := fun j => (xs j).toInt) (am_scr hLL) ⟨by omega, by omega⟩) ?_
            refine go_call (Q' := _) rfl rfl rfl rfl rfl (sp_X6_state L xs sio (d + 38) dt2805 hI2806 hM2809  ((xs ((l18_3 + 1).toNat)).toInt) ⟨by omega, by omega⟩ ) ?_
            rintro _ _ ⟨dt2840, rfl, hI2841, hF2842, h2839⟩
            refine ⟨rfl, ?_⟩
            have hF2843 : Fr [0, 1, 2, 3, 4, 5, 6, 7, 8, 9, 10, 11, 12, 13, 14, 15, 16, 17, 18, 19, 20, 21, 22, 23, 24, 25, 26, 27, 28, 29, 30, 31, 32, 33, 34, 35, 36, 37, 38, 39, 40, 41, 42, 43, 44, 45, 46, 47, 48, 49, 50, 51, 52, 53, 54, 55, 56, 57, 58, 59, 60, 61, 62, 63, 64, 65, 66, 67, 68, 69, 70, 71, 72, 73, 74, 75, 76, 77, 78, 79, 80, 81, 82, 83, 84, 85, 86, 87, 88, 89, 90, 91, 92, 93, 94, 95, 96, 97, 98, 99, 100, 101, 102, 103, 104] dt dt2840 := Fr_tr hF2808 hF2842 (by decide)
            have w2844 : dt2840 1 0 = dt2805 1 0 := hF2842 1 (by decide) 0
            have w2845 : dt2840 7 3 = dt2805 7 3 := hF2842 7 (by decide) 3
            have w2846 : dt2840 10 3 = dt2805 10 3 := hF2842 10 (by decide) 3
            have w2847 : dt2840 12 3 = dt2805 12 3 := hF2842 12 (by decide) 3
            have w2848 : dt2840 14 3 = dt2805 14 3 := hF2842 14 (by decide) 3
            have w2849 : dt2840 16 3 = dt2805 16 3 := hF2842 16 (by decide) 3
            have w2850 : dt2840 18 0 = dt2805 18 0 := hF2842 18 (by decide) 0
            have w2851 : dt2840 24 3 = dt2805 24 3 := hF2842 24 (by decide) 3
            have w2852 : dt2840 27 3 = dt2805 27 3 := hF2842 27 (by decide) 3
            have w2853 : dt2840 29 3 = dt2805 29 3 := hF2842 29 (by decide) 3
            have w2854 : dt2840 31 3 = dt2805 31 3 := hF2842 31 (by decide) 3
            have w2855 : dt2840 33 3 = dt2805 33 3 := hF2842 33 (by decide) 3
            have w2856 : dt2840 0 2 = dt2805 0 2 := hF2842 0 (by decide) 2
            have w2857 : dt2840 35 1 = dt2805 35 1 := hF2842 35 (by decide) 1
            have w2858 : dt2840 81 0 = dt2805 81 0 := hF2842 81 (by decide) 0
            have w2859 : dt2840 81 1 = dt2805 81 1 := hF2842 81 (by decide) 1
            have w2860 : dt2840 81 2 = dt2805 81 2 := hF2842 81 (by decide) 2
            have w2861 : dt2840 81 3 = dt2805 81 3 := hF2842 81 (by decide) 3
            have w2862 : dt2840 81 4 = dt2805 81 4 := hF2842 81 (by decide) 4
            have w2863 : dt2840 81 5 = dt2805 81 5 := hF2842 81 (by decide) 5
            have w2864 : dt2840 79 2 = dt2805 79 2 := hF2842 79 (by decide) 2
            have w2865 : dt2840 79 12 = dt2805 79 12 := hF2842 79 (by decide) 12
            rcases h2839 with ⟨rfl, h2839⟩
            have hM2866 : MW (dt2840 80) := h2839.2.1
            obtain ⟨h2839_0, h2839_1, h2839_2, h2839_3, h2839_4, h2839_5, h2839_6⟩ := h2839
            have M22867 : MW (dt2840 81) := MW_frk M22837 hF2842 (by decide)
            refine go_to (k := 4) (pc' := 18) (L' := [some (.inr (.inr (some 3000))), some (.inr (.inr (some 0))), some (.inr (.inr (some 79))), some (.inl (l18_3 + 6))]) (st' := []) (w' := (SH, dt2840)) (fun _ => rfl) ?_
            exact GO.le (ih_loop2795 (l18_3 + 6) dt2840 hI2841 hF2843 hM2866 (by omega) (by exact M22867) (by omega) (by omega) (by omega) (by omega) (by omega) (by omega) (by omega) (by omega) (by omega) (by omega) (by omega) (by omega) (by omega) (by omega) (by omega)) ⟨.inl rfl, .inl rfl, .inl rfl, .inl rfl, trivial⟩
          · refine go_swi (v := 1) (p1 := 203) (lo := 0) (hi := 32) rfl c2802 (by decide) rfl ?_
            refine go_to (k := 5) (pc' := 208) (L' := [some (.inr (.inr (some 3000))), some (.inr (.inr (some 0))), some (.inr (.inr (some 79))), some (.inl l18_3)]) (st' := [.inl (l18_3 + 1), .inr (.inr (some 3000)), .inr (.inr (some 0))]) (w' := (SH, dt2776)) (fun _ => rfl) ?_
            have r2868 := i32_R (xs ((l18_3 + 1).toNat))
            refine go_smp (L' := [some (.inr (.inr (some 3000))), some (.inr (.inr (some 0))), some (.inr (.inr (some 79))), some (.inl l18_3)]) (st' := [.inl ((xs ((l18_3 + 1).toNat)).toInt), .inr (.inr (some 0))]) (w' := (SH, dt2776)) rfl rfl (s_iald (n := L) (f := fun j => (xs j).toInt) (am_scr hLL) ⟨by omega, by omega⟩) ?_
            refine go_to (k := 4) (pc' := 213) (L' := [some (.inr (.inr (some 3000))), some (.inr (.inr (some 0))), some (.inr (.inr (some 79))), some (.inl l18_3)]) (st' := [.inl (l18_3 + 2), .inr (.inr (some 3000)), .inl ((xs ((l18_3 + 1).toNat)).toInt), .inr (.inr (some 0))]) (w' := (SH, dt2776)) (fun _ => rfl) ?_
            have r2869 := i32_R (xs ((l18_3 + 2).toNat))
            refine go_smp (L' := [some (.inr (.inr (some 3000))), some (.inr (.inr (some 0))), some (.inr (.inr (some 79))), some (.inl l18_3)]) (st' := [.inl ((xs ((l18_3 + 2).toNat)).toInt), .inl ((xs ((l18_3 + 1).toNat)).toInt), .inr (.inr (some 0))]) (w' := (SH, dt2776)) rfl rfl (s_iald (n := L) (f := fun j => (xs j).toInt) (am_scr hLL) ⟨by omega, by omega⟩) ?_
            refine go_to (k := 4) (pc' := 218) (L' := [some (.inr (.inr (some 3000))), some (.inr (.inr (some 0))), some (.inr (.inr (some 79))), some (.inl l18_3)]) (st' := [.inl (l18_3 + 3), .inr (.inr (some 3000)), .inl ((xs ((l18_3 + 2).toNat)).toInt), .inl ((xs ((l18_3 + 1).toNat)).toInt), .inr (.inr (some 0))]) (w' := (SH, dt2776)) (fun _ => rfl) ?_
            have r2870 := i32_R (xs ((l18_3 + 3).toNat))
            refine go_smp (L' := [some (.inr (.inr (some 3000))), some (.inr (.inr (some 0))), some (.inr (.inr (some 79))), some (.inl l18_3)]) (st' := [.inl ((xs ((l18_3 + 3).toNat)).toInt), .inl ((xs ((l18_3 + 2).toNat)).toInt), .inl ((xs ((l18_3 + 1).toNat)).toInt), .inr (.inr (some 0))]) (w' := (SH, dt2776)) rfl rfl (s_iald (n := L) (f := fun j => (xs j).toInt) (am_scr hLL) ⟨by omega, by omega⟩) ?_
            refine go_to (k := 4) (pc' := 223) (L' := [some (.inr (.inr (some 3000))), some (.inr (.inr (some 0))), some (.inr (.inr (some 79))), some (.inl l18_3)]) (st' := [.inl (l18_3 + 4), .inr (.inr (some 3000)), .inl ((xs ((l18_3 + 3).toNat)).toInt), .inl ((xs ((l18_3 + 2).toNat)).toInt), .inl ((xs ((l18_3 + 1).toNat)).toInt), .inr (.inr (some 0))]) (w' := (SH, dt2776)) (fun _ => rfl) ?_
            have r2871 := i32_R (xs ((l18_3 + 4).toNat))
            refine go_smp (L' := [some (.inr (.inr (some 3000))), some (.inr (.inr (some 0))), some (.inr (.inr (some 79))), some (.inl l18_3)]) (st' := [.inl ((xs ((l18_3 + 4).toNat)).toInt), .inl ((xs ((l18_3 + 3).toNat)).toInt), .inl ((xs ((l18_3 + 2).toNat)).toInt), .inl ((xs ((l18_3 + 1).toNat)).toInt), .inr (.inr (some 0))]) (w' := (SH, dt2776)) rfl rfl (s_iald (n := L) (f := fun j => (xs j).toInt) (am_scr hLL) ⟨by omega, by omega⟩) ?_
            refine go_to (k := 4) (pc' := 228) (L' := [some (.inr (.inr (some 3000))), some (.inr (.inr (some 0))), some (.inr (.inr (some 79))), some (.inl l18_3)]) (st' := [.inl (l18_3 + 5), .inr (.inr (some 3000)), .inl ((xs ((l18_3 + 4).toNat)).toInt), .inl ((xs ((l18_3 + 3).toNat)).toInt), .inl ((xs ((l18_3 + 2).toNat)).toInt), .inl ((xs ((l18_3 + 1).toNat)).toInt), .inr (.inr (some 0))]) (w' := (SH, dt2776)) (fun _ => rfl) ?_
            have r2872 := i32_R (xs ((l18_3 + 5).toNat))
            refine go_smp (L' := [some (.inr (.inr (some 3000))), some (.inr (.inr (some 0))), some (.inr (.inr (some 79))), some (.inl l18_3)]) (st' := [.inl ((xs ((l18_3 + 5).toNat)).toInt), .inl ((xs ((l18_3 + 4).toNat)).toInt), .inl ((xs ((l18_3 + 3).toNat)).toInt), .inl ((xs ((l18_3 + 2).toNat)).toInt), .inl ((xs ((l18_3 + 1).toNat)).toInt), .inr (.inr (some 0))]) (w' := (SH, dt2776)) rfl rfl (s_iald (n := L) (f := fun j => (xs j).toInt) (am_scr hLL) ⟨by omega, by omega⟩) ?_
            refine go_call (Q' := _) rfl rfl rfl rfl rfl (sp_X5_feed L xs sio (d + 37) dt2776 hI2777  ((xs ((l18_3 + 1).toNat)).toInt) ⟨by omega, by omega⟩ ((xs ((l18_3 + 2).toNat)).toInt) ⟨by omega, by omega⟩ ((xs ((l18_3 + 3).toNat)).toInt) ⟨by omega, by omega⟩ ((xs ((l18_3 + 4).toNat)).toInt) ⟨by omega, by omega⟩ ((xs ((l18_3 + 5).toNat)).toInt) ⟨by omega, by omega⟩ ) ?_
            rintro _ _ ⟨dt2874, rfl, hI2875, hF2876, h2873⟩
            refine ⟨rfl, ?_⟩
            have hF2877 : Fr [0, 1, 2, 3, 4, 5, 6, 7, 8, 9, 10, 11, 12, 13, 14, 15, 16, 17, 18, 19, 20, 21, 22, 23, 24, 25, 26, 27, 28, 29, 30, 31, 32, 33, 34, 35, 36, 37, 38, 39, 40, 41, 42, 43, 44, 45, 46, 47, 48, 49, 50, 51, 52, 53, 54, 55, 56, 57, 58, 59, 60, 61, 62, 63, 64, 65, 66, 67, 68, 69, 70, 71, 72, 73, 74, 75, 76, 77, 78, 79, 80, 81, 82, 83, 84, 85, 86, 87, 88, 89, 90, 91, 92, 93, 94, 95, 96, 97, 98, 99, 100, 101, 102, 103, 104] dt dt2874 := Fr_tr hF2778 hF2876 (by decide)
            have hM2878 : MW (dt2874 80) := MW_fr hM_dt2776 hF2876 (by decide)
            have w2879 : dt2874 1 0 = dt2776 1 0 := hF2876 1 (by decide) 0
            have w2880 : dt2874 7 3 = dt2776 7 3 := hF2876 7 (by decide) 3
            have w2881 : dt2874 10 3 = dt2776 10 3 := hF2876 10 (by decide) 3
            have w2882 : dt2874 12 3 = dt2776 12 3 := hF2876 12 (by decide) 3
            have w2883 : dt2874 14 3 = dt2776 14 3 := hF2876 14 (by decide) 3
            have w2884 : dt2874 16 3 = dt2776 16 3 := hF2876 16 (by decide) 3
            have w2885 : dt2874 18 0 = dt2776 18 0 := hF2876 18 (by decide) 0
            have w2886 : dt2874 24 3 = dt2776 24 3 := hF2876 24 (by decide) 3
            have w2887 : dt2874 27 3 = dt2776 27 3 := hF2876 27 (by decide) 3
            have w2888 : dt2874 29 3 = dt2776 29 3 := hF2876 29 (by decide) 3
            have w2889 : dt2874 31 3 = dt2776 31 3 := hF2876 31 (by decide) 3
            have w2890 : dt2874 33 3 = dt2776 33 3 := hF2876 33 (by decide) 3
            have w2891 : dt2874 0 2 = dt2776 0 2 := hF2876 0 (by decide) 2
            have w2892 : dt2874 80 0 = dt2776 80 0 := hF2876 80 (by decide) 0
            have w2893 : dt2874 80 1 = dt2776 80 1 := hF2876 80 (by decide) 1
            have w2894 : dt2874 80 2 = dt2776 80 2 := hF2876 80 (by decide) 2
            have w2895 : dt2874 80 3 = dt2776 80 3 := hF2876 80 (by decide) 3
            have w2896 : dt2874 80 4 = dt2776 80 4 := hF2876 80 (by decide) 4
            have w2897 : dt2874 80 5 = dt2776 80 5 := hF2876 80 (by decide) 5
            have w2898 : dt2874 81 0 = dt2776 81 0 := hF2876 81 (by decide) 0
            have w2899 : dt2874 81 1 = dt2776 81 1 := hF2876 81 (by decide) 1
            have w2900 : dt2874 81 2 = dt2776 81 2 := hF2876 81 (by decide) 2
            have w2901 : dt2874 81 3 = dt2776 81 3 := hF2876 81 (by decide) 3
            have w2902 : dt2874 81 4 = dt2776 81 4 := hF2876 81 (by decide) 4
            have w2903 : dt2874 81 5 = dt2776 81 5 := hF2876 81 (by decide) 5
            have w2904 : dt2874 79 2 = dt2776 79 2 := hF2876 79 (by decide) 2
            have w2905 : dt2874 79 12 = dt2776 79 12 := hF2876 79 (by decide) 12
            rcases h2873 with ⟨rfl, h2873⟩ | ⟨v_h2873, rfl, h2873r, h2873⟩
            · skip
              obtain ⟨h2873_0, h2873_1⟩ := h2873
              have M22906 : MW (dt2874 81) := MW_frk hM2L hF2876 (by decide)
              refine go_to (k := 6) (pc' := 238) (L' := [some (.inr (.inr (some 3000))), some (.inr (.inr (some 0))), some (.inr (.inr (some 79))), some (.inl l18_3)]) (st' := [.inl (l18_3 + 1), .inr (.inr (some 3000)), .inr (.inr (some 79))]) (w' := (SH, dt2874)) (fun _ => rfl) ?_
              have r2907 := i32_R (xs ((l18_3 + 1).toNat))
              refine go_smp (L' := [some (.inr (.inr (some 3000))), some (.inr (.inr (some 0))), some (.inr (.inr (some 79))), some (.inl l18_3)]) (st' := [.inl ((xs ((l18_3 + 1).toNat)).toInt), .inr (.inr (some 79))]) (w' := (SH, dt2874)) rfl rfl (s_iald (n := L) (f := fun j => (xs j).toInt) (am_scr hLL) ⟨by omega, by omega⟩) ?_
              refine go_to (k := 4) (pc' := 243) (L' := [some (.inr (.inr (some 3000))), some (.inr (.inr (some 0))), some (.inr (.inr (some 79))), some (.inl l18_3)]) (st' := [.inl (l18_3 + 2), .inr (.inr (some 3000)), .inl ((xs ((l18_3 + 1).toNat)).toInt), .inr (.inr (some 79))]) (w' := (SH, dt2874)) (fun _ => rfl) ?_
              have r2908 := i32_R (xs ((l18_3 + 2).toNat))
              refine go_smp (L' := [some (.inr (.inr (some 3000))), some (.inr (.inr (some 0))), some (.inr (.inr (some 79))), some (.inl l18_3)]) (st' := [.inl ((xs ((l18_3 + 2).toNat)).toInt), .inl ((xs ((l18_3 + 1).toNat)).toInt), .inr (.inr (some 79))]) (w' := (SH, dt2874)) rfl rfl (s_iald (n := L) (f := fun j => (xs j).toInt) (am_scr hLL) ⟨by omega, by omega⟩) ?_
              refine go_to (k := 4) (pc' := 248) (L' := [some (.inr (.inr (some 3000))), some (.inr (.inr (some 0))), some (.inr (.inr (some 79))), some (.inl l18_3)]) (st' := [.inl (l18_3 + 3), .inr (.inr (some 3000)), .inl ((xs ((l18_3 + 2).toNat)).toInt), .inl ((xs ((l18_3 + 1).toNat)).toInt), .inr (.inr (some 79))]) (w' := (SH, dt2874)) (fun _ => rfl) ?_
              have r2909 := i32_R (xs ((l18_3 + 3).toNat))
              refine go_smp (L' := [some (.inr (.inr (some 3000))), some (.inr (.inr (some 0))), some (.inr (.inr (some 79))), some (.inl l18_3)]) (st' := [.inl ((xs ((l18_3 + 3).toNat)).toInt), .inl ((xs ((l18_3 + 2).toNat)).toInt), .inl ((xs ((l18_3 + 1).toNat)).toInt), .inr (.inr (some 79))]) (w' := (SH, dt2874)) rfl rfl (s_iald (n := L) (f := fun j => (xs j).toInt) (am_scr hLL) ⟨by omega, by omega⟩) ?_
              refine go_to (k := 4) (pc' := 253) (L' := [some (.inr (.inr (some 3000))), some (.inr (.inr (some 0))), some (.inr (.inr (some 79))), some (.inl l18_3)]) (st' := [.inl (l18_3 + 4), .inr (.inr (some 3000)), .inl ((xs ((l18_3 + 3).toNat)).toInt), .inl ((xs ((l18_3 + 2).toNat)).toInt), .inl ((xs ((l18_3 + 1).toNat)).toInt), .inr (.inr (some 79))]) (w' := (SH, dt2874)) (fun _ => rfl) ?_
              have r2910 := i32_R (xs ((l18_3 + 4).toNat))
              refine go_smp (L' := [some (.inr (.inr (some 3000))), some (.inr (.inr (some 0))), some (.inr (.inr (some 79))), some (.inl l18_3)]) (st' := [.inl ((xs ((l18_3 + 4).toNat)).toInt), .inl ((xs ((l18_3 + 3).toNat)).toInt), .inl ((xs ((l18_3 + 2).toNat)).toInt), .inl ((xs ((l18_3 + 1).toNat)).toInt), .inr (.inr (some 79))]) (w' := (SH, dt2874)) rfl rfl (s_iald (n := L) (f := fun j => (xs j).toInt) (am_scr hLL) ⟨by omega, by omega⟩) ?_
              refine go_to (k := 4) (pc' := 258) (L' := [some (.inr (.inr (some 3000))), some (.inr (.inr (some 0))), some (.inr (.inr (some 79))), some (.inl l18_3)]) (st' := [.inl (l18_3 + 5), .inr (.inr (some 3000)), .inl ((xs ((l18_3 + 4).toNat)).toInt), .inl ((xs ((l18_3 + 3).toNat)).toInt), .inl ((xs ((l18_3 + 2).toNat)).toInt), .inl ((xs ((l18_3 + 1).toNat)).toInt), .inr (.inr (some 79))]) (w' := (SH, dt2874)) (fun _ => rfl) ?_
              have r2911 := i32_R (xs ((l18_3 + 5).toNat))
              refine go_smp (L' := [some (.inr (.inr (some 3000))), some (.inr (.inr (some 0))), some (.inr (.inr (some 79))), some (.inl l18_3)]) (st' := [.inl ((xs ((l18_3 + 5).toNat)).toInt), .inl ((xs ((l18_3 + 4).toNat)).toInt), .inl ((xs ((l18_3 + 3).toNat)).toInt), .inl ((xs ((l18_3 + 2).toNat)).toInt), .inl ((xs ((l18_3 + 1).toNat)).toInt), .inr (.inr (some 79))]) (w' := (SH, dt2874)) rfl rfl (s_iald (n := L) (f := fun j => (xs j).toInt) (am_scr hLL) ⟨by omega, by omega⟩) ?_
              refine go_call (Q' := _) rfl rfl rfl rfl rfl (sp_X6_feed L xs sio (d + 38) dt2874 hI2875  ((xs ((l18_3 + 1).toNat)).toInt) ⟨by omega, by omega⟩ ((xs ((l18_3 + 2).toNat)).toInt) ⟨by omega, by omega⟩ ((xs ((l18_3 + 3).toNat)).toInt) ⟨by omega, by omega⟩ ((xs ((l18_3 + 4).toNat)).toInt) ⟨by omega, by omega⟩ ((xs ((l18_3 + 5).toNat)).toInt) ⟨by omega, by omega⟩ ) ?_
              rintro _ _ ⟨dt2913, rfl, hI2914, hF2915, h2912⟩
              refine ⟨rfl, ?_⟩
              have hF2916 : Fr [0, 1, 2, 3, 4, 5, 6, 7, 8, 9, 10, 11, 12, 13, 14, 15, 16, 17, 18, 19, 20, 21, 22, 23, 24, 25, 26, 27, 28, 29, 30, 31, 32, 33, 34, 35, 36, 37, 38, 39, 40, 41, 42, 43, 44, 45, 46, 47, 48, 49, 50, 51, 52, 53, 54, 55, 56, 57, 58, 59, 60, 61, 62, 63, 64, 65, 66, 67, 68, 69, 70, 71, 72, 73, 74, 75, 76, 77, 78, 79, 80, 81, 82, 83, 84, 85, 86, 87, 88, 89, 90, 91, 92, 93, 94, 95, 96, 97, 98, 99, 100, 101, 102, 103, 104] dt dt2913 := Fr_tr hF2877 hF2915 (by decide)
              have hM2917 : MW (dt2913 80) := MW_fr hM2878 hF2915 (by decide)
              have w2918 : dt2913 1 0 = dt2874 1 0 := hF2915 1 (by decide) 0
              have w2919 : dt2913 7 3 = dt2874 7 3 := hF2915 7 (by decide) 3
              have w2920 : dt2913 10 3 = dt2874 10 3 := hF2915 10 (by decide) 3
              have w2921 : dt2913 12 3 = dt2874 12 3 := hF2915 12 (by decide) 3
              have w2922 : dt2913 14 3 = dt2874 14 3 := hF2915 14 (by decide) 3
              have w2923 : dt2913 16 3 = dt2874 16 3 := hF2915 16 (by decide) 3
              have w2924 : dt2913 18 0 = dt2874 18 0 := hF2915 18 (by decide) 0
              have w2925 : dt2913 24 3 = dt2874 24 3 := hF2915 24 (by decide) 3
              have w2926 : dt2913 27 3 = dt2874 27 3 := hF2915 27 (by decide) 3
              have w2927 : dt2913 29 3 = dt2874 29 3 := hF2915 29 (by decide) 3
              have w2928 : dt2913 31 3 = dt2874 31 3 := hF2915 31 (by decide) 3
              have w2929 : dt2913 33 3 = dt2874 33 3 := hF2915 33 (by decide) 3
              have w2930 : dt2913 0 2 = dt2874 0 2 := hF2915 0 (by decide) 2
              have w2931 : dt2913 35 1 = dt2874 35 1 := hF2915 35 (by decide) 1
              have w2932 : dt2913 80 0 = dt2874 80 0 := hF2915 80 (by decide) 0
              have w2933 : dt2913 80 1 = dt2874 80 1 := hF2915 80 (by decide) 1
              have w2934 : dt2913 80 2 = dt2874 80 2 := hF2915 80 (by decide) 2
              have w2935 : dt2913 80 3 = dt2874 80 3 := hF2915 80 (by decide) 3
              have w2936 : dt2913 80 4 = dt2874 80 4 := hF2915 80 (by decide) 4
              have w2937 : dt2913 80 5 = dt2874 80 5 := hF2915 80 (by decide) 5
              have w2938 : dt2913 81 0 = dt2874 81 0 := hF2915 81 (by decide) 0
              have w2939 : dt2913 81 1 = dt2874 81 1 := hF2915 81 (by decide) 1
              have w2940 : dt2913 81 2 = dt2874 81 2 := hF2915 81 (by decide) 2
              have w2941 : dt2913 81 3 = dt2874 81 3 := hF2915 81 (by decide) 3
              have w2942 : dt2913 81 4 = dt2874 81 4 := hF2915 81 (by decide) 4
              have w2943 : dt2913 81 5 = dt2874 81 5 := hF2915 81 (by decide) 5
              rcases h2912 with ⟨rfl, h2912⟩ | ⟨v_h2912, rfl, h2912r, h2912⟩
              · skip
                obtain ⟨h2912_0, h2912_1, h2912_2⟩ := h2912
                have M22944 : MW (dt2913 81) := MW_frk M22906 hF2915 (by decide)
                refine go_to (k := 4) (pc' := 18) (L' := [some (.inr (.inr (some 3000))), some (.inr (.inr (some 0))), some (.inr (.inr (some 79))), some (.inl (l18_3 + 6))]) (st' := []) (w' := (SH, dt2913)) (fun _ => rfl) ?_
                exact GO.le (ih_loop2795 (l18_3 + 6) dt2913 hI2914 hF2916 hM2917 (by omega) (by exact M22944) (by omega) (by omega) (by omega) (by omega) (by omega) (by omega) (by omega) (by omega) (by omega) (by omega) (by omega) (by omega) (by omega) (by omega) (by omega)) ⟨.inl rfl, .inl rfl, .inl rfl, .inl rfl, trivial⟩
              · skip
                obtain ⟨h2912_0, h2912_1, h2912_2, h2912_3⟩ := h2912
                have M22945 : MW (dt2913 81) := MW_frk M22906 hF2915 (by decide)
                refine go_to (k := 4) (pc' := 18) (L' := [some (.inr (.inr (some 3000))), some (.inr (.inr (some 0))), some (.inr (.inr (some 79))), some (.inl (l18_3 + 6))]) (st' := []) (w' := (SH, dt2913)) (fun _ => rfl) ?_
                exact GO.le (ih_loop2795 (l18_3 + 6) dt2913 hI2914 hF2916 hM2917 (by omega) (by exact M22945) (by omega) (by omega) (by omega) (by omega) (by omega) (by omega) (by omega) (by omega) (by omega) (by omega) (by omega) (by omega) (by omega) (by omega) (by omega)) ⟨.inl rfl, .inl rfl, .inl rfl, .inl rfl, trivial⟩
            · skip
              obtain ⟨h2873_0, h2873_1, h2873_2⟩ := h2873
              have M22946 : MW (dt2874 81) := MW_frk hM2L hF2876 (by decide)
              refine go_to (k := 6) (pc' := 238) (L' := [some (.inr (.inr (some 3000))), some (.inr (.inr (some 0))), some (.inr (.inr (some 79))), some (.inl l18_3)]) (st' := [.inl (l18_3 + 1), .inr (.inr (some 3000)), .inr (.inr (some 79))]) (w' := (SH, dt2874)) (fun _ => rfl) ?_
              have r2947 := i32_R (xs ((l18_3 + 1).toNat))
              refine go_smp (L' := [some (.inr (.inr (some 3000))), some (.inr (.inr (some 0))), some (.inr (.inr (some 79))), some (.inl l18_3)]) (st' := [.inl ((xs ((l18_3 + 1).toNat)).toInt), .inr (.inr (some 79))]) (w' := (SH, dt2874)) rfl rfl (s_iald (n := L) (f := fun j => (xs j).toInt) (am_scr hLL) ⟨by omega, by omega⟩) ?_
              refine go_to (k := 4) (pc' := 243) (L' := [some (.inr (.inr (some 3000))), some (.inr (.inr (some 0))), some (.inr (.inr (some 79))), some (.inl l18_3)]) (st' := [.inl (l18_3 + 2), .inr (.inr (some 3000)), .inl ((xs ((l18_3 + 1).toNat)).toInt), .inr (.inr (some 79))]) (w' := (SH, dt2874)) (fun _ => rfl) ?_
              have r2948 := i32_R (xs ((l18_3 + 2).toNat))
              refine go_smp (L' := [some (.inr (.inr (some 3000))), some (.inr (.inr (some 0))), some (.inr (.inr (some 79))), some (.inl l18_3)]) (st' := [.inl ((xs ((l18_3 + 2).toNat)).toInt), .inl ((xs ((l18_3 + 1).toNat)).toInt), .inr (.inr (some 79))]) (w' := (SH, dt2874)) rfl rfl (s_iald (n := L) (f := fun j => (xs j).toInt) (am_scr hLL) ⟨by omega, by omega⟩) ?_
              refine go_to (k := 4) (pc' := 248) (L' := [some (.inr (.inr (some 3000))), some (.inr (.inr (some 0))), some (.inr (.inr (some 79))), some (.inl l18_3)]) (st' := [.inl (l18_3 + 3), .inr (.inr (some 3000)), .inl ((xs ((l18_3 + 2).toNat)).toInt), .inl ((xs ((l18_3 + 1).toNat)).toInt), .inr (.inr (some 79))]) (w' := (SH, dt2874)) (fun _ => rfl) ?_
              have r2949 := i32_R (xs ((l18_3 + 3).toNat))
              refine go_smp (L' := [some (.inr (.inr (some 3000))), some (.inr (.inr (some 0))), some (.inr (.inr (some 79))), some (.inl l18_3)]) (st' := [.inl ((xs ((l18_3 + 3).toNat)).toInt), .inl ((xs ((l18_3 + 2).toNat)).toInt), .inl ((xs ((l18_3 + 1).toNat)).toInt), .inr (.inr (some 79))]) (w' := (SH, dt2874)) rfl rfl (s_iald (n := L) (f := fun j => (xs j).toInt) (am_scr hLL) ⟨by omega, by omega⟩) ?_
              refine go_to (k := 4) (pc' := 253) (L' := [some (.inr (.inr (some 3000))), some (.inr (.inr (some 0))), some (.inr (.inr (some 79))), some (.inl l18_3)]) (st' := [.inl (l18_3 + 4), .inr (.inr (some 3000)), .inl ((xs ((l18_3 + 3).toNat)).toInt), .inl ((xs ((l18_3 + 2).toNat)).toInt), .inl ((xs ((l18_3 + 1).toNat)).toInt), .inr (.inr (some 79))]) (w' := (SH, dt2874)) (fun _ => rfl) ?_
              have r2950 := i32_R (xs ((l18_3 + 4).toNat))
              refine go_smp (L' := [some (.inr (.inr (some 3000))), some (.inr (.inr (some 0))), some (.inr (.inr (some 79))), some (.inl l18_3)]) (st' := [.inl ((xs ((l18_3 + 4).toNat)).toInt), .inl ((xs ((l18_3 + 3).toNat)).toInt), .inl ((xs ((l18_3 + 2).toNat)).toInt), .inl ((xs ((l18_3 + 1).toNat)).toInt), .inr (.inr (some 79))]) (w' := (SH, dt2874)) rfl rfl (s_iald (n := L) (f := fun j => (xs j).toInt) (am_scr hLL) ⟨by omega, by omega⟩) ?_
              refine go_to (k := 4) (pc' := 258) (L' := [some (.inr (.inr (some 3000))), some (.inr (.inr (some 0))), some (.inr (.inr (some 79))), some (.inl l18_3)]) (st' := [.inl (l18_3 + 5), .inr (.inr (some 3000)), .inl ((xs ((l18_3 + 4).toNat)).toInt), .inl ((xs ((l18_3 + 3).toNat)).toInt), .inl ((xs ((l18_3 + 2).toNat)).toInt), .inl ((xs ((l18_3 + 1).toNat)).toInt), .inr (.inr (some 79))]) (w' := (SH, dt2874)) (fun _ => rfl) ?_
              have r2951 := i32_R (xs ((l18_3 + 5).toNat))
              refine go_smp (L' := [some (.inr (.inr (some 3000))), some (.inr (.inr (some 0))), some (.inr (.inr (some 79))), some (.inl l18_3)]) (st' := [.inl ((xs ((l18_3 + 5).toNat)).toInt), .inl ((xs ((l18_3 + 4).toNat)).toInt), .inl ((xs ((l18_3 + 3).toNat)).toInt), .inl ((xs ((l18_3 + 2).toNat)).toInt), .inl ((xs ((l18_3 + 1).toNat)).toInt), .inr (.inr (some 79))]) (w' := (SH, dt2874)) rfl rfl (s_iald (n := L) (f := fun j => (xs j).toInt) (am_scr hLL) ⟨by omega, by omega⟩) ?_
              refine go_call (Q' := _) rfl rfl rfl rfl rfl (sp_X6_feed L xs sio (d + 38) dt2874 hI2875  ((xs ((l18_3 + 1).toNat)).toInt) ⟨by omega, by omega⟩ ((xs ((l18_3 + 2).toNat)).toInt) ⟨by omega, by omega⟩ ((xs ((l18_3 + 3).toNat)).toInt) ⟨by omega, by omega⟩ ((xs ((l18_3 + 4).toNat)).toInt) ⟨by omega, by omega⟩ ((xs ((l18_3 + 5).toNat)).toInt) ⟨by omega, by omega⟩ ) ?_
              rintro _ _ ⟨dt2953, rfl, hI2954, hF2955, h2952⟩
              refine ⟨rfl, ?_⟩
              have hF2956 : Fr [0, 1, 2, 3, 4, 5, 6, 7, 8, 9, 10, 11, 12, 13, 14, 15, 16, 17, 18, 19, 20, 21, 22, 23, 24, 25, 26, 27, 28, 29, 30, 31, 32, 33, 34, 35, 36, 37, 38, 39, 40, 41, 42, 43, 44, 45, 46, 47, 48, 49, 50, 51, 52, 53, 54, 55, 56, 57, 58, 59, 60, 61, 62, 63, 64, 65, 66, 67, 68, 69, 70, 71, 72, 73, 74, 75, 76, 77, 78, 79, 80, 81, 82, 83, 84, 85, 86, 87, 88, 89, 90, 91, 92, 93, 94, 95, 96, 97, 98, 99, 100, 101, 102, 103, 104] dt dt2953 := Fr_tr hF2877 hF2955 (by decide)
              have hM2957 : MW (dt2953 80) := MW_fr hM2878 hF2955 (by decide)
              have w2958 : dt2953 1 0 = dt2874 1 0 := hF2955 1 (by decide) 0
              have w2959 : dt2953 7 3 = dt2874 7 3 := hF2955 7 (by decide) 3
              have w2960 : dt2953 10 3 = dt2874 10 3 := hF2955 10 (by decide) 3
              have w2961 : dt2953 12 3 = dt2874 12 3 := hF2955 12 (by decide) 3
              have w2962 : dt2953 14 3 = dt2874 14 3 := hF2955 14 (by decide) 3
              have w2963 : dt2953 16 3 = dt2874 16 3 := hF2955 16 (by decide) 3
              have w2964 : dt2953 18 0 = dt2874 18 0 := hF2955 18 (by decide) 0
              have w2965 : dt2953 24 3 = dt2874 24 3 := hF2955 24 (by decide) 3
              have w2966 : dt2953 27 3 = dt2874 27 3 := hF2955 27 (by decide) 3
              have w2967 : dt2953 29 3 = dt2874 29 3 := hF2955 29 (by decide) 3
              have w2968 : dt2953 31 3 = dt2874 31 3 := hF2955 31 (by decide) 3
              have w2969 : dt2953 33 3 = dt2874 33 3 := hF2955 33 (by decide) 3
              have w2970 : dt2953 0 2 = dt2874 0 2 := hF2955 0 (by decide) 2
              have w2971 : dt2953 35 1 = dt2874 35 1 := hF2955 35 (by decide) 1
              have w2972 : dt2953 80 0 = dt2874 80 0 := hF2955 80 (by decide) 0
              have w2973 : dt2953 80 1 = dt2874 80 1 := hF2955 80 (by decide) 1
              have w2974 : dt2953 80 2 = dt2874 80 2 := hF2955 80 (by decide) 2
              have w2975 : dt2953 80 3 = dt2874 80 3 := hF2955 80 (by decide) 3
              have w2976 : dt2953 80 4 = dt2874 80 4 := hF2955 80 (by decide) 4
              have w2977 : dt2953 80 5 = dt2874 80 5 := hF2955 80 (by decide) 5
              have w2978 : dt2953 81 0 = dt2874 81 0 := hF2955 81 (by decide) 0
              have w2979 : dt2953 81 1 = dt2874 81 1 := hF2955 81 (by decide) 1
              have w2980 : dt2953 81 2 = dt2874 81 2 := hF2955 81 (by decide) 2
              have w2981 : dt2953 81 3 = dt2874 81 3 := hF2955 81 (by decide) 3
              have w2982 : dt2953 81 4 = dt2874 81 4 := hF2955 81 (by decide) 4
              have w2983 : dt2953 81 5 = dt2874 81 5 := hF2955 81 (by decide) 5
              rcases h2952 with ⟨rfl, h2952⟩ | ⟨v_h2952, rfl, h2952r, h2952⟩
              · skip
                obtain ⟨h2952_0, h2952_1, h2952_2⟩ := h2952
                have M22984 : MW (dt2953 81) := MW_frk M22946 hF2955 (by decide)
                refine go_to (k := 4) (pc' := 18) (L' := [some (.inr (.inr (some 3000))), some (.inr (.inr (some 0))), some (.inr (.inr (some 79))), some (.inl (l18_3 + 6))]) (st' := []) (w' := (SH, dt2953)) (fun _ => rfl) ?_
                exact GO.le (ih_loop2795 (l18_3 + 6) dt2953 hI2954 hF2956 hM2957 (by omega) (by exact M22984) (by omega) (by omega) (by omega) (by omega) (by omega) (by omega) (by omega) (by omega) (by omega) (by omega) (by omega) (by omega) (by omega) (by omega) (by omega)) ⟨.inl rfl, .inl rfl, .inl rfl, .inl rfl, trivial⟩
              · skip
                obtain ⟨h2952_0, h2952_1, h2952_2, h2952_3⟩ := h2952
                have M22985 : MW (dt2953 81) := MW_frk M22946 hF2955 (by decide)
                refine go_to (k := 4) (pc' := 18) (L' := [some (.inr (.inr (some 3000))), some (.inr (.inr (some 0))), some (.inr (.inr (some 79))), some (.inl (l18_3 + 6))]) (st' := []) (w' := (SH, dt2953)) (fun _ => rfl) ?_
                exact GO.le (ih_loop2795 (l18_3 + 6) dt2953 hI2954 hF2956 hM2957 (by omega) (by exact M22985) (by omega) (by omega) (by omega) (by omega) (by omega) (by omega) (by omega) (by omega) (by omega) (by omega) (by omega) (by omega) (by omega) (by omega) (by omega)) ⟨.inl rfl, .inl rfl, .inl rfl, .inl rfl, trivial⟩
          · refine go_swi (v := 2) (p1 := 266) (lo := 0) (hi := 32) rfl c2802 (by decide) rfl ?_
            refine go_to (k := 5) (pc' := 271) (L' := [some (.inr (.inr (some 3000))), some (.inr (.inr (some 0))), some (.inr (.inr (some 79))), some (.inl l18_3)]) (st' := [.inl (l18_3 + 1), .inr (.inr (some 3000)), .inr (.inr (some 0))]) (w' := (SH, dt2776)) (fun _ => rfl) ?_
            have r2986 := i32_R (xs ((l18_3 + 1).toNat))
            refine go_smp (L' := [some (.inr (.inr (some 3000))), some (.inr (.inr (some 0))), some (.inr (.inr (some 79))), some (.inl l18_3)]) (st' := [.inl ((xs ((l18_3 + 1).toNat)).toInt), .inr (.inr (some 0))]) (w' := (SH, dt2776)) rfl rfl (s_iald (n := L) (f := fun j => (xs j).toInt) (am_scr hLL) ⟨by omega, by omega⟩) ?_
            refine go_call (Q' := _) rfl rfl rfl rfl rfl (sp_X5_end L xs sio (d + 37) dt2776 hI2777  ((xs ((l18_3 + 1).toNat)).toInt) ⟨by omega, by omega⟩ ) ?_
            rintro _ _ ⟨dt2988, rfl, hI2989, hF2990, h2987⟩
            refine ⟨rfl, ?_⟩
            have hF2991 : Fr [0, 1, 2, 3, 4, 5, 6, 7, 8, 9, 10, 11, 12, 13, 14, 15, 16, 17, 18, 19, 20, 21, 22, 23, 24, 25, 26, 27, 28, 29, 30, 31, 32, 33, 34, 35, 36, 37, 38, 39, 40, 41, 42, 43, 44, 45, 46, 47, 48, 49, 50, 51, 52, 53, 54, 55, 56, 57, 58, 59, 60, 61, 62, 63, 64, 65, 66, 67, 68, 69, 70, 71, 72, 73, 74, 75, 76, 77, 78, 79, 80, 81, 82, 83, 84, 85, 86, 87, 88, 89, 90, 91, 92, 93, 94, 95, 96, 97, 98, 99, 100, 101, 102, 103, 104] dt dt2988 := Fr_tr hF2778 hF2990 (by decide)
            have hM2992 : MW (dt2988 80) := MW_fr hM_dt2776 hF2990 (by decide)
            have w2993 : dt2988 1 0 = dt2776 1 0 := hF2990 1 (by decide) 0
            have w2994 : dt2988 7 3 = dt2776 7 3 := hF2990 7 (by decide) 3
            have w2995 : dt2988 10 3 = dt2776 10 3 := hF2990 10 (by decide) 3
            have w2996 : dt2988 12 3 = dt2776 12 3 := hF2990 12 (by decide) 3
            have w2997 : dt2988 14 3 = dt2776 14 3 := hF2990 14 (by decide) 3
            have w2998 : dt2988 16 3 = dt2776 16 3 := hF2990 16 (by decide) 3
            have w2999 : dt2988 18 0 = dt2776 18 0 := hF2990 18 (by decide) 0
            have w3000 : dt2988 24 3 = dt2776 24 3 := hF2990 24 (by decide) 3
            have w3001 : dt2988 27 3 = dt2776 27 3 := hF2990 27 (by decide) 3
            have w3002 : dt2988 29 3 = dt2776 29 3 := hF2990 29 (by decide) 3
            have w3003 : dt2988 31 3 = dt2776 31 3 := hF2990 31 (by decide) 3
            have w3004 : dt2988 33 3 = dt2776 33 3 := hF2990 33 (by decide) 3
            have w3005 : dt2988 0 2 = dt2776 0 2 := hF2990 0 (by decide) 2
            have w3006 : dt2988 80 0 = dt2776 80 0 := hF2990 80 (by decide) 0
            have w3007 : dt2988 80 1 = dt2776 80 1 := hF2990 80 (by decide) 1
            have w3008 : dt2988 80 2 = dt2776 80 2 := hF2990 80 (by decide) 2
            have w3009 : dt2988 80 3 = dt2776 80 3 := hF2990 80 (by decide) 3
            have w3010 : dt2988 80 4 = dt2776 80 4 := hF2990 80 (by decide) 4
            have w3011 : dt2988 80 5 = dt2776 80 5 := hF2990 80 (by decide) 5
            have w3012 : dt2988 81 0 = dt2776 81 0 := hF2990 81 (by decide) 0
            have w3013 : dt2988 81 1 = dt2776 81 1 := hF2990 81 (by decide) 1
            have w3014 : dt2988 81 2 = dt2776 81 2 := hF2990 81 (by decide) 2
            have w3015 : dt2988 81 3 = dt2776 81 3 := hF2990 81 (by decide) 3
            have w3016 : dt2988 81 4 = dt2776 81 4 := hF2990 81 (by decide) 4
            have w3017 : dt2988 81 5 = dt2776 81 5 := hF2990 81 (by decide) 5
            have w3018 : dt2988 79 2 = dt2776 79 2 := hF2990 79 (by decide) 2
            have w3019 : dt2988 79 12 = dt2776 79 12 := hF2990 79 (by decide) 12
            rcases h2987 with ⟨rfl, h2987⟩ | ⟨rfl, h2987⟩
            · skip
              obtain ⟨h2987_0, h2987_1⟩ := h2987
              have M23020 : MW (dt2988 81) := MW_frk hM2L hF2990 (by decide)
              refine go_to (k := 6) (pc' := 281) (L' := [some (.inr (.inr (some 3000))), some (.inr (.inr (some 0))), some (.inr (.inr (some 79))), some (.inl l18_3)]) (st' := [.inl (l18_3 + 1), .inr (.inr (some 3000)), .inr (.inr (some 79))]) (w' := (SH, dt2988)) (fun _ => rfl) ?_
              have r3021 := i32_R (xs ((l18_3 + 1).toNat))
              refine go_smp (L' := [some (.inr (.inr (some 3000))), some (.inr (.inr (some 0))), some (.inr (.inr (some 79))), some (.inl l18_3)]) (st' := [.inl ((xs ((l18_3 + 1).toNat)).toInt), .inr (.inr (some 79))]) (w' := (SH, dt2988)) rfl rfl (s_iald (n := L) (f := fun j => (xs j).toInt) (am_scr hLL) ⟨by omega, by omega⟩) ?_
              refine go_call (Q' := _) rfl rfl rfl rfl rfl (sp_X6_end L xs sio (d + 37) dt2988 hI2989  ((xs ((l18_3 + 1).toNat)).toInt) ⟨by omega, by omega⟩ ) ?_
              rintro _ _ ⟨dt3023, rfl, hI3024, hF3025, h3022⟩
              refine ⟨rfl, ?_⟩
              have hF3026 : Fr [0, 1, 2, 3, 4, 5, 6, 7, 8, 9, 10, 11, 12, 13, 14, 15, 16, 17, 18, 19, 20, 21, 22, 23, 24, 25, 26, 27, 28, 29, 30, 31, 32, 33, 34, 35, 36, 37, 38, 39, 40, 41, 42, 43, 44, 45, 46, 47, 48, 49, 50, 51, 52, 53, 54, 55, 56, 57, 58, 59, 60, 61, 62, 63, 64, 65, 66, 67, 68, 69, 70, 71, 72, 73, 74, 75, 76, 77, 78, 79, 80, 81, 82, 83, 84, 85, 86, 87, 88, 89, 90, 91, 92, 93, 94, 95, 96, 97, 98, 99, 100, 101, 102, 103, 104] dt dt3023 := Fr_tr hF2991 hF3025 (by decide)
              have hM3027 : MW (dt3023 80) := MW_fr hM2992 hF3025 (by decide)
              have w3028 : dt3023 1 0 = dt2988 1 0 := hF3025 1 (by decide) 0
              have w3029 : dt3023 7 3 = dt2988 7 3 := hF3025 7 (by decide) 3
              have w3030 : dt3023 10 3 = dt2988 10 3 := hF3025 10 (by decide) 3
              have w3031 : dt3023 12 3 = dt2988 12 3 := hF3025 12 (by decide) 3
              have w3032 : dt3023 14 3 = dt2988 14 3 := hF3025 14 (by decide) 3
              have w3033 : dt3023 16 3 = dt2988 16 3 := hF3025 16 (by decide) 3
              have w3034 : dt3023 18 0 = dt2988 18 0 := hF3025 18 (by decide) 0
              have w3035 : dt3023 24 3 = dt2988 24 3 := hF3025 24 (by decide) 3
              have w3036 : dt3023 27 3 = dt2988 27 3 := hF3025 27 (by decide) 3
              have w3037 : dt3023 29 3 = dt2988 29 3 := hF3025 29 (by decide) 3
              have w3038 : dt3023 31 3 = dt2988 31 3 := hF3025 31 (by decide) 3
              have w3039 : dt3023 33 3 = dt2988 33 3 := hF3025 33 (by decide) 3
              have w3040 : dt3023 0 2 = dt2988 0 2 := hF3025 0 (by decide) 2
              have w3041 : dt3023 35 1 = dt2988 35 1 := hF3025 35 (by decide) 1
              have w3042 : dt3023 80 0 = dt2988 80 0 := hF3025 80 (by decide) 0
              have w3043 : dt3023 80 1 = dt2988 80 1 := hF3025 80 (by decide) 1
              have w3044 : dt3023 80 2 = dt2988 80 2 := hF3025 80 (by decide) 2
              have w3045 : dt3023 80 3 = dt2988 80 3 := hF3025 80 (by decide) 3
              have w3046 : dt3023 80 4 = dt2988 80 4 := hF3025 80 (by decide) 4
              have w3047 : dt3023 80 5 = dt2988 80 5 := hF3025 80 (by decide) 5
              have w3048 : dt3023 81 0 = dt2988 81 0 := hF3025 81 (by decide) 0
              have w3049 : dt3023 81 1 = dt2988 81 1 := hF3025 81 (by decide) 1
              have w3050 : dt3023 81 2 = dt2988 81 2 := hF3025 81 (by decide) 2
              have w3051 : dt3023 81 3 = dt2988 81 3 := hF3025 81 (by decide) 3
              have w3052 : dt3023 81 4 = dt2988 81 4 := hF3025 81 (by decide) 4
              have w3053 : dt3023 81 5 = dt2988 81 5 := hF3025 81 (by decide) 5
              rcases h3022 with ⟨rfl, h3022⟩ | ⟨rfl, h3022⟩
              · skip
                obtain ⟨h3022_0, h3022_1, h3022_2⟩ := h3022
                have M23054 : MW (dt3023 81) := MW_frk M23020 hF3025 (by decide)
                refine go_to (k := 4) (pc' := 18) (L' := [some (.inr (.inr (some 3000))), some (.inr (.inr (some 0))), some (.inr (.inr (some 79))), some (.inl (l18_3 + 6))]) (st' := []) (w' := (SH, dt3023)) (fun _ => rfl) ?_
                exact GO.le (ih_loop2795 (l18_3 + 6) dt3023 hI3024 hF3026 hM3027 (by omega) (by exact M23054) (by omega) (by omega) (by omega) (by omega) (by omega) (by omega) (by omega) (by omega) (by omega) (by omega) (by omega) (by omega) (by omega) (by omega) (by omega)) ⟨.inl rfl, .inl rfl, .inl rfl, .inl rfl, trivial⟩
              · skip
                obtain ⟨h3022_0, h3022_1, h3022_2⟩ := h3022
                have M23055 : MW (dt3023 81) := MW_frk M23020 hF3025 (by decide)
                refine go_to (k := 4) (pc' := 18) (L' := [some (.inr (.inr (some 3000))), some (.inr (.inr (some 0))), some (.inr (.inr (some 79))), some (.inl (l18_3 + 6))]) (st' := []) (w' := (SH, dt3023)) (fun _ => rfl) ?_
                exact GO.le (ih_loop2795 (l18_3 + 6) dt3023 hI3024 hF3026 hM3027 (by omega) (by exact M23055) (by omega) (by omega) (by omega) (by omega) (by omega) (by omega) (by omega) (by omega) (by omega) (by omega) (by omega) (by omega) (by omega) (by omega) (by omega)) ⟨.inl rfl, .inl rfl, .inl rfl, .inl rfl, trivial⟩
            · skip
              obtain ⟨h2987_0, h2987_1⟩ := h2987
              have M23056 : MW (dt2988 81) := MW_frk hM2L hF2990 (by decide)
              refine go_to (k := 6) (pc' := 281) (L' := [some (.inr (.inr (some 3000))), some (.inr (.inr (some 0))), some (.inr (.inr (some 79))), some (.inl l18_3)]) (st' := [.inl (l18_3 + 1), .inr (.inr (some 3000)), .inr (.inr (some 79))]) (w' := (SH, dt2988)) (fun _ => rfl) ?_
              have r3057 := i32_R (xs ((l18_3 + 1).toNat))
              refine go_smp (L' := [some (.inr (.inr (some 3000))), some (.inr (.inr (some 0))), some (.inr (.inr (some 79))), some (.inl l18_3)]) (st' := [.inl ((xs ((l18_3 + 1).toNat)).toInt), .inr (.inr (some 79))]) (w' := (SH, dt2988)) rfl rfl (s_iald (n := L) (f := fun j => (xs j).toInt) (am_scr hLL) ⟨by omega, by omega⟩) ?_
              refine go_call (Q' := _) rfl rfl rfl rfl rfl (sp_X6_end L xs sio (d + 37) dt2988 hI2989  ((xs ((l18_3 + 1).toNat)).toInt) ⟨by omega, by omega⟩ ) ?_
              rintro _ _ ⟨dt3059, rfl, hI3060, hF3061, h3058⟩
              refine ⟨rfl, ?_⟩
              have hF3062 : Fr [0, 1, 2, 3, 4, 5, 6, 7, 8, 9, 10, 11, 12, 13, 14, 15, 16, 17, 18, 19, 20, 21, 22, 23, 24, 25, 26, 27, 28, 29, 30, 31, 32, 33, 34, 35, 36, 37, 38, 39, 40, 41, 42, 43, 44, 45, 46, 47, 48, 49, 50, 51, 52, 53, 54, 55, 56, 57, 58, 59, 60, 61, 62, 63, 64, 65, 66, 67, 68, 69, 70, 71, 72, 73, 74, 75, 76, 77, 78, 79, 80, 81, 82, 83, 84, 85, 86, 87, 88, 89, 90, 91, 92, 93, 94, 95, 96, 97, 98, 99, 100, 101, 102, 103, 104] dt dt3059 := Fr_tr hF2991 hF3061 (by decide)
              have hM3063 : MW (dt3059 80) := MW_fr hM2992 hF3061 (by decide)
              have w3064 : dt3059 1 0 = dt2988 1 0 := hF3061 1 (by decide) 0
              have w3065 : dt3059 7 3 = dt2988 7 3 := hF3061 7 (by decide) 3
              have w3066 : dt3059 10 3 = dt2988 10 3 := hF3061 10 (by decide) 3
              have w3067 : dt3059 12 3 = dt2988 12 3 := hF3061 12 (by decide) 3
              have w3068 : dt3059 14 3 = dt2988 14 3 := hF3061 14 (by decide) 3
              have w3069 : dt3059 16 3 = dt2988 16 3 := hF3061 16 (by decide) 3
              have w3070 : dt3059 18 0 = dt2988 18 0 := hF3061 18 (by decide) 0
              have w3071 : dt3059 24 3 = dt2988 24 3 := hF3061 24 (by decide) 3
              have w3072 : dt3059 27 3 = dt2988 27 3 := hF3061 27 (by decide) 3
              have w3073 : dt3059 29 3 = dt2988 29 3 := hF3061 29 (by decide) 3
              have w3074 : dt3059 31 3 = dt2988 31 3 := hF3061 31 (by decide) 3
              have w3075 : dt3059 33 3 = dt2988 33 3 := hF3061 33 (by decide) 3
              have w3076 : dt3059 0 2 = dt2988 0 2 := hF3061 0 (by decide) 2
              have w3077 : dt3059 35 1 = dt2988 35 1 := hF3061 35 (by decide) 1
              have w3078 : dt3059 80 0 = dt2988 80 0 := hF3061 80 (by decide) 0
              have w3079 : dt3059 80 1 = dt2988 80 1 := hF3061 80 (by decide) 1
              have w3080 : dt3059 80 2 = dt2988 80 2 := hF3061 80 (by decide) 2
              have w3081 : dt3059 80 3 = dt2988 80 3 := hF3061 80 (by decide) 3
              have w3082 : dt3059 80 4 = dt2988 80 4 := hF3061 80 (by decide) 4
              have w3083 : dt3059 80 5 = dt2988 80 5 := hF3061 80 (by decide) 5
              have w3084 : dt3059 81 0 = dt2988 81 0 := hF3061 81 (by decide) 0
              have w3085 : dt3059 81 1 = dt2988 81 1 := hF3061 81 (by decide) 1
              have w3086 : dt3059 81 2 = dt2988 81 2 := hF3061 81 (by decide) 2
              have w3087 : dt3059 81 3 = dt2988 81 3 := hF3061 81 (by decide) 3
              have w3088 : dt3059 81 4 = dt2988 81 4 := hF3061 81 (by decide) 4
              have w3089 : dt3059 81 5 = dt2988 81 5 := hF3061 81 (by decide) 5
              rcases h3058 with ⟨rfl, h3058⟩ | ⟨rfl, h3058⟩
              · skip
                obtain ⟨h3058_0, h3058_1, h3058_2⟩ := h3058
                have M23090 : MW (dt3059 81) := MW_frk M23056 hF3061 (by decide)
                refine go_to (k := 4) (pc' := 18) (L' := [some (.inr (.inr (some 3000))), some (.inr (.inr (some 0))), some (.inr (.inr (some 79))), some (.inl (l18_3 + 6))]) (st' := []) (w' := (SH, dt3059)) (fun _ => rfl) ?_
                exact GO.le (ih_loop2795 (l18_3 + 6) dt3059 hI3060 hF3062 hM3063 (by omega) (by exact M23090) (by omega) (by omega) (by omega) (by omega) (by omega) (by omega) (by omega) (by omega) (by omega) (by omega) (by omega) (by omega) (by omega) (by omega) (by omega)) ⟨.inl rfl, .inl rfl, .inl rfl, .inl rfl, trivial⟩
              · skip
                obtain ⟨h3058_0, h3058_1, h3058_2⟩ := h3058
                have M23091 : MW (dt3059 81) := MW_frk M23056 hF3061 (by decide)
                refine go_to (k := 4) (pc' := 18) (L' := [some (.inr (.inr (some 3000))), some (.inr (.inr (some 0))), some (.inr (.inr (some 79))), some (.inl (l18_3 + 6))]) (st' := []) (w' := (SH, dt3059)) (fun _ => rfl) ?_
                exact GO.le (ih_loop2795 (l18_3 + 6) dt3059 hI3060 hF3062 hM3063 (by omega) (by exact M23091) (by omega) (by omega) (by omega) (by omega) (by omega) (by omega) (by omega) (by omega) (by omega) (by omega) (by omega) (by omega) (by omega) (by omega) (by omega)) ⟨.inl rfl, .inl rfl, .inl rfl, .inl rfl, trivial⟩
          · refine go_swi (v := 3) (p1 := 289) (lo := 0) (hi := 32) rfl c2802 (by decide) rfl ?_
            refine go_to (k := 5) (pc' := 294) (L' := [some (.inr (.inr (some 3000))), some (.inr (.inr (some 0))), some (.inr (.inr (some 79))), some (.inl l18_3)]) (st' := [.inl (l18_3 + 1), .inr (.inr (some 3000)), .inr (.inr (some 0))]) (w' := (SH, dt2776)) (fun _ => rfl) ?_
            have r3092 := i32_R (xs ((l18_3 + 1).toNat))
            refine go_smp (L' := [some (.inr (.inr (some 3000))), some (.inr (.inr (some 0))), some (.inr (.inr (some 79))), some (.inl l18_3)]) (st' := [.inl ((xs ((l18_3 + 1).toNat)).toInt), .inr (.inr (some 0))]) (w' := (SH, dt2776)) rfl rfl (s_iald (n := L) (f := fun j => (xs j).toInt) (am_scr hLL) ⟨by omega, by omega⟩) ?_
            refine go_to (k := 4) (pc' := 299) (L' := [some (.inr (.inr (some 3000))), some (.inr (.inr (some 0))), some (.inr (.inr (some 79))), some (.inl l18_3)]) (st' := [.inl (l18_3 + 2), .inr (.inr (some 3000)), .inl ((xs ((l18_3 + 1).toNat)).toInt), .inr (.inr (some 0))]) (w' := (SH, dt2776)) (fun _ => rfl) ?_
            have r3093 := i32_R (xs ((l18_3 + 2).toNat))
            refine go_smp (L' := [some (.inr (.inr (some 3000))), some (.inr (.inr (some 0))), some (.inr (.inr (some 79))), some (.inl l18_3)]) (st' := [.inl ((xs ((l18_3 + 2).toNat)).toInt), .inl ((xs ((l18_3 + 1).toNat)).toInt), .inr (.inr (some 0))]) (w' := (SH, dt2776)) rfl rfl (s_iald (n := L) (f := fun j => (xs j).toInt) (am_scr hLL) ⟨by omega, by omega⟩) ?_
            refine go_call (Q' := _) rfl rfl rfl rfl rfl (sp_X5_text L xs sio (d + 15) dt2776 hI2777  ((xs ((l18_3 + 1).toNat)).toInt) ⟨by omega, by omega⟩ ((xs ((l18_3 + 2).toNat)).toInt) ⟨by omega, by omega⟩ ) ?_
            rintro _ _ ⟨dt3095, rfl, hI3096, hF3097, h3094⟩
            refine ⟨rfl, ?_⟩
            have hF3098 : Fr [0, 1, 2, 3, 4, 5, 6, 7, 8, 9, 10, 11, 12, 13, 14, 15, 16, 17, 18, 19, 20, 21, 22, 23, 24, 25, 26, 27, 28, 29, 30, 31, 32, 33, 34, 35, 36, 37, 38, 39, 40, 41, 42, 43, 44, 45, 46, 47, 48, 49, 50, 51, 52, 53, 54, 55, 56, 57, 58, 59, 60, 61, 62, 63, 64, 65, 66, 67, 68, 69, 70, 71, 72, 73, 74, 75, 76, 77, 78, 79, 80, 81, 82, 83, 84, 85, 86, 87, 88, 89, 90, 91, 92, 93, 94, 95, 96, 97, 98, 99, 100, 101, 102, 103, 104] dt dt3095 := Fr_tr hF2778 hF3097 (by decide)
            have hM3099 : MW (dt3095 80) := MW_fr hM_dt2776 hF3097 (by decide)
            have w3100 : dt3095 1 0 = dt2776 1 0 := hF3097 1 (by decide) 0
            have w3101 : dt3095 7 3 = dt2776 7 3 := hF3097 7 (by decide) 3
            have w3102 : dt3095 10 3 = dt2776 10 3 := hF3097 10 (by decide) 3
            have w3103 : dt3095 12 3 = dt2776 12 3 := hF3097 12 (by decide) 3
            have w3104 : dt3095 14 3 = dt2776 14 3 := hF3097 14 (by decide) 3
            have w3105 : dt3095 16 3 = dt2776 16 3 := hF3097 16 (by decide) 3
            have w3106 : dt3095 18 0 = dt2776 18 0 := hF3097 18 (by decide) 0
            have w3107 : dt3095 24 3 = dt2776 24 3 := hF3097 24 (by decide) 3
            have w3108 : dt3095 27 3 = dt2776 27 3 := hF3097 27 (by decide) 3
            have w3109 : dt3095 29 3 = dt2776 29 3 := hF3097 29 (by decide) 3
            have w3110 : dt3095 31 3 = dt2776 31 3 := hF3097 31 (by decide) 3
            have w3111 : dt3095 33 3 = dt2776 33 3 := hF3097 33 (by decide) 3
            have w3112 : dt3095 0 2 = dt2776 0 2 := hF3097 0 (by decide) 2
            have w3113 : dt3095 80 0 = dt2776 80 0 := hF3097 80 (by decide) 0
            have w3114 : dt3095 80 1 = dt2776 80 1 := hF3097 80 (by decide) 1
            have w3115 : dt3095 80 2 = dt2776 80 2 := hF3097 80 (by decide) 2
            have w3116 : dt3095 80 3 = dt2776 80 3 := hF3097 80 (by decide) 3
            have w3117 : dt3095 80 4 = dt2776 80 4 := hF3097 80 (by decide) 4
            have w3118 : dt3095 80 5 = dt2776 80 5 := hF3097 80 (by decide) 5
            have w3119 : dt3095 81 0 = dt2776 81 0 := hF3097 81 (by decide) 0
            have w3120 : dt3095 81 1 = dt2776 81 1 := hF3097 81 (by decide) 1
            have w3121 : dt3095 81 2 = dt2776 81 2 := hF3097 81 (by decide) 2
            have w3122 : dt3095 81 3 = dt2776 81 3 := hF3097 81 (by decide) 3
            have w3123 : dt3095 81 4 = dt2776 81 4 := hF3097 81 (by decide) 4
            have w3124 : dt3095 81 5 = dt2776 81 5 := hF3097 81 (by decide) 5
            have w3125 : dt3095 79 2 = dt2776 79 2 := hF3097 79 (by decide) 2
            have w3126 : dt3095 79 12 = dt2776 79 12 := hF3097 79 (by decide) 12
            rcases h3094 with ⟨v_h3094, rfl, h3094r, h3094⟩
            have M23127 : MW (dt3095 81) := MW_frk hM2L hF3097 (by decide)
            refine go_to (k := 6) (pc' := 309) (L' := [some (.inr (.inr (some 3000))), some (.inr (.inr (some 0))), some (.inr (.inr (some 79))), some (.inl l18_3)]) (st' := [.inl (l18_3 + 1), .inr (.inr (some 3000)), .inr (.inr (some 79))]) (w' := (SH, dt3095)) (fun _ => rfl) ?_
            have r3128 := i32_R (xs ((l18_3 + 1).toNat))
            refine go_smp (L' := [some (.inr (.inr (some 3000))), some (.inr (.inr (some 0))), some (.inr (.inr (some 79))), some (.inl l18_3)]) (st' := [.inl ((xs ((l18_3 + 1).toNat)).toInt), .inr (.inr (some 79))]) (w' := (SH, dt3095)) rfl rfl (s_iald (n := L) (f := fun j => (xs j).toInt) (am_scr hLL) ⟨by omega, by omega⟩) ?_
            refine go_to (k := 4) (pc' := 314) (L' := [some (.inr (.inr (some 3000))), some (.inr (.inr (some 0))), some (.inr (.inr (some 79))), some (.inl l18_3)]) (st' := [.inl (l18_3 + 2), .inr (.inr (some 3000)), .inl ((xs ((l18_3 + 1).toNat)).toInt), .inr (.inr (some 79))]) (w' := (SH, dt3095)) (fun _ => rfl) ?_
            have r3129 := i32_R (xs ((l18_3 + 2).toNat))
            refine go_smp (L' := [some (.inr (.inr (some 3000))), some (.inr (.inr (some 0))), some (.inr (.inr (some 79))), some (.inl l18_3)]) (st' := [.inl ((xs ((l18_3 + 2).toNat)).toInt), .inl ((xs ((l18_3 + 1).toNat)).toInt), .inr (.inr (some 79))]) (w' := (SH, dt3095)) rfl rfl (s_iald (n := L) (f := fun j => (xs j).toInt) (am_scr hLL) ⟨by omega, by omega⟩) ?_
            refine go_call (Q' := _) rfl rfl rfl rfl rfl (sp_X6_text L xs sio (d + 0) dt3095 hI3096 hM3099  ((xs ((l18_3 + 1).toNat)).toInt) ⟨by omega, by omega⟩ ((xs ((l18_3 + 2).toNat)).toInt) ⟨by omega, by omega⟩ ) ?_
            rintro _ _ ⟨dt3131, rfl, hI3132, hF3133, h3130⟩
            refine ⟨rfl, ?_⟩
            have hF3134 : Fr [0, 1, 2, 3, 4, 5, 6, 7, 8, 9, 10, 11, 12, 13, 14, 15, 16, 17, 18, 19, 20, 21, 22, 23, 24, 25, 26, 27, 28, 29, 30, 31, 32, 33, 34, 35, 36, 37, 38, 39, 40, 41, 42, 43, 44, 45, 46, 47, 48, 49, 50, 51, 52, 53, 54, 55, 56, 57, 58, 59, 60, 61, 62, 63, 64, 65, 66, 67, 68, 69, 70, 71, 72, 73, 74, 75, 76, 77, 78, 79, 80, 81, 82, 83, 84, 85, 86, 87, 88, 89, 90, 91, 92, 93, 94, 95, 96, 97, 98, 99, 100, 101, 102, 103, 104] dt dt3131 := Fr_tr hF3098 hF3133 (by decide)
            have w3135 : dt3131 1 0 = dt3095 1 0 := hF3133 1 (by decide) 0
            have w3136 : dt3131 7 3 = dt3095 7 3 := hF3133 7 (by decide) 3
            have w3137 : dt3131 10 3 = dt3095 10 3 := hF3133 10 (by decide) 3
            have w3138 : dt3131 12 3 = dt3095 12 3 := hF3133 12 (by decide) 3
            have w3139 : dt3131 14 3 = dt3095 14 3 := hF3133 14 (by decide) 3
            have w3140 : dt3131 16 3 = dt3095 16 3 := hF3133 16 (by decide) 3
            have w3141 : dt3131 18 0 = dt3095 18 0 := hF3133 18 (by decide) 0
            have w3142 : dt3131 24 3 = dt3095 24 3 := hF3133 24 (by decide) 3
            have w3143 : dt3131 27 3 = dt3095 27 3 := hF3133 27 (by decide) 3
            have w3144 : dt3131 29 3 = dt3095 29 3 := hF3133 29 (by decide) 3
            have w3145 : dt3131 31 3 = dt3095 31 3 := hF3133 31 (by decide) 3
            have w3146 : dt3131 33 3 = dt3095 33 3 := hF3133 33 (by decide) 3
            have w3147 : dt3131 0 2 = dt3095 0 2 := hF3133 0 (by decide) 2
            have w3148 : dt3131 35 1 = dt3095 35 1 := hF3133 35 (by decide) 1
            have w3149 : dt3131 81 0 = dt3095 81 0 := hF3133 81 (by decide) 0
            have w3150 : dt3131 81 1 = dt3095 81 1 := hF3133 81 (by decide) 1
            have w3151 : dt3131 81 2 = dt3095 81 2 := hF3133 81 (by decide) 2
            have w3152 : dt3131 81 3 = dt3095 81 3 := hF3133 81 (by decide) 3
            have w3153 : dt3131 81 4 = dt3095 81 4 := hF3133 81 (by decide) 4
            have w3154 : dt3131 81 5 = dt3095 81 5 := hF3133 81 (by decide) 5
            rcases h3130 with ⟨v_h3130, rfl, h3130r, h3130⟩
            have hM3155 : MW (dt3131 80) := h3130.2.2.1
            obtain ⟨h3130_0, h3130_1, h3130_2, h3130_3, h3130_4, h3130_5, h3130_6, h3130_7, h3130_8⟩ := h3130
            have M23156 : MW (dt3131 81) := MW_frk M23127 hF3133 (by decide)
            refine go_to (k := 4) (pc' := 18) (L' := [some (.inr (.inr (some 3000))), some (.inr (.inr (some 0))), some (.inr (.inr (some 79))), some (.inl (l18_3 + 6))]) (st' := []) (w' := (SH, dt3131)) (fun _ => rfl) ?_
            exact GO.le (ih_loop2795 (l18_3 + 6) dt3131 hI3132 hF3134 hM3155 (by omega) (by exact M23156) (by omega) (by omega) (by omega) (by omega) (by omega) (by omega) (by omega) (by omega) (by omega) (by omega) (by omega) (by omega) (by omega) (by omega) (by omega)) ⟨.inl rfl, .inl rfl, .inl rfl, .inl rfl, trivial⟩
          · refine go_swi (v := 4) (p1 := 322) (lo := 0) (hi := 32) rfl c2802 (by decide) rfl ?_
            refine go_to (k := 5) (pc' := 327) (L' := [some (.inr (.inr (some 3000))), some (.inr (.inr (some 0))), some (.inr (.inr (some 79))), some (.inl l18_3)]) (st' := [.inl (l18_3 + 1), .inr (.inr (some 3000)), .inr (.inr (some 0))]) (w' := (SH, dt2776)) (fun _ => rfl) ?_
            have r3157 := i32_R (xs ((l18_3 + 1).toNat))
            refine go_smp (L' := [some (.inr (.inr (some 3000))), some (.inr (.inr (some 0))), some (.inr (.inr (some 79))), some (.inl l18_3)]) (st' := [.inl ((xs ((l18_3 + 1).toNat)).toInt), .inr (.inr (some 0))]) (w' := (SH, dt2776)) rfl rfl (s_iald (n := L) (f := fun j => (xs j).toInt) (am_scr hLL) ⟨by omega, by omega⟩) ?_
            refine go_call (Q' := _) rfl rfl rfl rfl rfl (sp_X5_fault L xs sio (d + 38) dt2776 hI2777  ((xs ((l18_3 + 1).toNat)).toInt) ⟨by omega, by omega⟩ ) ?_
            rintro _ _ ⟨rfl, h3158⟩
            refine ⟨rfl, ?_⟩
            rcases h3158 with ⟨v_h3158, rfl, h3158r, h3158⟩
            refine go_to (k := 6) (pc' := 337) (L' := [some (.inr (.inr (some 3000))), some (.inr (.inr (some 0))), some (.inr (.inr (some 79))), some (.inl l18_3)]) (st' := [.inl (l18_3 + 1), .inr (.inr (some 3000)), .inr (.inr (some 79))]) (w' := (SH, dt2776)) (fun _ => rfl) ?_
            refine go_smp (L' := [some (.inr (.inr (some 3000))), some (.inr (.inr (some 0))), some (.inr (.inr (some 79))), some (.inl l18_3)]) (st' := [.inl ((xs ((l18_3 + 1).toNat)).toInt), .inr (.inr (some 79))]) (w' := (SH, dt2776)) rfl rfl (s_iald (n := L) (f := fun j => (xs j).toInt) (am_scr hLL) ⟨by omega, by omega⟩) ?_
            refine go_call (Q' := _) rfl rfl rfl rfl rfl (sp_X6_fault L xs sio (d + 38) dt2776 hI2777  ((xs ((l18_3 + 1).toNat)).toInt) ⟨by omega, by omega⟩ ) ?_
            rintro _ _ ⟨rfl, h3159⟩
            refine ⟨rfl, ?_⟩
            rcases h3159 with ⟨v_h3159, rfl, h3159r, h3159⟩
            refine go_to (k := 4) (pc' := 18) (L' := [some (.inr (.inr (some 3000))), some (.inr (.inr (some 0))), some (.inr (.inr (some 79))), some (.inl (l18_3 + 6))]) (st' := []) (w' := (SH, dt2776)) (fun _ => rfl) ?_
            exact GO.le (ih_loop2795 (l18_3 + 6) dt2776 hI2777 hF2778 hM_dt2776 (by omega) (by exact hM2L) (by omega) (by omega) (by omega) (by omega) (by omega) (by omega) (by omega) (by omega) (by omega) (by omega) (by omega) (by omega) (by omega) (by omega) (by omega)) ⟨.inl rfl, .inl rfl, .inl rfl, .inl rfl, trivial⟩
          · refine go_swi (v := 5) (p1 := 345) (lo := 0) (hi := 32) rfl c2802 (by decide) rfl ?_
            refine go_to (k := 5) (pc' := 350) (L' := [some (.inr (.inr (some 3000))), some (.inr (.inr (some 0))), some (.inr (.inr (some 79))), some (.inl l18_3)]) (st' := [.inl (l18_3 + 1), .inr (.inr (some 3000)), .inr (.inr (some 0))]) (w' := (SH, dt2776)) (fun _ => rfl) ?_
            have r3160 := i32_R (xs ((l18_3 + 1).toNat))
            refine go_smp (L' := [some (.inr (.inr (some 3000))), some (.inr (.inr (some 0))), some (.inr (.inr (some 79))), some (.inl l18_3)]) (st' := [.inl ((xs ((l18_3 + 1).toNat)).toInt), .inr (.inr (some 0))]) (w' := (SH, dt2776)) rfl rfl (s_iald (n := L) (f := fun j => (xs j).toInt) (am_scr hLL) ⟨by omega, by omega⟩) ?_
            refine go_to (k := 4) (pc' := 355) (L' := [some (.inr (.inr (some 3000))), some (.inr (.inr (some 0))), some (.inr (.inr (some 79))), some (.inl l18_3)]) (st' := [.inl (l18_3 + 2), .inr (.inr (some 3000)), .inl ((xs ((l18_3 + 1).toNat)).toInt), .inr (.inr (some 0))]) (w' := (SH, dt2776)) (fun _ => rfl) ?_
            have r3161 := i32_R (xs ((l18_3 + 2).toNat))
            refine go_smp (L' := [some (.inr (.inr (some 3000))), some (.inr (.inr (some 0))), some (.inr (.inr (some 79))), some (.inl l18_3)]) (st' := [.inl ((xs ((l18_3 + 2).toNat)).toInt), .inl ((xs ((l18_3 + 1).toNat)).toInt), .inr (.inr (some 0))]) (w' := (SH, dt2776)) rfl rfl (s_iald (n := L) (f := fun j => (xs j).toInt) (am_scr hLL) ⟨by omega, by omega⟩) ?_
            refine go_to (k := 4) (pc' := 360) (L' := [some (.inr (.inr (some 3000))), some (.inr (.inr (some 0))), some (.inr (.inr (some 79))), some (.inl l18_3)]) (st' := [.inl (l18_3 + 3), .inr (.inr (some 3000)), .inl ((xs ((l18_3 + 2).toNat)).toInt), .inl ((xs ((l18_3 + 1).toNat)).toInt), .inr (.inr (some 0))]) (w' := (SH, dt2776)) (fun _ => rfl) ?_
            have r3162 := i32_R (xs ((l18_3 + 3).toNat))
            refine go_smp (L' := [some (.inr (.inr (some 3000))), some (.inr (.inr (some 0))), some (.inr (.inr (some 79))), some (.inl l18_3)]) (st' := [.inl ((xs ((l18_3 + 3).toNat)).toInt), .inl ((xs ((l18_3 + 2).toNat)).toInt), .inl ((xs ((l18_3 + 1).toNat)).toInt), .inr (.inr (some 0))]) (w' := (SH, dt2776)) rfl rfl (s_iald (n := L) (f := fun j => (xs j).toInt) (am_scr hLL) ⟨by omega, by omega⟩) ?_
            refine go_to (k := 4) (pc' := 365) (L' := [some (.inr (.inr (some 3000))), some (.inr (.inr (some 0))), some (.inr (.inr (some 79))), some (.inl l18_3)]) (st' := [.inl (l18_3 + 4), .inr (.inr (some 3000)), .inl ((xs ((l18_3 + 3).toNat)).toInt), .inl ((xs ((l18_3 + 2).toNat)).toInt), .inl ((xs ((l18_3 + 1).toNat)).toInt), .inr (.inr (some 0))]) (w' := (SH, dt2776)) (fun _ => rfl) ?_
            have r3163 := i32_R (xs ((l18_3 + 4).toNat))
            refine go_smp (L' := [some (.inr (.inr (some 3000))), some (.inr (.inr (some 0))), some (.inr (.inr (some 79))), some (.inl l18_3)]) (st' := [.inl ((xs ((l18_3 + 4).toNat)).toInt), .inl ((xs ((l18_3 + 3).toNat)).toInt), .inl ((xs ((l18_3 + 2).toNat)).toInt), .inl ((xs ((l18_3 + 1).toNat)).toInt), .inr (.inr (some 0))]) (w' := (SH, dt2776)) rfl rfl (s_iald (n := L) (f := fun j => (xs j).toInt) (am_scr hLL) ⟨by omega, by omega⟩) ?_
            refine go_call (Q' := _) rfl rfl rfl rfl rfl (sp_X5_after L xs sio (d + 33) dt2776 hI2777  ((xs ((l18_3 + 1).toNat)).toInt) ⟨by omega, by omega⟩ ((xs ((l18_3 + 2).toNat)).toInt) ⟨by omega, by omega⟩ ((xs ((l18_3 + 3).toNat)).toInt) ⟨by omega, by omega⟩ ((xs ((l18_3 + 4).toNat)).toInt) ⟨by omega, by omega⟩ ) ?_
            rintro _ _ ⟨dt3165, rfl, hI3166, hF3167, h3164⟩
            refine ⟨rfl, ?_⟩
            have hF3168 : Fr [0, 1, 2, 3, 4, 5, 6, 7, 8, 9, 10, 11, 12, 13, 14, 15, 16, 17, 18, 19, 20, 21, 22, 23, 24, 25, 26, 27, 28, 29, 30, 31, 32, 33, 34, 35, 36, 37, 38, 39, 40, 41, 42, 43, 44, 45, 46, 47, 48, 49, 50, 51, 52, 53, 54, 55, 56, 57, 58, 59, 60, 61, 62, 63, 64, 65, 66, 67, 68, 69, 70, 71, 72, 73, 74, 75, 76, 77, 78, 79, 80, 81, 82, 83, 84, 85, 86, 87, 88, 89, 90, 91, 92, 93, 94, 95, 96, 97, 98, 99, 100, 101, 102, 103, 104] dt dt3165 := Fr_tr hF2778 hF3167 (by decide)
            have hM3169 : MW (dt3165 80) := MW_fr hM_dt2776 hF3167 (by decide)
            have w3170 : dt3165 1 0 = dt2776 1 0 := hF3167 1 (by decide) 0
            have w3171 : dt3165 7 3 = dt2776 7 3 := hF3167 7 (by decide) 3
            have w3172 : dt3165 10 3 = dt2776 10 3 := hF3167 10 (by decide) 3
            have w3173 : dt3165 12 3 = dt2776 12 3 := hF3167 12 (by decide) 3
            have w3174 : dt3165 14 3 = dt2776 14 3 := hF3167 14 (by decide) 3
            have w3175 : dt3165 16 3 = dt2776 16 3 := hF3167 16 (by decide) 3
            have w3176 : dt3165 18 0 = dt2776 18 0 := hF3167 18 (by decide) 0
            have w3177 : dt3165 24 3 = dt2776 24 3 := hF3167 24 (by decide) 3
            have w3178 : dt3165 27 3 = dt2776 27 3 := hF3167 27 (by decide) 3
            have w3179 : dt3165 29 3 = dt2776 29 3 := hF3167 29 (by decide) 3
            have w3180 : dt3165 31 3 = dt2776 31 3 := hF3167 31 (by decide) 3
            have w3181 : dt3165 33 3 = dt2776 33 3 := hF3167 33 (by decide) 3
            have w3182 : dt3165 0 2 = dt2776 0 2 := hF3167 0 (by decide) 2
            have w3183 : dt3165 35 1 = dt2776 35 1 := hF3167 35 (by decide) 1
            have w3184 : dt3165 80 0 = dt2776 80 0 := hF3167 80 (by decide) 0
            have w3185 : dt3165 80 1 = dt2776 80 1 := hF3167 80 (by decide) 1
            have w3186 : dt3165 80 2 = dt2776 80 2 := hF3167 80 (by decide) 2
            have w3187 : dt3165 80 3 = dt2776 80 3 := hF3167 80 (by decide) 3
            have w3188 : dt3165 80 4 = dt2776 80 4 := hF3167 80 (by decide) 4
            have w3189 : dt3165 80 5 = dt2776 80 5 := hF3167 80 (by decide) 5
            have w3190 : dt3165 81 0 = dt2776 81 0 := hF3167 81 (by decide) 0
            have w3191 : dt3165 81 1 = dt2776 81 1 := hF3167 81 (by decide) 1
            have w3192 : dt3165 81 2 = dt2776 81 2 := hF3167 81 (by decide) 2
            have w3193 : dt3165 81 3 = dt2776 81 3 := hF3167 81 (by decide) 3
            have w3194 : dt3165 81 4 = dt2776 81 4 := hF3167 81 (by decide) 4
            have w3195 : dt3165 81 5 = dt2776 81 5 := hF3167 81 (by decide) 5
            have w3196 : dt3165 79 2 = dt2776 79 2 := hF3167 79 (by decide) 2
            have w3197 : dt3165 79 12 = dt2776 79 12 := hF3167 79 (by decide) 12
            rcases h3164 with ⟨v_h3164, rfl, h3164r, h3164⟩
            have M23198 : MW (dt3165 81) := MW_frk hM2L hF3167 (by decide)
            refine go_to (k := 6) (pc' := 375) (L' := [some (.inr (.inr (some 3000))), some (.inr (.inr (some 0))), some (.inr (.inr (some 79))), some (.inl l18_3)]) (st' := [.inl (l18_3 + 1), .inr (.inr (some 3000)), .inr (.inr (some 79))]) (w' := (SH, dt3165)) (fun _ => rfl) ?_
            have r3199 := i32_R (xs ((l18_3 + 1).toNat))
            refine go_smp (L' := [some (.inr (.inr (some 3000))), some (.inr (.inr (some 0))), some (.inr (.inr (some 79))), some (.inl l18_3)]) (st' := [.inl ((xs ((l18_3 + 1).toNat)).toInt), .inr (.inr (some 79))]) (w' := (SH, dt3165)) rfl rfl (s_iald (n := L) (f := fun j => (xs j).toInt) (am_scr hLL) ⟨by omega, by omega⟩) ?_
            refine go_to (k := 4) (pc' := 380) (L' := [some (.inr (.inr (some 3000))), some (.inr (.inr (some 0))), some (.inr (.inr (some 79))), some (.inl l18_3)]) (st' := [.inl (l18_3 + 2), .inr (.inr (some 3000)), .inl ((xs ((l18_3 + 1).toNat)).toInt), .inr (.inr (some 79))]) (w' := (SH, dt3165)) (fun _ => rfl) ?_
            have r3200 := i32_R (xs ((l18_3 + 2).toNat))
            refine go_smp (L' := [some (.inr (.inr (some 3000))), some (.inr (.inr (some 0))), some (.inr (.inr (some 79))), some (.inl l18_3)]) (st' := [.inl ((xs ((l18_3 + 2).toNat)).toInt), .inl ((xs ((l18_3 + 1).toNat)).toInt), .inr (.inr (some 79))]) (w' := (SH, dt3165)) rfl rfl (s_iald (n := L) (f := fun j => (xs j).toInt) (am_scr hLL) ⟨by omega, by omega⟩) ?_
            refine go_to (k := 4) (pc' := 385) (L' := [some (.inr (.inr (some 3000))), some (.inr (.inr (some 0))), some (.inr (.inr (some 79))), some (.inl l18_3)]) (st' := [.inl (l18_3 + 3), .inr (.inr (some 3000)), .inl ((xs ((l18_3 + 2).toNat)).toInt), .inl ((xs ((l18_3 + 1).toNat)).toInt), .inr (.inr (some 79))]) (w' := (SH, dt3165)) (fun _ => rfl) ?_
            have r3201 := i32_R (xs ((l18_3 + 3).toNat))
            refine go_smp (L' := [some (.inr (.inr (some 3000))), some (.inr (.inr (some 0))), some (.inr (.inr (some 79))), some (.inl l18_3)]) (st' := [.inl ((xs ((l18_3 + 3).toNat)).toInt), .inl ((xs ((l18_3 + 2).toNat)).toInt), .inl ((xs ((l18_3 + 1).toNat)).toInt), .inr (.inr (some 79))]) (w' := (SH, dt3165)) rfl rfl (s_iald (n := L) (f := fun j => (xs j).toInt) (am_scr hLL) ⟨by omega, by omega⟩) ?_
            refine go_to (k := 4) (pc' := 390) (L' := [some (.inr (.inr (some 3000))), some (.inr (.inr (some 0))), some (.inr (.inr (some 79))), some (.inl l18_3)]) (st' := [.inl (l18_3 + 4), .inr (.inr (some 3000)), .inl ((xs ((l18_3 + 3).toNat)).toInt), .inl ((xs ((l18_3 + 2).toNat)).toInt), .inl ((xs ((l18_3 + 1).toNat)).toInt), .inr (.inr (some 79))]) (w' := (SH, dt3165)) (fun _ => rfl) ?_
            have r3202 := i32_R (xs ((l18_3 + 4).toNat))
            refine go_smp (L' := [some (.inr (.inr (some 3000))), some (.inr (.inr (some 0))), some (.inr (.inr (some 79))), some (.inl l18_3)]) (st' := [.inl ((xs ((l18_3 + 4).toNat)).toInt), .inl ((xs ((l18_3 + 3).toNat)).toInt), .inl ((xs ((l18_3 + 2).toNat)).toInt), .inl ((xs ((l18_3 + 1).toNat)).toInt), .inr (.inr (some 79))]) (w' := (SH, dt3165)) rfl rfl (s_iald (n := L) (f := fun j => (xs j).toInt) (am_scr hLL) ⟨by omega, by omega⟩) ?_
            refine go_call (Q' := _) rfl rfl rfl rfl rfl (sp_X6_after L xs sio (d + 33) dt3165 hI3166 hM3169  ((xs ((l18_3 + 1).toNat)).toInt) ⟨by omega, by omega⟩ ((xs ((l18_3 + 2).toNat)).toInt) ⟨by omega, by omega⟩ ((xs ((l18_3 + 3).toNat)).toInt) ⟨by omega, by omega⟩ ((xs ((l18_3 + 4).toNat)).toInt) ⟨by omega, by omega⟩ ) ?_
            rintro _ _ ⟨dt3204, rfl, hI3205, hF3206, h3203⟩
            refine ⟨rfl, ?_⟩
            have hF3207 : Fr [0, 1, 2, 3, 4, 5, 6, 7, 8, 9, 10, 11, 12, 13, 14, 15, 16, 17, 18, 19, 20, 21, 22, 23, 24, 25, 26, 27, 28, 29, 30, 31, 32, 33, 34, 35, 36, 37, 38, 39, 40, 41, 42, 43, 44, 45, 46, 47, 48, 49, 50, 51, 52, 53, 54, 55, 56, 57, 58, 59, 60, 61, 62, 63, 64, 65, 66, 67, 68, 69, 70, 71, 72, 73, 74, 75, 76, 77, 78, 79, 80, 81, 82, 83, 84, 85, 86, 87, 88, 89, 90, 91, 92, 93, 94, 95, 96, 97, 98, 99, 100, 101, 102, 103, 104] dt dt3204 := Fr_tr hF3168 hF3206 (by decide)
            have hM3208 : MW (dt3204 80) := MW_fr hM3169 hF3206 (by decide)
            have w3209 : dt3204 1 0 = dt3165 1 0 := hF3206 1 (by decide) 0
            have w3210 : dt3204 7 3 = dt3165 7 3 := hF3206 7 (by decide) 3
            have w3211 : dt3204 10 3 = dt3165 10 3 := hF3206 10 (by decide) 3
            have w3212 : dt3204 12 3 = dt3165 12 3 := hF3206 12 (by decide) 3
            have w3213 : dt3204 14 3 = dt3165 14 3 := hF3206 14 (by decide) 3
            have w3214 : dt3204 16 3 = dt3165 16 3 := hF3206 16 (by decide) 3
            have w3215 : dt3204 18 0 = dt3165 18 0 := hF3206 18 (by decide) 0
            have w3216 : dt3204 24 3 = dt3165 24 3 := hF3206 24 (by decide) 3
            have w3217 : dt3204 27 3 = dt3165 27 3 := hF3206 27 (by decide) 3
            have w3218 : dt3204 29 3 = dt3165 29 3 := hF3206 29 (by decide) 3
            have w3219 : dt3204 31 3 = dt3165 31 3 := hF3206 31 (by decide) 3
            have w3220 : dt3204 33 3 = dt3165 33 3 := hF3206 33 (by decide) 3
            have w3221 : dt3204 0 2 = dt3165 0 2 := hF3206 0 (by decide) 2
            have w3222 : dt3204 35 1 = dt3165 35 1 := hF3206 35 (by decide) 1
            have w3223 : dt3204 80 0 = dt3165 80 0 := hF3206 80 (by decide) 0
            have w3224 : dt3204 80 1 = dt3165 80 1 := hF3206 80 (by decide) 1
            have w3225 : dt3204 80 2 = dt3165 80 2 := hF3206 80 (by decide) 2
            have w3226 : dt3204 80 3 = dt3165 80 3 := hF3206 80 (by decide) 3
            have w3227 : dt3204 80 4 = dt3165 80 4 := hF3206 80 (by decide) 4
            have w3228 : dt3204 80 5 = dt3165 80 5 := hF3206 80 (by decide) 5
            have w3229 : dt3204 81 0 = dt3165 81 0 := hF3206 81 (by decide) 0
            have w3230 : dt3204 81 1 = dt3165 81 1 := hF3206 81 (by decide) 1
            have w3231 : dt3204 81 2 = dt3165 81 2 := hF3206 81 (by decide) 2
            have w3232 : dt3204 81 3 = dt3165 81 3 := hF3206 81 (by decide) 3
            have w3233 : dt3204 81 4 = dt3165 81 4 := hF3206 81 (by decide) 4
            have w3234 : dt3204 81 5 = dt3165 81 5 := hF3206 81 (by decide) 5
            have w3235 : dt3204 79 2 = dt3165 79 2 := hF3206 79 (by decide) 2
            have w3236 : dt3204 79 12 = dt3165 79 12 := hF3206 79 (by decide) 12
            rcases h3203 with ⟨v_h3203, rfl, h3203r, h3203⟩
            have M23237 : MW (dt3204 81) := MW_frk M23198 hF3206 (by decide)
            refine go_to (k := 4) (pc' := 18) (L' := [some (.inr (.inr (some 3000))), some (.inr (.inr (some 0))), some (.inr (.inr (some 79))), some (.inl (l18_3 + 6))]) (st' := []) (w' := (SH, dt3204)) (fun _ => rfl) ?_
            exact GO.le (ih_loop2795 (l18_3 + 6) dt3204 hI3205 hF3207 hM3208 (by omega) (by exact M23237) (by omega) (by omega) (by omega) (by omega) (by omega) (by omega) (by omega) (by omega) (by omega) (by omega) (by omega) (by omega) (by omega) (by omega) (by omega)) ⟨.inl rfl, .inl rfl, .inl rfl, .inl rfl, trivial⟩
          · refine go_swi (v := 6) (p1 := 398) (lo := 0) (hi := 32) rfl c2802 (by decide) rfl ?_
            refine go_to (k := 5) (pc' := 403) (L' := [some (.inr (.inr (some 3000))), some (.inr (.inr (some 0))), some (.inr (.inr (some 79))), some (.inl l18_3)]) (st' := [.inl (l18_3 + 1), .inr (.inr (some 3000)), .inr (.inr (some 0))]) (w' := (SH, dt2776)) (fun _ => rfl) ?_
            have r3238 := i32_R (xs ((l18_3 + 1).toNat))
            refine go_smp (L' := [some (.inr (.inr (some 3000))), some (.inr (.inr (some 0))), some (.inr (.inr (some 79))), some (.inl l18_3)]) (st' := [.inl ((xs ((l18_3 + 1).toNat)).toInt), .inr (.inr (some 0))]) (w' := (SH, dt2776)) rfl rfl (s_iald (n := L) (f := fun j => (xs j).toInt) (am_scr hLL) ⟨by omega, by omega⟩) ?_
            refine go_to (k := 4) (pc' := 408) (L' := [some (.inr (.inr (some 3000))), some (.inr (.inr (some 0))), some (.inr (.inr (some 79))), some (.inl l18_3)]) (st' := [.inl (l18_3 + 2), .inr (.inr (some 3000)), .inl ((xs ((l18_3 + 1).toNat)).toInt), .inr (.inr (some 0))]) (w' := (SH, dt2776)) (fun _ => rfl) ?_
            have r3239 := i32_R (xs ((l18_3 + 2).toNat))
            refine go_smp (L' := [some (.inr (.inr (some 3000))), some (.inr (.inr (some 0))), some (.inr (.inr (some 79))), some (.inl l18_3)]) (st' := [.inl ((xs ((l18_3 + 2).toNat)).toInt), .inl ((xs ((l18_3 + 1).toNat)).toInt), .inr (.inr (some 0))]) (w' := (SH, dt2776)) rfl rfl (s_iald (n := L) (f := fun j => (xs j).toInt) (am_scr hLL) ⟨by omega, by omega⟩) ?_
            refine go_to (k := 4) (pc' := 413) (L' := [some (.inr (.inr (some 3000))), some (.inr (.inr (some 0))), some (.inr (.inr (some 79))), some (.inl l18_3)]) (st' := [.inl (l18_3 + 3), .inr (.inr (some 3000)), .inl ((xs ((l18_3 + 2).toNat)).toInt), .inl ((xs ((l18_3 + 1).toNat)).toInt), .inr (.inr (some 0))]) (w' := (SH, dt2776)) (fun _ => rfl) ?_
            have r3240 := i32_R (xs ((l18_3 + 3).toNat))
            refine go_smp (L' := [some (.inr (.inr (some 3000))), some (.inr (.inr (some 0))), some (.inr (.inr (some 79))), some (.inl l18_3)]) (st' := [.inl ((xs ((l18_3 + 3).toNat)).toInt), .inl ((xs ((l18_3 + 2).toNat)).toInt), .inl ((xs ((l18_3 + 1).toNat)).toInt), .inr (.inr (some 0))]) (w' := (SH, dt2776)) rfl rfl (s_iald (n := L) (f := fun j => (xs j).toInt) (am_scr hLL) ⟨by omega, by omega⟩) ?_
            refine go_to (k := 4) (pc' := 418) (L' := [some (.inr (.inr (some 3000))), some (.inr (.inr (some 0))), some (.inr (.inr (some 79))), some (.inl l18_3)]) (st' := [.inl (l18_3 + 4), .inr (.inr (some 3000)), .inl ((xs ((l18_3 + 3).toNat)).toInt), .inl ((xs ((l18_3 + 2).toNat)).toInt), .inl ((xs ((l18_3 + 1).toNat)).toInt), .inr (.inr (some 0))]) (w' := (SH, dt2776)) (fun _ => rfl) ?_
            have r3241 := i32_R (xs ((l18_3 + 4).toNat))
            refine go_smp (L' := [some (.inr (.inr (some 3000))), some (.inr (.inr (some 0))), some (.inr (.inr (some 79))), some (.inl l18_3)]) (st' := [.inl ((xs ((l18_3 + 4).toNat)).toInt), .inl ((xs ((l18_3 + 3).toNat)).toInt), .inl ((xs ((l18_3 + 2).toNat)).toInt), .inl ((xs ((l18_3 + 1).toNat)).toInt), .inr (.inr (some 0))]) (w' := (SH, dt2776)) rfl rfl (s_iald (n := L) (f := fun j => (xs j).toInt) (am_scr hLL) ⟨by omega, by omega⟩) ?_
            refine go_call (Q' := _) rfl rfl rfl rfl rfl (sp_X5_thinks L xs sio (d + 33) dt2776 hI2777  ((xs ((l18_3 + 1).toNat)).toInt) ⟨by omega, by omega⟩ ((xs ((l18_3 + 2).toNat)).toInt) ⟨by omega, by omega⟩ ((xs ((l18_3 + 3).toNat)).toInt) ⟨by omega, by omega⟩ ((xs ((l18_3 + 4).toNat)).toInt) ⟨by omega, by omega⟩ ) ?_
            rintro _ _ ⟨dt3243, rfl, hI3244, hF3245, h3242⟩
            refine ⟨rfl, ?_⟩
            have hF3246 : Fr [0, 1, 2, 3, 4, 5, 6, 7, 8, 9, 10, 11, 12, 13, 14, 15, 16, 17, 18, 19, 20, 21, 22, 23, 24, 25, 26, 27, 28, 29, 30, 31, 32, 33, 34, 35, 36, 37, 38, 39, 40, 41, 42, 43, 44, 45, 46, 47, 48, 49, 50, 51, 52, 53, 54, 55, 56, 57, 58, 59, 60, 61, 62, 63, 64, 65, 66, 67, 68, 69, 70, 71, 72, 73, 74, 75, 76, 77, 78, 79, 80, 81, 82, 83, 84, 85, 86, 87, 88, 89, 90, 91, 92, 93, 94, 95, 96, 97, 98, 99, 100, 101, 102, 103, 104] dt dt3243 := Fr_tr hF2778 hF3245 (by decide)
            have hM3247 : MW (dt3243 80) := MW_fr hM_dt2776 hF3245 (by decide)
            have w3248 : dt3243 1 0 = dt2776 1 0 := hF3245 1 (by decide) 0
            have w3249 : dt3243 7 3 = dt2776 7 3 := hF3245 7 (by decide) 3
            have w3250 : dt3243 10 3 = dt2776 10 3 := hF3245 10 (by decide) 3
            have w3251 : dt3243 12 3 = dt2776 12 3 := hF3245 12 (by decide) 3
            have w3252 : dt3243 14 3 = dt2776 14 3 := hF3245 14 (by decide) 3
            have w3253 : dt3243 16 3 = dt2776 16 3 := hF3245 16 (by decide) 3
            have w3254 : dt3243 18 0 = dt2776 18 0 := hF3245 18 (by decide) 0
            have w3255 : dt3243 24 3 = dt2776 24 3 := hF3245 24 (by decide) 3
            have w3256 : dt3243 27 3 = dt2776 27 3 := hF3245 27 (by decide) 3
            have w3257 : dt3243 29 3 = dt2776 29 3 := hF3245 29 (by decide) 3
            have w3258 : dt3243 31 3 = dt2776 31 3 := hF3245 31 (by decide) 3
            have w3259 : dt3243 33 3 = dt2776 33 3 := hF3245 33 (by decide) 3
            have w3260 : dt3243 0 2 = dt2776 0 2 := hF3245 0 (by decide) 2
            have w3261 : dt3243 35 1 = dt2776 35 1 := hF3245 35 (by decide) 1
            have w3262 : dt3243 80 0 = dt2776 80 0 := hF3245 80 (by decide) 0
            have w3263 : dt3243 80 1 = dt2776 80 1 := hF3245 80 (by decide) 1
            have w3264 : dt3243 80 2 = dt2776 80 2 := hF3245 80 (by decide) 2
            have w3265 : dt3243 80 3 = dt2776 80 3 := hF3245 80 (by decide) 3
            have w3266 : dt3243 80 4 = dt2776 80 4 := hF3245 80 (by decide) 4
            have w3267 : dt3243 80 5 = dt2776 80 5 := hF3245 80 (by decide) 5
            have w3268 : dt3243 81 0 = dt2776 81 0 := hF3245 81 (by decide) 0
            have w3269 : dt3243 81 1 = dt2776 81 1 := hF3245 81 (by decide) 1
            have w3270 : dt3243 81 2 = dt2776 81 2 := hF3245 81 (by decide) 2
            have w3271 : dt3243 81 3 = dt2776 81 3 := hF3245 81 (by decide) 3
            have w3272 : dt3243 81 4 = dt2776 81 4 := hF3245 81 (by decide) 4
            have w3273 : dt3243 81 5 = dt2776 81 5 := hF3245 81 (by decide) 5
            have w3274 : dt3243 79 2 = dt2776 79 2 := hF3245 79 (by decide) 2
            have w3275 : dt3243 79 12 = dt2776 79 12 := hF3245 79 (by decide) 12
            rcases h3242 with ⟨v_h3242, rfl, h3242r, h3242⟩
            have M23276 : MW (dt3243 81) := MW_frk hM2L hF3245 (by decide)
            refine go_to (k := 6) (pc' := 428) (L' := [some (.inr (.inr (some 3000))), some (.inr (.inr (some 0))), some (.inr (.inr (some 79))), some (.inl l18_3)]) (st' := [.inl (l18_3 + 1), .inr (.inr (some 3000)), .inr (.inr (some 79))]) (w' := (SH, dt3243)) (fun _ => rfl) ?_
            have r3277 := i32_R (xs ((l18_3 + 1).toNat))
            refine go_smp (L' := [some (.inr (.inr (some 3000))), some (.inr (.inr (some 0))), some (.inr (.inr (some 79))), some (.inl l18_3)]) (st' := [.inl ((xs ((l18_3 + 1).toNat)).toInt), .inr (.inr (some 79))]) (w' := (SH, dt3243)) rfl rfl (s_iald (n := L) (f := fun j => (xs j).toInt) (am_scr hLL) ⟨by omega, by omega⟩) ?_
            refine go_to (k := 4) (pc' := 433) (L' := [some (.inr (.inr (some 3000))), some (.inr (.inr (some 0))), some (.inr (.inr (some 79))), some (.inl l18_3)]) (st' := [.inl (l18_3 + 2), .inr (.inr (some 3000)), .inl ((xs ((l18_3 + 1).toNat)).toInt), .inr (.inr (some 79))]) (w' := (SH, dt3243)) (fun _ => rfl) ?_
            have r3278 := i32_R (xs ((l18_3 + 2).toNat))
            refine go_smp (L' := [some (.inr (.inr (some 3000))), some (.inr (.inr (some 0))), some (.inr (.inr (some 79))), some (.inl l18_3)]) (st' := [.inl ((xs ((l18_3 + 2).toNat)).toInt), .inl ((xs ((l18_3 + 1).toNat)).toInt), .inr (.inr (some 79))]) (w' := (SH, dt3243)) rfl rfl (s_iald (n := L) (f := fun j => (xs j).toInt) (am_scr hLL) ⟨by omega, by omega⟩) ?_
            refine go_to (k := 4) (pc' := 438) (L' := [some (.inr (.inr (some 3000))), some (.inr (.inr (some 0))), some (.inr (.inr (some 79))), some (.inl l18_3)]) (st' := [.inl (l18_3 + 3), .inr (.inr (some 3000)), .inl ((xs ((l18_3 + 2).toNat)).toInt), .inl ((xs ((l18_3 + 1).toNat)).toInt), .inr (.inr (some 79))]) (w' := (SH, dt3243)) (fun _ => rfl) ?_
            have r3279 := i32_R (xs ((l18_3 + 3).toNat))
            refine go_smp (L' := [some (.inr (.inr (some 3000))), some (.inr (.inr (some 0))), some (.inr (.inr (some 79))), some (.inl l18_3)]) (st' := [.inl ((xs ((l18_3 + 3).toNat)).toInt), .inl ((xs ((l18_3 + 2).toNat)).toInt), .inl ((xs ((l18_3 + 1).toNat)).toInt), .inr (.inr (some 79))]) (w' := (SH, dt3243)) rfl rfl (s_iald (n := L) (f := fun j => (xs j).toInt) (am_scr hLL) ⟨by omega, by omega⟩) ?_
            refine go_to (k := 4) (pc' := 443) (L' := [some (.inr (.inr (some 3000))), some (.inr (.inr (some 0))), some (.inr (.inr (some 79))), some (.inl l18_3)]) (st' := [.inl (l18_3 + 4), .inr (.inr (some 3000)), .inl ((xs ((l18_3 + 3).toNat)).toInt), .inl ((xs ((l18_3 + 2).toNat)).toInt), .inl ((xs ((l18_3 + 1).toNat)).toInt), .inr (.inr (some 79))]) (w' := (SH, dt3243)) (fun _ => rfl) ?_
            have r3280 := i32_R (xs ((l18_3 + 4).toNat))
            refine go_smp (L' := [some (.inr (.inr (some 3000))), some (.inr (.inr (some 0))), some (.inr (.inr (some 79))), some (.inl l18_3)]) (st' := [.inl ((xs ((l18_3 + 4).toNat)).toInt), .inl ((xs ((l18_3 + 3).toNat)).toInt), .inl ((xs ((l18_3 + 2).toNat)).toInt), .inl ((xs ((l18_3 + 1).toNat)).toInt), .inr (.inr (some 79))]) (w' := (SH, dt3243)) rfl rfl (s_iald (n := L) (f := fun j => (xs j).toInt) (am_scr hLL) ⟨by omega, by omega⟩) ?_
            refine go_call (Q' := _) rfl rfl rfl rfl rfl (sp_X6_thinks L xs sio (d + 33) dt3243 hI3244 hM3247  ((xs ((l18_3 + 1).toNat)).toInt) ⟨by omega, by omega⟩ ((xs ((l18_3 + 2).toNat)).toInt) ⟨by omega, by omega⟩ ((xs ((l18_3 + 3).toNat)).toInt) ⟨by omega, by omega⟩ ((xs ((l18_3 + 4).toNat)).toInt) ⟨by omega, by omega⟩ ) ?_
            rintro _ _ ⟨dt3282, rfl, hI3283, hF3284, h3281⟩
            refine ⟨rfl, ?_⟩
            have hF3285 : Fr [0, 1, 2, 3, 4, 5, 6, 7, 8, 9, 10, 11, 12, 13, 14, 15, 16, 17, 18, 19, 20, 21, 22, 23, 24, 25, 26, 27, 28, 29, 30, 31, 32, 33, 34, 35, 36, 37, 38, 39, 40, 41, 42, 43, 44, 45, 46, 47, 48, 49, 50, 51, 52, 53, 54, 55, 56, 57, 58, 59, 60, 61, 62, 63, 64, 65, 66, 67, 68, 69, 70, 71, 72, 73, 74, 75, 76, 77, 78, 79, 80, 81, 82, 83, 84, 85, 86, 87, 88, 89, 90, 91, 92, 93, 94, 95, 96, 97, 98, 99, 100, 101, 102, 103, 104] dt dt3282 := Fr_tr hF3246 hF3284 (by decide)
            have hM3286 : MW (dt3282 80) := MW_fr hM3247 hF3284 (by decide)
            have w3287 : dt3282 1 0 = dt3243 1 0 := hF3284 1 (by decide) 0
            have w3288 : dt3282 7 3 = dt3243 7 3 := hF3284 7 (by decide) 3
            have w3289 : dt3282 10 3 = dt3243 10 3 := hF3284 10 (by decide) 3
            have w3290 : dt3282 12 3 = dt3243 12 3 := hF3284 12 (by decide) 3
            have w3291 : dt3282 14 3 = dt3243 14 3 := hF3284 14 (by decide) 3
            have w3292 : dt3282 16 3 = dt3243 16 3 := hF3284 16 (by decide) 3
            have w3293 : dt3282 18 0 = dt3243 18 0 := hF3284 18 (by decide) 0
            have w3294 : dt3282 24 3 = dt3243 24 3 := hF3284 24 (by decide) 3
            have w3295 : dt3282 27 3 = dt3243 27 3 := hF3284 27 (by decide) 3
            have w3296 : dt3282 29 3 = dt3243 29 3 := hF3284 29 (by decide) 3
            have w3297 : dt3282 31 3 = dt3243 31 3 := hF3284 31 (by decide) 3
            have w3298 : dt3282 33 3 = dt3243 33 3 := hF3284 33 (by decide) 3
            have w3299 : dt3282 0 2 = dt3243 0 2 := hF3284 0 (by decide) 2
            have w3300 : dt3282 35 1 = dt3243 35 1 := hF3284 35 (by decide) 1
            have w3301 : dt3282 80 0 = dt3243 80 0 := hF3284 80 (by decide) 0
            have w3302 : dt3282 80 1 = dt3243 80 1 := hF3284 80 (by decide) 1
            have w3303 : dt3282 80 2 = dt3243 80 2 := hF3284 80 (by decide) 2
            have w3304 : dt3282 80 3 = dt3243 80 3 := hF3284 80 (by decide) 3
            have w3305 : dt3282 80 4 = dt3243 80 4 := hF3284 80 (by decide) 4
            have w3306 : dt3282 80 5 = dt3243 80 5 := hF3284 80 (by decide) 5
            have w3307 : dt3282 81 0 = dt3243 81 0 := hF3284 81 (by decide) 0
            have w3308 : dt3282 81 1 = dt3243 81 1 := hF3284 81 (by decide) 1
            have w3309 : dt3282 81 2 = dt3243 81 2 := hF3284 81 (by decide) 2
            have w3310 : dt3282 81 3 = dt3243 81 3 := hF3284 81 (by decide) 3
            have w3311 : dt3282 81 4 = dt3243 81 4 := hF3284 81 (by decide) 4
            have w3312 : dt3282 81 5 = dt3243 81 5 := hF3284 81 (by decide) 5
            have w3313 : dt3282 79 2 = dt3243 79 2 := hF3284 79 (by decide) 2
            have w3314 : dt3282 79 12 = dt3243 79 12 := hF3284 79 (by decide) 12
            rcases h3281 with ⟨v_h3281, rfl, h3281r, h3281⟩
            have M23315 : MW (dt3282 81) := MW_frk M23276 hF3284 (by decide)
            refine go_to (k := 4) (pc' := 18) (L' := [some (.inr (.inr (some 3000))), some (.inr (.inr (some 0))), some (.inr (.inr (some 79))), some (.inl (l18_3 + 6))]) (st' := []) (w' := (SH, dt3282)) (fun _ => rfl) ?_
            exact GO.le (ih_loop2795 (l18_3 + 6) dt3282 hI3283 hF3285 hM3286 (by omega) (by exact M23315) (by omega) (by omega) (by omega) (by omega) (by omega) (by omega) (by omega) (by omega) (by omega) (by omega) (by omega) (by omega) (by omega) (by omega) (by omega)) ⟨.inl rfl, .inl rfl, .inl rfl, .inl rfl, trivial⟩
          · refine go_swi (v := 7) (p1 := 451) (lo := 0) (hi := 32) rfl c2802 (by decide) rfl ?_
            refine go_to (k := 5) (pc' := 456) (L' := [some (.inr (.inr (some 3000))), some (.inr (.inr (some 0))), some (.inr (.inr (some 79))), some (.inl l18_3)]) (st' := [.inl (l18_3 + 1), .inr (.inr (some 3000)), .inr (.inr (some 0))]) (w' := (SH, dt2776)) (fun _ => rfl) ?_
            have r3316 := i32_R (xs ((l18_3 + 1).toNat))
            refine go_smp (L' := [some (.inr (.inr (some 3000))), some (.inr (.inr (some 0))), some (.inr (.inr (some 79))), some (.inl l18_3)]) (st' := [.inl ((xs ((l18_3 + 1).toNat)).toInt), .inr (.inr (some 0))]) (w' := (SH, dt2776)) rfl rfl (s_iald (n := L) (f := fun j => (xs j).toInt) (am_scr hLL) ⟨by omega, by omega⟩) ?_
            refine go_to (k := 4) (pc' := 461) (L' := [some (.inr (.inr (some 3000))), some (.inr (.inr (some 0))), some (.inr (.inr (some 79))), some (.inl l18_3)]) (st' := [.inl (l18_3 + 2), .inr (.inr (some 3000)), .inl ((xs ((l18_3 + 1).toNat)).toInt), .inr (.inr (some 0))]) (w' := (SH, dt2776)) (fun _ => rfl) ?_
            have r3317 := i32_R (xs ((l18_3 + 2).toNat))
            refine go_smp (L' := [some (.inr (.inr (some 3000))), some (.inr (.inr (some 0))), some (.inr (.inr (some 79))), some (.inl l18_3)]) (st' := [.inl ((xs ((l18_3 + 2).toNat)).toInt), .inl ((xs ((l18_3 + 1).toNat)).toInt), .inr (.inr (some 0))]) (w' := (SH, dt2776)) rfl rfl (s_iald (n := L) (f := fun j => (xs j).toInt) (am_scr hLL) ⟨by omega, by omega⟩) ?_
            refine go_to (k := 4) (pc' := 466) (L' := [some (.inr (.inr (some 3000))), some (.inr (.inr (some 0))), some (.inr (.inr (some 79))), some (.inl l18_3)]) (st' := [.inl (l18_3 + 3), .inr (.inr (some 3000)), .inl ((xs ((l18_3 + 2).toNat)).toInt), .inl ((xs ((l18_3 + 1).toNat)).toInt), .inr (.inr (some 0))]) (w' := (SH, dt2776)) (fun _ => rfl) ?_
            have r3318 := i32_R (xs ((l18_3 + 3).toNat))
            refine go_smp (L' := [some (.inr (.inr (some 3000))), some (.inr (.inr (some 0))), some (.inr (.inr (some 79))), some (.inl l18_3)]) (st' := [.inl ((xs ((l18_3 + 3).toNat)).toInt), .inl ((xs ((l18_3 + 2).toNat)).toInt), .inl ((xs ((l18_3 + 1).toNat)).toInt), .inr (.inr (some 0))]) (w' := (SH, dt2776)) rfl rfl (s_iald (n := L) (f := fun j => (xs j).toInt) (am_scr hLL) ⟨by omega, by omega⟩) ?_
            refine go_call (Q' := _) rfl rfl rfl rfl rfl (sp_X5_here L xs sio (d + 33) dt2776 hI2777  ((xs ((l18_3 + 1).toNat)).toInt) ⟨by omega, by omega⟩ ((xs ((l18_3 + 2).toNat)).toInt) ⟨by omega, by omega⟩ ((xs ((l18_3 + 3).toNat)).toInt) ⟨by omega, by omega⟩ ) ?_
            rintro _ _ ⟨dt3320, rfl, hI3321, hF3322, h3319⟩
            refine ⟨rfl, ?_⟩
            have hF3323 : Fr [0, 1, 2, 3, 4, 5, 6, 7, 8, 9, 10, 11, 12, 13, 14, 15, 16, 17, 18, 19, 20, 21, 22, 23, 24, 25, 26, 27, 28, 29, 30, 31, 32, 33, 34, 35, 36, 37, 38, 39, 40, 41, 42, 43, 44, 45, 46, 47, 48, 49, 50, 51, 52, 53, 54, 55, 56, 57, 58, 59, 60, 61, 62, 63, 64, 65, 66, 67, 68, 69, 70, 71, 72, 73, 74, 75, 76, 77, 78, 79, 80, 81, 82, 83, 84, 85, 86, 87, 88, 89, 90, 91, 92, 93, 94, 95, 96, 97, 98, 99, 100, 101, 102, 103, 104] dt dt3320 := Fr_tr hF2778 hF3322 (by decide)
            have hM3324 : MW (dt3320 80) := MW_fr hM_dt2776 hF3322 (by decide)
            have w3325 : dt3320 1 0 = dt2776 1 0 := hF3322 1 (by decide) 0
            have w3326 : dt3320 7 3 = dt2776 7 3 := hF3322 7 (by decide) 3
            have w3327 : dt3320 10 3 = dt2776 10 3 := hF3322 10 (by decide) 3
            have w3328 : dt3320 12 3 = dt2776 12 3 := hF3322 12 (by decide) 3
            have w3329 : dt3320 14 3 = dt2776 14 3 := hF3322 14 (by decide) 3
            have w3330 : dt3320 16 3 = dt2776 16 3 := hF3322 16 (by decide) 3
            have w3331 : dt3320 18 0 = dt2776 18 0 := hF3322 18 (by decide) 0
            have w3332 : dt3320 24 3 = dt2776 24 3 := hF3322 24 (by decide) 3
            have w3333 : dt3320 27 3 = dt2776 27 3 := hF3322 27 (by decide) 3
            have w3334 : dt3320 29 3 = dt2776 29 3 := hF3322 29 (by decide) 3
            have w3335 : dt3320 31 3 = dt2776 31 3 := hF3322 31 (by decide) 3
            have w3336 : dt3320 33 3 = dt2776 33 3 := hF3322 33 (by decide) 3
            have w3337 : dt3320 0 2 = dt2776 0 2 := hF3322 0 (by decide) 2
            have w3338 : dt3320 35 1 = dt2776 35 1 := hF3322 35 (by decide) 1
            have w3339 : dt3320 80 0 = dt2776 80 0 := hF3322 80 (by decide) 0
            have w3340 : dt3320 80 1 = dt2776 80 1 := hF3322 80 (by decide) 1
            have w3341 : dt3320 80 2 = dt2776 80 2 := hF3322 80 (by decide) 2
            have w3342 : dt3320 80 3 = dt2776 80 3 := hF3322 80 (by decide) 3
            have w3343 : dt3320 80 4 = dt2776 80 4 := hF3322 80 (by decide) 4
            have w3344 : dt3320 80 5 = dt2776 80 5 := hF3322 80 (by decide) 5
            have w3345 : dt3320 81 0 = dt2776 81 0 := hF3322 81 (by decide) 0
            have w3346 : dt3320 81 1 = dt2776 81 1 := hF3322 81 (by decide) 1
            have w3347 : dt3320 81 2 = dt2776 81 2 := hF3322 81 (by decide) 2
            have w3348 : dt3320 81 3 = dt2776 81 3 := hF3322 81 (by decide) 3
            have w3349 : dt3320 81 4 = dt2776 81 4 := hF3322 81 (by decide) 4
            have w3350 : dt3320 81 5 = dt2776 81 5 := hF3322 81 (by decide) 5
            have w3351 : dt3320 79 2 = dt2776 79 2 := hF3322 79 (by decide) 2
            have w3352 : dt3320 79 12 = dt2776 79 12 := hF3322 79 (by decide) 12
            rcases h3319 with ⟨v_h3319, rfl, h3319r, h3319⟩
            have M23353 : MW (dt3320 81) := MW_frk hM2L hF3322 (by decide)
            refine go_to (k := 6) (pc' := 476) (L' := [some (.inr (.inr (some 3000))), some (.inr (.inr (some 0))), some (.inr (.inr (some 79))), some (.inl l18_3)]) (st' := [.inl (l18_3 + 1), .inr (.inr (some 3000)), .inr (.inr (some 79))]) (w' := (SH, dt3320)) (fun _ => rfl) ?_
            have r3354 := i32_R (xs ((l18_3 + 1).toNat))
            refine go_smp (L' := [some (.inr (.inr (some 3000))), some (.inr (.inr (some 0))), some (.inr (.inr (some 79))), some (.inl l18_3)]) (st' := [.inl ((xs ((l18_3 + 1).toNat)).toInt), .inr (.inr (some 79))]) (w' := (SH, dt3320)) rfl rfl (s_iald (n := L) (f := fun j => (xs j).toInt) (am_scr hLL) ⟨by omega, by omega⟩) ?_
            refine go_to (k := 4) (pc' := 481) (L' := [some (.inr (.inr (some 3000))), some (.inr (.inr (some 0))), some (.inr (.inr (some 79))), some (.inl l18_3)]) (st' := [.inl (l18_3 + 2), .inr (.inr (some 3000)), .inl ((xs ((l18_3 + 1).toNat)).toInt), .inr (.inr (some 79))]) (w' := (SH, dt3320)) (fun _ => rfl) ?_
            have r3355 := i32_R (xs ((l18_3 + 2).toNat))
            refine go_smp (L' := [some (.inr (.inr (some 3000))), some (.inr (.inr (some 0))), some (.inr (.inr (some 79))), some (.inl l18_3)]) (st' := [.inl ((xs ((l18_3 + 2).toNat)).toInt), .inl ((xs ((l18_3 + 1).toNat)).toInt), .inr (.inr (some 79))]) (w' := (SH, dt3320)) rfl rfl (s_iald (n := L) (f := fun j => (xs j).toInt) (am_scr hLL) ⟨by omega, by omega⟩) ?_
            refine go_to (k := 4) (pc' := 486) (L' := [some (.inr (.inr (some 3000))), some (.inr (.inr (some 0))), some (.inr (.inr (some 79))), some (.inl l18_3)]) (st' := [.inl (l18_3 + 3), .inr (.inr (some 3000)), .inl ((xs ((l18_3 + 2).toNat)).toInt), .inl ((xs ((l18_3 + 1).toNat)).toInt), .inr (.inr (some 79))]) (w' := (SH, dt3320)) (fun _ => rfl) ?_
            have r3356 := i32_R (xs ((l18_3 + 3).toNat))
            refine go_smp (L' := [some (.inr (.inr (some 3000))), some (.inr (.inr (some 0))), some (.inr (.inr (some 79))), some (.inl l18_3)]) (st' := [.inl ((xs ((l18_3 + 3).toNat)).toInt), .inl ((xs ((l18_3 + 2).toNat)).toInt), .inl ((xs ((l18_3 + 1).toNat)).toInt), .inr (.inr (some 79))]) (w' := (SH, dt3320)) rfl rfl (s_iald (n := L) (f := fun j => (xs j).toInt) (am_scr hLL) ⟨by omega, by omega⟩) ?_
            refine go_call (Q' := _) rfl rfl rfl rfl rfl (sp_X6_here L xs sio (d + 33) dt3320 hI3321 hM3324  ((xs ((l18_3 + 1).toNat)).toInt) ⟨by omega, by omega⟩ ((xs ((l18_3 + 2).toNat)).toInt) ⟨by omega, by omega⟩ ((xs ((l18_3 + 3).toNat)).toInt) ⟨by omega, by omega⟩ ) ?_
            rintro _ _ ⟨dt3358, rfl, hI3359, hF3360, h3357⟩
            refine ⟨rfl, ?_⟩
            have hF3361 : Fr [0, 1, 2, 3, 4, 5, 6, 7, 8, 9, 10, 11, 12, 13, 14, 15, 16, 17, 18, 19, 20, 21, 22, 23, 24, 25, 26, 27, 28, 29, 30, 31, 32, 33, 34, 35, 36, 37, 38, 39, 40, 41, 42, 43, 44, 45, 46, 47, 48, 49, 50, 51, 52, 53, 54, 55, 56, 57, 58, 59, 60, 61, 62, 63, 64, 65, 66, 67, 68, 69, 70, 71, 72, 73, 74, 75, 76, 77, 78, 79, 80, 81, 82, 83, 84, 85, 86, 87, 88, 89, 90, 91, 92, 93, 94, 95, 96, 97, 98, 99, 100, 101, 102, 103, 104] dt dt3358 := Fr_tr hF3323 hF3360 (by decide)
            have hM3362 : MW (dt3358 80) := MW_fr hM3324 hF3360 (by decide)
            have w3363 : dt3358 1 0 = dt3320 1 0 := hF3360 1 (by decide) 0
            have w3364 : dt3358 7 3 = dt3320 7 3 := hF3360 7 (by decide) 3
            have w3365 : dt3358 10 3 = dt3320 10 3 := hF3360 10 (by decide) 3
            have w3366 : dt3358 12 3 = dt3320 12 3 := hF3360 12 (by decide) 3
            have w3367 : dt3358 14 3 = dt3320 14 3 := hF3360 14 (by decide) 3
            have w3368 : dt3358 16 3 = dt3320 16 3 := hF3360 16 (by decide) 3
            have w3369 : dt3358 18 0 = dt3320 18 0 := hF3360 18 (by decide) 0
            have w3370 : dt3358 24 3 = dt3320 24 3 := hF3360 24 (by decide) 3
            have w3371 : dt3358 27 3 = dt3320 27 3 := hF3360 27 (by decide) 3
            have w3372 : dt3358 29 3 = dt3320 29 3 := hF3360 29 (by decide) 3
            have w3373 : dt3358 31 3 = dt3320 31 3 := hF3360 31 (by decide) 3
            have w3374 : dt3358 33 3 = dt3320 33 3 := hF3360 33 (by decide) 3
            have w3375 : dt3358 0 2 = dt3320 0 2 := hF3360 0 (by decide) 2
            have w3376 : dt3358 35 1 = dt3320 35 1 := hF3360 35 (by decide) 1
            have w3377 : dt3358 80 0 = dt3320 80 0 := hF3360 80 (by decide) 0
            have w3378 : dt3358 80 1 = dt3320 80 1 := hF3360 80 (by decide) 1
            have w3379 : dt3358 80 2 = dt3320 80 2 := hF3360 80 (by decide) 2
            have w3380 : dt3358 80 3 = dt3320 80 3 := hF3360 80 (by decide) 3
            have w3381 : dt3358 80 4 = dt3320 80 4 := hF3360 80 (by decide) 4
            have w3382 : dt3358 80 5 = dt3320 80 5 := hF3360 80 (by decide) 5
            have w3383 : dt3358 81 0 = dt3320 81 0 := hF3360 81 (by decide) 0
            have w3384 : dt3358 81 1 = dt3320 81 1 := hF3360 81 (by decide) 1
            have w3385 : dt3358 81 2 = dt3320 81 2 := hF3360 81 (by decide) 2
            have w3386 : dt3358 81 3 = dt3320 81 3 := hF3360 81 (by decide) 3
            have w3387 : dt3358 81 4 = dt3320 81 4 := hF3360 81 (by decide) 4
            have w3388 : dt3358 81 5 = dt3320 81 5 := hF3360 81 (by decide) 5
            have w3389 : dt3358 79 2 = dt3320 79 2 := hF3360 79 (by decide) 2
            have w3390 : dt3358 79 12 = dt3320 79 12 := hF3360 79 (by decide) 12
            rcases h3357 with ⟨rfl, h3357⟩ | ⟨rfl, h3357⟩ | ⟨rfl, h3357⟩
            · skip
              have M23391 : MW (dt3358 81) := MW_frk M23353 hF3360 (by decide)
              refine go_to (k := 4) (pc' := 18) (L' := [some (.inr (.inr (some 3000))), some (.inr (.inr (some 0))), some (.inr (.inr (some 79))), some (.inl (l18_3 + 6))]) (st' := []) (w' := (SH, dt3358)) (fun _ => rfl) ?_
              exact GO.le (ih_loop2795 (l18_3 + 6) dt3358 hI3359 hF3361 hM3362 (by omega) (by exact M23391) (by omega) (by omega) (by omega) (by omega) (by omega) (by omega) (by omega) (by omega) (by omega) (by omega) (by omega) (by omega) (by omega) (by omega) (by omega)) ⟨.inl rfl, .inl rfl, .inl rfl, .inl rfl, trivial⟩
            · skip
              have M23392 : MW (dt3358 81) := MW_frk M23353 hF3360 (by decide)
              refine go_to (k := 4) (pc' := 18) (L' := [some (.inr (.inr (some 3000))), some (.inr (.inr (some 0))), some (.inr (.inr (some 79))), some (.inl (l18_3 + 6))]) (st' := []) (w' := (SH, dt3358)) (fun _ => rfl) ?_
              exact GO.le (ih_loop2795 (l18_3 + 6) dt3358 hI3359 hF3361 hM3362 (by omega) (by exact M23392) (by omega) (by omega) (by omega) (by omega) (by omega) (by omega) (by omega) (by omega) (by omega) (by omega) (by omega) (by omega) (by omega) (by omega) (by omega)) ⟨.inl rfl, .inl rfl, .inl rfl, .inl rfl, trivial⟩
            · skip
              have M23393 : MW (dt3358 81) := MW_frk M23353 hF3360 (by decide)
              refine go_to (k := 4) (pc' := 18) (L' := [some (.inr (.inr (some 3000))), some (.inr (.inr (some 0))), some (.inr (.inr (some 79))), some (.inl (l18_3 + 6))]) (st' := []) (w' := (SH, dt3358)) (fun _ => rfl) ?_
              exact GO.le (ih_loop2795 (l18_3 + 6) dt3358 hI3359 hF3361 hM3362 (by omega) (by exact M23393) (by omega) (by omega) (by omega) (by omega) (by omega) (by omega) (by omega) (by omega) (by omega) (by omega) (by omega) (by omega) (by omega) (by omega) (by omega)) ⟨.inl rfl, .inl rfl, .inl rfl, .inl rfl, trivial⟩
          · refine go_swi (v := 8) (p1 := 494) (lo := 0) (hi := 32) rfl c2802 (by decide) rfl ?_
            refine go_to (k := 5) (pc' := 499) (L' := [some (.inr (.inr (some 3000))), some (.inr (.inr (some 0))), some (.inr (.inr (some 79))), some (.inl l18_3)]) (st' := [.inl (l18_3 + 1), .inr (.inr (some 3000)), .inr (.inr (some 0))]) (w' := (SH, dt2776)) (fun _ => rfl) ?_
            have r3394 := i32_R (xs ((l18_3 + 1).toNat))
            refine go_smp (L' := [some (.inr (.inr (some 3000))), some (.inr (.inr (some 0))), some (.inr (.inr (some 79))), some (.inl l18_3)]) (st' := [.inl ((xs ((l18_3 + 1).toNat)).toInt), .inr (.inr (some 0))]) (w' := (SH, dt2776)) rfl rfl (s_iald (n := L) (f := fun j => (xs j).toInt) (am_scr hLL) ⟨by omega, by omega⟩) ?_
            refine go_to (k := 4) (pc' := 504) (L' := [some (.inr (.inr (some 3000))), some (.inr (.inr (some 0))), some (.inr (.inr (some 79))), some (.inl l18_3)]) (st' := [.inl (l18_3 + 2), .inr (.inr (some 3000)), .inl ((xs ((l18_3 + 1).toNat)).toInt), .inr (.inr (some 0))]) (w' := (SH, dt2776)) (fun _ => rfl) ?_
            have r3395 := i32_R (xs ((l18_3 + 2).toNat))
            refine go_smp (L' := [some (.inr (.inr (some 3000))), some (.inr (.inr (some 0))), some (.inr (.inr (some 79))), some (.inl l18_3)]) (st' := [.inl ((xs ((l18_3 + 2).toNat)).toInt), .inl ((xs ((l18_3 + 1).toNat)).toInt), .inr (.inr (some 0))]) (w' := (SH, dt2776)) rfl rfl (s_iald (n := L) (f := fun j => (xs j).toInt) (am_scr hLL) ⟨by omega, by omega⟩) ?_
            refine go_to (k := 4) (pc' := 509) (L' := [some (.inr (.inr (some 3000))), some (.inr (.inr (some 0))), some (.inr (.inr (some 79))), some (.inl l18_3)]) (st' := [.inl (l18_3 + 3), .inr (.inr (some 3000)), .inl ((xs ((l18_3 + 2).toNat)).toInt), .inl ((xs ((l18_3 + 1).toNat)).toInt), .inr (.inr (some 0))]) (w' := (SH, dt2776)) (fun _ => rfl) ?_
            have r3396 := i32_R (xs ((l18_3 + 3).toNat))
            refine go_smp (L' := [some (.inr (.inr (some 3000))), some (.inr (.inr (some 0))), some (.inr (.inr (some 79))), some (.inl l18_3)]) (st' := [.inl ((xs ((l18_3 + 3).toNat)).toInt), .inl ((xs ((l18_3 + 2).toNat)).toInt), .inl ((xs ((l18_3 + 1).toNat)).toInt), .inr (.inr (some 0))]) (w' := (SH, dt2776)) rfl rfl (s_iald (n := L) (f := fun j => (xs j).toInt) (am_scr hLL) ⟨by omega, by omega⟩) ?_
            refine go_to (k := 4) (pc' := 514) (L' := [some (.inr (.inr (some 3000))), some (.inr (.inr (some 0))), some (.inr (.inr (some 79))), some (.inl l18_3)]) (st' := [.inl (l18_3 + 4), .inr (.inr (some 3000)), .inl ((xs ((l18_3 + 3).toNat)).toInt), .inl ((xs ((l18_3 + 2).toNat)).toInt), .inl ((xs ((l18_3 + 1).toNat)).toInt), .inr (.inr (some 0))]) (w' := (SH, dt2776)) (fun _ => rfl) ?_
            have r3397 := i32_R (xs ((l18_3 + 4).toNat))
            refine go_smp (L' := [some (.inr (.inr (some 3000))), some (.inr (.inr (some 0))), some (.inr (.inr (some 79))), some (.inl l18_3)]) (st' := [.inl ((xs ((l18_3 + 4).toNat)).toInt), .inl ((xs ((l18_3 + 3).toNat)).toInt), .inl ((xs ((l18_3 + 2).toNat)).toInt), .inl ((xs ((l18_3 + 1).toNat)).toInt), .inr (.inr (some 0))]) (w' := (SH, dt2776)) rfl rfl (s_iald (n := L) (f := fun j => (xs j).toInt) (am_scr hLL) ⟨by omega, by omega⟩) ?_
            refine go_to (k := 4) (pc' := 519) (L' := [some (.inr (.inr (some 3000))), some (.inr (.inr (some 0))), some (.inr (.inr (some 79))), some (.inl l18_3)]) (st' := [.inl (l18_3 + 5), .inr (.inr (some 3000)), .inl ((xs ((l18_3 + 4).toNat)).toInt), .inl ((xs ((l18_3 + 3).toNat)).toInt), .inl ((xs ((l18_3 + 2).toNat)).toInt), .inl ((xs ((l18_3 + 1).toNat)).toInt), .inr (.inr (some 0))]) (w' := (SH, dt2776)) (fun _ => rfl) ?_
            have r3398 := i32_R (xs ((l18_3 + 5).toNat))
            refine go_smp (L' := [some (.inr (.inr (some 3000))), some (.inr (.inr (some 0))), some (.inr (.inr (some 79))), some (.inl l18_3)]) (st' := [.inl ((xs ((l18_3 + 5).toNat)).toInt), .inl ((xs ((l18_3 + 4).toNat)).toInt), .inl ((xs ((l18_3 + 3).toNat)).toInt), .inl ((xs ((l18_3 + 2).toNat)).toInt), .inl ((xs ((l18_3 + 1).toNat)).toInt), .inr (.inr (some 0))]) (w' := (SH, dt2776)) rfl rfl (s_iald (n := L) (f := fun j => (xs j).toInt) (am_scr hLL) ⟨by omega, by omega⟩) ?_
            refine go_call (Q' := _) rfl rfl rfl rfl rfl (sp_X5_question L xs sio (d + 33) dt2776 hI2777  ((xs ((l18_3 + 1).toNat)).toInt) ⟨by omega, by omega⟩ ((xs ((l18_3 + 2).toNat)).toInt) ⟨by omega, by omega⟩ ((xs ((l18_3 + 3).toNat)).toInt) ⟨by omega, by omega⟩ ((xs ((l18_3 + 4).toNat)).toInt) ⟨by omega, by omega⟩ ((xs ((l18_3 + 5).toNat)).toInt) ⟨by omega, by omega⟩ ) ?_
            rintro _ _ ⟨dt3400, rfl, hI3401, hF3402, h3399⟩
            refine ⟨rfl, ?_⟩
            have hF3403 : Fr [0, 1, 2, 3, 4, 5, 6, 7, 8, 9, 10, 11, 12, 13, 14, 15, 16, 17, 18, 19, 20, 21, 22, 23, 24, 25, 26, 27, 28, 29, 30, 31, 32, 33, 34, 35, 36, 37, 38, 39, 40, 41, 42, 43, 44, 45, 46, 47, 48, 49, 50, 51, 52, 53, 54, 55, 56, 57, 58, 59, 60, 61, 62, 63, 64, 65, 66, 67, 68, 69, 70, 71, 72, 73, 74, 75, 76, 77, 78, 79, 80, 81, 82, 83, 84, 85, 86, 87, 88, 89, 90, 91, 92, 93, 94, 95, 96, 97, 98, 99, 100, 101, 102, 103, 104] dt dt3400 := Fr_tr hF2778 hF3402 (by decide)
            have hM3404 : MW (dt3400 80) := MW_fr hM_dt2776 hF3402 (by decide)
            have w3405 : dt3400 1 0 = dt2776 1 0 := hF3402 1 (by decide) 0
            have w3406 : dt3400 10 3 = dt2776 10 3 := hF3402 10 (by decide) 3
            have w3407 : dt3400 12 3 = dt2776 12 3 := hF3402 12 (by decide) 3
            have w3408 : dt3400 14 3 = dt2776 14 3 := hF3402 14 (by decide) 3
            have w3409 : dt3400 16 3 = dt2776 16 3 := hF3402 16 (by decide) 3
            have w3410 : dt3400 18 0 = dt2776 18 0 := hF3402 18 (by decide) 0
            have w3411 : dt3400 24 3 = dt2776 24 3 := hF3402 24 (by decide) 3
            have w3412 : dt3400 27 3 = dt2776 27 3 := hF3402 27 (by decide) 3
            have w3413 : dt3400 29 3 = dt2776 29 3 := hF3402 29 (by decide) 3
            have w3414 : dt3400 31 3 = dt2776 31 3 := hF3402 31 (by decide) 3
            have w3415 : dt3400 33 3 = dt2776 33 3 := hF3402 33 (by decide) 3
            have w3416 : dt3400 0 2 = dt2776 0 2 := hF3402 0 (by decide) 2
            have w3417 : dt3400 35 1 = dt2776 35 1 := hF3402 35 (by decide) 1
            have w3418 : dt3400 80 0 = dt2776 80 0 := hF3402 80 (by decide) 0
            have w3419 : dt3400 80 1 = dt2776 80 1 := hF3402 80 (by decide) 1
            have w3420 : dt3400 80 2 = dt2776 80 2 := hF3402 80 (by decide) 2
            have w3421 : dt3400 80 3 = dt2776 80 3 := hF3402 80 (by decide) 3
            have w3422 : dt3400 80 4 = dt2776 80 4 := hF3402 80 (by decide) 4
            have w3423 : dt3400 80 5 = dt2776 80 5 := hF3402 80 (by decide) 5
            have w3424 : dt3400 81 0 = dt2776 81 0 := hF3402 81 (by decide) 0
            have w3425 : dt3400 81 1 = dt2776 81 1 := hF3402 81 (by decide) 1
            have w3426 : dt3400 81 2 = dt2776 81 2 := hF3402 81 (by decide) 2
            have w3427 : dt3400 81 3 = dt2776 81 3 := hF3402 81 (by decide) 3
            have w3428 : dt3400 81 4 = dt2776 81 4 := hF3402 81 (by decide) 4
            have w3429 : dt3400 81 5 = dt2776 81 5 := hF3402 81 (by decide) 5
            have w3430 : dt3400 79 2 = dt2776 79 2 := hF3402 79 (by decide) 2
            have w3431 : dt3400 79 12 = dt2776 79 12 := hF3402 79 (by decide) 12
            rcases h3399 with ⟨rfl, h3399⟩ | ⟨v_h3399, rfl, h3399r, h3399⟩
            · skip
              obtain ⟨h3399_0, h3399_1⟩ := h3399
              have M23432 : MW (dt3400 81) := MW_frk hM2L hF3402 (by decide)
              refine go_to (k := 6) (pc' := 529) (L' := [some (.inr (.inr (some 3000))), some (.inr (.inr (some 0))), some (.inr (.inr (some 79))), some (.inl l18_3)]) (st' := [.inl (l18_3 + 1), .inr (.inr (some 3000)), .inr (.inr (some 79))]) (w' := (SH, dt3400)) (fun _ => rfl) ?_
              have r3433 := i32_R (xs ((l18_3 + 1).toNat))
              refine go_smp (L' := [some (.inr (.inr (some 3000))), some (.inr (.inr (some 0))), some (.inr (.inr (some 79))), some (.inl l18_3)]) (st' := [.inl ((xs ((l18_3 + 1).toNat)).toInt), .inr (.inr (some 79))]) (w' := (SH, dt3400)) rfl rfl (s_iald (n := L) (f := fun j => (xs j).toInt) (am_scr hLL) ⟨by omega, by omega⟩) ?_
              refine go_to (k := 4) (pc' := 534) (L' := [some (.inr (.inr (some 3000))), some (.inr (.inr (some 0))), some (.inr (.inr (some 79))), some (.inl l18_3)]) (st' := [.inl (l18_3 + 2), .inr (.inr (some 3000)), .inl ((xs ((l18_3 + 1).toNat)).toInt), .inr (.inr (some 79))]) (w' := (SH, dt3400)) (fun _ => rfl) ?_
              have r3434 := i32_R (xs ((l18_3 + 2).toNat))
              refine go_smp (L' := [some (.inr (.inr (some 3000))), some (.inr (.inr (some 0))), some (.inr (.inr (some 79))), some (.inl l18_3)]) (st' := [.inl ((xs ((l18_3 + 2).toNat)).toInt), .inl ((xs ((l18_3 + 1).toNat)).toInt), .inr (.inr (some 79))]) (w' := (SH, dt3400)) rfl rfl (s_iald (n := L) (f := fun j => (xs j).toInt) (am_scr hLL) ⟨by omega, by omega⟩) ?_
              refine go_to (k := 4) (pc' := 539) (L' := [some (.inr (.inr (some 3000))), some (.inr (.inr (some 0))), some (.inr (.inr (some 79))), some (.inl l18_3)]) (st' := [.inl (l18_3 + 3), .inr (.inr (some 3000)), .inl ((xs ((l18_3 + 2).toNat)).toInt), .inl ((xs ((l18_3 + 1).toNat)).toInt), .inr (.inr (some 79))]) (w' := (SH, dt3400)) (fun _ => rfl) ?_
              have r3435 := i32_R (xs ((l18_3 + 3).toNat))
              refine go_smp (L' := [some (.inr (.inr (some 3000))), some (.inr (.inr (some 0))), some (.inr (.inr (some 79))), some (.inl l18_3)]) (st' := [.inl ((xs ((l18_3 + 3).toNat)).toInt), .inl ((xs ((l18_3 + 2).toNat)).toInt), .inl ((xs ((l18_3 + 1).toNat)).toInt), .inr (.inr (some 79))]) (w' := (SH, dt3400)) rfl rfl (s_iald (n := L) (f := fun j => (xs j).toInt) (am_scr hLL) ⟨by omega, by omega⟩) ?_
              refine go_to (k := 4) (pc' := 544) (L' := [some (.inr (.inr (some 3000))), some (.inr (.inr (some 0))), some (.inr (.inr (some 79))), some (.inl l18_3)]) (st' := [.inl (l18_3 + 4), .inr (.inr (some 3000)), .inl ((xs ((l18_3 + 3).toNat)).toInt), .inl ((xs ((l18_3 + 2).toNat)).toInt), .inl ((xs ((l18_3 + 1).toNat)).toInt), .inr (.inr (some 79))]) (w' := (SH, dt3400)) (fun _ => rfl) ?_
              have r3436 := i32_R (xs ((l18_3 + 4).toNat))
              refine go_smp (L' := [some (.inr (.inr (some 3000))), some (.inr (.inr (some 0))), some (.inr (.inr (some 79))), some (.inl l18_3)]) (st' := [.inl ((xs ((l18_3 + 4).toNat)).toInt), .inl ((xs ((l18_3 + 3).toNat)).toInt), .inl ((xs ((l18_3 + 2).toNat)).toInt), .inl ((xs ((l18_3 + 1).toNat)).toInt), .inr (.inr (some 79))]) (w' := (SH, dt3400)) rfl rfl (s_iald (n := L) (f := fun j => (xs j).toInt) (am_scr hLL) ⟨by omega, by omega⟩) ?_
              refine go_to (k := 4) (pc' := 549) (L' := [some (.inr (.inr (some 3000))), some (.inr (.inr (some 0))), some (.inr (.inr (some 79))), some (.inl l18_3)]) (st' := [.inl (l18_3 + 5), .inr (.inr (some 3000)), .inl ((xs ((l18_3 + 4).toNat)).toInt), .inl ((xs ((l18_3 + 3).toNat)).toInt), .inl ((xs ((l18_3 + 2).toNat)).toInt), .inl ((xs ((l18_3 + 1).toNat)).toInt), .inr (.inr (some 79))]) (w' := (SH, dt3400)) (fun _ => rfl) ?_
              have r3437 := i32_R (xs ((l18_3 + 5).toNat))
              refine go_smp (L' := [some (.inr (.inr (some 3000))), some (.inr (.inr (some 0))), some (.inr (.inr (some 79))), some (.inl l18_3)]) (st' := [.inl ((xs ((l18_3 + 5).toNat)).toInt), .inl ((xs ((l18_3 + 4).toNat)).toInt), .inl ((xs ((l18_3 + 3).toNat)).toInt), .inl ((xs ((l18_3 + 2).toNat)).toInt), .inl ((xs ((l18_3 + 1).toNat)).toInt), .inr (.inr (some 79))]) (w' := (SH, dt3400)) rfl rfl (s_iald (n := L) (f := fun j => (xs j).toInt) (am_scr hLL) ⟨by omega, by omega⟩) ?_
              refine go_call (Q' := _) rfl rfl rfl rfl rfl (sp_X6_question L xs sio (d + 36) dt3400 hI3401 hM3404  ((xs ((l18_3 + 1).toNat)).toInt) ⟨by omega, by omega⟩ ((xs ((l18_3 + 2).toNat)).toInt) ⟨by omega, by omega⟩ ((xs ((l18_3 + 3).toNat)).toInt) ⟨by omega, by omega⟩ ((xs ((l18_3 + 4).toNat)).toInt) ⟨by omega, by omega⟩ ((xs ((l18_3 + 5).toNat)).toInt) ⟨by omega, by omega⟩ ) ?_
              rintro _ _ ⟨dt3439, rfl, hI3440, hF3441, h3438⟩
              refine ⟨rfl, ?_⟩
              have hF3442 : Fr [0, 1, 2, 3, 4, 5, 6, 7, 8, 9, 10, 11, 12, 13, 14, 15, 16, 17, 18, 19, 20, 21, 22, 23, 24, 25, 26, 27, 28, 29, 30, 31, 32, 33, 34, 35, 36, 37, 38, 39, 40, 41, 42, 43, 44, 45, 46, 47, 48, 49, 50, 51, 52, 53, 54, 55, 56, 57, 58, 59, 60, 61, 62, 63, 64, 65, 66, 67, 68, 69, 70, 71, 72, 73, 74, 75, 76, 77, 78, 79, 80, 81, 82, 83, 84, 85, 86, 87, 88, 89, 90, 91, 92, 93, 94, 95, 96, 97, 98, 99, 100, 101, 102, 103, 104] dt dt3439 := Fr_tr hF3403 hF3441 (by decide)
              have w3443 : dt3439 1 0 = dt3400 1 0 := hF3441 1 (by decide) 0
              have w3444 : dt3439 7 3 = dt3400 7 3 := hF3441 7 (by decide) 3
              have w3445 : dt3439 10 3 = dt3400 10 3 := hF3441 10 (by decide) 3
              have w3446 : dt3439 12 3 = dt3400 12 3 := hF3441 12 (by decide) 3
              have w3447 : dt3439 14 3 = dt3400 14 3 := hF3441 14 (by decide) 3
              have w3448 : dt3439 16 3 = dt3400 16 3 := hF3441 16 (by decide) 3
              have w3449 : dt3439 18 0 = dt3400 18 0 := hF3441 18 (by decide) 0
              have w3450 : dt3439 24 3 = dt3400 24 3 := hF3441 24 (by decide) 3
              have w3451 : dt3439 27 3 = dt3400 27 3 := hF3441 27 (by decide) 3
              have w3452 : dt3439 29 3 = dt3400 29 3 := hF3441 29 (by decide) 3
              have w3453 : dt3439 31 3 = dt3400 31 3 := hF3441 31 (by decide) 3
              have w3454 : dt3439 33 3 = dt3400 33 3 := hF3441 33 (by decide) 3
              have w3455 : dt3439 0 2 = dt3400 0 2 := hF3441 0 (by decide) 2
              have w3456 : dt3439 35 1 = dt3400 35 1 := hF3441 35 (by decide) 1
              have w3457 : dt3439 81 0 = dt3400 81 0 := hF3441 81 (by decide) 0
              have w3458 : dt3439 81 1 = dt3400 81 1 := hF3441 81 (by decide) 1
              have w3459 : dt3439 81 2 = dt3400 81 2 := hF3441 81 (by decide) 2
              have w3460 : dt3439 81 3 = dt3400 81 3 := hF3441 81 (by decide) 3
              have w3461 : dt3439 81 4 = dt3400 81 4 := hF3441 81 (by decide) 4
              have w3462 : dt3439 81 5 = dt3400 81 5 := hF3441 81 (by decide) 5
              have w3463 : dt3439 79 2 = dt3400 79 2 := hF3441 79 (by decide) 2
              have w3464 : dt3439 79 12 = dt3400 79 12 := hF3441 79 (by decide) 12
              rcases h3438 with ⟨rfl, h3438⟩ | ⟨v_h3438, rfl, h3438r, h3438⟩
              · skip
                have hM3465 : MW (dt3439 80) := h3438.2.1
                obtain ⟨h3438_0, h3438_1, h3438_2, h3438_3, h3438_4, h3438_5, h3438_6, h3438_7⟩ := h3438
                have M23466 : MW (dt3439 81) := MW_frk M23432 hF3441 (by decide)
                refine go_to (k := 4) (pc' := 18) (L' := [some (.inr (.inr (some 3000))), some (.inr (.inr (some 0))), some (.inr (.inr (some 79))), some (.inl (l18_3 + 6))]) (st' := []) (w' := (SH, dt3439)) (fun _ => rfl) ?_
                exact GO.le (ih_loop2795 (l18_3 + 6) dt3439 hI3440 hF3442 hM3465 (by omega) (by exact M23466) (by omega) (by omega) (by omega) (by omega) (by omega) (by omega) (by omega) (by omega) (by omega) (by omega) (by omega) (by omega) (by omega) (by omega) (by omega)) ⟨.inl rfl, .inl rfl, .inl rfl, .inl rfl, trivial⟩
              · skip
                have hM3467 : MW (dt3439 80) := h3438.2.2.1
                obtain ⟨h3438_0, h3438_1, h3438_2, h3438_3, h3438_4, h3438_5, h3438_6, h3438_7, h3438_8⟩ := h3438
                have M23468 : MW (dt3439 81) := MW_frk M23432 hF3441 (by decide)
                refine go_to (k := 4) (pc' := 18) (L' := [some (.inr (.inr (some 3000))), some (.inr (.inr (some 0))), some (.inr (.inr (some 79))), some (.inl (l18_3 + 6))]) (st' := []) (w' := (SH, dt3439)) (fun _ => rfl) ?_
                exact GO.le (ih_loop2795 (l18_3 + 6) dt3439 hI3440 hF3442 hM3467 (by omega) (by exact M23468) (by omega) (by omega) (by omega) (by omega) (by omega) (by omega) (by omega) (by omega) (by omega) (by omega) (by omega) (by omega) (by omega) (by omega) (by omega)) ⟨.inl rfl, .inl rfl, .inl rfl, .inl rfl, trivial⟩
            · skip
              obtain ⟨h3399_0, h3399_1, h3399_2⟩ := h3399
              have M23469 : MW (dt3400 81) := MW_frk hM2L hF3402 (by decide)
              refine go_to (k := 6) (pc' := 529) (L' := [some (.inr (.inr (some 3000))), some (.inr (.inr (some 0))), some (.inr (.inr (some 79))), some (.inl l18_3)]) (st' := [.inl (l18_3 + 1), .inr (.inr (some 3000)), .inr (.inr (some 79))]) (w' := (SH, dt3400)) (fun _ => rfl) ?_
              have r3470 := i32_R (xs ((l18_3 + 1).toNat))
              refine go_smp (L' := [some (.inr (.inr (some 3000))), some (.inr (.inr (some 0))), some (.inr (.inr (some 79))), some (.inl l18_3)]) (st' := [.inl ((xs ((l18_3 + 1).toNat)).toInt), .inr (.inr (some 79))]) (w' := (SH, dt3400)) rfl rfl (s_iald (n := L) (f := fun j => (xs j).toInt) (am_scr hLL) ⟨by omega, by omega⟩) ?_
              refine go_to (k := 4) (pc' := 534) (L' := [some (.inr (.inr (some 3000))), some (.inr (.inr (some 0))), some (.inr (.inr (some 79))), some (.inl l18_3)]) (st' := [.inl (l18_3 + 2), .inr (.inr (some 3000)), .inl ((xs ((l18_3 + 1).toNat)).toInt), .inr (.inr (some 79))]) (w' := (SH, dt3400)) (fun _ => rfl) ?_
              have r3471 := i32_R (xs ((l18_3 + 2).toNat))
              refine go_smp (L' := [some (.inr (.inr (some 3000))), some (.inr (.inr (some 0))), some (.inr (.inr (some 79))), some (.inl l18_3)]) (st' := [.inl ((xs ((l18_3 + 2).toNat)).toInt), .inl ((xs ((l18_3 + 1).toNat)).toInt), .inr (.inr (some 79))]) (w' := (SH, dt3400)) rfl rfl (s_iald (n := L) (f := fun j => (xs j).toInt) (am_scr hLL) ⟨by omega, by omega⟩) ?_
              refine go_to (k := 4) (pc' := 539) (L' := [some (.inr (.inr (some 3000))), some (.inr (.inr (some 0))), some (.inr (.inr (some 79))), some (.inl l18_3)]) (st' := [.inl (l18_3 + 3), .inr (.inr (some 3000)), .inl ((xs ((l18_3 + 2).toNat)).toInt), .inl ((xs ((l18_3 + 1).toNat)).toInt), .inr (.inr (some 79))]) (w' := (SH, dt3400)) (fun _ => rfl) ?_
              have r3472 := i32_R (xs ((l18_3 + 3).toNat))
              refine go_smp (L' := [some (.inr (.inr (some 3000))), some (.inr (.inr (some 0))), some (.inr (.inr (some 79))), some (.inl l18_3)]) (st' := [.inl ((xs ((l18_3 + 3).toNat)).toInt), .inl ((xs ((l18_3 + 2).toNat)).toInt), .inl ((xs ((l18_3 + 1).toNat)).toInt), .inr (.inr (some 79))]) (w' := (SH, dt3400)) rfl rfl (s_iald (n := L) (f := fun j => (xs j).toInt) (am_scr hLL) ⟨by omega, by omega⟩) ?_
              refine go_to (k := 4) (pc' := 544) (L' := [some (.inr (.inr (some 3000))), some (.inr (.inr (some 0))), some (.inr (.inr (some 79))), some (.inl l18_3)]) (st' := [.inl (l18_3 + 4), .inr (.inr (some 3000)), .inl ((xs ((l18_3 + 3).toNat)).toInt), .inl ((xs ((l18_3 + 2).toNat)).toInt), .inl ((xs ((l18_3 + 1).toNat)).toInt), .inr (.inr (some 79))]) (w' := (SH, dt3400)) (fun _ => rfl) ?_
              have r3473 := i32_R (xs ((l18_3 + 4).toNat))
              refine go_smp (L' := [some (.inr (.inr (some 3000))), some (.inr (.inr (some 0))), some (.inr (.inr (some 79))), some (.inl l18_3)]) (st' := [.inl ((xs ((l18_3 + 4).toNat)).toInt), .inl ((xs ((l18_3 + 3).toNat)).toInt), .inl ((xs ((l18_3 + 2).toNat)).toInt), .inl ((xs ((l18_3 + 1).toNat)).toInt), .inr (.inr (some 79))]) (w' := (SH, dt3400)) rfl rfl (s_iald (n := L) (f := fun j => (xs j).toInt) (am_scr hLL) ⟨by omega, by omega⟩) ?_
              refine go_to (k := 4) (pc' := 549) (L' := [some (.inr (.inr (some 3000))), some (.inr (.inr (some 0))), some (.inr (.inr (some 79))), some (.inl l18_3)]) (st' := [.inl (l18_3 + 5), .inr (.inr (some 3000)), .inl ((xs ((l18_3 + 4).toNat)).toInt), .inl ((xs ((l18_3 + 3).toNat)).toInt), .inl ((xs ((l18_3 + 2).toNat)).toInt), .inl ((xs ((l18_3 + 1).toNat)).toInt), .inr (.inr (some 79))]) (w' := (SH, dt3400)) (fun _ => rfl) ?_
              have r3474 := i32_R (xs ((l18_3 + 5).toNat))
              refine go_smp (L' := [some (.inr (.inr (some 3000))), some (.inr (.inr (some 0))), some (.inr (.inr (some 79))), some (.inl l18_3)]) (st' := [.inl ((xs ((l18_3 + 5).toNat)).toInt), .inl ((xs ((l18_3 + 4).toNat)).toInt), .inl ((xs ((l18_3 + 3).toNat)).toInt), .inl ((xs ((l18_3 + 2).toNat)).toInt), .inl ((xs ((l18_3 + 1).toNat)).toInt), .inr (.inr (some 79))]) (w' := (SH, dt3400)) rfl rfl (s_iald (n := L) (f := fun j => (xs j).toInt) (am_scr hLL) ⟨by omega, by omega⟩) ?_
              refine go_call (Q' := _) rfl rfl rfl rfl rfl (sp_X6_question L xs sio (d + 36) dt3400 hI3401 hM3404  ((xs ((l18_3 + 1).toNat)).toInt) ⟨by omega, by omega⟩ ((xs ((l18_3 + 2).toNat)).toInt) ⟨by omega, by omega⟩ ((xs ((l18_3 + 3).toNat)).toInt) ⟨by omega, by omega⟩ ((xs ((l18_3 + 4).toNat)).toInt) ⟨by omega, by omega⟩ ((xs ((l18_3 + 5).toNat)).toInt) ⟨by omega, by omega⟩ ) ?_
              rintro _ _ ⟨dt3476, rfl, hI3477, hF3478, h3475⟩
              refine ⟨rfl, ?_⟩
              have hF3479 : Fr [0, 1, 2, 3, 4, 5, 6, 7, 8, 9, 10, 11, 12, 13, 14, 15, 16, 17, 18, 19, 20, 21, 22, 23, 24, 25, 26, 27, 28, 29, 30, 31, 32, 33, 34, 35, 36, 37, 38, 39, 40, 41, 42, 43, 44, 45, 46, 47, 48, 49, 50, 51, 52, 53, 54, 55, 56, 57, 58, 59, 60, 61, 62, 63, 64, 65, 66, 67, 68, 69, 70, 71, 72, 73, 74, 75, 76, 77, 78, 79, 80, 81, 82, 83, 84, 85, 86, 87, 88, 89, 90, 91, 92, 93, 94, 95, 96, 97, 98, 99, 100, 101, 102, 103, 104] dt dt3476 := Fr_tr hF3403 hF3478 (by decide)
              have w3480 : dt3476 1 0 = dt3400 1 0 := hF3478 1 (by decide) 0
              have w3481 : dt3476 7 3 = dt3400 7 3 := hF3478 7 (by decide) 3
              have w3482 : dt3476 10 3 = dt3400 10 3 := hF3478 10 (by decide) 3
              have w3483 : dt3476 12 3 = dt3400 12 3 := hF3478 12 (by decide) 3
              have w3484 : dt3476 14 3 = dt3400 14 3 := hF3478 14 (by decide) 3
              have w3485 : dt3476 16 3 = dt3400 16 3 := hF3478 16 (by decide) 3
              have w3486 : dt3476 18 0 = dt3400 18 0 := hF3478 18 (by decide) 0
              have w3487 : dt3476 24 3 = dt3400 24 3 := hF3478 24 (by decide) 3
              have w3488 : dt3476 27 3 = dt3400 27 3 := hF3478 27 (by decide) 3
              have w3489 : dt3476 29 3 = dt3400 29 3 := hF3478 29 (by decide) 3
              have w3490 : dt3476 31 3 = dt3400 31 3 := hF3478 31 (by decide) 3
              have w3491 : dt3476 33 3 = dt3400 33 3 := hF3478 33 (by decide) 3
              have w3492 : dt3476 0 2 = dt3400 0 2 := hF3478 0 (by decide) 2
              have w3493 : dt3476 35 1 = dt3400 35 1 := hF3478 35 (by decide) 1
              have w3494 : dt3476 81 0 = dt3400 81 0 := hF3478 81 (by decide) 0
              have w3495 : dt3476 81 1 = dt3400 81 1 := hF3478 81 (by decide) 1
              have w3496 : dt3476 81 2 = dt3400 81 2 := hF3478 81 (by decide) 2
              have w3497 : dt3476 81 3 = dt3400 81 3 := hF3478 81 (by decide) 3
              have w3498 : dt3476 81 4 = dt3400 81 4 := hF3478 81 (by decide) 4
              have w3499 : dt3476 81 5 = dt3400 81 5 := hF3478 81 (by decide) 5
              have w3500 : dt3476 79 2 = dt3400 79 2 := hF3478 79 (by decide) 2
              have w3501 : dt3476 79 12 = dt3400 79 12 := hF3478 79 (by decide) 12
              rcases h3475 with ⟨rfl, h3475⟩ | ⟨v_h3475, rfl, h3475r, h3475⟩
              · skip
                have hM3502 : MW (dt3476 80) := h3475.2.1
                obtain ⟨h3475_0, h3475_1, h3475_2, h3475_3, h3475_4, h3475_5, h3475_6, h3475_7⟩ := h3475
                have M23503 : MW (dt3476 81) := MW_frk M23469 hF3478 (by decide)
                refine go_to (k := 4) (pc' := 18) (L' := [some (.inr (.inr (some 3000))), some (.inr (.inr (some 0))), some (.inr (.inr (some 79))), some (.inl (l18_3 + 6))]) (st' := []) (w' := (SH, dt3476)) (fun _ => rfl) ?_
                exact GO.le (ih_loop2795 (l18_3 + 6) dt3476 hI3477 hF3479 hM3502 (by omega) (by exact M23503) (by omega) (by omega) (by omega) (by omega) (by omega) (by omega) (by omega) (by omega) (by omega) (by omega) (by omega) (by omega) (by omega) (by omega) (by omega)) ⟨.inl rfl, .inl rfl, .inl rfl, .inl rfl, trivial⟩
              · skip
                have hM3504 : MW (dt3476 80) := h3475.2.2.1
                obtain ⟨h3475_0, h3475_1, h3475_2, h3475_3, h3475_4, h3475_5, h3475_6, h3475_7, h3475_8⟩ := h3475
                have M23505 : MW (dt3476 81) := MW_frk M23469 hF3478 (by decide)
                refine go_to (k := 4) (pc' := 18) (L' := [some (.inr (.inr (some 3000))), some (.inr (.inr (some 0))), some (.inr (.inr (some 79))), some (.inl (l18_3 + 6))]) (st' := []) (w' := (SH, dt3476)) (fun _ => rfl) ?_
                exact GO.le (ih_loop2795 (l18_3 + 6) dt3476 hI3477 hF3479 hM3504 (by omega) (by exact M23505) (by omega) (by omega) (by omega) (by omega) (by omega) (by omega) (by omega) (by omega) (by omega) (by omega) (by omega) (by omega) (by omega) (by omega) (by omega)) ⟨.inl rfl, .inl rfl, .inl rfl, .inl rfl, trivial⟩
          · refine go_swi (v := 9) (p1 := 557) (lo := 0) (hi := 32) rfl c2802 (by decide) rfl ?_
            refine go_to (k := 5) (pc' := 562) (L' := [some (.inr (.inr (some 3000))), some (.inr (.inr (some 0))), some (.inr (.inr (some 79))), some (.inl l18_3)]) (st' := [.inl (l18_3 + 1), .inr (.inr (some 3000)), .inr (.inr (some 0))]) (w' := (SH, dt2776)) (fun _ => rfl) ?_
            have r3506 := i32_R (xs ((l18_3 + 1).toNat))
            refine go_smp (L' := [some (.inr (.inr (some 3000))), some (.inr (.inr (some 0))), some (.inr (.inr (some 79))), some (.inl l18_3)]) (st' := [.inl ((xs ((l18_3 + 1).toNat)).toInt), .inr (.inr (some 0))]) (w' := (SH, dt2776)) rfl rfl (s_iald (n := L) (f := fun j => (xs j).toInt) (am_scr hLL) ⟨by omega, by omega⟩) ?_
            refine go_to (k := 4) (pc' := 567) (L' := [some (.inr (.inr (some 3000))), some (.inr (.inr (some 0))), some (.inr (.inr (some 79))), some (.inl l18_3)]) (st' := [.inl (l18_3 + 2), .inr (.inr (some 3000)), .inl ((xs ((l18_3 + 1).toNat)).toInt), .inr (.inr (some 0))]) (w' := (SH, dt2776)) (fun _ => rfl) ?_
            have r3507 := i32_R (xs ((l18_3 + 2).toNat))
            refine go_smp (L' := [some (.inr (.inr (some 3000))), some (.inr (.inr (some 0))), some (.inr (.inr (some 79))), some (.inl l18_3)]) (st' := [.inl ((xs ((l18_3 + 2).toNat)).toInt), .inl ((xs ((l18_3 + 1).toNat)).toInt), .inr (.inr (some 0))]) (w' := (SH, dt2776)) rfl rfl (s_iald (n := L) (f := fun j => (xs j).toInt) (am_scr hLL) ⟨by omega, by omega⟩) ?_
            refine go_call (Q' := _) rfl rfl rfl rfl rfl (sp_X5_says L xs sio (d + 36) dt2776 hI2777  ((xs ((l18_3 + 1).toNat)).toInt) ⟨by omega, by omega⟩ ((xs ((l18_3 + 2).toNat)).toInt) ⟨by omega, by omega⟩ ) ?_
            rintro _ _ ⟨rfl, h3508⟩
            refine ⟨rfl, ?_⟩
            rcases h3508 with ⟨v_h3508, rfl, h3508r, h3508⟩
            refine go_to (k := 6) (pc' := 577) (L' := [some (.inr (.inr (some 3000))), some (.inr (.inr (some 0))), some (.inr (.inr (some 79))), some (.inl l18_3)]) (st' := [.inl (l18_3 + 1), .inr (.inr (some 3000)), .inr (.inr (some 79))]) (w' := (SH, dt2776)) (fun _ => rfl) ?_
            refine go_smp (L' := [some (.inr (.inr (some 3000))), some (.inr (.inr (some 0))), some (.inr (.inr (some 79))), some (.inl l18_3)]) (st' := [.inl ((xs ((l18_3 + 1).toNat)).toInt), .inr (.inr (some 79))]) (w' := (SH, dt2776)) rfl rfl (s_iald (n := L) (f := fun j => (xs j).toInt) (am_scr hLL) ⟨by omega, by omega⟩) ?_
            refine go_to (k := 4) (pc' := 582) (L' := [some (.inr (.inr (some 3000))), some (.inr (.inr (some 0))), some (.inr (.inr (some 79))), some (.inl l18_3)]) (st' := [.inl (l18_3 + 2), .inr (.inr (some 3000)), .inl ((xs ((l18_3 + 1).toNat)).toInt), .inr (.inr (some 79))]) (w' := (SH, dt2776)) (fun _ => rfl) ?_
            refine go_smp (L' := [some (.inr (.inr (some 3000))), some (.inr (.inr (some 0))), some (.inr (.inr (some 79))), some (.inl l18_3)]) (st' := [.inl ((xs ((l18_3 + 2).toNat)).toInt), .inl ((xs ((l18_3 + 1).toNat)).toInt), .inr (.inr (some 79))]) (w' := (SH, dt2776)) rfl rfl (s_iald (n := L) (f := fun j => (xs j).toInt) (am_scr hLL) ⟨by omega, by omega⟩) ?_
            refine go_call (Q' := _) rfl rfl rfl rfl rfl (sp_X6_says L xs sio (d + 32) dt2776 hI2777 hM_dt2776  ((xs ((l18_3 + 1).toNat)).toInt) ⟨by omega, by omega⟩ ((xs ((l18_3 + 2).toNat)).toInt) ⟨by omega, by omega⟩ ) ?_
            rintro _ _ ⟨dt3510, rfl, hI3511, hF3512, h3509⟩
            refine ⟨rfl, ?_⟩
            have hF3513 : Fr [0, 1, 2, 3, 4, 5, 6, 7, 8, 9, 10, 11, 12, 13, 14, 15, 16, 17, 18, 19, 20, 21, 22, 23, 24, 25, 26, 27, 28, 29, 30, 31, 32, 33, 34, 35, 36, 37, 38, 39, 40, 41, 42, 43, 44, 45, 46, 47, 48, 49, 50, 51, 52, 53, 54, 55, 56, 57, 58, 59, 60, 61, 62, 63, 64, 65, 66, 67, 68, 69, 70, 71, 72, 73, 74, 75, 76, 77, 78, 79, 80, 81, 82, 83, 84, 85, 86, 87, 88, 89, 90, 91, 92, 93, 94, 95, 96, 97, 98, 99, 100, 101, 102, 103, 104] dt dt3510 := Fr_tr hF2778 hF3512 (by decide)
            have hM3514 : MW (dt3510 80) := MW_fr hM_dt2776 hF3512 (by decide)
            have w3515 : dt3510 1 0 = dt2776 1 0 := hF3512 1 (by decide) 0
            have w3516 : dt3510 7 3 = dt2776 7 3 := hF3512 7 (by decide) 3
            have w3517 : dt3510 10 3 = dt2776 10 3 := hF3512 10 (by decide) 3
            have w3518 : dt3510 12 3 = dt2776 12 3 := hF3512 12 (by decide) 3
            have w3519 : dt3510 14 3 = dt2776 14 3 := hF3512 14 (by decide) 3
            have w3520 : dt3510 16 3 = dt2776 16 3 := hF3512 16 (by decide) 3
            have w3521 : dt3510 18 0 = dt2776 18 0 := hF3512 18 (by decide) 0
            have w3522 : dt3510 24 3 = dt2776 24 3 := hF3512 24 (by decide) 3
            have w3523 : dt3510 27 3 = dt2776 27 3 := hF3512 27 (by decide) 3
            have w3524 : dt3510 29 3 = dt2776 29 3 := hF3512 29 (by decide) 3
            have w3525 : dt3510 31 3 = dt2776 31 3 := hF3512 31 (by decide) 3
            have w3526 : dt3510 33 3 = dt2776 33 3 := hF3512 33 (by decide) 3
            have w3527 : dt3510 0 2 = dt2776 0 2 := hF3512 0 (by decide) 2
            have w3528 : dt3510 35 1 = dt2776 35 1 := hF3512 35 (by decide) 1
            have w3529 : dt3510 80 0 = dt2776 80 0 := hF3512 80 (by decide) 0
            have w3530 : dt3510 80 1 = dt2776 80 1 := hF3512 80 (by decide) 1
            have w3531 : dt3510 80 2 = dt2776 80 2 := hF3512 80 (by decide) 2
            have w3532 : dt3510 80 3 = dt2776 80 3 := hF3512 80 (by decide) 3
            have w3533 : dt3510 80 4 = dt2776 80 4 := hF3512 80 (by decide) 4
            have w3534 : dt3510 80 5 = dt2776 80 5 := hF3512 80 (by decide) 5
            have w3535 : dt3510 81 0 = dt2776 81 0 := hF3512 81 (by decide) 0
            have w3536 : dt3510 81 1 = dt2776 81 1 := hF3512 81 (by decide) 1
            have w3537 : dt3510 81 2 = dt2776 81 2 := hF3512 81 (by decide) 2
            have w3538 : dt3510 81 3 = dt2776 81 3 := hF3512 81 (by decide) 3
            have w3539 : dt3510 81 4 = dt2776 81 4 := hF3512 81 (by decide) 4
            have w3540 : dt3510 81 5 = dt2776 81 5 := hF3512 81 (by decide) 5
            have w3541 : dt3510 79 2 = dt2776 79 2 := hF3512 79 (by decide) 2
            have w3542 : dt3510 79 12 = dt2776 79 12 := hF3512 79 (by decide) 12
            rcases h3509 with ⟨v_h3509, rfl, h3509r, h3509⟩
            have M23543 : MW (dt3510 81) := MW_frk hM2L hF3512 (by decide)
            refine go_to (k := 4) (pc' := 18) (L' := [some (.inr (.inr (some 3000))), some (.inr (.inr (some 0))), some (.inr (.inr (some 79))), some (.inl (l18_3 + 6))]) (st' := []) (w' := (SH, dt3510)) (fun _ => rfl) ?_
            exact GO.le (ih_loop2795 (l18_3 + 6) dt3510 hI3511 hF3513 hM3514 (by omega) (by exact M23543) (by omega) (by omega) (by omega) (by omega) (by omega) (by omega) (by omega) (by omega) (by omega) (by omega) (by omega) (by omega) (by omega) (by omega) (by omega)) ⟨.inl rfl, .inl rfl, .inl rfl, .inl rfl, trivial⟩
          · refine go_swi (v := 10) (p1 := 590) (lo := 0) (hi := 32) rfl c2802 (by decide) rfl ?_
            refine go_to (k := 5) (pc' := 595) (L' := [some (.inr (.inr (some 3000))), some (.inr (.inr (some 0))), some (.inr (.inr (some 79))), some (.inl l18_3)]) (st' := [.inl (l18_3 + 1), .inr (.inr (some 3000)), .inr (.inr (some 0))]) (w' := (SH, dt2776)) (fun _ => rfl) ?_
            have r3544 := i32_R (xs ((l18_3 + 1).toNat))
            refine go_smp (L' := [some (.inr (.inr (some 3000))), some (.inr (.inr (some 0))), some (.inr (.inr (some 79))), some (.inl l18_3)]) (st' := [.inl ((xs ((l18_3 + 1).toNat)).toInt), .inr (.inr (some 0))]) (w' := (SH, dt2776)) rfl rfl (s_iald (n := L) (f := fun j => (xs j).toInt) (am_scr hLL) ⟨by omega, by omega⟩) ?_
            refine go_to (k := 4) (pc' := 600) (L' := [some (.inr (.inr (some 3000))), some (.inr (.inr (some 0))), some (.inr (.inr (some 79))), some (.inl l18_3)]) (st' := [.inl (l18_3 + 2), .inr (.inr (some 3000)), .inl ((xs ((l18_3 + 1).toNat)).toInt), .inr (.inr (some 0))]) (w' := (SH, dt2776)) (fun _ => rfl) ?_
            have r3545 := i32_R (xs ((l18_3 + 2).toNat))
            refine go_smp (L' := [some (.inr (.inr (some 3000))), some (.inr (.inr (some 0))), some (.inr (.inr (some 79))), some (.inl l18_3)]) (st' := [.inl ((xs ((l18_3 + 2).toNat)).toInt), .inl ((xs ((l18_3 + 1).toNat)).toInt), .inr (.inr (some 0))]) (w' := (SH, dt2776)) rfl rfl (s_iald (n := L) (f := fun j => (xs j).toInt) (am_scr hLL) ⟨by omega, by omega⟩) ?_
            refine go_to (k := 4) (pc' := 605) (L' := [some (.inr (.inr (some 3000))), some (.inr (.inr (some 0))), some (.inr (.inr (some 79))), some (.inl l18_3)]) (st' := [.inl (l18_3 + 3), .inr (.inr (some 3000)), .inl ((xs ((l18_3 + 2).toNat)).toInt), .inl ((xs ((l18_3 + 1).toNat)).toInt), .inr (.inr (some 0))]) (w' := (SH, dt2776)) (fun _ => rfl) ?_
            have r3546 := i32_R (xs ((l18_3 + 3).toNat))
            refine go_smp (L' := [some (.inr (.inr (some 3000))), some (.inr (.inr (some 0))), some (.inr (.inr (some 79))), some (.inl l18_3)]) (st' := [.inl ((xs ((l18_3 + 3).toNat)).toInt), .inl ((xs ((l18_3 + 2).toNat)).toInt), .inl ((xs ((l18_3 + 1).toNat)).toInt), .inr (.inr (some 0))]) (w' := (SH, dt2776)) rfl rfl (s_iald (n := L) (f := fun j => (xs j).toInt) (am_scr hLL) ⟨by omega, by omega⟩) ?_
            refine go_to (k := 4) (pc' := 610) (L' := [some (.inr (.inr (some 3000))), some (.inr (.inr (some 0))), some (.inr (.inr (some 79))), some (.inl l18_3)]) (st' := [.inl (l18_3 + 4), .inr (.inr (some 3000)), .inl ((xs ((l18_3 + 3).toNat)).toInt), .inl ((xs ((l18_3 + 2).toNat)).toInt), .inl ((xs ((l18_3 + 1).toNat)).toInt), .inr (.inr (some 0))]) (w' := (SH, dt2776)) (fun _ => rfl) ?_
            have r3547 := i32_R (xs ((l18_3 + 4).toNat))
            refine go_smp (L' := [some (.inr (.inr (some 3000))), some (.inr (.inr (some 0))), some (.inr (.inr (some 79))), some (.inl l18_3)]) (st' := [.inl ((xs ((l18_3 + 4).toNat)).toInt), .inl ((xs ((l18_3 + 3).toNat)).toInt), .inl ((xs ((l18_3 + 2).toNat)).toInt), .inl ((xs ((l18_3 + 1).toNat)).toInt), .inr (.inr (some 0))]) (w' := (SH, dt2776)) rfl rfl (s_iald (n := L) (f := fun j => (xs j).toInt) (am_scr hLL) ⟨by omega, by omega⟩) ?_
            refine go_call (Q' := _) rfl rfl rfl rfl rfl (sp_X5_child L xs sio (d + 36) dt2776 hI2777  ((xs ((l18_3 + 1).toNat)).toInt) ⟨by omega, by omega⟩ ((xs ((l18_3 + 2).toNat)).toInt) ⟨by omega, by omega⟩ ((xs ((l18_3 + 3).toNat)).toInt) ⟨by omega, by omega⟩ ((xs ((l18_3 + 4).toNat)).toInt) ⟨by omega, by omega⟩ ) ?_
            rintro _ _ ⟨dt3549, rfl, hI3550, hF3551, h3548⟩
            refine ⟨rfl, ?_⟩
            have hF3552 : Fr [0, 1, 2, 3, 4, 5, 6, 7, 8, 9, 10, 11, 12, 13, 14, 15, 16, 17, 18, 19, 20, 21, 22, 23, 24, 25, 26, 27, 28, 29, 30, 31, 32, 33, 34, 35, 36, 37, 38, 39, 40, 41, 42, 43, 44, 45, 46, 47, 48, 49, 50, 51, 52, 53, 54, 55, 56, 57, 58, 59, 60, 61, 62, 63, 64, 65, 66, 67, 68, 69, 70, 71, 72, 73, 74, 75, 76, 77, 78, 79, 80, 81, 82, 83, 84, 85, 86, 87, 88, 89, 90, 91, 92, 93, 94, 95, 96, 97, 98, 99, 100, 101, 102, 103, 104] dt dt3549 := Fr_tr hF2778 hF3551 (by decide)
            have hM3553 : MW (dt3549 80) := MW_fr hM_dt2776 hF3551 (by decide)
            have w3554 : dt3549 1 0 = dt2776 1 0 := hF3551 1 (by decide) 0
            have w3555 : dt3549 7 3 = dt2776 7 3 := hF3551 7 (by decide) 3
            have w3556 : dt3549 12 3 = dt2776 12 3 := hF3551 12 (by decide) 3
            have w3557 : dt3549 14 3 = dt2776 14 3 := hF3551 14 (by decide) 3
            have w3558 : dt3549 16 3 = dt2776 16 3 := hF3551 16 (by decide) 3
            have w3559 : dt3549 18 0 = dt2776 18 0 := hF3551 18 (by decide) 0
            have w3560 : dt3549 24 3 = dt2776 24 3 := hF3551 24 (by decide) 3
            have w3561 : dt3549 27 3 = dt2776 27 3 := hF3551 27 (by decide) 3
            have w3562 : dt3549 29 3 = dt2776 29 3 := hF3551 29 (by decide) 3
            have w3563 : dt3549 31 3 = dt2776 31 3 := hF3551 31 (by decide) 3
            have w3564 : dt3549 33 3 = dt2776 33 3 := hF3551 33 (by decide) 3
            have w3565 : dt3549 0 2 = dt2776 0 2 := hF3551 0 (by decide) 2
            have w3566 : dt3549 35 1 = dt2776 35 1 := hF3551 35 (by decide) 1
            have w3567 : dt3549 80 0 = dt2776 80 0 := hF3551 80 (by decide) 0
            have w3568 : dt3549 80 1 = dt2776 80 1 := hF3551 80 (by decide) 1
            have w3569 : dt3549 80 2 = dt2776 80 2 := hF3551 80 (by decide) 2
            have w3570 : dt3549 80 3 = dt2776 80 3 := hF3551 80 (by decide) 3
            have w3571 : dt3549 80 4 = dt2776 80 4 := hF3551 80 (by decide) 4
            have w3572 : dt3549 80 5 = dt2776 80 5 := hF3551 80 (by decide) 5
            have w3573 : dt3549 81 0 = dt2776 81 0 := hF3551 81 (by decide) 0
            have w3574 : dt3549 81 1 = dt2776 81 1 := hF3551 81 (by decide) 1
            have w3575 : dt3549 81 2 = dt2776 81 2 := hF3551 81 (by decide) 2
            have w3576 : dt3549 81 3 = dt2776 81 3 := hF3551 81 (by decide) 3
            have w3577 : dt3549 81 4 = dt2776 81 4 := hF3551 81 (by decide) 4
            have w3578 : dt3549 81 5 = dt2776 81 5 := hF3551 81 (by decide) 5
            have w3579 : dt3549 79 2 = dt2776 79 2 := hF3551 79 (by decide) 2
            have w3580 : dt3549 79 12 = dt2776 79 12 := hF3551 79 (by decide) 12
            rcases h3548 with ⟨rfl, h3548⟩ | ⟨v_h3548, rfl, h3548r, h3548⟩
            · skip
              obtain ⟨h3548_0, h3548_1⟩ := h3548
              have M23581 : MW (dt3549 81) := MW_frk hM2L hF3551 (by decide)
              refine go_to (k := 6) (pc' := 620) (L' := [some (.inr (.inr (some 3000))), some (.inr (.inr (some 0))), some (.inr (.inr (some 79))), some (.inl l18_3)]) (st' := [.inl (l18_3 + 1), .inr (.inr (some 3000)), .inr (.inr (some 79))]) (w' := (SH, dt3549)) (fun _ => rfl) ?_
              have r3582 := i32_R (xs ((l18_3 + 1).toNat))
              refine go_smp (L' := [some (.inr (.inr (some 3000))), some (.inr (.inr (some 0))), some (.inr (.inr (some 79))), some (.inl l18_3)]) (st' := [.inl ((xs ((l18_3 + 1).toNat)).toInt), .inr (.inr (some 79))]) (w' := (SH, dt3549)) rfl rfl (s_iald (n := L) (f := fun j => (xs j).toInt) (am_scr hLL) ⟨by omega, by omega⟩) ?_
              refine go_to (k := 4) (pc' := 625) (L' := [some (.inr (.inr (some 3000))), some (.inr (.inr (some 0))), some (.inr (.inr (some 79))), some (.inl l18_3)]) (st' := [.inl (l18_3 + 2), .inr (.inr (some 3000)), .inl ((xs ((l18_3 + 1).toNat)).toInt), .inr (.inr (some 79))]) (w' := (SH, dt3549)) (fun _ => rfl) ?_
              have r3583 := i32_R (xs ((l18_3 + 2).toNat))
              refine go_smp (L' := [some (.inr (.inr (some 3000))), some (.inr (.inr (some 0))), some (.inr (.inr (some 79))), some (.inl l18_3)]) (st' := [.inl ((xs ((l18_3 + 2).toNat)).toInt), .inl ((xs ((l18_3 + 1).toNat)).toInt), .inr (.inr (some 79))]) (w' := (SH, dt3549)) rfl rfl (s_iald (n := L) (f := fun j => (xs j).toInt) (am_scr hLL) ⟨by omega, by omega⟩) ?_
              refine go_to (k := 4) (pc' := 630) (L' := [some (.inr (.inr (some 3000))), some (.inr (.inr (some 0))), some (.inr (.inr (some 79))), some (.inl l18_3)]) (st' := [.inl (l18_3 + 3), .inr (.inr (some 3000)), .inl ((xs ((l18_3 + 2).toNat)).toInt), .inl ((xs ((l18_3 + 1).toNat)).toInt), .inr (.inr (some 79))]) (w' := (SH, dt3549)) (fun _ => rfl) ?_
              have r3584 := i32_R (xs ((l18_3 + 3).toNat))
              refine go_smp (L' := [some (.inr (.inr (some 3000))), some (.inr (.inr (some 0))), some (.inr (.inr (some 79))), some (.inl l18_3)]) (st' := [.inl ((xs ((l18_3 + 3).toNat)).toInt), .inl ((xs ((l18_3 + 2).toNat)).toInt), .inl ((xs ((l18_3 + 1).toNat)).toInt), .inr (.inr (some 79))]) (w' := (SH, dt3549)) rfl rfl (s_iald (n := L) (f := fun j => (xs j).toInt) (am_scr hLL) ⟨by omega, by omega⟩) ?_
              refine go_to (k := 4) (pc' := 635) (L' := [some (.inr (.inr (some 3000))), some (.inr (.inr (some 0))), some (.inr (.inr (some 79))), some (.inl l18_3)]) (st' := [.inl (l18_3 + 4), .inr (.inr (some 3000)), .inl ((xs ((l18_3 + 3).toNat)).toInt), .inl ((xs ((l18_3 + 2).toNat)).toInt), .inl ((xs ((l18_3 + 1).toNat)).toInt), .inr (.inr (some 79))]) (w' := (SH, dt3549)) (fun _ => rfl) ?_
              have r3585 := i32_R (xs ((l18_3 + 4).toNat))
              refine go_smp (L' := [some (.inr (.inr (some 3000))), some (.inr (.inr (some 0))), some (.inr (.inr (some 79))), some (.inl l18_3)]) (st' := [.inl ((xs ((l18_3 + 4).toNat)).toInt), .inl ((xs ((l18_3 + 3).toNat)).toInt), .inl ((xs ((l18_3 + 2).toNat)).toInt), .inl ((xs ((l18_3 + 1).toNat)).toInt), .inr (.inr (some 79))]) (w' := (SH, dt3549)) rfl rfl (s_iald (n := L) (f := fun j => (xs j).toInt) (am_scr hLL) ⟨by omega, by omega⟩) ?_
              refine go_call (Q' := _) rfl rfl rfl rfl rfl (sp_X6_child L xs sio (d + 36) dt3549 hI3550 hM3553  ((xs ((l18_3 + 1).toNat)).toInt) ⟨by omega, by omega⟩ ((xs ((l18_3 + 2).toNat)).toInt) ⟨by omega, by omega⟩ ((xs ((l18_3 + 3).toNat)).toInt) ⟨by omega, by omega⟩ ((xs ((l18_3 + 4).toNat)).toInt) ⟨by omega, by omega⟩ ) ?_
              rintro _ _ ⟨dt3587, rfl, hI3588, hF3589, h3586⟩
              refine ⟨rfl, ?_⟩
              have hF3590 : Fr [0, 1, 2, 3, 4, 5, 6, 7, 8, 9, 10, 11, 12, 13, 14, 15, 16, 17, 18, 19, 20, 21, 22, 23, 24, 25, 26, 27, 28, 29, 30, 31, 32, 33, 34, 35, 36, 37, 38, 39, 40, 41, 42, 43, 44, 45, 46, 47, 48, 49, 50, 51, 52, 53, 54, 55, 56, 57, 58, 59, 60, 61, 62, 63, 64, 65, 66, 67, 68, 69, 70, 71, 72, 73, 74, 75, 76, 77, 78, 79, 80, 81, 82, 83, 84, 85, 86, 87, 88, 89, 90, 91, 92, 93, 94, 95, 96, 97, 98, 99, 100, 101, 102, 103, 104] dt dt3587 := Fr_tr hF3552 hF3589 (by decide)
              have w3591 : dt3587 1 0 = dt3549 1 0 := hF3589 1 (by decide) 0
              have w3592 : dt3587 7 3 = dt3549 7 3 := hF3589 7 (by decide) 3
              have w3593 : dt3587 10 3 = dt3549 10 3 := hF3589 10 (by decide) 3
              have w3594 : dt3587 12 3 = dt3549 12 3 := hF3589 12 (by decide) 3
              have w3595 : dt3587 14 3 = dt3549 14 3 := hF3589 14 (by decide) 3
              have w3596 : dt3587 16 3 = dt3549 16 3 := hF3589 16 (by decide) 3
              have w3597 : dt3587 18 0 = dt3549 18 0 := hF3589 18 (by decide) 0
              have w3598 : dt3587 24 3 = dt3549 24 3 := hF3589 24 (by decide) 3
              have w3599 : dt3587 27 3 = dt3549 27 3 := hF3589 27 (by decide) 3
              have w3600 : dt3587 29 3 = dt3549 29 3 := hF3589 29 (by decide) 3
              have w3601 : dt3587 31 3 = dt3549 31 3 := hF3589 31 (by decide) 3
              have w3602 : dt3587 33 3 = dt3549 33 3 := hF3589 33 (by decide) 3
              have w3603 : dt3587 0 2 = dt3549 0 2 := hF3589 0 (by decide) 2
              have w3604 : dt3587 35 1 = dt3549 35 1 := hF3589 35 (by decide) 1
              have w3605 : dt3587 81 0 = dt3549 81 0 := hF3589 81 (by decide) 0
              have w3606 : dt3587 81 1 = dt3549 81 1 := hF3589 81 (by decide) 1
              have w3607 : dt3587 81 2 = dt3549 81 2 := hF3589 81 (by decide) 2
              have w3608 : dt3587 81 3 = dt3549 81 3 := hF3589 81 (by decide) 3
              have w3609 : dt3587 81 4 = dt3549 81 4 := hF3589 81 (by decide) 4
              have w3610 : dt3587 81 5 = dt3549 81 5 := hF3589 81 (by decide) 5
              have w3611 : dt3587 79 2 = dt3549 79 2 := hF3589 79 (by decide) 2
              have w3612 : dt3587 79 12 = dt3549 79 12 := hF3589 79 (by decide) 12
              rcases h3586 with ⟨rfl, h3586⟩ | ⟨v_h3586, rfl, h3586r, h3586⟩
              · skip
                have hM3613 : MW (dt3587 80) := h3586.2.1
                obtain ⟨h3586_0, h3586_1, h3586_2, h3586_3, h3586_4, h3586_5, h3586_6, h3586_7⟩ := h3586
                have M23614 : MW (dt3587 81) := MW_frk M23581 hF3589 (by decide)
                refine go_to (k := 4) (pc' := 18) (L' := [some (.inr (.inr (some 3000))), some (.inr (.inr (some 0))), some (.inr (.inr (some 79))), some (.inl (l18_3 + 6))]) (st' := []) (w' := (SH, dt3587)) (fun _ => rfl) ?_
                exact GO.le (ih_loop2795 (l18_3 + 6) dt3587 hI3588 hF3590 hM3613 (by omega) (by exact M23614) (by omega) (by omega) (by omega) (by omega) (by omega) (by omega) (by omega) (by omega) (by omega) (by omega) (by omega) (by omega) (by omega) (by omega) (by omega)) ⟨.inl rfl, .inl rfl, .inl rfl, .inl rfl, trivial⟩
              · skip
                have hM3615 : MW (dt3587 80) := h3586.2.2.1
                obtain ⟨h3586_0, h3586_1, h3586_2, h3586_3, h3586_4, h3586_5, h3586_6, h3586_7, h3586_8⟩ := h3586
                have M23616 : MW (dt3587 81) := MW_frk M23581 hF3589 (by decide)
                refine go_to (k := 4) (pc' := 18) (L' := [some (.inr (.inr (some 3000))), some (.inr (.inr (some 0))), some (.inr (.inr (some 79))), some (.inl (l18_3 + 6))]) (st' := []) (w' := (SH, dt3587)) (fun _ => rfl) ?_
                exact GO.le (ih_loop2795 (l18_3 + 6) dt3587 hI3588 hF3590 hM3615 (by omega) (by exact M23616) (by omega) (by omega) (by omega) (by omega) (by omega) (by omega) (by omega) (by omega) (by omega) (by omega) (by omega) (by omega) (by omega) (by omega) (by omega)) ⟨.inl rfl, .inl rfl, .inl rfl, .inl rfl, trivial⟩
            · skip
              obtain ⟨h3548_0, h3548_1, h3548_2⟩ := h3548
              have M23617 : MW (dt3549 81) := MW_frk hM2L hF3551 (by decide)
              refine go_to (k := 6) (pc' := 620) (L' := [some (.inr (.inr (some 3000))), some (.inr (.inr (some 0))), some (.inr (.inr (some 79))), some (.inl l18_3)]) (st' := [.inl (l18_3 + 1), .inr (.inr (some 3000)), .inr (.inr (some 79))]) (w' := (SH, dt3549)) (fun _ => rfl) ?_
              have r3618 := i32_R (xs ((l18_3 + 1).toNat))
              refine go_smp (L' := [some (.inr (.inr (some 3000))), some (.inr (.inr (some 0))), some (.inr (.inr (some 79))), some (.inl l18_3)]) (st' := [.inl ((xs ((l18_3 + 1).toNat)).toInt), .inr (.inr (some 79))]) (w' := (SH, dt3549)) rfl rfl (s_iald (n := L) (f := fun j => (xs j).toInt) (am_scr hLL) ⟨by omega, by omega⟩) ?_
              refine go_to (k := 4) (pc' := 625) (L' := [some (.inr (.inr (some 3000))), some (.inr (.inr (some 0))), some (.inr (.inr (some 79))), some (.inl l18_3)]) (st' := [.inl (l18_3 + 2), .inr (.inr (some 3000)), .inl ((xs ((l18_3 + 1).toNat)).toInt), .inr (.inr (some 79))]) (w' := (SH, dt3549)) (fun _ => rfl) ?_
              have r3619 := i32_R (xs ((l18_3 + 2).toNat))
              refine go_smp (L' := [some (.inr (.inr (some 3000))), some (.inr (.inr (some 0))), some (.inr (.inr (some 79))), some (.inl l18_3)]) (st' := [.inl ((xs ((l18_3 + 2).toNat)).toInt), .inl ((xs ((l18_3 + 1).toNat)).toInt), .inr (.inr (some 79))]) (w' := (SH, dt3549)) rfl rfl (s_iald (n := L) (f := fun j => (xs j).toInt) (am_scr hLL) ⟨by omega, by omega⟩) ?_
              refine go_to (k := 4) (pc' := 630) (L' := [some (.inr (.inr (some 3000))), some (.inr (.inr (some 0))), some (.inr (.inr (some 79))), some (.inl l18_3)]) (st' := [.inl (l18_3 + 3), .inr (.inr (some 3000)), .inl ((xs ((l18_3 + 2).toNat)).toInt), .inl ((xs ((l18_3 + 1).toNat)).toInt), .inr (.inr (some 79))]) (w' := (SH, dt3549)) (fun _ => rfl) ?_
              have r3620 := i32_R (xs ((l18_3 + 3).toNat))
              refine go_smp (L' := [some (.inr (.inr (some 3000))), some (.inr (.inr (some 0))), some (.inr (.inr (some 79))), some (.inl l18_3)]) (st' := [.inl ((xs ((l18_3 + 3).toNat)).toInt), .inl ((xs ((l18_3 + 2).toNat)).toInt), .inl ((xs ((l18_3 + 1).toNat)).toInt), .inr (.inr (some 79))]) (w' := (SH, dt3549)) rfl rfl (s_iald (n := L) (f := fun j => (xs j).toInt) (am_scr hLL) ⟨by omega, by omega⟩) ?_
              refine go_to (k := 4) (pc' := 635) (L' := [some (.inr (.inr (some 3000))), some (.inr (.inr (some 0))), some (.inr (.inr (some 79))), some (.inl l18_3)]) (st' := [.inl (l18_3 + 4), .inr (.inr (some 3000)), .inl ((xs ((l18_3 + 3).toNat)).toInt), .inl ((xs ((l18_3 + 2).toNat)).toInt), .inl ((xs ((l18_3 + 1).toNat)).toInt), .inr (.inr (some 79))]) (w' := (SH, dt3549)) (fun _ => rfl) ?_
              have r3621 := i32_R (xs ((l18_3 + 4).toNat))
              refine go_smp (L' := [some (.inr (.inr (some 3000))), some (.inr (.inr (some 0))), some (.inr (.inr (some 79))), some (.inl l18_3)]) (st' := [.inl ((xs ((l18_3 + 4).toNat)).toInt), .inl ((xs ((l18_3 + 3).toNat)).toInt), .inl ((xs ((l18_3 + 2).toNat)).toInt), .inl ((xs ((l18_3 + 1).toNat)).toInt), .inr (.inr (some 79))]) (w' := (SH, dt3549)) rfl rfl (s_iald (n := L) (f := fun j => (xs j).toInt) (am_scr hLL) ⟨by omega, by omega⟩) ?_
              refine go_call (Q' := _) rfl rfl rfl rfl rfl (sp_X6_child L xs sio (d + 36) dt3549 hI3550 hM3553  ((xs ((l18_3 + 1).toNat)).toInt) ⟨by omega, by omega⟩ ((xs ((l18_3 + 2).toNat)).toInt) ⟨by omega, by omega⟩ ((xs ((l18_3 + 3).toNat)).toInt) ⟨by omega, by omega⟩ ((xs ((l18_3 + 4).toNat)).toInt) ⟨by omega, by omega⟩ ) ?_
              rintro _ _ ⟨dt3623, rfl, hI3624, hF3625, h3622⟩
              refine ⟨rfl, ?_⟩
              have hF3626 : Fr [0, 1, 2, 3, 4, 5, 6, 7, 8, 9, 10, 11, 12, 13, 14, 15, 16, 17, 18, 19, 20, 21, 22, 23, 24, 25, 26, 27, 28, 29, 30, 31, 32, 33, 34, 35, 36, 37, 38, 39, 40, 41, 42, 43, 44, 45, 46, 47, 48, 49, 50, 51, 52, 53, 54, 55, 56, 57, 58, 59, 60, 61, 62, 63, 64, 65, 66, 67, 68, 69, 70, 71, 72, 73, 74, 75, 76, 77, 78, 79, 80, 81, 82, 83, 84, 85, 86, 87, 88, 89, 90, 91, 92, 93, 94, 95, 96, 97, 98, 99, 100, 101, 102, 103, 104] dt dt3623 := Fr_tr hF3552 hF3625 (by decide)
              have w3627 : dt3623 1 0 = dt3549 1 0 := hF3625 1 (by decide) 0
              have w3628 : dt3623 7 3 = dt3549 7 3 := hF3625 7 (by decide) 3
              have w3629 : dt3623 10 3 = dt3549 10 3 := hF3625 10 (by decide) 3
              have w3630 : dt3623 12 3 = dt3549 12 3 := hF3625 12 (by decide) 3
              have w3631 : dt3623 14 3 = dt3549 14 3 := hF3625 14 (by decide) 3
              have w3632 : dt3623 16 3 = dt3549 16 3 := hF3625 16 (by decide) 3
              have w3633 : dt3623 18 0 = dt3549 18 0 := hF3625 18 (by decide) 0
              have w3634 : dt3623 24 3 = dt3549 24 3 := hF3625 24 (by decide) 3
              have w3635 : dt3623 27 3 = dt3549 27 3 := hF3625 27 (by decide) 3
              have w3636 : dt3623 29 3 = dt3549 29 3 := hF3625 29 (by decide) 3
              have w3637 : dt3623 31 3 = dt3549 31 3 := hF3625 31 (by decide) 3
              have w3638 : dt3623 33 3 = dt3549 33 3 := hF3625 33 (by decide) 3
              have w3639 : dt3623 0 2 = dt3549 0 2 := hF3625 0 (by decide) 2
              have w3640 : dt3623 35 1 = dt3549 35 1 := hF3625 35 (by decide) 1
              have w3641 : dt3623 81 0 = dt3549 81 0 := hF3625 81 (by decide) 0
              have w3642 : dt3623 81 1 = dt3549 81 1 := hF3625 81 (by decide) 1
              have w3643 : dt3623 81 2 = dt3549 81 2 := hF3625 81 (by decide) 2
              have w3644 : dt3623 81 3 = dt3549 81 3 := hF3625 81 (by decide) 3
              have w3645 : dt3623 81 4 = dt3549 81 4 := hF3625 81 (by decide) 4
              have w3646 : dt3623 81 5 = dt3549 81 5 := hF3625 81 (by decide) 5
              have w3647 : dt3623 79 2 = dt3549 79 2 := hF3625 79 (by decide) 2
              have w3648 : dt3623 79 12 = dt3549 79 12 := hF3625 79 (by decide) 12
              rcases h3622 with ⟨rfl, h3622⟩ | ⟨v_h3622, rfl, h3622r, h3622⟩
              · skip
                have hM3649 : MW (dt3623 80) := h3622.2.1
                obtain ⟨h3622_0, h3622_1, h3622_2, h3622_3, h3622_4, h3622_5, h3622_6, h3622_7⟩ := h3622
                have M23650 : MW (dt3623 81) := MW_frk M23617 hF3625 (by decide)
                refine go_to (k := 4) (pc' := 18) (L' := [some (.inr (.inr (some 3000))), some (.inr (.inr (some 0))), some (.inr (.inr (some 79))), some (.inl (l18_3 + 6))]) (st' := []) (w' := (SH, dt3623)) (fun _ => rfl) ?_
                exact GO.le (ih_loop2795 (l18_3 + 6) dt3623 hI3624 hF3626 hM3649 (by omega) (by exact M23650) (by omega) (by omega) (by omega) (by omega) (by omega) (by omega) (by omega) (by omega) (by omega) (by omega) (by omega) (by omega) (by omega) (by omega) (by omega)) ⟨.inl rfl, .inl rfl, .inl rfl, .inl rfl, trivial⟩
              · skip
                have hM3651 : MW (dt3623 80) := h3622.2.2.1
                obtain ⟨h3622_0, h3622_1, h3622_2, h3622_3, h3622_4, h3622_5, h3622_6, h3622_7, h3622_8⟩ := h3622
                have M23652 : MW (dt3623 81) := MW_frk M23617 hF3625 (by decide)
                refine go_to (k := 4) (pc' := 18) (L' := [some (.inr (.inr (some 3000))), some (.inr (.inr (some 0))), some (.inr (.inr (some 79))), some (.inl (l18_3 + 6))]) (st' := []) (w' := (SH, dt3623)) (fun _ => rfl) ?_
                exact GO.le (ih_loop2795 (l18_3 + 6) dt3623 hI3624 hF3626 hM3651 (by omega) (by exact M23652) (by omega) (by omega) (by omega) (by omega) (by omega) (by omega) (by omega) (by omega) (by omega) (by omega) (by omega) (by omega) (by omega) (by omega) (by omega)) ⟨.inl rfl, .inl rfl, .inl rfl, .inl rfl, trivial⟩
          · refine go_swi (v := 11) (p1 := 643) (lo := 0) (hi := 32) rfl c2802 (by decide) rfl ?_
            refine go_to (k := 5) (pc' := 648) (L' := [some (.inr (.inr (some 3000))), some (.inr (.inr (some 0))), some (.inr (.inr (some 79))), some (.inl l18_3)]) (st' := [.inl (l18_3 + 1), .inr (.inr (some 3000)), .inr (.inr (some 0))]) (w' := (SH, dt2776)) (fun _ => rfl) ?_
            have r3653 := i32_R (xs ((l18_3 + 1).toNat))
            refine go_smp (L' := [some (.inr (.inr (some 3000))), some (.inr (.inr (some 0))), some (.inr (.inr (some 79))), some (.inl l18_3)]) (st' := [.inl ((xs ((l18_3 + 1).toNat)).toInt), .inr (.inr (some 0))]) (w' := (SH, dt2776)) rfl rfl (s_iald (n := L) (f := fun j => (xs j).toInt) (am_scr hLL) ⟨by omega, by omega⟩) ?_
            refine go_to (k := 4) (pc' := 653) (L' := [some (.inr (.inr (some 3000))), some (.inr (.inr (some 0))), some (.inr (.inr (some 79))), some (.inl l18_3)]) (st' := [.inl (l18_3 + 2), .inr (.inr (some 3000)), .inl ((xs ((l18_3 + 1).toNat)).toInt), .inr (.inr (some 0))]) (w' := (SH, dt2776)) (fun _ => rfl) ?_
            have r3654 := i32_R (xs ((l18_3 + 2).toNat))
            refine go_smp (L' := [some (.inr (.inr (some 3000))), some (.inr (.inr (some 0))), some (.inr (.inr (some 79))), some (.inl l18_3)]) (st' := [.inl ((xs ((l18_3 + 2).toNat)).toInt), .inl ((xs ((l18_3 + 1).toNat)).toInt), .inr (.inr (some 0))]) (w' := (SH, dt2776)) rfl rfl (s_iald (n := L) (f := fun j => (xs j).toInt) (am_scr hLL) ⟨by omega, by omega⟩) ?_
            refine go_to (k := 4) (pc' := 658) (L' := [some (.inr (.inr (some 3000))), some (.inr (.inr (some 0))), some (.inr (.inr (some 79))), some (.inl l18_3)]) (st' := [.inl (l18_3 + 3), .inr (.inr (some 3000)), .inl ((xs ((l18_3 + 2).toNat)).toInt), .inl ((xs ((l18_3 + 1).toNat)).toInt), .inr (.inr (some 0))]) (w' := (SH, dt2776)) (fun _ => rfl) ?_
            have r3655 := i32_R (xs ((l18_3 + 3).toNat))
            refine go_smp (L' := [some (.inr (.inr (some 3000))), some (.inr (.inr (some 0))), some (.inr (.inr (some 79))), some (.inl l18_3)]) (st' := [.inl ((xs ((l18_3 + 3).toNat)).toInt), .inl ((xs ((l18_3 + 2).toNat)).toInt), .inl ((xs ((l18_3 + 1).toNat)).toInt), .inr (.inr (some 0))]) (w' := (SH, dt2776)) rfl rfl (s_iald (n := L) (f := fun j => (xs j).toInt) (am_scr hLL) ⟨by omega, by omega⟩) ?_
            refine go_to (k := 4) (pc' := 663) (L' := [some (.inr (.inr (some 3000))), some (.inr (.inr (some 0))), some (.inr (.inr (some 79))), some (.inl l18_3)]) (st' := [.inl (l18_3 + 4), .inr (.inr (some 3000)), .inl ((xs ((l18_3 + 3).toNat)).toInt), .inl ((xs ((l18_3 + 2).toNat)).toInt), .inl ((xs ((l18_3 + 1).toNat)).toInt), .inr (.inr (some 0))]) (w' := (SH, dt2776)) (fun _ => rfl) ?_
            have r3656 := i32_R (xs ((l18_3 + 4).toNat))
            refine go_smp (L' := [some (.inr (.inr (some 3000))), some (.inr (.inr (some 0))), some (.inr (.inr (some 79))), some (.inl l18_3)]) (st' := [.inl ((xs ((l18_3 + 4).toNat)).toInt), .inl ((xs ((l18_3 + 3).toNat)).toInt), .inl ((xs ((l18_3 + 2).toNat)).toInt), .inl ((xs ((l18_3 + 1).toNat)).toInt), .inr (.inr (some 0))]) (w' := (SH, dt2776)) rfl rfl (s_iald (n := L) (f := fun j => (xs j).toInt) (am_scr hLL) ⟨by omega, by omega⟩) ?_
            refine go_call (Q' := _) rfl rfl rfl rfl rfl (sp_X5_weight L xs sio (d + 33) dt2776 hI2777  ((xs ((l18_3 + 1).toNat)).toInt) ⟨by omega, by omega⟩ ((xs ((l18_3 + 2).toNat)).toInt) ⟨by omega, by omega⟩ ((xs ((l18_3 + 3).toNat)).toInt) ⟨by omega, by omega⟩ ((xs ((l18_3 + 4).toNat)).toInt) ⟨by omega, by omega⟩ ) ?_
            rintro _ _ ⟨dt3658, rfl, hI3659, hF3660, h3657⟩
            refine ⟨rfl, ?_⟩
            have hF3661 : Fr [0, 1, 2, 3, 4, 5, 6, 7, 8, 9, 10, 11, 12, 13, 14, 15, 16, 17, 18, 19, 20, 21, 22, 23, 24, 25, 26, 27, 28, 29, 30, 31, 32, 33, 34, 35, 36, 37, 38, 39, 40, 41, 42, 43, 44, 45, 46, 47, 48, 49, 50, 51, 52, 53, 54, 55, 56, 57, 58, 59, 60, 61, 62, 63, 64, 65, 66, 67, 68, 69, 70, 71, 72, 73, 74, 75, 76, 77, 78, 79, 80, 81, 82, 83, 84, 85, 86, 87, 88, 89, 90, 91, 92, 93, 94, 95, 96, 97, 98, 99, 100, 101, 102, 103, 104] dt dt3658 := Fr_tr hF2778 hF3660 (by decide)
            have hM3662 : MW (dt3658 80) := MW_fr hM_dt2776 hF3660 (by decide)
            have w3663 : dt3658 1 0 = dt2776 1 0 := hF3660 1 (by decide) 0
            have w3664 : dt3658 7 3 = dt2776 7 3 := hF3660 7 (by decide) 3
            have w3665 : dt3658 10 3 = dt2776 10 3 := hF3660 10 (by decide) 3
            have w3666 : dt3658 12 3 = dt2776 12 3 := hF3660 12 (by decide) 3
            have w3667 : dt3658 14 3 = dt2776 14 3 := hF3660 14 (by decide) 3
            have w3668 : dt3658 16 3 = dt2776 16 3 := hF3660 16 (by decide) 3
            have w3669 : dt3658 18 0 = dt2776 18 0 := hF3660 18 (by decide) 0
            have w3670 : dt3658 24 3 = dt2776 24 3 := hF3660 24 (by decide) 3
            have w3671 : dt3658 27 3 = dt2776 27 3 := hF3660 27 (by decide) 3
            have w3672 : dt3658 29 3 = dt2776 29 3 := hF3660 29 (by decide) 3
            have w3673 : dt3658 31 3 = dt2776 31 3 := hF3660 31 (by decide) 3
            have w3674 : dt3658 33 3 = dt2776 33 3 := hF3660 33 (by decide) 3
            have w3675 : dt3658 0 2 = dt2776 0 2 := hF3660 0 (by decide) 2
            have w3676 : dt3658 35 1 = dt2776 35 1 := hF3660 35 (by decide) 1
            have w3677 : dt3658 80 0 = dt2776 80 0 := hF3660 80 (by decide) 0
            have w3678 : dt3658 80 1 = dt2776 80 1 := hF3660 80 (by decide) 1
            have w3679 : dt3658 80 2 = dt2776 80 2 := hF3660 80 (by decide) 2
            have w3680 : dt3658 80 3 = dt2776 80 3 := hF3660 80 (by decide) 3
            have w3681 : dt3658 80 4 = dt2776 80 4 := hF3660 80 (by decide) 4
            have w3682 : dt3658 80 5 = dt2776 80 5 := hF3660 80 (by decide) 5
            have w3683 : dt3658 81 0 = dt2776 81 0 := hF3660 81 (by decide) 0
            have w3684 : dt3658 81 1 = dt2776 81 1 := hF3660 81 (by decide) 1
            have w3685 : dt3658 81 2 = dt2776 81 2 := hF3660 81 (by decide) 2
            have w3686 : dt3658 81 3 = dt2776 81 3 := hF3660 81 (by decide) 3
            have w3687 : dt3658 81 4 = dt2776 81 4 := hF3660 81 (by decide) 4
            have w3688 : dt3658 81 5 = dt2776 81 5 := hF3660 81 (by decide) 5
            have w3689 : dt3658 79 2 = dt2776 79 2 := hF3660 79 (by decide) 2
            have w3690 : dt3658 79 12 = dt2776 79 12 := hF3660 79 (by decide) 12
            rcases h3657 with ⟨v_h3657, rfl, h3657r, h3657⟩
            have M23691 : MW (dt3658 81) := MW_frk hM2L hF3660 (by decide)
            refine go_to (k := 6) (pc' := 673) (L' := [some (.inr (.inr (some 3000))), some (.inr (.inr (some 0))), some (.inr (.inr (some 79))), some (.inl l18_3)]) (st' := [.inl (l18_3 + 1), .inr (.inr (some 3000)), .inr (.inr (some 79))]) (w' := (SH, dt3658)) (fun _ => rfl) ?_
            have r3692 := i32_R (xs ((l18_3 + 1).toNat))
            refine go_smp (L' := [some (.inr (.inr (some 3000))), some (.inr (.inr (some 0))), some (.inr (.inr (some 79))), some (.inl l18_3)]) (st' := [.inl ((xs ((l18_3 + 1).toNat)).toInt), .inr (.inr (some 79))]) (w' := (SH, dt3658)) rfl rfl (s_iald (n := L) (f := fun j => (xs j).toInt) (am_scr hLL) ⟨by omega, by omega⟩) ?_
            refine go_to (k := 4) (pc' := 678) (L' := [some (.inr (.inr (some 3000))), some (.inr (.inr (some 0))), some (.inr (.inr (some 79))), some (.inl l18_3)]) (st' := [.inl (l18_3 + 2), .inr (.inr (some 3000)), .inl ((xs ((l18_3 + 1).toNat)).toInt), .inr (.inr (some 79))]) (w' := (SH, dt3658)) (fun _ => rfl) ?_
            have r3693 := i32_R (xs ((l18_3 + 2).toNat))
            refine go_smp (L' := [some (.inr (.inr (some 3000))), some (.inr (.inr (some 0))), some (.inr (.inr (some 79))), some (.inl l18_3)]) (st' := [.inl ((xs ((l18_3 + 2).toNat)).toInt), .inl ((xs ((l18_3 + 1).toNat)).toInt), .inr (.inr (some 79))]) (w' := (SH, dt3658)) rfl rfl (s_iald (n := L) (f := fun j => (xs j).toInt) (am_scr hLL) ⟨by omega, by omega⟩) ?_
            refine go_to (k := 4) (pc' := 683) (L' := [some (.inr (.inr (some 3000))), some (.inr (.inr (some 0))), some (.inr (.inr (some 79))), some (.inl l18_3)]) (st' := [.inl (l18_3 + 3), .inr (.inr (some 3000)), .inl ((xs ((l18_3 + 2).toNat)).toInt), .inl ((xs ((l18_3 + 1).toNat)).toInt), .inr (.inr (some 79))]) (w' := (SH, dt3658)) (fun _ => rfl) ?_
            have r3694 := i32_R (xs ((l18_3 + 3).toNat))
            refine go_smp (L' := [some (.inr (.inr (some 3000))), some (.inr (.inr (some 0))), some (.inr (.inr (some 79))), some (.inl l18_3)]) (st' := [.inl ((xs ((l18_3 + 3).toNat)).toInt), .inl ((xs ((l18_3 + 2).toNat)).toInt), .inl ((xs ((l18_3 + 1).toNat)).toInt), .inr (.inr (some 79))]) (w' := (SH, dt3658)) rfl rfl (s_iald (n := L) (f := fun j => (xs j).toInt) (am_scr hLL) ⟨by omega, by omega⟩) ?_
            refine go_to (k := 4) (pc' := 688) (L' := [some (.inr (.inr (some 3000))), some (.inr (.inr (some 0))), some (.inr (.inr (some 79))), some (.inl l18_3)]) (st' := [.inl (l18_3 + 4), .inr (.inr (some 3000)), .inl ((xs ((l18_3 + 3).toNat)).toInt), .inl ((xs ((l18_3 + 2).toNat)).toInt), .inl ((xs ((l18_3 + 1).toNat)).toInt), .inr (.inr (some 79))]) (w' := (SH, dt3658)) (fun _ => rfl) ?_
            have r3695 := i32_R (xs ((l18_3 + 4).toNat))
            refine go_smp (L' := [some (.inr (.inr (some 3000))), some (.inr (.inr (some 0))), some (.inr (.inr (some 79))), some (.inl l18_3)]) (st' := [.inl ((xs ((l18_3 + 4).toNat)).toInt), .inl ((xs ((l18_3 + 3).toNat)).toInt), .inl ((xs ((l18_3 + 2).toNat)).toInt), .inl ((xs ((l18_3 + 1).toNat)).toInt), .inr (.inr (some 79))]) (w' := (SH, dt3658)) rfl rfl (s_iald (n := L) (f := fun j => (xs j).toInt) (am_scr hLL) ⟨by omega, by omega⟩) ?_
            refine go_call (Q' := _) rfl rfl rfl rfl rfl (sp_X6_weight L xs sio (d + 32) dt3658 hI3659 hM3662  ((xs ((l18_3 + 1).toNat)).toInt) ⟨by omega, by omega⟩ ((xs ((l18_3 + 2).toNat)).toInt) ⟨by omega, by omega⟩ ((xs ((l18_3 + 3).toNat)).toInt) ⟨by omega, by omega⟩ ((xs ((l18_3 + 4).toNat)).toInt) ⟨by omega, by omega⟩ ) ?_
            rintro _ _ ⟨dt3697, rfl, hI3698, hF3699, h3696⟩
            refine ⟨rfl, ?_⟩
            have hF3700 : Fr [0, 1, 2, 3, 4, 5, 6, 7, 8, 9, 10, 11, 12, 13, 14, 15, 16, 17, 18, 19, 20, 21, 22, 23, 24, 25, 26, 27, 28, 29, 30, 31, 32, 33, 34, 35, 36, 37, 38, 39, 40, 41, 42, 43, 44, 45, 46, 47, 48, 49, 50, 51, 52, 53, 54, 55, 56, 57, 58, 59, 60, 61, 62, 63, 64, 65, 66, 67, 68, 69, 70, 71, 72, 73, 74, 75, 76, 77, 78, 79, 80, 81, 82, 83, 84, 85, 86, 87, 88, 89, 90, 91, 92, 93, 94, 95, 96, 97, 98, 99, 100, 101, 102, 103, 104] dt dt3697 := Fr_tr hF3661 hF3699 (by decide)
            have hM3701 : MW (dt3697 80) := MW_fr hM3662 hF3699 (by decide)
            have w3702 : dt3697 1 0 = dt3658 1 0 := hF3699 1 (by decide) 0
            have w3703 : dt3697 7 3 = dt3658 7 3 := hF3699 7 (by decide) 3
            have w3704 : dt3697 10 3 = dt3658 10 3 := hF3699 10 (by decide) 3
            have w3705 : dt3697 12 3 = dt3658 12 3 := hF3699 12 (by decide) 3
            have w3706 : dt3697 14 3 = dt3658 14 3 := hF3699 14 (by decide) 3
            have w3707 : dt3697 16 3 = dt3658 16 3 := hF3699 16 (by decide) 3
            have w3708 : dt3697 18 0 = dt3658 18 0 := hF3699 18 (by decide) 0
            have w3709 : dt3697 24 3 = dt3658 24 3 := hF3699 24 (by decide) 3
            have w3710 : dt3697 27 3 = dt3658 27 3 := hF3699 27 (by decide) 3
            have w3711 : dt3697 29 3 = dt3658 29 3 := hF3699 29 (by decide) 3
            have w3712 : dt3697 31 3 = dt3658 31 3 := hF3699 31 (by decide) 3
            have w3713 : dt3697 33 3 = dt3658 33 3 := hF3699 33 (by decide) 3
            have w3714 : dt3697 0 2 = dt3658 0 2 := hF3699 0 (by decide) 2
            have w3715 : dt3697 35 1 = dt3658 35 1 := hF3699 35 (by decide) 1
            have w3716 : dt3697 80 0 = dt3658 80 0 := hF3699 80 (by decide) 0
            have w3717 : dt3697 80 1 = dt3658 80 1 := hF3699 80 (by decide) 1
            have w3718 : dt3697 80 2 = dt3658 80 2 := hF3699 80 (by decide) 2
            have w3719 : dt3697 80 3 = dt3658 80 3 := hF3699 80 (by decide) 3
            have w3720 : dt3697 80 4 = dt3658 80 4 := hF3699 80 (by decide) 4
            have w3721 : dt3697 80 5 = dt3658 80 5 := hF3699 80 (by decide) 5
            have w3722 : dt3697 81 0 = dt3658 81 0 := hF3699 81 (by decide) 0
            have w3723 : dt3697 81 1 = dt3658 81 1 := hF3699 81 (by decide) 1
            have w3724 : dt3697 81 2 = dt3658 81 2 := hF3699 81 (by decide) 2
            have w3725 : dt3697 81 3 = dt3658 81 3 := hF3699 81 (by decide) 3
            have w3726 : dt3697 81 4 = dt3658 81 4 := hF3699 81 (by decide) 4
            have w3727 : dt3697 81 5 = dt3658 81 5 := hF3699 81 (by decide) 5
            have w3728 : dt3697 79 2 = dt3658 79 2 := hF3699 79 (by decide) 2
            have w3729 : dt3697 79 12 = dt3658 79 12 := hF3699 79 (by decide) 12
            rcases h3696 with ⟨v_h3696, rfl, h3696r, h3696⟩
            have M23730 : MW (dt3697 81) := MW_frk M23691 hF3699 (by decide)
            refine go_to (k := 4) (pc' := 18) (L' := [some (.inr (.inr (some 3000))), some (.inr (.inr (some 0))), some (.inr (.inr (some 79))), some (.inl (l18_3 + 6))]) (st' := []) (w' := (SH, dt3697)) (fun _ => rfl) ?_
            exact GO.le (ih_loop2795 (l18_3 + 6) dt3697 hI3698 hF3700 hM3701 (by omega) (by exact M23730) (by omega) (by omega) (by omega) (by omega) (by omega) (by omega) (by omega) (by omega) (by omega) (by omega) (by omega) (by omega) (by omega) (by omega) (by omega)) ⟨.inl rfl, .inl rfl, .inl rfl, .inl rfl, trivial⟩
          · refine go_swi (v := 12) (p1 := 696) (lo := 0) (hi := 32) rfl c2802 (by decide) rfl ?_
            refine go_to (k := 5) (pc' := 701) (L' := [some (.inr (.inr (some 3000))), some (.inr (.inr (some 0))), some (.inr (.inr (some 79))), some (.inl l18_3)]) (st' := [.inl (l18_3 + 1), .inr (.inr (some 3000)), .inr (.inr (some 0))]) (w' := (SH, dt2776)) (fun _ => rfl) ?_
            have r3731 := i32_R (xs ((l18_3 + 1).toNat))
            refine go_smp (L' := [some (.inr (.inr (some 3000))), some (.inr (.inr (some 0))), some (.inr (.inr (some 79))), some (.inl l18_3)]) (st' := [.inl ((xs ((l18_3 + 1).toNat)).toInt), .inr (.inr (some 0))]) (w' := (SH, dt2776)) rfl rfl (s_iald (n := L) (f := fun j => (xs j).toInt) (am_scr hLL) ⟨by omega, by omega⟩) ?_
            refine go_to (k := 4) (pc' := 706) (L' := [some (.inr (.inr (some 3000))), some (.inr (.inr (some 0))), some (.inr (.inr (some 79))), some (.inl l18_3)]) (st' := [.inl (l18_3 + 2), .inr (.inr (some 3000)), .inl ((xs ((l18_3 + 1).toNat)).toInt), .inr (.inr (some 0))]) (w' := (SH, dt2776)) (fun _ => rfl) ?_
            have r3732 := i32_R (xs ((l18_3 + 2).toNat))
            refine go_smp (L' := [some (.inr (.inr (some 3000))), some (.inr (.inr (some 0))), some (.inr (.inr (some 79))), some (.inl l18_3)]) (st' := [.inl ((xs ((l18_3 + 2).toNat)).toInt), .inl ((xs ((l18_3 + 1).toNat)).toInt), .inr (.inr (some 0))]) (w' := (SH, dt2776)) rfl rfl (s_iald (n := L) (f := fun j => (xs j).toInt) (am_scr hLL) ⟨by omega, by omega⟩) ?_
            refine go_to (k := 4) (pc' := 711) (L' := [some (.inr (.inr (some 3000))), some (.inr (.inr (some 0))), some (.inr (.inr (some 79))), some (.inl l18_3)]) (st' := [.inl (l18_3 + 3), .inr (.inr (some 3000)), .inl ((xs ((l18_3 + 2).toNat)).toInt), .inl ((xs ((l18_3 + 1).toNat)).toInt), .inr (.inr (some 0))]) (w' := (SH, dt2776)) (fun _ => rfl) ?_
            have r3733 := i32_R (xs ((l18_3 + 3).toNat))
            refine go_smp (L' := [some (.inr (.inr (some 3000))), some (.inr (.inr (some 0))), some (.inr (.inr (some 79))), some (.inl l18_3)]) (st' := [.inl ((xs ((l18_3 + 3).toNat)).toInt), .inl ((xs ((l18_3 + 2).toNat)).toInt), .inl ((xs ((l18_3 + 1).toNat)).toInt), .inr (.inr (some 0))]) (w' := (SH, dt2776)) rfl rfl (s_iald (n := L) (f := fun j => (xs j).toInt) (am_scr hLL) ⟨by omega, by omega⟩) ?_
            refine go_call (Q' := _) rfl rfl rfl rfl rfl (sp_X5_ask L xs sio (d + 33) dt2776 hI2777  ((xs ((l18_3 + 1).toNat)).toInt) ⟨by omega, by omega⟩ ((xs ((l18_3 + 2).toNat)).toInt) ⟨by omega, by omega⟩ ((xs ((l18_3 + 3).toNat)).toInt) ⟨by omega, by omega⟩ ) ?_
            rintro _ _ ⟨dt3735, rfl, hI3736, hF3737, h3734⟩
            refine ⟨rfl, ?_⟩
            have hF3738 : Fr [0, 1, 2, 3, 4, 5, 6, 7, 8, 9, 10, 11, 12, 13, 14, 15, 16, 17, 18, 19, 20, 21, 22, 23, 24, 25, 26, 27, 28, 29, 30, 31, 32, 33, 34, 35, 36, 37, 38, 39, 40, 41, 42, 43, 44, 45, 46, 47, 48, 49, 50, 51, 52, 53, 54, 55, 56, 57, 58, 59, 60, 61, 62, 63, 64, 65, 66, 67, 68, 69, 70, 71, 72, 73, 74, 75, 76, 77, 78, 79, 80, 81, 82, 83, 84, 85, 86, 87, 88, 89, 90, 91, 92, 93, 94, 95, 96, 97, 98, 99, 100, 101, 102, 103, 104] dt dt3735 := Fr_tr hF2778 hF3737 (by decide)
            have hM3739 : MW (dt3735 80) := MW_fr hM_dt2776 hF3737 (by decide)
            have w3740 : dt3735 7 3 = dt2776 7 3 := hF3737 7 (by decide) 3
            have w3741 : dt3735 10 3 = dt2776 10 3 := hF3737 10 (by decide) 3
            have w3742 : dt3735 14 3 = dt2776 14 3 := hF3737 14 (by decide) 3
            have w3743 : dt3735 16 3 = dt2776 16 3 := hF3737 16 (by decide) 3
            have w3744 : dt3735 18 0 = dt2776 18 0 := hF3737 18 (by decide) 0
            have w3745 : dt3735 24 3 = dt2776 24 3 := hF3737 24 (by decide) 3
            have w3746 : dt3735 27 3 = dt2776 27 3 := hF3737 27 (by decide) 3
            have w3747 : dt3735 29 3 = dt2776 29 3 := hF3737 29 (by decide) 3
            have w3748 : dt3735 31 3 = dt2776 31 3 := hF3737 31 (by decide) 3
            have w3749 : dt3735 33 3 = dt2776 33 3 := hF3737 33 (by decide) 3
            have w3750 : dt3735 0 2 = dt2776 0 2 := hF3737 0 (by decide) 2
            have w3751 : dt3735 35 1 = dt2776 35 1 := hF3737 35 (by decide) 1
            have w3752 : dt3735 80 0 = dt2776 80 0 := hF3737 80 (by decide) 0
            have w3753 : dt3735 80 1 = dt2776 80 1 := hF3737 80 (by decide) 1
            have w3754 : dt3735 80 2 = dt2776 80 2 := hF3737 80 (by decide) 2
            have w3755 : dt3735 80 3 = dt2776 80 3 := hF3737 80 (by decide) 3
            have w3756 : dt3735 80 4 = dt2776 80 4 := hF3737 80 (by decide) 4
            have w3757 : dt3735 80 5 = dt2776 80 5 := hF3737 80 (by decide) 5
            have w3758 : dt3735 81 0 = dt2776 81 0 := hF3737 81 (by decide) 0
            have w3759 : dt3735 81 1 = dt2776 81 1 := hF3737 81 (by decide) 1
            have w3760 : dt3735 81 2 = dt2776 81 2 := hF3737 81 (by decide) 2
            have w3761 : dt3735 81 3 = dt2776 81 3 := hF3737 81 (by decide) 3
            have w3762 : dt3735 81 4 = dt2776 81 4 := hF3737 81 (by decide) 4
            have w3763 : dt3735 81 5 = dt2776 81 5 := hF3737 81 (by decide) 5
            have w3764 : dt3735 79 2 = dt2776 79 2 := hF3737 79 (by decide) 2
            have w3765 : dt3735 79 12 = dt2776 79 12 := hF3737 79 (by decide) 12
            rcases h3734 with ⟨rfl, h3734⟩ | ⟨v_h3734, rfl, h3734r, h3734⟩
            · skip
              obtain ⟨h3734_0, h3734_1, h3734_2⟩ := h3734
              have M23766 : MW (dt3735 81) := MW_frk hM2L hF3737 (by decide)
              refine go_to (k := 6) (pc' := 721) (L' := [some (.inr (.inr (some 3000))), some (.inr (.inr (some 0))), some (.inr (.inr (some 79))), some (.inl l18_3)]) (st' := [.inl (l18_3 + 1), .inr (.inr (some 3000)), .inr (.inr (some 79))]) (w' := (SH, dt3735)) (fun _ => rfl) ?_
              have r3767 := i32_R (xs ((l18_3 + 1).toNat))
              refine go_smp (L' := [some (.inr (.inr (some 3000))), some (.inr (.inr (some 0))), some (.inr (.inr (some 79))), some (.inl l18_3)]) (st' := [.inl ((xs ((l18_3 + 1).toNat)).toInt), .inr (.inr (some 79))]) (w' := (SH, dt3735)) rfl rfl (s_iald (n := L) (f := fun j => (xs j).toInt) (am_scr hLL) ⟨by omega, by omega⟩) ?_
              refine go_to (k := 4) (pc' := 726) (L' := [some (.inr (.inr (some 3000))), some (.inr (.inr (some 0))), some (.inr (.inr (some 79))), some (.inl l18_3)]) (st' := [.inl (l18_3 + 2), .inr (.inr (some 3000)), .inl ((xs ((l18_3 + 1).toNat)).toInt), .inr (.inr (some 79))]) (w' := (SH, dt3735)) (fun _ => rfl) ?_
              have r3768 := i32_R (xs ((l18_3 + 2).toNat))
              refine go_smp (L' := [some (.inr (.inr (some 3000))), some (.inr (.inr (some 0))), some (.inr (.inr (some 79))), some (.inl l18_3)]) (st' := [.inl ((xs ((l18_3 + 2).toNat)).toInt), .inl ((xs ((l18_3 + 1).toNat)).toInt), .inr (.inr (some 79))]) (w' := (SH, dt3735)) rfl rfl (s_iald (n := L) (f := fun j => (xs j).toInt) (am_scr hLL) ⟨by omega, by omega⟩) ?_
              refine go_to (k := 4) (pc' := 731) (L' := [some (.inr (.inr (some 3000))), some (.inr (.inr (some 0))), some (.inr (.inr (some 79))), some (.inl l18_3)]) (st' := [.inl (l18_3 + 3), .inr (.inr (some 3000)), .inl ((xs ((l18_3 + 2).toNat)).toInt), .inl ((xs ((l18_3 + 1).toNat)).toInt), .inr (.inr (some 79))]) (w' := (SH, dt3735)) (fun _ => rfl) ?_
              have r3769 := i32_R (xs ((l18_3 + 3).toNat))
              refine go_smp (L' := [some (.inr (.inr (some 3000))), some (.inr (.inr (some 0))), some (.inr (.inr (some 79))), some (.inl l18_3)]) (st' := [.inl ((xs ((l18_3 + 3).toNat)).toInt), .inl ((xs ((l18_3 + 2).toNat)).toInt), .inl ((xs ((l18_3 + 1).toNat)).toInt), .inr (.inr (some 79))]) (w' := (SH, dt3735)) rfl rfl (s_iald (n := L) (f := fun j => (xs j).toInt) (am_scr hLL) ⟨by omega, by omega⟩) ?_
              refine go_call (Q' := _) rfl rfl rfl rfl rfl (sp_X6_ask L xs sio (d + 32) dt3735 hI3736 hM3739  ((xs ((l18_3 + 1).toNat)).toInt) ⟨by omega, by omega⟩ ((xs ((l18_3 + 2).toNat)).toInt) ⟨by omega, by omega⟩ ((xs ((l18_3 + 3).toNat)).toInt) ⟨by omega, by omega⟩ ) ?_
              rintro _ _ ⟨dt3771, rfl, hI3772, hF3773, h3770⟩
              refine ⟨rfl, ?_⟩
              have hF3774 : Fr [0, 1, 2, 3, 4, 5, 6, 7, 8, 9, 10, 11, 12, 13, 14, 15, 16, 17, 18, 19, 20, 21, 22, 23, 24, 25, 26, 27, 28, 29, 30, 31, 32, 33, 34, 35, 36, 37, 38, 39, 40, 41, 42, 43, 44, 45, 46, 47, 48, 49, 50, 51, 52, 53, 54, 55, 56, 57, 58, 59, 60, 61, 62, 63, 64, 65, 66, 67, 68, 69, 70, 71, 72, 73, 74, 75, 76, 77, 78, 79, 80, 81, 82, 83, 84, 85, 86, 87, 88, 89, 90, 91, 92, 93, 94, 95, 96, 97, 98, 99, 100, 101, 102, 103, 104] dt dt3771 := Fr_tr hF3738 hF3773 (by decide)
              have w3775 : dt3771 1 0 = dt3735 1 0 := hF3773 1 (by decide) 0
              have w3776 : dt3771 7 3 = dt3735 7 3 := hF3773 7 (by decide) 3
              have w3777 : dt3771 10 3 = dt3735 10 3 := hF3773 10 (by decide) 3
              have w3778 : dt3771 12 3 = dt3735 12 3 := hF3773 12 (by decide) 3
              have w3779 : dt3771 14 3 = dt3735 14 3 := hF3773 14 (by decide) 3
              have w3780 : dt3771 16 3 = dt3735 16 3 := hF3773 16 (by decide) 3
              have w3781 : dt3771 18 0 = dt3735 18 0 := hF3773 18 (by decide) 0
              have w3782 : dt3771 24 3 = dt3735 24 3 := hF3773 24 (by decide) 3
              have w3783 : dt3771 27 3 = dt3735 27 3 := hF3773 27 (by decide) 3
              have w3784 : dt3771 29 3 = dt3735 29 3 := hF3773 29 (by decide) 3
              have w3785 : dt3771 31 3 = dt3735 31 3 := hF3773 31 (by decide) 3
              have w3786 : dt3771 33 3 = dt3735 33 3 := hF3773 33 (by decide) 3
              have w3787 : dt3771 0 2 = dt3735 0 2 := hF3773 0 (by decide) 2
              have w3788 : dt3771 35 1 = dt3735 35 1 := hF3773 35 (by decide) 1
              have w3789 : dt3771 81 0 = dt3735 81 0 := hF3773 81 (by decide) 0
              have w3790 : dt3771 81 1 = dt3735 81 1 := hF3773 81 (by decide) 1
              have w3791 : dt3771 81 2 = dt3735 81 2 := hF3773 81 (by decide) 2
              have w3792 : dt3771 81 3 = dt3735 81 3 := hF3773 81 (by decide) 3
              have w3793 : dt3771 81 4 = dt3735 81 4 := hF3773 81 (by decide) 4
              have w3794 : dt3771 81 5 = dt3735 81 5 := hF3773 81 (by decide) 5
              have w3795 : dt3771 79 2 = dt3735 79 2 := hF3773 79 (by decide) 2
              have w3796 : dt3771 79 12 = dt3735 79 12 := hF3773 79 (by decide) 12
              rcases h3770 with ⟨rfl, h3770⟩ | ⟨v_h3770, rfl, h3770r, h3770⟩
              · skip
                have hM3797 : MW (dt3771 80) := h3770.2.1
                obtain ⟨h3770_0, h3770_1, h3770_2, h3770_3, h3770_4, h3770_5, h3770_6, h3770_7⟩ := h3770
                have M23798 : MW (dt3771 81) := MW_frk M23766 hF3773 (by decide)
                refine go_to (k := 4) (pc' := 18) (L' := [some (.inr (.inr (some 3000))), some (.inr (.inr (some 0))), some (.inr (.inr (some 79))), some (.inl (l18_3 + 6))]) (st' := []) (w' := (SH, dt3771)) (fun _ => rfl) ?_
                exact GO.le (ih_loop2795 (l18_3 + 6) dt3771 hI3772 hF3774 hM3797 (by omega) (by exact M23798) (by omega) (by omega) (by omega) (by omega) (by omega) (by omega) (by omega) (by omega) (by omega) (by omega) (by omega) (by omega) (by omega) (by omega) (by omega)) ⟨.inl rfl, .inl rfl, .inl rfl, .inl rfl, trivial⟩
              · skip
                have hM3799 : MW (dt3771 80) := h3770.2.1
                obtain ⟨h3770_0, h3770_1, h3770_2, h3770_3, h3770_4, h3770_5, h3770_6, h3770_7⟩ := h3770
                have M23800 : MW (dt3771 81) := MW_frk M23766 hF3773 (by decide)
                refine go_to (k := 4) (pc' := 18) (L' := [some (.inr (.inr (some 3000))), some (.inr (.inr (some 0))), some (.inr (.inr (some 79))), some (.inl (l18_3 + 6))]) (st' := []) (w' := (SH, dt3771)) (fun _ => rfl) ?_
                exact GO.le (ih_loop2795 (l18_3 + 6) dt3771 hI3772 hF3774 hM3799 (by omega) (by exact M23800) (by omega) (by omega) (by omega) (by omega) (by omega) (by omega) (by omega) (by omega) (by omega) (by omega) (by omega) (by omega) (by omega) (by omega) (by omega)) ⟨.inl rfl, .inl rfl, .inl rfl, .inl rfl, trivial⟩
            · skip
              obtain ⟨h3734_0, h3734_1, h3734_2⟩ := h3734
              have M23801 : MW (dt3735 81) := MW_frk hM2L hF3737 (by decide)
              refine go_to (k := 6) (pc' := 721) (L' := [some (.inr (.inr (some 3000))), some (.inr (.inr (some 0))), some (.inr (.inr (some 79))), some (.inl l18_3)]) (st' := [.inl (l18_3 + 1), .inr (.inr (some 3000)), .inr (.inr (some 79))]) (w' := (SH, dt3735)) (fun _ => rfl) ?_
              have r3802 := i32_R (xs ((l18_3 + 1).toNat))
              refine go_smp (L' := [some (.inr (.inr (some 3000))), some (.inr (.inr (some 0))), some (.inr (.inr (some 79))), some (.inl l18_3)]) (st' := [.inl ((xs ((l18_3 + 1).toNat)).toInt), .inr (.inr (some 79))]) (w' := (SH, dt3735)) rfl rfl (s_iald (n := L) (f := fun j => (xs j).toInt) (am_scr hLL) ⟨by omega, by omega⟩) ?_
              refine go_to (k := 4) (pc' := 726) (L' := [some (.inr (.inr (some 3000))), some (.inr (.inr (some 0))), some (.inr (.inr (some 79))), some (.inl l18_3)]) (st' := [.inl (l18_3 + 2), .inr (.inr (some 3000)), .inl ((xs ((l18_3 + 1).toNat)).toInt), .inr (.inr (some 79))]) (w' := (SH, dt3735)) (fun _ => rfl) ?_
              have r3803 := i32_R (xs ((l18_3 + 2).toNat))
              refine go_smp (L' := [some (.inr (.inr (some 3000))), some (.inr (.inr (some 0))), some (.inr (.inr (some 79))), some (.inl l18_3)]) (st' := [.inl ((xs ((l18_3 + 2).toNat)).toInt), .inl ((xs ((l18_3 + 1).toNat)).toInt), .inr (.inr (some 79))]) (w' := (SH, dt3735)) rfl rfl (s_iald (n := L) (f := fun j => (xs j).toInt) (am_scr hLL) ⟨by omega, by omega⟩) ?_
              refine go_to (k := 4) (pc' := 731) (L' := [some (.inr (.inr (some 3000))), some (.inr (.inr (some 0))), some (.inr (.inr (some 79))), some (.inl l18_3)]) (st' := [.inl (l18_3 + 3), .inr (.inr (some 3000)), .inl ((xs ((l18_3 + 2).toNat)).toInt), .inl ((xs ((l18_3 + 1).toNat)).toInt), .inr (.inr (some 79))]) (w' := (SH, dt3735)) (fun _ => rfl) ?_
              have r3804 := i32_R (xs ((l18_3 + 3).toNat))
              refine go_smp (L' := [some (.inr (.inr (some 3000))), some (.inr (.inr (some 0))), some (.inr (.inr (some 79))), some (.inl l18_3)]) (st' := [.inl ((xs ((l18_3 + 3).toNat)).toInt), .inl ((xs ((l18_3 + 2).toNat)).toInt), .inl ((xs ((l18_3 + 1).toNat)).toInt), .inr (.inr (some 79))]) (w' := (SH, dt3735)) rfl rfl (s_iald (n := L) (f := fun j => (xs j).toInt) (am_scr hLL) ⟨by omega, by omega⟩) ?_
              refine go_call (Q' := _) rfl rfl rfl rfl rfl (sp_X6_ask L xs sio (d + 32) dt3735 hI3736 hM3739  ((xs ((l18_3 + 1).toNat)).toInt) ⟨by omega, by omega⟩ ((xs ((l18_3 + 2).toNat)).toInt) ⟨by omega, by omega⟩ ((xs ((l18_3 + 3).toNat)).toInt) ⟨by omega, by omega⟩ ) ?_
              rintro _ _ ⟨dt3806, rfl, hI3807, hF3808, h3805⟩
              refine ⟨rfl, ?_⟩
              have hF3809 : Fr [0, 1, 2, 3, 4, 5, 6, 7, 8, 9, 10, 11, 12, 13, 14, 15, 16, 17, 18, 19, 20, 21, 22, 23, 24, 25, 26, 27, 28, 29, 30, 31, 32, 33, 34, 35, 36, 37, 38, 39, 40, 41, 42, 43, 44, 45, 46, 47, 48, 49, 50, 51, 52, 53, 54, 55, 56, 57, 58, 59, 60, 61, 62, 63, 64, 65, 66, 67, 68, 69, 70, 71, 72, 73, 74, 75, 76, 77, 78, 79, 80, 81, 82, 83, 84, 85, 86, 87, 88, 89, 90, 91, 92, 93, 94, 95, 96, 97, 98, 99, 100, 101, 102, 103, 104] dt dt3806 := Fr_tr hF3738 hF3808 (by decide)
              have w3810 : dt3806 1 0 = dt3735 1 0 := hF3808 1 (by decide) 0
              have w3811 : dt3806 7 3 = dt3735 7 3 := hF3808 7 (by decide) 3
              have w3812 : dt3806 10 3 = dt3735 10 3 := hF3808 10 (by decide) 3
              have w3813 : dt3806 12 3 = dt3735 12 3 := hF3808 12 (by decide) 3
              have w3814 : dt3806 14 3 = dt3735 14 3 := hF3808 14 (by decide) 3
              have w3815 : dt3806 16 3 = dt3735 16 3 := hF3808 16 (by decide) 3
              have w3816 : dt3806 18 0 = dt3735 18 0 := hF3808 18 (by decide) 0
              have w3817 : dt3806 24 3 = dt3735 24 3 := hF3808 24 (by decide) 3
              have w3818 : dt3806 27 3 = dt3735 27 3 := hF3808 27 (by decide) 3
              have w3819 : dt3806 29 3 = dt3735 29 3 := hF3808 29 (by decide) 3
              have w3820 : dt3806 31 3 = dt3735 31 3 := hF3808 31 (by decide) 3
              have w3821 : dt3806 33 3 = dt3735 33 3 := hF3808 33 (by decide) 3
              have w3822 : dt3806 0 2 = dt3735 0 2 := hF3808 0 (by decide) 2
              have w3823 : dt3806 35 1 = dt3735 35 1 := hF3808 35 (by decide) 1
              have w3824 : dt3806 81 0 = dt3735 81 0 := hF3808 81 (by decide) 0
              have w3825 : dt3806 81 1 = dt3735 81 1 := hF3808 81 (by decide) 1
              have w3826 : dt3806 81 2 = dt3735 81 2 := hF3808 81 (by decide) 2
              have w3827 : dt3806 81 3 = dt3735 81 3 := hF3808 81 (by decide) 3
              have w3828 : dt3806 81 4 = dt3735 81 4 := hF3808 81 (by decide) 4
              have w3829 : dt3806 81 5 = dt3735 81 5 := hF3808 81 (by decide) 5
              have w3830 : dt3806 79 2 = dt3735 79 2 := hF3808 79 (by decide) 2
              have w3831 : dt3806 79 12 = dt3735 79 12 := hF3808 79 (by decide) 12
              rcases h3805 with ⟨rfl, h3805⟩ | ⟨v_h3805, rfl, h3805r, h3805⟩
              · skip
                have hM3832 : MW (dt3806 80) := h3805.2.1
                obtain ⟨h3805_0, h3805_1, h3805_2, h3805_3, h3805_4, h3805_5, h3805_6, h3805_7⟩ := h3805
                have M23833 : MW (dt3806 81) := MW_frk M23801 hF3808 (by decide)
                refine go_to (k := 4) (pc' := 18) (L' := [some (.inr (.inr (some 3000))), some (.inr (.inr (some 0))), some (.inr (.inr (some 79))), some (.inl (l18_3 + 6))]) (st' := []) (w' := (SH, dt3806)) (fun _ => rfl) ?_
                exact GO.le (ih_loop2795 (l18_3 + 6) dt3806 hI3807 hF3809 hM3832 (by omega) (by exact M23833) (by omega) (by omega) (by omega) (by omega) (by omega) (by omega) (by omega) (by omega) (by omega) (by omega) (by omega) (by omega) (by omega) (by omega) (by omega)) ⟨.inl rfl, .inl rfl, .inl rfl, .inl rfl, trivial⟩
              · skip
                have hM3834 : MW (dt3806 80) := h3805.2.1
                obtain ⟨h3805_0, h3805_1, h3805_2, h3805_3, h3805_4, h3805_5, h3805_6, h3805_7⟩ := h3805
                have M23835 : MW (dt3806 81) := MW_frk M23801 hF3808 (by decide)
                refine go_to (k := 4) (pc' := 18) (L' := [some (.inr (.inr (some 3000))), some (.inr (.inr (some 0))), some (.inr (.inr (some 79))), some (.inl (l18_3 + 6))]) (st' := []) (w' := (SH, dt3806)) (fun _ => rfl) ?_
                exact GO.le (ih_loop2795 (l18_3 + 6) dt3806 hI3807 hF3809 hM3834 (by omega) (by exact M23835) (by omega) (by omega) (by omega) (by omega) (by omega) (by omega) (by omega) (by omega) (by omega) (by omega) (by omega) (by omega) (by omega) (by omega) (by omega)) ⟨.inl rfl, .inl rfl, .inl rfl, .inl rfl, trivial⟩
          · refine go_swi (v := 13) (p1 := 739) (lo := 0) (hi := 32) rfl c2802 (by decide) rfl ?_
            refine go_to (k := 5) (pc' := 744) (L' := [some (.inr (.inr (some 3000))), some (.inr (.inr (some 0))), some (.inr (.inr (some 79))), some (.inl l18_3)]) (st' := [.inl (l18_3 + 1), .inr (.inr (some 3000)), .inr (.inr (some 0))]) (w' := (SH, dt2776)) (fun _ => rfl) ?_
            have r3836 := i32_R (xs ((l18_3 + 1).toNat))
            refine go_smp (L' := [some (.inr (.inr (some 3000))), some (.inr (.inr (some 0))), some (.inr (.inr (some 79))), some (.inl l18_3)]) (st' := [.inl ((xs ((l18_3 + 1).toNat)).toInt), .inr (.inr (some 0))]) (w' := (SH, dt2776)) rfl rfl (s_iald (n := L) (f := fun j => (xs j).toInt) (am_scr hLL) ⟨by omega, by omega⟩) ?_
            refine go_to (k := 4) (pc' := 749) (L' := [some (.inr (.inr (some 3000))), some (.inr (.inr (some 0))), some (.inr (.inr (some 79))), some (.inl l18_3)]) (st' := [.inl (l18_3 + 2), .inr (.inr (some 3000)), .inl ((xs ((l18_3 + 1).toNat)).toInt), .inr (.inr (some 0))]) (w' := (SH, dt2776)) (fun _ => rfl) ?_
            have r3837 := i32_R (xs ((l18_3 + 2).toNat))
            refine go_smp (L' := [some (.inr (.inr (some 3000))), some (.inr (.inr (some 0))), some (.inr (.inr (some 79))), some (.inl l18_3)]) (st' := [.inl ((xs ((l18_3 + 2).toNat)).toInt), .inl ((xs ((l18_3 + 1).toNat)).toInt), .inr (.inr (some 0))]) (w' := (SH, dt2776)) rfl rfl (s_iald (n := L) (f := fun j => (xs j).toInt) (am_scr hLL) ⟨by omega, by omega⟩) ?_
            refine go_to (k := 4) (pc' := 754) (L' := [some (.inr (.inr (some 3000))), some (.inr (.inr (some 0))), some (.inr (.inr (some 79))), some (.inl l18_3)]) (st' := [.inl (l18_3 + 3), .inr (.inr (some 3000)), .inl ((xs ((l18_3 + 2).toNat)).toInt), .inl ((xs ((l18_3 + 1).toNat)).toInt), .inr (.inr (some 0))]) (w' := (SH, dt2776)) (fun _ => rfl) ?_
            have r3838 := i32_R (xs ((l18_3 + 3).toNat))
            refine go_smp (L' := [some (.inr (.inr (some 3000))), some (.inr (.inr (some 0))), some (.inr (.inr (some 79))), some (.inl l18_3)]) (st' := [.inl ((xs ((l18_3 + 3).toNat)).toInt), .inl ((xs ((l18_3 + 2).toNat)).toInt), .inl ((xs ((l18_3 + 1).toNat)).toInt), .inr (.inr (some 0))]) (w' := (SH, dt2776)) rfl rfl (s_iald (n := L) (f := fun j => (xs j).toInt) (am_scr hLL) ⟨by omega, by omega⟩) ?_
            refine go_to (k := 4) (pc' := 759) (L' := [some (.inr (.inr (some 3000))), some (.inr (.inr (some 0))), some (.inr (.inr (some 79))), some (.inl l18_3)]) (st' := [.inl (l18_3 + 4), .inr (.inr (some 3000)), .inl ((xs ((l18_3 + 3).toNat)).toInt), .inl ((xs ((l18_3 + 2).toNat)).toInt), .inl ((xs ((l18_3 + 1).toNat)).toInt), .inr (.inr (some 0))]) (w' := (SH, dt2776)) (fun _ => rfl) ?_
            have r3839 := i32_R (xs ((l18_3 + 4).toNat))
            refine go_smp (L' := [some (.inr (.inr (some 3000))), some (.inr (.inr (some 0))), some (.inr (.inr (some 79))), some (.inl l18_3)]) (st' := [.inl ((xs ((l18_3 + 4).toNat)).toInt), .inl ((xs ((l18_3 + 3).toNat)).toInt), .inl ((xs ((l18_3 + 2).toNat)).toInt), .inl ((xs ((l18_3 + 1).toNat)).toInt), .inr (.inr (some 0))]) (w' := (SH, dt2776)) rfl rfl (s_iald (n := L) (f := fun j => (xs j).toInt) (am_scr hLL) ⟨by omega, by omega⟩) ?_
            refine go_call (Q' := _) rfl rfl rfl rfl rfl (sp_X5_told L xs sio (d + 36) dt2776 hI2777  ((xs ((l18_3 + 1).toNat)).toInt) ⟨by omega, by omega⟩ ((xs ((l18_3 + 2).toNat)).toInt) ⟨by omega, by omega⟩ ((xs ((l18_3 + 3).toNat)).toInt) ⟨by omega, by omega⟩ ((xs ((l18_3 + 4).toNat)).toInt) ⟨by omega, by omega⟩ ) ?_
            rintro _ _ ⟨dt3841, rfl, hI3842, hF3843, h3840⟩
            refine ⟨rfl, ?_⟩
            have hF3844 : Fr [0, 1, 2, 3, 4, 5, 6, 7, 8, 9, 10, 11, 12, 13, 14, 15, 16, 17, 18, 19, 20, 21, 22, 23, 24, 25, 26, 27, 28, 29, 30, 31, 32, 33, 34, 35, 36, 37, 38, 39, 40, 41, 42, 43, 44, 45, 46, 47, 48, 49, 50, 51, 52, 53, 54, 55, 56, 57, 58, 59, 60, 61, 62, 63, 64, 65, 66, 67, 68, 69, 70, 71, 72, 73, 74, 75, 76, 77, 78, 79, 80, 81, 82, 83, 84, 85, 86, 87, 88, 89, 90, 91, 92, 93, 94, 95, 96, 97, 98, 99, 100, 101, 102, 103, 104] dt dt3841 := Fr_tr hF2778 hF3843 (by decide)
            have hM3845 : MW (dt3841 80) := MW_fr hM_dt2776 hF3843 (by decide)
            have w3846 : dt3841 1 0 = dt2776 1 0 := hF3843 1 (by decide) 0
            have w3847 : dt3841 7 3 = dt2776 7 3 := hF3843 7 (by decide) 3
            have w3848 : dt3841 10 3 = dt2776 10 3 := hF3843 10 (by decide) 3
            have w3849 : dt3841 14 3 = dt2776 14 3 := hF3843 14 (by decide) 3
            have w3850 : dt3841 16 3 = dt2776 16 3 := hF3843 16 (by decide) 3
            have w3851 : dt3841 18 0 = dt2776 18 0 := hF3843 18 (by decide) 0
            have w3852 : dt3841 24 3 = dt2776 24 3 := hF3843 24 (by decide) 3
            have w3853 : dt3841 27 3 = dt2776 27 3 := hF3843 27 (by decide) 3
            have w3854 : dt3841 29 3 = dt2776 29 3 := hF3843 29 (by decide) 3
            have w3855 : dt3841 31 3 = dt2776 31 3 := hF3843 31 (by decide) 3
            have w3856 : dt3841 33 3 = dt2776 33 3 := hF3843 33 (by decide) 3
            have w3857 : dt3841 0 2 = dt2776 0 2 := hF3843 0 (by decide) 2
            have w3858 : dt3841 35 1 = dt2776 35 1 := hF3843 35 (by decide) 1
            have w3859 : dt3841 80 0 = dt2776 80 0 := hF3843 80 (by decide) 0
            have w3860 : dt3841 80 1 = dt2776 80 1 := hF3843 80 (by decide) 1
            have w3861 : dt3841 80 2 = dt2776 80 2 := hF3843 80 (by decide) 2
            have w3862 : dt3841 80 3 = dt2776 80 3 := hF3843 80 (by decide) 3
            have w3863 : dt3841 80 4 = dt2776 80 4 := hF3843 80 (by decide) 4
            have w3864 : dt3841 80 5 = dt2776 80 5 := hF3843 80 (by decide) 5
            have w3865 : dt3841 81 0 = dt2776 81 0 := hF3843 81 (by decide) 0
            have w3866 : dt3841 81 1 = dt2776 81 1 := hF3843 81 (by decide) 1
            have w3867 : dt3841 81 2 = dt2776 81 2 := hF3843 81 (by decide) 2
            have w3868 : dt3841 81 3 = dt2776 81 3 := hF3843 81 (by decide) 3
            have w3869 : dt3841 81 4 = dt2776 81 4 := hF3843 81 (by decide) 4
            have w3870 : dt3841 81 5 = dt2776 81 5 := hF3843 81 (by decide) 5
            have w3871 : dt3841 79 2 = dt2776 79 2 := hF3843 79 (by decide) 2
            have w3872 : dt3841 79 12 = dt2776 79 12 := hF3843 79 (by decide) 12
            rcases h3840 with ⟨rfl, h3840⟩ | ⟨v_h3840, rfl, h3840r, h3840⟩
            · skip
              obtain ⟨h3840_0, h3840_1⟩ := h3840
              have M23873 : MW (dt3841 81) := MW_frk hM2L hF3843 (by decide)
              refine go_to (k := 6) (pc' := 769) (L' := [some (.inr (.inr (some 3000))), some (.inr (.inr (some 0))), some (.inr (.inr (some 79))), some (.inl l18_3)]) (st' := [.inl (l18_3 + 1), .inr (.inr (some 3000)), .inr (.inr (some 79))]) (w' := (SH, dt3841)) (fun _ => rfl) ?_
              have r3874 := i32_R (xs ((l18_3 + 1).toNat))
              refine go_smp (L' := [some (.inr (.inr (some 3000))), some (.inr (.inr (some 0))), some (.inr (.inr (some 79))), some (.inl l18_3)]) (st' := [.inl ((xs ((l18_3 + 1).toNat)).toInt), .inr (.inr (some 79))]) (w' := (SH, dt3841)) rfl rfl (s_iald (n := L) (f := fun j => (xs j).toInt) (am_scr hLL) ⟨by omega, by omega⟩) ?_
              refine go_to (k := 4) (pc' := 774) (L' := [some (.inr (.inr (some 3000))), some (.inr (.inr (some 0))), some (.inr (.inr (some 79))), some (.inl l18_3)]) (st' := [.inl (l18_3 + 2), .inr (.inr (some 3000)), .inl ((xs ((l18_3 + 1).toNat)).toInt), .inr (.inr (some 79))]) (w' := (SH, dt3841)) (fun _ => rfl) ?_
              have r3875 := i32_R (xs ((l18_3 + 2).toNat))
              refine go_smp (L' := [some (.inr (.inr (some 3000))), some (.inr (.inr (some 0))), some (.inr (.inr (some 79))), some (.inl l18_3)]) (st' := [.inl ((xs ((l18_3 + 2).toNat)).toInt), .inl ((xs ((l18_3 + 1).toNat)).toInt), .inr (.inr (some 79))]) (w' := (SH, dt3841)) rfl rfl (s_iald (n := L) (f := fun j => (xs j).toInt) (am_scr hLL) ⟨by omega, by omega⟩) ?_
              refine go_to (k := 4) (pc' := 779) (L' := [some (.inr (.inr (some 3000))), some (.inr (.inr (some 0))), some (.inr (.inr (some 79))), some (.inl l18_3)]) (st' := [.inl (l18_3 + 3), .inr (.inr (some 3000)), .inl ((xs ((l18_3 + 2).toNat)).toInt), .inl ((xs ((l18_3 + 1).toNat)).toInt), .inr (.inr (some 79))]) (w' := (SH, dt3841)) (fun _ => rfl) ?_
              have r3876 := i32_R (xs ((l18_3 + 3).toNat))
              refine go_smp (L' := [some (.inr (.inr (some 3000))), some (.inr (.inr (some 0))), some (.inr (.inr (some 79))), some (.inl l18_3)]) (st' := [.inl ((xs ((l18_3 + 3).toNat)).toInt), .inl ((xs ((l18_3 + 2).toNat)).toInt), .inl ((xs ((l18_3 + 1).toNat)).toInt), .inr (.inr (some 79))]) (w' := (SH, dt3841)) rfl rfl (s_iald (n := L) (f := fun j => (xs j).toInt) (am_scr hLL) ⟨by omega, by omega⟩) ?_
              refine go_to (k := 4) (pc' := 784) (L' := [some (.inr (.inr (some 3000))), some (.inr (.inr (some 0))), some (.inr (.inr (some 79))), some (.inl l18_3)]) (st' := [.inl (l18_3 + 4), .inr (.inr (some 3000)), .inl ((xs ((l18_3 + 3).toNat)).toInt), .inl ((xs ((l18_3 + 2).toNat)).toInt), .inl ((xs ((l18_3 + 1).toNat)).toInt), .inr (.inr (some 79))]) (w' := (SH, dt3841)) (fun _ => rfl) ?_
              have r3877 := i32_R (xs ((l18_3 + 4).toNat))
              refine go_smp (L' := [some (.inr (.inr (some 3000))), some (.inr (.inr (some 0))), some (.inr (.inr (some 79))), some (.inl l18_3)]) (st' := [.inl ((xs ((l18_3 + 4).toNat)).toInt), .inl ((xs ((l18_3 + 3).toNat)).toInt), .inl ((xs ((l18_3 + 2).toNat)).toInt), .inl ((xs ((l18_3 + 1).toNat)).toInt), .inr (.inr (some 79))]) (w' := (SH, dt3841)) rfl rfl (s_iald (n := L) (f := fun j => (xs j).toInt) (am_scr hLL) ⟨by omega, by omega⟩) ?_
              refine go_call (Q' := _) rfl rfl rfl rfl rfl (sp_X6_told L xs sio (d + 36) dt3841 hI3842 hM3845  ((xs ((l18_3 + 1).toNat)).toInt) ⟨by omega, by omega⟩ ((xs ((l18_3 + 2).toNat)).toInt) ⟨by omega, by omega⟩ ((xs ((l18_3 + 3).toNat)).toInt) ⟨by omega, by omega⟩ ((xs ((l18_3 + 4).toNat)).toInt) ⟨by omega, by omega⟩ ) ?_
              rintro _ _ ⟨dt3879, rfl, hI3880, hF3881, h3878⟩
              refine ⟨rfl, ?_⟩
              have hF3882 : Fr [0, 1, 2, 3, 4, 5, 6, 7, 8, 9, 10, 11, 12, 13, 14, 15, 16, 17, 18, 19, 20, 21, 22, 23, 24, 25, 26, 27, 28, 29, 30, 31, 32, 33, 34, 35, 36, 37, 38, 39, 40, 41, 42, 43, 44, 45, 46, 47, 48, 49, 50, 51, 52, 53, 54, 55, 56, 57, 58, 59, 60, 61, 62, 63, 64, 65, 66, 67, 68, 69, 70, 71, 72, 73, 74, 75, 76, 77, 78, 79, 80, 81, 82, 83, 84, 85, 86, 87, 88, 89, 90, 91, 92, 93, 94, 95, 96, 97, 98, 99, 100, 101, 102, 103, 104] dt dt3879 := Fr_tr hF3844 hF3881 (by decide)
              have w3883 : dt3879 1 0 = dt3841 1 0 := hF3881 1 (by decide) 0
              have w3884 : dt3879 7 3 = dt3841 7 3 := hF3881 7 (by decide) 3
              have w3885 : dt3879 10 3 = dt3841 10 3 := hF3881 10 (by decide) 3
              have w3886 : dt3879 12 3 = dt3841 12 3 := hF3881 12 (by decide) 3
              have w3887 : dt3879 14 3 = dt3841 14 3 := hF3881 14 (by decide) 3
              have w3888 : dt3879 16 3 = dt3841 16 3 := hF3881 16 (by decide) 3
              have w3889 : dt3879 18 0 = dt3841 18 0 := hF3881 18 (by decide) 0
              have w3890 : dt3879 24 3 = dt3841 24 3 := hF3881 24 (by decide) 3
              have w3891 : dt3879 27 3 = dt3841 27 3 := hF3881 27 (by decide) 3
              have w3892 : dt3879 29 3 = dt3841 29 3 := hF3881 29 (by decide) 3
              have w3893 : dt3879 31 3 = dt3841 31 3 := hF3881 31 (by decide) 3
              have w3894 : dt3879 33 3 = dt3841 33 3 := hF3881 33 (by decide) 3
              have w3895 : dt3879 0 2 = dt3841 0 2 := hF3881 0 (by decide) 2
              have w3896 : dt3879 35 1 = dt3841 35 1 := hF3881 35 (by decide) 1
              have w3897 : dt3879 81 0 = dt3841 81 0 := hF3881 81 (by decide) 0
              have w3898 : dt3879 81 1 = dt3841 81 1 := hF3881 81 (by decide) 1
              have w3899 : dt3879 81 2 = dt3841 81 2 := hF3881 81 (by decide) 2
              have w3900 : dt3879 81 3 = dt3841 81 3 := hF3881 81 (by decide) 3
              have w3901 : dt3879 81 4 = dt3841 81 4 := hF3881 81 (by decide) 4
              have w3902 : dt3879 81 5 = dt3841 81 5 := hF3881 81 (by decide) 5
              have w3903 : dt3879 79 2 = dt3841 79 2 := hF3881 79 (by decide) 2
              have w3904 : dt3879 79 12 = dt3841 79 12 := hF3881 79 (by decide) 12
              rcases h3878 with ⟨rfl, h3878⟩ | ⟨v_h3878, rfl, h3878r, h3878⟩
              · skip
                have hM3905 : MW (dt3879 80) := h3878.2.1
                obtain ⟨h3878_0, h3878_1, h3878_2, h3878_3, h3878_4, h3878_5, h3878_6, h3878_7⟩ := h3878
                have M23906 : MW (dt3879 81) := MW_frk M23873 hF3881 (by decide)
                refine go_to (k := 4) (pc' := 18) (L' := [some (.inr (.inr (some 3000))), some (.inr (.inr (some 0))), some (.inr (.inr (some 79))), some (.inl (l18_3 + 6))]) (st' := []) (w' := (SH, dt3879)) (fun _ => rfl) ?_
                exact GO.le (ih_loop2795 (l18_3 + 6) dt3879 hI3880 hF3882 hM3905 (by omega) (by exact M23906) (by omega) (by omega) (by omega) (by omega) (by omega) (by omega) (by omega) (by omega) (by omega) (by omega) (by omega) (by omega) (by omega) (by omega) (by omega)) ⟨.inl rfl, .inl rfl, .inl rfl, .inl rfl, trivial⟩
              · skip
                have hM3907 : MW (dt3879 80) := h3878.2.2.1
                obtain ⟨h3878_0, h3878_1, h3878_2, h3878_3, h3878_4, h3878_5, h3878_6, h3878_7, h3878_8⟩ := h3878
                have M23908 : MW (dt3879 81) := MW_frk M23873 hF3881 (by decide)
                refine go_to (k := 4) (pc' := 18) (L' := [some (.inr (.inr (some 3000))), some (.inr (.inr (some 0))), some (.inr (.inr (some 79))), some (.inl (l18_3 + 6))]) (st' := []) (w' := (SH, dt3879)) (fun _ => rfl) ?_
                exact GO.le (ih_loop2795 (l18_3 + 6) dt3879 hI3880 hF3882 hM3907 (by omega) (by exact M23908) (by omega) (by omega) (by omega) (by omega) (by omega) (by omega) (by omega) (by omega) (by omega) (by omega) (by omega) (by omega) (by omega) (by omega) (by omega)) ⟨.inl rfl, .inl rfl, .inl rfl, .inl rfl, trivial⟩
            · skip
              obtain ⟨h3840_0, h3840_1, h3840_2⟩ := h3840
              have M23909 : MW (dt3841 81) := MW_frk hM2L hF3843 (by decide)
              refine go_to (k := 6) (pc' := 769) (L' := [some (.inr (.inr (some 3000))), some (.inr (.inr (some 0))), some (.inr (.inr (some 79))), some (.inl l18_3)]) (st' := [.inl (l18_3 + 1), .inr (.inr (some 3000)), .inr (.inr (some 79))]) (w' := (SH, dt3841)) (fun _ => rfl) ?_
              have r3910 := i32_R (xs ((l18_3 + 1).toNat))
              refine go_smp (L' := [some (.inr (.inr (some 3000))), some (.inr (.inr (some 0))), some (.inr (.inr (some 79))), some (.inl l18_3)]) (st' := [.inl ((xs ((l18_3 + 1).toNat)).toInt), .inr (.inr (some 79))]) (w' := (SH, dt3841)) rfl rfl (s_iald (n := L) (f := fun j => (xs j).toInt) (am_scr hLL) ⟨by omega, by omega⟩) ?_
              refine go_to (k := 4) (pc' := 774) (L' := [some (.inr (.inr (some 3000))), some (.inr (.inr (some 0))), some (.inr (.inr (some 79))), some (.inl l18_3)]) (st' := [.inl (l18_3 + 2), .inr (.inr (some 3000)), .inl ((xs ((l18_3 + 1).toNat)).toInt), .inr (.inr (some 79))]) (w' := (SH, dt3841)) (fun _ => rfl) ?_
              have r3911 := i32_R (xs ((l18_3 + 2).toNat))
              refine go_smp (L' := [some (.inr (.inr (some 3000))), some (.inr (.inr (some 0))), some (.inr (.inr (some 79))), some (.inl l18_3)]) (st' := [.inl ((xs ((l18_3 + 2).toNat)).toInt), .inl ((xs ((l18_3 + 1).toNat)).toInt), .inr (.inr (some 79))]) (w' := (SH, dt3841)) rfl rfl (s_iald (n := L) (f := fun j => (xs j).toInt) (am_scr hLL) ⟨by omega, by omega⟩) ?_
              refine go_to (k := 4) (pc' := 779) (L' := [some (.inr (.inr (some 3000))), some (.inr (.inr (some 0))), some (.inr (.inr (some 79))), some (.inl l18_3)]) (st' := [.inl (l18_3 + 3), .inr (.inr (some 3000)), .inl ((xs ((l18_3 + 2).toNat)).toInt), .inl ((xs ((l18_3 + 1).toNat)).toInt), .inr (.inr (some 79))]) (w' := (SH, dt3841)) (fun _ => rfl) ?_
              have r3912 := i32_R (xs ((l18_3 + 3).toNat))
              refine go_smp (L' := [some (.inr (.inr (some 3000))), some (.inr (.inr (some 0))), some (.inr (.inr (some 79))), some (.inl l18_3)]) (st' := [.inl ((xs ((l18_3 + 3).toNat)).toInt), .inl ((xs ((l18_3 + 2).toNat)).toInt), .inl ((xs ((l18_3 + 1).toNat)).toInt), .inr (.inr (some 79))]) (w' := (SH, dt3841)) rfl rfl (s_iald (n := L) (f := fun j => (xs j).toInt) (am_scr hLL) ⟨by omega, by omega⟩) ?_
              refine go_to (k := 4) (pc' := 784) (L' := [some (.inr (.inr (some 3000))), some (.inr (.inr (some 0))), some (.inr (.inr (some 79))), some (.inl l18_3)]) (st' := [.inl (l18_3 + 4), .inr (.inr (some 3000)), .inl ((xs ((l18_3 + 3).toNat)).toInt), .inl ((xs ((l18_3 + 2).toNat)).toInt), .inl ((xs ((l18_3 + 1).toNat)).toInt), .inr (.inr (some 79))]) (w' := (SH, dt3841)) (fun _ => rfl) ?_
              have r3913 := i32_R (xs ((l18_3 + 4).toNat))
              refine go_smp (L' := [some (.inr (.inr (some 3000))), some (.inr (.inr (some 0))), some (.inr (.inr (some 79))), some (.inl l18_3)]) (st' := [.inl ((xs ((l18_3 + 4).toNat)).toInt), .inl ((xs ((l18_3 + 3).toNat)).toInt), .inl ((xs ((l18_3 + 2).toNat)).toInt), .inl ((xs ((l18_3 + 1).toNat)).toInt), .inr (.inr (some 79))]) (w' := (SH, dt3841)) rfl rfl (s_iald (n := L) (f := fun j => (xs j).toInt) (am_scr hLL) ⟨by omega, by omega⟩) ?_
              refine go_call (Q' := _) rfl rfl rfl rfl rfl (sp_X6_told L xs sio (d + 36) dt3841 hI3842 hM3845  ((xs ((l18_3 + 1).toNat)).toInt) ⟨by omega, by omega⟩ ((xs ((l18_3 + 2).toNat)).toInt) ⟨by omega, by omega⟩ ((xs ((l18_3 + 3).toNat)).toInt) ⟨by omega, by omega⟩ ((xs ((l18_3 + 4).toNat)).toInt) ⟨by omega, by omega⟩ ) ?_
              rintro _ _ ⟨dt3915, rfl, hI3916, hF3917, h3914⟩
              refine ⟨rfl, ?_⟩
              have hF3918 : Fr [0, 1, 2, 3, 4, 5, 6, 7, 8, 9, 10, 11, 12, 13, 14, 15, 16, 17, 18, 19, 20, 21, 22, 23, 24, 25, 26, 27, 28, 29, 30, 31, 32, 33, 34, 35, 36, 37, 38, 39, 40, 41, 42, 43, 44, 45, 46, 47, 48, 49, 50, 51, 52, 53, 54, 55, 56, 57, 58, 59, 60, 61, 62, 63, 64, 65, 66, 67, 68, 69, 70, 71, 72, 73, 74, 75, 76, 77, 78, 79, 80, 81, 82, 83, 84, 85, 86, 87, 88, 89, 90, 91, 92, 93, 94, 95, 96, 97, 98, 99, 100, 101, 102, 103, 104] dt dt3915 := Fr_tr hF3844 hF3917 (by decide)
              have w3919 : dt3915 1 0 = dt3841 1 0 := hF3917 1 (by decide) 0
              have w3920 : dt3915 7 3 = dt3841 7 3 := hF3917 7 (by decide) 3
              have w3921 : dt3915 10 3 = dt3841 10 3 := hF3917 10 (by decide) 3
              have w3922 : dt3915 12 3 = dt3841 12 3 := hF3917 12 (by decide) 3
              have w3923 : dt3915 14 3 = dt3841 14 3 := hF3917 14 (by decide) 3
              have w3924 : dt3915 16 3 = dt3841 16 3 := hF3917 16 (by decide) 3
              have w3925 : dt3915 18 0 = dt3841 18 0 := hF3917 18 (by decide) 0
              have w3926 : dt3915 24 3 = dt3841 24 3 := hF3917 24 (by decide) 3
              have w3927 : dt3915 27 3 = dt3841 27 3 := hF3917 27 (by decide) 3
              have w3928 : dt3915 29 3 = dt3841 29 3 := hF3917 29 (by decide) 3
              have w3929 : dt3915 31 3 = dt3841 31 3 := hF3917 31 (by decide) 3
              have w3930 : dt3915 33 3 = dt3841 33 3 := hF3917 33 (by decide) 3
              have w3931 : dt3915 0 2 = dt3841 0 2 := hF3917 0 (by decide) 2
              have w3932 : dt3915 35 1 = dt3841 35 1 := hF3917 35 (by decide) 1
              have w3933 : dt3915 81 0 = dt3841 81 0 := hF3917 81 (by decide) 0
              have w3934 : dt3915 81 1 = dt3841 81 1 := hF3917 81 (by decide) 1
              have w3935 : dt3915 81 2 = dt3841 81 2 := hF3917 81 (by decide) 2
              have w3936 : dt3915 81 3 = dt3841 81 3 := hF3917 81 (by decide) 3
              have w3937 : dt3915 81 4 = dt3841 81 4 := hF3917 81 (by decide) 4
              have w3938 : dt3915 81 5 = dt3841 81 5 := hF3917 81 (by decide) 5
              have w3939 : dt3915 79 2 = dt3841 79 2 := hF3917 79 (by decide) 2
              have w3940 : dt3915 79 12 = dt3841 79 12 := hF3917 79 (by decide) 12
              rcases h3914 with ⟨rfl, h3914⟩ | ⟨v_h3914, rfl, h3914r, h3914⟩
              · skip
                have hM3941 : MW (dt3915 80) := h3914.2.1
                obtain ⟨h3914_0, h3914_1, h3914_2, h3914_3, h3914_4, h3914_5, h3914_6, h3914_7⟩ := h3914
                have M23942 : MW (dt3915 81) := MW_frk M23909 hF3917 (by decide)
                refine go_to (k := 4) (pc' := 18) (L' := [some (.inr (.inr (some 3000))), some (.inr (.inr (some 0))), some (.inr (.inr (some 79))), some (.inl (l18_3 + 6))]) (st' := []) (w' := (SH, dt3915)) (fun _ => rfl) ?_
                exact GO.le (ih_loop2795 (l18_3 + 6) dt3915 hI3916 hF3918 hM3941 (by omega) (by exact M23942) (by omega) (by omega) (by omega) (by omega) (by omega) (by omega) (by omega) (by omega) (by omega) (by omega) (by omega) (by omega) (by omega) (by omega) (by omega)) ⟨.inl rfl, .inl rfl, .inl rfl, .inl rfl, trivial⟩
              · skip
                have hM3943 : MW (dt3915 80) := h3914.2.2.1
                obtain ⟨h3914_0, h3914_1, h3914_2, h3914_3, h3914_4, h3914_5, h3914_6, h3914_7, h3914_8⟩ := h3914
                have M23944 : MW (dt3915 81) := MW_frk M23909 hF3917 (by decide)
                refine go_to (k := 4) (pc' := 18) (L' := [some (.inr (.inr (some 3000))), some (.inr (.inr (some 0))), some (.inr (.inr (some 79))), some (.inl (l18_3 + 6))]) (st' := []) (w' := (SH, dt3915)) (fun _ => rfl) ?_
                exact GO.le (ih_loop2795 (l18_3 + 6) dt3915 hI3916 hF3918 hM3943 (by omega) (by exact M23944) (by omega) (by omega) (by omega) (by omega) (by omega) (by omega) (by omega) (by omega) (by omega) (by omega) (by omega) (by omega) (by omega) (by omega) (by omega)) ⟨.inl rfl, .inl rfl, .inl rfl, .inl rfl, trivial⟩
          · refine go_swi (v := 14) (p1 := 792) (lo := 0) (hi := 32) rfl c2802 (by decide) rfl ?_
            refine go_to (k := 5) (pc' := 797) (L' := [some (.inr (.inr (some 3000))), some (.inr (.inr (some 0))), some (.inr (.inr (some 79))), some (.inl l18_3)]) (st' := [.inl (l18_3 + 1), .inr (.inr (some 3000)), .inr (.inr (some 0))]) (w' := (SH, dt2776)) (fun _ => rfl) ?_
            have r3945 := i32_R (xs ((l18_3 + 1).toNat))
            refine go_smp (L' := [some (.inr (.inr (some 3000))), some (.inr (.inr (some 0))), some (.inr (.inr (some 79))), some (.inl l18_3)]) (st' := [.inl ((xs ((l18_3 + 1).toNat)).toInt), .inr (.inr (some 0))]) (w' := (SH, dt2776)) rfl rfl (s_iald (n := L) (f := fun j => (xs j).toInt) (am_scr hLL) ⟨by omega, by omega⟩) ?_
            refine go_to (k := 4) (pc' := 802) (L' := [some (.inr (.inr (some 3000))), some (.inr (.inr (some 0))), some (.inr (.inr (some 79))), some (.inl l18_3)]) (st' := [.inl (l18_3 + 2), .inr (.inr (some 3000)), .inl ((xs ((l18_3 + 1).toNat)).toInt), .inr (.inr (some 0))]) (w' := (SH, dt2776)) (fun _ => rfl) ?_
            have r3946 := i32_R (xs ((l18_3 + 2).toNat))
            refine go_smp (L' := [some (.inr (.inr (some 3000))), some (.inr (.inr (some 0))), some (.inr (.inr (some 79))), some (.inl l18_3)]) (st' := [.inl ((xs ((l18_3 + 2).toNat)).toInt), .inl ((xs ((l18_3 + 1).toNat)).toInt), .inr (.inr (some 0))]) (w' := (SH, dt2776)) rfl rfl (s_iald (n := L) (f := fun j => (xs j).toInt) (am_scr hLL) ⟨by omega, by omega⟩) ?_
            refine go_call (Q' := _) rfl rfl rfl rfl rfl (sp_X5_answer L xs sio (d + 36) dt2776 hI2777  ((xs ((l18_3 + 1).toNat)).toInt) ⟨by omega, by omega⟩ ((xs ((l18_3 + 2).toNat)).toInt) ⟨by omega, by omega⟩ ) ?_
            rintro _ _ ⟨rfl, h3947⟩
            refine ⟨rfl, ?_⟩
            rcases h3947 with ⟨v_h3947, rfl, h3947r, h3947⟩
            refine go_to (k := 6) (pc' := 812) (L' := [some (.inr (.inr (some 3000))), some (.inr (.inr (some 0))), some (.inr (.inr (some 79))), some (.inl l18_3)]) (st' := [.inl (l18_3 + 1), .inr (.inr (some 3000)), .inr (.inr (some 79))]) (w' := (SH, dt2776)) (fun _ => rfl) ?_
            refine go_smp (L' := [some (.inr (.inr (some 3000))), some (.inr (.inr (some 0))), some (.inr (.inr (some 79))), some (.inl l18_3)]) (st' := [.inl ((xs ((l18_3 + 1).toNat)).toInt), .inr (.inr (some 79))]) (w' := (SH, dt2776)) rfl rfl (s_iald (n := L) (f := fun j => (xs j).toInt) (am_scr hLL) ⟨by omega, by omega⟩) ?_
            refine go_to (k := 4) (pc' := 817) (L' := [some (.inr (.inr (some 3000))), some (.inr (.inr (some 0))), some (.inr (.inr (some 79))), some (.inl l18_3)]) (st' := [.inl (l18_3 + 2), .inr (.inr (some 3000)), .inl ((xs ((l18_3 + 1).toNat)).toInt), .inr (.inr (some 79))]) (w' := (SH, dt2776)) (fun _ => rfl) ?_
            refine go_smp (L' := [some (.inr (.inr (some 3000))), some (.inr (.inr (some 0))), some (.inr (.inr (some 79))), some (.inl l18_3)]) (st' := [.inl ((xs ((l18_3 + 2).toNat)).toInt), .inl ((xs ((l18_3 + 1).toNat)).toInt), .inr (.inr (some 79))]) (w' := (SH, dt2776)) rfl rfl (s_iald (n := L) (f := fun j => (xs j).toInt) (am_scr hLL) ⟨by omega, by omega⟩) ?_
            refine go_call (Q' := _) rfl rfl rfl rfl rfl (sp_X6_answer L xs sio (d + 37) dt2776 hI2777 hM_dt2776  ((xs ((l18_3 + 1).toNat)).toInt) ⟨by omega, by omega⟩ ((xs ((l18_3 + 2).toNat)).toInt) ⟨by omega, by omega⟩ ) ?_
            rintro _ _ ⟨rfl, h3948⟩
            refine ⟨rfl, ?_⟩
            rcases h3948 with ⟨v_h3948, rfl, h3948r, h3948⟩
            refine go_to (k := 4) (pc' := 18) (L' := [some (.inr (.inr (some 3000))), some (.inr (.inr (some 0))), some (.inr (.inr (some 79))), some (.inl (l18_3 + 6))]) (st' := []) (w' := (SH, dt2776)) (fun _ => rfl) ?_
            exact GO.le (ih_loop2795 (l18_3 + 6) dt2776 hI2777 hF2778 hM_dt2776 (by omega) (by exact hM2L) (by omega) (by omega) (by omega) (by omega) (by omega) (by omega) (by omega) (by omega) (by omega) (by omega) (by omega) (by omega) (by omega) (by omega) (by omega)) ⟨.inl rfl, .inl rfl, .inl rfl, .inl rfl, trivial⟩
          · refine go_swi (v := 15) (p1 := 825) (lo := 0) (hi := 32) rfl c2802 (by decide) rfl ?_
            refine go_to (k := 5) (pc' := 830) (L' := [some (.inr (.inr (some 3000))), some (.inr (.inr (some 0))), some (.inr (.inr (some 79))), some (.inl l18_3)]) (st' := [.inl (l18_3 + 1), .inr (.inr (some 3000)), .inr (.inr (some 0))]) (w' := (SH, dt2776)) (fun _ => rfl) ?_
            have r3949 := i32_R (xs ((l18_3 + 1).toNat))
            refine go_smp (L' := [some (.inr (.inr (some 3000))), some (.inr (.inr (some 0))), some (.inr (.inr (some 79))), some (.inl l18_3)]) (st' := [.inl ((xs ((l18_3 + 1).toNat)).toInt), .inr (.inr (some 0))]) (w' := (SH, dt2776)) rfl rfl (s_iald (n := L) (f := fun j => (xs j).toInt) (am_scr hLL) ⟨by omega, by omega⟩) ?_
            refine go_to (k := 4) (pc' := 835) (L' := [some (.inr (.inr (some 3000))), some (.inr (.inr (some 0))), some (.inr (.inr (some 79))), some (.inl l18_3)]) (st' := [.inl (l18_3 + 2), .inr (.inr (some 3000)), .inl ((xs ((l18_3 + 1).toNat)).toInt), .inr (.inr (some 0))]) (w' := (SH, dt2776)) (fun _ => rfl) ?_
            have r3950 := i32_R (xs ((l18_3 + 2).toNat))
            refine go_smp (L' := [some (.inr (.inr (some 3000))), some (.inr (.inr (some 0))), some (.inr (.inr (some 79))), some (.inl l18_3)]) (st' := [.inl ((xs ((l18_3 + 2).toNat)).toInt), .inl ((xs ((l18_3 + 1).toNat)).toInt), .inr (.inr (some 0))]) (w' := (SH, dt2776)) rfl rfl (s_iald (n := L) (f := fun j => (xs j).toInt) (am_scr hLL) ⟨by omega, by omega⟩) ?_
            refine go_to (k := 4) (pc' := 840) (L' := [some (.inr (.inr (some 3000))), some (.inr (.inr (some 0))), some (.inr (.inr (some 79))), some (.inl l18_3)]) (st' := [.inl (l18_3 + 3), .inr (.inr (some 3000)), .inl ((xs ((l18_3 + 2).toNat)).toInt), .inl ((xs ((l18_3 + 1).toNat)).toInt), .inr (.inr (some 0))]) (w' := (SH, dt2776)) (fun _ => rfl) ?_
            have r3951 := i32_R (xs ((l18_3 + 3).toNat))
            refine go_smp (L' := [some (.inr (.inr (some 3000))), some (.inr (.inr (some 0))), some (.inr (.inr (some 79))), some (.inl l18_3)]) (st' := [.inl ((xs ((l18_3 + 3).toNat)).toInt), .inl ((xs ((l18_3 + 2).toNat)).toInt), .inl ((xs ((l18_3 + 1).toNat)).toInt), .inr (.inr (some 0))]) (w' := (SH, dt2776)) rfl rfl (s_iald (n := L) (f := fun j => (xs j).toInt) (am_scr hLL) ⟨by omega, by omega⟩) ?_
            refine go_to (k := 4) (pc' := 845) (L' := [some (.inr (.inr (some 3000))), some (.inr (.inr (some 0))), some (.inr (.inr (some 79))), some (.inl l18_3)]) (st' := [.inl (l18_3 + 4), .inr (.inr (some 3000)), .inl ((xs ((l18_3 + 3).toNat)).toInt), .inl ((xs ((l18_3 + 2).toNat)).toInt), .inl ((xs ((l18_3 + 1).toNat)).toInt), .inr (.inr (some 0))]) (w' := (SH, dt2776)) (fun _ => rfl) ?_
            have r3952 := i32_R (xs ((l18_3 + 4).toNat))
            refine go_smp (L' := [some (.inr (.inr (some 3000))), some (.inr (.inr (some 0))), some (.inr (.inr (some 79))), some (.inl l18_3)]) (st' := [.inl ((xs ((l18_3 + 4).toNat)).toInt), .inl ((xs ((l18_3 + 3).toNat)).toInt), .inl ((xs ((l18_3 + 2).toNat)).toInt), .inl ((xs ((l18_3 + 1).toNat)).toInt), .inr (.inr (some 0))]) (w' := (SH, dt2776)) rfl rfl (s_iald (n := L) (f := fun j => (xs j).toInt) (am_scr hLL) ⟨by omega, by omega⟩) ?_
            refine go_to (k := 4) (pc' := 850) (L' := [some (.inr (.inr (some 3000))), some (.inr (.inr (some 0))), some (.inr (.inr (some 79))), some (.inl l18_3)]) (st' := [.inl (l18_3 + 5), .inr (.inr (some 3000)), .inl ((xs ((l18_3 + 4).toNat)).toInt), .inl ((xs ((l18_3 + 3).toNat)).toInt), .inl ((xs ((l18_3 + 2).toNat)).toInt), .inl ((xs ((l18_3 + 1).toNat)).toInt), .inr (.inr (some 0))]) (w' := (SH, dt2776)) (fun _ => rfl) ?_
            have r3953 := i32_R (xs ((l18_3 + 5).toNat))
            refine go_smp (L' := [some (.inr (.inr (some 3000))), some (.inr (.inr (some 0))), some (.inr (.inr (some 79))), some (.inl l18_3)]) (st' := [.inl ((xs ((l18_3 + 5).toNat)).toInt), .inl ((xs ((l18_3 + 4).toNat)).toInt), .inl ((xs ((l18_3 + 3).toNat)).toInt), .inl ((xs ((l18_3 + 2).toNat)).toInt), .inl ((xs ((l18_3 + 1).toNat)).toInt), .inr (.inr (some 0))]) (w' := (SH, dt2776)) rfl rfl (s_iald (n := L) (f := fun j => (xs j).toInt) (am_scr hLL) ⟨by omega, by omega⟩) ?_
            refine go_call (Q' := _) rfl rfl rfl rfl rfl (sp_X5_chance L xs sio (d + 33) dt2776 hI2777  ((xs ((l18_3 + 1).toNat)).toInt) ⟨by omega, by omega⟩ ((xs ((l18_3 + 2).toNat)).toInt) ⟨by omega, by omega⟩ ((xs ((l18_3 + 3).toNat)).toInt) ⟨by omega, by omega⟩ ((xs ((l18_3 + 4).toNat)).toInt) ⟨by omega, by omega⟩ ((xs ((l18_3 + 5).toNat)).toInt) ⟨by omega, by omega⟩ ) ?_
            rintro _ _ ⟨dt3955, rfl, hI3956, hF3957, h3954⟩
            refine ⟨rfl, ?_⟩
            have hF3958 : Fr [0, 1, 2, 3, 4, 5, 6, 7, 8, 9, 10, 11, 12, 13, 14, 15, 16, 17, 18, 19, 20, 21, 22, 23, 24, 25, 26, 27, 28, 29, 30, 31, 32, 33, 34, 35, 36, 37, 38, 39, 40, 41, 42, 43, 44, 45, 46, 47, 48, 49, 50, 51, 52, 53, 54, 55, 56, 57, 58, 59, 60, 61, 62, 63, 64, 65, 66, 67, 68, 69, 70, 71, 72, 73, 74, 75, 76, 77, 78, 79, 80, 81, 82, 83, 84, 85, 86, 87, 88, 89, 90, 91, 92, 93, 94, 95, 96, 97, 98, 99, 100, 101, 102, 103, 104] dt dt3955 := Fr_tr hF2778 hF3957 (by decide)
            have hM3959 : MW (dt3955 80) := MW_fr hM_dt2776 hF3957 (by decide)
            have w3960 : dt3955 1 0 = dt2776 1 0 := hF3957 1 (by decide) 0
            have w3961 : dt3955 7 3 = dt2776 7 3 := hF3957 7 (by decide) 3
            have w3962 : dt3955 10 3 = dt2776 10 3 := hF3957 10 (by decide) 3
            have w3963 : dt3955 12 3 = dt2776 12 3 := hF3957 12 (by decide) 3
            have w3964 : dt3955 14 3 = dt2776 14 3 := hF3957 14 (by decide) 3
            have w3965 : dt3955 16 3 = dt2776 16 3 := hF3957 16 (by decide) 3
            have w3966 : dt3955 18 0 = dt2776 18 0 := hF3957 18 (by decide) 0
            have w3967 : dt3955 24 3 = dt2776 24 3 := hF3957 24 (by decide) 3
            have w3968 : dt3955 27 3 = dt2776 27 3 := hF3957 27 (by decide) 3
            have w3969 : dt3955 29 3 = dt2776 29 3 := hF3957 29 (by decide) 3
            have w3970 : dt3955 31 3 = dt2776 31 3 := hF3957 31 (by decide) 3
            have w3971 : dt3955 33 3 = dt2776 33 3 := hF3957 33 (by decide) 3
            have w3972 : dt3955 0 2 = dt2776 0 2 := hF3957 0 (by decide) 2
            have w3973 : dt3955 35 1 = dt2776 35 1 := hF3957 35 (by decide) 1
            have w3974 : dt3955 80 0 = dt2776 80 0 := hF3957 80 (by decide) 0
            have w3975 : dt3955 80 1 = dt2776 80 1 := hF3957 80 (by decide) 1
            have w3976 : dt3955 80 2 = dt2776 80 2 := hF3957 80 (by decide) 2
            have w3977 : dt3955 80 3 = dt2776 80 3 := hF3957 80 (by decide) 3
            have w3978 : dt3955 80 4 = dt2776 80 4 := hF3957 80 (by decide) 4
            have w3979 : dt3955 80 5 = dt2776 80 5 := hF3957 80 (by decide) 5
            have w3980 : dt3955 81 0 = dt2776 81 0 := hF3957 81 (by decide) 0
            have w3981 : dt3955 81 1 = dt2776 81 1 := hF3957 81 (by decide) 1
            have w3982 : dt3955 81 2 = dt2776 81 2 := hF3957 81 (by decide) 2
            have w3983 : dt3955 81 3 = dt2776 81 3 := hF3957 81 (by decide) 3
            have w3984 : dt3955 81 4 = dt2776 81 4 := hF3957 81 (by decide) 4
            have w3985 : dt3955 81 5 = dt2776 81 5 := hF3957 81 (by decide) 5
            have w3986 : dt3955 79 2 = dt2776 79 2 := hF3957 79 (by decide) 2
            have w3987 : dt3955 79 12 = dt2776 79 12 := hF3957 79 (by decide) 12
            rcases h3954 with ⟨v_h3954, rfl, h3954r, h3954⟩
            have M23988 : MW (dt3955 81) := MW_frk hM2L hF3957 (by decide)
            refine go_to (k := 6) (pc' := 860) (L' := [some (.inr (.inr (some 3000))), some (.inr (.inr (some 0))), some (.inr (.inr (some 79))), some (.inl l18_3)]) (st' := [.inl (l18_3 + 1), .inr (.inr (some 3000)), .inr (.inr (some 79))]) (w' := (SH, dt3955)) (fun _ => rfl) ?_
            have r3989 := i32_R (xs ((l18_3 + 1).toNat))
            refine go_smp (L' := [some (.inr (.inr (some 3000))), some (.inr (.inr (some 0))), some (.inr (.inr (some 79))), some (.inl l18_3)]) (st' := [.inl ((xs ((l18_3 + 1).toNat)).toInt), .inr (.inr (some 79))]) (w' := (SH, dt3955)) rfl rfl (s_iald (n := L) (f := fun j => (xs j).toInt) (am_scr hLL) ⟨by omega, by omega⟩) ?_
            refine go_to (k := 4) (pc' := 865) (L' := [some (.inr (.inr (some 3000))), some (.inr (.inr (some 0))), some (.inr (.inr (some 79))), some (.inl l18_3)]) (st' := [.inl (l18_3 + 2), .inr (.inr (some 3000)), .inl ((xs ((l18_3 + 1).toNat)).toInt), .inr (.inr (some 79))]) (w' := (SH, dt3955)) (fun _ => rfl) ?_
            have r3990 := i32_R (xs ((l18_3 + 2).toNat))
            refine go_smp (L' := [some (.inr (.inr (some 3000))), some (.inr (.inr (some 0))), some (.inr (.inr (some 79))), some (.inl l18_3)]) (st' := [.inl ((xs ((l18_3 + 2).toNat)).toInt), .inl ((xs ((l18_3 + 1).toNat)).toInt), .inr (.inr (some 79))]) (w' := (SH, dt3955)) rfl rfl (s_iald (n := L) (f := fun j => (xs j).toInt) (am_scr hLL) ⟨by omega, by omega⟩) ?_
            refine go_to (k := 4) (pc' := 870) (L' := [some (.inr (.inr (some 3000))), some (.inr (.inr (some 0))), some (.inr (.inr (some 79))), some (.inl l18_3)]) (st' := [.inl (l18_3 + 3), .inr (.inr (some 3000)), .inl ((xs ((l18_3 + 2).toNat)).toInt), .inl ((xs ((l18_3 + 1).toNat)).toInt), .inr (.inr (some 79))]) (w' := (SH, dt3955)) (fun _ => rfl) ?_
            have r3991 := i32_R (xs ((l18_3 + 3).toNat))
            refine go_smp (L' := [some (.inr (.inr (some 3000))), some (.inr (.inr (some 0))), some (.inr (.inr (some 79))), some (.inl l18_3)]) (st' := [.inl ((xs ((l18_3 + 3).toNat)).toInt), .inl ((xs ((l18_3 + 2).toNat)).toInt), .inl ((xs ((l18_3 + 1).toNat)).toInt), .inr (.inr (some 79))]) (w' := (SH, dt3955)) rfl rfl (s_iald (n := L) (f := fun j => (xs j).toInt) (am_scr hLL) ⟨by omega, by omega⟩) ?_
            refine go_to (k := 4) (pc' := 875) (L' := [some (.inr (.inr (some 3000))), some (.inr (.inr (some 0))), some (.inr (.inr (some 79))), some (.inl l18_3)]) (st' := [.inl (l18_3 + 4), .inr (.inr (some 3000)), .inl ((xs ((l18_3 + 3).toNat)).toInt), .inl ((xs ((l18_3 + 2).toNat)).toInt), .inl ((xs ((l18_3 + 1).toNat)).toInt), .inr (.inr (some 79))]) (w' := (SH, dt3955)) (fun _ => rfl) ?_
            have r3992 := i32_R (xs ((l18_3 + 4).toNat))
            refine go_smp (L' := [some (.inr (.inr (some 3000))), some (.inr (.inr (some 0))), some (.inr (.inr (some 79))), some (.inl l18_3)]) (st' := [.inl ((xs ((l18_3 + 4).toNat)).toInt), .inl ((xs ((l18_3 + 3).toNat)).toInt), .inl ((xs ((l18_3 + 2).toNat)).toInt), .inl ((xs ((l18_3 + 1).toNat)).toInt), .inr (.inr (some 79))]) (w' := (SH, dt3955)) rfl rfl (s_iald (n := L) (f := fun j => (xs j).toInt) (am_scr hLL) ⟨by omega, by omega⟩) ?_
            refine go_to (k := 4) (pc' := 880) (L' := [some (.inr (.inr (some 3000))), some (.inr (.inr (some 0))), some (.inr (.inr (some 79))), some (.inl l18_3)]) (st' := [.inl (l18_3 + 5), .inr (.inr (some 3000)), .inl ((xs ((l18_3 + 4).toNat)).toInt), .inl ((xs ((l18_3 + 3).toNat)).toInt), .inl ((xs ((l18_3 + 2).toNat)).toInt), .inl ((xs ((l18_3 + 1).toNat)).toInt), .inr (.inr (some 79))]) (w' := (SH, dt3955)) (fun _ => rfl) ?_
            have r3993 := i32_R (xs ((l18_3 + 5).toNat))
            refine go_smp (L' := [some (.inr (.inr (some 3000))), some (.inr (.inr (some 0))), some (.inr (.inr (some 79))), some (.inl l18_3)]) (st' := [.inl ((xs ((l18_3 + 5).toNat)).toInt), .inl ((xs ((l18_3 + 4).toNat)).toInt), .inl ((xs ((l18_3 + 3).toNat)).toInt), .inl ((xs ((l18_3 + 2).toNat)).toInt), .inl ((xs ((l18_3 + 1).toNat)).toInt), .inr (.inr (some 79))]) (w' := (SH, dt3955)) rfl rfl (s_iald (n := L) (f := fun j => (xs j).toInt) (am_scr hLL) ⟨by omega, by omega⟩) ?_
            refine go_call (Q' := _) rfl rfl rfl rfl rfl (sp_X6_chance L xs sio (d + 31) dt3955 hI3956 hM3959  ((xs ((l18_3 + 1).toNat)).toInt) ⟨by omega, by omega⟩ ((xs ((l18_3 + 2).toNat)).toInt) ⟨by omega, by omega⟩ ((xs ((l18_3 + 3).toNat)).toInt) ⟨by omega, by omega⟩ ((xs ((l18_3 + 4).toNat)).toInt) ⟨by omega, by omega⟩ ((xs ((l18_3 + 5).toNat)).toInt) ⟨by omega, by omega⟩ ) ?_
            rintro _ _ ⟨dt3995, rfl, hI3996, hF3997, h3994⟩
            refine ⟨rfl, ?_⟩
            have hF3998 : Fr [0, 1, 2, 3, 4, 5, 6, 7, 8, 9, 10, 11, 12, 13, 14, 15, 16, 17, 18, 19, 20, 21, 22, 23, 24, 25, 26, 27, 28, 29, 30, 31, 32, 33, 34, 35, 36, 37, 38, 39, 40, 41, 42, 43, 44, 45, 46, 47, 48, 49, 50, 51, 52, 53, 54, 55, 56, 57, 58, 59, 60, 61, 62, 63, 64, 65, 66, 67, 68, 69, 70, 71, 72, 73, 74, 75, 76, 77, 78, 79, 80, 81, 82, 83, 84, 85, 86, 87, 88, 89, 90, 91, 92, 93, 94, 95, 96, 97, 98, 99, 100, 101, 102, 103, 104] dt dt3995 := Fr_tr hF3958 hF3997 (by decide)
            have hM3999 : MW (dt3995 80) := MW_fr hM3959 hF3997 (by decide)
            have w4000 : dt3995 1 0 = dt3955 1 0 := hF3997 1 (by decide) 0
            have w4001 : dt3995 7 3 = dt3955 7 3 := hF3997 7 (by decide) 3
            have w4002 : dt3995 10 3 = dt3955 10 3 := hF3997 10 (by decide) 3
            have w4003 : dt3995 12 3 = dt3955 12 3 := hF3997 12 (by decide) 3
            have w4004 : dt3995 14 3 = dt3955 14 3 := hF3997 14 (by decide) 3
            have w4005 : dt3995 16 3 = dt3955 16 3 := hF3997 16 (by decide) 3
            have w4006 : dt3995 18 0 = dt3955 18 0 := hF3997 18 (by decide) 0
            have w4007 : dt3995 24 3 = dt3955 24 3 := hF3997 24 (by decide) 3
            have w4008 : dt3995 27 3 = dt3955 27 3 := hF3997 27 (by decide) 3
            have w4009 : dt3995 29 3 = dt3955 29 3 := hF3997 29 (by decide) 3
            have w4010 : dt3995 31 3 = dt3955 31 3 := hF3997 31 (by decide) 3
            have w4011 : dt3995 33 3 = dt3955 33 3 := hF3997 33 (by decide) 3
            have w4012 : dt3995 0 2 = dt3955 0 2 := hF3997 0 (by decide) 2
            have w4013 : dt3995 35 1 = dt3955 35 1 := hF3997 35 (by decide) 1
            have w4014 : dt3995 80 0 = dt3955 80 0 := hF3997 80 (by decide) 0
            have w4015 : dt3995 80 1 = dt3955 80 1 := hF3997 80 (by decide) 1
            have w4016 : dt3995 80 2 = dt3955 80 2 := hF3997 80 (by decide) 2
            have w4017 : dt3995 80 3 = dt3955 80 3 := hF3997 80 (by decide) 3
            have w4018 : dt3995 80 4 = dt3955 80 4 := hF3997 80 (by decide) 4
            have w4019 : dt3995 80 5 = dt3955 80 5 := hF3997 80 (by decide) 5
            have w4020 : dt3995 81 0 = dt3955 81 0 := hF3997 81 (by decide) 0
            have w4021 : dt3995 81 1 = dt3955 81 1 := hF3997 81 (by decide) 1
            have w4022 : dt3995 81 2 = dt3955 81 2 := hF3997 81 (by decide) 2
            have w4023 : dt3995 81 3 = dt3955 81 3 := hF3997 81 (by decide) 3
            have w4024 : dt3995 81 4 = dt3955 81 4 := hF3997 81 (by decide) 4
            have w4025 : dt3995 81 5 = dt3955 81 5 := hF3997 81 (by decide) 5
            have w4026 : dt3995 79 2 = dt3955 79 2 := hF3997 79 (by decide) 2
            have w4027 : dt3995 79 12 = dt3955 79 12 := hF3997 79 (by decide) 12
            rcases h3994 with ⟨v_h3994, rfl, h3994r, h3994⟩
            have M24028 : MW (dt3995 81) := MW_frk M23988 hF3997 (by decide)
            refine go_to (k := 4) (pc' := 18) (L' := [some (.inr (.inr (some 3000))), some (.inr (.inr (some 0))), some (.inr (.inr (some 79))), some (.inl (l18_3 + 6))]) (st' := []) (w' := (SH, dt3995)) (fun _ => rfl) ?_
            exact GO.le (ih_loop2795 (l18_3 + 6) dt3995 hI3996 hF3998 hM3999 (by omega) (by exact M24028) (by omega) (by omega) (by omega) (by omega) (by omega) (by omega) (by omega) (by omega) (by omega) (by omega) (by omega) (by omega) (by omega) (by omega) (by omega)) ⟨.inl rfl, .inl rfl, .inl rfl, .inl rfl, trivial⟩
          · refine go_swi (v := 16) (p1 := 888) (lo := 0) (hi := 32) rfl c2802 (by decide) rfl ?_
            refine go_to (k := 5) (pc' := 893) (L' := [some (.inr (.inr (some 3000))), some (.inr (.inr (some 0))), some (.inr (.inr (some 79))), some (.inl l18_3)]) (st' := [.inl (l18_3 + 1), .inr (.inr (some 3000)), .inr (.inr (some 0))]) (w' := (SH, dt2776)) (fun _ => rfl) ?_
            have r4029 := i32_R (xs ((l18_3 + 1).toNat))
            refine go_smp (L' := [some (.inr (.inr (some 3000))), some (.inr (.inr (some 0))), some (.inr (.inr (some 79))), some (.inl l18_3)]) (st' := [.inl ((xs ((l18_3 + 1).toNat)).toInt), .inr (.inr (some 0))]) (w' := (SH, dt2776)) rfl rfl (s_iald (n := L) (f := fun j => (xs j).toInt) (am_scr hLL) ⟨by omega, by omega⟩) ?_
            refine go_to (k := 4) (pc' := 898) (L' := [some (.inr (.inr (some 3000))), some (.inr (.inr (some 0))), some (.inr (.inr (some 79))), some (.inl l18_3)]) (st' := [.inl (l18_3 + 2), .inr (.inr (some 3000)), .inl ((xs ((l18_3 + 1).toNat)).toInt), .inr (.inr (some 0))]) (w' := (SH, dt2776)) (fun _ => rfl) ?_
            have r4030 := i32_R (xs ((l18_3 + 2).toNat))
            refine go_smp (L' := [some (.inr (.inr (some 3000))), some (.inr (.inr (some 0))), some (.inr (.inr (some 79))), some (.inl l18_3)]) (st' := [.inl ((xs ((l18_3 + 2).toNat)).toInt), .inl ((xs ((l18_3 + 1).toNat)).toInt), .inr (.inr (some 0))]) (w' := (SH, dt2776)) rfl rfl (s_iald (n := L) (f := fun j => (xs j).toInt) (am_scr hLL) ⟨by omega, by omega⟩) ?_
            refine go_call (Q' := _) rfl rfl rfl rfl rfl (sp_X5_parted L xs sio (d + 35) dt2776 hI2777  ((xs ((l18_3 + 1).toNat)).toInt) ⟨by omega, by omega⟩ ((xs ((l18_3 + 2).toNat)).toInt) ⟨by omega, by omega⟩ ) ?_
            rintro _ _ ⟨rfl, h4031⟩
            refine ⟨rfl, ?_⟩
            rcases h4031 with ⟨v_h4031, rfl, h4031r, h4031⟩
            refine go_to (k := 6) (pc' := 908) (L' := [some (.inr (.inr (some 3000))), some (.inr (.inr (some 0))), some (.inr (.inr (some 79))), some (.inl l18_3)]) (st' := [.inl (l18_3 + 1), .inr (.inr (some 3000)), .inr (.inr (some 79))]) (w' := (SH, dt2776)) (fun _ => rfl) ?_
            refine go_smp (L' := [some (.inr (.inr (some 3000))), some (.inr (.inr (some 0))), some (.inr (.inr (some 79))), some (.inl l18_3)]) (st' := [.inl ((xs ((l18_3 + 1).toNat)).toInt), .inr (.inr (some 79))]) (w' := (SH, dt2776)) rfl rfl (s_iald (n := L) (f := fun j => (xs j).toInt) (am_scr hLL) ⟨by omega, by omega⟩) ?_
            refine go_to (k := 4) (pc' := 913) (L' := [some (.inr (.inr (some 3000))), some (.inr (.inr (some 0))), some (.inr (.inr (some 79))), some (.inl l18_3)]) (st' := [.inl (l18_3 + 2), .inr (.inr (some 3000)), .inl ((xs ((l18_3 + 1).toNat)).toInt), .inr (.inr (some 79))]) (w' := (SH, dt2776)) (fun _ => rfl) ?_
            refine go_smp (L' := [some (.inr (.inr (some 3000))), some (.inr (.inr (some 0))), some (.inr (.inr (some 79))), some (.inl l18_3)]) (st' := [.inl ((xs ((l18_3 + 2).toNat)).toInt), .inl ((xs ((l18_3 + 1).toNat)).toInt), .inr (.inr (some 79))]) (w' := (SH, dt2776)) rfl rfl (s_iald (n := L) (f := fun j => (xs j).toInt) (am_scr hLL) ⟨by omega, by omega⟩) ?_
            refine go_call (Q' := _) rfl rfl rfl rfl rfl (sp_X6_parted L xs sio (d + 32) dt2776 hI2777 hM_dt2776  ((xs ((l18_3 + 1).toNat)).toInt) ⟨by omega, by omega⟩ ((xs ((l18_3 + 2).toNat)).toInt) ⟨by omega, by omega⟩ ) ?_
            rintro _ _ ⟨dt4033, rfl, hI4034, hF4035, h4032⟩
            refine ⟨rfl, ?_⟩
            have hF4036 : Fr [0, 1, 2, 3, 4, 5, 6, 7, 8, 9, 10, 11, 12, 13, 14, 15, 16, 17, 18, 19, 20, 21, 22, 23, 24, 25, 26, 27, 28, 29, 30, 31, 32, 33, 34, 35, 36, 37, 38, 39, 40, 41, 42, 43, 44, 45, 46, 47, 48, 49, 50, 51, 52, 53, 54, 55, 56, 57, 58, 59, 60, 61, 62, 63, 64, 65, 66, 67, 68, 69, 70, 71, 72, 73, 74, 75, 76, 77, 78, 79, 80, 81, 82, 83, 84, 85, 86, 87, 88, 89, 90, 91, 92, 93, 94, 95, 96, 97, 98, 99, 100, 101, 102, 103, 104] dt dt4033 := Fr_tr hF2778 hF4035 (by decide)
            have hM4037 : MW (dt4033 80) := MW_fr hM_dt2776 hF4035 (by decide)
            have w4038 : dt4033 1 0 = dt2776 1 0 := hF4035 1 (by decide) 0
            have w4039 : dt4033 7 3 = dt2776 7 3 := hF4035 7 (by decide) 3
            have w4040 : dt4033 10 3 = dt2776 10 3 := hF4035 10 (by decide) 3
            have w4041 : dt4033 12 3 = dt2776 12 3 := hF4035 12 (by decide) 3
            have w4042 : dt4033 14 3 = dt2776 14 3 := hF4035 14 (by decide) 3
            have w4043 : dt4033 16 3 = dt2776 16 3 := hF4035 16 (by decide) 3
            have w4044 : dt4033 18 0 = dt2776 18 0 := hF4035 18 (by decide) 0
            have w4045 : dt4033 24 3 = dt2776 24 3 := hF4035 24 (by decide) 3
            have w4046 : dt4033 27 3 = dt2776 27 3 := hF4035 27 (by decide) 3
            have w4047 : dt4033 29 3 = dt2776 29 3 := hF4035 29 (by decide) 3
            have w4048 : dt4033 31 3 = dt2776 31 3 := hF4035 31 (by decide) 3
            have w4049 : dt4033 33 3 = dt2776 33 3 := hF4035 33 (by decide) 3
            have w4050 : dt4033 0 2 = dt2776 0 2 := hF4035 0 (by decide) 2
            have w4051 : dt4033 35 1 = dt2776 35 1 := hF4035 35 (by decide) 1
            have w4052 : dt4033 80 0 = dt2776 80 0 := hF4035 80 (by decide) 0
            have w4053 : dt4033 80 1 = dt2776 80 1 := hF4035 80 (by decide) 1
            have w4054 : dt4033 80 2 = dt2776 80 2 := hF4035 80 (by decide) 2
            have w4055 : dt4033 80 3 = dt2776 80 3 := hF4035 80 (by decide) 3
            have w4056 : dt4033 80 4 = dt2776 80 4 := hF4035 80 (by decide) 4
            have w4057 : dt4033 80 5 = dt2776 80 5 := hF4035 80 (by decide) 5
            have w4058 : dt4033 81 0 = dt2776 81 0 := hF4035 81 (by decide) 0
            have w4059 : dt4033 81 1 = dt2776 81 1 := hF4035 81 (by decide) 1
            have w4060 : dt4033 81 2 = dt2776 81 2 := hF4035 81 (by decide) 2
            have w4061 : dt4033 81 3 = dt2776 81 3 := hF4035 81 (by decide) 3
            have w4062 : dt4033 81 4 = dt2776 81 4 := hF4035 81 (by decide) 4
            have w4063 : dt4033 81 5 = dt2776 81 5 := hF4035 81 (by decide) 5
            have w4064 : dt4033 79 2 = dt2776 79 2 := hF4035 79 (by decide) 2
            have w4065 : dt4033 79 12 = dt2776 79 12 := hF4035 79 (by decide) 12
            rcases h4032 with ⟨v_h4032, rfl, h4032r, h4032⟩
            have M24066 : MW (dt4033 81) := MW_frk hM2L hF4035 (by decide)
            refine go_to (k := 4) (pc' := 18) (L' := [some (.inr (.inr (some 3000))), some (.inr (.inr (some 0))), some (.inr (.inr (some 79))), some (.inl (l18_3 + 6))]) (st' := []) (w' := (SH, dt4033)) (fun _ => rfl) ?_
            exact GO.le (ih_loop2795 (l18_3 + 6) dt4033 hI4034 hF4036 hM4037 (by omega) (by exact M24066) (by omega) (by omega) (by omega) (by omega) (by omega) (by omega) (by omega) (by omega) (by omega) (by omega) (by omega) (by omega) (by omega) (by omega) (by omega)) ⟨.inl rfl, .inl rfl, .inl rfl, .inl rfl, trivial⟩
          · refine go_swi (v := 17) (p1 := 921) (lo := 0) (hi := 32) rfl c2802 (by decide) rfl ?_
            refine go_to (k := 5) (pc' := 926) (L' := [some (.inr (.inr (some 3000))), some (.inr (.inr (some 0))), some (.inr (.inr (some 79))), some (.inl l18_3)]) (st' := [.inl (l18_3 + 1), .inr (.inr (some 3000)), .inr (.inr (some 0))]) (w' := (SH, dt2776)) (fun _ => rfl) ?_
            have r4067 := i32_R (xs ((l18_3 + 1).toNat))
            refine go_smp (L' := [some (.inr (.inr (some 3000))), some (.inr (.inr (some 0))), some (.inr (.inr (some 79))), some (.inl l18_3)]) (st' := [.inl ((xs ((l18_3 + 1).toNat)).toInt), .inr (.inr (some 0))]) (w' := (SH, dt2776)) rfl rfl (s_iald (n := L) (f := fun j => (xs j).toInt) (am_scr hLL) ⟨by omega, by omega⟩) ?_
            refine go_call (Q' := _) rfl rfl rfl rfl rfl (sp_X5_fewest L xs sio (d + 34) dt2776 hI2777  ((xs ((l18_3 + 1).toNat)).toInt) ⟨by omega, by omega⟩ ) ?_
            rintro _ _ ⟨dt4069, rfl, hI4070, hF4071, h4068⟩
            refine ⟨rfl, ?_⟩
            have hF4072 : Fr [0, 1, 2, 3, 4, 5, 6, 7, 8, 9, 10, 11, 12, 13, 14, 15, 16, 17, 18, 19, 20, 21, 22, 23, 24, 25, 26, 27, 28, 29, 30, 31, 32, 33, 34, 35, 36, 37, 38, 39, 40, 41, 42, 43, 44, 45, 46, 47, 48, 49, 50, 51, 52, 53, 54, 55, 56, 57, 58, 59, 60, 61, 62, 63, 64, 65, 66, 67, 68, 69, 70, 71, 72, 73, 74, 75, 76, 77, 78, 79, 80, 81, 82, 83, 84, 85, 86, 87, 88, 89, 90, 91, 92, 93, 94, 95, 96, 97, 98, 99, 100, 101, 102, 103, 104] dt dt4069 := Fr_tr hF2778 hF4071 (by decide)
            have hM4073 : MW (dt4069 80) := MW_fr hM_dt2776 hF4071 (by decide)
            have w4074 : dt4069 1 0 = dt2776 1 0 := hF4071 1 (by decide) 0
            have w4075 : dt4069 7 3 = dt2776 7 3 := hF4071 7 (by decide) 3
            have w4076 : dt4069 10 3 = dt2776 10 3 := hF4071 10 (by decide) 3
            have w4077 : dt4069 12 3 = dt2776 12 3 := hF4071 12 (by decide) 3
            have w4078 : dt4069 14 3 = dt2776 14 3 := hF4071 14 (by decide) 3
            have w4079 : dt4069 16 3 = dt2776 16 3 := hF4071 16 (by decide) 3
            have w4080 : dt4069 18 0 = dt2776 18 0 := hF4071 18 (by decide) 0
            have w4081 : dt4069 24 3 = dt2776 24 3 := hF4071 24 (by decide) 3
            have w4082 : dt4069 27 3 = dt2776 27 3 := hF4071 27 (by decide) 3
            have w4083 : dt4069 29 3 = dt2776 29 3 := hF4071 29 (by decide) 3
            have w4084 : dt4069 31 3 = dt2776 31 3 := hF4071 31 (by decide) 3
            have w4085 : dt4069 33 3 = dt2776 33 3 := hF4071 33 (by decide) 3
            have w4086 : dt4069 0 2 = dt2776 0 2 := hF4071 0 (by decide) 2
            have w4087 : dt4069 35 1 = dt2776 35 1 := hF4071 35 (by decide) 1
            have w4088 : dt4069 80 0 = dt2776 80 0 := hF4071 80 (by decide) 0
            have w4089 : dt4069 80 1 = dt2776 80 1 := hF4071 80 (by decide) 1
            have w4090 : dt4069 80 2 = dt2776 80 2 := hF4071 80 (by decide) 2
            have w4091 : dt4069 80 3 = dt2776 80 3 := hF4071 80 (by decide) 3
            have w4092 : dt4069 80 4 = dt2776 80 4 := hF4071 80 (by decide) 4
            have w4093 : dt4069 80 5 = dt2776 80 5 := hF4071 80 (by decide) 5
            have w4094 : dt4069 81 0 = dt2776 81 0 := hF4071 81 (by decide) 0
            have w4095 : dt4069 81 1 = dt2776 81 1 := hF4071 81 (by decide) 1
            have w4096 : dt4069 81 2 = dt2776 81 2 := hF4071 81 (by decide) 2
            have w4097 : dt4069 81 3 = dt2776 81 3 := hF4071 81 (by decide) 3
            have w4098 : dt4069 81 4 = dt2776 81 4 := hF4071 81 (by decide) 4
            have w4099 : dt4069 81 5 = dt2776 81 5 := hF4071 81 (by decide) 5
            have w4100 : dt4069 79 2 = dt2776 79 2 := hF4071 79 (by decide) 2
            have w4101 : dt4069 79 12 = dt2776 79 12 := hF4071 79 (by decide) 12
            rcases h4068 with ⟨v_h4068, rfl, h4068r, h4068⟩
            have M24102 : MW (dt4069 81) := MW_frk hM2L hF4071 (by decide)
            refine go_to (k := 6) (pc' := 936) (L' := [some (.inr (.inr (some 3000))), some (.inr (.inr (some 0))), some (.inr (.inr (some 79))), some (.inl l18_3)]) (st' := [.inl (l18_3 + 1), .inr (.inr (some 3000)), .inr (.inr (some 79))]) (w' := (SH, dt4069)) (fun _ => rfl) ?_
            have r4103 := i32_R (xs ((l18_3 + 1).toNat))
            refine go_smp (L' := [some (.inr (.inr (some 3000))), some (.inr (.inr (some 0))), some (.inr (.inr (some 79))), some (.inl l18_3)]) (st' := [.inl ((xs ((l18_3 + 1).toNat)).toInt), .inr (.inr (some 79))]) (w' := (SH, dt4069)) rfl rfl (s_iald (n := L) (f := fun j => (xs j).toInt) (am_scr hLL) ⟨by omega, by omega⟩) ?_
            refine go_call (Q' := _) rfl rfl rfl rfl rfl (sp_X6_fewest L xs sio (d + 32) dt4069 hI4070 hM4073  ((xs ((l18_3 + 1).toNat)).toInt) ⟨by omega, by omega⟩ ) ?_
            rintro _ _ ⟨dt4105, rfl, hI4106, hF4107, h4104⟩
            refine ⟨rfl, ?_⟩
            have hF4108 : Fr [0, 1, 2, 3, 4, 5, 6, 7, 8, 9, 10, 11, 12, 13, 14, 15, 16, 17, 18, 19, 20, 21, 22, 23, 24, 25, 26, 27, 28, 29, 30, 31, 32, 33, 34, 35, 36, 37, 38, 39, 40, 41, 42, 43, 44, 45, 46, 47, 48, 49, 50, 51, 52, 53, 54, 55, 56, 57, 58, 59, 60, 61, 62, 63, 64, 65, 66, 67, 68, 69, 70, 71, 72, 73, 74, 75, 76, 77, 78, 79, 80, 81, 82, 83, 84, 85, 86, 87, 88, 89, 90, 91, 92, 93, 94, 95, 96, 97, 98, 99, 100, 101, 102, 103, 104] dt dt4105 := Fr_tr hF4072 hF4107 (by decide)
            have hM4109 : MW (dt4105 80) := MW_fr hM4073 hF4107 (by decide)
            have w4110 : dt4105 1 0 = dt4069 1 0 := hF4107 1 (by decide) 0
            have w4111 : dt4105 7 3 = dt4069 7 3 := hF4107 7 (by decide) 3
            have w4112 : dt4105 10 3 = dt4069 10 3 := hF4107 10 (by decide) 3
            have w4113 : dt4105 12 3 = dt4069 12 3 := hF4107 12 (by decide) 3
            have w4114 : dt4105 14 3 = dt4069 14 3 := hF4107 14 (by decide) 3
            have w4115 : dt4105 16 3 = dt4069 16 3 := hF4107 16 (by decide) 3
            have w4116 : dt4105 18 0 = dt4069 18 0 := hF4107 18 (by decide) 0
            have w4117 : dt4105 24 3 = dt4069 24 3 := hF4107 24 (by decide) 3
            have w4118 : dt4105 27 3 = dt4069 27 3 := hF4107 27 (by decide) 3
            have w4119 : dt4105 29 3 = dt4069 29 3 := hF4107 29 (by decide) 3
            have w4120 : dt4105 31 3 = dt4069 31 3 := hF4107 31 (by decide) 3
            have w4121 : dt4105 33 3 = dt4069 33 3 := hF4107 33 (by decide) 3
            have w4122 : dt4105 0 2 = dt4069 0 2 := hF4107 0 (by decide) 2
            have w4123 : dt4105 35 1 = dt4069 35 1 := hF4107 35 (by decide) 1
            have w4124 : dt4105 80 0 = dt4069 80 0 := hF4107 80 (by decide) 0
            have w4125 : dt4105 80 1 = dt4069 80 1 := hF4107 80 (by decide) 1
            have w4126 : dt4105 80 2 = dt4069 80 2 := hF4107 80 (by decide) 2
            have w4127 : dt4105 80 3 = dt4069 80 3 := hF4107 80 (by decide) 3
            have w4128 : dt4105 80 4 = dt4069 80 4 := hF4107 80 (by decide) 4
            have w4129 : dt4105 80 5 = dt4069 80 5 := hF4107 80 (by decide) 5
            have w4130 : dt4105 81 0 = dt4069 81 0 := hF4107 81 (by decide) 0
            have w4131 : dt4105 81 1 = dt4069 81 1 := hF4107 81 (by decide) 1
            have w4132 : dt4105 81 2 = dt4069 81 2 := hF4107 81 (by decide) 2
            have w4133 : dt4105 81 3 = dt4069 81 3 := hF4107 81 (by decide) 3
            have w4134 : dt4105 81 4 = dt4069 81 4 := hF4107 81 (by decide) 4
            have w4135 : dt4105 81 5 = dt4069 81 5 := hF4107 81 (by decide) 5
            have w4136 : dt4105 79 2 = dt4069 79 2 := hF4107 79 (by decide) 2
            have w4137 : dt4105 79 12 = dt4069 79 12 := hF4107 79 (by decide) 12
            rcases h4104 with ⟨v_h4104, rfl, h4104r, h4104⟩
            have M24138 : MW (dt4105 81) := MW_frk M24102 hF4107 (by decide)
            refine go_to (k := 4) (pc' := 18) (L' := [some (.inr (.inr (some 3000))), some (.inr (.inr (some 0))), some (.inr (.inr (some 79))), some (.inl (l18_3 + 6))]) (st' := []) (w' := (SH, dt4105)) (fun _ => rfl) ?_
            exact GO.le (ih_loop2795 (l18_3 + 6) dt4105 hI4106 hF4108 hM4109 (by omega) (by exact M24138) (by omega) (by omega) (by omega) (by omega) (by omega) (by omega) (by omega) (by omega) (by omega) (by omega) (by omega) (by omega) (by omega) (by omega) (by omega)) ⟨.inl rfl, .inl rfl, .inl rfl, .inl rfl, trivial⟩
          · refine go_swi (v := 18) (p1 := 944) (lo := 0) (hi := 32) rfl c2802 (by decide) rfl ?_
            refine go_to (k := 5) (pc' := 949) (L' := [some (.inr (.inr (some 3000))), some (.inr (.inr (some 0))), some (.inr (.inr (some 79))), some (.inl l18_3)]) (st' := [.inl (l18_3 + 1), .inr (.inr (some 3000)), .inr (.inr (some 0))]) (w' := (SH, dt2776)) (fun _ => rfl) ?_
            have r4139 := i32_R (xs ((l18_3 + 1).toNat))
            refine go_smp (L' := [some (.inr (.inr (some 3000))), some (.inr (.inr (some 0))), some (.inr (.inr (some 79))), some (.inl l18_3)]) (st' := [.inl ((xs ((l18_3 + 1).toNat)).toInt), .inr (.inr (some 0))]) (w' := (SH, dt2776)) rfl rfl (s_iald (n := L) (f := fun j => (xs j).toInt) (am_scr hLL) ⟨by omega, by omega⟩) ?_
            refine go_to (k := 4) (pc' := 954) (L' := [some (.inr (.inr (some 3000))), some (.inr (.inr (some 0))), some (.inr (.inr (some 79))), some (.inl l18_3)]) (st' := [.inl (l18_3 + 2), .inr (.inr (some 3000)), .inl ((xs ((l18_3 + 1).toNat)).toInt), .inr (.inr (some 0))]) (w' := (SH, dt2776)) (fun _ => rfl) ?_
            have r4140 := i32_R (xs ((l18_3 + 2).toNat))
            refine go_smp (L' := [some (.inr (.inr (some 3000))), some (.inr (.inr (some 0))), some (.inr (.inr (some 79))), some (.inl l18_3)]) (st' := [.inl ((xs ((l18_3 + 2).toNat)).toInt), .inl ((xs ((l18_3 + 1).toNat)).toInt), .inr (.inr (some 0))]) (w' := (SH, dt2776)) rfl rfl (s_iald (n := L) (f := fun j => (xs j).toInt) (am_scr hLL) ⟨by omega, by omega⟩) ?_
            refine go_to (k := 4) (pc' := 959) (L' := [some (.inr (.inr (some 3000))), some (.inr (.inr (some 0))), some (.inr (.inr (some 79))), some (.inl l18_3)]) (st' := [.inl (l18_3 + 3), .inr (.inr (some 3000)), .inl ((xs ((l18_3 + 2).toNat)).toInt), .inl ((xs ((l18_3 + 1).toNat)).toInt), .inr (.inr (some 0))]) (w' := (SH, dt2776)) (fun _ => rfl) ?_
            have r4141 := i32_R (xs ((l18_3 + 3).toNat))
            refine go_smp (L' := [some (.inr (.inr (some 3000))), some (.inr (.inr (some 0))), some (.inr (.inr (some 79))), some (.inl l18_3)]) (st' := [.inl ((xs ((l18_3 + 3).toNat)).toInt), .inl ((xs ((l18_3 + 2).toNat)).toInt), .inl ((xs ((l18_3 + 1).toNat)).toInt), .inr (.inr (some 0))]) (w' := (SH, dt2776)) rfl rfl (s_iald (n := L) (f := fun j => (xs j).toInt) (am_scr hLL) ⟨by omega, by omega⟩) ?_
            refine go_call (Q' := _) rfl rfl rfl rfl rfl (sp_X5_make L xs sio (d + 32) dt2776 hI2777  ((xs ((l18_3 + 1).toNat)).toInt) ⟨by omega, by omega⟩ ((xs ((l18_3 + 2).toNat)).toInt) ⟨by omega, by omega⟩ ((xs ((l18_3 + 3).toNat)).toInt) ⟨by omega, by omega⟩ ) ?_
            rintro _ _ ⟨dt4143, rfl, hI4144, hF4145, h4142⟩
            refine ⟨rfl, ?_⟩
            have hF4146 : Fr [0, 1, 2, 3, 4, 5, 6, 7, 8, 9, 10, 11, 12, 13, 14, 15, 16, 17, 18, 19, 20, 21, 22, 23, 24, 25, 26, 27, 28, 29, 30, 31, 32, 33, 34, 35, 36, 37, 38, 39, 40, 41, 42, 43, 44, 45, 46, 47, 48, 49, 50, 51, 52, 53, 54, 55, 56, 57, 58, 59, 60, 61, 62, 63, 64, 65, 66, 67, 68, 69, 70, 71, 72, 73, 74, 75, 76, 77, 78, 79, 80, 81, 82, 83, 84, 85, 86, 87, 88, 89, 90, 91, 92, 93, 94, 95, 96, 97, 98, 99, 100, 101, 102, 103, 104] dt dt4143 := Fr_tr hF2778 hF4145 (by decide)
            have hM4147 : MW (dt4143 80) := MW_fr hM_dt2776 hF4145 (by decide)
            have w4148 : dt4143 1 0 = dt2776 1 0 := hF4145 1 (by decide) 0
            have w4149 : dt4143 7 3 = dt2776 7 3 := hF4145 7 (by decide) 3
            have w4150 : dt4143 10 3 = dt2776 10 3 := hF4145 10 (by decide) 3
            have w4151 : dt4143 12 3 = dt2776 12 3 := hF4145 12 (by decide) 3
            have w4152 : dt4143 14 3 = dt2776 14 3 := hF4145 14 (by decide) 3
            have w4153 : dt4143 16 3 = dt2776 16 3 := hF4145 16 (by decide) 3
            have w4154 : dt4143 18 0 = dt2776 18 0 := hF4145 18 (by decide) 0
            have w4155 : dt4143 24 3 = dt2776 24 3 := hF4145 24 (by decide) 3
            have w4156 : dt4143 27 3 = dt2776 27 3 := hF4145 27 (by decide) 3
            have w4157 : dt4143 29 3 = dt2776 29 3 := hF4145 29 (by decide) 3
            have w4158 : dt4143 31 3 = dt2776 31 3 := hF4145 31 (by decide) 3
            have w4159 : dt4143 33 3 = dt2776 33 3 := hF4145 33 (by decide) 3
            have w4160 : dt4143 0 2 = dt2776 0 2 := hF4145 0 (by decide) 2
            have w4161 : dt4143 35 1 = dt2776 35 1 := hF4145 35 (by decide) 1
            have w4162 : dt4143 80 0 = dt2776 80 0 := hF4145 80 (by decide) 0
            have w4163 : dt4143 80 1 = dt2776 80 1 := hF4145 80 (by decide) 1
            have w4164 : dt4143 80 2 = dt2776 80 2 := hF4145 80 (by decide) 2
            have w4165 : dt4143 80 3 = dt2776 80 3 := hF4145 80 (by decide) 3
            have w4166 : dt4143 80 4 = dt2776 80 4 := hF4145 80 (by decide) 4
            have w4167 : dt4143 80 5 = dt2776 80 5 := hF4145 80 (by decide) 5
            have w4168 : dt4143 81 0 = dt2776 81 0 := hF4145 81 (by decide) 0
            have w4169 : dt4143 81 1 = dt2776 81 1 := hF4145 81 (by decide) 1
            have w4170 : dt4143 81 2 = dt2776 81 2 := hF4145 81 (by decide) 2
            have w4171 : dt4143 81 3 = dt2776 81 3 := hF4145 81 (by decide) 3
            have w4172 : dt4143 81 4 = dt2776 81 4 := hF4145 81 (by decide) 4
            have w4173 : dt4143 81 5 = dt2776 81 5 := hF4145 81 (by decide) 5
            have w4174 : dt4143 79 2 = dt2776 79 2 := hF4145 79 (by decide) 2
            have w4175 : dt4143 79 12 = dt2776 79 12 := hF4145 79 (by decide) 12
            rcases h4142 with ⟨v_h4142, rfl, h4142r, h4142⟩
            have M24176 : MW (dt4143 81) := MW_frk hM2L hF4145 (by decide)
            refine go_to (k := 6) (pc' := 969) (L' := [some (.inr (.inr (some 3000))), some (.inr (.inr (some 0))), some (.inr (.inr (some 79))), some (.inl l18_3)]) (st' := [.inl (l18_3 + 1), .inr (.inr (some 3000)), .inr (.inr (some 79))]) (w' := (SH, dt4143)) (fun _ => rfl) ?_
            have r4177 := i32_R (xs ((l18_3 + 1).toNat))
            refine go_smp (L' := [some (.inr (.inr (some 3000))), some (.inr (.inr (some 0))), some (.inr (.inr (some 79))), some (.inl l18_3)]) (st' := [.inl ((xs ((l18_3 + 1).toNat)).toInt), .inr (.inr (some 79))]) (w' := (SH, dt4143)) rfl rfl (s_iald (n := L) (f := fun j => (xs j).toInt) (am_scr hLL) ⟨by omega, by omega⟩) ?_
            refine go_to (k := 4) (pc' := 974) (L' := [some (.inr (.inr (some 3000))), some (.inr (.inr (some 0))), some (.inr (.inr (some 79))), some (.inl l18_3)]) (st' := [.inl (l18_3 + 2), .inr (.inr (some 3000)), .inl ((xs ((l18_3 + 1).toNat)).toInt), .inr (.inr (some 79))]) (w' := (SH, dt4143)) (fun _ => rfl) ?_
            have r4178 := i32_R (xs ((l18_3 + 2).toNat))
            refine go_smp (L' := [some (.inr (.inr (some 3000))), some (.inr (.inr (some 0))), some (.inr (.inr (some 79))), some (.inl l18_3)]) (st' := [.inl ((xs ((l18_3 + 2).toNat)).toInt), .inl ((xs ((l18_3 + 1).toNat)).toInt), .inr (.inr (some 79))]) (w' := (SH, dt4143)) rfl rfl (s_iald (n := L) (f := fun j => (xs j).toInt) (am_scr hLL) ⟨by omega, by omega⟩) ?_
            refine go_to (k := 4) (pc' := 979) (L' := [some (.inr (.inr (some 3000))), some (.inr (.inr (some 0))), some (.inr (.inr (some 79))), some (.inl l18_3)]) (st' := [.inl (l18_3 + 3), .inr (.inr (some 3000)), .inl ((xs ((l18_3 + 2).toNat)).toInt), .inl ((xs ((l18_3 + 1).toNat)).toInt), .inr (.inr (some 79))]) (w' := (SH, dt4143)) (fun _ => rfl) ?_
            have r4179 := i32_R (xs ((l18_3 + 3).toNat))
            refine go_smp (L' := [some (.inr (.inr (some 3000))), some (.inr (.inr (some 0))), some (.inr (.inr (some 79))), some (.inl l18_3)]) (st' := [.inl ((xs ((l18_3 + 3).toNat)).toInt), .inl ((xs ((l18_3 + 2).toNat)).toInt), .inl ((xs ((l18_3 + 1).toNat)).toInt), .inr (.inr (some 79))]) (w' := (SH, dt4143)) rfl rfl (s_iald (n := L) (f := fun j => (xs j).toInt) (am_scr hLL) ⟨by omega, by omega⟩) ?_
            refine go_call (Q' := _) rfl rfl rfl rfl rfl (sp_X6_make L xs sio (d + 32) dt4143 hI4144 hM4147  ((xs ((l18_3 + 1).toNat)).toInt) ⟨by omega, by omega⟩ ((xs ((l18_3 + 2).toNat)).toInt) ⟨by omega, by omega⟩ ((xs ((l18_3 + 3).toNat)).toInt) ⟨by omega, by omega⟩ ) ?_
            rintro _ _ ⟨dt4181, rfl, hI4182, hF4183, h4180⟩
            refine ⟨rfl, ?_⟩
            have hF4184 : Fr [0, 1, 2, 3, 4, 5, 6, 7, 8, 9, 10, 11, 12, 13, 14, 15, 16, 17, 18, 19, 20, 21, 22, 23, 24, 25, 26, 27, 28, 29, 30, 31, 32, 33, 34, 35, 36, 37, 38, 39, 40, 41, 42, 43, 44, 45, 46, 47, 48, 49, 50, 51, 52, 53, 54, 55, 56, 57, 58, 59, 60, 61, 62, 63, 64, 65, 66, 67, 68, 69, 70, 71, 72, 73, 74, 75, 76, 77, 78, 79, 80, 81, 82, 83, 84, 85, 86, 87, 88, 89, 90, 91, 92, 93, 94, 95, 96, 97, 98, 99, 100, 101, 102, 103, 104] dt dt4181 := Fr_tr hF4146 hF4183 (by decide)
            have hM4185 : MW (dt4181 80) := MW_fr hM4147 hF4183 (by decide)
            have w4186 : dt4181 1 0 = dt4143 1 0 := hF4183 1 (by decide) 0
            have w4187 : dt4181 7 3 = dt4143 7 3 := hF4183 7 (by decide) 3
            have w4188 : dt4181 10 3 = dt4143 10 3 := hF4183 10 (by decide) 3
            have w4189 : dt4181 12 3 = dt4143 12 3 := hF4183 12 (by decide) 3
            have w4190 : dt4181 14 3 = dt4143 14 3 := hF4183 14 (by decide) 3
            have w4191 : dt4181 16 3 = dt4143 16 3 := hF4183 16 (by decide) 3
            have w4192 : dt4181 18 0 = dt4143 18 0 := hF4183 18 (by decide) 0
            have w4193 : dt4181 24 3 = dt4143 24 3 := hF4183 24 (by decide) 3
            have w4194 : dt4181 27 3 = dt4143 27 3 := hF4183 27 (by decide) 3
            have w4195 : dt4181 29 3 = dt4143 29 3 := hF4183 29 (by decide) 3
            have w4196 : dt4181 31 3 = dt4143 31 3 := hF4183 31 (by decide) 3
            have w4197 : dt4181 33 3 = dt4143 33 3 := hF4183 33 (by decide) 3
            have w4198 : dt4181 0 2 = dt4143 0 2 := hF4183 0 (by decide) 2
            have w4199 : dt4181 35 1 = dt4143 35 1 := hF4183 35 (by decide) 1
            have w4200 : dt4181 80 0 = dt4143 80 0 := hF4183 80 (by decide) 0
            have w4201 : dt4181 80 1 = dt4143 80 1 := hF4183 80 (by decide) 1
            have w4202 : dt4181 80 2 = dt4143 80 2 := hF4183 80 (by decide) 2
            have w4203 : dt4181 80 3 = dt4143 80 3 := hF4183 80 (by decide) 3
            have w4204 : dt4181 80 4 = dt4143 80 4 := hF4183 80 (by decide) 4
            have w4205 : dt4181 80 5 = dt4143 80 5 := hF4183 80 (by decide) 5
            have w4206 : dt4181 81 0 = dt4143 81 0 := hF4183 81 (by decide) 0
            have w4207 : dt4181 81 1 = dt4143 81 1 := hF4183 81 (by decide) 1
            have w4208 : dt4181 81 2 = dt4143 81 2 := hF4183 81 (by decide) 2
            have w4209 : dt4181 81 3 = dt4143 81 3 := hF4183 81 (by decide) 3
            have w4210 : dt4181 81 4 = dt4143 81 4 := hF4183 81 (by decide) 4
            have w4211 : dt4181 81 5 = dt4143 81 5 := hF4183 81 (by decide) 5
            have w4212 : dt4181 79 2 = dt4143 79 2 := hF4183 79 (by decide) 2
            have w4213 : dt4181 79 12 = dt4143 79 12 := hF4183 79 (by decide) 12
            rcases h4180 with ⟨v_h4180, rfl, h4180r, h4180⟩
            have M24214 : MW (dt4181 81) := MW_frk M24176 hF4183 (by decide)
            refine go_to (k := 4) (pc' := 18) (L' := [some (.inr (.inr (some 3000))), some (.inr (.inr (some 0))), some (.inr (.inr (some 79))), some (.inl (l18_3 + 6))]) (st' := []) (w' := (SH, dt4181)) (fun _ => rfl) ?_
            exact GO.le (ih_loop2795 (l18_3 + 6) dt4181 hI4182 hF4184 hM4185 (by omega) (by exact M24214) (by omega) (by omega) (by omega) (by omega) (by omega) (by omega) (by omega) (by omega) (by omega) (by omega) (by omega) (by omega) (by omega) (by omega) (by omega)) ⟨.inl rfl, .inl rfl, .inl rfl, .inl rfl, trivial⟩
          · refine go_swi (v := 19) (p1 := 987) (lo := 0) (hi := 32) rfl c2802 (by decide) rfl ?_
            refine go_to (k := 5) (pc' := 992) (L' := [some (.inr (.inr (some 3000))), some (.inr (.inr (some 0))), some (.inr (.inr (some 79))), some (.inl l18_3)]) (st' := [.inl (l18_3 + 1), .inr (.inr (some 3000)), .inr (.inr (some 0))]) (w' := (SH, dt2776)) (fun _ => rfl) ?_
            have r4215 := i32_R (xs ((l18_3 + 1).toNat))
            refine go_smp (L' := [some (.inr (.inr (some 3000))), some (.inr (.inr (some 0))), some (.inr (.inr (some 79))), some (.inl l18_3)]) (st' := [.inl ((xs ((l18_3 + 1).toNat)).toInt), .inr (.inr (some 0))]) (w' := (SH, dt2776)) rfl rfl (s_iald (n := L) (f := fun j => (xs j).toInt) (am_scr hLL) ⟨by omega, by omega⟩) ?_
            refine go_to (k := 4) (pc' := 997) (L' := [some (.inr (.inr (some 3000))), some (.inr (.inr (some 0))), some (.inr (.inr (some 79))), some (.inl l18_3)]) (st' := [.inl (l18_3 + 2), .inr (.inr (some 3000)), .inl ((xs ((l18_3 + 1).toNat)).toInt), .inr (.inr (some 0))]) (w' := (SH, dt2776)) (fun _ => rfl) ?_
            have r4216 := i32_R (xs ((l18_3 + 2).toNat))
            refine go_smp (L' := [some (.inr (.inr (some 3000))), some (.inr (.inr (some 0))), some (.inr (.inr (some 79))), some (.inl l18_3)]) (st' := [.inl ((xs ((l18_3 + 2).toNat)).toInt), .inl ((xs ((l18_3 + 1).toNat)).toInt), .inr (.inr (some 0))]) (w' := (SH, dt2776)) rfl rfl (s_iald (n := L) (f := fun j => (xs j).toInt) (am_scr hLL) ⟨by omega, by omega⟩) ?_
            refine go_call (Q' := _) rfl rfl rfl rfl rfl (sp_X5_odds L xs sio (d + 34) dt2776 hI2777  ((xs ((l18_3 + 1).toNat)).toInt) ⟨by omega, by omega⟩ ((xs ((l18_3 + 2).toNat)).toInt) ⟨by omega, by omega⟩ ) ?_
            rintro _ _ ⟨dt4218, rfl, hI4219, hF4220, h4217⟩
            refine ⟨rfl, ?_⟩
            have hF4221 : Fr [0, 1, 2, 3, 4, 5, 6, 7, 8, 9, 10, 11, 12, 13, 14, 15, 16, 17, 18, 19, 20, 21, 22, 23, 24, 25, 26, 27, 28, 29, 30, 31, 32, 33, 34, 35, 36, 37, 38, 39, 40, 41, 42, 43, 44, 45, 46, 47, 48, 49, 50, 51, 52, 53, 54, 55, 56, 57, 58, 59, 60, 61, 62, 63, 64, 65, 66, 67, 68, 69, 70, 71, 72, 73, 74, 75, 76, 77, 78, 79, 80, 81, 82, 83, 84, 85, 86, 87, 88, 89, 90, 91, 92, 93, 94, 95, 96, 97, 98, 99, 100, 101, 102, 103, 104] dt dt4218 := Fr_tr hF2778 hF4220 (by decide)
            have hM4222 : MW (dt4218 80) := MW_fr hM_dt2776 hF4220 (by decide)
            have w4223 : dt4218 1 0 = dt2776 1 0 := hF4220 1 (by decide) 0
            have w4224 : dt4218 7 3 = dt2776 7 3 := hF4220 7 (by decide) 3
            have w4225 : dt4218 10 3 = dt2776 10 3 := hF4220 10 (by decide) 3
            have w4226 : dt4218 12 3 = dt2776 12 3 := hF4220 12 (by decide) 3
            have w4227 : dt4218 14 3 = dt2776 14 3 := hF4220 14 (by decide) 3
            have w4228 : dt4218 16 3 = dt2776 16 3 := hF4220 16 (by decide) 3
            have w4229 : dt4218 18 0 = dt2776 18 0 := hF4220 18 (by decide) 0
            have w4230 : dt4218 24 3 = dt2776 24 3 := hF4220 24 (by decide) 3
            have w4231 : dt4218 27 3 = dt2776 27 3 := hF4220 27 (by decide) 3
            have w4232 : dt4218 29 3 = dt2776 29 3 := hF4220 29 (by decide) 3
            have w4233 : dt4218 31 3 = dt2776 31 3 := hF4220 31 (by decide) 3
            have w4234 : dt4218 33 3 = dt2776 33 3 := hF4220 33 (by decide) 3
            have w4235 : dt4218 0 2 = dt2776 0 2 := hF4220 0 (by decide) 2
            have w4236 : dt4218 35 1 = dt2776 35 1 := hF4220 35 (by decide) 1
            have w4237 : dt4218 80 0 = dt2776 80 0 := hF4220 80 (by decide) 0
            have w4238 : dt4218 80 1 = dt2776 80 1 := hF4220 80 (by decide) 1
            have w4239 : dt4218 80 2 = dt2776 80 2 := hF4220 80 (by decide) 2
            have w4240 : dt4218 80 3 = dt2776 80 3 := hF4220 80 (by decide) 3
            have w4241 : dt4218 80 4 = dt2776 80 4 := hF4220 80 (by decide) 4
            have w4242 : dt4218 80 5 = dt2776 80 5 := hF4220 80 (by decide) 5
            have w4243 : dt4218 81 0 = dt2776 81 0 := hF4220 81 (by decide) 0
            have w4244 : dt4218 81 1 = dt2776 81 1 := hF4220 81 (by decide) 1
            have w4245 : dt4218 81 2 = dt2776 81 2 := hF4220 81 (by decide) 2
            have w4246 : dt4218 81 3 = dt2776 81 3 := hF4220 81 (by decide) 3
            have w4247 : dt4218 81 4 = dt2776 81 4 := hF4220 81 (by decide) 4
            have w4248 : dt4218 81 5 = dt2776 81 5 := hF4220 81 (by decide) 5
            have w4249 : dt4218 79 2 = dt2776 79 2 := hF4220 79 (by decide) 2
            have w4250 : dt4218 79 12 = dt2776 79 12 := hF4220 79 (by decide) 12
            rcases h4217 with ⟨v_h4217, rfl, h4217r, h4217⟩
            have M24251 : MW (dt4218 81) := MW_frk hM2L hF4220 (by decide)
            refine go_to (k := 6) (pc' := 1007) (L' := [some (.inr (.inr (some 3000))), some (.inr (.inr (some 0))), some (.inr (.inr (some 79))), some (.inl l18_3)]) (st' := [.inl (l18_3 + 1), .inr (.inr (some 3000)), .inr (.inr (some 79))]) (w' := (SH, dt4218)) (fun _ => rfl) ?_
            have r4252 := i32_R (xs ((l18_3 + 1).toNat))
            refine go_smp (L' := [some (.inr (.inr (some 3000))), some (.inr (.inr (some 0))), some (.inr (.inr (some 79))), some (.inl l18_3)]) (st' := [.inl ((xs ((l18_3 + 1).toNat)).toInt), .inr (.inr (some 79))]) (w' := (SH, dt4218)) rfl rfl (s_iald (n := L) (f := fun j => (xs j).toInt) (am_scr hLL) ⟨by omega, by omega⟩) ?_
            refine go_to (k := 4) (pc' := 1012) (L' := [some (.inr (.inr (some 3000))), some (.inr (.inr (some 0))), some (.inr (.inr (some 79))), some (.inl l18_3)]) (st' := [.inl (l18_3 + 2), .inr (.inr (some 3000)), .inl ((xs ((l18_3 + 1).toNat)).toInt), .inr (.inr (some 79))]) (w' := (SH, dt4218)) (fun _ => rfl) ?_
            have r4253 := i32_R (xs ((l18_3 + 2).toNat))
            refine go_smp (L' := [some (.inr (.inr (some 3000))), some (.inr (.inr (some 0))), some (.inr (.inr (some 79))), some (.inl l18_3)]) (st' := [.inl ((xs ((l18_3 + 2).toNat)).toInt), .inl ((xs ((l18_3 + 1).toNat)).toInt), .inr (.inr (some 79))]) (w' := (SH, dt4218)) rfl rfl (s_iald (n := L) (f := fun j => (xs j).toInt) (am_scr hLL) ⟨by omega, by omega⟩) ?_
            refine go_call (Q' := _) rfl rfl rfl rfl rfl (sp_X6_odds L xs sio (d + 31) dt4218 hI4219 hM4222  ((xs ((l18_3 + 1).toNat)).toInt) ⟨by omega, by omega⟩ ((xs ((l18_3 + 2).toNat)).toInt) ⟨by omega, by omega⟩ ) ?_
            rintro _ _ ⟨dt4255, rfl, hI4256, hF4257, h4254⟩
            refine ⟨rfl, ?_⟩
            have hF4258 : Fr [0, 1, 2, 3, 4, 5, 6, 7, 8, 9, 10, 11, 12, 13, 14, 15, 16, 17, 18, 19, 20, 21, 22, 23, 24, 25, 26, 27, 28, 29, 30, 31, 32, 33, 34, 35, 36, 37, 38, 39, 40, 41, 42, 43, 44, 45, 46, 47, 48, 49, 50, 51, 52, 53, 54, 55, 56, 57, 58, 59, 60, 61, 62, 63, 64, 65, 66, 67, 68, 69, 70, 71, 72, 73, 74, 75, 76, 77, 78, 79, 80, 81, 82, 83, 84, 85, 86, 87, 88, 89, 90, 91, 92, 93, 94, 95, 96, 97, 98, 99, 100, 101, 102, 103, 104] dt dt4255 := Fr_tr hF4221 hF4257 (by decide)
            have hM4259 : MW (dt4255 80) := MW_fr hM4222 hF4257 (by decide)
            have w4260 : dt4255 1 0 = dt4218 1 0 := hF4257 1 (by decide) 0
            have w4261 : dt4255 7 3 = dt4218 7 3 := hF4257 7 (by decide) 3
            have w4262 : dt4255 10 3 = dt4218 10 3 := hF4257 10 (by decide) 3
            have w4263 : dt4255 12 3 = dt4218 12 3 := hF4257 12 (by decide) 3
            have w4264 : dt4255 14 3 = dt4218 14 3 := hF4257 14 (by decide) 3
            have w4265 : dt4255 16 3 = dt4218 16 3 := hF4257 16 (by decide) 3
            have w4266 : dt4255 18 0 = dt4218 18 0 := hF4257 18 (by decide) 0
            have w4267 : dt4255 24 3 = dt4218 24 3 := hF4257 24 (by decide) 3
            have w4268 : dt4255 27 3 = dt4218 27 3 := hF4257 27 (by decide) 3
            have w4269 : dt4255 29 3 = dt4218 29 3 := hF4257 29 (by decide) 3
            have w4270 : dt4255 31 3 = dt4218 31 3 := hF4257 31 (by decide) 3
            have w4271 : dt4255 33 3 = dt4218 33 3 := hF4257 33 (by decide) 3
            have w4272 : dt4255 0 2 = dt4218 0 2 := hF4257 0 (by decide) 2
            have w4273 : dt4255 35 1 = dt4218 35 1 := hF4257 35 (by decide) 1
            have w4274 : dt4255 80 0 = dt4218 80 0 := hF4257 80 (by decide) 0
            have w4275 : dt4255 80 1 = dt4218 80 1 := hF4257 80 (by decide) 1
            have w4276 : dt4255 80 2 = dt4218 80 2 := hF4257 80 (by decide) 2
            have w4277 : dt4255 80 3 = dt4218 80 3 := hF4257 80 (by decide) 3
            have w4278 : dt4255 80 4 = dt4218 80 4 := hF4257 80 (by decide) 4
            have w4279 : dt4255 80 5 = dt4218 80 5 := hF4257 80 (by decide) 5
            have w4280 : dt4255 81 0 = dt4218 81 0 := hF4257 81 (by decide) 0
            have w4281 : dt4255 81 1 = dt4218 81 1 := hF4257 81 (by decide) 1
            have w4282 : dt4255 81 2 = dt4218 81 2 := hF4257 81 (by decide) 2
            have w4283 : dt4255 81 3 = dt4218 81 3 := hF4257 81 (by decide) 3
            have w4284 : dt4255 81 4 = dt4218 81 4 := hF4257 81 (by decide) 4
            have w4285 : dt4255 81 5 = dt4218 81 5 := hF4257 81 (by decide) 5
            have w4286 : dt4255 79 2 = dt4218 79 2 := hF4257 79 (by decide) 2
            have w4287 : dt4255 79 12 = dt4218 79 12 := hF4257 79 (by decide) 12
            rcases h4254 with ⟨v_h4254, rfl, h4254r, h4254⟩
            have M24288 : MW (dt4255 81) := MW_frk M24251 hF4257 (by decide)
            refine go_to (k := 4) (pc' := 18) (L' := [some (.inr (.inr (some 3000))), some (.inr (.inr (some 0))), some (.inr (.inr (some 79))), some (.inl (l18_3 + 6))]) (st' := []) (w' := (SH, dt4255)) (fun _ => rfl) ?_
            exact GO.le (ih_loop2795 (l18_3 + 6) dt4255 hI4256 hF4258 hM4259 (by omega) (by exact M24288) (by omega) (by omega) (by omega) (by omega) (by omega) (by omega) (by omega) (by omega) (by omega) (by omega) (by omega) (by omega) (by omega) (by omega) (by omega)) ⟨.inl rfl, .inl rfl, .inl rfl, .inl rfl, trivial⟩
          · refine go_swi (v := 20) (p1 := 1020) (lo := 0) (hi := 32) rfl c2802 (by decide) rfl ?_
            refine go_to (k := 5) (pc' := 1025) (L' := [some (.inr (.inr (some 3000))), some (.inr (.inr (some 0))), some (.inr (.inr (some 79))), some (.inl l18_3)]) (st' := [.inl (l18_3 + 1), .inr (.inr (some 3000)), .inr (.inr (some 0))]) (w' := (SH, dt2776)) (fun _ => rfl) ?_
            have r4289 := i32_R (xs ((l18_3 + 1).toNat))
            refine go_smp (L' := [some (.inr (.inr (some 3000))), some (.inr (.inr (some 0))), some (.inr (.inr (some 79))), some (.inl l18_3)]) (st' := [.inl ((xs ((l18_3 + 1).toNat)).toInt), .inr (.inr (some 0))]) (w' := (SH, dt2776)) rfl rfl (s_iald (n := L) (f := fun j => (xs j).toInt) (am_scr hLL) ⟨by omega, by omega⟩) ?_
            refine go_to (k := 4) (pc' := 1030) (L' := [some (.inr (.inr (some 3000))), some (.inr (.inr (some 0))), some (.inr (.inr (some 79))), some (.inl l18_3)]) (st' := [.inl (l18_3 + 2), .inr (.inr (some 3000)), .inl ((xs ((l18_3 + 1).toNat)).toInt), .inr (.inr (some 0))]) (w' := (SH, dt2776)) (fun _ => rfl) ?_
            have r4290 := i32_R (xs ((l18_3 + 2).toNat))
            refine go_smp (L' := [some (.inr (.inr (some 3000))), some (.inr (.inr (some 0))), some (.inr (.inr (some 79))), some (.inl l18_3)]) (st' := [.inl ((xs ((l18_3 + 2).toNat)).toInt), .inl ((xs ((l18_3 + 1).toNat)).toInt), .inr (.inr (some 0))]) (w' := (SH, dt2776)) rfl rfl (s_iald (n := L) (f := fun j => (xs j).toInt) (am_scr hLL) ⟨by omega, by omega⟩) ?_
            refine go_call (Q' := _) rfl rfl rfl rfl rfl (sp_X5_need L xs sio (d + 35) dt2776 hI2777  ((xs ((l18_3 + 1).toNat)).toInt) ⟨by omega, by omega⟩ ((xs ((l18_3 + 2).toNat)).toInt) ⟨by omega, by omega⟩ ) ?_
            rintro _ _ ⟨dt4292, rfl, hI4293, hF4294, h4291⟩
            refine ⟨rfl, ?_⟩
            have hF4295 : Fr [0, 1, 2, 3, 4, 5, 6, 7, 8, 9, 10, 11, 12, 13, 14, 15, 16, 17, 18, 19, 20, 21, 22, 23, 24, 25, 26, 27, 28, 29, 30, 31, 32, 33, 34, 35, 36, 37, 38, 39, 40, 41, 42, 43, 44, 45, 46, 47, 48, 49, 50, 51, 52, 53, 54, 55, 56, 57, 58, 59, 60, 61, 62, 63, 64, 65, 66, 67, 68, 69, 70, 71, 72, 73, 74, 75, 76, 77, 78, 79, 80, 81, 82, 83, 84, 85, 86, 87, 88, 89, 90, 91, 92, 93, 94, 95, 96, 97, 98, 99, 100, 101, 102, 103, 104] dt dt4292 := Fr_tr hF2778 hF4294 (by decide)
            have hM4296 : MW (dt4292 80) := MW_fr hM_dt2776 hF4294 (by decide)
            have w4297 : dt4292 1 0 = dt2776 1 0 := hF4294 1 (by decide) 0
            have w4298 : dt4292 7 3 = dt2776 7 3 := hF4294 7 (by decide) 3
            have w4299 : dt4292 10 3 = dt2776 10 3 := hF4294 10 (by decide) 3
            have w4300 : dt4292 12 3 = dt2776 12 3 := hF4294 12 (by decide) 3
            have w4301 : dt4292 14 3 = dt2776 14 3 := hF4294 14 (by decide) 3
            have w4302 : dt4292 16 3 = dt2776 16 3 := hF4294 16 (by decide) 3
            have w4303 : dt4292 18 0 = dt2776 18 0 := hF4294 18 (by decide) 0
            have w4304 : dt4292 24 3 = dt2776 24 3 := hF4294 24 (by decide) 3
            have w4305 : dt4292 27 3 = dt2776 27 3 := hF4294 27 (by decide) 3
            have w4306 : dt4292 29 3 = dt2776 29 3 := hF4294 29 (by decide) 3
            have w4307 : dt4292 31 3 = dt2776 31 3 := hF4294 31 (by decide) 3
            have w4308 : dt4292 33 3 = dt2776 33 3 := hF4294 33 (by decide) 3
            have w4309 : dt4292 0 2 = dt2776 0 2 := hF4294 0 (by decide) 2
            have w4310 : dt4292 35 1 = dt2776 35 1 := hF4294 35 (by decide) 1
            have w4311 : dt4292 80 0 = dt2776 80 0 := hF4294 80 (by decide) 0
            have w4312 : dt4292 80 1 = dt2776 80 1 := hF4294 80 (by decide) 1
            have w4313 : dt4292 80 2 = dt2776 80 2 := hF4294 80 (by decide) 2
            have w4314 : dt4292 80 3 = dt2776 80 3 := hF4294 80 (by decide) 3
            have w4315 : dt4292 80 4 = dt2776 80 4 := hF4294 80 (by decide) 4
            have w4316 : dt4292 80 5 = dt2776 80 5 := hF4294 80 (by decide) 5
            have w4317 : dt4292 81 0 = dt2776 81 0 := hF4294 81 (by decide) 0
            have w4318 : dt4292 81 1 = dt2776 81 1 := hF4294 81 (by decide) 1
            have w4319 : dt4292 81 2 = dt2776 81 2 := hF4294 81 (by decide) 2
            have w4320 : dt4292 81 3 = dt2776 81 3 := hF4294 81 (by decide) 3
            have w4321 : dt4292 81 4 = dt2776 81 4 := hF4294 81 (by decide) 4
            have w4322 : dt4292 81 5 = dt2776 81 5 := hF4294 81 (by decide) 5
            have w4323 : dt4292 79 2 = dt2776 79 2 := hF4294 79 (by decide) 2
            have w4324 : dt4292 79 12 = dt2776 79 12 := hF4294 79 (by decide) 12
            rcases h4291 with ⟨v_h4291, rfl, h4291r, h4291⟩
            have M24325 : MW (dt4292 81) := MW_frk hM2L hF4294 (by decide)
            refine go_to (k := 6) (pc' := 1040) (L' := [some (.inr (.inr (some 3000))), some (.inr (.inr (some 0))), some (.inr (.inr (some 79))), some (.inl l18_3)]) (st' := [.inl (l18_3 + 1), .inr (.inr (some 3000)), .inr (.inr (some 79))]) (w' := (SH, dt4292)) (fun _ => rfl) ?_
            have r4326 := i32_R (xs ((l18_3 + 1).toNat))
            refine go_smp (L' := [some (.inr (.inr (some 3000))), some (.inr (.inr (some 0))), some (.inr (.inr (some 79))), some (.inl l18_3)]) (st' := [.inl ((xs ((l18_3 + 1).toNat)).toInt), .inr (.inr (some 79))]) (w' := (SH, dt4292)) rfl rfl (s_iald (n := L) (f := fun j => (xs j).toInt) (am_scr hLL) ⟨by omega, by omega⟩) ?_
            refine go_to (k := 4) (pc' := 1045) (L' := [some (.inr (.inr (some 3000))), some (.inr (.inr (some 0))), some (.inr (.inr (some 79))), some (.inl l18_3)]) (st' := [.inl (l18_3 + 2), .inr (.inr (some 3000)), .inl ((xs ((l18_3 + 1).toNat)).toInt), .inr (.inr (some 79))]) (w' := (SH, dt4292)) (fun _ => rfl) ?_
            have r4327 := i32_R (xs ((l18_3 + 2).toNat))
            refine go_smp (L' := [some (.inr (.inr (some 3000))), some (.inr (.inr (some 0))), some (.inr (.inr (some 79))), some (.inl l18_3)]) (st' := [.inl ((xs ((l18_3 + 2).toNat)).toInt), .inl ((xs ((l18_3 + 1).toNat)).toInt), .inr (.inr (some 79))]) (w' := (SH, dt4292)) rfl rfl (s_iald (n := L) (f := fun j => (xs j).toInt) (am_scr hLL) ⟨by omega, by omega⟩) ?_
            refine go_call (Q' := _) rfl rfl rfl rfl rfl (sp_X6_need L xs sio (d + 33) dt4292 hI4293 hM4296  ((xs ((l18_3 + 1).toNat)).toInt) ⟨by omega, by omega⟩ ((xs ((l18_3 + 2).toNat)).toInt) ⟨by omega, by omega⟩ ) ?_
            rintro _ _ ⟨dt4329, rfl, hI4330, hF4331, h4328⟩
            refine ⟨rfl, ?_⟩
            have hF4332 : Fr [0, 1, 2, 3, 4, 5, 6, 7, 8, 9, 10, 11, 12, 13, 14, 15, 16, 17, 18, 19, 20, 21, 22, 23, 24, 25, 26, 27, 28, 29, 30, 31, 32, 33, 34, 35, 36, 37, 38, 39, 40, 41, 42, 43, 44, 45, 46, 47, 48, 49, 50, 51, 52, 53, 54, 55, 56, 57, 58, 59, 60, 61, 62, 63, 64, 65, 66, 67, 68, 69, 70, 71, 72, 73, 74, 75, 76, 77, 78, 79, 80, 81, 82, 83, 84, 85, 86, 87, 88, 89, 90, 91, 92, 93, 94, 95, 96, 97, 98, 99, 100, 101, 102, 103, 104] dt dt4329 := Fr_tr hF4295 hF4331 (by decide)
            have hM4333 : MW (dt4329 80) := MW_fr hM4296 hF4331 (by decide)
            have w4334 : dt4329 1 0 = dt4292 1 0 := hF4331 1 (by decide) 0
            have w4335 : dt4329 7 3 = dt4292 7 3 := hF4331 7 (by decide) 3
            have w4336 : dt4329 10 3 = dt4292 10 3 := hF4331 10 (by decide) 3
            have w4337 : dt4329 12 3 = dt4292 12 3 := hF4331 12 (by decide) 3
            have w4338 : dt4329 14 3 = dt4292 14 3 := hF4331 14 (by decide) 3
            have w4339 : dt4329 16 3 = dt4292 16 3 := hF4331 16 (by decide) 3
            have w4340 : dt4329 18 0 = dt4292 18 0 := hF4331 18 (by decide) 0
            have w4341 : dt4329 24 3 = dt4292 24 3 := hF4331 24 (by decide) 3
            have w4342 : dt4329 27 3 = dt4292 27 3 := hF4331 27 (by decide) 3
            have w4343 : dt4329 29 3 = dt4292 29 3 := hF4331 29 (by decide) 3
            have w4344 : dt4329 31 3 = dt4292 31 3 := hF4331 31 (by decide) 3
            have w4345 : dt4329 33 3 = dt4292 33 3 := hF4331 33 (by decide) 3
            have w4346 : dt4329 0 2 = dt4292 0 2 := hF4331 0 (by decide) 2
            have w4347 : dt4329 35 1 = dt4292 35 1 := hF4331 35 (by decide) 1
            have w4348 : dt4329 80 0 = dt4292 80 0 := hF4331 80 (by decide) 0
            have w4349 : dt4329 80 1 = dt4292 80 1 := hF4331 80 (by decide) 1
            have w4350 : dt4329 80 2 = dt4292 80 2 := hF4331 80 (by decide) 2
            have w4351 : dt4329 80 3 = dt4292 80 3 := hF4331 80 (by decide) 3
            have w4352 : dt4329 80 4 = dt4292 80 4 := hF4331 80 (by decide) 4
            have w4353 : dt4329 80 5 = dt4292 80 5 := hF4331 80 (by decide) 5
            have w4354 : dt4329 81 0 = dt4292 81 0 := hF4331 81 (by decide) 0
            have w4355 : dt4329 81 1 = dt4292 81 1 := hF4331 81 (by decide) 1
            have w4356 : dt4329 81 2 = dt4292 81 2 := hF4331 81 (by decide) 2
            have w4357 : dt4329 81 3 = dt4292 81 3 := hF4331 81 (by decide) 3
            have w4358 : dt4329 81 4 = dt4292 81 4 := hF4331 81 (by decide) 4
            have w4359 : dt4329 81 5 = dt4292 81 5 := hF4331 81 (by decide) 5
            have w4360 : dt4329 79 2 = dt4292 79 2 := hF4331 79 (by decide) 2
            have w4361 : dt4329 79 12 = dt4292 79 12 := hF4331 79 (by decide) 12
            rcases h4328 with ⟨v_h4328, rfl, h4328r, h4328⟩
            have M24362 : MW (dt4329 81) := MW_frk M24325 hF4331 (by decide)
            refine go_to (k := 4) (pc' := 18) (L' := [some (.inr (.inr (some 3000))), some (.inr (.inr (some 0))), some (.inr (.inr (some 79))), some (.inl (l18_3 + 6))]) (st' := []) (w' := (SH, dt4329)) (fun _ => rfl) ?_
            exact GO.le (ih_loop2795 (l18_3 + 6) dt4329 hI4330 hF4332 hM4333 (by omega) (by exact M24362) (by omega) (by omega) (by omega) (by omega) (by omega) (by omega) (by omega) (by omega) (by omega) (by omega) (by omega) (by omega) (by omega) (by omega) (by omega)) ⟨.inl rfl, .inl rfl, .inl rfl, .inl rfl, trivial⟩
          · refine go_swi (v := 21) (p1 := 1053) (lo := 0) (hi := 32) rfl c2802 (by decide) rfl ?_
            refine go_to (k := 5) (pc' := 1058) (L' := [some (.inr (.inr (some 3000))), some (.inr (.inr (some 0))), some (.inr (.inr (some 79))), some (.inl l18_3)]) (st' := [.inl (l18_3 + 1), .inr (.inr (some 3000)), .inr (.inr (some 0))]) (w' := (SH, dt2776)) (fun _ => rfl) ?_
            have r4363 := i32_R (xs ((l18_3 + 1).toNat))
            refine go_smp (L' := [some (.inr (.inr (some 3000))), some (.inr (.inr (some 0))), some (.inr (.inr (some 79))), some (.inl l18_3)]) (st' := [.inl ((xs ((l18_3 + 1).toNat)).toInt), .inr (.inr (some 0))]) (w' := (SH, dt2776)) rfl rfl (s_iald (n := L) (f := fun j => (xs j).toInt) (am_scr hLL) ⟨by omega, by omega⟩) ?_
            refine go_to (k := 4) (pc' := 1063) (L' := [some (.inr (.inr (some 3000))), some (.inr (.inr (some 0))), some (.inr (.inr (some 79))), some (.inl l18_3)]) (st' := [.inl (l18_3 + 2), .inr (.inr (some 3000)), .inl ((xs ((l18_3 + 1).toNat)).toInt), .inr (.inr (some 0))]) (w' := (SH, dt2776)) (fun _ => rfl) ?_
            have r4364 := i32_R (xs ((l18_3 + 2).toNat))
            refine go_smp (L' := [some (.inr (.inr (some 3000))), some (.inr (.inr (some 0))), some (.inr (.inr (some 79))), some (.inl l18_3)]) (st' := [.inl ((xs ((l18_3 + 2).toNat)).toInt), .inl ((xs ((l18_3 + 1).toNat)).toInt), .inr (.inr (some 0))]) (w' := (SH, dt2776)) rfl rfl (s_iald (n := L) (f := fun j => (xs j).toInt) (am_scr hLL) ⟨by omega, by omega⟩) ?_
            refine go_call (Q' := _) rfl rfl rfl rfl rfl (sp_X5_pulls L xs sio (d + 35) dt2776 hI2777  ((xs ((l18_3 + 1).toNat)).toInt) ⟨by omega, by omega⟩ ((xs ((l18_3 + 2).toNat)).toInt) ⟨by omega, by omega⟩ ) ?_
            rintro _ _ ⟨rfl, h4365⟩
            refine ⟨rfl, ?_⟩
            rcases h4365 with ⟨v_h4365, rfl, h4365r, h4365⟩
            refine go_to (k := 6) (pc' := 1073) (L' := [some (.inr (.inr (some 3000))), some (.inr (.inr (some 0))), some (.inr (.inr (some 79))), some (.inl l18_3)]) (st' := [.inl (l18_3 + 1), .inr (.inr (some 3000)), .inr (.inr (some 79))]) (w' := (SH, dt2776)) (fun _ => rfl) ?_
            refine go_smp (L' := [some (.inr (.inr (some 3000))), some (.inr (.inr (some 0))), some (.inr (.inr (some 79))), some (.inl l18_3)]) (st' := [.inl ((xs ((l18_3 + 1).toNat)).toInt), .inr (.inr (some 79))]) (w' := (SH, dt2776)) rfl rfl (s_iald (n := L) (f := fun j => (xs j).toInt) (am_scr hLL) ⟨by omega, by omega⟩) ?_
            refine go_to (k := 4) (pc' := 1078) (L' := [some (.inr (.inr (some 3000))), some (.inr (.inr (some 0))), some (.inr (.inr (some 79))), some (.inl l18_3)]) (st' := [.inl (l18_3 + 2), .inr (.inr (some 3000)), .inl ((xs ((l18_3 + 1).toNat)).toInt), .inr (.inr (some 79))]) (w' := (SH, dt2776)) (fun _ => rfl) ?_
            refine go_smp (L' := [some (.inr (.inr (some 3000))), some (.inr (.inr (some 0))), some (.inr (.inr (some 79))), some (.inl l18_3)]) (st' := [.inl ((xs ((l18_3 + 2).toNat)).toInt), .inl ((xs ((l18_3 + 1).toNat)).toInt), .inr (.inr (some 79))]) (w' := (SH, dt2776)) rfl rfl (s_iald (n := L) (f := fun j => (xs j).toInt) (am_scr hLL) ⟨by omega, by omega⟩) ?_
            refine go_call (Q' := _) rfl rfl rfl rfl rfl (sp_X6_pulls L xs sio (d + 31) dt2776 hI2777 hM_dt2776  ((xs ((l18_3 + 1).toNat)).toInt) ⟨by omega, by omega⟩ ((xs ((l18_3 + 2).toNat)).toInt) ⟨by omega, by omega⟩ ) ?_
            rintro _ _ ⟨dt4367, rfl, hI4368, hF4369, h4366⟩
            refine ⟨rfl, ?_⟩
            have hF4370 : Fr [0, 1, 2, 3, 4, 5, 6, 7, 8, 9, 10, 11, 12, 13, 14, 15, 16, 17, 18, 19, 20, 21, 22, 23, 24, 25, 26, 27, 28, 29, 30, 31, 32, 33, 34, 35, 36, 37, 38, 39, 40, 41, 42, 43, 44, 45, 46, 47, 48, 49, 50, 51, 52, 53, 54, 55, 56, 57, 58, 59, 60, 61, 62, 63, 64, 65, 66, 67, 68, 69, 70, 71, 72, 73, 74, 75, 76, 77, 78, 79, 80, 81, 82, 83, 84, 85, 86, 87, 88, 89, 90, 91, 92, 93, 94, 95, 96, 97, 98, 99, 100, 101, 102, 103, 104] dt dt4367 := Fr_tr hF2778 hF4369 (by decide)
            have hM4371 : MW (dt4367 80) := MW_fr hM_dt2776 hF4369 (by decide)
            have w4372 : dt4367 1 0 = dt2776 1 0 := hF4369 1 (by decide) 0
            have w4373 : dt4367 7 3 = dt2776 7 3 := hF4369 7 (by decide) 3
            have w4374 : dt4367 10 3 = dt2776 10 3 := hF4369 10 (by decide) 3
            have w4375 : dt4367 12 3 = dt2776 12 3 := hF4369 12 (by decide) 3
            have w4376 : dt4367 14 3 = dt2776 14 3 := hF4369 14 (by decide) 3
            have w4377 : dt4367 16 3 = dt2776 16 3 := hF4369 16 (by decide) 3
            have w4378 : dt4367 18 0 = dt2776 18 0 := hF4369 18 (by decide) 0
            have w4379 : dt4367 24 3 = dt2776 24 3 := hF4369 24 (by decide) 3
            have w4380 : dt4367 27 3 = dt2776 27 3 := hF4369 27 (by decide) 3
            have w4381 : dt4367 29 3 = dt2776 29 3 := hF4369 29 (by decide) 3
            have w4382 : dt4367 31 3 = dt2776 31 3 := hF4369 31 (by decide) 3
            have w4383 : dt4367 33 3 = dt2776 33 3 := hF4369 33 (by decide) 3
            have w4384 : dt4367 0 2 = dt2776 0 2 := hF4369 0 (by decide) 2
            have w4385 : dt4367 35 1 = dt2776 35 1 := hF4369 35 (by decide) 1
            have w4386 : dt4367 80 0 = dt2776 80 0 := hF4369 80 (by decide) 0
            have w4387 : dt4367 80 1 = dt2776 80 1 := hF4369 80 (by decide) 1
            have w4388 : dt4367 80 2 = dt2776 80 2 := hF4369 80 (by decide) 2
            have w4389 : dt4367 80 3 = dt2776 80 3 := hF4369 80 (by decide) 3
            have w4390 : dt4367 80 4 = dt2776 80 4 := hF4369 80 (by decide) 4
            have w4391 : dt4367 80 5 = dt2776 80 5 := hF4369 80 (by decide) 5
            have w4392 : dt4367 81 0 = dt2776 81 0 := hF4369 81 (by decide) 0
            have w4393 : dt4367 81 1 = dt2776 81 1 := hF4369 81 (by decide) 1
            have w4394 : dt4367 81 2 = dt2776 81 2 := hF4369 81 (by decide) 2
            have w4395 : dt4367 81 3 = dt2776 81 3 := hF4369 81 (by decide) 3
            have w4396 : dt4367 81 4 = dt2776 81 4 := hF4369 81 (by decide) 4
            have w4397 : dt4367 81 5 = dt2776 81 5 := hF4369 81 (by decide) 5
            have w4398 : dt4367 79 2 = dt2776 79 2 := hF4369 79 (by decide) 2
            have w4399 : dt4367 79 12 = dt2776 79 12 := hF4369 79 (by decide) 12
            rcases h4366 with ⟨v_h4366, rfl, h4366r, h4366⟩
            have M24400 : MW (dt4367 81) := MW_frk hM2L hF4369 (by decide)
            refine go_to (k := 4) (pc' := 18) (L' := [some (.inr (.inr (some 3000))), some (.inr (.inr (some 0))), some (.inr (.inr (some 79))), some (.inl (l18_3 + 6))]) (st' := []) (w' := (SH, dt4367)) (fun _ => rfl) ?_
            exact GO.le (ih_loop2795 (l18_3 + 6) dt4367 hI4368 hF4370 hM4371 (by omega) (by exact M24400) (by omega) (by omega) (by omega) (by omega) (by omega) (by omega) (by omega) (by omega) (by omega) (by omega) (by omega) (by omega) (by omega) (by omega) (by omega)) ⟨.inl rfl, .inl rfl, .inl rfl, .inl rfl, trivial⟩
          · refine go_swi (v := 22) (p1 := 1086) (lo := 0) (hi := 32) rfl c2802 (by decide) rfl ?_
            refine go_to (k := 5) (pc' := 1091) (L' := [some (.inr (.inr (some 3000))), some (.inr (.inr (some 0))), some (.inr (.inr (some 79))), some (.inl l18_3)]) (st' := [.inl (l18_3 + 1), .inr (.inr (some 3000)), .inr (.inr (some 0))]) (w' := (SH, dt2776)) (fun _ => rfl) ?_
            have r4401 := i32_R (xs ((l18_3 + 1).toNat))
            refine go_smp (L' := [some (.inr (.inr (some 3000))), some (.inr (.inr (some 0))), some (.inr (.inr (some 79))), some (.inl l18_3)]) (st' := [.inl ((xs ((l18_3 + 1).toNat)).toInt), .inr (.inr (some 0))]) (w' := (SH, dt2776)) rfl rfl (s_iald (n := L) (f := fun j => (xs j).toInt) (am_scr hLL) ⟨by omega, by omega⟩) ?_
            refine go_call (Q' := _) rfl rfl rfl rfl rfl (sp_X5_beside L xs sio (d + 34) dt2776 hI2777  ((xs ((l18_3 + 1).toNat)).toInt) ⟨by omega, by omega⟩ ) ?_
            rintro _ _ ⟨dt4403, rfl, hI4404, hF4405, h4402⟩
            refine ⟨rfl, ?_⟩
            have hF4406 : Fr [0, 1, 2, 3, 4, 5, 6, 7, 8, 9, 10, 11, 12, 13, 14, 15, 16, 17, 18, 19, 20, 21, 22, 23, 24, 25, 26, 27, 28, 29, 30, 31, 32, 33, 34, 35, 36, 37, 38, 39, 40, 41, 42, 43, 44, 45, 46, 47, 48, 49, 50, 51, 52, 53, 54, 55, 56, 57, 58, 59, 60, 61, 62, 63, 64, 65, 66, 67, 68, 69, 70, 71, 72, 73, 74, 75, 76, 77, 78, 79, 80, 81, 82, 83, 84, 85, 86, 87, 88, 89, 90, 91, 92, 93, 94, 95, 96, 97, 98, 99, 100, 101, 102, 103, 104] dt dt4403 := Fr_tr hF2778 hF4405 (by decide)
            have hM4407 : MW (dt4403 80) := MW_fr hM_dt2776 hF4405 (by decide)
            have w4408 : dt4403 1 0 = dt2776 1 0 := hF4405 1 (by decide) 0
            have w4409 : dt4403 7 3 = dt2776 7 3 := hF4405 7 (by decide) 3
            have w4410 : dt4403 10 3 = dt2776 10 3 := hF4405 10 (by decide) 3
            have w4411 : dt4403 12 3 = dt2776 12 3 := hF4405 12 (by decide) 3
            have w4412 : dt4403 14 3 = dt2776 14 3 := hF4405 14 (by decide) 3
            have w4413 : dt4403 16 3 = dt2776 16 3 := hF4405 16 (by decide) 3
            have w4414 : dt4403 18 0 = dt2776 18 0 := hF4405 18 (by decide) 0
            have w4415 : dt4403 24 3 = dt2776 24 3 := hF4405 24 (by decide) 3
            have w4416 : dt4403 27 3 = dt2776 27 3 := hF4405 27 (by decide) 3
            have w4417 : dt4403 29 3 = dt2776 29 3 := hF4405 29 (by decide) 3
            have w4418 : dt4403 31 3 = dt2776 31 3 := hF4405 31 (by decide) 3
            have w4419 : dt4403 33 3 = dt2776 33 3 := hF4405 33 (by decide) 3
            have w4420 : dt4403 0 2 = dt2776 0 2 := hF4405 0 (by decide) 2
            have w4421 : dt4403 35 1 = dt2776 35 1 := hF4405 35 (by decide) 1
            have w4422 : dt4403 80 0 = dt2776 80 0 := hF4405 80 (by decide) 0
            have w4423 : dt4403 80 1 = dt2776 80 1 := hF4405 80 (by decide) 1
            have w4424 : dt4403 80 2 = dt2776 80 2 := hF4405 80 (by decide) 2
            have w4425 : dt4403 80 3 = dt2776 80 3 := hF4405 80 (by decide) 3
            have w4426 : dt4403 80 4 = dt2776 80 4 := hF4405 80 (by decide) 4
            have w4427 : dt4403 80 5 = dt2776 80 5 := hF4405 80 (by decide) 5
            have w4428 : dt4403 81 0 = dt2776 81 0 := hF4405 81 (by decide) 0
            have w4429 : dt4403 81 1 = dt2776 81 1 := hF4405 81 (by decide) 1
            have w4430 : dt4403 81 2 = dt2776 81 2 := hF4405 81 (by decide) 2
            have w4431 : dt4403 81 3 = dt2776 81 3 := hF4405 81 (by decide) 3
            have w4432 : dt4403 81 4 = dt2776 81 4 := hF4405 81 (by decide) 4
            have w4433 : dt4403 81 5 = dt2776 81 5 := hF4405 81 (by decide) 5
            have w4434 : dt4403 79 2 = dt2776 79 2 := hF4405 79 (by decide) 2
            have w4435 : dt4403 79 12 = dt2776 79 12 := hF4405 79 (by decide) 12
            rcases h4402 with ⟨v_h4402, rfl, h4402r, h4402⟩
            have M24436 : MW (dt4403 81) := MW_frk hM2L hF4405 (by decide)
            refine go_to (k := 6) (pc' := 1101) (L' := [some (.inr (.inr (some 3000))), some (.inr (.inr (some 0))), some (.inr (.inr (some 79))), some (.inl l18_3)]) (st' := [.inl (l18_3 + 1), .inr (.inr (some 3000)), .inr (.inr (some 79))]) (w' := (SH, dt4403)) (fun _ => rfl) ?_
            have r4437 := i32_R (xs ((l18_3 + 1).toNat))
            refine go_smp (L' := [some (.inr (.inr (some 3000))), some (.inr (.inr (some 0))), some (.inr (.inr (some 79))), some (.inl l18_3)]) (st' := [.inl ((xs ((l18_3 + 1).toNat)).toInt), .inr (.inr (some 79))]) (w' := (SH, dt4403)) rfl rfl (s_iald (n := L) (f := fun j => (xs j).toInt) (am_scr hLL) ⟨by omega, by omega⟩) ?_
            refine go_call (Q' := _) rfl rfl rfl rfl rfl (sp_X6_beside L xs sio (d + 31) dt4403 hI4404 hM4407  ((xs ((l18_3 + 1).toNat)).toInt) ⟨by omega, by omega⟩ ) ?_
            rintro _ _ ⟨dt4439, rfl, hI4440, hF4441, h4438⟩
            refine ⟨rfl, ?_⟩
            have hF4442 : Fr [0, 1, 2, 3, 4, 5, 6, 7, 8, 9, 10, 11, 12, 13, 14, 15, 16, 17, 18, 19, 20, 21, 22, 23, 24, 25, 26, 27, 28, 29, 30, 31, 32, 33, 34, 35, 36, 37, 38, 39, 40, 41, 42, 43, 44, 45, 46, 47, 48, 49, 50, 51, 52, 53, 54, 55, 56, 57, 58, 59, 60, 61, 62, 63, 64, 65, 66, 67, 68, 69, 70, 71, 72, 73, 74, 75, 76, 77, 78, 79, 80, 81, 82, 83, 84, 85, 86, 87, 88, 89, 90, 91, 92, 93, 94, 95, 96, 97, 98, 99, 100, 101, 102, 103, 104] dt dt4439 := Fr_tr hF4406 hF4441 (by decide)
            have hM4443 : MW (dt4439 80) := MW_fr hM4407 hF4441 (by decide)
            have w4444 : dt4439 1 0 = dt4403 1 0 := hF4441 1 (by decide) 0
            have w4445 : dt4439 7 3 = dt4403 7 3 := hF4441 7 (by decide) 3
            have w4446 : dt4439 10 3 = dt4403 10 3 := hF4441 10 (by decide) 3
            have w4447 : dt4439 12 3 = dt4403 12 3 := hF4441 12 (by decide) 3
            have w4448 : dt4439 14 3 = dt4403 14 3 := hF4441 14 (by decide) 3
            have w4449 : dt4439 16 3 = dt4403 16 3 := hF4441 16 (by decide) 3
            have w4450 : dt4439 18 0 = dt4403 18 0 := hF4441 18 (by decide) 0
            have w4451 : dt4439 24 3 = dt4403 24 3 := hF4441 24 (by decide) 3
            have w4452 : dt4439 27 3 = dt4403 27 3 := hF4441 27 (by decide) 3
            have w4453 : dt4439 29 3 = dt4403 29 3 := hF4441 29 (by decide) 3
            have w4454 : dt4439 31 3 = dt4403 31 3 := hF4441 31 (by decide) 3
            have w4455 : dt4439 33 3 = dt4403 33 3 := hF4441 33 (by decide) 3
            have w4456 : dt4439 0 2 = dt4403 0 2 := hF4441 0 (by decide) 2
            have w4457 : dt4439 35 1 = dt4403 35 1 := hF4441 35 (by decide) 1
            have w4458 : dt4439 80 0 = dt4403 80 0 := hF4441 80 (by decide) 0
            have w4459 : dt4439 80 1 = dt4403 80 1 := hF4441 80 (by decide) 1
            have w4460 : dt4439 80 2 = dt4403 80 2 := hF4441 80 (by decide) 2
            have w4461 : dt4439 80 3 = dt4403 80 3 := hF4441 80 (by decide) 3
            have w4462 : dt4439 80 4 = dt4403 80 4 := hF4441 80 (by decide) 4
            have w4463 : dt4439 80 5 = dt4403 80 5 := hF4441 80 (by decide) 5
            have w4464 : dt4439 81 0 = dt4403 81 0 := hF4441 81 (by decide) 0
            have w4465 : dt4439 81 1 = dt4403 81 1 := hF4441 81 (by decide) 1
            have w4466 : dt4439 81 2 = dt4403 81 2 := hF4441 81 (by decide) 2
            have w4467 : dt4439 81 3 = dt4403 81 3 := hF4441 81 (by decide) 3
            have w4468 : dt4439 81 4 = dt4403 81 4 := hF4441 81 (by decide) 4
            have w4469 : dt4439 81 5 = dt4403 81 5 := hF4441 81 (by decide) 5
            have w4470 : dt4439 79 2 = dt4403 79 2 := hF4441 79 (by decide) 2
            have w4471 : dt4439 79 12 = dt4403 79 12 := hF4441 79 (by decide) 12
            rcases h4438 with ⟨v_h4438, rfl, h4438r, h4438⟩
            have M24472 : MW (dt4439 81) := MW_frk M24436 hF4441 (by decide)
            refine go_to (k := 4) (pc' := 18) (L' := [some (.inr (.inr (some 3000))), some (.inr (.inr (some 0))), some (.inr (.inr (some 79))), some (.inl (l18_3 + 6))]) (st' := []) (w' := (SH, dt4439)) (fun _ => rfl) ?_
            exact GO.le (ih_loop2795 (l18_3 + 6) dt4439 hI4440 hF4442 hM4443 (by omega) (by exact M24472) (by omega) (by omega) (by omega) (by omega) (by omega) (by omega) (by omega) (by omega) (by omega) (by omega) (by omega) (by omega) (by omega) (by omega) (by omega)) ⟨.inl rfl, .inl rfl, .inl rfl, .inl rfl, trivial⟩
          · refine go_swi (v := 23) (p1 := 1109) (lo := 0) (hi := 32) rfl c2802 (by decide) rfl ?_
            refine go_to (k := 5) (pc' := 1114) (L' := [some (.inr (.inr (some 3000))), some (.inr (.inr (some 0))), some (.inr (.inr (some 79))), some (.inl l18_3)]) (st' := [.inl (l18_3 + 1), .inr (.inr (some 3000)), .inr (.inr (some 0))]) (w' := (SH, dt2776)) (fun _ => rfl) ?_
            have r4473 := i32_R (xs ((l18_3 + 1).toNat))
            refine go_smp (L' := [some (.inr (.inr (some 3000))), some (.inr (.inr (some 0))), some (.inr (.inr (some 79))), some (.inl l18_3)]) (st' := [.inl ((xs ((l18_3 + 1).toNat)).toInt), .inr (.inr (some 0))]) (w' := (SH, dt2776)) rfl rfl (s_iald (n := L) (f := fun j => (xs j).toInt) (am_scr hLL) ⟨by omega, by omega⟩) ?_
            refine go_to (k := 4) (pc' := 1119) (L' := [some (.inr (.inr (some 3000))), some (.inr (.inr (some 0))), some (.inr (.inr (some 79))), some (.inl l18_3)]) (st' := [.inl (l18_3 + 2), .inr (.inr (some 3000)), .inl ((xs ((l18_3 + 1).toNat)).toInt), .inr (.inr (some 0))]) (w' := (SH, dt2776)) (fun _ => rfl) ?_
            have r4474 := i32_R (xs ((l18_3 + 2).toNat))
            refine go_smp (L' := [some (.inr (.inr (some 3000))), some (.inr (.inr (some 0))), some (.inr (.inr (some 79))), some (.inl l18_3)]) (st' := [.inl ((xs ((l18_3 + 2).toNat)).toInt), .inl ((xs ((l18_3 + 1).toNat)).toInt), .inr (.inr (some 0))]) (w' := (SH, dt2776)) rfl rfl (s_iald (n := L) (f := fun j => (xs j).toInt) (am_scr hLL) ⟨by omega, by omega⟩) ?_
            refine go_call (Q' := _) rfl rfl rfl rfl rfl (sp_X5_eyes L xs sio (d + 36) dt2776 hI2777  ((xs ((l18_3 + 1).toNat)).toInt) ⟨by omega, by omega⟩ ((xs ((l18_3 + 2).toNat)).toInt) ⟨by omega, by omega⟩ ) ?_
            rintro _ _ ⟨dt4476, rfl, hI4477, hF4478, h4475⟩
            refine ⟨rfl, ?_⟩
            have hF4479 : Fr [0, 1, 2, 3, 4, 5, 6, 7, 8, 9, 10, 11, 12, 13, 14, 15, 16, 17, 18, 19, 20, 21, 22, 23, 24, 25, 26, 27, 28, 29, 30, 31, 32, 33, 34, 35, 36, 37, 38, 39, 40, 41, 42, 43, 44, 45, 46, 47, 48, 49, 50, 51, 52, 53, 54, 55, 56, 57, 58, 59, 60, 61, 62, 63, 64, 65, 66, 67, 68, 69, 70, 71, 72, 73, 74, 75, 76, 77, 78, 79, 80, 81, 82, 83, 84, 85, 86, 87, 88, 89, 90, 91, 92, 93, 94, 95, 96, 97, 98, 99, 100, 101, 102, 103, 104] dt dt4476 := Fr_tr hF2778 hF4478 (by decide)
            have hM4480 : MW (dt4476 80) := MW_fr hM_dt2776 hF4478 (by decide)
            have w4481 : dt4476 1 0 = dt2776 1 0 := hF4478 1 (by decide) 0
            have w4482 : dt4476 7 3 = dt2776 7 3 := hF4478 7 (by decide) 3
            have w4483 : dt4476 10 3 = dt2776 10 3 := hF4478 10 (by decide) 3
            have w4484 : dt4476 12 3 = dt2776 12 3 := hF4478 12 (by decide) 3
            have w4485 : dt4476 16 3 = dt2776 16 3 := hF4478 16 (by decide) 3
            have w4486 : dt4476 18 0 = dt2776 18 0 := hF4478 18 (by decide) 0
            have w4487 : dt4476 24 3 = dt2776 24 3 := hF4478 24 (by decide) 3
            have w4488 : dt4476 27 3 = dt2776 27 3 := hF4478 27 (by decide) 3
            have w4489 : dt4476 29 3 = dt2776 29 3 := hF4478 29 (by decide) 3
            have w4490 : dt4476 31 3 = dt2776 31 3 := hF4478 31 (by decide) 3
            have w4491 : dt4476 33 3 = dt2776 33 3 := hF4478 33 (by decide) 3
            have w4492 : dt4476 0 2 = dt2776 0 2 := hF4478 0 (by decide) 2
            have w4493 : dt4476 35 1 = dt2776 35 1 := hF4478 35 (by decide) 1
            have w4494 : dt4476 80 0 = dt2776 80 0 := hF4478 80 (by decide) 0
            have w4495 : dt4476 80 1 = dt2776 80 1 := hF4478 80 (by decide) 1
            have w4496 : dt4476 80 2 = dt2776 80 2 := hF4478 80 (by decide) 2
            have w4497 : dt4476 80 3 = dt2776 80 3 := hF4478 80 (by decide) 3
            have w4498 : dt4476 80 4 = dt2776 80 4 := hF4478 80 (by decide) 4
            have w4499 : dt4476 80 5 = dt2776 80 5 := hF4478 80 (by decide) 5
            have w4500 : dt4476 81 0 = dt2776 81 0 := hF4478 81 (by decide) 0
            have w4501 : dt4476 81 1 = dt2776 81 1 := hF4478 81 (by decide) 1
            have w4502 : dt4476 81 2 = dt2776 81 2 := hF4478 81 (by decide) 2
            have w4503 : dt4476 81 3 = dt2776 81 3 := hF4478 81 (by decide) 3
            have w4504 : dt4476 81 4 = dt2776 81 4 := hF4478 81 (by decide) 4
            have w4505 : dt4476 81 5 = dt2776 81 5 := hF4478 81 (by decide) 5
            have w4506 : dt4476 79 2 = dt2776 79 2 := hF4478 79 (by decide) 2
            have w4507 : dt4476 79 12 = dt2776 79 12 := hF4478 79 (by decide) 12
            rcases h4475 with ⟨rfl, h4475⟩ | ⟨v_h4475, rfl, h4475r, h4475⟩
            · skip
              obtain ⟨h4475_0, h4475_1⟩ := h4475
              have M24508 : MW (dt4476 81) := MW_frk hM2L hF4478 (by decide)
              refine go_to (k := 6) (pc' := 1129) (L' := [some (.inr (.inr (some 3000))), some (.inr (.inr (some 0))), some (.inr (.inr (some 79))), some (.inl l18_3)]) (st' := [.inl (l18_3 + 1), .inr (.inr (some 3000)), .inr (.inr (some 79))]) (w' := (SH, dt4476)) (fun _ => rfl) ?_
              have r4509 := i32_R (xs ((l18_3 + 1).toNat))
              refine go_smp (L' := [some (.inr (.inr (some 3000))), some (.inr (.inr (some 0))), some (.inr (.inr (some 79))), some (.inl l18_3)]) (st' := [.inl ((xs ((l18_3 + 1).toNat)).toInt), .inr (.inr (some 79))]) (w' := (SH, dt4476)) rfl rfl (s_iald (n := L) (f := fun j => (xs j).toInt) (am_scr hLL) ⟨by omega, by omega⟩) ?_
              refine go_to (k := 4) (pc' := 1134) (L' := [some (.inr (.inr (some 3000))), some (.inr (.inr (some 0))), some (.inr (.inr (some 79))), some (.inl l18_3)]) (st' := [.inl (l18_3 + 2), .inr (.inr (some 3000)), .inl ((xs ((l18_3 + 1).toNat)).toInt), .inr (.inr (some 79))]) (w' := (SH, dt4476)) (fun _ => rfl) ?_
              have r4510 := i32_R (xs ((l18_3 + 2).toNat))
              refine go_smp (L' := [some (.inr (.inr (some 3000))), some (.inr (.inr (some 0))), some (.inr (.inr (some 79))), some (.inl l18_3)]) (st' := [.inl ((xs ((l18_3 + 2).toNat)).toInt), .inl ((xs ((l18_3 + 1).toNat)).toInt), .inr (.inr (some 79))]) (w' := (SH, dt4476)) rfl rfl (s_iald (n := L) (f := fun j => (xs j).toInt) (am_scr hLL) ⟨by omega, by omega⟩) ?_
              refine go_call (Q' := _) rfl rfl rfl rfl rfl (sp_X6_eyes L xs sio (d + 37) dt4476 hI4477 hM4480  ((xs ((l18_3 + 1).toNat)).toInt) ⟨by omega, by omega⟩ ((xs ((l18_3 + 2).toNat)).toInt) ⟨by omega, by omega⟩ ) ?_
              rintro _ _ ⟨dt4512, rfl, hI4513, hF4514, h4511⟩
              refine ⟨rfl, ?_⟩
              have hF4515 : Fr [0, 1, 2, 3, 4, 5, 6, 7, 8, 9, 10, 11, 12, 13, 14, 15, 16, 17, 18, 19, 20, 21, 22, 23, 24, 25, 26, 27, 28, 29, 30, 31, 32, 33, 34, 35, 36, 37, 38, 39, 40, 41, 42, 43, 44, 45, 46, 47, 48, 49, 50, 51, 52, 53, 54, 55, 56, 57, 58, 59, 60, 61, 62, 63, 64, 65, 66, 67, 68, 69, 70, 71, 72, 73, 74, 75, 76, 77, 78, 79, 80, 81, 82, 83, 84, 85, 86, 87, 88, 89, 90, 91, 92, 93, 94, 95, 96, 97, 98, 99, 100, 101, 102, 103, 104] dt dt4512 := Fr_tr hF4479 hF4514 (by decide)
              have w4516 : dt4512 1 0 = dt4476 1 0 := hF4514 1 (by decide) 0
              have w4517 : dt4512 7 3 = dt4476 7 3 := hF4514 7 (by decide) 3
              have w4518 : dt4512 10 3 = dt4476 10 3 := hF4514 10 (by decide) 3
              have w4519 : dt4512 12 3 = dt4476 12 3 := hF4514 12 (by decide) 3
              have w4520 : dt4512 14 3 = dt4476 14 3 := hF4514 14 (by decide) 3
              have w4521 : dt4512 16 3 = dt4476 16 3 := hF4514 16 (by decide) 3
              have w4522 : dt4512 18 0 = dt4476 18 0 := hF4514 18 (by decide) 0
              have w4523 : dt4512 24 3 = dt4476 24 3 := hF4514 24 (by decide) 3
              have w4524 : dt4512 27 3 = dt4476 27 3 := hF4514 27 (by decide) 3
              have w4525 : dt4512 29 3 = dt4476 29 3 := hF4514 29 (by decide) 3
              have w4526 : dt4512 31 3 = dt4476 31 3 := hF4514 31 (by decide) 3
              have w4527 : dt4512 33 3 = dt4476 33 3 := hF4514 33 (by decide) 3
              have w4528 : dt4512 0 2 = dt4476 0 2 := hF4514 0 (by decide) 2
              have w4529 : dt4512 35 1 = dt4476 35 1 := hF4514 35 (by decide) 1
              have w4530 : dt4512 81 0 = dt4476 81 0 := hF4514 81 (by decide) 0
              have w4531 : dt4512 81 1 = dt4476 81 1 := hF4514 81 (by decide) 1
              have w4532 : dt4512 81 2 = dt4476 81 2 := hF4514 81 (by decide) 2
              have w4533 : dt4512 81 3 = dt4476 81 3 := hF4514 81 (by decide) 3
              have w4534 : dt4512 81 4 = dt4476 81 4 := hF4514 81 (by decide) 4
              have w4535 : dt4512 81 5 = dt4476 81 5 := hF4514 81 (by decide) 5
              have w4536 : dt4512 79 2 = dt4476 79 2 := hF4514 79 (by decide) 2
              have w4537 : dt4512 79 12 = dt4476 79 12 := hF4514 79 (by decide) 12
              rcases h4511 with ⟨rfl, h4511⟩ | ⟨v_h4511, rfl, h4511r, h4511⟩
              · skip
                have hM4538 : MW (dt4512 80) := h4511.2.1
                obtain ⟨h4511_0, h4511_1, h4511_2, h4511_3, h4511_4, h4511_5, h4511_6, h4511_7⟩ := h4511
                have M24539 : MW (dt4512 81) := MW_frk M24508 hF4514 (by decide)
                refine go_to (k := 4) (pc' := 18) (L' := [some (.inr (.inr (some 3000))), some (.inr (.inr (some 0))), some (.inr (.inr (some 79))), some (.inl (l18_3 + 6))]) (st' := []) (w' := (SH, dt4512)) (fun _ => rfl) ?_
                exact GO.le (ih_loop2795 (l18_3 + 6) dt4512 hI4513 hF4515 hM4538 (by omega) (by exact M24539) (by omega) (by omega) (by omega) (by omega) (by omega) (by omega) (by omega) (by omega) (by omega) (by omega) (by omega) (by omega) (by omega) (by omega) (by omega)) ⟨.inl rfl, .inl rfl, .inl rfl, .inl rfl, trivial⟩
              · skip
                have hM4540 : MW (dt4512 80) := h4511.2.2.1
                obtain ⟨h4511_0, h4511_1, h4511_2, h4511_3, h4511_4, h4511_5, h4511_6, h4511_7, h4511_8⟩ := h4511
                have M24541 : MW (dt4512 81) := MW_frk M24508 hF4514 (by decide)
                refine go_to (k := 4) (pc' := 18) (L' := [some (.inr (.inr (some 3000))), some (.inr (.inr (some 0))), some (.inr (.inr (some 79))), some (.inl (l18_3 + 6))]) (st' := []) (w' := (SH, dt4512)) (fun _ => rfl) ?_
                exact GO.le (ih_loop2795 (l18_3 + 6) dt4512 hI4513 hF4515 hM4540 (by omega) (by exact M24541) (by omega) (by omega) (by omega) (by omega) (by omega) (by omega) (by omega) (by omega) (by omega) (by omega) (by omega) (by omega) (by omega) (by omega) (by omega)) ⟨.inl rfl, .inl rfl, .inl rfl, .inl rfl, trivial⟩
            · skip
              obtain ⟨h4475_0, h4475_1, h4475_2⟩ := h4475
              have M24542 : MW (dt4476 81) := MW_frk hM2L hF4478 (by decide)
              refine go_to (k := 6) (pc' := 1129) (L' := [some (.inr (.inr (some 3000))), some (.inr (.inr (some 0))), some (.inr (.inr (some 79))), some (.inl l18_3)]) (st' := [.inl (l18_3 + 1), .inr (.inr (some 3000)), .inr (.inr (some 79))]) (w' := (SH, dt4476)) (fun _ => rfl) ?_
              have r4543 := i32_R (xs ((l18_3 + 1).toNat))
              refine go_smp (L' := [some (.inr (.inr (some 3000))), some (.inr (.inr (some 0))), some (.inr (.inr (some 79))), some (.inl l18_3)]) (st' := [.inl ((xs ((l18_3 + 1).toNat)).toInt), .inr (.inr (some 79))]) (w' := (SH, dt4476)) rfl rfl (s_iald (n := L) (f := fun j => (xs j).toInt) (am_scr hLL) ⟨by omega, by omega⟩) ?_
              refine go_to (k := 4) (pc' := 1134) (L' := [some (.inr (.inr (some 3000))), some (.inr (.inr (some 0))), some (.inr (.inr (some 79))), some (.inl l18_3)]) (st' := [.inl (l18_3 + 2), .inr (.inr (some 3000)), .inl ((xs ((l18_3 + 1).toNat)).toInt), .inr (.inr (some 79))]) (w' := (SH, dt4476)) (fun _ => rfl) ?_
              have r4544 := i32_R (xs ((l18_3 + 2).toNat))
              refine go_smp (L' := [some (.inr (.inr (some 3000))), some (.inr (.inr (some 0))), some (.inr (.inr (some 79))), some (.inl l18_3)]) (st' := [.inl ((xs ((l18_3 + 2).toNat)).toInt), .inl ((xs ((l18_3 + 1).toNat)).toInt), .inr (.inr (some 79))]) (w' := (SH, dt4476)) rfl rfl (s_iald (n := L) (f := fun j => (xs j).toInt) (am_scr hLL) ⟨by omega, by omega⟩) ?_
              refine go_call (Q' := _) rfl rfl rfl rfl rfl (sp_X6_eyes L xs sio (d + 37) dt4476 hI4477 hM4480  ((xs ((l18_3 + 1).toNat)).toInt) ⟨by omega, by omega⟩ ((xs ((l18_3 + 2).toNat)).toInt) ⟨by omega, by omega⟩ ) ?_
              rintro _ _ ⟨dt4546, rfl, hI4547, hF4548, h4545⟩
              refine ⟨rfl, ?_⟩
              have hF4549 : Fr [0, 1, 2, 3, 4, 5, 6, 7, 8, 9, 10, 11, 12, 13, 14, 15, 16, 17, 18, 19, 20, 21, 22, 23, 24, 25, 26, 27, 28, 29, 30, 31, 32, 33, 34, 35, 36, 37, 38, 39, 40, 41, 42, 43, 44, 45, 46, 47, 48, 49, 50, 51, 52, 53, 54, 55, 56, 57, 58, 59, 60, 61, 62, 63, 64, 65, 66, 67, 68, 69, 70, 71, 72, 73, 74, 75, 76, 77, 78, 79, 80, 81, 82, 83, 84, 85, 86, 87, 88, 89, 90, 91, 92, 93, 94, 95, 96, 97, 98, 99, 100, 101, 102, 103, 104] dt dt4546 := Fr_tr hF4479 hF4548 (by decide)
              have w4550 : dt4546 1 0 = dt4476 1 0 := hF4548 1 (by decide) 0
              have w4551 : dt4546 7 3 = dt4476 7 3 := hF4548 7 (by decide) 3
              have w4552 : dt4546 10 3 = dt4476 10 3 := hF4548 10 (by decide) 3
              have w4553 : dt4546 12 3 = dt4476 12 3 := hF4548 12 (by decide) 3
              have w4554 : dt4546 14 3 = dt4476 14 3 := hF4548 14 (by decide) 3
              have w4555 : dt4546 16 3 = dt4476 16 3 := hF4548 16 (by decide) 3
              have w4556 : dt4546 18 0 = dt4476 18 0 := hF4548 18 (by decide) 0
              have w4557 : dt4546 24 3 = dt4476 24 3 := hF4548 24 (by decide) 3
              have w4558 : dt4546 27 3 = dt4476 27 3 := hF4548 27 (by decide) 3
              have w4559 : dt4546 29 3 = dt4476 29 3 := hF4548 29 (by decide) 3
              have w4560 : dt4546 31 3 = dt4476 31 3 := hF4548 31 (by decide) 3
              have w4561 : dt4546 33 3 = dt4476 33 3 := hF4548 33 (by decide) 3
              have w4562 : dt4546 0 2 = dt4476 0 2 := hF4548 0 (by decide) 2
              have w4563 : dt4546 35 1 = dt4476 35 1 := hF4548 35 (by decide) 1
              have w4564 : dt4546 81 0 = dt4476 81 0 := hF4548 81 (by decide) 0
              have w4565 : dt4546 81 1 = dt4476 81 1 := hF4548 81 (by decide) 1
              have w4566 : dt4546 81 2 = dt4476 81 2 := hF4548 81 (by decide) 2
              have w4567 : dt4546 81 3 = dt4476 81 3 := hF4548 81 (by decide) 3
              have w4568 : dt4546 81 4 = dt4476 81 4 := hF4548 81 (by decide) 4
              have w4569 : dt4546 81 5 = dt4476 81 5 := hF4548 81 (by decide) 5
              have w4570 : dt4546 79 2 = dt4476 79 2 := hF4548 79 (by decide) 2
              have w4571 : dt4546 79 12 = dt4476 79 12 := hF4548 79 (by decide) 12
              rcases h4545 with ⟨rfl, h4545⟩ | ⟨v_h4545, rfl, h4545r, h4545⟩
              · skip
                have hM4572 : MW (dt4546 80) := h4545.2.1
                obtain ⟨h4545_0, h4545_1, h4545_2, h4545_3, h4545_4, h4545_5, h4545_6, h4545_7⟩ := h4545
                have M24573 : MW (dt4546 81) := MW_frk M24542 hF4548 (by decide)
                refine go_to (k := 4) (pc' := 18) (L' := [some (.inr (.inr (some 3000))), some (.inr (.inr (some 0))), some (.inr (.inr (some 79))), some (.inl (l18_3 + 6))]) (st' := []) (w' := (SH, dt4546)) (fun _ => rfl) ?_
                exact GO.le (ih_loop2795 (l18_3 + 6) dt4546 hI4547 hF4549 hM4572 (by omega) (by exact M24573) (by omega) (by omega) (by omega) (by omega) (by omega) (by omega) (by omega) (by omega) (by omega) (by omega) (by omega) (by omega) (by omega) (by omega) (by omega)) ⟨.inl rfl, .inl rfl, .inl rfl, .inl rfl, trivial⟩
              · skip
                have hM4574 : MW (dt4546 80) := h4545.2.2.1
                obtain ⟨h4545_0, h4545_1, h4545_2, h4545_3, h4545_4, h4545_5, h4545_6, h4545_7, h4545_8⟩ := h4545
                have M24575 : MW (dt4546 81) := MW_frk M24542 hF4548 (by decide)
                refine go_to (k := 4) (pc' := 18) (L' := [some (.inr (.inr (some 3000))), some (.inr (.inr (some 0))), some (.inr (.inr (some 79))), some (.inl (l18_3 + 6))]) (st' := []) (w' := (SH, dt4546)) (fun _ => rfl) ?_
                exact GO.le (ih_loop2795 (l18_3 + 6) dt4546 hI4547 hF4549 hM4574 (by omega) (by exact M24575) (by omega) (by omega) (by omega) (by omega) (by omega) (by omega) (by omega) (by omega) (by omega) (by omega) (by omega) (by omega) (by omega) (by omega) (by omega)) ⟨.inl rfl, .inl rfl, .inl rfl, .inl rfl, trivial⟩
          · refine go_swi (v := 24) (p1 := 1142) (lo := 0) (hi := 32) rfl c2802 (by decide) rfl ?_
            refine go_to (k := 5) (pc' := 1147) (L' := [some (.inr (.inr (some 3000))), some (.inr (.inr (some 0))), some (.inr (.inr (some 79))), some (.inl l18_3)]) (st' := [.inl (l18_3 + 1), .inr (.inr (some 3000)), .inr (.inr (some 0))]) (w' := (SH, dt2776)) (fun _ => rfl) ?_
            have r4576 := i32_R (xs ((l18_3 + 1).toNat))
            refine go_smp (L' := [some (.inr (.inr (some 3000))), some (.inr (.inr (some 0))), some (.inr (.inr (some 79))), some (.inl l18_3)]) (st' := [.inl ((xs ((l18_3 + 1).toNat)).toInt), .inr (.inr (some 0))]) (w' := (SH, dt2776)) rfl rfl (s_iald (n := L) (f := fun j => (xs j).toInt) (am_scr hLL) ⟨by omega, by omega⟩) ?_
            refine go_call (Q' := _) rfl rfl rfl rfl rfl (sp_X5_way L xs sio (d + 35) dt2776 hI2777  ((xs ((l18_3 + 1).toNat)).toInt) ⟨by omega, by omega⟩ ) ?_
            rintro _ _ ⟨rfl, h4577⟩
            refine ⟨rfl, ?_⟩
            rcases h4577 with ⟨v_h4577, rfl, h4577r, h4577⟩
            refine go_to (k := 6) (pc' := 1157) (L' := [some (.inr (.inr (some 3000))), some (.inr (.inr (some 0))), some (.inr (.inr (some 79))), some (.inl l18_3)]) (st' := [.inl (l18_3 + 1), .inr (.inr (some 3000)), .inr (.inr (some 79))]) (w' := (SH, dt2776)) (fun _ => rfl) ?_
            refine go_smp (L' := [some (.inr (.inr (some 3000))), some (.inr (.inr (some 0))), some (.inr (.inr (some 79))), some (.inl l18_3)]) (st' := [.inl ((xs ((l18_3 + 1).toNat)).toInt), .inr (.inr (some 79))]) (w' := (SH, dt2776)) rfl rfl (s_iald (n := L) (f := fun j => (xs j).toInt) (am_scr hLL) ⟨by omega, by omega⟩) ?_
            refine go_call (Q' := _) rfl rfl rfl rfl rfl (sp_X6_way L xs sio (d + 36) dt2776 hI2777 hM_dt2776  ((xs ((l18_3 + 1).toNat)).toInt) ⟨by omega, by omega⟩ ) ?_
            rintro _ _ ⟨dt4579, rfl, hI4580, hF4581, h4578⟩
            refine ⟨rfl, ?_⟩
            have hF4582 : Fr [0, 1, 2, 3, 4, 5, 6, 7, 8, 9, 10, 11, 12, 13, 14, 15, 16, 17, 18, 19, 20, 21, 22, 23, 24, 25, 26, 27, 28, 29, 30, 31, 32, 33, 34, 35, 36, 37, 38, 39, 40, 41, 42, 43, 44, 45, 46, 47, 48, 49, 50, 51, 52, 53, 54, 55, 56, 57, 58, 59, 60, 61, 62, 63, 64, 65, 66, 67, 68, 69, 70, 71, 72, 73, 74, 75, 76, 77, 78, 79, 80, 81, 82, 83, 84, 85, 86, 87, 88, 89, 90, 91, 92, 93, 94, 95, 96, 97, 98, 99, 100, 101, 102, 103, 104] dt dt4579 := Fr_tr hF2778 hF4581 (by decide)
            have hM4583 : MW (dt4579 80) := MW_fr hM_dt2776 hF4581 (by decide)
            have w4584 : dt4579 1 0 = dt2776 1 0 := hF4581 1 (by decide) 0
            have w4585 : dt4579 7 3 = dt2776 7 3 := hF4581 7 (by decide) 3
            have w4586 : dt4579 10 3 = dt2776 10 3 := hF4581 10 (by decide) 3
            have w4587 : dt4579 12 3 = dt2776 12 3 := hF4581 12 (by decide) 3
            have w4588 : dt4579 14 3 = dt2776 14 3 := hF4581 14 (by decide) 3
            have w4589 : dt4579 16 3 = dt2776 16 3 := hF4581 16 (by decide) 3
            have w4590 : dt4579 18 0 = dt2776 18 0 := hF4581 18 (by decide) 0
            have w4591 : dt4579 24 3 = dt2776 24 3 := hF4581 24 (by decide) 3
            have w4592 : dt4579 27 3 = dt2776 27 3 := hF4581 27 (by decide) 3
            have w4593 : dt4579 29 3 = dt2776 29 3 := hF4581 29 (by decide) 3
            have w4594 : dt4579 31 3 = dt2776 31 3 := hF4581 31 (by decide) 3
            have w4595 : dt4579 33 3 = dt2776 33 3 := hF4581 33 (by decide) 3
            have w4596 : dt4579 0 2 = dt2776 0 2 := hF4581 0 (by decide) 2
            have w4597 : dt4579 35 1 = dt2776 35 1 := hF4581 35 (by decide) 1
            have w4598 : dt4579 80 0 = dt2776 80 0 := hF4581 80 (by decide) 0
            have w4599 : dt4579 80 1 = dt2776 80 1 := hF4581 80 (by decide) 1
            have w4600 : dt4579 80 2 = dt2776 80 2 := hF4581 80 (by decide) 2
            have w4601 : dt4579 80 3 = dt2776 80 3 := hF4581 80 (by decide) 3
            have w4602 : dt4579 80 4 = dt2776 80 4 := hF4581 80 (by decide) 4
            have w4603 : dt4579 80 5 = dt2776 80 5 := hF4581 80 (by decide) 5
            have w4604 : dt4579 81 0 = dt2776 81 0 := hF4581 81 (by decide) 0
            have w4605 : dt4579 81 1 = dt2776 81 1 := hF4581 81 (by decide) 1
            have w4606 : dt4579 81 2 = dt2776 81 2 := hF4581 81 (by decide) 2
            have w4607 : dt4579 81 3 = dt2776 81 3 := hF4581 81 (by decide) 3
            have w4608 : dt4579 81 4 = dt2776 81 4 := hF4581 81 (by decide) 4
            have w4609 : dt4579 81 5 = dt2776 81 5 := hF4581 81 (by decide) 5
            have w4610 : dt4579 79 2 = dt2776 79 2 := hF4581 79 (by decide) 2
            have w4611 : dt4579 79 12 = dt2776 79 12 := hF4581 79 (by decide) 12
            rcases h4578 with ⟨v_h4578, rfl, h4578r, h4578⟩
            have M24612 : MW (dt4579 81) := MW_frk hM2L hF4581 (by decide)
            refine go_to (k := 4) (pc' := 18) (L' := [some (.inr (.inr (some 3000))), some (.inr (.inr (some 0))), some (.inr (.inr (some 79))), some (.inl (l18_3 + 6))]) (st' := []) (w' := (SH, dt4579)) (fun _ => rfl) ?_
            exact GO.le (ih_loop2795 (l18_3 + 6) dt4579 hI4580 hF4582 hM4583 (by omega) (by exact M24612) (by omega) (by omega) (by omega) (by omega) (by omega) (by omega) (by omega) (by omega) (by omega) (by omega) (by omega) (by omega) (by omega) (by omega) (by omega)) ⟨.inl rfl, .inl rfl, .inl rfl, .inl rfl, trivial⟩
          · refine go_swi (v := 25) (p1 := 1165) (lo := 0) (hi := 32) rfl c2802 (by decide) rfl ?_
            refine go_to (k := 5) (pc' := 1170) (L' := [some (.inr (.inr (some 3000))), some (.inr (.inr (some 0))), some (.inr (.inr (some 79))), some (.inl l18_3)]) (st' := [.inl (l18_3 + 1), .inr (.inr (some 3000)), .inr (.inr (some 0))]) (w' := (SH, dt2776)) (fun _ => rfl) ?_
            have r4613 := i32_R (xs ((l18_3 + 1).toNat))
            refine go_smp (L' := [some (.inr (.inr (some 3000))), some (.inr (.inr (some 0))), some (.inr (.inr (some 79))), some (.inl l18_3)]) (st' := [.inl ((xs ((l18_3 + 1).toNat)).toInt), .inr (.inr (some 0))]) (w' := (SH, dt2776)) rfl rfl (s_iald (n := L) (f := fun j => (xs j).toInt) (am_scr hLL) ⟨by omega, by omega⟩) ?_
            refine go_to (k := 4) (pc' := 1175) (L' := [some (.inr (.inr (some 3000))), some (.inr (.inr (some 0))), some (.inr (.inr (some 79))), some (.inl l18_3)]) (st' := [.inl (l18_3 + 2), .inr (.inr (some 3000)), .inl ((xs ((l18_3 + 1).toNat)).toInt), .inr (.inr (some 0))]) (w' := (SH, dt2776)) (fun _ => rfl) ?_
            have r4614 := i32_R (xs ((l18_3 + 2).toNat))
            refine go_smp (L' := [some (.inr (.inr (some 3000))), some (.inr (.inr (some 0))), some (.inr (.inr (some 79))), some (.inl l18_3)]) (st' := [.inl ((xs ((l18_3 + 2).toNat)).toInt), .inl ((xs ((l18_3 + 1).toNat)).toInt), .inr (.inr (some 0))]) (w' := (SH, dt2776)) rfl rfl (s_iald (n := L) (f := fun j => (xs j).toInt) (am_scr hLL) ⟨by omega, by omega⟩) ?_
            refine go_call (Q' := _) rfl rfl rfl rfl rfl (sp_X5_house L xs sio (d + 36) dt2776 hI2777  ((xs ((l18_3 + 1).toNat)).toInt) ⟨by omega, by omega⟩ ((xs ((l18_3 + 2).toNat)).toInt) ⟨by omega, by omega⟩ ) ?_
            rintro _ _ ⟨dt4616, rfl, hI4617, hF4618, h4615⟩
            refine ⟨rfl, ?_⟩
            have hF4619 : Fr [0, 1, 2, 3, 4, 5, 6, 7, 8, 9, 10, 11, 12, 13, 14, 15, 16, 17, 18, 19, 20, 21, 22, 23, 24, 25, 26, 27, 28, 29, 30, 31, 32, 33, 34, 35, 36, 37, 38, 39, 40, 41, 42, 43, 44, 45, 46, 47, 48, 49, 50, 51, 52, 53, 54, 55, 56, 57, 58, 59, 60, 61, 62, 63, 64, 65, 66, 67, 68, 69, 70, 71, 72, 73, 74, 75, 76, 77, 78, 79, 80, 81, 82, 83, 84, 85, 86, 87, 88, 89, 90, 91, 92, 93, 94, 95, 96, 97, 98, 99, 100, 101, 102, 103, 104] dt dt4616 := Fr_tr hF2778 hF4618 (by decide)
            have hM4620 : MW (dt4616 80) := MW_fr hM_dt2776 hF4618 (by decide)
            have w4621 : dt4616 1 0 = dt2776 1 0 := hF4618 1 (by decide) 0
            have w4622 : dt4616 7 3 = dt2776 7 3 := hF4618 7 (by decide) 3
            have w4623 : dt4616 10 3 = dt2776 10 3 := hF4618 10 (by decide) 3
            have w4624 : dt4616 12 3 = dt2776 12 3 := hF4618 12 (by decide) 3
            have w4625 : dt4616 14 3 = dt2776 14 3 := hF4618 14 (by decide) 3
            have w4626 : dt4616 18 0 = dt2776 18 0 := hF4618 18 (by decide) 0
            have w4627 : dt4616 24 3 = dt2776 24 3 := hF4618 24 (by decide) 3
            have w4628 : dt4616 27 3 = dt2776 27 3 := hF4618 27 (by decide) 3
            have w4629 : dt4616 29 3 = dt2776 29 3 := hF4618 29 (by decide) 3
            have w4630 : dt4616 31 3 = dt2776 31 3 := hF4618 31 (by decide) 3
            have w4631 : dt4616 33 3 = dt2776 33 3 := hF4618 33 (by decide) 3
            have w4632 : dt4616 0 2 = dt2776 0 2 := hF4618 0 (by decide) 2
            have w4633 : dt4616 35 1 = dt2776 35 1 := hF4618 35 (by decide) 1
            have w4634 : dt4616 80 0 = dt2776 80 0 := hF4618 80 (by decide) 0
            have w4635 : dt4616 80 1 = dt2776 80 1 := hF4618 80 (by decide) 1
            have w4636 : dt4616 80 2 = dt2776 80 2 := hF4618 80 (by decide) 2
            have w4637 : dt4616 80 3 = dt2776 80 3 := hF4618 80 (by decide) 3
            have w4638 : dt4616 80 4 = dt2776 80 4 := hF4618 80 (by decide) 4
            have w4639 : dt4616 80 5 = dt2776 80 5 := hF4618 80 (by decide) 5
            have w4640 : dt4616 81 0 = dt2776 81 0 := hF4618 81 (by decide) 0
            have w4641 : dt4616 81 1 = dt2776 81 1 := hF4618 81 (by decide) 1
            have w4642 : dt4616 81 2 = dt2776 81 2 := hF4618 81 (by decide) 2
            have w4643 : dt4616 81 3 = dt2776 81 3 := hF4618 81 (by decide) 3
            have w4644 : dt4616 81 4 = dt2776 81 4 := hF4618 81 (by decide) 4
            have w4645 : dt4616 81 5 = dt2776 81 5 := hF4618 81 (by decide) 5
            have w4646 : dt4616 79 2 = dt2776 79 2 := hF4618 79 (by decide) 2
            have w4647 : dt4616 79 12 = dt2776 79 12 := hF4618 79 (by decide) 12
            rcases h4615 with ⟨rfl, h4615⟩ | ⟨v_h4615, rfl, h4615r, h4615⟩
            · skip
              obtain ⟨h4615_0, h4615_1⟩ := h4615
              have M24648 : MW (dt4616 81) := MW_frk hM2L hF4618 (by decide)
              refine go_to (k := 6) (pc' := 1185) (L' := [some (.inr (.inr (some 3000))), some (.inr (.inr (some 0))), some (.inr (.inr (some 79))), some (.inl l18_3)]) (st' := [.inl (l18_3 + 1), .inr (.inr (some 3000)), .inr (.inr (some 79))]) (w' := (SH, dt4616)) (fun _ => rfl) ?_
              have r4649 := i32_R (xs ((l18_3 + 1).toNat))
              refine go_smp (L' := [some (.inr (.inr (some 3000))), some (.inr (.inr (some 0))), some (.inr (.inr (some 79))), some (.inl l18_3)]) (st' := [.inl ((xs ((l18_3 + 1).toNat)).toInt), .inr (.inr (some 79))]) (w' := (SH, dt4616)) rfl rfl (s_iald (n := L) (f := fun j => (xs j).toInt) (am_scr hLL) ⟨by omega, by omega⟩) ?_
              refine go_to (k := 4) (pc' := 1190) (L' := [some (.inr (.inr (some 3000))), some (.inr (.inr (some 0))), some (.inr (.inr (some 79))), some (.inl l18_3)]) (st' := [.inl (l18_3 + 2), .inr (.inr (some 3000)), .inl ((xs ((l18_3 + 1).toNat)).toInt), .inr (.inr (some 79))]) (w' := (SH, dt4616)) (fun _ => rfl) ?_
              have r4650 := i32_R (xs ((l18_3 + 2).toNat))
              refine go_smp (L' := [some (.inr (.inr (some 3000))), some (.inr (.inr (some 0))), some (.inr (.inr (some 79))), some (.inl l18_3)]) (st' := [.inl ((xs ((l18_3 + 2).toNat)).toInt), .inl ((xs ((l18_3 + 1).toNat)).toInt), .inr (.inr (some 79))]) (w' := (SH, dt4616)) rfl rfl (s_iald (n := L) (f := fun j => (xs j).toInt) (am_scr hLL) ⟨by omega, by omega⟩) ?_
              refine go_call (Q' := _) rfl rfl rfl rfl rfl (sp_X6_house L xs sio (d + 37) dt4616 hI4617 hM4620  ((xs ((l18_3 + 1).toNat)).toInt) ⟨by omega, by omega⟩ ((xs ((l18_3 + 2).toNat)).toInt) ⟨by omega, by omega⟩ ) ?_
              rintro _ _ ⟨dt4652, rfl, hI4653, hF4654, h4651⟩
              refine ⟨rfl, ?_⟩
              have hF4655 : Fr [0, 1, 2, 3, 4, 5, 6, 7, 8, 9, 10, 11, 12, 13, 14, 15, 16, 17, 18, 19, 20, 21, 22, 23, 24, 25, 26, 27, 28, 29, 30, 31, 32, 33, 34, 35, 36, 37, 38, 39, 40, 41, 42, 43, 44, 45, 46, 47, 48, 49, 50, 51, 52, 53, 54, 55, 56, 57, 58, 59, 60, 61, 62, 63, 64, 65, 66, 67, 68, 69, 70, 71, 72, 73, 74, 75, 76, 77, 78, 79, 80, 81, 82, 83, 84, 85, 86, 87, 88, 89, 90, 91, 92, 93, 94, 95, 96, 97, 98, 99, 100, 101, 102, 103, 104] dt dt4652 := Fr_tr hF4619 hF4654 (by decide)
              have w4656 : dt4652 1 0 = dt4616 1 0 := hF4654 1 (by decide) 0
              have w4657 : dt4652 7 3 = dt4616 7 3 := hF4654 7 (by decide) 3
              have w4658 : dt4652 10 3 = dt4616 10 3 := hF4654 10 (by decide) 3
              have w4659 : dt4652 12 3 = dt4616 12 3 := hF4654 12 (by decide) 3
              have w4660 : dt4652 14 3 = dt4616 14 3 := hF4654 14 (by decide) 3
              have w4661 : dt4652 16 3 = dt4616 16 3 := hF4654 16 (by decide) 3
              have w4662 : dt4652 18 0 = dt4616 18 0 := hF4654 18 (by decide) 0
              have w4663 : dt4652 24 3 = dt4616 24 3 := hF4654 24 (by decide) 3
              have w4664 : dt4652 27 3 = dt4616 27 3 := hF4654 27 (by decide) 3
              have w4665 : dt4652 29 3 = dt4616 29 3 := hF4654 29 (by decide) 3
              have w4666 : dt4652 31 3 = dt4616 31 3 := hF4654 31 (by decide) 3
              have w4667 : dt4652 33 3 = dt4616 33 3 := hF4654 33 (by decide) 3
              have w4668 : dt4652 0 2 = dt4616 0 2 := hF4654 0 (by decide) 2
              have w4669 : dt4652 35 1 = dt4616 35 1 := hF4654 35 (by decide) 1
              have w4670 : dt4652 81 0 = dt4616 81 0 := hF4654 81 (by decide) 0
              have w4671 : dt4652 81 1 = dt4616 81 1 := hF4654 81 (by decide) 1
              have w4672 : dt4652 81 2 = dt4616 81 2 := hF4654 81 (by decide) 2
              have w4673 : dt4652 81 3 = dt4616 81 3 := hF4654 81 (by decide) 3
              have w4674 : dt4652 81 4 = dt4616 81 4 := hF4654 81 (by decide) 4
              have w4675 : dt4652 81 5 = dt4616 81 5 := hF4654 81 (by decide) 5
              have w4676 : dt4652 79 2 = dt4616 79 2 := hF4654 79 (by decide) 2
              have w4677 : dt4652 79 12 = dt4616 79 12 := hF4654 79 (by decide) 12
              rcases h4651 with ⟨rfl, h4651⟩ | ⟨v_h4651, rfl, h4651r, h4651⟩
              · skip
                have hM4678 : MW (dt4652 80) := h4651.2.1
                obtain ⟨h4651_0, h4651_1, h4651_2, h4651_3, h4651_4, h4651_5, h4651_6, h4651_7⟩ := h4651
                have M24679 : MW (dt4652 81) := MW_frk M24648 hF4654 (by decide)
                refine go_to (k := 4) (pc' := 18) (L' := [some (.inr (.inr (some 3000))), some (.inr (.inr (some 0))), some (.inr (.inr (some 79))), some (.inl (l18_3 + 6))]) (st' := []) (w' := (SH, dt4652)) (fun _ => rfl) ?_
                exact GO.le (ih_loop2795 (l18_3 + 6) dt4652 hI4653 hF4655 hM4678 (by omega) (by exact M24679) (by omega) (by omega) (by omega) (by omega) (by omega) (by omega) (by omega) (by omega) (by omega) (by omega) (by omega) (by omega) (by omega) (by omega) (by omega)) ⟨.inl rfl, .inl rfl, .inl rfl, .inl rfl, trivial⟩
              · skip
                have hM4680 : MW (dt4652 80) := h4651.2.2.1
                obtain ⟨h4651_0, h4651_1, h4651_2, h4651_3, h4651_4, h4651_5, h4651_6, h4651_7, h4651_8⟩ := h4651
                have M24681 : MW (dt4652 81) := MW_frk M24648 hF4654 (by decide)
                refine go_to (k := 4) (pc' := 18) (L' := [some (.inr (.inr (some 3000))), some (.inr (.inr (some 0))), some (.inr (.inr (some 79))), some (.inl (l18_3 + 6))]) (st' := []) (w' := (SH, dt4652)) (fun _ => rfl) ?_
                exact GO.le (ih_loop2795 (l18_3 + 6) dt4652 hI4653 hF4655 hM4680 (by omega) (by exact M24681) (by omega) (by omega) (by omega) (by omega) (by omega) (by omega) (by omega) (by omega) (by omega) (by omega) (by omega) (by omega) (by omega) (by omega) (by omega)) ⟨.inl rfl, .inl rfl, .inl rfl, .inl rfl, trivial⟩
            · skip
              obtain ⟨h4615_0, h4615_1, h4615_2⟩ := h4615
              have M24682 : MW (dt4616 81) := MW_frk hM2L hF4618 (by decide)
              refine go_to (k := 6) (pc' := 1185) (L' := [some (.inr (.inr (some 3000))), some (.inr (.inr (some 0))), some (.inr (.inr (some 79))), some (.inl l18_3)]) (st' := [.inl (l18_3 + 1), .inr (.inr (some 3000)), .inr (.inr (some 79))]) (w' := (SH, dt4616)) (fun _ => rfl) ?_
              have r4683 := i32_R (xs ((l18_3 + 1).toNat))
              refine go_smp (L' := [some (.inr (.inr (some 3000))), some (.inr (.inr (some 0))), some (.inr (.inr (some 79))), some (.inl l18_3)]) (st' := [.inl ((xs ((l18_3 + 1).toNat)).toInt), .inr (.inr (some 79))]) (w' := (SH, dt4616)) rfl rfl (s_iald (n := L) (f := fun j => (xs j).toInt) (am_scr hLL) ⟨by omega, by omega⟩) ?_
              refine go_to (k := 4) (pc' := 1190) (L' := [some (.inr (.inr (some 3000))), some (.inr (.inr (some 0))), some (.inr (.inr (some 79))), some (.inl l18_3)]) (st' := [.inl (l18_3 + 2), .inr (.inr (some 3000)), .inl ((xs ((l18_3 + 1).toNat)).toInt), .inr (.inr (some 79))]) (w' := (SH, dt4616)) (fun _ => rfl) ?_
              have r4684 := i32_R (xs ((l18_3 + 2).toNat))
              refine go_smp (L' := [some (.inr (.inr (some 3000))), some (.inr (.inr (some 0))), some (.inr (.inr (some 79))), some (.inl l18_3)]) (st' := [.inl ((xs ((l18_3 + 2).toNat)).toInt), .inl ((xs ((l18_3 + 1).toNat)).toInt), .inr (.inr (some 79))]) (w' := (SH, dt4616)) rfl rfl (s_iald (n := L) (f := fun j => (xs j).toInt) (am_scr hLL) ⟨by omega, by omega⟩) ?_
              refine go_call (Q' := _) rfl rfl rfl rfl rfl (sp_X6_house L xs sio (d + 37) dt4616 hI4617 hM4620  ((xs ((l18_3 + 1).toNat)).toInt) ⟨by omega, by omega⟩ ((xs ((l18_3 + 2).toNat)).toInt) ⟨by omega, by omega⟩ ) ?_
              rintro _ _ ⟨dt4686, rfl, hI4687, hF4688, h4685⟩
              refine ⟨rfl, ?_⟩
              have hF4689 : Fr [0, 1, 2, 3, 4, 5, 6, 7, 8, 9, 10, 11, 12, 13, 14, 15, 16, 17, 18, 19, 20, 21, 22, 23, 24, 25, 26, 27, 28, 29, 30, 31, 32, 33, 34, 35, 36, 37, 38, 39, 40, 41, 42, 43, 44, 45, 46, 47, 48, 49, 50, 51, 52, 53, 54, 55, 56, 57, 58, 59, 60, 61, 62, 63, 64, 65, 66, 67, 68, 69, 70, 71, 72, 73, 74, 75, 76, 77, 78, 79, 80, 81, 82, 83, 84, 85, 86, 87, 88, 89, 90, 91, 92, 93, 94, 95, 96, 97, 98, 99, 100, 101, 102, 103, 104] dt dt4686 := Fr_tr hF4619 hF4688 (by decide)
              have w4690 : dt4686 1 0 = dt4616 1 0 := hF4688 1 (by decide) 0
              have w4691 : dt4686 7 3 = dt4616 7 3 := hF4688 7 (by decide) 3
              have w4692 : dt4686 10 3 = dt4616 10 3 := hF4688 10 (by decide) 3
              have w4693 : dt4686 12 3 = dt4616 12 3 := hF4688 12 (by decide) 3
              have w4694 : dt4686 14 3 = dt4616 14 3 := hF4688 14 (by decide) 3
              have w4695 : dt4686 16 3 = dt4616 16 3 := hF4688 16 (by decide) 3
              have w4696 : dt4686 18 0 = dt4616 18 0 := hF4688 18 (by decide) 0
              have w4697 : dt4686 24 3 = dt4616 24 3 := hF4688 24 (by decide) 3
              have w4698 : dt4686 27 3 = dt4616 27 3 := hF4688 27 (by decide) 3
              have w4699 : dt4686 29 3 = dt4616 29 3 := hF4688 29 (by decide) 3
              have w4700 : dt4686 31 3 = dt4616 31 3 := hF4688 31 (by decide) 3
              have w4701 : dt4686 33 3 = dt4616 33 3 := hF4688 33 (by decide) 3
              have w4702 : dt4686 0 2 = dt4616 0 2 := hF4688 0 (by decide) 2
              have w4703 : dt4686 35 1 = dt4616 35 1 := hF4688 35 (by decide) 1
              have w4704 : dt4686 81 0 = dt4616 81 0 := hF4688 81 (by decide) 0
              have w4705 : dt4686 81 1 = dt4616 81 1 := hF4688 81 (by decide) 1
              have w4706 : dt4686 81 2 = dt4616 81 2 := hF4688 81 (by decide) 2
              have w4707 : dt4686 81 3 = dt4616 81 3 := hF4688 81 (by decide) 3
              have w4708 : dt4686 81 4 = dt4616 81 4 := hF4688 81 (by decide) 4
              have w4709 : dt4686 81 5 = dt4616 81 5 := hF4688 81 (by decide) 5
              have w4710 : dt4686 79 2 = dt4616 79 2 := hF4688 79 (by decide) 2
              have w4711 : dt4686 79 12 = dt4616 79 12 := hF4688 79 (by decide) 12
              rcases h4685 with ⟨rfl, h4685⟩ | ⟨v_h4685, rfl, h4685r, h4685⟩
              · skip
                have hM4712 : MW (dt4686 80) := h4685.2.1
                obtain ⟨h4685_0, h4685_1, h4685_2, h4685_3, h4685_4, h4685_5, h4685_6, h4685_7⟩ := h4685
                have M24713 : MW (dt4686 81) := MW_frk M24682 hF4688 (by decide)
                refine go_to (k := 4) (pc' := 18) (L' := [some (.inr (.inr (some 3000))), some (.inr (.inr (some 0))), some (.inr (.inr (some 79))), some (.inl (l18_3 + 6))]) (st' := []) (w' := (SH, dt4686)) (fun _ => rfl) ?_
                exact GO.le (ih_loop2795 (l18_3 + 6) dt4686 hI4687 hF4689 hM4712 (by omega) (by exact M24713) (by omega) (by omega) (by omega) (by omega) (by omega) (by omega) (by omega) (by omega) (by omega) (by omega) (by omega) (by omega) (by omega) (by omega) (by omega)) ⟨.inl rfl, .inl rfl, .inl rfl, .inl rfl, trivial⟩
              · skip
                have hM4714 : MW (dt4686 80) := h4685.2.2.1
                obtain ⟨h4685_0, h4685_1, h4685_2, h4685_3, h4685_4, h4685_5, h4685_6, h4685_7, h4685_8⟩ := h4685
                have M24715 : MW (dt4686 81) := MW_frk M24682 hF4688 (by decide)
                refine go_to (k := 4) (pc' := 18) (L' := [some (.inr (.inr (some 3000))), some (.inr (.inr (some 0))), some (.inr (.inr (some 79))), some (.inl (l18_3 + 6))]) (st' := []) (w' := (SH, dt4686)) (fun _ => rfl) ?_
                exact GO.le (ih_loop2795 (l18_3 + 6) dt4686 hI4687 hF4689 hM4714 (by omega) (by exact M24715) (by omega) (by omega) (by omega) (by omega) (by omega) (by omega) (by omega) (by omega) (by omega) (by omega) (by omega) (by omega) (by omega) (by omega) (by omega)) ⟨.inl rfl, .inl rfl, .inl rfl, .inl rfl, trivial⟩
          · refine go_swi (v := 26) (p1 := 1198) (lo := 0) (hi := 32) rfl c2802 (by decide) rfl ?_
            refine go_to (k := 5) (pc' := 1203) (L' := [some (.inr (.inr (some 3000))), some (.inr (.inr (some 0))), some (.inr (.inr (some 79))), some (.inl l18_3)]) (st' := [.inl (l18_3 + 1), .inr (.inr (some 3000)), .inr (.inr (some 0))]) (w' := (SH, dt2776)) (fun _ => rfl) ?_
            have r4716 := i32_R (xs ((l18_3 + 1).toNat))
            refine go_smp (L' := [some (.inr (.inr (some 3000))), some (.inr (.inr (some 0))), some (.inr (.inr (some 79))), some (.inl l18_3)]) (st' := [.inl ((xs ((l18_3 + 1).toNat)).toInt), .inr (.inr (some 0))]) (w' := (SH, dt2776)) rfl rfl (s_iald (n := L) (f := fun j => (xs j).toInt) (am_scr hLL) ⟨by omega, by omega⟩) ?_
            refine go_call (Q' := _) rfl rfl rfl rfl rfl (sp_X5_houses L xs sio (d + 34) dt2776 hI2777  ((xs ((l18_3 + 1).toNat)).toInt) ⟨by omega, by omega⟩ ) ?_
            rintro _ _ ⟨rfl, h4717⟩
            refine ⟨rfl, ?_⟩
            rcases h4717 with ⟨v_h4717, rfl, h4717r, h4717⟩
            refine go_to (k := 6) (pc' := 1213) (L' := [some (.inr (.inr (some 3000))), some (.inr (.inr (some 0))), some (.inr (.inr (some 79))), some (.inl l18_3)]) (st' := [.inl (l18_3 + 1), .inr (.inr (some 3000)), .inr (.inr (some 79))]) (w' := (SH, dt2776)) (fun _ => rfl) ?_
            refine go_smp (L' := [some (.inr (.inr (some 3000))), some (.inr (.inr (some 0))), some (.inr (.inr (some 79))), some (.inl l18_3)]) (st' := [.inl ((xs ((l18_3 + 1).toNat)).toInt), .inr (.inr (some 79))]) (w' := (SH, dt2776)) rfl rfl (s_iald (n := L) (f := fun j => (xs j).toInt) (am_scr hLL) ⟨by omega, by omega⟩) ?_
            refine go_call (Q' := _) rfl rfl rfl rfl rfl (sp_X6_houses L xs sio (d + 37) dt2776 hI2777 hM_dt2776  ((xs ((l18_3 + 1).toNat)).toInt) ⟨by omega, by omega⟩ ) ?_
            rintro _ _ ⟨rfl, h4718⟩
            refine ⟨rfl, ?_⟩
            rcases h4718 with ⟨v_h4718, rfl, h4718r, h4718⟩
            refine go_to (k := 4) (pc' := 18) (L' := [some (.inr (.inr (some 3000))), some (.inr (.inr (some 0))), some (.inr (.inr (some 79))), some (.inl (l18_3 + 6))]) (st' := []) (w' := (SH, dt2776)) (fun _ => rfl) ?_
            exact GO.le (ih_loop2795 (l18_3 + 6) dt2776 hI2777 hF2778 hM_dt2776 (by omega) (by exact hM2L) (by omega) (by omega) (by omega) (by omega) (by omega) (by omega) (by omega) (by omega) (by omega) (by omega) (by omega) (by omega) (by omega) (by omega) (by omega)) ⟨.inl rfl, .inl rfl, .inl rfl, .inl rfl, trivial⟩
          · refine go_swi (v := 27) (p1 := 1221) (lo := 0) (hi := 32) rfl c2802 (by decide) rfl ?_
            refine go_to (k := 5) (pc' := 1226) (L' := [some (.inr (.inr (some 3000))), some (.inr (.inr (some 0))), some (.inr (.inr (some 79))), some (.inl l18_3)]) (st' := [.inl (l18_3 + 1), .inr (.inr (some 3000)), .inr (.inr (some 0))]) (w' := (SH, dt2776)) (fun _ => rfl) ?_
            have r4719 := i32_R (xs ((l18_3 + 1).toNat))
            refine go_smp (L' := [some (.inr (.inr (some 3000))), some (.inr (.inr (some 0))), some (.inr (.inr (some 79))), some (.inl l18_3)]) (st' := [.inl ((xs ((l18_3 + 1).toNat)).toInt), .inr (.inr (some 0))]) (w' := (SH, dt2776)) rfl rfl (s_iald (n := L) (f := fun j => (xs j).toInt) (am_scr hLL) ⟨by omega, by omega⟩) ?_
            refine go_to (k := 4) (pc' := 1231) (L' := [some (.inr (.inr (some 3000))), some (.inr (.inr (some 0))), some (.inr (.inr (some 79))), some (.inl l18_3)]) (st' := [.inl (l18_3 + 2), .inr (.inr (some 3000)), .inl ((xs ((l18_3 + 1).toNat)).toInt), .inr (.inr (some 0))]) (w' := (SH, dt2776)) (fun _ => rfl) ?_
            have r4720 := i32_R (xs ((l18_3 + 2).toNat))
            refine go_smp (L' := [some (.inr (.inr (some 3000))), some (.inr (.inr (some 0))), some (.inr (.inr (some 79))), some (.inl l18_3)]) (st' := [.inl ((xs ((l18_3 + 2).toNat)).toInt), .inl ((xs ((l18_3 + 1).toNat)).toInt), .inr (.inr (some 0))]) (w' := (SH, dt2776)) rfl rfl (s_iald (n := L) (f := fun j => (xs j).toInt) (am_scr hLL) ⟨by omega, by omega⟩) ?_
            refine go_call (Q' := _) rfl rfl rfl rfl rfl (sp_X5_sorts L xs sio (d + 33) dt2776 hI2777  ((xs ((l18_3 + 1).toNat)).toInt) ⟨by omega, by omega⟩ ((xs ((l18_3 + 2).toNat)).toInt) ⟨by omega, by omega⟩ ) ?_
            rintro _ _ ⟨dt4722, rfl, hI4723, hF4724, h4721⟩
            refine ⟨rfl, ?_⟩
            have hF4725 : Fr [0, 1, 2, 3, 4, 5, 6, 7, 8, 9, 10, 11, 12, 13, 14, 15, 16, 17, 18, 19, 20, 21, 22, 23, 24, 25, 26, 27, 28, 29, 30, 31, 32, 33, 34, 35, 36, 37, 38, 39, 40, 41, 42, 43, 44, 45, 46, 47, 48, 49, 50, 51, 52, 53, 54, 55, 56, 57, 58, 59, 60, 61, 62, 63, 64, 65, 66, 67, 68, 69, 70, 71, 72, 73, 74, 75, 76, 77, 78, 79, 80, 81, 82, 83, 84, 85, 86, 87, 88, 89, 90, 91, 92, 93, 94, 95, 96, 97, 98, 99, 100, 101, 102, 103, 104] dt dt4722 := Fr_tr hF2778 hF4724 (by decide)
            have hM4726 : MW (dt4722 80) := MW_fr hM_dt2776 hF4724 (by decide)
            have w4727 : dt4722 1 0 = dt2776 1 0 := hF4724 1 (by decide) 0
            have w4728 : dt4722 7 3 = dt2776 7 3 := hF4724 7 (by decide) 3
            have w4729 : dt4722 10 3 = dt2776 10 3 := hF4724 10 (by decide) 3
            have w4730 : dt4722 12 3 = dt2776 12 3 := hF4724 12 (by decide) 3
            have w4731 : dt4722 14 3 = dt2776 14 3 := hF4724 14 (by decide) 3
            have w4732 : dt4722 16 3 = dt2776 16 3 := hF4724 16 (by decide) 3
            have w4733 : dt4722 18 0 = dt2776 18 0 := hF4724 18 (by decide) 0
            have w4734 : dt4722 24 3 = dt2776 24 3 := hF4724 24 (by decide) 3
            have w4735 : dt4722 27 3 = dt2776 27 3 := hF4724 27 (by decide) 3
            have w4736 : dt4722 29 3 = dt2776 29 3 := hF4724 29 (by decide) 3
            have w4737 : dt4722 31 3 = dt2776 31 3 := hF4724 31 (by decide) 3
            have w4738 : dt4722 33 3 = dt2776 33 3 := hF4724 33 (by decide) 3
            have w4739 : dt4722 0 2 = dt2776 0 2 := hF4724 0 (by decide) 2
            have w4740 : dt4722 35 1 = dt2776 35 1 := hF4724 35 (by decide) 1
            have w4741 : dt4722 80 0 = dt2776 80 0 := hF4724 80 (by decide) 0
            have w4742 : dt4722 80 1 = dt2776 80 1 := hF4724 80 (by decide) 1
            have w4743 : dt4722 80 2 = dt2776 80 2 := hF4724 80 (by decide) 2
            have w4744 : dt4722 80 3 = dt2776 80 3 := hF4724 80 (by decide) 3
            have w4745 : dt4722 80 4 = dt2776 80 4 := hF4724 80 (by decide) 4
            have w4746 : dt4722 80 5 = dt2776 80 5 := hF4724 80 (by decide) 5
            have w4747 : dt4722 81 0 = dt2776 81 0 := hF4724 81 (by decide) 0
            have w4748 : dt4722 81 1 = dt2776 81 1 := hF4724 81 (by decide) 1
            have w4749 : dt4722 81 2 = dt2776 81 2 := hF4724 81 (by decide) 2
            have w4750 : dt4722 81 3 = dt2776 81 3 := hF4724 81 (by decide) 3
            have w4751 : dt4722 81 4 = dt2776 81 4 := hF4724 81 (by decide) 4
            have w4752 : dt4722 81 5 = dt2776 81 5 := hF4724 81 (by decide) 5
            have w4753 : dt4722 79 2 = dt2776 79 2 := hF4724 79 (by decide) 2
            have w4754 : dt4722 79 12 = dt2776 79 12 := hF4724 79 (by decide) 12
            rcases h4721 with ⟨v_h4721, rfl, h4721r, h4721⟩
            have M24755 : MW (dt4722 81) := MW_frk hM2L hF4724 (by decide)
            refine go_to (k := 6) (pc' := 1241) (L' := [some (.inr (.inr (some 3000))), some (.inr (.inr (some 0))), some (.inr (.inr (some 79))), some (.inl l18_3)]) (st' := [.inl (l18_3 + 1), .inr (.inr (some 3000)), .inr (.inr (some 79))]) (w' := (SH, dt4722)) (fun _ => rfl) ?_
            have r4756 := i32_R (xs ((l18_3 + 1).toNat))
            refine go_smp (L' := [some (.inr (.inr (some 3000))), some (.inr (.inr (some 0))), some (.inr (.inr (some 79))), some (.inl l18_3)]) (st' := [.inl ((xs ((l18_3 + 1).toNat)).toInt), .inr (.inr (some 79))]) (w' := (SH, dt4722)) rfl rfl (s_iald (n := L) (f := fun j => (xs j).toInt) (am_scr hLL) ⟨by omega, by omega⟩) ?_
            refine go_to (k := 4) (pc' := 1246) (L' := [some (.inr (.inr (some 3000))), some (.inr (.inr (some 0))), some (.inr (.inr (some 79))), some (.inl l18_3)]) (st' := [.inl (l18_3 + 2), .inr (.inr (some 3000)), .inl ((xs ((l18_3 + 1).toNat)).toInt), .inr (.inr (some 79))]) (w' := (SH, dt4722)) (fun _ => rfl) ?_
            have r4757 := i32_R (xs ((l18_3 + 2).toNat))
            refine go_smp (L' := [some (.inr (.inr (some 3000))), some (.inr (.inr (some 0))), some (.inr (.inr (some 79))), some (.inl l18_3)]) (st' := [.inl ((xs ((l18_3 + 2).toNat)).toInt), .inl ((xs ((l18_3 + 1).toNat)).toInt), .inr (.inr (some 79))]) (w' := (SH, dt4722)) rfl rfl (s_iald (n := L) (f := fun j => (xs j).toInt) (am_scr hLL) ⟨by omega, by omega⟩) ?_
            refine go_call (Q' := _) rfl rfl rfl rfl rfl (sp_X6_sorts L xs sio (d + 31) dt4722 hI4723 hM4726  ((xs ((l18_3 + 1).toNat)).toInt) ⟨by omega, by omega⟩ ((xs ((l18_3 + 2).toNat)).toInt) ⟨by omega, by omega⟩ ) ?_
            rintro _ _ ⟨dt4759, rfl, hI4760, hF4761, h4758⟩
            refine ⟨rfl, ?_⟩
            have hF4762 : Fr [0, 1, 2, 3, 4, 5, 6, 7, 8, 9, 10, 11, 12, 13, 14, 15, 16, 17, 18, 19, 20, 21, 22, 23, 24, 25, 26, 27, 28, 29, 30, 31, 32, 33, 34, 35, 36, 37, 38, 39, 40, 41, 42, 43, 44, 45, 46, 47, 48, 49, 50, 51, 52, 53, 54, 55, 56, 57, 58, 59, 60, 61, 62, 63, 64, 65, 66, 67, 68, 69, 70, 71, 72, 73, 74, 75, 76, 77, 78, 79, 80, 81, 82, 83, 84, 85, 86, 87, 88, 89, 90, 91, 92, 93, 94, 95, 96, 97, 98, 99, 100, 101, 102, 103, 104] dt dt4759 := Fr_tr hF4725 hF4761 (by decide)
            have hM4763 : MW (dt4759 80) := MW_fr hM4726 hF4761 (by decide)
            have w4764 : dt4759 1 0 = dt4722 1 0 := hF4761 1 (by decide) 0
            have w4765 : dt4759 7 3 = dt4722 7 3 := hF4761 7 (by decide) 3
            have w4766 : dt4759 10 3 = dt4722 10 3 := hF4761 10 (by decide) 3
            have w4767 : dt4759 12 3 = dt4722 12 3 := hF4761 12 (by decide) 3
            have w4768 : dt4759 14 3 = dt4722 14 3 := hF4761 14 (by decide) 3
            have w4769 : dt4759 16 3 = dt4722 16 3 := hF4761 16 (by decide) 3
            have w4770 : dt4759 18 0 = dt4722 18 0 := hF4761 18 (by decide) 0
            have w4771 : dt4759 24 3 = dt4722 24 3 := hF4761 24 (by decide) 3
            have w4772 : dt4759 27 3 = dt4722 27 3 := hF4761 27 (by decide) 3
            have w4773 : dt4759 29 3 = dt4722 29 3 := hF4761 29 (by decide) 3
            have w4774 : dt4759 31 3 = dt4722 31 3 := hF4761 31 (by decide) 3
            have w4775 : dt4759 33 3 = dt4722 33 3 := hF4761 33 (by decide) 3
            have w4776 : dt4759 0 2 = dt4722 0 2 := hF4761 0 (by decide) 2
            have w4777 : dt4759 35 1 = dt4722 35 1 := hF4761 35 (by decide) 1
            have w4778 : dt4759 80 0 = dt4722 80 0 := hF4761 80 (by decide) 0
            have w4779 : dt4759 80 1 = dt4722 80 1 := hF4761 80 (by decide) 1
            have w4780 : dt4759 80 2 = dt4722 80 2 := hF4761 80 (by decide) 2
            have w4781 : dt4759 80 3 = dt4722 80 3 := hF4761 80 (by decide) 3
            have w4782 : dt4759 80 4 = dt4722 80 4 := hF4761 80 (by decide) 4
            have w4783 : dt4759 80 5 = dt4722 80 5 := hF4761 80 (by decide) 5
            have w4784 : dt4759 81 0 = dt4722 81 0 := hF4761 81 (by decide) 0
            have w4785 : dt4759 81 1 = dt4722 81 1 := hF4761 81 (by decide) 1
            have w4786 : dt4759 81 2 = dt4722 81 2 := hF4761 81 (by decide) 2
            have w4787 : dt4759 81 3 = dt4722 81 3 := hF4761 81 (by decide) 3
            have w4788 : dt4759 81 4 = dt4722 81 4 := hF4761 81 (by decide) 4
            have w4789 : dt4759 81 5 = dt4722 81 5 := hF4761 81 (by decide) 5
            have w4790 : dt4759 79 2 = dt4722 79 2 := hF4761 79 (by decide) 2
            have w4791 : dt4759 79 12 = dt4722 79 12 := hF4761 79 (by decide) 12
            rcases h4758 with ⟨v_h4758, rfl, h4758r, h4758⟩
            have M24792 : MW (dt4759 81) := MW_frk M24755 hF4761 (by decide)
            refine go_to (k := 4) (pc' := 18) (L' := [some (.inr (.inr (some 3000))), some (.inr (.inr (some 0))), some (.inr (.inr (some 79))), some (.inl (l18_3 + 6))]) (st' := []) (w' := (SH, dt4759)) (fun _ => rfl) ?_
            exact GO.le (ih_loop2795 (l18_3 + 6) dt4759 hI4760 hF4762 hM4763 (by omega) (by exact M24792) (by omega) (by omega) (by omega) (by omega) (by omega) (by omega) (by omega) (by omega) (by omega) (by omega) (by omega) (by omega) (by omega) (by omega) (by omega)) ⟨.inl rfl, .inl rfl, .inl rfl, .inl rfl, trivial⟩
          · refine go_swi (v := 28) (p1 := 1254) (lo := 0) (hi := 32) rfl c2802 (by decide) rfl ?_
            refine go_to (k := 5) (pc' := 1259) (L' := [some (.inr (.inr (some 3000))), some (.inr (.inr (some 0))), some (.inr (.inr (some 79))), some (.inl l18_3)]) (st' := [.inl (l18_3 + 1), .inr (.inr (some 3000)), .inr (.inr (some 0))]) (w' := (SH, dt2776)) (fun _ => rfl) ?_
            have r4793 := i32_R (xs ((l18_3 + 1).toNat))
            refine go_smp (L' := [some (.inr (.inr (some 3000))), some (.inr (.inr (some 0))), some (.inr (.inr (some 79))), some (.inl l18_3)]) (st' := [.inl ((xs ((l18_3 + 1).toNat)).toInt), .inr (.inr (some 0))]) (w' := (SH, dt2776)) rfl rfl (s_iald (n := L) (f := fun j => (xs j).toInt) (am_scr hLL) ⟨by omega, by omega⟩) ?_
            refine go_to (k := 4) (pc' := 1264) (L' := [some (.inr (.inr (some 3000))), some (.inr (.inr (some 0))), some (.inr (.inr (some 79))), some (.inl l18_3)]) (st' := [.inl (l18_3 + 2), .inr (.inr (some 3000)), .inl ((xs ((l18_3 + 1).toNat)).toInt), .inr (.inr (some 0))]) (w' := (SH, dt2776)) (fun _ => rfl) ?_
            have r4794 := i32_R (xs ((l18_3 + 2).toNat))
            refine go_smp (L' := [some (.inr (.inr (some 3000))), some (.inr (.inr (some 0))), some (.inr (.inr (some 79))), some (.inl l18_3)]) (st' := [.inl ((xs ((l18_3 + 2).toNat)).toInt), .inl ((xs ((l18_3 + 1).toNat)).toInt), .inr (.inr (some 0))]) (w' := (SH, dt2776)) rfl rfl (s_iald (n := L) (f := fun j => (xs j).toInt) (am_scr hLL) ⟨by omega, by omega⟩) ?_
            refine go_call (Q' := _) rfl rfl rfl rfl rfl (sp_X5_curve L xs sio (d + 33) dt2776 hI2777  ((xs ((l18_3 + 1).toNat)).toInt) ⟨by omega, by omega⟩ ((xs ((l18_3 + 2).toNat)).toInt) ⟨by omega, by omega⟩ ) ?_
            rintro _ _ ⟨dt4796, rfl, hI4797, hF4798, h4795⟩
            refine ⟨rfl, ?_⟩
            have hF4799 : Fr [0, 1, 2, 3, 4, 5, 6, 7, 8, 9, 10, 11, 12, 13, 14, 15, 16, 17, 18, 19, 20, 21, 22, 23, 24, 25, 26, 27, 28, 29, 30, 31, 32, 33, 34, 35, 36, 37, 38, 39, 40, 41, 42, 43, 44, 45, 46, 47, 48, 49, 50, 51, 52, 53, 54, 55, 56, 57, 58, 59, 60, 61, 62, 63, 64, 65, 66, 67, 68, 69, 70, 71, 72, 73, 74, 75, 76, 77, 78, 79, 80, 81, 82, 83, 84, 85, 86, 87, 88, 89, 90, 91, 92, 93, 94, 95, 96, 97, 98, 99, 100, 101, 102, 103, 104] dt dt4796 := Fr_tr hF2778 hF4798 (by decide)
            have hM4800 : MW (dt4796 80) := MW_fr hM_dt2776 hF4798 (by decide)
            have w4801 : dt4796 1 0 = dt2776 1 0 := hF4798 1 (by decide) 0
            have w4802 : dt4796 7 3 = dt2776 7 3 := hF4798 7 (by decide) 3
            have w4803 : dt4796 10 3 = dt2776 10 3 := hF4798 10 (by decide) 3
            have w4804 : dt4796 12 3 = dt2776 12 3 := hF4798 12 (by decide) 3
            have w4805 : dt4796 14 3 = dt2776 14 3 := hF4798 14 (by decide) 3
            have w4806 : dt4796 16 3 = dt2776 16 3 := hF4798 16 (by decide) 3
            have w4807 : dt4796 18 0 = dt2776 18 0 := hF4798 18 (by decide) 0
            have w4808 : dt4796 24 3 = dt2776 24 3 := hF4798 24 (by decide) 3
            have w4809 : dt4796 27 3 = dt2776 27 3 := hF4798 27 (by decide) 3
            have w4810 : dt4796 29 3 = dt2776 29 3 := hF4798 29 (by decide) 3
            have w4811 : dt4796 31 3 = dt2776 31 3 := hF4798 31 (by decide) 3
            have w4812 : dt4796 33 3 = dt2776 33 3 := hF4798 33 (by decide) 3
            have w4813 : dt4796 0 2 = dt2776 0 2 := hF4798 0 (by decide) 2
            have w4814 : dt4796 35 1 = dt2776 35 1 := hF4798 35 (by decide) 1
            have w4815 : dt4796 80 0 = dt2776 80 0 := hF4798 80 (by decide) 0
            have w4816 : dt4796 80 1 = dt2776 80 1 := hF4798 80 (by decide) 1
            have w4817 : dt4796 80 2 = dt2776 80 2 := hF4798 80 (by decide) 2
            have w4818 : dt4796 80 3 = dt2776 80 3 := hF4798 80 (by decide) 3
            have w4819 : dt4796 80 4 = dt2776 80 4 := hF4798 80 (by decide) 4
            have w4820 : dt4796 80 5 = dt2776 80 5 := hF4798 80 (by decide) 5
            have w4821 : dt4796 81 0 = dt2776 81 0 := hF4798 81 (by decide) 0
            have w4822 : dt4796 81 1 = dt2776 81 1 := hF4798 81 (by decide) 1
            have w4823 : dt4796 81 2 = dt2776 81 2 := hF4798 81 (by decide) 2
            have w4824 : dt4796 81 3 = dt2776 81 3 := hF4798 81 (by decide) 3
            have w4825 : dt4796 81 4 = dt2776 81 4 := hF4798 81 (by decide) 4
            have w4826 : dt4796 81 5 = dt2776 81 5 := hF4798 81 (by decide) 5
            have w4827 : dt4796 79 2 = dt2776 79 2 := hF4798 79 (by decide) 2
            have w4828 : dt4796 79 12 = dt2776 79 12 := hF4798 79 (by decide) 12
            rcases h4795 with ⟨v_h4795, rfl, h4795r, h4795⟩
            have M24829 : MW (dt4796 81) := MW_frk hM2L hF4798 (by decide)
            refine go_to (k := 6) (pc' := 1274) (L' := [some (.inr (.inr (some 3000))), some (.inr (.inr (some 0))), some (.inr (.inr (some 79))), some (.inl l18_3)]) (st' := [.inl (l18_3 + 1), .inr (.inr (some 3000)), .inr (.inr (some 79))]) (w' := (SH, dt4796)) (fun _ => rfl) ?_
            have r4830 := i32_R (xs ((l18_3 + 1).toNat))
            refine go_smp (L' := [some (.inr (.inr (some 3000))), some (.inr (.inr (some 0))), some (.inr (.inr (some 79))), some (.inl l18_3)]) (st' := [.inl ((xs ((l18_3 + 1).toNat)).toInt), .inr (.inr (some 79))]) (w' := (SH, dt4796)) rfl rfl (s_iald (n := L) (f := fun j => (xs j).toInt) (am_scr hLL) ⟨by omega, by omega⟩) ?_
            refine go_to (k := 4) (pc' := 1279) (L' := [some (.inr (.inr (some 3000))), some (.inr (.inr (some 0))), some (.inr (.inr (some 79))), some (.inl l18_3)]) (st' := [.inl (l18_3 + 2), .inr (.inr (some 3000)), .inl ((xs ((l18_3 + 1).toNat)).toInt), .inr (.inr (some 79))]) (w' := (SH, dt4796)) (fun _ => rfl) ?_
            have r4831 := i32_R (xs ((l18_3 + 2).toNat))
            refine go_smp (L' := [some (.inr (.inr (some 3000))), some (.inr (.inr (some 0))), some (.inr (.inr (some 79))), some (.inl l18_3)]) (st' := [.inl ((xs ((l18_3 + 2).toNat)).toInt), .inl ((xs ((l18_3 + 1).toNat)).toInt), .inr (.inr (some 79))]) (w' := (SH, dt4796)) rfl rfl (s_iald (n := L) (f := fun j => (xs j).toInt) (am_scr hLL) ⟨by omega, by omega⟩) ?_
            refine go_call (Q' := _) rfl rfl rfl rfl rfl (sp_X6_curve L xs sio (d + 30) dt4796 hI4797 hM4800  ((xs ((l18_3 + 1).toNat)).toInt) ⟨by omega, by omega⟩ ((xs ((l18_3 + 2).toNat)).toInt) ⟨by omega, by omega⟩ ) ?_
            rintro _ _ ⟨dt4833, rfl, hI4834, hF4835, h4832⟩
            refine ⟨rfl, ?_⟩
            have hF4836 : Fr [0, 1, 2, 3, 4, 5, 6, 7, 8, 9, 10, 11, 12, 13, 14, 15, 16, 17, 18, 19, 20, 21, 22, 23, 24, 25, 26, 27, 28, 29, 30, 31, 32, 33, 34, 35, 36, 37, 38, 39, 40, 41, 42, 43, 44, 45, 46, 47, 48, 49, 50, 51, 52, 53, 54, 55, 56, 57, 58, 59, 60, 61, 62, 63, 64, 65, 66, 67, 68, 69, 70, 71, 72, 73, 74, 75, 76, 77, 78, 79, 80, 81, 82, 83, 84, 85, 86, 87, 88, 89, 90, 91, 92, 93, 94, 95, 96, 97, 98, 99, 100, 101, 102, 103, 104] dt dt4833 := Fr_tr hF4799 hF4835 (by decide)
            have hM4837 : MW (dt4833 80) := MW_fr hM4800 hF4835 (by decide)
            have w4838 : dt4833 1 0 = dt4796 1 0 := hF4835 1 (by decide) 0
            have w4839 : dt4833 7 3 = dt4796 7 3 := hF4835 7 (by decide) 3
            have w4840 : dt4833 10 3 = dt4796 10 3 := hF4835 10 (by decide) 3
            have w4841 : dt4833 12 3 = dt4796 12 3 := hF4835 12 (by decide) 3
            have w4842 : dt4833 14 3 = dt4796 14 3 := hF4835 14 (by decide) 3
            have w4843 : dt4833 16 3 = dt4796 16 3 := hF4835 16 (by decide) 3
            have w4844 : dt4833 18 0 = dt4796 18 0 := hF4835 18 (by decide) 0
            have w4845 : dt4833 24 3 = dt4796 24 3 := hF4835 24 (by decide) 3
            have w4846 : dt4833 27 3 = dt4796 27 3 := hF4835 27 (by decide) 3
            have w4847 : dt4833 29 3 = dt4796 29 3 := hF4835 29 (by decide) 3
            have w4848 : dt4833 31 3 = dt4796 31 3 := hF4835 31 (by decide) 3
            have w4849 : dt4833 33 3 = dt4796 33 3 := hF4835 33 (by decide) 3
            have w4850 : dt4833 0 2 = dt4796 0 2 := hF4835 0 (by decide) 2
            have w4851 : dt4833 35 1 = dt4796 35 1 := hF4835 35 (by decide) 1
            have w4852 : dt4833 80 0 = dt4796 80 0 := hF4835 80 (by decide) 0
            have w4853 : dt4833 80 1 = dt4796 80 1 := hF4835 80 (by decide) 1
            have w4854 : dt4833 80 2 = dt4796 80 2 := hF4835 80 (by decide) 2
            have w4855 : dt4833 80 3 = dt4796 80 3 := hF4835 80 (by decide) 3
            have w4856 : dt4833 80 4 = dt4796 80 4 := hF4835 80 (by decide) 4
            have w4857 : dt4833 80 5 = dt4796 80 5 := hF4835 80 (by decide) 5
            have w4858 : dt4833 81 0 = dt4796 81 0 := hF4835 81 (by decide) 0
            have w4859 : dt4833 81 1 = dt4796 81 1 := hF4835 81 (by decide) 1
            have w4860 : dt4833 81 2 = dt4796 81 2 := hF4835 81 (by decide) 2
            have w4861 : dt4833 81 3 = dt4796 81 3 := hF4835 81 (by decide) 3
            have w4862 : dt4833 81 4 = dt4796 81 4 := hF4835 81 (by decide) 4
            have w4863 : dt4833 81 5 = dt4796 81 5 := hF4835 81 (by decide) 5
            rcases h4832 with ⟨v_h4832, rfl, h4832r, h4832⟩
            obtain ⟨h4832_0, h4832_1⟩ := h4832
            have M24864 : MW (dt4833 81) := MW_frk M24829 hF4835 (by decide)
            refine go_to (k := 4) (pc' := 18) (L' := [some (.inr (.inr (some 3000))), some (.inr (.inr (some 0))), some (.inr (.inr (some 79))), some (.inl (l18_3 + 6))]) (st' := []) (w' := (SH, dt4833)) (fun _ => rfl) ?_
            exact GO.le (ih_loop2795 (l18_3 + 6) dt4833 hI4834 hF4836 hM4837 (by omega) (by exact M24864) (by omega) (by omega) (by omega) (by omega) (by omega) (by omega) (by omega) (by omega) (by omega) (by omega) (by omega) (by omega) (by omega) (by omega) (by omega)) ⟨.inl rfl, .inl rfl, .inl rfl, .inl rfl, trivial⟩
          · refine go_swi (v := 29) (p1 := 1287) (lo := 0) (hi := 32) rfl c2802 (by decide) rfl ?_
            refine go_to (k := 5) (pc' := 1292) (L' := [some (.inr (.inr (some 3000))), some (.inr (.inr (some 0))), some (.inr (.inr (some 79))), some (.inl l18_3)]) (st' := [.inl (l18_3 + 1), .inr (.inr (some 3000)), .inr (.inr (some 0))]) (w' := (SH, dt2776)) (fun _ => rfl) ?_
            have r4865 := i32_R (xs ((l18_3 + 1).toNat))
            refine go_smp (L' := [some (.inr (.inr (some 3000))), some (.inr (.inr (some 0))), some (.inr (.inr (some 79))), some (.inl l18_3)]) (st' := [.inl ((xs ((l18_3 + 1).toNat)).toInt), .inr (.inr (some 0))]) (w' := (SH, dt2776)) rfl rfl (s_iald (n := L) (f := fun j => (xs j).toInt) (am_scr hLL) ⟨by omega, by omega⟩) ?_
            refine go_call (Q' := _) rfl rfl rfl rfl rfl (sp_X5_score L xs sio (d + 32) dt2776 hI2777  ((xs ((l18_3 + 1).toNat)).toInt) ⟨by omega, by omega⟩ ) ?_
            rintro _ _ ⟨dt4867, rfl, hI4868, hF4869, h4866⟩
            refine ⟨rfl, ?_⟩
            have hF4870 : Fr [0, 1, 2, 3, 4, 5, 6, 7, 8, 9, 10, 11, 12, 13, 14, 15, 16, 17, 18, 19, 20, 21, 22, 23, 24, 25, 26, 27, 28, 29, 30, 31, 32, 33, 34, 35, 36, 37, 38, 39, 40, 41, 42, 43, 44, 45, 46, 47, 48, 49, 50, 51, 52, 53, 54, 55, 56, 57, 58, 59, 60, 61, 62, 63, 64, 65, 66, 67, 68, 69, 70, 71, 72, 73, 74, 75, 76, 77, 78, 79, 80, 81, 82, 83, 84, 85, 86, 87, 88, 89, 90, 91, 92, 93, 94, 95, 96, 97, 98, 99, 100, 101, 102, 103, 104] dt dt4867 := Fr_tr hF2778 hF4869 (by decide)
            have hM4871 : MW (dt4867 80) := MW_fr hM_dt2776 hF4869 (by decide)
            have w4872 : dt4867 1 0 = dt2776 1 0 := hF4869 1 (by decide) 0
            have w4873 : dt4867 7 3 = dt2776 7 3 := hF4869 7 (by decide) 3
            have w4874 : dt4867 10 3 = dt2776 10 3 := hF4869 10 (by decide) 3
            have w4875 : dt4867 12 3 = dt2776 12 3 := hF4869 12 (by decide) 3
            have w4876 : dt4867 14 3 = dt2776 14 3 := hF4869 14 (by decide) 3
            have w4877 : dt4867 16 3 = dt2776 16 3 := hF4869 16 (by decide) 3
            have w4878 : dt4867 18 0 = dt2776 18 0 := hF4869 18 (by decide) 0
            have w4879 : dt4867 24 3 = dt2776 24 3 := hF4869 24 (by decide) 3
            have w4880 : dt4867 27 3 = dt2776 27 3 := hF4869 27 (by decide) 3
            have w4881 : dt4867 29 3 = dt2776 29 3 := hF4869 29 (by decide) 3
            have w4882 : dt4867 31 3 = dt2776 31 3 := hF4869 31 (by decide) 3
            have w4883 : dt4867 33 3 = dt2776 33 3 := hF4869 33 (by decide) 3
            have w4884 : dt4867 0 2 = dt2776 0 2 := hF4869 0 (by decide) 2
            have w4885 : dt4867 35 1 = dt2776 35 1 := hF4869 35 (by decide) 1
            have w4886 : dt4867 80 0 = dt2776 80 0 := hF4869 80 (by decide) 0
            have w4887 : dt4867 80 1 = dt2776 80 1 := hF4869 80 (by decide) 1
            have w4888 : dt4867 80 2 = dt2776 80 2 := hF4869 80 (by decide) 2
            have w4889 : dt4867 80 3 = dt2776 80 3 := hF4869 80 (by decide) 3
            have w4890 : dt4867 80 4 = dt2776 80 4 := hF4869 80 (by decide) 4
            have w4891 : dt4867 80 5 = dt2776 80 5 := hF4869 80 (by decide) 5
            have w4892 : dt4867 81 0 = dt2776 81 0 := hF4869 81 (by decide) 0
            have w4893 : dt4867 81 1 = dt2776 81 1 := hF4869 81 (by decide) 1
            have w4894 : dt4867 81 2 = dt2776 81 2 := hF4869 81 (by decide) 2
            have w4895 : dt4867 81 3 = dt2776 81 3 := hF4869 81 (by decide) 3
            have w4896 : dt4867 81 4 = dt2776 81 4 := hF4869 81 (by decide) 4
            have w4897 : dt4867 81 5 = dt2776 81 5 := hF4869 81 (by decide) 5
            have w4898 : dt4867 79 2 = dt2776 79 2 := hF4869 79 (by decide) 2
            have w4899 : dt4867 79 12 = dt2776 79 12 := hF4869 79 (by decide) 12
            rcases h4866 with ⟨v_h4866, rfl, h4866r, h4866⟩
            have M24900 : MW (dt4867 81) := MW_frk hM2L hF4869 (by decide)
            refine go_to (k := 6) (pc' := 1302) (L' := [some (.inr (.inr (some 3000))), some (.inr (.inr (some 0))), some (.inr (.inr (some 79))), some (.inl l18_3)]) (st' := [.inl (l18_3 + 1), .inr (.inr (some 3000)), .inr (.inr (some 79))]) (w' := (SH, dt4867)) (fun _ => rfl) ?_
            have r4901 := i32_R (xs ((l18_3 + 1).toNat))
            refine go_smp (L' := [some (.inr (.inr (some 3000))), some (.inr (.inr (some 0))), some (.inr (.inr (some 79))), some (.inl l18_3)]) (st' := [.inl ((xs ((l18_3 + 1).toNat)).toInt), .inr (.inr (some 79))]) (w' := (SH, dt4867)) rfl rfl (s_iald (n := L) (f := fun j => (xs j).toInt) (am_scr hLL) ⟨by omega, by omega⟩) ?_
            refine go_call (Q' := _) rfl rfl rfl rfl rfl (sp_X6_score L xs sio (d + 30) dt4867 hI4868 hM4871  ((xs ((l18_3 + 1).toNat)).toInt) ⟨by omega, by omega⟩ ) ?_
            rintro _ _ ⟨dt4903, rfl, hI4904, hF4905, h4902⟩
            refine ⟨rfl, ?_⟩
            have hF4906 : Fr [0, 1, 2, 3, 4, 5, 6, 7, 8, 9, 10, 11, 12, 13, 14, 15, 16, 17, 18, 19, 20, 21, 22, 23, 24, 25, 26, 27, 28, 29, 30, 31, 32, 33, 34, 35, 36, 37, 38, 39, 40, 41, 42, 43, 44, 45, 46, 47, 48, 49, 50, 51, 52, 53, 54, 55, 56, 57, 58, 59, 60, 61, 62, 63, 64, 65, 66, 67, 68, 69, 70, 71, 72, 73, 74, 75, 76, 77, 78, 79, 80, 81, 82, 83, 84, 85, 86, 87, 88, 89, 90, 91, 92, 93, 94, 95, 96, 97, 98, 99, 100, 101, 102, 103, 104] dt dt4903 := Fr_tr hF4870 hF4905 (by decide)
            have hM4907 : MW (dt4903 80) := MW_fr hM4871 hF4905 (by decide)
            have w4908 : dt4903 1 0 = dt4867 1 0 := hF4905 1 (by decide) 0
            have w4909 : dt4903 7 3 = dt4867 7 3 := hF4905 7 (by decide) 3
            have w4910 : dt4903 10 3 = dt4867 10 3 := hF4905 10 (by decide) 3
            have w4911 : dt4903 12 3 = dt4867 12 3 := hF4905 12 (by decide) 3
            have w4912 : dt4903 14 3 = dt4867 14 3 := hF4905 14 (by decide) 3
            have w4913 : dt4903 16 3 = dt4867 16 3 := hF4905 16 (by decide) 3
            have w4914 : dt4903 18 0 = dt4867 18 0 := hF4905 18 (by decide) 0
            have w4915 : dt4903 24 3 = dt4867 24 3 := hF4905 24 (by decide) 3
            have w4916 : dt4903 27 3 = dt4867 27 3 := hF4905 27 (by decide) 3
            have w4917 : dt4903 29 3 = dt4867 29 3 := hF4905 29 (by decide) 3
            have w4918 : dt4903 31 3 = dt4867 31 3 := hF4905 31 (by decide) 3
            have w4919 : dt4903 33 3 = dt4867 33 3 := hF4905 33 (by decide) 3
            have w4920 : dt4903 0 2 = dt4867 0 2 := hF4905 0 (by decide) 2
            have w4921 : dt4903 35 1 = dt4867 35 1 := hF4905 35 (by decide) 1
            have w4922 : dt4903 80 0 = dt4867 80 0 := hF4905 80 (by decide) 0
            have w4923 : dt4903 80 1 = dt4867 80 1 := hF4905 80 (by decide) 1
            have w4924 : dt4903 80 2 = dt4867 80 2 := hF4905 80 (by decide) 2
            have w4925 : dt4903 80 3 = dt4867 80 3 := hF4905 80 (by decide) 3
            have w4926 : dt4903 80 4 = dt4867 80 4 := hF4905 80 (by decide) 4
            have w4927 : dt4903 80 5 = dt4867 80 5 := hF4905 80 (by decide) 5
            have w4928 : dt4903 81 0 = dt4867 81 0 := hF4905 81 (by decide) 0
            have w4929 : dt4903 81 1 = dt4867 81 1 := hF4905 81 (by decide) 1
            have w4930 : dt4903 81 2 = dt4867 81 2 := hF4905 81 (by decide) 2
            have w4931 : dt4903 81 3 = dt4867 81 3 := hF4905 81 (by decide) 3
            have w4932 : dt4903 81 4 = dt4867 81 4 := hF4905 81 (by decide) 4
            have w4933 : dt4903 81 5 = dt4867 81 5 := hF4905 81 (by decide) 5
            have w4934 : dt4903 79 2 = dt4867 79 2 := hF4905 79 (by decide) 2
            have w4935 : dt4903 79 12 = dt4867 79 12 := hF4905 79 (by decide) 12
            rcases h4902 with ⟨v_h4902, rfl, h4902r, h4902⟩
            have M24936 : MW (dt4903 81) := MW_frk M24900 hF4905 (by decide)
            refine go_to (k := 4) (pc' := 18) (L' := [some (.inr (.inr (some 3000))), some (.inr (.inr (some 0))), some (.inr (.inr (some 79))), some (.inl (l18_3 + 6))]) (st' := []) (w' := (SH, dt4903)) (fun _ => rfl) ?_
            exact GO.le (ih_loop2795 (l18_3 + 6) dt4903 hI4904 hF4906 hM4907 (by omega) (by exact M24936) (by omega) (by omega) (by omega) (by omega) (by omega) (by omega) (by omega) (by omega) (by omega) (by omega) (by omega) (by omega) (by omega) (by omega) (by omega)) ⟨.inl rfl, .inl rfl, .inl rfl, .inl rfl, trivial⟩
          · refine go_swi (v := 30) (p1 := 1310) (lo := 0) (hi := 32) rfl c2802 (by decide) rfl ?_
            refine go_to (k := 5) (pc' := 1315) (L' := [some (.inr (.inr (some 3000))), some (.inr (.inr (some 0))), some (.inr (.inr (some 79))), some (.inl l18_3)]) (st' := [.inl (l18_3 + 1), .inr (.inr (some 3000)), .inr (.inr (some 0))]) (w' := (SH, dt2776)) (fun _ => rfl) ?_
            have r4937 := i32_R (xs ((l18_3 + 1).toNat))
            refine go_smp (L' := [some (.inr (.inr (some 3000))), some (.inr (.inr (some 0))), some (.inr (.inr (some 79))), some (.inl l18_3)]) (st' := [.inl ((xs ((l18_3 + 1).toNat)).toInt), .inr (.inr (some 0))]) (w' := (SH, dt2776)) rfl rfl (s_iald (n := L) (f := fun j => (xs j).toInt) (am_scr hLL) ⟨by omega, by omega⟩) ?_
            refine go_to (k := 4) (pc' := 1320) (L' := [some (.inr (.inr (some 3000))), some (.inr (.inr (some 0))), some (.inr (.inr (some 79))), some (.inl l18_3)]) (st' := [.inl (l18_3 + 2), .inr (.inr (some 3000)), .inl ((xs ((l18_3 + 1).toNat)).toInt), .inr (.inr (some 0))]) (w' := (SH, dt2776)) (fun _ => rfl) ?_
            have r4938 := i32_R (xs ((l18_3 + 2).toNat))
            refine go_smp (L' := [some (.inr (.inr (some 3000))), some (.inr (.inr (some 0))), some (.inr (.inr (some 79))), some (.inl l18_3)]) (st' := [.inl ((xs ((l18_3 + 2).toNat)).toInt), .inl ((xs ((l18_3 + 1).toNat)).toInt), .inr (.inr (some 0))]) (w' := (SH, dt2776)) rfl rfl (s_iald (n := L) (f := fun j => (xs j).toInt) (am_scr hLL) ⟨by omega, by omega⟩) ?_
            refine go_to (k := 4) (pc' := 1325) (L' := [some (.inr (.inr (some 3000))), some (.inr (.inr (some 0))), some (.inr (.inr (some 79))), some (.inl l18_3)]) (st' := [.inl (l18_3 + 3), .inr (.inr (some 3000)), .inl ((xs ((l18_3 + 2).toNat)).toInt), .inl ((xs ((l18_3 + 1).toNat)).toInt), .inr (.inr (some 0))]) (w' := (SH, dt2776)) (fun _ => rfl) ?_
            have r4939 := i32_R (xs ((l18_3 + 3).toNat))
            refine go_smp (L' := [some (.inr (.inr (some 3000))), some (.inr (.inr (some 0))), some (.inr (.inr (some 79))), some (.inl l18_3)]) (st' := [.inl ((xs ((l18_3 + 3).toNat)).toInt), .inl ((xs ((l18_3 + 2).toNat)).toInt), .inl ((xs ((l18_3 + 1).toNat)).toInt), .inr (.inr (some 0))]) (w' := (SH, dt2776)) rfl rfl (s_iald (n := L) (f := fun j => (xs j).toInt) (am_scr hLL) ⟨by omega, by omega⟩) ?_
            refine go_to (k := 4) (pc' := 1330) (L' := [some (.inr (.inr (some 3000))), some (.inr (.inr (some 0))), some (.inr (.inr (some 79))), some (.inl l18_3)]) (st' := [.inl (l18_3 + 4), .inr (.inr (some 3000)), .inl ((xs ((l18_3 + 3).toNat)).toInt), .inl ((xs ((l18_3 + 2).toNat)).toInt), .inl ((xs ((l18_3 + 1).toNat)).toInt), .inr (.inr (some 0))]) (w' := (SH, dt2776)) (fun _ => rfl) ?_
            have r4940 := i32_R (xs ((l18_3 + 4).toNat))
            refine go_smp (L' := [some (.inr (.inr (some 3000))), some (.inr (.inr (some 0))), some (.inr (.inr (some 79))), some (.inl l18_3)]) (st' := [.inl ((xs ((l18_3 + 4).toNat)).toInt), .inl ((xs ((l18_3 + 3).toNat)).toInt), .inl ((xs ((l18_3 + 2).toNat)).toInt), .inl ((xs ((l18_3 + 1).toNat)).toInt), .inr (.inr (some 0))]) (w' := (SH, dt2776)) rfl rfl (s_iald (n := L) (f := fun j => (xs j).toInt) (am_scr hLL) ⟨by omega, by omega⟩) ?_
            refine go_to (k := 4) (pc' := 1335) (L' := [some (.inr (.inr (some 3000))), some (.inr (.inr (some 0))), some (.inr (.inr (some 79))), some (.inl l18_3)]) (st' := [.inl (l18_3 + 5), .inr (.inr (some 3000)), .inl ((xs ((l18_3 + 4).toNat)).toInt), .inl ((xs ((l18_3 + 3).toNat)).toInt), .inl ((xs ((l18_3 + 2).toNat)).toInt), .inl ((xs ((l18_3 + 1).toNat)).toInt), .inr (.inr (some 0))]) (w' := (SH, dt2776)) (fun _ => rfl) ?_
            have r4941 := i32_R (xs ((l18_3 + 5).toNat))
            refine go_smp (L' := [some (.inr (.inr (some 3000))), some (.inr (.inr (some 0))), some (.inr (.inr (some 79))), some (.inl l18_3)]) (st' := [.inl ((xs ((l18_3 + 5).toNat)).toInt), .inl ((xs ((l18_3 + 4).toNat)).toInt), .inl ((xs ((l18_3 + 3).toNat)).toInt), .inl ((xs ((l18_3 + 2).toNat)).toInt), .inl ((xs ((l18_3 + 1).toNat)).toInt), .inr (.inr (some 0))]) (w' := (SH, dt2776)) rfl rfl (s_iald (n := L) (f := fun j => (xs j).toInt) (am_scr hLL) ⟨by omega, by omega⟩) ?_
            refine go_call (Q' := _) rfl rfl rfl rfl rfl (sp_X5_next L xs sio (d + 32) dt2776 hI2777  ((xs ((l18_3 + 1).toNat)).toInt) ⟨by omega, by omega⟩ ((xs ((l18_3 + 2).toNat)).toInt) ⟨by omega, by omega⟩ ((xs ((l18_3 + 3).toNat)).toInt) ⟨by omega, by omega⟩ ((xs ((l18_3 + 4).toNat)).toInt) ⟨by omega, by omega⟩ ((xs ((l18_3 + 5).toNat)).toInt) ⟨by omega, by omega⟩ ) ?_
            rintro _ _ ⟨dt4943, rfl, hI4944, hF4945, h4942⟩
            refine ⟨rfl, ?_⟩
            have hF4946 : Fr [0, 1, 2, 3, 4, 5, 6, 7, 8, 9, 10, 11, 12, 13, 14, 15, 16, 17, 18, 19, 20, 21, 22, 23, 24, 25, 26, 27, 28, 29, 30, 31, 32, 33, 34, 35, 36, 37, 38, 39, 40, 41, 42, 43, 44, 45, 46, 47, 48, 49, 50, 51, 52, 53, 54, 55, 56, 57, 58, 59, 60, 61, 62, 63, 64, 65, 66, 67, 68, 69, 70, 71, 72, 73, 74, 75, 76, 77, 78, 79, 80, 81, 82, 83, 84, 85, 86, 87, 88, 89, 90, 91, 92, 93, 94, 95, 96, 97, 98, 99, 100, 101, 102, 103, 104] dt dt4943 := Fr_tr hF2778 hF4945 (by decide)
            have hM4947 : MW (dt4943 80) := MW_fr hM_dt2776 hF4945 (by decide)
            have w4948 : dt4943 1 0 = dt2776 1 0 := hF4945 1 (by decide) 0
            have w4949 : dt4943 7 3 = dt2776 7 3 := hF4945 7 (by decide) 3
            have w4950 : dt4943 10 3 = dt2776 10 3 := hF4945 10 (by decide) 3
            have w4951 : dt4943 12 3 = dt2776 12 3 := hF4945 12 (by decide) 3
            have w4952 : dt4943 14 3 = dt2776 14 3 := hF4945 14 (by decide) 3
            have w4953 : dt4943 16 3 = dt2776 16 3 := hF4945 16 (by decide) 3
            have w4954 : dt4943 18 0 = dt2776 18 0 := hF4945 18 (by decide) 0
            have w4955 : dt4943 24 3 = dt2776 24 3 := hF4945 24 (by decide) 3
            have w4956 : dt4943 27 3 = dt2776 27 3 := hF4945 27 (by decide) 3
            have w4957 : dt4943 29 3 = dt2776 29 3 := hF4945 29 (by decide) 3
            have w4958 : dt4943 31 3 = dt2776 31 3 := hF4945 31 (by decide) 3
            have w4959 : dt4943 33 3 = dt2776 33 3 := hF4945 33 (by decide) 3
            have w4960 : dt4943 0 2 = dt2776 0 2 := hF4945 0 (by decide) 2
            have w4961 : dt4943 35 1 = dt2776 35 1 := hF4945 35 (by decide) 1
            have w4962 : dt4943 80 0 = dt2776 80 0 := hF4945 80 (by decide) 0
            have w4963 : dt4943 80 1 = dt2776 80 1 := hF4945 80 (by decide) 1
            have w4964 : dt4943 80 2 = dt2776 80 2 := hF4945 80 (by decide) 2
            have w4965 : dt4943 80 3 = dt2776 80 3 := hF4945 80 (by decide) 3
            have w4966 : dt4943 80 4 = dt2776 80 4 := hF4945 80 (by decide) 4
            have w4967 : dt4943 80 5 = dt2776 80 5 := hF4945 80 (by decide) 5
            have w4968 : dt4943 81 0 = dt2776 81 0 := hF4945 81 (by decide) 0
            have w4969 : dt4943 81 1 = dt2776 81 1 := hF4945 81 (by decide) 1
            have w4970 : dt4943 81 2 = dt2776 81 2 := hF4945 81 (by decide) 2
            have w4971 : dt4943 81 3 = dt2776 81 3 := hF4945 81 (by decide) 3
            have w4972 : dt4943 81 4 = dt2776 81 4 := hF4945 81 (by decide) 4
            have w4973 : dt4943 81 5 = dt2776 81 5 := hF4945 81 (by decide) 5
            have w4974 : dt4943 79 2 = dt2776 79 2 := hF4945 79 (by decide) 2
            have w4975 : dt4943 79 12 = dt2776 79 12 := hF4945 79 (by decide) 12
            rcases h4942 with ⟨v_h4942, rfl, h4942r, h4942⟩
            have M24976 : MW (dt4943 81) := MW_frk hM2L hF4945 (by decide)
            refine go_to (k := 6) (pc' := 1345) (L' := [some (.inr (.inr (some 3000))), some (.inr (.inr (some 0))), some (.inr (.inr (some 79))), some (.inl l18_3)]) (st' := [.inl (l18_3 + 1), .inr (.inr (some 3000)), .inr (.inr (some 79))]) (w' := (SH, dt4943)) (fun _ => rfl) ?_
            have r4977 := i32_R (xs ((l18_3 + 1).toNat))
            refine go_smp (L' := [some (.inr (.inr (some 3000))), some (.inr (.inr (some 0))), some (.inr (.inr (some 79))), some (.inl l18_3)]) (st' := [.inl ((xs ((l18_3 + 1).toNat)).toInt), .inr (.inr (some 79))]) (w' := (SH, dt4943)) rfl rfl (s_iald (n := L) (f := fun j => (xs j).toInt) (am_scr hLL) ⟨by omega, by omega⟩) ?_
            refine go_to (k := 4) (pc' := 1350) (L' := [some (.inr (.inr (some 3000))), some (.inr (.inr (some 0))), some (.inr (.inr (some 79))), some (.inl l18_3)]) (st' := [.inl (l18_3 + 2), .inr (.inr (some 3000)), .inl ((xs ((l18_3 + 1).toNat)).toInt), .inr (.inr (some 79))]) (w' := (SH, dt4943)) (fun _ => rfl) ?_
            have r4978 := i32_R (xs ((l18_3 + 2).toNat))
            refine go_smp (L' := [some (.inr (.inr (some 3000))), some (.inr (.inr (some 0))), some (.inr (.inr (some 79))), some (.inl l18_3)]) (st' := [.inl ((xs ((l18_3 + 2).toNat)).toInt), .inl ((xs ((l18_3 + 1).toNat)).toInt), .inr (.inr (some 79))]) (w' := (SH, dt4943)) rfl rfl (s_iald (n := L) (f := fun j => (xs j).toInt) (am_scr hLL) ⟨by omega, by omega⟩) ?_
            refine go_to (k := 4) (pc' := 1355) (L' := [some (.inr (.inr (some 3000))), some (.inr (.inr (some 0))), some (.inr (.inr (some 79))), some (.inl l18_3)]) (st' := [.inl (l18_3 + 3), .inr (.inr (some 3000)), .inl ((xs ((l18_3 + 2).toNat)).toInt), .inl ((xs ((l18_3 + 1).toNat)).toInt), .inr (.inr (some 79))]) (w' := (SH, dt4943)) (fun _ => rfl) ?_
            have r4979 := i32_R (xs ((l18_3 + 3).toNat))
            refine go_smp (L' := [some (.inr (.inr (some 3000))), some (.inr (.inr (some 0))), some (.inr (.inr (some 79))), some (.inl l18_3)]) (st' := [.inl ((xs ((l18_3 + 3).toNat)).toInt), .inl ((xs ((l18_3 + 2).toNat)).toInt), .inl ((xs ((l18_3 + 1).toNat)).toInt), .inr (.inr (some 79))]) (w' := (SH, dt4943)) rfl rfl (s_iald (n := L) (f := fun j => (xs j).toInt) (am_scr hLL) ⟨by omega, by omega⟩) ?_
            refine go_to (k := 4) (pc' := 1360) (L' := [some (.inr (.inr (some 3000))), some (.inr (.inr (some 0))), some (.inr (.inr (some 79))), some (.inl l18_3)]) (st' := [.inl (l18_3 + 4), .inr (.inr (some 3000)), .inl ((xs ((l18_3 + 3).toNat)).toInt), .inl ((xs ((l18_3 + 2).toNat)).toInt), .inl ((xs ((l18_3 + 1).toNat)).toInt), .inr (.inr (some 79))]) (w' := (SH, dt4943)) (fun _ => rfl) ?_
            have r4980 := i32_R (xs ((l18_3 + 4).toNat))
            refine go_smp (L' := [some (.inr (.inr (some 3000))), some (.inr (.inr (some 0))), some (.inr (.inr (some 79))), some (.inl l18_3)]) (st' := [.inl ((xs ((l18_3 + 4).toNat)).toInt), .inl ((xs ((l18_3 + 3).toNat)).toInt), .inl ((xs ((l18_3 + 2).toNat)).toInt), .inl ((xs ((l18_3 + 1).toNat)).toInt), .inr (.inr (some 79))]) (w' := (SH, dt4943)) rfl rfl (s_iald (n := L) (f := fun j => (xs j).toInt) (am_scr hLL) ⟨by omega, by omega⟩) ?_
            refine go_to (k := 4) (pc' := 1365) (L' := [some (.inr (.inr (some 3000))), some (.inr (.inr (some 0))), some (.inr (.inr (some 79))), some (.inl l18_3)]) (st' := [.inl (l18_3 + 5), .inr (.inr (some 3000)), .inl ((xs ((l18_3 + 4).toNat)).toInt), .inl ((xs ((l18_3 + 3).toNat)).toInt), .inl ((xs ((l18_3 + 2).toNat)).toInt), .inl ((xs ((l18_3 + 1).toNat)).toInt), .inr (.inr (some 79))]) (w' := (SH, dt4943)) (fun _ => rfl) ?_
            have r4981 := i32_R (xs ((l18_3 + 5).toNat))
            refine go_smp (L' := [some (.inr (.inr (some 3000))), some (.inr (.inr (some 0))), some (.inr (.inr (some 79))), some (.inl l18_3)]) (st' := [.inl ((xs ((l18_3 + 5).toNat)).toInt), .inl ((xs ((l18_3 + 4).toNat)).toInt), .inl ((xs ((l18_3 + 3).toNat)).toInt), .inl ((xs ((l18_3 + 2).toNat)).toInt), .inl ((xs ((l18_3 + 1).toNat)).toInt), .inr (.inr (some 79))]) (w' := (SH, dt4943)) rfl rfl (s_iald (n := L) (f := fun j => (xs j).toInt) (am_scr hLL) ⟨by omega, by omega⟩) ?_
            refine go_call (Q' := _) rfl rfl rfl rfl rfl (sp_X6_next L xs sio (d + 31) dt4943 hI4944 hM4947  ((xs ((l18_3 + 1).toNat)).toInt) ⟨by omega, by omega⟩ ((xs ((l18_3 + 2).toNat)).toInt) ⟨by omega, by omega⟩ ((xs ((l18_3 + 3).toNat)).toInt) ⟨by omega, by omega⟩ ((xs ((l18_3 + 4).toNat)).toInt) ⟨by omega, by omega⟩ ((xs ((l18_3 + 5).toNat)).toInt) ⟨by omega, by omega⟩ ) ?_
            rintro _ _ ⟨dt4983, rfl, hI4984, hF4985, h4982⟩
            refine ⟨rfl, ?_⟩
            have hF4986 : Fr [0, 1, 2, 3, 4, 5, 6, 7, 8, 9, 10, 11, 12, 13, 14, 15, 16, 17, 18, 19, 20, 21, 22, 23, 24, 25, 26, 27, 28, 29, 30, 31, 32, 33, 34, 35, 36, 37, 38, 39, 40, 41, 42, 43, 44, 45, 46, 47, 48, 49, 50, 51, 52, 53, 54, 55, 56, 57, 58, 59, 60, 61, 62, 63, 64, 65, 66, 67, 68, 69, 70, 71, 72, 73, 74, 75, 76, 77, 78, 79, 80, 81, 82, 83, 84, 85, 86, 87, 88, 89, 90, 91, 92, 93, 94, 95, 96, 97, 98, 99, 100, 101, 102, 103, 104] dt dt4983 := Fr_tr hF4946 hF4985 (by decide)
            have hM4987 : MW (dt4983 80) := MW_fr hM4947 hF4985 (by decide)
            have w4988 : dt4983 1 0 = dt4943 1 0 := hF4985 1 (by decide) 0
            have w4989 : dt4983 7 3 = dt4943 7 3 := hF4985 7 (by decide) 3
            have w4990 : dt4983 10 3 = dt4943 10 3 := hF4985 10 (by decide) 3
            have w4991 : dt4983 12 3 = dt4943 12 3 := hF4985 12 (by decide) 3
            have w4992 : dt4983 14 3 = dt4943 14 3 := hF4985 14 (by decide) 3
            have w4993 : dt4983 16 3 = dt4943 16 3 := hF4985 16 (by decide) 3
            have w4994 : dt4983 18 0 = dt4943 18 0 := hF4985 18 (by decide) 0
            have w4995 : dt4983 24 3 = dt4943 24 3 := hF4985 24 (by decide) 3
            have w4996 : dt4983 27 3 = dt4943 27 3 := hF4985 27 (by decide) 3
            have w4997 : dt4983 29 3 = dt4943 29 3 := hF4985 29 (by decide) 3
            have w4998 : dt4983 31 3 = dt4943 31 3 := hF4985 31 (by decide) 3
            have w4999 : dt4983 33 3 = dt4943 33 3 := hF4985 33 (by decide) 3
            have w5000 : dt4983 0 2 = dt4943 0 2 := hF4985 0 (by decide) 2
            have w5001 : dt4983 35 1 = dt4943 35 1 := hF4985 35 (by decide) 1
            have w5002 : dt4983 80 0 = dt4943 80 0 := hF4985 80 (by decide) 0
            have w5003 : dt4983 80 1 = dt4943 80 1 := hF4985 80 (by decide) 1
            have w5004 : dt4983 80 2 = dt4943 80 2 := hF4985 80 (by decide) 2
            have w5005 : dt4983 80 3 = dt4943 80 3 := hF4985 80 (by decide) 3
            have w5006 : dt4983 80 4 = dt4943 80 4 := hF4985 80 (by decide) 4
            have w5007 : dt4983 80 5 = dt4943 80 5 := hF4985 80 (by decide) 5
            have w5008 : dt4983 81 0 = dt4943 81 0 := hF4985 81 (by decide) 0
            have w5009 : dt4983 81 1 = dt4943 81 1 := hF4985 81 (by decide) 1
            have w5010 : dt4983 81 2 = dt4943 81 2 := hF4985 81 (by decide) 2
            have w5011 : dt4983 81 3 = dt4943 81 3 := hF4985 81 (by decide) 3
            have w5012 : dt4983 81 4 = dt4943 81 4 := hF4985 81 (by decide) 4
            have w5013 : dt4983 81 5 = dt4943 81 5 := hF4985 81 (by decide) 5
            have w5014 : dt4983 79 2 = dt4943 79 2 := hF4985 79 (by decide) 2
            have w5015 : dt4983 79 12 = dt4943 79 12 := hF4985 79 (by decide) 12
            rcases h4982 with ⟨v_h4982, rfl, h4982r, h4982⟩
            have M25016 : MW (dt4983 81) := MW_frk M24976 hF4985 (by decide)
            refine go_to (k := 4) (pc' := 18) (L' := [some (.inr (.inr (some 3000))), some (.inr (.inr (some 0))), some (.inr (.inr (some 79))), some (.inl (l18_3 + 6))]) (st' := []) (w' := (SH, dt4983)) (fun _ => rfl) ?_
            exact GO.le (ih_loop2795 (l18_3 + 6) dt4983 hI4984 hF4986 hM4987 (by omega) (by exact M25016) (by omega) (by omega) (by omega) (by omega) (by omega) (by omega) (by omega) (by omega) (by omega) (by omega) (by omega) (by omega) (by omega) (by omega) (by omega)) ⟨.inl rfl, .inl rfl, .inl rfl, .inl rfl, trivial⟩
          · refine go_swi (v := 31) (p1 := 1373) (lo := 0) (hi := 32) rfl c2802 (by decide) rfl ?_
            refine go_to (k := 5) (pc' := 1378) (L' := [some (.inr (.inr (some 3000))), some (.inr (.inr (some 0))), some (.inr (.inr (some 79))), some (.inl l18_3)]) (st' := [.inl (l18_3 + 1), .inr (.inr (some 3000)), .inr (.inr (some 0))]) (w' := (SH, dt2776)) (fun _ => rfl) ?_
            have r5017 := i32_R (xs ((l18_3 + 1).toNat))
            refine go_smp (L' := [some (.inr (.inr (some 3000))), some (.inr (.inr (some 0))), some (.inr (.inr (some 79))), some (.inl l18_3)]) (st' := [.inl ((xs ((l18_3 + 1).toNat)).toInt), .inr (.inr (some 0))]) (w' := (SH, dt2776)) rfl rfl (s_iald (n := L) (f := fun j => (xs j).toInt) (am_scr hLL) ⟨by omega, by omega⟩) ?_
            refine go_if (k := 1) (p1 := 1386) (p2 := 1382) (L' := [some (.inr (.inr (some 3000))), some (.inr (.inr (some 0))), some (.inr (.inr (some 79))), some (.inl l18_3)]) (st' := [.inr (.inr (some 0))]) (w' := (SH, dt2776)) (fun _ => rfl) (z_eq (a := (xs ((l18_3 + 1).toNat)).toInt) ⟨by omega, by omega⟩) (fun c5018 => ?_) (fun c5018 => ?_)
            · skip
              refine go_to (k := 1) (pc' := 1387) (L' := [some (.inr (.inr (some 3000))), some (.inr (.inr (some 0))), some (.inr (.inr (some 79))), some (.inl l18_3)]) (st' := [.inl 0, .inr (.inr (some 0))]) (w' := (SH, dt2776)) (fun _ => rfl) ?_
              refine go_call (Q' := _) rfl rfl rfl rfl rfl (sp_X5_image L xs sio (d + 35) dt2776 hI2777  0 ⟨by omega, by omega⟩ ) ?_
              rintro _ _ ⟨dt5020, rfl, hI5021, hF5022, h5019⟩
              refine ⟨rfl, ?_⟩
              have hF5023 : Fr [0, 1, 2, 3, 4, 5, 6, 7, 8, 9, 10, 11, 12, 13, 14, 15, 16, 17, 18, 19, 20, 21, 22, 23, 24, 25, 26, 27, 28, 29, 30, 31, 32, 33, 34, 35, 36, 37, 38, 39, 40, 41, 42, 43, 44, 45, 46, 47, 48, 49, 50, 51, 52, 53, 54, 55, 56, 57, 58, 59, 60, 61, 62, 63, 64, 65, 66, 67, 68, 69, 70, 71, 72, 73, 74, 75, 76, 77, 78, 79, 80, 81, 82, 83, 84, 85, 86, 87, 88, 89, 90, 91, 92, 93, 94, 95, 96, 97, 98, 99, 100, 101, 102, 103, 104] dt dt5020 := Fr_tr hF2778 hF5022 (by decide)
              have hM5024 : MW (dt5020 80) := MW_fr hM_dt2776 hF5022 (by decide)
              have w5025 : dt5020 35 1 = dt2776 35 1 := hF5022 35 (by decide) 1
              have w5026 : dt5020 80 0 = dt2776 80 0 := hF5022 80 (by decide) 0
              have w5027 : dt5020 80 1 = dt2776 80 1 := hF5022 80 (by decide) 1
              have w5028 : dt5020 80 2 = dt2776 80 2 := hF5022 80 (by decide) 2
              have w5029 : dt5020 80 3 = dt2776 80 3 := hF5022 80 (by decide) 3
              have w5030 : dt5020 80 4 = dt2776 80 4 := hF5022 80 (by decide) 4
              have w5031 : dt5020 80 5 = dt2776 80 5 := hF5022 80 (by decide) 5
              have w5032 : dt5020 81 0 = dt2776 81 0 := hF5022 81 (by decide) 0
              have w5033 : dt5020 81 1 = dt2776 81 1 := hF5022 81 (by decide) 1
              have w5034 : dt5020 81 2 = dt2776 81 2 := hF5022 81 (by decide) 2
              have w5035 : dt5020 81 3 = dt2776 81 3 := hF5022 81 (by decide) 3
              have w5036 : dt5020 81 4 = dt2776 81 4 := hF5022 81 (by decide) 4
              have w5037 : dt5020 81 5 = dt2776 81 5 := hF5022 81 (by decide) 5
              have w5038 : dt5020 79 2 = dt2776 79 2 := hF5022 79 (by decide) 2
              have w5039 : dt5020 79 12 = dt2776 79 12 := hF5022 79 (by decide) 12
              rcases h5019 with ⟨v_h5019, rfl, h5019r, h5019⟩ | ⟨v_h5019, rfl, h5019r, h5019⟩ | ⟨v_h5019, rfl, h5019r, h5019⟩
              · skip
                obtain ⟨h5019_0, h5019_1, h5019_2, h5019_3, h5019_4, h5019_5, h5019_6, h5019_7, h5019_8, h5019_9, h5019_10, h5019_11, h5019_12, h5019_13, h5019_14⟩ := h5019
                have M25040 : MW (dt5020 81) := MW_frk hM2L hF5022 (by decide)
                refine go_to (k := 6) (pc' := 1396) (L' := [some (.inr (.inr (some 3000))), some (.inr (.inr (some 0))), some (.inr (.inr (some 79))), some (.inl l18_3)]) (st' := [.inl (l18_3 + 1), .inr (.inr (some 3000)), .inr (.inr (some 79))]) (w' := (SH, dt5020)) (fun _ => rfl) ?_
                have r5041 := i32_R (xs ((l18_3 + 1).toNat))
                refine go_smp (L' := [some (.inr (.inr (some 3000))), some (.inr (.inr (some 0))), some (.inr (.inr (some 79))), some (.inl l18_3)]) (st' := [.inl ((xs ((l18_3 + 1).toNat)).toInt), .inr (.inr (some 79))]) (w' := (SH, dt5020)) rfl rfl (s_iald (n := L) (f := fun j => (xs j).toInt) (am_scr hLL) ⟨by omega, by omega⟩) ?_
                refine go_if (k := 1) (p1 := 1404) (p2 := 1400) (L' := [some (.inr (.inr (some 3000))), some (.inr (.inr (some 0))), some (.inr (.inr (some 79))), some (.inl l18_3)]) (st' := [.inr (.inr (some 79))]) (w' := (SH, dt5020)) (fun _ => rfl) (z_eq (a := (xs ((l18_3 + 1).toNat)).toInt) ⟨by omega, by omega⟩) (fun c5042 => ?_) (fun c5042 => ?_)
                · skip
                  refine go_to (k := 1) (pc' := 1405) (L' := [some (.inr (.inr (some 3000))), some (.inr (.inr (some 0))), some (.inr (.inr (some 79))), some (.inl l18_3)]) (st' := [.inl 0, .inr (.inr (some 79))]) (w' := (SH, dt5020)) (fun _ => rfl) ?_
                  refine go_call (Q' := _) rfl rfl rfl rfl rfl (sp_X6_image_0 L xs sio (d + 38) dt5020 hI5021 hM5024   (by first | trivial | omega | exact M25040)) ?_
                  rintro _ _ ⟨dt5044, rfl, hI5045, hF5046, h5043⟩
                  refine ⟨rfl, ?_⟩
                  have hF5047 : Fr [0, 1, 2, 3, 4, 5, 6, 7, 8, 9, 10, 11, 12, 13, 14, 15, 16, 17, 18, 19, 20, 21, 22, 23, 24, 25, 26, 27, 28, 29, 30, 31, 32, 33, 34, 35, 36, 37, 38, 39, 40, 41, 42, 43, 44, 45, 46, 47, 48, 49, 50, 51, 52, 53, 54, 55, 56, 57, 58, 59, 60, 61, 62, 63, 64, 65, 66, 67, 68, 69, 70, 71, 72, 73, 74, 75, 76, 77, 78, 79, 80, 81, 82, 83, 84, 85, 86, 87, 88, 89, 90, 91, 92, 93, 94, 95, 96, 97, 98, 99, 100, 101, 102, 103, 104] dt dt5044 := Fr_tr hF5023 hF5046 (by decide)
                  have w5048 : dt5044 1 0 = dt5020 1 0 := hF5046 1 (by decide) 0
                  have w5049 : dt5044 7 3 = dt5020 7 3 := hF5046 7 (by decide) 3
                  have w5050 : dt5044 10 3 = dt5020 10 3 := hF5046 10 (by decide) 3
                  have w5051 : dt5044 12 3 = dt5020 12 3 := hF5046 12 (by decide) 3
                  have w5052 : dt5044 14 3 = dt5020 14 3 := hF5046 14 (by decide) 3
                  have w5053 : dt5044 16 3 = dt5020 16 3 := hF5046 16 (by decide) 3
                  have w5054 : dt5044 18 0 = dt5020 18 0 := hF5046 18 (by decide) 0
                  have w5055 : dt5044 24 3 = dt5020 24 3 := hF5046 24 (by decide) 3
                  have w5056 : dt5044 27 3 = dt5020 27 3 := hF5046 27 (by decide) 3
                  have w5057 : dt5044 29 3 = dt5020 29 3 := hF5046 29 (by decide) 3
                  have w5058 : dt5044 31 3 = dt5020 31 3 := hF5046 31 (by decide) 3
                  have w5059 : dt5044 33 3 = dt5020 33 3 := hF5046 33 (by decide) 3
                  have w5060 : dt5044 0 2 = dt5020 0 2 := hF5046 0 (by decide) 2
                  have w5061 : dt5044 35 1 = dt5020 35 1 := hF5046 35 (by decide) 1
                  have w5062 : dt5044 81 0 = dt5020 81 0 := hF5046 81 (by decide) 0
                  have w5063 : dt5044 81 1 = dt5020 81 1 := hF5046 81 (by decide) 1
                  have w5064 : dt5044 81 2 = dt5020 81 2 := hF5046 81 (by decide) 2
                  have w5065 : dt5044 81 3 = dt5020 81 3 := hF5046 81 (by decide) 3
                  have w5066 : dt5044 81 4 = dt5020 81 4 := hF5046 81 (by decide) 4
                  have w5067 : dt5044 81 5 = dt5020 81 5 := hF5046 81 (by decide) 5
                  rcases h5043 with ⟨rfl, h5043⟩ | ⟨rfl, h5043⟩
                  · skip
                    have hM5068 : MW (dt5044 80) := h5043.2.2.1
                    obtain ⟨h5043_0, h5043_1, h5043_2, h5043_3, h5043_4, h5043_5, h5043_6⟩ := h5043
                    have M25069 : MW (dt5044 81) := MW_frk M25040 hF5046 (by decide)
                    refine go_to (k := 4) (pc' := 18) (L' := [some (.inr (.inr (some 3000))), some (.inr (.inr (some 0))), some (.inr (.inr (some 79))), some (.inl (l18_3 + 6))]) (st' := []) (w' := (SH, dt5044)) (fun _ => rfl) ?_
                    exact GO.le (ih_loop2795 (l18_3 + 6) dt5044 hI5045 hF5047 hM5068 (by omega) (by exact M25069) (by omega) (by omega) (by omega) (by omega) (by omega) (by omega) (by omega) (by omega) (by omega) (by omega) (by omega) (by omega) (by omega) (by omega) (by omega)) ⟨.inl rfl, .inl rfl, .inl rfl, .inl rfl, trivial⟩
                  · skip
                    have hM5070 : MW (dt5044 80) := h5043.2.2.1
                    obtain ⟨h5043_0, h5043_1, h5043_2, h5043_3, h5043_4, h5043_5, h5043_6⟩ := h5043
                    have M25071 : MW (dt5044 81) := MW_frk M25040 hF5046 (by decide)
                    refine go_to (k := 4) (pc' := 18) (L' := [some (.inr (.inr (some 3000))), some (.inr (.inr (some 0))), some (.inr (.inr (some 79))), some (.inl (l18_3 + 6))]) (st' := []) (w' := (SH, dt5044)) (fun _ => rfl) ?_
                    exact GO.le (ih_loop2795 (l18_3 + 6) dt5044 hI5045 hF5047 hM5070 (by omega) (by exact M25071) (by omega) (by omega) (by omega) (by omega) (by omega) (by omega) (by omega) (by omega) (by omega) (by omega) (by omega) (by omega) (by omega) (by omega) (by omega)) ⟨.inl rfl, .inl rfl, .inl rfl, .inl rfl, trivial⟩
                · skip
                  refine go_to (k := 2) (pc' := 1405) (L' := [some (.inr (.inr (some 3000))), some (.inr (.inr (some 0))), some (.inr (.inr (some 79))), some (.inl l18_3)]) (st' := [.inl 1, .inr (.inr (some 79))]) (w' := (SH, dt5020)) (fun _ => rfl) ?_
                  refine go_call (Q' := _) rfl rfl rfl rfl rfl (sp_X6_image_1 L xs sio (d + 38) dt5020 hI5021 hM5024   ) ?_
                  rintro _ _ ⟨dt5073, rfl, hI5074, hF5075, h5072⟩
                  refine ⟨rfl, ?_⟩
                  have hF5076 : Fr [0, 1, 2, 3, 4, 5, 6, 7, 8, 9, 10, 11, 12, 13, 14, 15, 16, 17, 18, 19, 20, 21, 22, 23, 24, 25, 26, 27, 28, 29, 30, 31, 32, 33, 34, 35, 36, 37, 38, 39, 40, 41, 42, 43, 44, 45, 46, 47, 48, 49, 50, 51, 52, 53, 54, 55, 56, 57, 58, 59, 60, 61, 62, 63, 64, 65, 66, 67, 68, 69, 70, 71, 72, 73, 74, 75, 76, 77, 78, 79, 80, 81, 82, 83, 84, 85, 86, 87, 88, 89, 90, 91, 92, 93, 94, 95, 96, 97, 98, 99, 100, 101, 102, 103, 104] dt dt5073 := Fr_tr hF5023 hF5075 (by decide)
                  have hM5077 : MW (dt5073 80) := MW_fr hM5024 hF5075 (by decide)
                  have w5078 : dt5073 1 0 = dt5020 1 0 := hF5075 1 (by decide) 0
                  have w5079 : dt5073 7 3 = dt5020 7 3 := hF5075 7 (by decide) 3
                  have w5080 : dt5073 10 3 = dt5020 10 3 := hF5075 10 (by decide) 3
                  have w5081 : dt5073 12 3 = dt5020 12 3 := hF5075 12 (by decide) 3
                  have w5082 : dt5073 14 3 = dt5020 14 3 := hF5075 14 (by decide) 3
                  have w5083 : dt5073 16 3 = dt5020 16 3 := hF5075 16 (by decide) 3
                  have w5084 : dt5073 18 0 = dt5020 18 0 := hF5075 18 (by decide) 0
                  have w5085 : dt5073 24 3 = dt5020 24 3 := hF5075 24 (by decide) 3
                  have w5086 : dt5073 27 3 = dt5020 27 3 := hF5075 27 (by decide) 3
                  have w5087 : dt5073 29 3 = dt5020 29 3 := hF5075 29 (by decide) 3
                  have w5088 : dt5073 31 3 = dt5020 31 3 := hF5075 31 (by decide) 3
                  have w5089 : dt5073 33 3 = dt5020 33 3 := hF5075 33 (by decide) 3
                  have w5090 : dt5073 0 2 = dt5020 0 2 := hF5075 0 (by decide) 2
                  have w5091 : dt5073 35 1 = dt5020 35 1 := hF5075 35 (by decide) 1
                  have w5092 : dt5073 80 0 = dt5020 80 0 := hF5075 80 (by decide) 0
                  have w5093 : dt5073 80 1 = dt5020 80 1 := hF5075 80 (by decide) 1
                  have w5094 : dt5073 80 2 = dt5020 80 2 := hF5075 80 (by decide) 2
                  have w5095 : dt5073 80 3 = dt5020 80 3 := hF5075 80 (by decide) 3
                  have w5096 : dt5073 80 4 = dt5020 80 4 := hF5075 80 (by decide) 4
                  have w5097 : dt5073 80 5 = dt5020 80 5 := hF5075 80 (by decide) 5
                  rcases h5072 with ⟨rfl, h5072⟩
                  have hM5098 : MW (dt5073 80) := h5072.2.1
                  obtain ⟨h5072_0, h5072_1, h5072_2, h5072_3, h5072_4, h5072_5⟩ := h5072
                  have y5099 := h5072_3 0 (by decide)
                  have y5100 := h5072_3 1 (by decide)
                  have y5101 := h5072_3 2 (by decide)
                  have y5102 := h5072_3 3 (by decide)
                  have y5103 := h5072_3 4 (by decide)
                  have y5104 := h5072_3 5 (by decide)
                  have y5105 := h5072_4 0 (by decide)
                  have y5106 := h5072_4 1 (by decide)
                  have y5107 := h5072_4 2 (by decide)
                  have y5108 := h5072_4 3 (by decide)
                  have y5109 := h5072_4 4 (by decide)
                  have y5110 := h5072_4 5 (by decide)
                  refine go_to (k := 4) (pc' := 18) (L' := [some (.inr (.inr (some 3000))), some (.inr (.inr (some 0))), some (.inr (.inr (some 79))), some (.inl (l18_3 + 6))]) (st' := []) (w' := (SH, dt5073)) (fun _ => rfl) ?_
                  exact GO.le (ih_loop2795 (l18_3 + 6) dt5073 hI5074 hF5076 hM5098 (by omega) (by exact h5072_2) (by omega) (by omega) (by omega) (by omega) (by omega) (by omega) (by omega) (by omega) (by omega) (by omega) (by omega) (by omega) (by omega) (by omega) (by omega)) ⟨.inl rfl, .inl rfl, .inl rfl, .inl rfl, trivial⟩
              · skip
                obtain ⟨h5019_0, h5019_1, h5019_2, h5019_3, h5019_4, h5019_5, h5019_6, h5019_7, h5019_8, h5019_9, h5019_10, h5019_11, h5019_12, h5019_13, h5019_14, h5019_15⟩ := h5019
                have M25111 : MW (dt5020 81) := MW_frk hM2L hF5022 (by decide)
                refine go_to (k := 6) (pc' := 1396) (L' := [some (.inr (.inr (some 3000))), some (.inr (.inr (some 0))), some (.inr (.inr (some 79))), some (.inl l18_3)]) (st' := [.inl (l18_3 + 1), .inr (.inr (some 3000)), .inr (.inr (some 79))]) (w' := (SH, dt5020)) (fun _ => rfl) ?_
                have r5112 := i32_R (xs ((l18_3 + 1).toNat))
                refine go_smp (L' := [some (.inr (.inr (some 3000))), some (.inr (.inr (some 0))), some (.inr (.inr (some 79))), some (.inl l18_3)]) (st' := [.inl ((xs ((l18_3 + 1).toNat)).toInt), .inr (.inr (some 79))]) (w' := (SH, dt5020)) rfl rfl (s_iald (n := L) (f := fun j => (xs j).toInt) (am_scr hLL) ⟨by omega, by omega⟩) ?_
                refine go_if (k := 1) (p1 := 1404) (p2 := 1400) (L' := [some (.inr (.inr (some 3000))), some (.inr (.inr (some 0))), some (.inr (.inr (some 79))), some (.inl l18_3)]) (st' := [.inr (.inr (some 79))]) (w' := (SH, dt5020)) (fun _ => rfl) (z_eq (a := (xs ((l18_3 + 1).toNat)).toInt) ⟨by omega, by omega⟩) (fun c5113 => ?_) (fun c5113 => ?_)
                · skip
                  refine go_to (k := 1) (pc' := 1405) (L' := [some (.inr (.inr (some 3000))), some (.inr (.inr (some 0))), some (.inr (.inr (some 79))), some (.inl l18_3)]) (st' := [.inl 0, .inr (.inr (some 79))]) (w' := (SH, dt5020)) (fun _ => rfl) ?_
                  refine go_call (Q' := _) rfl rfl rfl rfl rfl (sp_X6_image_0 L xs sio (d + 38) dt5020 hI5021 hM5024   (by first | trivial | omega | exact M25111)) ?_
                  rintro _ _ ⟨dt5115, rfl, hI5116, hF5117, h5114⟩
                  refine ⟨rfl, ?_⟩
                  have hF5118 : Fr [0, 1, 2, 3, 4, 5, 6, 7, 8, 9, 10, 11, 12, 13, 14, 15, 16, 17, 18, 19, 20, 21, 22, 23, 24, 25, 26, 27, 28, 29, 30, 31, 32, 33, 34, 35, 36, 37, 38, 39, 40, 41, 42, 43, 44, 45, 46, 47, 48, 49, 50, 51, 52, 53, 54, 55, 56, 57, 58, 59, 60, 61, 62, 63, 64, 65, 66, 67, 68, 69, 70, 71, 72, 73, 74, 75, 76, 77, 78, 79, 80, 81, 82, 83, 84, 85, 86, 87, 88, 89, 90, 91, 92, 93, 94, 95, 96, 97, 98, 99, 100, 101, 102, 103, 104] dt dt5115 := Fr_tr hF5023 hF5117 (by decide)
                  have w5119 : dt5115 1 0 = dt5020 1 0 := hF5117 1 (by decide) 0
                  have w5120 : dt5115 7 3 = dt5020 7 3 := hF5117 7 (by decide) 3
                  have w5121 : dt5115 10 3 = dt5020 10 3 := hF5117 10 (by decide) 3
                  have w5122 : dt5115 12 3 = dt5020 12 3 := hF5117 12 (by decide) 3
                  have w5123 : dt5115 14 3 = dt5020 14 3 := hF5117 14 (by decide) 3
                  have w5124 : dt5115 16 3 = dt5020 16 3 := hF5117 16 (by decide) 3
                  have w5125 : dt5115 18 0 = dt5020 18 0 := hF5117 18 (by decide) 0
                  have w5126 : dt5115 24 3 = dt5020 24 3 := hF5117 24 (by decide) 3
                  have w5127 : dt5115 27 3 = dt5020 27 3 := hF5117 27 (by decide) 3
                  have w5128 : dt5115 29 3 = dt5020 29 3 := hF5117 29 (by decide) 3
                  have w5129 : dt5115 31 3 = dt5020 31 3 := hF5117 31 (by decide) 3
                  have w5130 : dt5115 33 3 = dt5020 33 3 := hF5117 33 (by decide) 3
                  have w5131 : dt5115 0 2 = dt5020 0 2 := hF5117 0 (by decide) 2
                  have w5132 : dt5115 35 1 = dt5020 35 1 := hF5117 35 (by decide) 1
                  have w5133 : dt5115 81 0 = dt5020 81 0 := hF5117 81 (by decide) 0
                  have w5134 : dt5115 81 1 = dt5020 81 1 := hF5117 81 (by decide) 1
                  have w5135 : dt5115 81 2 = dt5020 81 2 := hF5117 81 (by decide) 2
                  have w5136 : dt5115 81 3 = dt5020 81 3 := hF5117 81 (by decide) 3
                  have w5137 : dt5115 81 4 = dt5020 81 4 := hF5117 81 (by decide) 4
                  have w5138 : dt5115 81 5 = dt5020 81 5 := hF5117 81 (by decide) 5
                  rcases h5114 with ⟨rfl, h5114⟩ | ⟨rfl, h5114⟩
                  · skip
                    have hM5139 : MW (dt5115 80) := h5114.2.2.1
                    obtain ⟨h5114_0, h5114_1, h5114_2, h5114_3, h5114_4, h5114_5, h5114_6⟩ := h5114
                    have M25140 : MW (dt5115 81) := MW_frk M25111 hF5117 (by decide)
                    refine go_to (k := 4) (pc' := 18) (L' := [some (.inr (.inr (some 3000))), some (.inr (.inr (some 0))), some (.inr (.inr (some 79))), some (.inl (l18_3 + 6))]) (st' := []) (w' := (SH, dt5115)) (fun _ => rfl) ?_
                    exact GO.le (ih_loop2795 (l18_3 + 6) dt5115 hI5116 hF5118 hM5139 (by omega) (by exact M25140) (by omega) (by omega) (by omega) (by omega) (by omega) (by omega) (by omega) (by omega) (by omega) (by omega) (by omega) (by omega) (by omega) (by omega) (by omega)) ⟨.inl rfl, .inl rfl, .inl rfl, .inl rfl, trivial⟩
                  · skip
                    have hM5141 : MW (dt5115 80) := h5114.2.2.1
                    obtain ⟨h5114_0, h5114_1, h5114_2, h5114_3, h5114_4, h5114_5, h5114_6⟩ := h5114
                    have M25142 : MW (dt5115 81) := MW_frk M25111 hF5117 (by decide)
                    refine go_to (k := 4) (pc' := 18) (L' := [some (.inr (.inr (some 3000))), some (.inr (.inr (some 0))), some (.inr (.inr (some 79))), some (.inl (l18_3 + 6))]) (st' := []) (w' := (SH, dt5115)) (fun _ => rfl) ?_
                    exact GO.le (ih_loop2795 (l18_3 + 6) dt5115 hI5116 hF5118 hM5141 (by omega) (by exact M25142) (by omega) (by omega) (by omega) (by omega) (by omega) (by omega) (by omega) (by omega) (by omega) (by omega) (by omega) (by omega) (by omega) (by omega) (by omega)) ⟨.inl rfl, .inl rfl, .inl rfl, .inl rfl, trivial⟩
                · skip
                  refine go_to (k := 2) (pc' := 1405) (L' := [some (.inr (.inr (some 3000))), some (.inr (.inr (some 0))), some (.inr (.inr (some 79))), some (.inl l18_3)]) (st' := [.inl 1, .inr (.inr (some 79))]) (w' := (SH, dt5020)) (fun _ => rfl) ?_
                  refine go_call (Q' := _) rfl rfl rfl rfl rfl (sp_X6_image_1 L xs sio (d + 38) dt5020 hI5021 hM5024   ) ?_
                  rintro _ _ ⟨dt5144, rfl, hI5145, hF5146, h5143⟩
                  refine ⟨rfl, ?_⟩
                  have hF5147 : Fr [0, 1, 2, 3, 4, 5, 6, 7, 8, 9, 10, 11, 12, 13, 14, 15, 16, 17, 18, 19, 20, 21, 22, 23, 24, 25, 26, 27, 28, 29, 30, 31, 32, 33, 34, 35, 36, 37, 38, 39, 40, 41, 42, 43, 44, 45, 46, 47, 48, 49, 50, 51, 52, 53, 54, 55, 56, 57, 58, 59, 60, 61, 62, 63, 64, 65, 66, 67, 68, 69, 70, 71, 72, 73, 74, 75, 76, 77, 78, 79, 80, 81, 82, 83, 84, 85, 86, 87, 88, 89, 90, 91, 92, 93, 94, 95, 96, 97, 98, 99, 100, 101, 102, 103, 104] dt dt5144 := Fr_tr hF5023 hF5146 (by decide)
                  have hM5148 : MW (dt5144 80) := MW_fr hM5024 hF5146 (by decide)
                  have w5149 : dt5144 1 0 = dt5020 1 0 := hF5146 1 (by decide) 0
                  have w5150 : dt5144 7 3 = dt5020 7 3 := hF5146 7 (by decide) 3
                  have w5151 : dt5144 10 3 = dt5020 10 3 := hF5146 10 (by decide) 3
                  have w5152 : dt5144 12 3 = dt5020 12 3 := hF5146 12 (by decide) 3
                  have w5153 : dt5144 14 3 = dt5020 14 3 := hF5146 14 (by decide) 3
                  have w5154 : dt5144 16 3 = dt5020 16 3 := hF5146 16 (by decide) 3
                  have w5155 : dt5144 18 0 = dt5020 18 0 := hF5146 18 (by decide) 0
                  have w5156 : dt5144 24 3 = dt5020 24 3 := hF5146 24 (by decide) 3
                  have w5157 : dt5144 27 3 = dt5020 27 3 := hF5146 27 (by decide) 3
                  have w5158 : dt5144 29 3 = dt5020 29 3 := hF5146 29 (by decide) 3
                  have w5159 : dt5144 31 3 = dt5020 31 3 := hF5146 31 (by decide) 3
                  have w5160 : dt5144 33 3 = dt5020 33 3 := hF5146 33 (by decide) 3
                  have w5161 : dt5144 0 2 = dt5020 0 2 := hF5146 0 (by decide) 2
                  have w5162 : dt5144 35 1 = dt5020 35 1 := hF5146 35 (by decide) 1
                  have w5163 : dt5144 80 0 = dt5020 80 0 := hF5146 80 (by decide) 0
                  have w5164 : dt5144 80 1 = dt5020 80 1 := hF5146 80 (by decide) 1
                  have w5165 : dt5144 80 2 = dt5020 80 2 := hF5146 80 (by decide) 2
                  have w5166 : dt5144 80 3 = dt5020 80 3 := hF5146 80 (by decide) 3
                  have w5167 : dt5144 80 4 = dt5020 80 4 := hF5146 80 (by decide) 4
                  have w5168 : dt5144 80 5 = dt5020 80 5 := hF5146 80 (by decide) 5
                  rcases h5143 with ⟨rfl, h5143⟩
                  have hM5169 : MW (dt5144 80) := h5143.2.1
                  obtain ⟨h5143_0, h5143_1, h5143_2, h5143_3, h5143_4, h5143_5⟩ := h5143
                  have y5170 := h5143_3 0 (by decide)
                  have y5171 := h5143_3 1 (by decide)
                  have y5172 := h5143_3 2 (by decide)
                  have y5173 := h5143_3 3 (by decide)
                  have y5174 := h5143_3 4 (by decide)
                  have y5175 := h5143_3 5 (by decide)
                  have y5176 := h5143_4 0 (by decide)
                  have y5177 := h5143_4 1 (by decide)
                  have y5178 := h5143_4 2 (by decide)
                  have y5179 := h5143_4 3 (by decide)
                  have y5180 := h5143_4 4 (by decide)
                  have y5181 := h5143_4 5 (by decide)
                  refine go_to (k := 4) (pc' := 18) (L' := [some (.inr (.inr (some 3000))), some (.inr (.inr (some 0))), some (.inr (.inr (some 79))), some (.inl (l18_3 + 6))]) (st' := []) (w' := (SH, dt5144)) (fun _ => rfl) ?_
                  exact GO.le (ih_loop2795 (l18_3 + 6) dt5144 hI5145 hF5147 hM5169 (by omega) (by exact h5143_2) (by omega) (by omega) (by omega) (by omega) (by omega) (by omega) (by omega) (by omega) (by omega) (by omega) (by omega) (by omega) (by omega) (by omega) (by omega)) ⟨.inl rfl, .inl rfl, .inl rfl, .inl rfl, trivial⟩
              · skip
                obtain ⟨h5019_0, h5019_1, h5019_2, h5019_3, h5019_4, h5019_5, h5019_6, h5019_7, h5019_8, h5019_9, h5019_10, h5019_11, h5019_12, h5019_13, h5019_14, h5019_15⟩ := h5019
                have M25182 : MW (dt5020 81) := MW_frk hM2L hF5022 (by decide)
                refine go_to (k := 6) (pc' := 1396) (L' := [some (.inr (.inr (some 3000))), some (.inr (.inr (some 0))), some (.inr (.inr (some 79))), some (.inl l18_3)]) (st' := [.inl (l18_3 + 1), .inr (.inr (some 3000)), .inr (.inr (some 79))]) (w' := (SH, dt5020)) (fun _ => rfl) ?_
                have r5183 := i32_R (xs ((l18_3 + 1).toNat))
                refine go_smp (L' := [some (.inr (.inr (some 3000))), some (.inr (.inr (some 0))), some (.inr (.inr (some 79))), some (.inl l18_3)]) (st' := [.inl ((xs ((l18_3 + 1).toNat)).toInt), .inr (.inr (some 79))]) (w' := (SH, dt5020)) rfl rfl (s_iald (n := L) (f := fun j => (xs j).toInt) (am_scr hLL) ⟨by omega, by omega⟩) ?_
                refine go_if (k := 1) (p1 := 1404) (p2 := 1400) (L' := [some (.inr (.inr (some 3000))), some (.inr (.inr (some 0))), some (.inr (.inr (some 79))), some (.inl l18_3)]) (st' := [.inr (.inr (some 79))]) (w' := (SH, dt5020)) (fun _ => rfl) (z_eq (a := (xs ((l18_3 + 1).toNat)).toInt) ⟨by omega, by omega⟩) (fun c5184 => ?_) (fun c5184 => ?_)
                · skip
                  refine go_to (k := 1) (pc' := 1405) (L' := [some (.inr (.inr (some 3000))), some (.inr (.inr (some 0))), some (.inr (.inr (some 79))), some (.inl l18_3)]) (st' := [.inl 0, .inr (.inr (some 79))]) (w' := (SH, dt5020)) (fun _ => rfl) ?_
                  refine go_call (Q' := _) rfl rfl rfl rfl rfl (sp_X6_image_0 L xs sio (d + 38) dt5020 hI5021 hM5024   (by first | trivial | omega | exact M25182)) ?_
                  rintro _ _ ⟨dt5186, rfl, hI5187, hF5188, h5185⟩
                  refine ⟨rfl, ?_⟩
                  have hF5189 : Fr [0, 1, 2, 3, 4, 5, 6, 7, 8, 9, 10, 11, 12, 13, 14, 15, 16, 17, 18, 19, 20, 21, 22, 23, 24, 25, 26, 27, 28, 29, 30, 31, 32, 33, 34, 35, 36, 37, 38, 39, 40, 41, 42, 43, 44, 45, 46, 47, 48, 49, 50, 51, 52, 53, 54, 55, 56, 57, 58, 59, 60, 61, 62, 63, 64, 65, 66, 67, 68, 69, 70, 71, 72, 73, 74, 75, 76, 77, 78, 79, 80, 81, 82, 83, 84, 85, 86, 87, 88, 89, 90, 91, 92, 93, 94, 95, 96, 97, 98, 99, 100, 101, 102, 103, 104] dt dt5186 := Fr_tr hF5023 hF5188 (by decide)
                  have w5190 : dt5186 1 0 = dt5020 1 0 := hF5188 1 (by decide) 0
                  have w5191 : dt5186 7 3 = dt5020 7 3 := hF5188 7 (by decide) 3
                  have w5192 : dt5186 10 3 = dt5020 10 3 := hF5188 10 (by decide) 3
                  have w5193 : dt5186 12 3 = dt5020 12 3 := hF5188 12 (by decide) 3
                  have w5194 : dt5186 14 3 = dt5020 14 3 := hF5188 14 (by decide) 3
                  have w5195 : dt5186 16 3 = dt5020 16 3 := hF5188 16 (by decide) 3
                  have w5196 : dt5186 18 0 = dt5020 18 0 := hF5188 18 (by decide) 0
                  have w5197 : dt5186 24 3 = dt5020 24 3 := hF5188 24 (by decide) 3
                  have w5198 : dt5186 27 3 = dt5020 27 3 := hF5188 27 (by decide) 3
                  have w5199 : dt5186 29 3 = dt5020 29 3 := hF5188 29 (by decide) 3
                  have w5200 : dt5186 31 3 = dt5020 31 3 := hF5188 31 (by decide) 3
                  have w5201 : dt5186 33 3 = dt5020 33 3 := hF5188 33 (by decide) 3
                  have w5202 : dt5186 0 2 = dt5020 0 2 := hF5188 0 (by decide) 2
                  have w5203 : dt5186 35 1 = dt5020 35 1 := hF5188 35 (by decide) 1
                  have w5204 : dt5186 81 0 = dt5020 81 0 := hF5188 81 (by decide) 0
                  have w5205 : dt5186 81 1 = dt5020 81 1 := hF5188 81 (by decide) 1
                  have w5206 : dt5186 81 2 = dt5020 81 2 := hF5188 81 (by decide) 2
                  have w5207 : dt5186 81 3 = dt5020 81 3 := hF5188 81 (by decide) 3
                  have w5208 : dt5186 81 4 = dt5020 81 4 := hF5188 81 (by decide) 4
                  have w5209 : dt5186 81 5 = dt5020 81 5 := hF5188 81 (by decide) 5
                  rcases h5185 with ⟨rfl, h5185⟩ | ⟨rfl, h5185⟩
                  · skip
                    have hM5210 : MW (dt5186 80) := h5185.2.2.1
                    obtain ⟨h5185_0, h5185_1, h5185_2, h5185_3, h5185_4, h5185_5, h5185_6⟩ := h5185
                    have M25211 : MW (dt5186 81) := MW_frk M25182 hF5188 (by decide)
                    refine go_to (k := 4) (pc' := 18) (L' := [some (.inr (.inr (some 3000))), some (.inr (.inr (some 0))), some (.inr (.inr (some 79))), some (.inl (l18_3 + 6))]) (st' := []) (w' := (SH, dt5186)) (fun _ => rfl) ?_
                    exact GO.le (ih_loop2795 (l18_3 + 6) dt5186 hI5187 hF5189 hM5210 (by omega) (by exact M25211) (by omega) (by omega) (by omega) (by omega) (by omega) (by omega) (by omega) (by omega) (by omega) (by omega) (by omega) (by omega) (by omega) (by omega) (by omega)) ⟨.inl rfl, .inl rfl, .inl rfl, .inl rfl, trivial⟩
                  · skip
                    have hM5212 : MW (dt5186 80) := h5185.2.2.1
                    obtain ⟨h5185_0, h5185_1, h5185_2, h5185_3, h5185_4, h5185_5, h5185_6⟩ := h5185
                    have M25213 : MW (dt5186 81) := MW_frk M25182 hF5188 (by decide)
                    refine go_to (k := 4) (pc' := 18) (L' := [some (.inr (.inr (some 3000))), some (.inr (.inr (some 0))), some (.inr (.inr (some 79))), some (.inl (l18_3 + 6))]) (st' := []) (w' := (SH, dt5186)) (fun _ => rfl) ?_
                    exact GO.le (ih_loop2795 (l18_3 + 6) dt5186 hI5187 hF5189 hM5212 (by omega) (by exact M25213) (by omega) (by omega) (by omega) (by omega) (by omega) (by omega) (by omega) (by omega) (by omega) (by omega) (by omega) (by omega) (by omega) (by omega) (by omega)) ⟨.inl rfl, .inl rfl, .inl rfl, .inl rfl, trivial⟩
                · skip
                  refine go_to (k := 2) (pc' := 1405) (L' := [some (.inr (.inr (some 3000))), some (.inr (.inr (some 0))), some (.inr (.inr (some 79))), some (.inl l18_3)]) (st' := [.inl 1, .inr (.inr (some 79))]) (w' := (SH, dt5020)) (fun _ => rfl) ?_
                  refine go_call (Q' := _) rfl rfl rfl rfl rfl (sp_X6_image_1 L xs sio (d + 38) dt5020 hI5021 hM5024   ) ?_
                  rintro _ _ ⟨dt5215, rfl, hI5216, hF5217, h5214⟩
                  refine ⟨rfl, ?_⟩
                  have hF5218 : Fr [0, 1, 2, 3, 4, 5, 6, 7, 8, 9, 10, 11, 12, 13, 14, 15, 16, 17, 18, 19, 20, 21, 22, 23, 24, 25, 26, 27, 28, 29, 30, 31, 32, 33, 34, 35, 36, 37, 38, 39, 40, 41, 42, 43, 44, 45, 46, 47, 48, 49, 50, 51, 52, 53, 54, 55, 56, 57, 58, 59, 60, 61, 62, 63, 64, 65, 66, 67, 68, 69, 70, 71, 72, 73, 74, 75, 76, 77, 78, 79, 80, 81, 82, 83, 84, 85, 86, 87, 88, 89, 90, 91, 92, 93, 94, 95, 96, 97, 98, 99, 100, 101, 102, 103, 104] dt dt5215 := Fr_tr hF5023 hF5217 (by decide)
                  have hM5219 : MW (dt5215 80) := MW_fr hM5024 hF5217 (by decide)
                  have w5220 : dt5215 1 0 = dt5020 1 0 := hF5217 1 (by decide) 0
                  have w5221 : dt5215 7 3 = dt5020 7 3 := hF5217 7 (by decide) 3
                  have w5222 : dt5215 10 3 = dt5020 10 3 := hF5217 10 (by decide) 3
                  have w5223 : dt5215 12 3 = dt5020 12 3 := hF5217 12 (by decide) 3
                  have w5224 : dt5215 14 3 = dt5020 14 3 := hF5217 14 (by decide) 3
                  have w5225 : dt5215 16 3 = dt5020 16 3 := hF5217 16 (by decide) 3
                  have w5226 : dt5215 18 0 = dt5020 18 0 := hF5217 18 (by decide) 0
                  have w5227 : dt5215 24 3 = dt5020 24 3 := hF5217 24 (by decide) 3
                  have w5228 : dt5215 27 3 = dt5020 27 3 := hF5217 27 (by decide) 3
                  have w5229 : dt5215 29 3 = dt5020 29 3 := hF5217 29 (by decide) 3
                  have w5230 : dt5215 31 3 = dt5020 31 3 := hF5217 31 (by decide) 3
                  have w5231 : dt5215 33 3 = dt5020 33 3 := hF5217 33 (by decide) 3
                  have w5232 : dt5215 0 2 = dt5020 0 2 := hF5217 0 (by decide) 2
                  have w5233 : dt5215 35 1 = dt5020 35 1 := hF5217 35 (by decide) 1
                  have w5234 : dt5215 80 0 = dt5020 80 0 := hF5217 80 (by decide) 0
                  have w5235 : dt5215 80 1 = dt5020 80 1 := hF5217 80 (by decide) 1
                  have w5236 : dt5215 80 2 = dt5020 80 2 := hF5217 80 (by decide) 2
                  have w5237 : dt5215 80 3 = dt5020 80 3 := hF5217 80 (by decide) 3
                  have w5238 : dt5215 80 4 = dt5020 80 4 := hF5217 80 (by decide) 4
                  have w5239 : dt5215 80 5 = dt5020 80 5 := hF5217 80 (by decide) 5
                  rcases h5214 with ⟨rfl, h5214⟩
                  have hM5240 : MW (dt5215 80) := h5214.2.1
                  obtain ⟨h5214_0, h5214_1, h5214_2, h5214_3, h5214_4, h5214_5⟩ := h5214
                  have y5241 := h5214_3 0 (by decide)
                  have y5242 := h5214_3 1 (by decide)
                  have y5243 := h5214_3 2 (by decide)
                  have y5244 := h5214_3 3 (by decide)
                  have y5245 := h5214_3 4 (by decide)
                  have y5246 := h5214_3 5 (by decide)
                  have y5247 := h5214_4 0 (by decide)
                  have y5248 := h5214_4 1 (by decide)
                  have y5249 := h5214_4 2 (by decide)
                  have y5250 := h5214_4 3 (by decide)
                  have y5251 := h5214_4 4 (by decide)
                  have y5252 := h5214_4 5 (by decide)
                  refine go_to (k := 4) (pc' := 18) (L' := [some (.inr (.inr (some 3000))), some (.inr (.inr (some 0))), some (.inr (.inr (some 79))), some (.inl (l18_3 + 6))]) (st' := []) (w' := (SH, dt5215)) (fun _ => rfl) ?_
                  exact GO.le (ih_loop2795 (l18_3 + 6) dt5215 hI5216 hF5218 hM5240 (by omega) (by exact h5214_2) (by omega) (by omega) (by omega) (by omega) (by omega) (by omega) (by omega) (by omega) (by omega) (by omega) (by omega) (by omega) (by omega) (by omega) (by omega)) ⟨.inl rfl, .inl rfl, .inl rfl, .inl rfl, trivial⟩
            · skip
              refine go_to (k := 2) (pc' := 1387) (L' := [some (.inr (.inr (some 3000))), some (.inr (.inr (some 0))), some (.inr (.inr (some 79))), some (.inl l18_3)]) (st' := [.inl 1, .inr (.inr (some 0))]) (w' := (SH, dt2776)) (fun _ => rfl) ?_
              refine go_call (Q' := _) rfl rfl rfl rfl rfl (sp_X5_image L xs sio (d + 35) dt2776 hI2777  1 ⟨by omega, by omega⟩ ) ?_
              rintro _ _ ⟨dt5254, rfl, hI5255, hF5256, h5253⟩
              refine ⟨rfl, ?_⟩
              have hF5257 : Fr [0, 1, 2, 3, 4, 5, 6, 7, 8, 9, 10, 11, 12, 13, 14, 15, 16, 17, 18, 19, 20, 21, 22, 23, 24, 25, 26, 27, 28, 29, 30, 31, 32, 33, 34, 35, 36, 37, 38, 39, 40, 41, 42, 43, 44, 45, 46, 47, 48, 49, 50, 51, 52, 53, 54, 55, 56, 57, 58, 59, 60, 61, 62, 63, 64, 65, 66, 67, 68, 69, 70, 71, 72, 73, 74, 75, 76, 77, 78, 79, 80, 81, 82, 83, 84, 85, 86, 87, 88, 89, 90, 91, 92, 93, 94, 95, 96, 97, 98, 99, 100, 101, 102, 103, 104] dt dt5254 := Fr_tr hF2778 hF5256 (by decide)
              have hM5258 : MW (dt5254 80) := MW_fr hM_dt2776 hF5256 (by decide)
              have w5259 : dt5254 35 1 = dt2776 35 1 := hF5256 35 (by decide) 1
              have w5260 : dt5254 80 0 = dt2776 80 0 := hF5256 80 (by decide) 0
              have w5261 : dt5254 80 1 = dt2776 80 1 := hF5256 80 (by decide) 1
              have w5262 : dt5254 80 2 = dt2776 80 2 := hF5256 80 (by decide) 2
              have w5263 : dt5254 80 3 = dt2776 80 3 := hF5256 80 (by decide) 3
              have w5264 : dt5254 80 4 = dt2776 80 4 := hF5256 80 (by decide) 4
              have w5265 : dt5254 80 5 = dt2776 80 5 := hF5256 80 (by decide) 5
              have w5266 : dt5254 81 0 = dt2776 81 0 := hF5256 81 (by decide) 0
              have w5267 : dt5254 81 1 = dt2776 81 1 := hF5256 81 (by decide) 1
              have w5268 : dt5254 81 2 = dt2776 81 2 := hF5256 81 (by decide) 2
              have w5269 : dt5254 81 3 = dt2776 81 3 := hF5256 81 (by decide) 3
              have w5270 : dt5254 81 4 = dt2776 81 4 := hF5256 81 (by decide) 4
              have w5271 : dt5254 81 5 = dt2776 81 5 := hF5256 81 (by decide) 5
              have w5272 : dt5254 79 2 = dt2776 79 2 := hF5256 79 (by decide) 2
              have w5273 : dt5254 79 12 = dt2776 79 12 := hF5256 79 (by decide) 12
              rcases h5253 with ⟨v_h5253, rfl, h5253r, h5253⟩ | ⟨v_h5253, rfl, h5253r, h5253⟩ | ⟨v_h5253, rfl, h5253r, h5253⟩
              · skip
                obtain ⟨h5253_0, h5253_1, h5253_2, h5253_3, h5253_4, h5253_5, h5253_6, h5253_7, h5253_8, h5253_9, h5253_10, h5253_11, h5253_12, h5253_13, h5253_14⟩ := h5253
                have M25274 : MW (dt5254 81) := MW_frk hM2L hF5256 (by decide)
                refine go_to (k := 6) (pc' := 1396) (L' := [some (.inr (.inr (some 3000))), some (.inr (.inr (some 0))), some (.inr (.inr (some 79))), some (.inl l18_3)]) (st' := [.inl (l18_3 + 1), .inr (.inr (some 3000)), .inr (.inr (some 79))]) (w' := (SH, dt5254)) (fun _ => rfl) ?_
                have r5275 := i32_R (xs ((l18_3 + 1).toNat))
                refine go_smp (L' := [some (.inr (.inr (some 3000))), some (.inr (.inr (some 0))), some (.inr (.inr (some 79))), some (.inl l18_3)]) (st' := [.inl ((xs ((l18_3 + 1).toNat)).toInt), .inr (.inr (some 79))]) (w' := (SH, dt5254)) rfl rfl (s_iald (n := L) (f := fun j => (xs j).toInt) (am_scr hLL) ⟨by omega, by omega⟩) ?_
                refine go_if (k := 1) (p1 := 1404) (p2 := 1400) (L' := [some (.inr (.inr (some 3000))), some (.inr (.inr (some 0))), some (.inr (.inr (some 79))), some (.inl l18_3)]) (st' := [.inr (.inr (some 79))]) (w' := (SH, dt5254)) (fun _ => rfl) (z_eq (a := (xs ((l18_3 + 1).toNat)).toInt) ⟨by omega, by omega⟩) (fun c5276 => ?_) (fun c5276 => ?_)
                · skip
                  refine go_to (k := 1) (pc' := 1405) (L' := [some (.inr (.inr (some 3000))), some (.inr (.inr (some 0))), some (.inr (.inr (some 79))), some (.inl l18_3)]) (st' := [.inl 0, .inr (.inr (some 79))]) (w' := (SH, dt5254)) (fun _ => rfl) ?_
                  refine go_call (Q' := _) rfl rfl rfl rfl rfl (sp_X6_image_0 L xs sio (d + 38) dt5254 hI5255 hM5258   (by first | trivial | omega | exact M25274)) ?_
                  rintro _ _ ⟨dt5278, rfl, hI5279, hF5280, h5277⟩
                  refine ⟨rfl, ?_⟩
                  have hF5281 : Fr [0, 1, 2, 3, 4, 5, 6, 7, 8, 9, 10, 11, 12, 13, 14, 15, 16, 17, 18, 19, 20, 21, 22, 23, 24, 25, 26, 27, 28, 29, 30, 31, 32, 33, 34, 35, 36, 37, 38, 39, 40, 41, 42, 43, 44, 45, 46, 47, 48, 49, 50, 51, 52, 53, 54, 55, 56, 57, 58, 59, 60, 61, 62, 63, 64, 65, 66, 67, 68, 69, 70, 71, 72, 73, 74, 75, 76, 77, 78, 79, 80, 81, 82, 83, 84, 85, 86, 87, 88, 89, 90, 91, 92, 93, 94, 95, 96, 97, 98, 99, 100, 101, 102, 103, 104] dt dt5278 := Fr_tr hF5257 hF5280 (by decide)
                  have w5282 : dt5278 1 0 = dt5254 1 0 := hF5280 1 (by decide) 0
                  have w5283 : dt5278 7 3 = dt5254 7 3 := hF5280 7 (by decide) 3
                  have w5284 : dt5278 10 3 = dt5254 10 3 := hF5280 10 (by decide) 3
                  have w5285 : dt5278 12 3 = dt5254 12 3 := hF5280 12 (by decide) 3
                  have w5286 : dt5278 14 3 = dt5254 14 3 := hF5280 14 (by decide) 3
                  have w5287 : dt5278 16 3 = dt5254 16 3 := hF5280 16 (by decide) 3
                  have w5288 : dt5278 18 0 = dt5254 18 0 := hF5280 18 (by decide) 0
                  have w5289 : dt5278 24 3 = dt5254 24 3 := hF5280 24 (by decide) 3
                  have w5290 : dt5278 27 3 = dt5254 27 3 := hF5280 27 (by decide) 3
                  have w5291 : dt5278 29 3 = dt5254 29 3 := hF5280 29 (by decide) 3
                  have w5292 : dt5278 31 3 = dt5254 31 3 := hF5280 31 (by decide) 3
                  have w5293 : dt5278 33 3 = dt5254 33 3 := hF5280 33 (by decide) 3
                  have w5294 : dt5278 0 2 = dt5254 0 2 := hF5280 0 (by decide) 2
                  have w5295 : dt5278 35 1 = dt5254 35 1 := hF5280 35 (by decide) 1
                  have w5296 : dt5278 81 0 = dt5254 81 0 := hF5280 81 (by decide) 0
                  have w5297 : dt5278 81 1 = dt5254 81 1 := hF5280 81 (by decide) 1
                  have w5298 : dt5278 81 2 = dt5254 81 2 := hF5280 81 (by decide) 2
                  have w5299 : dt5278 81 3 = dt5254 81 3 := hF5280 81 (by decide) 3
                  have w5300 : dt5278 81 4 = dt5254 81 4 := hF5280 81 (by decide) 4
                  have w5301 : dt5278 81 5 = dt5254 81 5 := hF5280 81 (by decide) 5
                  rcases h5277 with ⟨rfl, h5277⟩ | ⟨rfl, h5277⟩
                  · skip
                    have hM5302 : MW (dt5278 80) := h5277.2.2.1
                    obtain ⟨h5277_0, h5277_1, h5277_2, h5277_3, h5277_4, h5277_5, h5277_6⟩ := h5277
                    have M25303 : MW (dt5278 81) := MW_frk M25274 hF5280 (by decide)
                    refine go_to (k := 4) (pc' := 18) (L' := [some (.inr (.inr (some 3000))), some (.inr (.inr (some 0))), some (.inr (.inr (some 79))), some (.inl (l18_3 + 6))]) (st' := []) (w' := (SH, dt5278)) (fun _ => rfl) ?_
                    exact GO.le (ih_loop2795 (l18_3 + 6) dt5278 hI5279 hF5281 hM5302 (by omega) (by exact M25303) (by omega) (by omega) (by omega) (by omega) (by omega) (by omega) (by omega) (by omega) (by omega) (by omega) (by omega) (by omega) (by omega) (by omega) (by omega)) ⟨.inl rfl, .inl rfl, .inl rfl, .inl rfl, trivial⟩
                  · skip
                    have hM5304 : MW (dt5278 80) := h5277.2.2.1
                    obtain ⟨h5277_0, h5277_1, h5277_2, h5277_3, h5277_4, h5277_5, h5277_6⟩ := h5277
                    have M25305 : MW (dt5278 81) := MW_frk M25274 hF5280 (by decide)
                    refine go_to (k := 4) (pc' := 18) (L' := [some (.inr (.inr (some 3000))), some (.inr (.inr (some 0))), some (.inr (.inr (some 79))), some (.inl (l18_3 + 6))]) (st' := []) (w' := (SH, dt5278)) (fun _ => rfl) ?_
                    exact GO.le (ih_loop2795 (l18_3 + 6) dt5278 hI5279 hF5281 hM5304 (by omega) (by exact M25305) (by omega) (by omega) (by omega) (by omega) (by omega) (by omega) (by omega) (by omega) (by omega) (by omega) (by omega) (by omega) (by omega) (by omega) (by omega)) ⟨.inl rfl, .inl rfl, .inl rfl, .inl rfl, trivial⟩
                · skip
                  refine go_to (k := 2) (pc' := 1405) (L' := [some (.inr (.inr (some 3000))), some (.inr (.inr (some 0))), some (.inr (.inr (some 79))), some (.inl l18_3)]) (st' := [.inl 1, .inr (.inr (some 79))]) (w' := (SH, dt5254)) (fun _ => rfl) ?_
                  refine go_call (Q' := _) rfl rfl rfl rfl rfl (sp_X6_image_1 L xs sio (d + 38) dt5254 hI5255 hM5258   ) ?_
                  rintro _ _ ⟨dt5307, rfl, hI5308, hF5309, h5306⟩
                  refine ⟨rfl, ?_⟩
                  have hF5310 : Fr [0, 1, 2, 3, 4, 5, 6, 7, 8, 9, 10, 11, 12, 13, 14, 15, 16, 17, 18, 19, 20, 21, 22, 23, 24, 25, 26, 27, 28, 29, 30, 31, 32, 33, 34, 35, 36, 37, 38, 39, 40, 41, 42, 43, 44, 45, 46, 47, 48, 49, 50, 51, 52, 53, 54, 55, 56, 57, 58, 59, 60, 61, 62, 63, 64, 65, 66, 67, 68, 69, 70, 71, 72, 73, 74, 75, 76, 77, 78, 79, 80, 81, 82, 83, 84, 85, 86, 87, 88, 89, 90, 91, 92, 93, 94, 95, 96, 97, 98, 99, 100, 101, 102, 103, 104] dt dt5307 := Fr_tr hF5257 hF5309 (by decide)
                  have hM5311 : MW (dt5307 80) := MW_fr hM5258 hF5309 (by decide)
                  have w5312 : dt5307 1 0 = dt5254 1 0 := hF5309 1 (by decide) 0
                  have w5313 : dt5307 7 3 = dt5254 7 3 := hF5309 7 (by decide) 3
                  have w5314 : dt5307 10 3 = dt5254 10 3 := hF5309 10 (by decide) 3
                  have w5315 : dt5307 12 3 = dt5254 12 3 := hF5309 12 (by decide) 3
                  have w5316 : dt5307 14 3 = dt5254 14 3 := hF5309 14 (by decide) 3
                  have w5317 : dt5307 16 3 = dt5254 16 3 := hF5309 16 (by decide) 3
                  have w5318 : dt5307 18 0 = dt5254 18 0 := hF5309 18 (by decide) 0
                  have w5319 : dt5307 24 3 = dt5254 24 3 := hF5309 24 (by decide) 3
                  have w5320 : dt5307 27 3 = dt5254 27 3 := hF5309 27 (by decide) 3
                  have w5321 : dt5307 29 3 = dt5254 29 3 := hF5309 29 (by decide) 3
                  have w5322 : dt5307 31 3 = dt5254 31 3 := hF5309 31 (by decide) 3
                  have w5323 : dt5307 33 3 = dt5254 33 3 := hF5309 33 (by decide) 3
                  have w5324 : dt5307 0 2 = dt5254 0 2 := hF5309 0 (by decide) 2
                  have w5325 : dt5307 35 1 = dt5254 35 1 := hF5309 35 (by decide) 1
                  have w5326 : dt5307 80 0 = dt5254 80 0 := hF5309 80 (by decide) 0
                  have w5327 : dt5307 80 1 = dt5254 80 1 := hF5309 80 (by decide) 1
                  have w5328 : dt5307 80 2 = dt5254 80 2 := hF5309 80 (by decide) 2
                  have w5329 : dt5307 80 3 = dt5254 80 3 := hF5309 80 (by decide) 3
                  have w5330 : dt5307 80 4 = dt5254 80 4 := hF5309 80 (by decide) 4
                  have w5331 : dt5307 80 5 = dt5254 80 5 := hF5309 80 (by decide) 5
                  rcases h5306 with ⟨rfl, h5306⟩
                  have hM5332 : MW (dt5307 80) := h5306.2.1
                  obtain ⟨h5306_0, h5306_1, h5306_2, h5306_3, h5306_4, h5306_5⟩ := h5306
                  have y5333 := h5306_3 0 (by decide)
                  have y5334 := h5306_3 1 (by decide)
                  have y5335 := h5306_3 2 (by decide)
                  have y5336 := h5306_3 3 (by decide)
                  have y5337 := h5306_3 4 (by decide)
                  have y5338 := h5306_3 5 (by decide)
                  have y5339 := h5306_4 0 (by decide)
                  have y5340 := h5306_4 1 (by decide)
                  have y5341 := h5306_4 2 (by decide)
                  have y5342 := h5306_4 3 (by decide)
                  have y5343 := h5306_4 4 (by decide)
                  have y5344 := h5306_4 5 (by decide)
                  refine go_to (k := 4) (pc' := 18) (L' := [some (.inr (.inr (some 3000))), some (.inr (.inr (some 0))), some (.inr (.inr (some 79))), some (.inl (l18_3 + 6))]) (st' := []) (w' := (SH, dt5307)) (fun _ => rfl) ?_
                  exact GO.le (ih_loop2795 (l18_3 + 6) dt5307 hI5308 hF5310 hM5332 (by omega) (by exact h5306_2) (by omega) (by omega) (by omega) (by omega) (by omega) (by omega) (by omega) (by omega) (by omega) (by omega) (by omega) (by omega) (by omega) (by omega) (by omega)) ⟨.inl rfl, .inl rfl, .inl rfl, .inl rfl, trivial⟩
              · skip
                obtain ⟨h5253_0, h5253_1, h5253_2, h5253_3, h5253_4, h5253_5, h5253_6, h5253_7, h5253_8, h5253_9, h5253_10, h5253_11, h5253_12, h5253_13, h5253_14, h5253_15⟩ := h5253
                have M25345 : MW (dt5254 81) := MW_frk hM2L hF5256 (by decide)
                refine go_to (k := 6) (pc' := 1396) (L' := [some (.inr (.inr (some 3000))), some (.inr (.inr (some 0))), some (.inr (.inr (some 79))), some (.inl l18_3)]) (st' := [.inl (l18_3 + 1), .inr (.inr (some 3000)), .inr (.inr (some 79))]) (w' := (SH, dt5254)) (fun _ => rfl) ?_
                have r5346 := i32_R (xs ((l18_3 + 1).toNat))
                refine go_smp (L' := [some (.inr (.inr (some 3000))), some (.inr (.inr (some 0))), some (.inr (.inr (some 79))), some (.inl l18_3)]) (st' := [.inl ((xs ((l18_3 + 1).toNat)).toInt), .inr (.inr (some 79))]) (w' := (SH, dt5254)) rfl rfl (s_iald (n := L) (f := fun j => (xs j).toInt) (am_scr hLL) ⟨by omega, by omega⟩) ?_
                refine go_if (k := 1) (p1 := 1404) (p2 := 1400) (L' := [some (.inr (.inr (some 3000))), some (.inr (.inr (some 0))), some (.inr (.inr (some 79))), some (.inl l18_3)]) (st' := [.inr (.inr (some 79))]) (w' := (SH, dt5254)) (fun _ => rfl) (z_eq (a := (xs ((l18_3 + 1).toNat)).toInt) ⟨by omega, by omega⟩) (fun c5347 => ?_) (fun c5347 => ?_)
                · skip
                  refine go_to (k := 1) (pc' := 1405) (L' := [some (.inr (.inr (some 3000))), some (.inr (.inr (some 0))), some (.inr (.inr (some 79))), some (.inl l18_3)]) (st' := [.inl 0, .inr (.inr (some 79))]) (w' := (SH, dt5254)) (fun _ => rfl) ?_
                  refine go_call (Q' := _) rfl rfl rfl rfl rfl (sp_X6_image_0 L xs sio (d + 38) dt5254 hI5255 hM5258   (by first | trivial | omega | exact M25345)) ?_
                  rintro _ _ ⟨dt5349, rfl, hI5350, hF5351, h5348⟩
                  refine ⟨rfl, ?_⟩
                  have hF5352 : Fr [0, 1, 2, 3, 4, 5, 6, 7, 8, 9, 10, 11, 12, 13, 14, 15, 16, 17, 18, 19, 20, 21, 22, 23, 24, 25, 26, 27, 28, 29, 30, 31, 32, 33, 34, 35, 36, 37, 38, 39, 40, 41, 42, 43, 44, 45, 46, 47, 48, 49, 50, 51, 52, 53, 54, 55, 56, 57, 58, 59, 60, 61, 62, 63, 64, 65, 66, 67, 68, 69, 70, 71, 72, 73, 74, 75, 76, 77, 78, 79, 80, 81, 82, 83, 84, 85, 86, 87, 88, 89, 90, 91, 92, 93, 94, 95, 96, 97, 98, 99, 100, 101, 102, 103, 104] dt dt5349 := Fr_tr hF5257 hF5351 (by decide)
                  have w5353 : dt5349 1 0 = dt5254 1 0 := hF5351 1 (by decide) 0
                  have w5354 : dt5349 7 3 = dt5254 7 3 := hF5351 7 (by decide) 3
                  have w5355 : dt5349 10 3 = dt5254 10 3 := hF5351 10 (by decide) 3
                  have w5356 : dt5349 12 3 = dt5254 12 3 := hF5351 12 (by decide) 3
                  have w5357 : dt5349 14 3 = dt5254 14 3 := hF5351 14 (by decide) 3
                  have w5358 : dt5349 16 3 = dt5254 16 3 := hF5351 16 (by decide) 3
                  have w5359 : dt5349 18 0 = dt5254 18 0 := hF5351 18 (by decide) 0
                  have w5360 : dt5349 24 3 = dt5254 24 3 := hF5351 24 (by decide) 3
                  have w5361 : dt5349 27 3 = dt5254 27 3 := hF5351 27 (by decide) 3
                  have w5362 : dt5349 29 3 = dt5254 29 3 := hF5351 29 (by decide) 3
                  have w5363 : dt5349 31 3 = dt5254 31 3 := hF5351 31 (by decide) 3
                  have w5364 : dt5349 33 3 = dt5254 33 3 := hF5351 33 (by decide) 3
                  have w5365 : dt5349 0 2 = dt5254 0 2 := hF5351 0 (by decide) 2
                  have w5366 : dt5349 35 1 = dt5254 35 1 := hF5351 35 (by decide) 1
                  have w5367 : dt5349 81 0 = dt5254 81 0 := hF5351 81 (by decide) 0
                  have w5368 : dt5349 81 1 = dt5254 81 1 := hF5351 81 (by decide) 1
                  have w5369 : dt5349 81 2 = dt5254 81 2 := hF5351 81 (by decide) 2
                  have w5370 : dt5349 81 3 = dt5254 81 3 := hF5351 81 (by decide) 3
                  have w5371 : dt5349 81 4 = dt5254 81 4 := hF5351 81 (by decide) 4
                  have w5372 : dt5349 81 5 = dt5254 81 5 := hF5351 81 (by decide) 5
                  rcases h5348 with ⟨rfl, h5348⟩ | ⟨rfl, h5348⟩
                  · skip
                    have hM5373 : MW (dt5349 80) := h5348.2.2.1
                    obtain ⟨h5348_0, h5348_1, h5348_2, h5348_3, h5348_4, h5348_5, h5348_6⟩ := h5348
                    have M25374 : MW (dt5349 81) := MW_frk M25345 hF5351 (by decide)
                    refine go_to (k := 4) (pc' := 18) (L' := [some (.inr (.inr (some 3000))), some (.inr (.inr (some 0))), some (.inr (.inr (some 79))), some (.inl (l18_3 + 6))]) (st' := []) (w' := (SH, dt5349)) (fun _ => rfl) ?_
                    exact GO.le (ih_loop2795 (l18_3 + 6) dt5349 hI5350 hF5352 hM5373 (by omega) (by exact M25374) (by omega) (by omega) (by omega) (by omega) (by omega) (by omega) (by omega) (by omega) (by omega) (by omega) (by omega) (by omega) (by omega) (by omega) (by omega)) ⟨.inl rfl, .inl rfl, .inl rfl, .inl rfl, trivial⟩
                  · skip
                    have hM5375 : MW (dt5349 80) := h5348.2.2.1
                    obtain ⟨h5348_0, h5348_1, h5348_2, h5348_3, h5348_4, h5348_5, h5348_6⟩ := h5348
                    have M25376 : MW (dt5349 81) := MW_frk M25345 hF5351 (by decide)
                    refine go_to (k := 4) (pc' := 18) (L' := [some (.inr (.inr (some 3000))), some (.inr (.inr (some 0))), some (.inr (.inr (some 79))), some (.inl (l18_3 + 6))]) (st' := []) (w' := (SH, dt5349)) (fun _ => rfl) ?_
                    exact GO.le (ih_loop2795 (l18_3 + 6) dt5349 hI5350 hF5352 hM5375 (by omega) (by exact M25376) (by omega) (by omega) (by omega) (by omega) (by omega) (by omega) (by omega) (by omega) (by omega) (by omega) (by omega) (by omega) (by omega) (by omega) (by omega)) ⟨.inl rfl, .inl rfl, .inl rfl, .inl rfl, trivial⟩
                · skip
                  refine go_to (k := 2) (pc' := 1405) (L' := [some (.inr (.inr (some 3000))), some (.inr (.inr (some 0))), some (.inr (.inr (some 79))), some (.inl l18_3)]) (st' := [.inl 1, .inr (.inr (some 79))]) (w' := (SH, dt5254)) (fun _ => rfl) ?_
                  refine go_call (Q' := _) rfl rfl rfl rfl rfl (sp_X6_image_1 L xs sio (d + 38) dt5254 hI5255 hM5258   ) ?_
                  rintro _ _ ⟨dt5378, rfl, hI5379, hF5380, h5377⟩
                  refine ⟨rfl, ?_⟩
                  have hF5381 : Fr [0, 1, 2, 3, 4, 5, 6, 7, 8, 9, 10, 11, 12, 13, 14, 15, 16, 17, 18, 19, 20, 21, 22, 23, 24, 25, 26, 27, 28, 29, 30, 31, 32, 33, 34, 35, 36, 37, 38, 39, 40, 41, 42, 43, 44, 45, 46, 47, 48, 49, 50, 51, 52, 53, 54, 55, 56, 57, 58, 59, 60, 61, 62, 63, 64, 65, 66, 67, 68, 69, 70, 71, 72, 73, 74, 75, 76, 77, 78, 79, 80, 81, 82, 83, 84, 85, 86, 87, 88, 89, 90, 91, 92, 93, 94, 95, 96, 97, 98, 99, 100, 101, 102, 103, 104] dt dt5378 := Fr_tr hF5257 hF5380 (by decide)
                  have hM5382 : MW (dt5378 80) := MW_fr hM5258 hF5380 (by decide)
                  have w5383 : dt5378 1 0 = dt5254 1 0 := hF5380 1 (by decide) 0
                  have w5384 : dt5378 7 3 = dt5254 7 3 := hF5380 7 (by decide) 3
                  have w5385 : dt5378 10 3 = dt5254 10 3 := hF5380 10 (by decide) 3
                  have w5386 : dt5378 12 3 = dt5254 12 3 := hF5380 12 (by decide) 3
                  have w5387 : dt5378 14 3 = dt5254 14 3 := hF5380 14 (by decide) 3
                  have w5388 : dt5378 16 3 = dt5254 16 3 := hF5380 16 (by decide) 3
                  have w5389 : dt5378 18 0 = dt5254 18 0 := hF5380 18 (by decide) 0
                  have w5390 : dt5378 24 3 = dt5254 24 3 := hF5380 24 (by decide) 3
                  have w5391 : dt5378 27 3 = dt5254 27 3 := hF5380 27 (by decide) 3
                  have w5392 : dt5378 29 3 = dt5254 29 3 := hF5380 29 (by decide) 3
                  have w5393 : dt5378 31 3 = dt5254 31 3 := hF5380 31 (by decide) 3
                  have w5394 : dt5378 33 3 = dt5254 33 3 := hF5380 33 (by decide) 3
                  have w5395 : dt5378 0 2 = dt5254 0 2 := hF5380 0 (by decide) 2
                  have w5396 : dt5378 35 1 = dt5254 35 1 := hF5380 35 (by decide) 1
                  have w5397 : dt5378 80 0 = dt5254 80 0 := hF5380 80 (by decide) 0
                  have w5398 : dt5378 80 1 = dt5254 80 1 := hF5380 80 (by decide) 1
                  have w5399 : dt5378 80 2 = dt5254 80 2 := hF5380 80 (by decide) 2
                  have w5400 : dt5378 80 3 = dt5254 80 3 := hF5380 80 (by decide) 3
                  have w5401 : dt5378 80 4 = dt5254 80 4 := hF5380 80 (by decide) 4
                  have w5402 : dt5378 80 5 = dt5254 80 5 := hF5380 80 (by decide) 5
                  rcases h5377 with ⟨rfl, h5377⟩
                  have hM5403 : MW (dt5378 80) := h5377.2.1
                  obtain ⟨h5377_0, h5377_1, h5377_2, h5377_3, h5377_4, h5377_5⟩ := h5377
                  have y5404 := h5377_3 0 (by decide)
                  have y5405 := h5377_3 1 (by decide)
                  have y5406 := h5377_3 2 (by decide)
                  have y5407 := h5377_3 3 (by decide)
                  have y5408 := h5377_3 4 (by decide)
                  have y5409 := h5377_3 5 (by decide)
                  have y5410 := h5377_4 0 (by decide)
                  have y5411 := h5377_4 1 (by decide)
                  have y5412 := h5377_4 2 (by decide)
                  have y5413 := h5377_4 3 (by decide)
                  have y5414 := h5377_4 4 (by decide)
                  have y5415 := h5377_4 5 (by decide)
                  refine go_to (k := 4) (pc' := 18) (L' := [some (.inr (.inr (some 3000))), some (.inr (.inr (some 0))), some (.inr (.inr (some 79))), some (.inl (l18_3 + 6))]) (st' := []) (w' := (SH, dt5378)) (fun _ => rfl) ?_
                  exact GO.le (ih_loop2795 (l18_3 + 6) dt5378 hI5379 hF5381 hM5403 (by omega) (by exact h5377_2) (by omega) (by omega) (by omega) (by omega) (by omega) (by omega) (by omega) (by omega) (by omega) (by omega) (by omega) (by omega) (by omega) (by omega) (by omega)) ⟨.inl rfl, .inl rfl, .inl rfl, .inl rfl, trivial⟩
              · skip
                obtain ⟨h5253_0, h5253_1, h5253_2, h5253_3, h5253_4, h5253_5, h5253_6, h5253_7, h5253_8, h5253_9, h5253_10, h5253_11, h5253_12, h5253_13, h5253_14, h5253_15⟩ := h5253
                have M25416 : MW (dt5254 81) := MW_frk hM2L hF5256 (by decide)
                refine go_to (k := 6) (pc' := 1396) (L' := [some (.inr (.inr (some 3000))), some (.inr (.inr (some 0))), some (.inr (.inr (some 79))), some (.inl l18_3)]) (st' := [.inl (l18_3 + 1), .inr (.inr (some 3000)), .inr (.inr (some 79))]) (w' := (SH, dt5254)) (fun _ => rfl) ?_
                have r5417 := i32_R (xs ((l18_3 + 1).toNat))
                refine go_smp (L' := [some (.inr (.inr (some 3000))), some (.inr (.inr (some 0))), some (.inr (.inr (some 79))), some (.inl l18_3)]) (st' := [.inl ((xs ((l18_3 + 1).toNat)).toInt), .inr (.inr (some 79))]) (w' := (SH, dt5254)) rfl rfl (s_iald (n := L) (f := fun j => (xs j).toInt) (am_scr hLL) ⟨by omega, by omega⟩) ?_
                refine go_if (k := 1) (p1 := 1404) (p2 := 1400) (L' := [some (.inr (.inr (some 3000))), some (.inr (.inr (some 0))), some (.inr (.inr (some 79))), some (.inl l18_3)]) (st' := [.inr (.inr (some 79))]) (w' := (SH, dt5254)) (fun _ => rfl) (z_eq (a := (xs ((l18_3 + 1).toNat)).toInt) ⟨by omega, by omega⟩) (fun c5418 => ?_) (fun c5418 => ?_)
                · skip
                  refine go_to (k := 1) (pc' := 1405) (L' := [some (.inr (.inr (some 3000))), some (.inr (.inr (some 0))), some (.inr (.inr (some 79))), some (.inl l18_3)]) (st' := [.inl 0, .inr (.inr (some 79))]) (w' := (SH, dt5254)) (fun _ => rfl) ?_
                  refine go_call (Q' := _) rfl rfl rfl rfl rfl (sp_X6_image_0 L xs sio (d + 38) dt5254 hI5255 hM5258   (by first | trivial | omega | exact M25416)) ?_
                  rintro _ _ ⟨dt5420, rfl, hI5421, hF5422, h5419⟩
                  refine ⟨rfl, ?_⟩
                  have hF5423 : Fr [0, 1, 2, 3, 4, 5, 6, 7, 8, 9, 10, 11, 12, 13, 14, 15, 16, 17, 18, 19, 20, 21, 22, 23, 24, 25, 26, 27, 28, 29, 30, 31, 32, 33, 34, 35, 36, 37, 38, 39, 40, 41, 42, 43, 44, 45, 46, 47, 48, 49, 50, 51, 52, 53, 54, 55, 56, 57, 58, 59, 60, 61, 62, 63, 64, 65, 66, 67, 68, 69, 70, 71, 72, 73, 74, 75, 76, 77, 78, 79, 80, 81, 82, 83, 84, 85, 86, 87, 88, 89, 90, 91, 92, 93, 94, 95, 96, 97, 98, 99, 100, 101, 102, 103, 104] dt dt5420 := Fr_tr hF5257 hF5422 (by decide)
                  have w5424 : dt5420 1 0 = dt5254 1 0 := hF5422 1 (by decide) 0
                  have w5425 : dt5420 7 3 = dt5254 7 3 := hF5422 7 (by decide) 3
                  have w5426 : dt5420 10 3 = dt5254 10 3 := hF5422 10 (by decide) 3
                  have w5427 : dt5420 12 3 = dt5254 12 3 := hF5422 12 (by decide) 3
                  have w5428 : dt5420 14 3 = dt5254 14 3 := hF5422 14 (by decide) 3
                  have w5429 : dt5420 16 3 = dt5254 16 3 := hF5422 16 (by decide) 3
                  have w5430 : dt5420 18 0 = dt5254 18 0 := hF5422 18 (by decide) 0
                  have w5431 : dt5420 24 3 = dt5254 24 3 := hF5422 24 (by decide) 3
                  have w5432 : dt5420 27 3 = dt5254 27 3 := hF5422 27 (by decide) 3
                  have w5433 : dt5420 29 3 = dt5254 29 3 := hF5422 29 (by decide) 3
                  have w5434 : dt5420 31 3 = dt5254 31 3 := hF5422 31 (by decide) 3
                  have w5435 : dt5420 33 3 = dt5254 33 3 := hF5422 33 (by decide) 3
                  have w5436 : dt5420 0 2 = dt5254 0 2 := hF5422 0 (by decide) 2
                  have w5437 : dt5420 35 1 = dt5254 35 1 := hF5422 35 (by decide) 1
                  have w5438 : dt5420 81 0 = dt5254 81 0 := hF5422 81 (by decide) 0
                  have w5439 : dt5420 81 1 = dt5254 81 1 := hF5422 81 (by decide) 1
                  have w5440 : dt5420 81 2 = dt5254 81 2 := hF5422 81 (by decide) 2
                  have w5441 : dt5420 81 3 = dt5254 81 3 := hF5422 81 (by decide) 3
                  have w5442 : dt5420 81 4 = dt5254 81 4 := hF5422 81 (by decide) 4
                  have w5443 : dt5420 81 5 = dt5254 81 5 := hF5422 81 (by decide) 5
                  rcases h5419 with ⟨rfl, h5419⟩ | ⟨rfl, h5419⟩
                  · skip
                    have hM5444 : MW (dt5420 80) := h5419.2.2.1
                    obtain ⟨h5419_0, h5419_1, h5419_2, h5419_3, h5419_4, h5419_5, h5419_6⟩ := h5419
                    have M25445 : MW (dt5420 81) := MW_frk M25416 hF5422 (by decide)
                    refine go_to (k := 4) (pc' := 18) (L' := [some (.inr (.inr (some 3000))), some (.inr (.inr (some 0))), some (.inr (.inr (some 79))), some (.inl (l18_3 + 6))]) (st' := []) (w' := (SH, dt5420)) (fun _ => rfl) ?_
                    exact GO.le (ih_loop2795 (l18_3 + 6) dt5420 hI5421 hF5423 hM5444 (by omega) (by exact M25445) (by omega) (by omega) (by omega) (by omega) (by omega) (by omega) (by omega) (by omega) (by omega) (by omega) (by omega) (by omega) (by omega) (by omega) (by omega)) ⟨.inl rfl, .inl rfl, .inl rfl, .inl rfl, trivial⟩
                  · skip
                    have hM5446 : MW (dt5420 80) := h5419.2.2.1
                    obtain ⟨h5419_0, h5419_1, h5419_2, h5419_3, h5419_4, h5419_5, h5419_6⟩ := h5419
                    have M25447 : MW (dt5420 81) := MW_frk M25416 hF5422 (by decide)
                    refine go_to (k := 4) (pc' := 18) (L' := [some (.inr (.inr (some 3000))), some (.inr (.inr (some 0))), some (.inr (.inr (some 79))), some (.inl (l18_3 + 6))]) (st' := []) (w' := (SH, dt5420)) (fun _ => rfl) ?_
                    exact GO.le (ih_loop2795 (l18_3 + 6) dt5420 hI5421 hF5423 hM5446 (by omega) (by exact M25447) (by omega) (by omega) (by omega) (by omega) (by omega) (by omega) (by omega) (by omega) (by omega) (by omega) (by omega) (by omega) (by omega) (by omega) (by omega)) ⟨.inl rfl, .inl rfl, .inl rfl, .inl rfl, trivial⟩
                · skip
                  refine go_to (k := 2) (pc' := 1405) (L' := [some (.inr (.inr (some 3000))), some (.inr (.inr (some 0))), some (.inr (.inr (some 79))), some (.inl l18_3)]) (st' := [.inl 1, .inr (.inr (some 79))]) (w' := (SH, dt5254)) (fun _ => rfl) ?_
                  refine go_call (Q' := _) rfl rfl rfl rfl rfl (sp_X6_image_1 L xs sio (d + 38) dt5254 hI5255 hM5258   ) ?_
                  rintro _ _ ⟨dt5449, rfl, hI5450, hF5451, h5448⟩
                  refine ⟨rfl, ?_⟩
                  have hF5452 : Fr [0, 1, 2, 3, 4, 5, 6, 7, 8, 9, 10, 11, 12, 13, 14, 15, 16, 17, 18, 19, 20, 21, 22, 23, 24, 25, 26, 27, 28, 29, 30, 31, 32, 33, 34, 35, 36, 37, 38, 39, 40, 41, 42, 43, 44, 45, 46, 47, 48, 49, 50, 51, 52, 53, 54, 55, 56, 57, 58, 59, 60, 61, 62, 63, 64, 65, 66, 67, 68, 69, 70, 71, 72, 73, 74, 75, 76, 77, 78, 79, 80, 81, 82, 83, 84, 85, 86, 87, 88, 89, 90, 91, 92, 93, 94, 95, 96, 97, 98, 99, 100, 101, 102, 103, 104] dt dt5449 := Fr_tr hF5257 hF5451 (by decide)
                  have hM5453 : MW (dt5449 80) := MW_fr hM5258 hF5451 (by decide)
                  have w5454 : dt5449 1 0 = dt5254 1 0 := hF5451 1 (by decide) 0
                  have w5455 : dt5449 7 3 = dt5254 7 3 := hF5451 7 (by decide) 3
                  have w5456 : dt5449 10 3 = dt5254 10 3 := hF5451 10 (by decide) 3
                  have w5457 : dt5449 12 3 = dt5254 12 3 := hF5451 12 (by decide) 3
                  have w5458 : dt5449 14 3 = dt5254 14 3 := hF5451 14 (by decide) 3
                  have w5459 : dt5449 16 3 = dt5254 16 3 := hF5451 16 (by decide) 3
                  have w5460 : dt5449 18 0 = dt5254 18 0 := hF5451 18 (by decide) 0
                  have w5461 : dt5449 24 3 = dt5254 24 3 := hF5451 24 (by decide) 3
                  have w5462 : dt5449 27 3 = dt5254 27 3 := hF5451 27 (by decide) 3
                  have w5463 : dt5449 29 3 = dt5254 29 3 := hF5451 29 (by decide) 3
                  have w5464 : dt5449 31 3 = dt5254 31 3 := hF5451 31 (by decide) 3
                  have w5465 : dt5449 33 3 = dt5254 33 3 := hF5451 33 (by decide) 3
                  have w5466 : dt5449 0 2 = dt5254 0 2 := hF5451 0 (by decide) 2
                  have w5467 : dt5449 35 1 = dt5254 35 1 := hF5451 35 (by decide) 1
                  have w5468 : dt5449 80 0 = dt5254 80 0 := hF5451 80 (by decide) 0
                  have w5469 : dt5449 80 1 = dt5254 80 1 := hF5451 80 (by decide) 1
                  have w5470 : dt5449 80 2 = dt5254 80 2 := hF5451 80 (by decide) 2
                  have w5471 : dt5449 80 3 = dt5254 80 3 := hF5451 80 (by decide) 3
                  have w5472 : dt5449 80 4 = dt5254 80 4 := hF5451 80 (by decide) 4
                  have w5473 : dt5449 80 5 = dt5254 80 5 := hF5451 80 (by decide) 5
                  rcases h5448 with ⟨rfl, h5448⟩
                  have hM5474 : MW (dt5449 80) := h5448.2.1
                  obtain ⟨h5448_0, h5448_1, h5448_2, h5448_3, h5448_4, h5448_5⟩ := h5448
                  have y5475 := h5448_3 0 (by decide)
                  have y5476 := h5448_3 1 (by decide)
                  have y5477 := h5448_3 2 (by decide)
                  have y5478 := h5448_3 3 (by decide)
                  have y5479 := h5448_3 4 (by decide)
                  have y5480 := h5448_3 5 (by decide)
                  have y5481 := h5448_4 0 (by decide)
                  have y5482 := h5448_4 1 (by decide)
                  have y5483 := h5448_4 2 (by decide)
                  have y5484 := h5448_4 3 (by decide)
                  have y5485 := h5448_4 4 (by decide)
                  have y5486 := h5448_4 5 (by decide)
                  refine go_to (k := 4) (pc' := 18) (L' := [some (.inr (.inr (some 3000))), some (.inr (.inr (some 0))), some (.inr (.inr (some 79))), some (.inl (l18_3 + 6))]) (st' := []) (w' := (SH, dt5449)) (fun _ => rfl) ?_
                  exact GO.le (ih_loop2795 (l18_3 + 6) dt5449 hI5450 hF5452 hM5474 (by omega) (by exact h5448_2) (by omega) (by omega) (by omega) (by omega) (by omega) (by omega) (by omega) (by omega) (by omega) (by omega) (by omega) (by omega) (by omega) (by omega) (by omega)) ⟨.inl rfl, .inl rfl, .inl rfl, .inl rfl, trivial⟩
          · refine go_swi (v := 32) (p1 := 1412) (lo := 0) (hi := 32) rfl c2802 (by decide) rfl ?_
            refine go_to (k := 5) (pc' := 1417) (L' := [some (.inr (.inr (some 3000))), some (.inr (.inr (some 0))), some (.inr (.inr (some 79))), some (.inl l18_3)]) (st' := [.inl (l18_3 + 1), .inr (.inr (some 3000)), .inr (.inr (some 0))]) (w' := (SH, dt2776)) (fun _ => rfl) ?_
            have r5487 := i32_R (xs ((l18_3 + 1).toNat))
            refine go_smp (L' := [some (.inr (.inr (some 3000))), some (.inr (.inr (some 0))), some (.inr (.inr (some 79))), some (.inl l18_3)]) (st' := [.inl ((xs ((l18_3 + 1).toNat)).toInt), .inr (.inr (some 0))]) (w' := (SH, dt2776)) rfl rfl (s_iald (n := L) (f := fun j => (xs j).toInt) (am_scr hLL) ⟨by omega, by omega⟩) ?_
            refine go_call (Q' := _) rfl rfl rfl rfl rfl (sp_X5_look L xs sio (d + 38) dt2776 hI2777  ((xs ((l18_3 + 1).toNat)).toInt) ⟨by omega, by omega⟩ ) ?_
            rintro _ _ ⟨rfl, h5488⟩
            refine ⟨rfl, ?_⟩
            rcases h5488 with ⟨rfl, h5488⟩ | ⟨rfl, h5488⟩ | ⟨rfl, h5488⟩ | ⟨rfl, h5488⟩ | ⟨rfl, h5488⟩ | ⟨rfl, h5488⟩ | ⟨rfl, h5488⟩ | ⟨rfl, h5488⟩ | ⟨rfl, h5488⟩
            · skip
              refine go_to (k := 5) (pc' := 1426) (L' := [some (.inr (.inr (some 3000))), some (.inr (.inr (some 0))), some (.inr (.inr (some 79))), some (.inl l18_3)]) (st' := [.inl (l18_3 + 1), .inr (.inr (some 3000)), .inr (.inr (some 79)), .inl (dt2776 7 3)]) (w' := (SH, dt2776)) (fun _ => rfl) ?_
              refine go_smp (L' := [some (.inr (.inr (some 3000))), some (.inr (.inr (some 0))), some (.inr (.inr (some 79))), some (.inl l18_3)]) (st' := [.inl ((xs ((l18_3 + 1).toNat)).toInt), .inr (.inr (some 79)), .inl (dt2776 7 3)]) (w' := (SH, dt2776)) rfl rfl (s_iald (n := L) (f := fun j => (xs j).toInt) (am_scr hLL) ⟨by omega, by omega⟩) ?_
              refine go_call (Q' := _) rfl rfl rfl rfl rfl (sp_X6_look L xs sio (d + 38) dt2776 hI2777  ((xs ((l18_3 + 1).toNat)).toInt) ⟨by omega, by omega⟩ ) ?_
              rintro _ _ ⟨rfl, h5489⟩
              refine ⟨rfl, ?_⟩
              rcases h5489 with ⟨rfl, h5489⟩ | ⟨rfl, h5489⟩ | ⟨rfl, h5489⟩ | ⟨rfl, h5489⟩ | ⟨rfl, h5489⟩ | ⟨rfl, h5489⟩ | ⟨rfl, h5489⟩ | ⟨rfl, h5489⟩ | ⟨rfl, h5489⟩
              · skip
                refine go_if (k := 1) (p1 := 1435) (p2 := 1433) (L' := [some (.inr (.inr (some 3000))), some (.inr (.inr (some 0))), some (.inr (.inr (some 79))), some (.inl l18_3)]) (st' := []) (w' := (SH, dt2776)) (fun _ => rfl) (c_eq (a := dt2776 7 3) (b := dt2776 80 1) ⟨by omega, by omega⟩ ⟨by omega, by omega⟩) (fun c5490 => ?_) (fun c5490 => ?_)
                · skip
                  refine go_to (k := 2) (pc' := 18) (L' := [some (.inr (.inr (some 3000))), some (.inr (.inr (some 0))), some (.inr (.inr (some 79))), some (.inl (l18_3 + 6))]) (st' := []) (w' := (SH, dt2776)) (fun _ => rfl) ?_
                  exact GO.le (ih_loop2795 (l18_3 + 6) dt2776 hI2777 hF2778 hM_dt2776 (by omega) (by exact hM2L) (by omega) (by omega) (by omega) (by omega) (by omega) (by omega) (by omega) (by omega) (by omega) (by omega) (by omega) (by omega) (by omega) (by omega) (by omega)) ⟨.inl rfl, .inl rfl, .inl rfl, .inl rfl, trivial⟩
                · skip
                  exfalso; omega
              · skip
                refine go_if (k := 1) (p1 := 1435) (p2 := 1433) (L' := [some (.inr (.inr (some 3000))), some (.inr (.inr (some 0))), some (.inr (.inr (some 79))), some (.inl l18_3)]) (st' := []) (w' := (SH, dt2776)) (fun _ => rfl) (c_eq (a := dt2776 7 3) (b := dt2776 80 2) ⟨by omega, by omega⟩ ⟨by omega, by omega⟩) (fun c5491 => ?_) (fun c5491 => ?_)
                · skip
                  refine go_to (k := 2) (pc' := 18) (L' := [some (.inr (.inr (some 3000))), some (.inr (.inr (some 0))), some (.inr (.inr (some 79))), some (.inl (l18_3 + 6))]) (st' := []) (w' := (SH, dt2776)) (fun _ => rfl) ?_
                  exact GO.le (ih_loop2795 (l18_3 + 6) dt2776 hI2777 hF2778 hM_dt2776 (by omega) (by exact hM2L) (by omega) (by omega) (by omega) (by omega) (by omega) (by omega) (by omega) (by omega) (by omega) (by omega) (by omega) (by omega) (by omega) (by omega) (by omega)) ⟨.inl rfl, .inl rfl, .inl rfl, .inl rfl, trivial⟩
                · skip
                  exfalso; omega
              · skip
                refine go_if (k := 1) (p1 := 1435) (p2 := 1433) (L' := [some (.inr (.inr (some 3000))), some (.inr (.inr (some 0))), some (.inr (.inr (some 79))), some (.inl l18_3)]) (st' := []) (w' := (SH, dt2776)) (fun _ => rfl) (c_eq (a := dt2776 7 3) (b := dt2776 80 3) ⟨by omega, by omega⟩ ⟨by omega, by omega⟩) (fun c5492 => ?_) (fun c5492 => ?_)
                · skip
                  refine go_to (k := 2) (pc' := 18) (L' := [some (.inr (.inr (some 3000))), some (.inr (.inr (some 0))), some (.inr (.inr (some 79))), some (.inl (l18_3 + 6))]) (st' := []) (w' := (SH, dt2776)) (fun _ => rfl) ?_
                  exact GO.le (ih_loop2795 (l18_3 + 6) dt2776 hI2777 hF2778 hM_dt2776 (by omega) (by exact hM2L) (by omega) (by omega) (by omega) (by omega) (by omega) (by omega) (by omega) (by omega) (by omega) (by omega) (by omega) (by omega) (by omega) (by omega) (by omega)) ⟨.inl rfl, .inl rfl, .inl rfl, .inl rfl, trivial⟩
                · skip
                  exfalso; omega
              · skip
                refine go_if (k := 1) (p1 := 1435) (p2 := 1433) (L' := [some (.inr (.inr (some 3000))), some (.inr (.inr (some 0))), some (.inr (.inr (some 79))), some (.inl l18_3)]) (st' := []) (w' := (SH, dt2776)) (fun _ => rfl) (c_eq (a := dt2776 7 3) (b := dt2776 80 4) ⟨by omega, by omega⟩ ⟨by omega, by omega⟩) (fun c5493 => ?_) (fun c5493 => ?_)
                · skip
                  refine go_to (k := 2) (pc' := 18) (L' := [some (.inr (.inr (some 3000))), some (.inr (.inr (some 0))), some (.inr (.inr (some 79))), some (.inl (l18_3 + 6))]) (st' := []) (w' := (SH, dt2776)) (fun _ => rfl) ?_
                  exact GO.le (ih_loop2795 (l18_3 + 6) dt2776 hI2777 hF2778 hM_dt2776 (by omega) (by exact hM2L) (by omega) (by omega) (by omega) (by omega) (by omega) (by omega) (by omega) (by omega) (by omega) (by omega) (by omega) (by omega) (by omega) (by omega) (by omega)) ⟨.inl rfl, .inl rfl, .inl rfl, .inl rfl, trivial⟩
                · skip
                  exfalso; omega
              · skip
                refine go_if (k := 1) (p1 := 1435) (p2 := 1433) (L' := [some (.inr (.inr (some 3000))), some (.inr (.inr (some 0))), some (.inr (.inr (some 79))), some (.inl l18_3)]) (st' := []) (w' := (SH, dt2776)) (fun _ => rfl) (c_eq (a := dt2776 7 3) (b := dt2776 80 5) ⟨by omega, by omega⟩ ⟨by omega, by omega⟩) (fun c5494 => ?_) (fun c5494 => ?_)
                · skip
                  refine go_to (k := 2) (pc' := 18) (L' := [some (.inr (.inr (some 3000))), some (.inr (.inr (some 0))), some (.inr (.inr (some 79))), some (.inl (l18_3 + 6))]) (st' := []) (w' := (SH, dt2776)) (fun _ => rfl) ?_
                  exact GO.le (ih_loop2795 (l18_3 + 6) dt2776 hI2777 hF2778 hM_dt2776 (by omega) (by exact hM2L) (by omega) (by omega) (by omega) (by omega) (by omega) (by omega) (by omega) (by omega) (by omega) (by omega) (by omega) (by omega) (by omega) (by omega) (by omega)) ⟨.inl rfl, .inl rfl, .inl rfl, .inl rfl, trivial⟩
                · skip
                  exfalso; omega
              · skip
                refine go_if (k := 1) (p1 := 1435) (p2 := 1433) (L' := [some (.inr (.inr (some 3000))), some (.inr (.inr (some 0))), some (.inr (.inr (some 79))), some (.inl l18_3)]) (st' := []) (w' := (SH, dt2776)) (fun _ => rfl) (c_eq (a := dt2776 7 3) (b := dt2776 80 0) ⟨by omega, by omega⟩ ⟨by omega, by omega⟩) (fun c5495 => ?_) (fun c5495 => ?_)
                · skip
                  refine go_to (k := 2) (pc' := 18) (L' := [some (.inr (.inr (some 3000))), some (.inr (.inr (some 0))), some (.inr (.inr (some 79))), some (.inl (l18_3 + 6))]) (st' := []) (w' := (SH, dt2776)) (fun _ => rfl) ?_
                  exact GO.le (ih_loop2795 (l18_3 + 6) dt2776 hI2777 hF2778 hM_dt2776 (by omega) (by exact hM2L) (by omega) (by omega) (by omega) (by omega) (by omega) (by omega) (by omega) (by omega) (by omega) (by omega) (by omega) (by omega) (by omega) (by omega) (by omega)) ⟨.inl rfl, .inl rfl, .inl rfl, .inl rfl, trivial⟩
                · skip
                  exfalso; omega
              · skip
                obtain ⟨h5489_0, h5489_1⟩ := h5489
                refine go_if (k := 1) (p1 := 1435) (p2 := 1433) (L' := [some (.inr (.inr (some 3000))), some (.inr (.inr (some 0))), some (.inr (.inr (some 79))), some (.inl l18_3)]) (st' := []) (w' := (SH, dt2776)) (fun _ => rfl) (c_eq (a := dt2776 7 3) (b := 1) ⟨by omega, by omega⟩ ⟨by omega, by omega⟩) (fun c5496 => ?_) (fun c5496 => ?_)
                · skip
                  refine go_to (k := 2) (pc' := 18) (L' := [some (.inr (.inr (some 3000))), some (.inr (.inr (some 0))), some (.inr (.inr (some 79))), some (.inl (l18_3 + 6))]) (st' := []) (w' := (SH, dt2776)) (fun _ => rfl) ?_
                  exact GO.le (ih_loop2795 (l18_3 + 6) dt2776 hI2777 hF2778 hM_dt2776 (by omega) (by exact hM2L) (by omega) (by omega) (by omega) (by omega) (by omega) (by omega) (by omega) (by omega) (by omega) (by omega) (by omega) (by omega) (by omega) (by omega) (by omega)) ⟨.inl rfl, .inl rfl, .inl rfl, .inl rfl, trivial⟩
                · skip
                  exfalso; omega
              · skip
                obtain ⟨h5489_0, h5489_1⟩ := h5489
                refine go_if (k := 1) (p1 := 1435) (p2 := 1433) (L' := [some (.inr (.inr (some 3000))), some (.inr (.inr (some 0))), some (.inr (.inr (some 79))), some (.inl l18_3)]) (st' := []) (w' := (SH, dt2776)) (fun _ => rfl) (c_eq (a := dt2776 7 3) (b := 0) ⟨by omega, by omega⟩ ⟨by omega, by omega⟩) (fun c5497 => ?_) (fun c5497 => ?_)
                · skip
                  refine go_to (k := 2) (pc' := 18) (L' := [some (.inr (.inr (some 3000))), some (.inr (.inr (some 0))), some (.inr (.inr (some 79))), some (.inl (l18_3 + 6))]) (st' := []) (w' := (SH, dt2776)) (fun _ => rfl) ?_
                  exact GO.le (ih_loop2795 (l18_3 + 6) dt2776 hI2777 hF2778 hM_dt2776 (by omega) (by exact hM2L) (by omega) (by omega) (by omega) (by omega) (by omega) (by omega) (by omega) (by omega) (by omega) (by omega) (by omega) (by omega) (by omega) (by omega) (by omega)) ⟨.inl rfl, .inl rfl, .inl rfl, .inl rfl, trivial⟩
                · skip
                  exfalso; omega
              · skip
                refine go_if (k := 1) (p1 := 1435) (p2 := 1433) (L' := [some (.inr (.inr (some 3000))), some (.inr (.inr (some 0))), some (.inr (.inr (some 79))), some (.inl l18_3)]) (st' := []) (w' := (SH, dt2776)) (fun _ => rfl) (c_eq (a := dt2776 7 3) (b := (-1)) ⟨by omega, by omega⟩ ⟨by omega, by omega⟩) (fun c5498 => ?_) (fun c5498 => ?_)
                · skip
                  refine go_to (k := 2) (pc' := 18) (L' := [some (.inr (.inr (some 3000))), some (.inr (.inr (some 0))), some (.inr (.inr (some 79))), some (.inl (l18_3 + 6))]) (st' := []) (w' := (SH, dt2776)) (fun _ => rfl) ?_
                  exact GO.le (ih_loop2795 (l18_3 + 6) dt2776 hI2777 hF2778 hM_dt2776 (by omega) (by exact hM2L) (by omega) (by omega) (by omega) (by omega) (by omega) (by omega) (by omega) (by omega) (by omega) (by omega) (by omega) (by omega) (by omega) (by omega) (by omega)) ⟨.inl rfl, .inl rfl, .inl rfl, .inl rfl, trivial⟩
                · skip
                  exfalso; omega
            · skip
              refine go_to (k := 5) (pc' := 1426) (L' := [some (.inr (.inr (some 3000))), some (.inr (.inr (some 0))), some (.inr (.inr (some 79))), some (.inl l18_3)]) (st' := [.inl (l18_3 + 1), .inr (.inr (some 3000)), .inr (.inr (some 79)), .inl (dt2776 10 3)]) (w' := (SH, dt2776)) (fun _ => rfl) ?_
              refine go_smp (L' := [some (.inr (.inr (some 3000))), some (.inr (.inr (some 0))), some (.inr (.inr (some 79))), some (.inl l18_3)]) (st' := [.inl ((xs ((l18_3 + 1).toNat)).toInt), .inr (.inr (some 79)), .inl (dt2776 10 3)]) (w' := (SH, dt2776)) rfl rfl (s_iald (n := L) (f := fun j => (xs j).toInt) (am_scr hLL) ⟨by omega, by omega⟩) ?_
              refine go_call (Q' := _) rfl rfl rfl rfl rfl (sp_X6_look L xs sio (d + 38) dt2776 hI2777  ((xs ((l18_3 + 1).toNat)).toInt) ⟨by omega, by omega⟩ ) ?_
              rintro _ _ ⟨rfl, h5499⟩
              refine ⟨rfl, ?_⟩
              rcases h5499 with ⟨rfl, h5499⟩ | ⟨rfl, h5499⟩ | ⟨rfl, h5499⟩ | ⟨rfl, h5499⟩ | ⟨rfl, h5499⟩ | ⟨rfl, h5499⟩ | ⟨rfl, h5499⟩ | ⟨rfl, h5499⟩ | ⟨rfl, h5499⟩
              · skip
                refine go_if (k := 1) (p1 := 1435) (p2 := 1433) (L' := [some (.inr (.inr (some 3000))), some (.inr (.inr (some 0))), some (.inr (.inr (some 79))), some (.inl l18_3)]) (st' := []) (w' := (SH, dt2776)) (fun _ => rfl) (c_eq (a := dt2776 10 3) (b := dt2776 80 1) ⟨by omega, by omega⟩ ⟨by omega, by omega⟩) (fun c5500 => ?_) (fun c5500 => ?_)
                · skip
                  refine go_to (k := 2) (pc' := 18) (L' := [some (.inr (.inr (some 3000))), some (.inr (.inr (some 0))), some (.inr (.inr (some 79))), some (.inl (l18_3 + 6))]) (st' := []) (w' := (SH, dt2776)) (fun _ => rfl) ?_
                  exact GO.le (ih_loop2795 (l18_3 + 6) dt2776 hI2777 hF2778 hM_dt2776 (by omega) (by exact hM2L) (by omega) (by omega) (by omega) (by omega) (by omega) (by omega) (by omega) (by omega) (by omega) (by omega) (by omega) (by omega) (by omega) (by omega) (by omega)) ⟨.inl rfl, .inl rfl, .inl rfl, .inl rfl, trivial⟩
                · skip
                  exfalso; omega
              · skip
                refine go_if (k := 1) (p1 := 1435) (p2 := 1433) (L' := [some (.inr (.inr (some 3000))), some (.inr (.inr (some 0))), some (.inr (.inr (some 79))), some (.inl l18_3)]) (st' := []) (w' := (SH, dt2776)) (fun _ => rfl) (c_eq (a := dt2776 10 3) (b := dt2776 80 2) ⟨by omega, by omega⟩ ⟨by omega, by omega⟩) (fun c5501 => ?_) (fun c5501 => ?_)
                · skip
                  refine go_to (k := 2) (pc' := 18) (L' := [some (.inr (.inr (some 3000))), some (.inr (.inr (some 0))), some (.inr (.inr (some 79))), some (.inl (l18_3 + 6))]) (st' := []) (w' := (SH, dt2776)) (fun _ => rfl) ?_
                  exact GO.le (ih_loop2795 (l18_3 + 6) dt2776 hI2777 hF2778 hM_dt2776 (by omega) (by exact hM2L) (by omega) (by omega) (by omega) (by omega) (by omega) (by omega) (by omega) (by omega) (by omega) (by omega) (by omega) (by omega) (by omega) (by omega) (by omega)) ⟨.inl rfl, .inl rfl, .inl rfl, .inl rfl, trivial⟩
                · skip
                  exfalso; omega
              · skip
                refine go_if (k := 1) (p1 := 1435) (p2 := 1433) (L' := [some (.inr (.inr (some 3000))), some (.inr (.inr (some 0))), some (.inr (.inr (some 79))), some (.inl l18_3)]) (st' := []) (w' := (SH, dt2776)) (fun _ => rfl) (c_eq (a := dt2776 10 3) (b := dt2776 80 3) ⟨by omega, by omega⟩ ⟨by omega, by omega⟩) (fun c5502 => ?_) (fun c5502 => ?_)
                · skip
                  refine go_to (k := 2) (pc' := 18) (L' := [some (.inr (.inr (some 3000))), some (.inr (.inr (some 0))), some (.inr (.inr (some 79))), some (.inl (l18_3 + 6))]) (st' := []) (w' := (SH, dt2776)) (fun _ => rfl) ?_
                  exact GO.le (ih_loop2795 (l18_3 + 6) dt2776 hI2777 hF2778 hM_dt2776 (by omega) (by exact hM2L) (by omega) (by omega) (by omega) (by omega) (by omega) (by omega) (by omega) (by omega) (by omega) (by omega) (by omega) (by omega) (by omega) (by omega) (by omega)) ⟨.inl rfl, .inl rfl, .inl rfl, .inl rfl, trivial⟩
                · skip
                  exfalso; omega
              · skip
                refine go_if (k := 1) (p1 := 1435) (p2 := 1433) (L' := [some (.inr (.inr (some 3000))), some (.inr (.inr (some 0))), some (.inr (.inr (some 79))), some (.inl l18_3)]) (st' := []) (w' := (SH, dt2776)) (fun _ => rfl) (c_eq (a := dt2776 10 3) (b := dt2776 80 4) ⟨by omega, by omega⟩ ⟨by omega, by omega⟩) (fun c5503 => ?_) (fun c5503 => ?_)
                · skip
                  refine go_to (k := 2) (pc' := 18) (L' := [some (.inr (.inr (some 3000))), some (.inr (.inr (some 0))), some (.inr (.inr (some 79))), some (.inl (l18_3 + 6))]) (st' := []) (w' := (SH, dt2776)) (fun _ => rfl) ?_
                  exact GO.le (ih_loop2795 (l18_3 + 6) dt2776 hI2777 hF2778 hM_dt2776 (by omega) (by exact hM2L) (by omega) (by omega) (by omega) (by omega) (by omega) (by omega) (by omega) (by omega) (by omega) (by omega) (by omega) (by omega) (by omega) (by omega) (by omega)) ⟨.inl rfl, .inl rfl, .inl rfl, .inl rfl, trivial⟩
                · skip
                  exfalso; omega
              · skip
                refine go_if (k := 1) (p1 := 1435) (p2 := 1433) (L' := [some (.inr (.inr (some 3000))), some (.inr (.inr (some 0))), some (.inr (.inr (some 79))), some (.inl l18_3)]) (st' := []) (w' := (SH, dt2776)) (fun _ => rfl) (c_eq (a := dt2776 10 3) (b := dt2776 80 5) ⟨by omega, by omega⟩ ⟨by omega, by omega⟩) (fun c5504 => ?_) (fun c5504 => ?_)
                · skip
                  refine go_to (k := 2) (pc' := 18) (L' := [some (.inr (.inr (some 3000))), some (.inr (.inr (some 0))), some (.inr (.inr (some 79))), some (.inl (l18_3 + 6))]) (st' := []) (w' := (SH, dt2776)) (fun _ => rfl) ?_
                  exact GO.le (ih_loop2795 (l18_3 + 6) dt2776 hI2777 hF2778 hM_dt2776 (by omega) (by exact hM2L) (by omega) (by omega) (by omega) (by omega) (by omega) (by omega) (by omega) (by omega) (by omega) (by omega) (by omega) (by omega) (by omega) (by omega) (by omega)) ⟨.inl rfl, .inl rfl, .inl rfl, .inl rfl, trivial⟩
                · skip
                  exfalso; omega
              · skip
                refine go_if (k := 1) (p1 := 1435) (p2 := 1433) (L' := [some (.inr (.inr (some 3000))), some (.inr (.inr (some 0))), some (.inr (.inr (some 79))), some (.inl l18_3)]) (st' := []) (w' := (SH, dt2776)) (fun _ => rfl) (c_eq (a := dt2776 10 3) (b := dt2776 80 0) ⟨by omega, by omega⟩ ⟨by omega, by omega⟩) (fun c5505 => ?_) (fun c5505 => ?_)
                · skip
                  refine go_to (k := 2) (pc' := 18) (L' := [some (.inr (.inr (some 3000))), some (.inr (.inr (some 0))), some (.inr (.inr (some 79))), some (.inl (l18_3 + 6))]) (st' := []) (w' := (SH, dt2776)) (fun _ => rfl) ?_
                  exact GO.le (ih_loop2795 (l18_3 + 6) dt2776 hI2777 hF2778 hM_dt2776 (by omega) (by exact hM2L) (by omega) (by omega) (by omega) (by omega) (by omega) (by omega) (by omega) (by omega) (by omega) (by omega) (by omega) (by omega) (by omega) (by omega) (by omega)) ⟨.inl rfl, .inl rfl, .inl rfl, .inl rfl, trivial⟩
                · skip
                  exfalso; omega
              · skip
                obtain ⟨h5499_0, h5499_1⟩ := h5499
                refine go_if (k := 1) (p1 := 1435) (p2 := 1433) (L' := [some (.inr (.inr (some 3000))), some (.inr (.inr (some 0))), some (.inr (.inr (some 79))), some (.inl l18_3)]) (st' := []) (w' := (SH, dt2776)) (fun _ => rfl) (c_eq (a := dt2776 10 3) (b := 1) ⟨by omega, by omega⟩ ⟨by omega, by omega⟩) (fun c5506 => ?_) (fun c5506 => ?_)
                · skip
                  refine go_to (k := 2) (pc' := 18) (L' := [some (.inr (.inr (some 3000))), some (.inr (.inr (some 0))), some (.inr (.inr (some 79))), some (.inl (l18_3 + 6))]) (st' := []) (w' := (SH, dt2776)) (fun _ => rfl) ?_
                  exact GO.le (ih_loop2795 (l18_3 + 6) dt2776 hI2777 hF2778 hM_dt2776 (by omega) (by exact hM2L) (by omega) (by omega) (by omega) (by omega) (by omega) (by omega) (by omega) (by omega) (by omega) (by omega) (by omega) (by omega) (by omega) (by omega) (by omega)) ⟨.inl rfl, .inl rfl, .inl rfl, .inl rfl, trivial⟩
                · skip
                  exfalso; omega
              · skip
                obtain ⟨h5499_0, h5499_1⟩ := h5499
                refine go_if (k := 1) (p1 := 1435) (p2 := 1433) (L' := [some (.inr (.inr (some 3000))), some (.inr (.inr (some 0))), some (.inr (.inr (some 79))), some (.inl l18_3)]) (st' := []) (w' := (SH, dt2776)) (fun _ => rfl) (c_eq (a := dt2776 10 3) (b := 0) ⟨by omega, by omega⟩ ⟨by omega, by omega⟩) (fun c5507 => ?_) (fun c5507 => ?_)
                · skip
                  refine go_to (k := 2) (pc' := 18) (L' := [some (.inr (.inr (some 3000))), some (.inr (.inr (some 0))), some (.inr (.inr (some 79))), some (.inl (l18_3 + 6))]) (st' := []) (w' := (SH, dt2776)) (fun _ => rfl) ?_
                  exact GO.le (ih_loop2795 (l18_3 + 6) dt2776 hI2777 hF2778 hM_dt2776 (by omega) (by exact hM2L) (by omega) (by omega) (by omega) (by omega) (by omega) (by omega) (by omega) (by omega) (by omega) (by omega) (by omega) (by omega) (by omega) (by omega) (by omega)) ⟨.inl rfl, .inl rfl, .inl rfl, .inl rfl, trivial⟩
                · skip
                  exfalso; omega
              · skip
                refine go_if (k := 1) (p1 := 1435) (p2 := 1433) (L' := [some (.inr (.inr (some 3000))), some (.inr (.inr (some 0))), some (.inr (.inr (some 79))), some (.inl l18_3)]) (st' := []) (w' := (SH, dt2776)) (fun _ => rfl) (c_eq (a := dt2776 10 3) (b := (-1)) ⟨by omega, by omega⟩ ⟨by omega, by omega⟩) (fun c5508 => ?_) (fun c5508 => ?_)
                · skip
                  refine go_to (k := 2) (pc' := 18) (L' := [some (.inr (.inr (some 3000))), some (.inr (.inr (some 0))), some (.inr (.inr (some 79))), some (.inl (l18_3 + 6))]) (st' := []) (w' := (SH, dt2776)) (fun _ => rfl) ?_
                  exact GO.le (ih_loop2795 (l18_3 + 6) dt2776 hI2777 hF2778 hM_dt2776 (by omega) (by exact hM2L) (by omega) (by omega) (by omega) (by omega) (by omega) (by omega) (by omega) (by omega) (by omega) (by omega) (by omega) (by omega) (by omega) (by omega) (by omega)) ⟨.inl rfl, .inl rfl, .inl rfl, .inl rfl, trivial⟩
                · skip
                  exfalso; omega
            · skip
              refine go_to (k := 5) (pc' := 1426) (L' := [some (.inr (.inr (some 3000))), some (.inr (.inr (some 0))), some (.inr (.inr (some 79))), some (.inl l18_3)]) (st' := [.inl (l18_3 + 1), .inr (.inr (some 3000)), .inr (.inr (some 79)), .inl (dt2776 12 3)]) (w' := (SH, dt2776)) (fun _ => rfl) ?_
              refine go_smp (L' := [some (.inr (.inr (some 3000))), some (.inr (.inr (some 0))), some (.inr (.inr (some 79))), some (.inl l18_3)]) (st' := [.inl ((xs ((l18_3 + 1).toNat)).toInt), .inr (.inr (some 79)), .inl (dt2776 12 3)]) (w' := (SH, dt2776)) rfl rfl (s_iald (n := L) (f := fun j => (xs j).toInt) (am_scr hLL) ⟨by omega, by omega⟩) ?_
              refine go_call (Q' := _) rfl rfl rfl rfl rfl (sp_X6_look L xs sio (d + 38) dt2776 hI2777  ((xs ((l18_3 + 1).toNat)).toInt) ⟨by omega, by omega⟩ ) ?_
              rintro _ _ ⟨rfl, h5509⟩
              refine ⟨rfl, ?_⟩
              rcases h5509 with ⟨rfl, h5509⟩ | ⟨rfl, h5509⟩ | ⟨rfl, h5509⟩ | ⟨rfl, h5509⟩ | ⟨rfl, h5509⟩ | ⟨rfl, h5509⟩ | ⟨rfl, h5509⟩ | ⟨rfl, h5509⟩ | ⟨rfl, h5509⟩
              · skip
                refine go_if (k := 1) (p1 := 1435) (p2 := 1433) (L' := [some (.inr (.inr (some 3000))), some (.inr (.inr (some 0))), some (.inr (.inr (some 79))), some (.inl l18_3)]) (st' := []) (w' := (SH, dt2776)) (fun _ => rfl) (c_eq (a := dt2776 12 3) (b := dt2776 80 1) ⟨by omega, by omega⟩ ⟨by omega, by omega⟩) (fun c5510 => ?_) (fun c5510 => ?_)
                · skip
                  refine go_to (k := 2) (pc' := 18) (L' := [some (.inr (.inr (some 3000))), some (.inr (.inr (some 0))), some (.inr (.inr (some 79))), some (.inl (l18_3 + 6))]) (st' := []) (w' := (SH, dt2776)) (fun _ => rfl) ?_
                  exact GO.le (ih_loop2795 (l18_3 + 6) dt2776 hI2777 hF2778 hM_dt2776 (by omega) (by exact hM2L) (by omega) (by omega) (by omega) (by omega) (by omega) (by omega) (by omega) (by omega) (by omega) (by omega) (by omega) (by omega) (by omega) (by omega) (by omega)) ⟨.inl rfl, .inl rfl, .inl rfl, .inl rfl, trivial⟩
                · skip
                  exfalso; omega
              · skip
                refine go_if (k := 1) (p1 := 1435) (p2 := 1433) (L' := [some (.inr (.inr (some 3000))), some (.inr (.inr (some 0))), some (.inr (.inr (some 79))), some (.inl l18_3)]) (st' := []) (w' := (SH, dt2776)) (fun _ => rfl) (c_eq (a := dt2776 12 3) (b := dt2776 80 2) ⟨by omega, by omega⟩ ⟨by omega, by omega⟩) (fun c5511 => ?_) (fun c5511 => ?_)
                · skip
                  refine go_to (k := 2) (pc' := 18) (L' := [some (.inr (.inr (some 3000))), some (.inr (.inr (some 0))), some (.inr (.inr (some 79))), some (.inl (l18_3 + 6))]) (st' := []) (w' := (SH, dt2776)) (fun _ => rfl) ?_
                  exact GO.le (ih_loop2795 (l18_3 + 6) dt2776 hI2777 hF2778 hM_dt2776 (by omega) (by exact hM2L) (by omega) (by omega) (by omega) (by omega) (by omega) (by omega) (by omega) (by omega) (by omega) (by omega) (by omega) (by omega) (by omega) (by omega) (by omega)) ⟨.inl rfl, .inl rfl, .inl rfl, .inl rfl, trivial⟩
                · skip
                  exfalso; omega
              · skip
                refine go_if (k := 1) (p1 := 1435) (p2 := 1433) (L' := [some (.inr (.inr (some 3000))), some (.inr (.inr (some 0))), some (.inr (.inr (some 79))), some (.inl l18_3)]) (st' := []) (w' := (SH, dt2776)) (fun _ => rfl) (c_eq (a := dt2776 12 3) (b := dt2776 80 3) ⟨by omega, by omega⟩ ⟨by omega, by omega⟩) (fun c5512 => ?_) (fun c5512 => ?_)
                · skip
                  refine go_to (k := 2) (pc' := 18) (L' := [some (.inr (.inr (some 3000))), some (.inr (.inr (some 0))), some (.inr (.inr (some 79))), some (.inl (l18_3 + 6))]) (st' := []) (w' := (SH, dt2776)) (fun _ => rfl) ?_
                  exact GO.le (ih_loop2795 (l18_3 + 6) dt2776 hI2777 hF2778 hM_dt2776 (by omega) (by exact hM2L) (by omega) (by omega) (by omega) (by omega) (by omega) (by omega) (by omega) (by omega) (by omega) (by omega) (by omega) (by omega) (by omega) (by omega) (by omega)) ⟨.inl rfl, .inl rfl, .inl rfl, .inl rfl, trivial⟩
                · skip
                  exfalso; omega
              · skip
                refine go_if (k := 1) (p1 := 1435) (p2 := 1433) (L' := [some (.inr (.inr (some 3000))), some (.inr (.inr (some 0))), some (.inr (.inr (some 79))), some (.inl l18_3)]) (st' := []) (w' := (SH, dt2776)) (fun _ => rfl) (c_eq (a := dt2776 12 3) (b := dt2776 80 4) ⟨by omega, by omega⟩ ⟨by omega, by omega⟩) (fun c5513 => ?_) (fun c5513 => ?_)
                · skip
                  refine go_to (k := 2) (pc' := 18) (L' := [some (.inr (.inr (some 3000))), some (.inr (.inr (some 0))), some (.inr (.inr (some 79))), some (.inl (l18_3 + 6))]) (st' := []) (w' := (SH, dt2776)) (fun _ => rfl) ?_
                  exact GO.le (ih_loop2795 (l18_3 + 6) dt2776 hI2777 hF2778 hM_dt2776 (by omega) (by exact hM2L) (by omega) (by omega) (by omega) (by omega) (by omega) (by omega) (by omega) (by omega) (by omega) (by omega) (by omega) (by omega) (by omega) (by omega) (by omega)) ⟨.inl rfl, .inl rfl, .inl rfl, .inl rfl, trivial⟩
                · skip
                  exfalso; omega
              · skip
                refine go_if (k := 1) (p1 := 1435) (p2 := 1433) (L' := [some (.inr (.inr (some 3000))), some (.inr (.inr (some 0))), some (.inr (.inr (some 79))), some (.inl l18_3)]) (st' := []) (w' := (SH, dt2776)) (fun _ => rfl) (c_eq (a := dt2776 12 3) (b := dt2776 80 5) ⟨by omega, by omega⟩ ⟨by omega, by omega⟩) (fun c5514 => ?_) (fun c5514 => ?_)
                · skip
                  refine go_to (k := 2) (pc' := 18) (L' := [some (.inr (.inr (some 3000))), some (.inr (.inr (some 0))), some (.inr (.inr (some 79))), some (.inl (l18_3 + 6))]) (st' := []) (w' := (SH, dt2776)) (fun _ => rfl) ?_
                  exact GO.le (ih_loop2795 (l18_3 + 6) dt2776 hI2777 hF2778 hM_dt2776 (by omega) (by exact hM2L) (by omega) (by omega) (by omega) (by omega) (by omega) (by omega) (by omega) (by omega) (by omega) (by omega) (by omega) (by omega) (by omega) (by omega) (by omega)) ⟨.inl rfl, .inl rfl, .inl rfl, .inl rfl, trivial⟩
                · skip
                  exfalso; omega
              · skip
                refine go_if (k := 1) (p1 := 1435) (p2 := 1433) (L' := [some (.inr (.inr (some 3000))), some (.inr (.inr (some 0))), some (.inr (.inr (some 79))), some (.inl l18_3)]) (st' := []) (w' := (SH, dt2776)) (fun _ => rfl) (c_eq (a := dt2776 12 3) (b := dt2776 80 0) ⟨by omega, by omega⟩ ⟨by omega, by omega⟩) (fun c5515 => ?_) (fun c5515 => ?_)
                · skip
                  refine go_to (k := 2) (pc' := 18) (L' := [some (.inr (.inr (some 3000))), some (.inr (.inr (some 0))), some (.inr (.inr (some 79))), some (.inl (l18_3 + 6))]) (st' := []) (w' := (SH, dt2776)) (fun _ => rfl) ?_
                  exact GO.le (ih_loop2795 (l18_3 + 6) dt2776 hI2777 hF2778 hM_dt2776 (by omega) (by exact hM2L) (by omega) (by omega) (by omega) (by omega) (by omega) (by omega) (by omega) (by omega) (by omega) (by omega) (by omega) (by omega) (by omega) (by omega) (by omega)) ⟨.inl rfl, .inl rfl, .inl rfl, .inl rfl, trivial⟩
                · skip
                  exfalso; omega
              · skip
                obtain ⟨h5509_0, h5509_1⟩ := h5509
                refine go_if (k := 1) (p1 := 1435) (p2 := 1433) (L' := [some (.inr (.inr (some 3000))), some (.inr (.inr (some 0))), some (.inr (.inr (some 79))), some (.inl l18_3)]) (st' := []) (w' := (SH, dt2776)) (fun _ => rfl) (c_eq (a := dt2776 12 3) (b := 1) ⟨by omega, by omega⟩ ⟨by omega, by omega⟩) (fun c5516 => ?_) (fun c5516 => ?_)
                · skip
                  refine go_to (k := 2) (pc' := 18) (L' := [some (.inr (.inr (some 3000))), some (.inr (.inr (some 0))), some (.inr (.inr (some 79))), some (.inl (l18_3 + 6))]) (st' := []) (w' := (SH, dt2776)) (fun _ => rfl) ?_
                  exact GO.le (ih_loop2795 (l18_3 + 6) dt2776 hI2777 hF2778 hM_dt2776 (by omega) (by exact hM2L) (by omega) (by omega) (by omega) (by omega) (by omega) (by omega) (by omega) (by omega) (by omega) (by omega) (by omega) (by omega) (by omega) (by omega) (by omega)) ⟨.inl rfl, .inl rfl, .inl rfl, .inl rfl, trivial⟩
                · skip
                  exfalso; omega
              · skip
                obtain ⟨h5509_0, h5509_1⟩ := h5509
                refine go_if (k := 1) (p1 := 1435) (p2 := 1433) (L' := [some (.inr (.inr (some 3000))), some (.inr (.inr (some 0))), some (.inr (.inr (some 79))), some (.inl l18_3)]) (st' := []) (w' := (SH, dt2776)) (fun _ => rfl) (c_eq (a := dt2776 12 3) (b := 0) ⟨by omega, by omega⟩ ⟨by omega, by omega⟩) (fun c5517 => ?_) (fun c5517 => ?_)
                · skip
                  refine go_to (k := 2) (pc' := 18) (L' := [some (.inr (.inr (some 3000))), some (.inr (.inr (some 0))), some (.inr (.inr (some 79))), some (.inl (l18_3 + 6))]) (st' := []) (w' := (SH, dt2776)) (fun _ => rfl) ?_
                  exact GO.le (ih_loop2795 (l18_3 + 6) dt2776 hI2777 hF2778 hM_dt2776 (by omega) (by exact hM2L) (by omega) (by omega) (by omega) (by omega) (by omega) (by omega) (by omega) (by omega) (by omega) (by omega) (by omega) (by omega) (by omega) (by omega) (by omega)) ⟨.inl rfl, .inl rfl, .inl rfl, .inl rfl, trivial⟩
                · skip
                  exfalso; omega
              · skip
                refine go_if (k := 1) (p1 := 1435) (p2 := 1433) (L' := [some (.inr (.inr (some 3000))), some (.inr (.inr (some 0))), some (.inr (.inr (some 79))), some (.inl l18_3)]) (st' := []) (w' := (SH, dt2776)) (fun _ => rfl) (c_eq (a := dt2776 12 3) (b := (-1)) ⟨by omega, by omega⟩ ⟨by omega, by omega⟩) (fun c5518 => ?_) (fun c5518 => ?_)
                · skip
                  refine go_to (k := 2) (pc' := 18) (L' := [some (.inr (.inr (some 3000))), some (.inr (.inr (some 0))), some (.inr (.inr (some 79))), some (.inl (l18_3 + 6))]) (st' := []) (w' := (SH, dt2776)) (fun _ => rfl) ?_
                  exact GO.le (ih_loop2795 (l18_3 + 6) dt2776 hI2777 hF2778 hM_dt2776 (by omega) (by exact hM2L) (by omega) (by omega) (by omega) (by omega) (by omega) (by omega) (by omega) (by omega) (by omega) (by omega) (by omega) (by omega) (by omega) (by omega) (by omega)) ⟨.inl rfl, .inl rfl, .inl rfl, .inl rfl, trivial⟩
                · skip
                  exfalso; omega
            · skip
              refine go_to (k := 5) (pc' := 1426) (L' := [some (.inr (.inr (some 3000))), some (.inr (.inr (some 0))), some (.inr (.inr (some 79))), some (.inl l18_3)]) (st' := [.inl (l18_3 + 1), .inr (.inr (some 3000)), .inr (.inr (some 79)), .inl (dt2776 14 3)]) (w' := (SH, dt2776)) (fun _ => rfl) ?_
              refine go_smp (L' := [some (.inr (.inr (some 3000))), some (.inr (.inr (some 0))), some (.inr (.inr (some 79))), some (.inl l18_3)]) (st' := [.inl ((xs ((l18_3 + 1).toNat)).toInt), .inr (.inr (some 79)), .inl (dt2776 14 3)]) (w' := (SH, dt2776)) rfl rfl (s_iald (n := L) (f := fun j => (xs j).toInt) (am_scr hLL) ⟨by omega, by omega⟩) ?_
              refine go_call (Q' := _) rfl rfl rfl rfl rfl (sp_X6_look L xs sio (d + 38) dt2776 hI2777  ((xs ((l18_3 + 1).toNat)).toInt) ⟨by omega, by omega⟩ ) ?_
              rintro _ _ ⟨rfl, h5519⟩
              refine ⟨rfl, ?_⟩
              rcases h5519 with ⟨rfl, h5519⟩ | ⟨rfl, h5519⟩ | ⟨rfl, h5519⟩ | ⟨rfl, h5519⟩ | ⟨rfl, h5519⟩ | ⟨rfl, h5519⟩ | ⟨rfl, h5519⟩ | ⟨rfl, h5519⟩ | ⟨rfl, h5519⟩
              · skip
                refine go_if (k := 1) (p1 := 1435) (p2 := 1433) (L' := [some (.inr (.inr (some 3000))), some (.inr (.inr (some 0))), some (.inr (.inr (some 79))), some (.inl l18_3)]) (st' := []) (w' := (SH, dt2776)) (fun _ => rfl) (c_eq (a := dt2776 14 3) (b := dt2776 80 1) ⟨by omega, by omega⟩ ⟨by omega, by omega⟩) (fun c5520 => ?_) (fun c5520 => ?_)
                · skip
                  refine go_to (k := 2) (pc' := 18) (L' := [some (.inr (.inr (some 3000))), some (.inr (.inr (some 0))), some (.inr (.inr (some 79))), some (.inl (l18_3 + 6))]) (st' := []) (w' := (SH, dt2776)) (fun _ => rfl) ?_
                  exact GO.le (ih_loop2795 (l18_3 + 6) dt2776 hI2777 hF2778 hM_dt2776 (by omega) (by exact hM2L) (by omega) (by omega) (by omega) (by omega) (by omega) (by omega) (by omega) (by omega) (by omega) (by omega) (by omega) (by omega) (by omega) (by omega) (by omega)) ⟨.inl rfl, .inl rfl, .inl rfl, .inl rfl, trivial⟩
                · skip
                  exfalso; omega
              · skip
                refine go_if (k := 1) (p1 := 1435) (p2 := 1433) (L' := [some (.inr (.inr (some 3000))), some (.inr (.inr (some 0))), some (.inr (.inr (some 79))), some (.inl l18_3)]) (st' := []) (w' := (SH, dt2776)) (fun _ => rfl) (c_eq (a := dt2776 14 3) (b := dt2776 80 2) ⟨by omega, by omega⟩ ⟨by omega, by omega⟩) (fun c5521 => ?_) (fun c5521 => ?_)
                · skip
                  refine go_to (k := 2) (pc' := 18) (L' := [some (.inr (.inr (some 3000))), some (.inr (.inr (some 0))), some (.inr (.inr (some 79))), some (.inl (l18_3 + 6))]) (st' := []) (w' := (SH, dt2776)) (fun _ => rfl) ?_
                  exact GO.le (ih_loop2795 (l18_3 + 6) dt2776 hI2777 hF2778 hM_dt2776 (by omega) (by exact hM2L) (by omega) (by omega) (by omega) (by omega) (by omega) (by omega) (by omega) (by omega) (by omega) (by omega) (by omega) (by omega) (by omega) (by omega) (by omega)) ⟨.inl rfl, .inl rfl, .inl rfl, .inl rfl, trivial⟩
                · skip
                  exfalso; omega
              · skip
                refine go_if (k := 1) (p1 := 1435) (p2 := 1433) (L' := [some (.inr (.inr (some 3000))), some (.inr (.inr (some 0))), some (.inr (.inr (some 79))), some (.inl l18_3)]) (st' := []) (w' := (SH, dt2776)) (fun _ => rfl) (c_eq (a := dt2776 14 3) (b := dt2776 80 3) ⟨by omega, by omega⟩ ⟨by omega, by omega⟩) (fun c5522 => ?_) (fun c5522 => ?_)
                · skip
                  refine go_to (k := 2) (pc' := 18) (L' := [some (.inr (.inr (some 3000))), some (.inr (.inr (some 0))), some (.inr (.inr (some 79))), some (.inl (l18_3 + 6))]) (st' := []) (w' := (SH, dt2776)) (fun _ => rfl) ?_
                  exact GO.le (ih_loop2795 (l18_3 + 6) dt2776 hI2777 hF2778 hM_dt2776 (by omega) (by exact hM2L) (by omega) (by omega) (by omega) (by omega) (by omega) (by omega) (by omega) (by omega) (by omega) (by omega) (by omega) (by omega) (by omega) (by omega) (by omega)) ⟨.inl rfl, .inl rfl, .inl rfl, .inl rfl, trivial⟩
                · skip
                  exfalso; omega
              · skip
                refine go_if (k := 1) (p1 := 1435) (p2 := 1433) (L' := [some (.inr (.inr (some 3000))), some (.inr (.inr (some 0))), some (.inr (.inr (some 79))), some (.inl l18_3)]) (st' := []) (w' := (SH, dt2776)) (fun _ => rfl) (c_eq (a := dt2776 14 3) (b := dt2776 80 4) ⟨by omega, by omega⟩ ⟨by omega, by omega⟩) (fun c5523 => ?_) (fun c5523 => ?_)
                · skip
                  refine go_to (k := 2) (pc' := 18) (L' := [some (.inr (.inr (some 3000))), some (.inr (.inr (some 0))), some (.inr (.inr (some 79))), some (.inl (l18_3 + 6))]) (st' := []) (w' := (SH, dt2776)) (fun _ => rfl) ?_
                  exact GO.le (ih_loop2795 (l18_3 + 6) dt2776 hI2777 hF2778 hM_dt2776 (by omega) (by exact hM2L) (by omega) (by omega) (by omega) (by omega) (by omega) (by omega) (by omega) (by omega) (by omega) (by omega) (by omega) (by omega) (by omega) (by omega) (by omega)) ⟨.inl rfl, .inl rfl, .inl rfl, .inl rfl, trivial⟩
                · skip
                  exfalso; omega
              · skip
                refine go_if (k := 1) (p1 := 1435) (p2 := 1433) (L' := [some (.inr (.inr (some 3000))), some (.inr (.inr (some 0))), some (.inr (.inr (some 79))), some (.inl l18_3)]) (st' := []) (w' := (SH, dt2776)) (fun _ => rfl) (c_eq (a := dt2776 14 3) (b := dt2776 80 5) ⟨by omega, by omega⟩ ⟨by omega, by omega⟩) (fun c5524 => ?_) (fun c5524 => ?_)
                · skip
                  refine go_to (k := 2) (pc' := 18) (L' := [some (.inr (.inr (some 3000))), some (.inr (.inr (some 0))), some (.inr (.inr (some 79))), some (.inl (l18_3 + 6))]) (st' := []) (w' := (SH, dt2776)) (fun _ => rfl) ?_
                  exact GO.le (ih_loop2795 (l18_3 + 6) dt2776 hI2777 hF2778 hM_dt2776 (by omega) (by exact hM2L) (by omega) (by omega) (by omega) (by omega) (by omega) (by omega) (by omega) (by omega) (by omega) (by omega) (by omega) (by omega) (by omega) (by omega) (by omega)) ⟨.inl rfl, .inl rfl, .inl rfl, .inl rfl, trivial⟩
                · skip
                  exfalso; omega
              · skip
                refine go_if (k := 1) (p1 := 1435) (p2 := 1433) (L' := [some (.inr (.inr (some 3000))), some (.inr (.inr (some 0))), some (.inr (.inr (some 79))), some (.inl l18_3)]) (st' := []) (w' := (SH, dt2776)) (fun _ => rfl) (c_eq (a := dt2776 14 3) (b := dt2776 80 0) ⟨by omega, by omega⟩ ⟨by omega, by omega⟩) (fun c5525 => ?_) (fun c5525 => ?_)
                · skip
                  refine go_to (k := 2) (pc' := 18) (L' := [some (.inr (.inr (some 3000))), some (.inr (.inr (some 0))), some (.inr (.inr (some 79))), some (.inl (l18_3 + 6))]) (st' := []) (w' := (SH, dt2776)) (fun _ => rfl) ?_
                  exact GO.le (ih_loop2795 (l18_3 + 6) dt2776 hI2777 hF2778 hM_dt2776 (by omega) (by exact hM2L) (by omega) (by omega) (by omega) (by omega) (by omega) (by omega) (by omega) (by omega) (by omega) (by omega) (by omega) (by omega) (by omega) (by omega) (by omega)) ⟨.inl rfl, .inl rfl, .inl rfl, .inl rfl, trivial⟩
                · skip
                  exfalso; omega
              · skip
                obtain ⟨h5519_0, h5519_1⟩ := h5519
                refine go_if (k := 1) (p1 := 1435) (p2 := 1433) (L' := [some (.inr (.inr (some 3000))), some (.inr (.inr (some 0))), some (.inr (.inr (some 79))), some (.inl l18_3)]) (st' := []) (w' := (SH, dt2776)) (fun _ => rfl) (c_eq (a := dt2776 14 3) (b := 1) ⟨by omega, by omega⟩ ⟨by omega, by omega⟩) (fun c5526 => ?_) (fun c5526 => ?_)
                · skip
                  refine go_to (k := 2) (pc' := 18) (L' := [some (.inr (.inr (some 3000))), some (.inr (.inr (some 0))), some (.inr (.inr (some 79))), some (.inl (l18_3 + 6))]) (st' := []) (w' := (SH, dt2776)) (fun _ => rfl) ?_
                  exact GO.le (ih_loop2795 (l18_3 + 6) dt2776 hI2777 hF2778 hM_dt2776 (by omega) (by exact hM2L) (by omega) (by omega) (by omega) (by omega) (by omega) (by omega) (by omega) (by omega) (by omega) (by omega) (by omega) (by omega) (by omega) (by omega) (by omega)) ⟨.inl rfl, .inl rfl, .inl rfl, .inl rfl, trivial⟩
                · skip
                  exfalso; omega
              · skip
                obtain ⟨h5519_0, h5519_1⟩ := h5519
                refine go_if (k := 1) (p1 := 1435) (p2 := 1433) (L' := [some (.inr (.inr (some 3000))), some (.inr (.inr (some 0))), some (.inr (.inr (some 79))), some (.inl l18_3)]) (st' := []) (w' := (SH, dt2776)) (fun _ => rfl) (c_eq (a := dt2776 14 3) (b := 0) ⟨by omega, by omega⟩ ⟨by omega, by omega⟩) (fun c5527 => ?_) (fun c5527 => ?_)
                · skip
                  refine go_to (k := 2) (pc' := 18) (L' := [some (.inr (.inr (some 3000))), some (.inr (.inr (some 0))), some (.inr (.inr (some 79))), some (.inl (l18_3 + 6))]) (st' := []) (w' := (SH, dt2776)) (fun _ => rfl) ?_
                  exact GO.le (ih_loop2795 (l18_3 + 6) dt2776 hI2777 hF2778 hM_dt2776 (by omega) (by exact hM2L) (by omega) (by omega) (by omega) (by omega) (by omega) (by omega) (by omega) (by omega) (by omega) (by omega) (by omega) (by omega) (by omega) (by omega) (by omega)) ⟨.inl rfl, .inl rfl, .inl rfl, .inl rfl, trivial⟩
                · skip
                  exfalso; omega
              · skip
                refine go_if (k := 1) (p1 := 1435) (p2 := 1433) (L' := [some (.inr (.inr (some 3000))), some (.inr (.inr (some 0))), some (.inr (.inr (some 79))), some (.inl l18_3)]) (st' := []) (w' := (SH, dt2776)) (fun _ => rfl) (c_eq (a := dt2776 14 3) (b := (-1)) ⟨by omega, by omega⟩ ⟨by omega, by omega⟩) (fun c5528 => ?_) (fun c5528 => ?_)
                · skip
                  refine go_to (k := 2) (pc' := 18) (L' := [some (.inr (.inr (some 3000))), some (.inr (.inr (some 0))), some (.inr (.inr (some 79))), some (.inl (l18_3 + 6))]) (st' := []) (w' := (SH, dt2776)) (fun _ => rfl) ?_
                  exact GO.le (ih_loop2795 (l18_3 + 6) dt2776 hI2777 hF2778 hM_dt2776 (by omega) (by exact hM2L) (by omega) (by omega) (by omega) (by omega) (by omega) (by omega) (by omega) (by omega) (by omega) (by omega) (by omega) (by omega) (by omega) (by omega) (by omega)) ⟨.inl rfl, .inl rfl, .inl rfl, .inl rfl, trivial⟩
                · skip
                  exfalso; omega
            · skip
              refine go_to (k := 5) (pc' := 1426) (L' := [some (.inr (.inr (some 3000))), some (.inr (.inr (some 0))), some (.inr (.inr (some 79))), some (.inl l18_3)]) (st' := [.inl (l18_3 + 1), .inr (.inr (some 3000)), .inr (.inr (some 79)), .inl (dt2776 16 3)]) (w' := (SH, dt2776)) (fun _ => rfl) ?_
              refine go_smp (L' := [some (.inr (.inr (some 3000))), some (.inr (.inr (some 0))), some (.inr (.inr (some 79))), some (.inl l18_3)]) (st' := [.inl ((xs ((l18_3 + 1).toNat)).toInt), .inr (.inr (some 79)), .inl (dt2776 16 3)]) (w' := (SH, dt2776)) rfl rfl (s_iald (n := L) (f := fun j => (xs j).toInt) (am_scr hLL) ⟨by omega, by omega⟩) ?_
              refine go_call (Q' := _) rfl rfl rfl rfl rfl (sp_X6_look L xs sio (d + 38) dt2776 hI2777  ((xs ((l18_3 + 1).toNat)).toInt) ⟨by omega, by omega⟩ ) ?_
              rintro _ _ ⟨rfl, h5529⟩
              refine ⟨rfl, ?_⟩
              rcases h5529 with ⟨rfl, h5529⟩ | ⟨rfl, h5529⟩ | ⟨rfl, h5529⟩ | ⟨rfl, h5529⟩ | ⟨rfl, h5529⟩ | ⟨rfl, h5529⟩ | ⟨rfl, h5529⟩ | ⟨rfl, h5529⟩ | ⟨rfl, h5529⟩
              · skip
                refine go_if (k := 1) (p1 := 1435) (p2 := 1433) (L' := [some (.inr (.inr (some 3000))), some (.inr (.inr (some 0))), some (.inr (.inr (some 79))), some (.inl l18_3)]) (st' := []) (w' := (SH, dt2776)) (fun _ => rfl) (c_eq (a := dt2776 16 3) (b := dt2776 80 1) ⟨by omega, by omega⟩ ⟨by omega, by omega⟩) (fun c5530 => ?_) (fun c5530 => ?_)
                · skip
                  refine go_to (k := 2) (pc' := 18) (L' := [some (.inr (.inr (some 3000))), some (.inr (.inr (some 0))), some (.inr (.inr (some 79))), some (.inl (l18_3 + 6))]) (st' := []) (w' := (SH, dt2776)) (fun _ => rfl) ?_
                  exact GO.le (ih_loop2795 (l18_3 + 6) dt2776 hI2777 hF2778 hM_dt2776 (by omega) (by exact hM2L) (by omega) (by omega) (by omega) (by omega) (by omega) (by omega) (by omega) (by omega) (by omega) (by omega) (by omega) (by omega) (by omega) (by omega) (by omega)) ⟨.inl rfl, .inl rfl, .inl rfl, .inl rfl, trivial⟩
                · skip
                  exfalso; omega
              · skip
                refine go_if (k := 1) (p1 := 1435) (p2 := 1433) (L' := [some (.inr (.inr (some 3000))), some (.inr (.inr (some 0))), some (.inr (.inr (some 79))), some (.inl l18_3)]) (st' := []) (w' := (SH, dt2776)) (fun _ => rfl) (c_eq (a := dt2776 16 3) (b := dt2776 80 2) ⟨by omega, by omega⟩ ⟨by omega, by omega⟩) (fun c5531 => ?_) (fun c5531 => ?_)
                · skip
                  refine go_to (k := 2) (pc' := 18) (L' := [some (.inr (.inr (some 3000))), some (.inr (.inr (some 0))), some (.inr (.inr (some 79))), some (.inl (l18_3 + 6))]) (st' := []) (w' := (SH, dt2776)) (fun _ => rfl) ?_
                  exact GO.le (ih_loop2795 (l18_3 + 6) dt2776 hI2777 hF2778 hM_dt2776 (by omega) (by exact hM2L) (by omega) (by omega) (by omega) (by omega) (by omega) (by omega) (by omega) (by omega) (by omega) (by omega) (by omega) (by omega) (by omega) (by omega) (by omega)) ⟨.inl rfl, .inl rfl, .inl rfl, .inl rfl, trivial⟩
                · skip
                  exfalso; omega
              · skip
                refine go_if (k := 1) (p1 := 1435) (p2 := 1433) (L' := [some (.inr (.inr (some 3000))), some (.inr (.inr (some 0))), some (.inr (.inr (some 79))), some (.inl l18_3)]) (st' := []) (w' := (SH, dt2776)) (fun _ => rfl) (c_eq (a := dt2776 16 3) (b := dt2776 80 3) ⟨by omega, by omega⟩ ⟨by omega, by omega⟩) (fun c5532 => ?_) (fun c5532 => ?_)
                · skip
                  refine go_to (k := 2) (pc' := 18) (L' := [some (.inr (.inr (some 3000))), some (.inr (.inr (some 0))), some (.inr (.inr (some 79))), some (.inl (l18_3 + 6))]) (st' := []) (w' := (SH, dt2776)) (fun _ => rfl) ?_
                  exact GO.le (ih_loop2795 (l18_3 + 6) dt2776 hI2777 hF2778 hM_dt2776 (by omega) (by exact hM2L) (by omega) (by omega) (by omega) (by omega) (by omega) (by omega) (by omega) (by omega) (by omega) (by omega) (by omega) (by omega) (by omega) (by omega) (by omega)) ⟨.inl rfl, .inl rfl, .inl rfl, .inl rfl, trivial⟩
                · skip
                  exfalso; omega
              · skip
                refine go_if (k := 1) (p1 := 1435) (p2 := 1433) (L' := [some (.inr (.inr (some 3000))), some (.inr (.inr (some 0))), some (.inr (.inr (some 79))), some (.inl l18_3)]) (st' := []) (w' := (SH, dt2776)) (fun _ => rfl) (c_eq (a := dt2776 16 3) (b := dt2776 80 4) ⟨by omega, by omega⟩ ⟨by omega, by omega⟩) (fun c5533 => ?_) (fun c5533 => ?_)
                · skip
                  refine go_to (k := 2) (pc' := 18) (L' := [some (.inr (.inr (some 3000))), some (.inr (.inr (some 0))), some (.inr (.inr (some 79))), some (.inl (l18_3 + 6))]) (st' := []) (w' := (SH, dt2776)) (fun _ => rfl) ?_
                  exact GO.le (ih_loop2795 (l18_3 + 6) dt2776 hI2777 hF2778 hM_dt2776 (by omega) (by exact hM2L) (by omega) (by omega) (by omega) (by omega) (by omega) (by omega) (by omega) (by omega) (by omega) (by omega) (by omega) (by omega) (by omega) (by omega) (by omega)) ⟨.inl rfl, .inl rfl, .inl rfl, .inl rfl, trivial⟩
                · skip
                  exfalso; omega
              · skip
                refine go_if (k := 1) (p1 := 1435) (p2 := 1433) (L' := [some (.inr (.inr (some 3000))), some (.inr (.inr (some 0))), some (.inr (.inr (some 79))), some (.inl l18_3)]) (st' := []) (w' := (SH, dt2776)) (fun _ => rfl) (c_eq (a := dt2776 16 3) (b := dt2776 80 5) ⟨by omega, by omega⟩ ⟨by omega, by omega⟩) (fun c5534 => ?_) (fun c5534 => ?_)
                · skip
                  refine go_to (k := 2) (pc' := 18) (L' := [some (.inr (.inr (some 3000))), some (.inr (.inr (some 0))), some (.inr (.inr (some 79))), some (.inl (l18_3 + 6))]) (st' := []) (w' := (SH, dt2776)) (fun _ => rfl) ?_
                  exact GO.le (ih_loop2795 (l18_3 + 6) dt2776 hI2777 hF2778 hM_dt2776 (by omega) (by exact hM2L) (by omega) (by omega) (by omega) (by omega) (by omega) (by omega) (by omega) (by omega) (by omega) (by omega) (by omega) (by omega) (by omega) (by omega) (by omega)) ⟨.inl rfl, .inl rfl, .inl rfl, .inl rfl, trivial⟩
                · skip
                  exfalso; omega
              · skip
                refine go_if (k := 1) (p1 := 1435) (p2 := 1433) (L' := [some (.inr (.inr (some 3000))), some (.inr (.inr (some 0))), some (.inr (.inr (some 79))), some (.inl l18_3)]) (st' := []) (w' := (SH, dt2776)) (fun _ => rfl) (c_eq (a := dt2776 16 3) (b := dt2776 80 0) ⟨by omega, by omega⟩ ⟨by omega, by omega⟩) (fun c5535 => ?_) (fun c5535 => ?_)
                · skip
                  refine go_to (k := 2) (pc' := 18) (L' := [some (.inr (.inr (some 3000))), some (.inr (.inr (some 0))), some (.inr (.inr (some 79))), some (.inl (l18_3 + 6))]) (st' := []) (w' := (SH, dt2776)) (fun _ => rfl) ?_
                  exact GO.le (ih_loop2795 (l18_3 + 6) dt2776 hI2777 hF2778 hM_dt2776 (by omega) (by exact hM2L) (by omega) (by omega) (by omega) (by omega) (by omega) (by omega) (by omega) (by omega) (by omega) (by omega) (by omega) (by omega) (by omega) (by omega) (by omega)) ⟨.inl rfl, .inl rfl, .inl rfl, .inl rfl, trivial⟩
                · skip
                  exfalso; omega
              · skip
                obtain ⟨h5529_0, h5529_1⟩ := h5529
                refine go_if (k := 1) (p1 := 1435) (p2 := 1433) (L' := [some (.inr (.inr (some 3000))), some (.inr (.inr (some 0))), some (.inr (.inr (some 79))), some (.inl l18_3)]) (st' := []) (w' := (SH, dt2776)) (fun _ => rfl) (c_eq (a := dt2776 16 3) (b := 1) ⟨by omega, by omega⟩ ⟨by omega, by omega⟩) (fun c5536 => ?_) (fun c5536 => ?_)
                · skip
                  refine go_to (k := 2) (pc' := 18) (L' := [some (.inr (.inr (some 3000))), some (.inr (.inr (some 0))), some (.inr (.inr (some 79))), some (.inl (l18_3 + 6))]) (st' := []) (w' := (SH, dt2776)) (fun _ => rfl) ?_
                  exact GO.le (ih_loop2795 (l18_3 + 6) dt2776 hI2777 hF2778 hM_dt2776 (by omega) (by exact hM2L) (by omega) (by omega) (by omega) (by omega) (by omega) (by omega) (by omega) (by omega) (by omega) (by omega) (by omega) (by omega) (by omega) (by omega) (by omega)) ⟨.inl rfl, .inl rfl, .inl rfl, .inl rfl, trivial⟩
                · skip
                  exfalso; omega
              · skip
                obtain ⟨h5529_0, h5529_1⟩ := h5529
                refine go_if (k := 1) (p1 := 1435) (p2 := 1433) (L' := [some (.inr (.inr (some 3000))), some (.inr (.inr (some 0))), some (.inr (.inr (some 79))), some (.inl l18_3)]) (st' := []) (w' := (SH, dt2776)) (fun _ => rfl) (c_eq (a := dt2776 16 3) (b := 0) ⟨by omega, by omega⟩ ⟨by omega, by omega⟩) (fun c5537 => ?_) (fun c5537 => ?_)
                · skip
                  refine go_to (k := 2) (pc' := 18) (L' := [some (.inr (.inr (some 3000))), some (.inr (.inr (some 0))), some (.inr (.inr (some 79))), some (.inl (l18_3 + 6))]) (st' := []) (w' := (SH, dt2776)) (fun _ => rfl) ?_
                  exact GO.le (ih_loop2795 (l18_3 + 6) dt2776 hI2777 hF2778 hM_dt2776 (by omega) (by exact hM2L) (by omega) (by omega) (by omega) (by omega) (by omega) (by omega) (by omega) (by omega) (by omega) (by omega) (by omega) (by omega) (by omega) (by omega) (by omega)) ⟨.inl rfl, .inl rfl, .inl rfl, .inl rfl, trivial⟩
                · skip
                  exfalso; omega
              · skip
                refine go_if (k := 1) (p1 := 1435) (p2 := 1433) (L' := [some (.inr (.inr (some 3000))), some (.inr (.inr (some 0))), some (.inr (.inr (some 79))), some (.inl l18_3)]) (st' := []) (w' := (SH, dt2776)) (fun _ => rfl) (c_eq (a := dt2776 16 3) (b := (-1)) ⟨by omega, by omega⟩ ⟨by omega, by omega⟩) (fun c5538 => ?_) (fun c5538 => ?_)
                · skip
                  refine go_to (k := 2) (pc' := 18) (L' := [some (.inr (.inr (some 3000))), some (.inr (.inr (some 0))), some (.inr (.inr (some 79))), some (.inl (l18_3 + 6))]) (st' := []) (w' := (SH, dt2776)) (fun _ => rfl) ?_
                  exact GO.le (ih_loop2795 (l18_3 + 6) dt2776 hI2777 hF2778 hM_dt2776 (by omega) (by exact hM2L) (by omega) (by omega) (by omega) (by omega) (by omega) (by omega) (by omega) (by omega) (by omega) (by omega) (by omega) (by omega) (by omega) (by omega) (by omega)) ⟨.inl rfl, .inl rfl, .inl rfl, .inl rfl, trivial⟩
                · skip
                  exfalso; omega
            · skip
              refine go_to (k := 5) (pc' := 1426) (L' := [some (.inr (.inr (some 3000))), some (.inr (.inr (some 0))), some (.inr (.inr (some 79))), some (.inl l18_3)]) (st' := [.inl (l18_3 + 1), .inr (.inr (some 3000)), .inr (.inr (some 79)), .inl (dt2776 1 0)]) (w' := (SH, dt2776)) (fun _ => rfl) ?_
              refine go_smp (L' := [some (.inr (.inr (some 3000))), some (.inr (.inr (some 0))), some (.inr (.inr (some 79))), some (.inl l18_3)]) (st' := [.inl ((xs ((l18_3 + 1).toNat)).toInt), .inr (.inr (some 79)), .inl (dt2776 1 0)]) (w' := (SH, dt2776)) rfl rfl (s_iald (n := L) (f := fun j => (xs j).toInt) (am_scr hLL) ⟨by omega, by omega⟩) ?_
              refine go_call (Q' := _) rfl rfl rfl rfl rfl (sp_X6_look L xs sio (d + 38) dt2776 hI2777  ((xs ((l18_3 + 1).toNat)).toInt) ⟨by omega, by omega⟩ ) ?_
              rintro _ _ ⟨rfl, h5539⟩
              refine ⟨rfl, ?_⟩
              rcases h5539 with ⟨rfl, h5539⟩ | ⟨rfl, h5539⟩ | ⟨rfl, h5539⟩ | ⟨rfl, h5539⟩ | ⟨rfl, h5539⟩ | ⟨rfl, h5539⟩ | ⟨rfl, h5539⟩ | ⟨rfl, h5539⟩ | ⟨rfl, h5539⟩
              · skip
                refine go_if (k := 1) (p1 := 1435) (p2 := 1433) (L' := [some (.inr (.inr (some 3000))), some (.inr (.inr (some 0))), some (.inr (.inr (some 79))), some (.inl l18_3)]) (st' := []) (w' := (SH, dt2776)) (fun _ => rfl) (c_eq (a := dt2776 1 0) (b := dt2776 80 1) ⟨by omega, by omega⟩ ⟨by omega, by omega⟩) (fun c5540 => ?_) (fun c5540 => ?_)
                · skip
                  refine go_to (k := 2) (pc' := 18) (L' := [some (.inr (.inr (some 3000))), some (.inr (.inr (some 0))), some (.inr (.inr (some 79))), some (.inl (l18_3 + 6))]) (st' := []) (w' := (SH, dt2776)) (fun _ => rfl) ?_
                  exact GO.le (ih_loop2795 (l18_3 + 6) dt2776 hI2777 hF2778 hM_dt2776 (by omega) (by exact hM2L) (by omega) (by omega) (by omega) (by omega) (by omega) (by omega) (by omega) (by omega) (by omega) (by omega) (by omega) (by omega) (by omega) (by omega) (by omega)) ⟨.inl rfl, .inl rfl, .inl rfl, .inl rfl, trivial⟩
                · skip
                  exfalso; omega
              · skip
                refine go_if (k := 1) (p1 := 1435) (p2 := 1433) (L' := [some (.inr (.inr (some 3000))), some (.inr (.inr (some 0))), some (.inr (.inr (some 79))), some (.inl l18_3)]) (st' := []) (w' := (SH, dt2776)) (fun _ => rfl) (c_eq (a := dt2776 1 0) (b := dt2776 80 2) ⟨by omega, by omega⟩ ⟨by omega, by omega⟩) (fun c5541 => ?_) (fun c5541 => ?_)
                · skip
                  refine go_to (k := 2) (pc' := 18) (L' := [some (.inr (.inr (some 3000))), some (.inr (.inr (some 0))), some (.inr (.inr (some 79))), some (.inl (l18_3 + 6))]) (st' := []) (w' := (SH, dt2776)) (fun _ => rfl) ?_
                  exact GO.le (ih_loop2795 (l18_3 + 6) dt2776 hI2777 hF2778 hM_dt2776 (by omega) (by exact hM2L) (by omega) (by omega) (by omega) (by omega) (by omega) (by omega) (by omega) (by omega) (by omega) (by omega) (by omega) (by omega) (by omega) (by omega) (by omega)) ⟨.inl rfl, .inl rfl, .inl rfl, .inl rfl, trivial⟩
                · skip
                  exfalso; omega
              · skip
                refine go_if (k := 1) (p1 := 1435) (p2 := 1433) (L' := [some (.inr (.inr (some 3000))), some (.inr (.inr (some 0))), some (.inr (.inr (some 79))), some (.inl l18_3)]) (st' := []) (w' := (SH, dt2776)) (fun _ => rfl) (c_eq (a := dt2776 1 0) (b := dt2776 80 3) ⟨by omega, by omega⟩ ⟨by omega, by omega⟩) (fun c5542 => ?_) (fun c5542 => ?_)
                · skip
                  refine go_to (k := 2) (pc' := 18) (L' := [some (.inr (.inr (some 3000))), some (.inr (.inr (some 0))), some (.inr (.inr (some 79))), some (.inl (l18_3 + 6))]) (st' := []) (w' := (SH, dt2776)) (fun _ => rfl) ?_
                  exact GO.le (ih_loop2795 (l18_3 + 6) dt2776 hI2777 hF2778 hM_dt2776 (by omega) (by exact hM2L) (by omega) (by omega) (by omega) (by omega) (by omega) (by omega) (by omega) (by omega) (by omega) (by omega) (by omega) (by omega) (by omega) (by omega) (by omega)) ⟨.inl rfl, .inl rfl, .inl rfl, .inl rfl, trivial⟩
                · skip
                  exfalso; omega
              · skip
                refine go_if (k := 1) (p1 := 1435) (p2 := 1433) (L' := [some (.inr (.inr (some 3000))), some (.inr (.inr (some 0))), some (.inr (.inr (some 79))), some (.inl l18_3)]) (st' := []) (w' := (SH, dt2776)) (fun _ => rfl) (c_eq (a := dt2776 1 0) (b := dt2776 80 4) ⟨by omega, by omega⟩ ⟨by omega, by omega⟩) (fun c5543 => ?_) (fun c5543 => ?_)
                · skip
                  refine go_to (k := 2) (pc' := 18) (L' := [some (.inr (.inr (some 3000))), some (.inr (.inr (some 0))), some (.inr (.inr (some 79))), some (.inl (l18_3 + 6))]) (st' := []) (w' := (SH, dt2776)) (fun _ => rfl) ?_
                  exact GO.le (ih_loop2795 (l18_3 + 6) dt2776 hI2777 hF2778 hM_dt2776 (by omega) (by exact hM2L) (by omega) (by omega) (by omega) (by omega) (by omega) (by omega) (by omega) (by omega) (by omega) (by omega) (by omega) (by omega) (by omega) (by omega) (by omega)) ⟨.inl rfl, .inl rfl, .inl rfl, .inl rfl, trivial⟩
                · skip
                  exfalso; omega
              · skip
                refine go_if (k := 1) (p1 := 1435) (p2 := 1433) (L' := [some (.inr (.inr (some 3000))), some (.inr (.inr (some 0))), some (.inr (.inr (some 79))), some (.inl l18_3)]) (st' := []) (w' := (SH, dt2776)) (fun _ => rfl) (c_eq (a := dt2776 1 0) (b := dt2776 80 5) ⟨by omega, by omega⟩ ⟨by omega, by omega⟩) (fun c5544 => ?_) (fun c5544 => ?_)
                · skip
                  refine go_to (k := 2) (pc' := 18) (L' := [some (.inr (.inr (some 3000))), some (.inr (.inr (some 0))), some (.inr (.inr (some 79))), some (.inl (l18_3 + 6))]) (st' := []) (w' := (SH, dt2776)) (fun _ => rfl) ?_
                  exact GO.le (ih_loop2795 (l18_3 + 6) dt2776 hI2777 hF2778 hM_dt2776 (by omega) (by exact hM2L) (by omega) (by omega) (by omega) (by omega) (by omega) (by omega) (by omega) (by omega) (by omega) (by omega) (by omega) (by omega) (by omega) (by omega) (by omega)) ⟨.inl rfl, .inl rfl, .inl rfl, .inl rfl, trivial⟩
                · skip
                  exfalso; omega
              · skip
                refine go_if (k := 1) (p1 := 1435) (p2 := 1433) (L' := [some (.inr (.inr (some 3000))), some (.inr (.inr (some 0))), some (.inr (.inr (some 79))), some (.inl l18_3)]) (st' := []) (w' := (SH, dt2776)) (fun _ => rfl) (c_eq (a := dt2776 1 0) (b := dt2776 80 0) ⟨by omega, by omega⟩ ⟨by omega, by omega⟩) (fun c5545 => ?_) (fun c5545 => ?_)
                · skip
                  refine go_to (k := 2) (pc' := 18) (L' := [some (.inr (.inr (some 3000))), some (.inr (.inr (some 0))), some (.inr (.inr (some 79))), some (.inl (l18_3 + 6))]) (st' := []) (w' := (SH, dt2776)) (fun _ => rfl) ?_
                  exact GO.le (ih_loop2795 (l18_3 + 6) dt2776 hI2777 hF2778 hM_dt2776 (by omega) (by exact hM2L) (by omega) (by omega) (by omega) (by omega) (by omega) (by omega) (by omega) (by omega) (by omega) (by omega) (by omega) (by omega) (by omega) (by omega) (by omega)) ⟨.inl rfl, .inl rfl, .inl rfl, .inl rfl, trivial⟩
                · skip
                  exfalso; omega
              · skip
                obtain ⟨h5539_0, h5539_1⟩ := h5539
                refine go_if (k := 1) (p1 := 1435) (p2 := 1433) (L' := [some (.inr (.inr (some 3000))), some (.inr (.inr (some 0))), some (.inr (.inr (some 79))), some (.inl l18_3)]) (st' := []) (w' := (SH, dt2776)) (fun _ => rfl) (c_eq (a := dt2776 1 0) (b := 1) ⟨by omega, by omega⟩ ⟨by omega, by omega⟩) (fun c5546 => ?_) (fun c5546 => ?_)
                · skip
                  refine go_to (k := 2) (pc' := 18) (L' := [some (.inr (.inr (some 3000))), some (.inr (.inr (some 0))), some (.inr (.inr (some 79))), some (.inl (l18_3 + 6))]) (st' := []) (w' := (SH, dt2776)) (fun _ => rfl) ?_
                  exact GO.le (ih_loop2795 (l18_3 + 6) dt2776 hI2777 hF2778 hM_dt2776 (by omega) (by exact hM2L) (by omega) (by omega) (by omega) (by omega) (by omega) (by omega) (by omega) (by omega) (by omega) (by omega) (by omega) (by omega) (by omega) (by omega) (by omega)) ⟨.inl rfl, .inl rfl, .inl rfl, .inl rfl, trivial⟩
                · skip
                  exfalso; omega
              · skip
                obtain ⟨h5539_0, h5539_1⟩ := h5539
                refine go_if (k := 1) (p1 := 1435) (p2 := 1433) (L' := [some (.inr (.inr (some 3000))), some (.inr (.inr (some 0))), some (.inr (.inr (some 79))), some (.inl l18_3)]) (st' := []) (w' := (SH, dt2776)) (fun _ => rfl) (c_eq (a := dt2776 1 0) (b := 0) ⟨by omega, by omega⟩ ⟨by omega, by omega⟩) (fun c5547 => ?_) (fun c5547 => ?_)
                · skip
                  refine go_to (k := 2) (pc' := 18) (L' := [some (.inr (.inr (some 3000))), some (.inr (.inr (some 0))), some (.inr (.inr (some 79))), some (.inl (l18_3 + 6))]) (st' := []) (w' := (SH, dt2776)) (fun _ => rfl) ?_
                  exact GO.le (ih_loop2795 (l18_3 + 6) dt2776 hI2777 hF2778 hM_dt2776 (by omega) (by exact hM2L) (by omega) (by omega) (by omega) (by omega) (by omega) (by omega) (by omega) (by omega) (by omega) (by omega) (by omega) (by omega) (by omega) (by omega) (by omega)) ⟨.inl rfl, .inl rfl, .inl rfl, .inl rfl, trivial⟩
                · skip
                  exfalso; omega
              · skip
                refine go_if (k := 1) (p1 := 1435) (p2 := 1433) (L' := [some (.inr (.inr (some 3000))), some (.inr (.inr (some 0))), some (.inr (.inr (some 79))), some (.inl l18_3)]) (st' := []) (w' := (SH, dt2776)) (fun _ => rfl) (c_eq (a := dt2776 1 0) (b := (-1)) ⟨by omega, by omega⟩ ⟨by omega, by omega⟩) (fun c5548 => ?_) (fun c5548 => ?_)
                · skip
                  refine go_to (k := 2) (pc' := 18) (L' := [some (.inr (.inr (some 3000))), some (.inr (.inr (some 0))), some (.inr (.inr (some 79))), some (.inl (l18_3 + 6))]) (st' := []) (w' := (SH, dt2776)) (fun _ => rfl) ?_
                  exact GO.le (ih_loop2795 (l18_3 + 6) dt2776 hI2777 hF2778 hM_dt2776 (by omega) (by exact hM2L) (by omega) (by omega) (by omega) (by omega) (by omega) (by omega) (by omega) (by omega) (by omega) (by omega) (by omega) (by omega) (by omega) (by omega) (by omega)) ⟨.inl rfl, .inl rfl, .inl rfl, .inl rfl, trivial⟩
                · skip
                  exfalso; omega
            · skip
              obtain ⟨h5488_0, h5488_1⟩ := h5488
              refine go_to (k := 5) (pc' := 1426) (L' := [some (.inr (.inr (some 3000))), some (.inr (.inr (some 0))), some (.inr (.inr (some 79))), some (.inl l18_3)]) (st' := [.inl (l18_3 + 1), .inr (.inr (some 3000)), .inr (.inr (some 79)), .inl 1]) (w' := (SH, dt2776)) (fun _ => rfl) ?_
              refine go_smp (L' := [some (.inr (.inr (some 3000))), some (.inr (.inr (some 0))), some (.inr (.inr (some 79))), some (.inl l18_3)]) (st' := [.inl ((xs ((l18_3 + 1).toNat)).toInt), .inr (.inr (some 79)), .inl 1]) (w' := (SH, dt2776)) rfl rfl (s_iald (n := L) (f := fun j => (xs j).toInt) (am_scr hLL) ⟨by omega, by omega⟩) ?_
              refine go_call (Q' := _) rfl rfl rfl rfl rfl (sp_X6_look L xs sio (d + 38) dt2776 hI2777  ((xs ((l18_3 + 1).toNat)).toInt) ⟨by omega, by omega⟩ ) ?_
              rintro _ _ ⟨rfl, h5549⟩
              refine ⟨rfl, ?_⟩
              rcases h5549 with ⟨rfl, h5549⟩ | ⟨rfl, h5549⟩ | ⟨rfl, h5549⟩ | ⟨rfl, h5549⟩ | ⟨rfl, h5549⟩ | ⟨rfl, h5549⟩ | ⟨rfl, h5549⟩ | ⟨rfl, h5549⟩ | ⟨rfl, h5549⟩
              · skip
                refine go_if (k := 1) (p1 := 1435) (p2 := 1433) (L' := [some (.inr (.inr (some 3000))), some (.inr (.inr (some 0))), some (.inr (.inr (some 79))), some (.inl l18_3)]) (st' := []) (w' := (SH, dt2776)) (fun _ => rfl) (c_eq (a := 1) (b := dt2776 80 1) ⟨by omega, by omega⟩ ⟨by omega, by omega⟩) (fun c5550 => ?_) (fun c5550 => ?_)
                · skip
                  refine go_to (k := 2) (pc' := 18) (L' := [some (.inr (.inr (some 3000))), some (.inr (.inr (some 0))), some (.inr (.inr (some 79))), some (.inl (l18_3 + 6))]) (st' := []) (w' := (SH, dt2776)) (fun _ => rfl) ?_
                  exact GO.le (ih_loop2795 (l18_3 + 6) dt2776 hI2777 hF2778 hM_dt2776 (by omega) (by exact hM2L) (by omega) (by omega) (by omega) (by omega) (by omega) (by omega) (by omega) (by omega) (by omega) (by omega) (by omega) (by omega) (by omega) (by omega) (by omega)) ⟨.inl rfl, .inl rfl, .inl rfl, .inl rfl, trivial⟩
                · skip
                  exfalso; omega
              · skip
                refine go_if (k := 1) (p1 := 1435) (p2 := 1433) (L' := [some (.inr (.inr (some 3000))), some (.inr (.inr (some 0))), some (.inr (.inr (some 79))), some (.inl l18_3)]) (st' := []) (w' := (SH, dt2776)) (fun _ => rfl) (c_eq (a := 1) (b := dt2776 80 2) ⟨by omega, by omega⟩ ⟨by omega, by omega⟩) (fun c5551 => ?_) (fun c5551 => ?_)
                · skip
                  refine go_to (k := 2) (pc' := 18) (L' := [some (.inr (.inr (some 3000))), some (.inr (.inr (some 0))), some (.inr (.inr (some 79))), some (.inl (l18_3 + 6))]) (st' := []) (w' := (SH, dt2776)) (fun _ => rfl) ?_
                  exact GO.le (ih_loop2795 (l18_3 + 6) dt2776 hI2777 hF2778 hM_dt2776 (by omega) (by exact hM2L) (by omega) (by omega) (by omega) (by omega) (by omega) (by omega) (by omega) (by omega) (by omega) (by omega) (by omega) (by omega) (by omega) (by omega) (by omega)) ⟨.inl rfl, .inl rfl, .inl rfl, .inl rfl, trivial⟩
                · skip
                  exfalso; omega
              · skip
                refine go_if (k := 1) (p1 := 1435) (p2 := 1433) (L' := [some (.inr (.inr (some 3000))), some (.inr (.inr (some 0))), some (.inr (.inr (some 79))), some (.inl l18_3)]) (st' := []) (w' := (SH, dt2776)) (fun _ => rfl) (c_eq (a := 1) (b := dt2776 80 3) ⟨by omega, by omega⟩ ⟨by omega, by omega⟩) (fun c5552 => ?_) (fun c5552 => ?_)
                · skip
                  refine go_to (k := 2) (pc' := 18) (L' := [some (.inr (.inr (some 3000))), some (.inr (.inr (some 0))), some (.inr (.inr (some 79))), some (.inl (l18_3 + 6))]) (st' := []) (w' := (SH, dt2776)) (fun _ => rfl) ?_
                  exact GO.le (ih_loop2795 (l18_3 + 6) dt2776 hI2777 hF2778 hM_dt2776 (by omega) (by exact hM2L) (by omega) (by omega) (by omega) (by omega) (by omega) (by omega) (by omega) (by omega) (by omega) (by omega) (by omega) (by omega) (by omega) (by omega) (by omega)) ⟨.inl rfl, .inl rfl, .inl rfl, .inl rfl, trivial⟩
                · skip
                  exfalso; omega
              · skip
                refine go_if (k := 1) (p1 := 1435) (p2 := 1433) (L' := [some (.inr (.inr (some 3000))), some (.inr (.inr (some 0))), some (.inr (.inr (some 79))), some (.inl l18_3)]) (st' := []) (w' := (SH, dt2776)) (fun _ => rfl) (c_eq (a := 1) (b := dt2776 80 4) ⟨by omega, by omega⟩ ⟨by omega, by omega⟩) (fun c5553 => ?_) (fun c5553 => ?_)
                · skip
                  refine go_to (k := 2) (pc' := 18) (L' := [some (.inr (.inr (some 3000))), some (.inr (.inr (some 0))), some (.inr (.inr (some 79))), some (.inl (l18_3 + 6))]) (st' := []) (w' := (SH, dt2776)) (fun _ => rfl) ?_
                  exact GO.le (ih_loop2795 (l18_3 + 6) dt2776 hI2777 hF2778 hM_dt2776 (by omega) (by exact hM2L) (by omega) (by omega) (by omega) (by omega) (by omega) (by omega) (by omega) (by omega) (by omega) (by omega) (by omega) (by omega) (by omega) (by omega) (by omega)) ⟨.inl rfl, .inl rfl, .inl rfl, .inl rfl, trivial⟩
                · skip
                  exfalso; omega
              · skip
                refine go_if (k := 1) (p1 := 1435) (p2 := 1433) (L' := [some (.inr (.inr (some 3000))), some (.inr (.inr (some 0))), some (.inr (.inr (some 79))), some (.inl l18_3)]) (st' := []) (w' := (SH, dt2776)) (fun _ => rfl) (c_eq (a := 1) (b := dt2776 80 5) ⟨by omega, by omega⟩ ⟨by omega, by omega⟩) (fun c5554 => ?_) (fun c5554 => ?_)
                · skip
                  refine go_to (k := 2) (pc' := 18) (L' := [some (.inr (.inr (some 3000))), some (.inr (.inr (some 0))), some (.inr (.inr (some 79))), some (.inl (l18_3 + 6))]) (st' := []) (w' := (SH, dt2776)) (fun _ => rfl) ?_
                  exact GO.le (ih_loop2795 (l18_3 + 6) dt2776 hI2777 hF2778 hM_dt2776 (by omega) (by exact hM2L) (by omega) (by omega) (by omega) (by omega) (by omega) (by omega) (by omega) (by omega) (by omega) (by omega) (by omega) (by omega) (by omega) (by omega) (by omega)) ⟨.inl rfl, .inl rfl, .inl rfl, .inl rfl, trivial⟩
                · skip
                  exfalso; omega
              · skip
                refine go_if (k := 1) (p1 := 1435) (p2 := 1433) (L' := [some (.inr (.inr (some 3000))), some (.inr (.inr (some 0))), some (.inr (.inr (some 79))), some (.inl l18_3)]) (st' := []) (w' := (SH, dt2776)) (fun _ => rfl) (c_eq (a := 1) (b := dt2776 80 0) ⟨by omega, by omega⟩ ⟨by omega, by omega⟩) (fun c5555 => ?_) (fun c5555 => ?_)
                · skip
                  refine go_to (k := 2) (pc' := 18) (L' := [some (.inr (.inr (some 3000))), some (.inr (.inr (some 0))), some (.inr (.inr (some 79))), some (.inl (l18_3 + 6))]) (st' := []) (w' := (SH, dt2776)) (fun _ => rfl) ?_
                  exact GO.le (ih_loop2795 (l18_3 + 6) dt2776 hI2777 hF2778 hM_dt2776 (by omega) (by exact hM2L) (by omega) (by omega) (by omega) (by omega) (by omega) (by omega) (by omega) (by omega) (by omega) (by omega) (by omega) (by omega) (by omega) (by omega) (by omega)) ⟨.inl rfl, .inl rfl, .inl rfl, .inl rfl, trivial⟩
                · skip
                  exfalso; omega
              · skip
                obtain ⟨h5549_0, h5549_1⟩ := h5549
                refine go_to (k := 3) (pc' := 18) (L' := [some (.inr (.inr (some 3000))), some (.inr (.inr (some 0))), some (.inr (.inr (some 79))), some (.inl (l18_3 + 6))]) (st' := []) (w' := (SH, dt2776)) (fun _ => rfl) ?_
                exact GO.le (ih_loop2795 (l18_3 + 6) dt2776 hI2777 hF2778 hM_dt2776 (by omega) (by exact hM2L) (by omega) (by omega) (by omega) (by omega) (by omega) (by omega) (by omega) (by omega) (by omega) (by omega) (by omega) (by omega) (by omega) (by omega) (by omega)) ⟨.inl rfl, .inl rfl, .inl rfl, .inl rfl, trivial⟩
              · skip
                obtain ⟨h5549_0, h5549_1⟩ := h5549
                exfalso; omega
              · skip
                exfalso; omega
            · skip
              obtain ⟨h5488_0, h5488_1⟩ := h5488
              refine go_to (k := 5) (pc' := 1426) (L' := [some (.inr (.inr (some 3000))), some (.inr (.inr (some 0))), some (.inr (.inr (some 79))), some (.inl l18_3)]) (st' := [.inl (l18_3 + 1), .inr (.inr (some 3000)), .inr (.inr (some 79)), .inl 0]) (w' := (SH, dt2776)) (fun _ => rfl) ?_
              refine go_smp (L' := [some (.inr (.inr (some 3000))), some (.inr (.inr (some 0))), some (.inr (.inr (some 79))), some (.inl l18_3)]) (st' := [.inl ((xs ((l18_3 + 1).toNat)).toInt), .inr (.inr (some 79)), .inl 0]) (w' := (SH, dt2776)) rfl rfl (s_iald (n := L) (f := fun j => (xs j).toInt) (am_scr hLL) ⟨by omega, by omega⟩) ?_
              refine go_call (Q' := _) rfl rfl rfl rfl rfl (sp_X6_look L xs sio (d + 38) dt2776 hI2777  ((xs ((l18_3 + 1).toNat)).toInt) ⟨by omega, by omega⟩ ) ?_
              rintro _ _ ⟨rfl, h5556⟩
              refine ⟨rfl, ?_⟩
              rcases h5556 with ⟨rfl, h5556⟩ | ⟨rfl, h5556⟩ | ⟨rfl, h5556⟩ | ⟨rfl, h5556⟩ | ⟨rfl, h5556⟩ | ⟨rfl, h5556⟩ | ⟨rfl, h5556⟩ | ⟨rfl, h5556⟩ | ⟨rfl, h5556⟩
              · skip
                refine go_if (k := 1) (p1 := 1435) (p2 := 1433) (L' := [some (.inr (.inr (some 3000))), some (.inr (.inr (some 0))), some (.inr (.inr (some 79))), some (.inl l18_3)]) (st' := []) (w' := (SH, dt2776)) (fun _ => rfl) (c_eq (a := 0) (b := dt2776 80 1) ⟨by omega, by omega⟩ ⟨by omega, by omega⟩) (fun c5557 => ?_) (fun c5557 => ?_)
                · skip
                  refine go_to (k := 2) (pc' := 18) (L' := [some (.inr (.inr (some 3000))), some (.inr (.inr (some 0))), some (.inr (.inr (some 79))), some (.inl (l18_3 + 6))]) (st' := []) (w' := (SH, dt2776)) (fun _ => rfl) ?_
                  exact GO.le (ih_loop2795 (l18_3 + 6) dt2776 hI2777 hF2778 hM_dt2776 (by omega) (by exact hM2L) (by omega) (by omega) (by omega) (by omega) (by omega) (by omega) (by omega) (by omega) (by omega) (by omega) (by omega) (by omega) (by omega) (by omega) (by omega)) ⟨.inl rfl, .inl rfl, .inl rfl, .inl rfl, trivial⟩
                · skip
                  exfalso; omega
              · skip
                refine go_if (k := 1) (p1 := 1435) (p2 := 1433) (L' := [some (.inr (.inr (some 3000))), some (.inr (.inr (some 0))), some (.inr (.inr (some 79))), some (.inl l18_3)]) (st' := []) (w' := (SH, dt2776)) (fun _ => rfl) (c_eq (a := 0) (b := dt2776 80 2) ⟨by omega, by omega⟩ ⟨by omega, by omega⟩) (fun c5558 => ?_) (fun c5558 => ?_)
                · skip
                  refine go_to (k := 2) (pc' := 18) (L' := [some (.inr (.inr (some 3000))), some (.inr (.inr (some 0))), some (.inr (.inr (some 79))), some (.inl (l18_3 + 6))]) (st' := []) (w' := (SH, dt2776)) (fun _ => rfl) ?_
                  exact GO.le (ih_loop2795 (l18_3 + 6) dt2776 hI2777 hF2778 hM_dt2776 (by omega) (by exact hM2L) (by omega) (by omega) (by omega) (by omega) (by omega) (by omega) (by omega) (by omega) (by omega) (by omega) (by omega) (by omega) (by omega) (by omega) (by omega)) ⟨.inl rfl, .inl rfl, .inl rfl, .inl rfl, trivial⟩
                · skip
                  exfalso; omega
              · skip
                refine go_if (k := 1) (p1 := 1435) (p2 := 1433) (L' := [some (.inr (.inr (some 3000))), some (.inr (.inr (some 0))), some (.inr (.inr (some 79))), some (.inl l18_3)]) (st' := []) (w' := (SH, dt2776)) (fun _ => rfl) (c_eq (a := 0) (b := dt2776 80 3) ⟨by omega, by omega⟩ ⟨by omega, by omega⟩) (fun c5559 => ?_) (fun c5559 => ?_)
                · skip
                  refine go_to (k := 2) (pc' := 18) (L' := [some (.inr (.inr (some 3000))), some (.inr (.inr (some 0))), some (.inr (.inr (some 79))), some (.inl (l18_3 + 6))]) (st' := []) (w' := (SH, dt2776)) (fun _ => rfl) ?_
                  exact GO.le (ih_loop2795 (l18_3 + 6) dt2776 hI2777 hF2778 hM_dt2776 (by omega) (by exact hM2L) (by omega) (by omega) (by omega) (by omega) (by omega) (by omega) (by omega) (by omega) (by omega) (by omega) (by omega) (by omega) (by omega) (by omega) (by omega)) ⟨.inl rfl, .inl rfl, .inl rfl, .inl rfl, trivial⟩
                · skip
                  exfalso; omega
              · skip
                refine go_if (k := 1) (p1 := 1435) (p2 := 1433) (L' := [some (.inr (.inr (some 3000))), some (.inr (.inr (some 0))), some (.inr (.inr (some 79))), some (.inl l18_3)]) (st' := []) (w' := (SH, dt2776)) (fun _ => rfl) (c_eq (a := 0) (b := dt2776 80 4) ⟨by omega, by omega⟩ ⟨by omega, by omega⟩) (fun c5560 => ?_) (fun c5560 => ?_)
                · skip
                  refine go_to (k := 2) (pc' := 18) (L' := [some (.inr (.inr (some 3000))), some (.inr (.inr (some 0))), some (.inr (.inr (some 79))), some (.inl (l18_3 + 6))]) (st' := []) (w' := (SH, dt2776)) (fun _ => rfl) ?_
                  exact GO.le (ih_loop2795 (l18_3 + 6) dt2776 hI2777 hF2778 hM_dt2776 (by omega) (by exact hM2L) (by omega) (by omega) (by omega) (by omega) (by omega) (by omega) (by omega) (by omega) (by omega) (by omega) (by omega) (by omega) (by omega) (by omega) (by omega)) ⟨.inl rfl, .inl rfl, .inl rfl, .inl rfl, trivial⟩
                · skip
                  exfalso; omega
              · skip
                refine go_if (k := 1) (p1 := 1435) (p2 := 1433) (L' := [some (.inr (.inr (some 3000))), some (.inr (.inr (some 0))), some (.inr (.inr (some 79))), some (.inl l18_3)]) (st' := []) (w' := (SH, dt2776)) (fun _ => rfl) (c_eq (a := 0) (b := dt2776 80 5) ⟨by omega, by omega⟩ ⟨by omega, by omega⟩) (fun c5561 => ?_) (fun c5561 => ?_)
                · skip
                  refine go_to (k := 2) (pc' := 18) (L' := [some (.inr (.inr (some 3000))), some (.inr (.inr (some 0))), some (.inr (.inr (some 79))), some (.inl (l18_3 + 6))]) (st' := []) (w' := (SH, dt2776)) (fun _ => rfl) ?_
                  exact GO.le (ih_loop2795 (l18_3 + 6) dt2776 hI2777 hF2778 hM_dt2776 (by omega) (by exact hM2L) (by omega) (by omega) (by omega) (by omega) (by omega) (by omega) (by omega) (by omega) (by omega) (by omega) (by omega) (by omega) (by omega) (by omega) (by omega)) ⟨.inl rfl, .inl rfl, .inl rfl, .inl rfl, trivial⟩
                · skip
                  exfalso; omega
              · skip
                refine go_if (k := 1) (p1 := 1435) (p2 := 1433) (L' := [some (.inr (.inr (some 3000))), some (.inr (.inr (some 0))), some (.inr (.inr (some 79))), some (.inl l18_3)]) (st' := []) (w' := (SH, dt2776)) (fun _ => rfl) (c_eq (a := 0) (b := dt2776 80 0) ⟨by omega, by omega⟩ ⟨by omega, by omega⟩) (fun c5562 => ?_) (fun c5562 => ?_)
                · skip
                  refine go_to (k := 2) (pc' := 18) (L' := [some (.inr (.inr (some 3000))), some (.inr (.inr (some 0))), some (.inr (.inr (some 79))), some (.inl (l18_3 + 6))]) (st' := []) (w' := (SH, dt2776)) (fun _ => rfl) ?_
                  exact GO.le (ih_loop2795 (l18_3 + 6) dt2776 hI2777 hF2778 hM_dt2776 (by omega) (by exact hM2L) (by omega) (by omega) (by omega) (by omega) (by omega) (by omega) (by omega) (by omega) (by omega) (by omega) (by omega) (by omega) (by omega) (by omega) (by omega)) ⟨.inl rfl, .inl rfl, .inl rfl, .inl rfl, trivial⟩
                · skip
                  exfalso; omega
              · skip
                obtain ⟨h5556_0, h5556_1⟩ := h5556
                exfalso; omega
              · skip
                obtain ⟨h5556_0, h5556_1⟩ := h5556
                refine go_to (k := 3) (pc' := 18) (L' := [some (.inr (.inr (some 3000))), some (.inr (.inr (some 0))), some (.inr (.inr (some 79))), some (.inl (l18_3 + 6))]) (st' := []) (w' := (SH, dt2776)) (fun _ => rfl) ?_
                exact GO.le (ih_loop2795 (l18_3 + 6) dt2776 hI2777 hF2778 hM_dt2776 (by omega) (by exact hM2L) (by omega) (by omega) (by omega) (by omega) (by omega) (by omega) (by omega) (by omega) (by omega) (by omega) (by omega) (by omega) (by omega) (by omega) (by omega)) ⟨.inl rfl, .inl rfl, .inl rfl, .inl rfl, trivial⟩
              · skip
                exfalso; omega
            · skip
              refine go_to (k := 5) (pc' := 1426) (L' := [some (.inr (.inr (some 3000))), some (.inr (.inr (some 0))), some (.inr (.inr (some 79))), some (.inl l18_3)]) (st' := [.inl (l18_3 + 1), .inr (.inr (some 3000)), .inr (.inr (some 79)), .inl (-1)]) (w' := (SH, dt2776)) (fun _ => rfl) ?_
              refine go_smp (L' := [some (.inr (.inr (some 3000))), some (.inr (.inr (some 0))), some (.inr (.inr (some 79))), some (.inl l18_3)]) (st' := [.inl ((xs ((l18_3 + 1).toNat)).toInt), .inr (.inr (some 79)), .inl (-1)]) (w' := (SH, dt2776)) rfl rfl (s_iald (n := L) (f := fun j => (xs j).toInt) (am_scr hLL) ⟨by omega, by omega⟩) ?_
              refine go_call (Q' := _) rfl rfl rfl rfl rfl (sp_X6_look L xs sio (d + 38) dt2776 hI2777  ((xs ((l18_3 + 1).toNat)).toInt) ⟨by omega, by omega⟩ ) ?_
              rintro _ _ ⟨rfl, h5563⟩
              refine ⟨rfl, ?_⟩
              rcases h5563 with ⟨rfl, h5563⟩ | ⟨rfl, h5563⟩ | ⟨rfl, h5563⟩ | ⟨rfl, h5563⟩ | ⟨rfl, h5563⟩ | ⟨rfl, h5563⟩ | ⟨rfl, h5563⟩ | ⟨rfl, h5563⟩ | ⟨rfl, h5563⟩
              · skip
                refine go_if (k := 1) (p1 := 1435) (p2 := 1433) (L' := [some (.inr (.inr (some 3000))), some (.inr (.inr (some 0))), some (.inr (.inr (some 79))), some (.inl l18_3)]) (st' := []) (w' := (SH, dt2776)) (fun _ => rfl) (c_eq (a := (-1)) (b := dt2776 80 1) ⟨by omega, by omega⟩ ⟨by omega, by omega⟩) (fun c5564 => ?_) (fun c5564 => ?_)
                · skip
                  refine go_to (k := 2) (pc' := 18) (L' := [some (.inr (.inr (some 3000))), some (.inr (.inr (some 0))), some (.inr (.inr (some 79))), some (.inl (l18_3 + 6))]) (st' := []) (w' := (SH, dt2776)) (fun _ => rfl) ?_
                  exact GO.le (ih_loop2795 (l18_3 + 6) dt2776 hI2777 hF2778 hM_dt2776 (by omega) (by exact hM2L) (by omega) (by omega) (by omega) (by omega) (by omega) (by omega) (by omega) (by omega) (by omega) (by omega) (by omega) (by omega) (by omega) (by omega) (by omega)) ⟨.inl rfl, .inl rfl, .inl rfl, .inl rfl, trivial⟩
                · skip
                  exfalso; omega
              · skip
                refine go_if (k := 1) (p1 := 1435) (p2 := 1433) (L' := [some (.inr (.inr (some 3000))), some (.inr (.inr (some 0))), some (.inr (.inr (some 79))), some (.inl l18_3)]) (st' := []) (w' := (SH, dt2776)) (fun _ => rfl) (c_eq (a := (-1)) (b := dt2776 80 2) ⟨by omega, by omega⟩ ⟨by omega, by omega⟩) (fun c5565 => ?_) (fun c5565 => ?_)
                · skip
                  refine go_to (k := 2) (pc' := 18) (L' := [some (.inr (.inr (some 3000))), some (.inr (.inr (some 0))), some (.inr (.inr (some 79))), some (.inl (l18_3 + 6))]) (st' := []) (w' := (SH, dt2776)) (fun _ => rfl) ?_
                  exact GO.le (ih_loop2795 (l18_3 + 6) dt2776 hI2777 hF2778 hM_dt2776 (by omega) (by exact hM2L) (by omega) (by omega) (by omega) (by omega) (by omega) (by omega) (by omega) (by omega) (by omega) (by omega) (by omega) (by omega) (by omega) (by omega) (by omega)) ⟨.inl rfl, .inl rfl, .inl rfl, .inl rfl, trivial⟩
                · skip
                  exfalso; omega
              · skip
                refine go_if (k := 1) (p1 := 1435) (p2 := 1433) (L' := [some (.inr (.inr (some 3000))), some (.inr (.inr (some 0))), some (.inr (.inr (some 79))), some (.inl l18_3)]) (st' := []) (w' := (SH, dt2776)) (fun _ => rfl) (c_eq (a := (-1)) (b := dt2776 80 3) ⟨by omega, by omega⟩ ⟨by omega, by omega⟩) (fun c5566 => ?_) (fun c5566 => ?_)
                · skip
                  refine go_to (k := 2) (pc' := 18) (L' := [some (.inr (.inr (some 3000))), some (.inr (.inr (some 0))), some (.inr (.inr (some 79))), some (.inl (l18_3 + 6))]) (st' := []) (w' := (SH, dt2776)) (fun _ => rfl) ?_
                  exact GO.le (ih_loop2795 (l18_3 + 6) dt2776 hI2777 hF2778 hM_dt2776 (by omega) (by exact hM2L) (by omega) (by omega) (by omega) (by omega) (by omega) (by omega) (by omega) (by omega) (by omega) (by omega) (by omega) (by omega) (by omega) (by omega) (by omega)) ⟨.inl rfl, .inl rfl, .inl rfl, .inl rfl, trivial⟩
                · skip
                  exfalso; omega
              · skip
                refine go_if (k := 1) (p1 := 1435) (p2 := 1433) (L' := [some (.inr (.inr (some 3000))), some (.inr (.inr (some 0))), some (.inr (.inr (some 79))), some (.inl l18_3)]) (st' := []) (w' := (SH, dt2776)) (fun _ => rfl) (c_eq (a := (-1)) (b := dt2776 80 4) ⟨by omega, by omega⟩ ⟨by omega, by omega⟩) (fun c5567 => ?_) (fun c5567 => ?_)
                · skip
                  refine go_to (k := 2) (pc' := 18) (L' := [some (.inr (.inr (some 3000))), some (.inr (.inr (some 0))), some (.inr (.inr (some 79))), some (.inl (l18_3 + 6))]) (st' := []) (w' := (SH, dt2776)) (fun _ => rfl) ?_
                  exact GO.le (ih_loop2795 (l18_3 + 6) dt2776 hI2777 hF2778 hM_dt2776 (by omega) (by exact hM2L) (by omega) (by omega) (by omega) (by omega) (by omega) (by omega) (by omega) (by omega) (by omega) (by omega) (by omega) (by omega) (by omega) (by omega) (by omega)) ⟨.inl rfl, .inl rfl, .inl rfl, .inl rfl, trivial⟩
                · skip
                  exfalso; omega
              · skip
                refine go_if (k := 1) (p1 := 1435) (p2 := 1433) (L' := [some (.inr (.inr (some 3000))), some (.inr (.inr (some 0))), some (.inr (.inr (some 79))), some (.inl l18_3)]) (st' := []) (w' := (SH, dt2776)) (fun _ => rfl) (c_eq (a := (-1)) (b := dt2776 80 5) ⟨by omega, by omega⟩ ⟨by omega, by omega⟩) (fun c5568 => ?_) (fun c5568 => ?_)
                · skip
                  refine go_to (k := 2) (pc' := 18) (L' := [some (.inr (.inr (some 3000))), some (.inr (.inr (some 0))), some (.inr (.inr (some 79))), some (.inl (l18_3 + 6))]) (st' := []) (w' := (SH, dt2776)) (fun _ => rfl) ?_
                  exact GO.le (ih_loop2795 (l18_3 + 6) dt2776 hI2777 hF2778 hM_dt2776 (by omega) (by exact hM2L) (by omega) (by omega) (by omega) (by omega) (by omega) (by omega) (by omega) (by omega) (by omega) (by omega) (by omega) (by omega) (by omega) (by omega) (by omega)) ⟨.inl rfl, .inl rfl, .inl rfl, .inl rfl, trivial⟩
                · skip
                  exfalso; omega
              · skip
                refine go_if (k := 1) (p1 := 1435) (p2 := 1433) (L' := [some (.inr (.inr (some 3000))), some (.inr (.inr (some 0))), some (.inr (.inr (some 79))), some (.inl l18_3)]) (st' := []) (w' := (SH, dt2776)) (fun _ => rfl) (c_eq (a := (-1)) (b := dt2776 80 0) ⟨by omega, by omega⟩ ⟨by omega, by omega⟩) (fun c5569 => ?_) (fun c5569 => ?_)
                · skip
                  refine go_to (k := 2) (pc' := 18) (L' := [some (.inr (.inr (some 3000))), some (.inr (.inr (some 0))), some (.inr (.inr (some 79))), some (.inl (l18_3 + 6))]) (st' := []) (w' := (SH, dt2776)) (fun _ => rfl) ?_
                  exact GO.le (ih_loop2795 (l18_3 + 6) dt2776 hI2777 hF2778 hM_dt2776 (by omega) (by exact hM2L) (by omega) (by omega) (by omega) (by omega) (by omega) (by omega) (by omega) (by omega) (by omega) (by omega) (by omega) (by omega) (by omega) (by omega) (by omega)) ⟨.inl rfl, .inl rfl, .inl rfl, .inl rfl, trivial⟩
                · skip
                  exfalso; omega
              · skip
                obtain ⟨h5563_0, h5563_1⟩ := h5563
                exfalso; omega
              · skip
                obtain ⟨h5563_0, h5563_1⟩ := h5563
                exfalso; omega
              · skip
                refine go_to (k := 3) (pc' := 18) (L' := [some (.inr (.inr (some 3000))), some (.inr (.inr (some 0))), some (.inr (.inr (some 79))), some (.inl (l18_3 + 6))]) (st' := []) (w' := (SH, dt2776)) (fun _ => rfl) ?_
                exact GO.le (ih_loop2795 (l18_3 + 6) dt2776 hI2777 hF2778 hM_dt2776 (by omega) (by exact hM2L) (by omega) (by omega) (by omega) (by omega) (by omega) (by omega) (by omega) (by omega) (by omega) (by omega) (by omega) (by omega) (by omega) (by omega) (by omega)) ⟨.inl rfl, .inl rfl, .inl rfl, .inl rfl, trivial⟩
  exact GO.le (loop2795 _ 0 dt hI hF hM (by omega) (by exact hM2) (by omega) (by omega) (by omega) (by omega) (by omega) (by omega) (by omega) (by omega) (by omega) (by omega) (by omega) (by omega) (by omega) (by omega) (Nat.lt_succ_self _)) ⟨.inl rfl, .inl rfl, .inl rfl, .inl rfl, trivial⟩
