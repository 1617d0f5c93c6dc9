set_option maxHeartbeats 1500000 in
set_option maxRecDepth 20000 in
theorem sp_X6_anAct_g0 (L : Nat) (xs : Nat → Int32) (sio : Option Nat) (d : Nat) (dt : Nat → Nat → Int) (hI : InvC dt) (b : Nat → Int) (n t i : Nat) (hbb : mB (dt 85) (dt 79 12) = b) (hnn : dt 79 12 = (n : Int)) (hz : KZ (KF 0 b n) t) (ht : t ≤ 500) (hc : CUR 0 b n dt i) (hi : i ≤ t) (hn5 : n ≤ 500)  (h_p0 : dt 79 9 = 0) (h_p1 : 0 ≤ dt 79 10 ∧ dt 79 10 ≤ 24) : GO (am_XX L xs sio) (d + 9) 172 0 [some (.inr (.inr (some 79))), none] [] (SH, dt) (fun r w2 => ∃ dt2 : Nat → Nat → Int, w2 = (SH, dt2) ∧ InvC dt2 ∧ Fr [79, 82] dt dt2 ∧ ((r = some (.inl 0) ∧ (RSX 0 b n i dt2 0 ((gAF (KF 0 b n) (VF b n) (dt 79 10)) i)) ∧ (dt2 79 2 = dt 79 2) ∧ (dt2 79 9 = dt 79 9) ∧ (dt2 79 12 = dt 79 12)) ∨ (r = some (.inl 1) ∧ (RSX 0 b n i dt2 1 ((gAF (KF 0 b n) (VF b n) (dt 79 10)) i)) ∧ (dt 79 10 ≤ 23) ∧ (ARF (dt2 82) (dt 79 10) (KF 0 b n) (VF b n) i) ∧ (∀ j : Nat, (j : Int) < 5 * dt 79 10 → dt2 82 j = dt 82 j) ∧ (dt 79 15 + 1 ≤ dt2 79 15) ∧ (dt2 79 15 ≤ 500) ∧ (dt2 79 2 = dt 79 2) ∧ (dt2 79 9 = dt 79 9) ∧ (dt2 79 10 = dt 79 10) ∧ (dt2 79 11 = dt 79 11) ∧ (dt2 79 12 = dt 79 12) ∧ (dt2 79 17 = dt 79 17)))) := by
  have hF : Fr [79, 82] dt dt := Fr_refl
  have r1 : 0 ≤ dt 79 15 ∧ dt 79 15 ≤ 500 := InvC_get hI 79 15 rfl rfl
  have r2 : 0 ≤ dt 79 11 ∧ dt 79 11 ≤ 510 := InvC_get hI 79 11 rfl rfl
  have r3 : 0 ≤ dt 79 10 ∧ dt 79 10 ≤ 24 := InvC_get hI 79 10 rfl rfl
  have cr0 := CUR_R hc (.inl rfl)
  have cb0 := CUR_b hc
  have cv0 := CUR_v hc
  have ck0 := KZ_lt (i := i) hz
  have c10 := hc.1
  have r4 : (-2147483648) ≤ dt 79 14 ∧ dt 79 14 ≤ 2147483647 := InvC_get hI 79 14 rfl rfl
  refine go_toq PM172 (k := 4) (pc' := 8) (L' := [some (.inr (.inr (some 79))), none]) (st' := [.inl 28, .inl 20, .inl (dt 79 14)]) (w' := (SH, dt)) rfl ?_
  refine go_callq PM172 PM146 (Q' := _) rfl rfl rfl rfl (sp_X6_isIn L xs sio (d + 8) dt hI  (dt 79 14) (by first | exact bnd r4 (by decide) (by decide) | exact ⟨by omega, by omega⟩) 20 ⟨by decide, by decide⟩ 28 ⟨by decide, by decide⟩ ) ?_
  rintro _ _ ⟨rfl, h5⟩
  refine ⟨rfl, ?_⟩
  rcases h5 with ⟨rfl, h5⟩ | ⟨rfl, h5⟩
  · skip
    refine go_ifq PM172 (k := 4) (p1 := 35) (p2 := 29) (L' := [some (.inr (.inr (some 79))), none]) (st' := []) (w' := (SH, dt)) rfl (c_ne (a := dt 79 10) (b := 24) (by first | exact bnd r3 (by decide) (by decide) | exact ⟨by omega, by omega⟩) ⟨by decide, by decide⟩) (fun c6 => ?_) (fun c6 => ?_)
    · skip
      refine go_toq PM172 (k := 5) (pc' := 43) (L' := [some (.inr (.inr (some 79))), some (.inl ((dt 79 14) - 20))]) (st' := []) (w' := (SH, dt)) rfl ?_
      have hc7 : (dt 79 14) - 20 = 0 ∨ (dt 79 14) - 20 = 1 ∨ (dt 79 14) - 20 = 2 ∨ (dt 79 14) - 20 = 3 ∨ (dt 79 14) - 20 = 4 ∨ (dt 79 14) - 20 = 5 ∨ (dt 79 14) - 20 = 6 ∨ (dt 79 14) - 20 = 7 ∨ (dt 79 14) - 20 = 8 := by omega
      rcases hc7 with hc7 | hc7 | hc7 | hc7 | hc7 | hc7 | hc7 | hc7 | hc7
      · rw [hc7]
        refine go_toq PM172 (k := 1) (pc' := 44) (L' := [some (.inr (.inr (some 79))), some (.inl 0)]) (st' := [.inr (.inr (some 79))]) (w' := (SH, dt)) rfl ?_
        refine go_callq PM172 PM159 (Q' := _) rfl rfl rfl rfl (sp_X6_next0_p0 L xs sio (d + 2) dt hI   (by first | exact True.intro | rfl | omega | trivial) (by first | exact True.intro | rfl | omega | trivial)) ?_
        rintro _ _ ⟨dt9, rfl, hI10, hF11, h8⟩
        refine ⟨rfl, ?_⟩
        have hF12 : Fr [79, 82] dt dt9 := Fr_tr hF hF11 (by decide)
        rcases h8 with ⟨rfl, h8⟩
        obtain ⟨h8_0, h8_1, h8_2, h8_3, h8_4, h8_5, h8_6, h8_7, h8_8⟩ := h8
        have BL13 : ∀ j : Nat, (j : Int) < 5 * dt 79 10 → dt9 82 j = dt 82 j := fun j hj => (hF11 82 (by decide) j).trans ((fun _ _ => rfl) j hj)
        have hq14 := h8_0
        rw [hbb, show (dt 79 12).toNat = n by omega] at hq14
        have hc15 : CUR 0 b n dt9 (i + 1) := CUR_n hc hq14
        have hi16 : i + 1 ≤ t := by omega
        have av17 : dt 79 15 + 1 ≤ dt 79 13 := by omega
        have kk_ : KF 0 b n i = 1000 := by omega
        have hp18 : (gAF (KF 0 b n) (VF b n) (dt 79 10)) i = (gAct (KF 0 b n) (VF b n) 0) (i + 1) := (rfl : (gAF (KF 0 b n) (VF b n) (dt 79 10)) i = (gAF (KF 0 b n) (VF b n) (dt 79 10)) i).trans (by show gAF _ _ _ _ = _; unfold gAF; rw [if_neg (by omega), if_neg (by omega), show (KF 0 b n) i - 1000 = 0 by omega])
        clear cr0 cb0 cv0 ck0
        have cr19 := CUR_R hc15 (.inl rfl)
        have cb20 := CUR_b hc15
        have cv21 := CUR_v hc15
        have ck22 := KZ_lt (i := (i + 1)) hz
        have c123 := (hc15).1
        have ci24 := hi16
        have r25 : 0 ≤ dt9 79 10 ∧ dt9 79 10 ≤ 24 := InvC_get hI10 79 10 rfl rfl
        refine go_toq PM172 (k := 7) (pc' := 58) (L' := [some (.inr (.inr (some 79))), some (.inl 0)]) (st' := [.inl 0, .inl (5 * (dt9 79 10)), .inr (.inr (some 82))]) (w' := (SH, dt9)) rfl ?_
        have hI26 : InvC (u2 dt9 82 ((5 * (dt9 79 10)).toNat) 0) := InvC_u2 hI10 (lo := -2147483648) (hi := 2147483647) rfl rfl rfl (by decide) (by decide)
        have hF27 : Fr [79, 82] dt (u2 dt9 82 ((5 * (dt9 79 10)).toNat) 0) := Fr_u2 hF12 (by decide)
        have w28 : (u2 dt9 82 ((5 * (dt9 79 10)).toNat) 0) 79 2 = dt9 79 2 := rfl
        have w29 : (u2 dt9 82 ((5 * (dt9 79 10)).toNat) 0) 79 9 = dt9 79 9 := rfl
        have w30 : (u2 dt9 82 ((5 * (dt9 79 10)).toNat) 0) 79 10 = dt9 79 10 := rfl
        have w31 : (u2 dt9 82 ((5 * (dt9 79 10)).toNat) 0) 79 11 = dt9 79 11 := rfl
        have w32 : (u2 dt9 82 ((5 * (dt9 79 10)).toNat) 0) 79 12 = dt9 79 12 := rfl
        have w33 : (u2 dt9 82 ((5 * (dt9 79 10)).toNat) 0) 79 13 = dt9 79 13 := rfl
        have w34 : (u2 dt9 82 ((5 * (dt9 79 10)).toNat) 0) 79 14 = dt9 79 14 := rfl
        have w35 : (u2 dt9 82 ((5 * (dt9 79 10)).toNat) 0) 79 15 = dt9 79 15 := rfl
        have w36 : (u2 dt9 82 ((5 * (dt9 79 10)).toNat) 0) 79 16 = dt9 79 16 := rfl
        have w37 : (u2 dt9 82 ((5 * (dt9 79 10)).toNat) 0) 79 17 = dt9 79 17 := rfl
        have w38 : (u2 dt9 82 ((5 * (dt9 79 10)).toNat) 0) 79 18 = dt9 79 18 := rfl
        have w39 : (u2 dt9 82 ((5 * (dt9 79 10)).toNat) 0) 79 20 = dt9 79 20 := rfl
        have BL40 : ∀ j : Nat, (j : Int) < 5 * dt 79 10 → (u2 dt9 82 ((5 * (dt9 79 10)).toNat) 0) 82 j = dt 82 j := fun j hj => (u2_ne (by omega)).trans (BL13 j hj)
        have Y41 : (u2 dt9 82 ((5 * (dt9 79 10)).toNat) 0) 82 (5 * (dt 79 10)).toNat = 0 := by rw [show (5 * (dt 79 10)).toNat = (5 * (dt9 79 10)).toNat by omega]; exact u2_eq
        have hc42 : CUR 0 b n (u2 dt9 82 ((5 * (dt9 79 10)).toNat) 0) (i + 1) := CUR_sm hc15 rfl rfl rfl rfl
        refine go_smpq PM172 (L' := [some (.inr (.inr (some 79))), some (.inl 0)]) (st' := []) (w' := (SH, (u2 dt9 82 ((5 * (dt9 79 10)).toNat) 0))) rfl rfl (s_iast (n := 120) rfl ⟨by omega, by omega⟩ ⟨by decide, by decide⟩) ?_
        refine go_toq PM172 (k := 6) (pc' := 72) (L' := [some (.inr (.inr (some 79))), some (.inl 0)]) (st' := [.inl 3, .inl 1, .inr (.inr (some 79))]) (w' := (SH, (u2 dt9 82 ((5 * (dt9 79 10)).toNat) 0))) rfl ?_
        refine go_callq PM172 PM171 (Q' := _) rfl rfl rfl rfl (sp_X6_argument_g0 L xs sio (d + 0) (u2 dt9 82 ((5 * (dt9 79 10)).toNat) 0) hI26 b n t (i + 1) (by first | exact hbb | (rw [show (u2 dt9 82 ((5 * (dt9 79 10)).toNat) 0) 85 = dt 85 from funext (hF27 85 (by decide)), show (u2 dt9 82 ((5 * (dt9 79 10)).toNat) 0) 79 12 = dt 79 12 by omega]; exact hbb)) (by omega) hz ht hc42 hi16 hn5 1 ⟨by decide, by decide⟩ 3 ⟨by decide, by decide⟩ (by first | exact True.intro | rfl | omega | trivial) (by first | exact True.intro | rfl | omega | trivial)) ?_
        rintro _ _ ⟨dt44, rfl, hI45, hF46, h43⟩
        refine ⟨rfl, ?_⟩
        have hF47 : Fr [79, 82] dt dt44 := Fr_tr hF27 hF46 (by decide)
        rcases h43 with ⟨rfl, h43⟩ | ⟨rfl, h43⟩
        · skip
          obtain ⟨h43_0, h43_1, h43_2, h43_3, h43_4⟩ := h43
          have fl48 := RSX_0 h43_0 rfl
          have fe49 : (gAF (KF 0 b n) (VF b n) (dt 79 10)) i = (gA (KF 0 b n) (VF b n) 3) (i + 1) := hp18.trans ((show (gAct (KF 0 b n) (VF b n) 0) (i + 1) = gB ((gA (KF 0 b n) (VF b n) 3) (i + 1)) (hA0 (KF 0 b n) (VF b n) 0 ((VF b n) (i + 1))) by exact hAc_n (by decide)).trans (gB_no fl48.1))
          refine go_retq PM172 (k := 2) (r := some (.inl 0)) (w1 := (SH, dt44)) rfl ?_
          exact ⟨dt44, rfl, hI45, hF47, (Or.inl ⟨rfl, ⟨by exact RSX_f fe49 fl48 (by omega) (by omega), by first | exact True.intro | rfl | omega | trivial, by first | exact True.intro | rfl | omega | trivial, by first | exact True.intro | rfl | omega | trivial⟩⟩)⟩
        · skip
          obtain ⟨h43_0, h43_1, h43_2, h43_3, h43_4, h43_5, h43_6, h43_7, h43_8, h43_9, h43_10, h43_11⟩ := h43
          have ee50 : (u2 dt9 82 ((5 * (dt9 79 10)).toNat) 0) 79 10 = dt 79 10 := by omega
          rw [ee50] at h43_1 h43_2
          have BL51 : ∀ j : Nat, (j : Int) < 5 * dt 79 10 → dt44 82 j = dt 82 j := fun j hj => (h43_2 j (by omega)).trans (BL40 j hj)
          have Y52 := (h43_2 _ (by omega)).trans Y41
          have Y53 := h43_1
          obtain ⟨j54, ej55, hc56⟩ := RSX_1 h43_0 (by decide)
          have hp57 : (gAF (KF 0 b n) (VF b n) (dt 79 10)) i = (hA0 (KF 0 b n) (VF b n) 0 ((VF b n) (i + 1))) j54 := hp18.trans ((show (gAct (KF 0 b n) (VF b n) 0) (i + 1) = gB ((gA (KF 0 b n) (VF b n) 3) (i + 1)) (hA0 (KF 0 b n) (VF b n) 0 ((VF b n) (i + 1))) by exact hAc_n (by decide)).trans (by rw [ej55]; exact gB_0))
          have hi58 : j54 ≤ t := by have z := gA_M (K := (KF 0 b n)) (V := (VF b n)) (m := 3) (i := (i + 1)) hz; rw [ej55] at z; have y := z rfl; simp only at y; omega
          clear cr19 cb20 cv21 ck22
          have cr59 := CUR_R hc56 (.inl rfl)
          have cb60 := CUR_b hc56
          have cv61 := CUR_v hc56
          have ck62 := KZ_lt (i := j54) hz
          have c163 := (hc56).1
          have ci64 := hi58
          have ej65 : j54 = (i + 1) + 1 := by have z_ := gA_at (K := (KF 0 b n)) (V := (VF b n)) (m := 3) (i := (i + 1)) (by rw [ej55]); rw [ej55] at z_; exact z_
          refine go_toq PM172 (k := 30) (pc' := 208) (L' := [some (.inr (.inr (some 79))), some (.inl 0)]) (st' := [.inl 159, .inr (.inr (some 79))]) (w' := (SH, dt44)) rfl ?_
          refine go_callq PM172 PM161 (Q' := _) rfl rfl rfl rfl (sp_X6_need0_g0 L xs sio (d + 1) dt44 hI45 b n t j54 (by first | exact hbb | (rw [show dt44 85 = dt 85 from funext (hF47 85 (by decide)), show dt44 79 12 = dt 79 12 by omega]; exact hbb)) (by omega) hz ht hc56 hi58 hn5 159 ⟨by decide, by decide⟩ (by first | exact True.intro | rfl | omega | trivial)) ?_
          rintro _ _ ⟨dt67, rfl, hI68, hF69, h66⟩
          refine ⟨rfl, ?_⟩
          have hF70 : Fr [79, 82] dt dt67 := Fr_tr hF47 hF69 (by decide)
          rcases h66 with ⟨rfl, h66⟩ | ⟨rfl, h66⟩
          · skip
            obtain ⟨h66_0, h66_1, h66_2, h66_3, h66_4⟩ := h66
            have BL71 : ∀ j : Nat, (j : Int) < 5 * dt 79 10 → dt67 82 j = dt 82 j := fun j hj => (hF69 82 (by decide) j).trans (BL51 j hj)
            have Y72 := (hF69 82 (by decide) _).trans Y52
            have Y73 := (hF69 82 (by decide) _).trans Y53
            have fl74 := RSX_0 h66_0 rfl
            have fe75 : (gAF (KF 0 b n) (VF b n) (dt 79 10)) i = (gK (KF 0 b n) (159 - 100)) j54 := hp57.trans ((show (hA0 (KF 0 b n) (VF b n) 0 ((VF b n) (i + 1))) j54 = gB ((gK (KF 0 b n) (159 - 100)) j54) gOk by first | exact gB_id.symm | ((repeat (first | rw [hA0_n (by decide)] | rw [hA1_n (by decide)] | rw [hA2_n (by decide)] | rw [hA3_n (by decide)])); exact gB_id.symm)).trans (gB_no fl74.1))
            refine go_retq PM172 (k := 0) (r := some (.inl 0)) (w1 := (SH, dt67)) rfl ?_
            exact ⟨dt67, rfl, hI68, hF70, (Or.inl ⟨rfl, ⟨by exact RSX_f fe75 fl74 (by omega) (by omega), by first | exact True.intro | rfl | omega | trivial, by first | exact True.intro | rfl | omega | trivial, by first | exact True.intro | rfl | omega | trivial⟩⟩)⟩
          · skip
            obtain ⟨h66_0, h66_1, h66_2, h66_3, h66_4, h66_5, h66_6, h66_7, h66_8, h66_9⟩ := h66
            have BL76 : ∀ j : Nat, (j : Int) < 5 * dt 79 10 → dt67 82 j = dt 82 j := fun j hj => (hF69 82 (by decide) j).trans (BL51 j hj)
            have Y77 := (hF69 82 (by decide) _).trans Y52
            have Y78 := (hF69 82 (by decide) _).trans Y53
            obtain ⟨j79, ej80, hc81⟩ := RSX_1 h66_0 (by decide)
            have hp82 : (gAF (KF 0 b n) (VF b n) (dt 79 10)) i = gOk j79 := hp57.trans ((show (hA0 (KF 0 b n) (VF b n) 0 ((VF b n) (i + 1))) j54 = gB ((gK (KF 0 b n) (159 - 100)) j54) gOk by first | exact gB_id.symm | ((repeat (first | rw [hA0_n (by decide)] | rw [hA1_n (by decide)] | rw [hA2_n (by decide)] | rw [hA3_n (by decide)])); exact gB_id.symm)).trans (by rw [ej80]; exact gB_0))
            have hi83 : j79 ≤ t := by have z := (fun (h : KZ (KF 0 b n) t) => gK_M (K := (KF 0 b n)) (k := 159 - 100) (i := j54) h (by decide)) hz; rw [ej80] at z; have y := z rfl; simp only at y; omega
            clear cr59 cb60 cv61 ck62
            have cr84 := CUR_R hc81 (.inl rfl)
            have cb85 := CUR_b hc81
            have cv86 := CUR_v hc81
            have ck87 := KZ_lt (i := j79) hz
            have c188 := (hc81).1
            have ci89 := hi83
            refine go_retq PM172 (k := 0) (r := some (.inl 1)) (w1 := (SH, dt67)) rfl ?_
            exact ⟨dt67, rfl, hI68, hF70, (Or.inr ⟨rfl, ⟨by exact RSX_ok hp82 hc81, by first | exact True.intro | rfl | omega | trivial, by unfold ARF ATT ABB; exact ⟨by rw [Y77]; omega, Y78.trans (congrArg (VF b n) (by omega)), fun z_ => by (exfalso; omega), fun z_ => by (exfalso; omega), fun z_ => by (exfalso; omega), fun z_ => by (exfalso; omega)⟩, by exact BL76, by first | exact True.intro | rfl | omega | trivial, by exact (InvC_get (by assumption) 79 15 rfl rfl).2, by first | exact True.intro | rfl | omega | trivial, by first | exact True.intro | rfl | omega | trivial, by first | exact True.intro | rfl | omega | trivial, by first | exact True.intro | rfl | omega | trivial, by first | exact True.intro | rfl | omega | trivial, by first | exact True.intro | rfl | omega | trivial⟩⟩)⟩
      · rw [hc7]
        refine go_toq PM172 (k := 1) (pc' := 44) (L' := [some (.inr (.inr (some 79))), some (.inl 1)]) (st' := [.inr (.inr (some 79))]) (w' := (SH, dt)) rfl ?_
        refine go_callq PM172 PM159 (Q' := _) rfl rfl rfl rfl (sp_X6_next0_p0 L xs sio (d + 2) dt hI   (by first | exact True.intro | rfl | omega | trivial) (by first | exact True.intro | rfl | omega | trivial)) ?_
        rintro _ _ ⟨dt91, rfl, hI92, hF93, h90⟩
        refine ⟨rfl, ?_⟩
        have hF94 : Fr [79, 82] dt dt91 := Fr_tr hF hF93 (by decide)
        rcases h90 with ⟨rfl, h90⟩
        obtain ⟨h90_0, h90_1, h90_2, h90_3, h90_4, h90_5, h90_6, h90_7, h90_8⟩ := h90
        have BL95 : ∀ j : Nat, (j : Int) < 5 * dt 79 10 → dt91 82 j = dt 82 j := fun j hj => (hF93 82 (by decide) j).trans ((fun _ _ => rfl) j hj)
        have hq96 := h90_0
        rw [hbb, show (dt 79 12).toNat = n by omega] at hq96
        have hc97 : CUR 0 b n dt91 (i + 1) := CUR_n hc hq96
        have hi98 : i + 1 ≤ t := by omega
        have av99 : dt 79 15 + 1 ≤ dt 79 13 := by omega
        have kk_ : KF 0 b n i = 1001 := by omega
        have hp100 : (gAF (KF 0 b n) (VF b n) (dt 79 10)) i = (gAct (KF 0 b n) (VF b n) 1) (i + 1) := (rfl : (gAF (KF 0 b n) (VF b n) (dt 79 10)) i = (gAF (KF 0 b n) (VF b n) (dt 79 10)) i).trans (by show gAF _ _ _ _ = _; unfold gAF; rw [if_neg (by omega), if_neg (by omega), show (KF 0 b n) i - 1000 = 1 by omega])
        clear cr0 cb0 cv0 ck0
        have cr101 := CUR_R hc97 (.inl rfl)
        have cb102 := CUR_b hc97
        have cv103 := CUR_v hc97
        have ck104 := KZ_lt (i := (i + 1)) hz
        have c1105 := (hc97).1
        have ci106 := hi98
        have r107 : 0 ≤ dt91 79 10 ∧ dt91 79 10 ≤ 24 := InvC_get hI92 79 10 rfl rfl
        refine go_toq PM172 (k := 7) (pc' := 58) (L' := [some (.inr (.inr (some 79))), some (.inl 1)]) (st' := [.inl 1, .inl (5 * (dt91 79 10)), .inr (.inr (some 82))]) (w' := (SH, dt91)) rfl ?_
        have hI108 : InvC (u2 dt91 82 ((5 * (dt91 79 10)).toNat) 1) := InvC_u2 hI92 (lo := -2147483648) (hi := 2147483647) rfl rfl rfl (by decide) (by decide)
        have hF109 : Fr [79, 82] dt (u2 dt91 82 ((5 * (dt91 79 10)).toNat) 1) := Fr_u2 hF94 (by decide)
        have w110 : (u2 dt91 82 ((5 * (dt91 79 10)).toNat) 1) 79 2 = dt91 79 2 := rfl
        have w111 : (u2 dt91 82 ((5 * (dt91 79 10)).toNat) 1) 79 9 = dt91 79 9 := rfl
        have w112 : (u2 dt91 82 ((5 * (dt91 79 10)).toNat) 1) 79 10 = dt91 79 10 := rfl
        have w113 : (u2 dt91 82 ((5 * (dt91 79 10)).toNat) 1) 79 11 = dt91 79 11 := rfl
        have w114 : (u2 dt91 82 ((5 * (dt91 79 10)).toNat) 1) 79 12 = dt91 79 12 := rfl
        have w115 : (u2 dt91 82 ((5 * (dt91 79 10)).toNat) 1) 79 13 = dt91 79 13 := rfl
        have w116 : (u2 dt91 82 ((5 * (dt91 79 10)).toNat) 1) 79 14 = dt91 79 14 := rfl
        have w117 : (u2 dt91 82 ((5 * (dt91 79 10)).toNat) 1) 79 15 = dt91 79 15 := rfl
        have w118 : (u2 dt91 82 ((5 * (dt91 79 10)).toNat) 1) 79 16 = dt91 79 16 := rfl
        have w119 : (u2 dt91 82 ((5 * (dt91 79 10)).toNat) 1) 79 17 = dt91 79 17 := rfl
        have w120 : (u2 dt91 82 ((5 * (dt91 79 10)).toNat) 1) 79 18 = dt91 79 18 := rfl
        have w121 : (u2 dt91 82 ((5 * (dt91 79 10)).toNat) 1) 79 20 = dt91 79 20 := rfl
        have BL122 : ∀ j : Nat, (j : Int) < 5 * dt 79 10 → (u2 dt91 82 ((5 * (dt91 79 10)).toNat) 1) 82 j = dt 82 j := fun j hj => (u2_ne (by omega)).trans (BL95 j hj)
        have Y123 : (u2 dt91 82 ((5 * (dt91 79 10)).toNat) 1) 82 (5 * (dt 79 10)).toNat = 1 := by rw [show (5 * (dt 79 10)).toNat = (5 * (dt91 79 10)).toNat by omega]; exact u2_eq
        have hc124 : CUR 0 b n (u2 dt91 82 ((5 * (dt91 79 10)).toNat) 1) (i + 1) := CUR_sm hc97 rfl rfl rfl rfl
        refine go_smpq PM172 (L' := [some (.inr (.inr (some 79))), some (.inl 1)]) (st' := []) (w' := (SH, (u2 dt91 82 ((5 * (dt91 79 10)).toNat) 1))) rfl rfl (s_iast (n := 120) rfl ⟨by omega, by omega⟩ ⟨by decide, by decide⟩) ?_
        refine go_toq PM172 (k := 6) (pc' := 72) (L' := [some (.inr (.inr (some 79))), some (.inl 1)]) (st' := [.inl 3, .inl 1, .inr (.inr (some 79))]) (w' := (SH, (u2 dt91 82 ((5 * (dt91 79 10)).toNat) 1))) rfl ?_
        refine go_callq PM172 PM171 (Q' := _) rfl rfl rfl rfl (sp_X6_argument_g0 L xs sio (d + 0) (u2 dt91 82 ((5 * (dt91 79 10)).toNat) 1) hI108 b n t (i + 1) (by first | exact hbb | (rw [show (u2 dt91 82 ((5 * (dt91 79 10)).toNat) 1) 85 = dt 85 from funext (hF109 85 (by decide)), show (u2 dt91 82 ((5 * (dt91 79 10)).toNat) 1) 79 12 = dt 79 12 by omega]; exact hbb)) (by omega) hz ht hc124 hi98 hn5 1 ⟨by decide, by decide⟩ 3 ⟨by decide, by decide⟩ (by first | exact True.intro | rfl | omega | trivial) (by first | exact True.intro | rfl | omega | trivial)) ?_
        rintro _ _ ⟨dt126, rfl, hI127, hF128, h125⟩
        refine ⟨rfl, ?_⟩
        have hF129 : Fr [79, 82] dt dt126 := Fr_tr hF109 hF128 (by decide)
        rcases h125 with ⟨rfl, h125⟩ | ⟨rfl, h125⟩
        · skip
          obtain ⟨h125_0, h125_1, h125_2, h125_3, h125_4⟩ := h125
          have fl130 := RSX_0 h125_0 rfl
          have fe131 : (gAF (KF 0 b n) (VF b n) (dt 79 10)) i = (gA (KF 0 b n) (VF b n) 3) (i + 1) := hp100.trans ((show (gAct (KF 0 b n) (VF b n) 1) (i + 1) = gB ((gA (KF 0 b n) (VF b n) 3) (i + 1)) (hA0 (KF 0 b n) (VF b n) 1 ((VF b n) (i + 1))) by exact hAc_n (by decide)).trans (gB_no fl130.1))
          refine go_retq PM172 (k := 2) (r := some (.inl 0)) (w1 := (SH, dt126)) rfl ?_
          exact ⟨dt126, rfl, hI127, hF129, (Or.inl ⟨rfl, ⟨by exact RSX_f fe131 fl130 (by omega) (by omega), by first | exact True.intro | rfl | omega | trivial, by first | exact True.intro | rfl | omega | trivial, by first | exact True.intro | rfl | omega | trivial⟩⟩)⟩
        · skip
          obtain ⟨h125_0, h125_1, h125_2, h125_3, h125_4, h125_5, h125_6, h125_7, h125_8, h125_9, h125_10, h125_11⟩ := h125
          have ee132 : (u2 dt91 82 ((5 * (dt91 79 10)).toNat) 1) 79 10 = dt 79 10 := by omega
          rw [ee132] at h125_1 h125_2
          have BL133 : ∀ j : Nat, (j : Int) < 5 * dt 79 10 → dt126 82 j = dt 82 j := fun j hj => (h125_2 j (by omega)).trans (BL122 j hj)
          have Y134 := (h125_2 _ (by omega)).trans Y123
          have Y135 := h125_1
          obtain ⟨j136, ej137, hc138⟩ := RSX_1 h125_0 (by decide)
          have hp139 : (gAF (KF 0 b n) (VF b n) (dt 79 10)) i = (hA0 (KF 0 b n) (VF b n) 1 ((VF b n) (i + 1))) j136 := hp100.trans ((show (gAct (KF 0 b n) (VF b n) 1) (i + 1) = gB ((gA (KF 0 b n) (VF b n) 3) (i + 1)) (hA0 (KF 0 b n) (VF b n) 1 ((VF b n) (i + 1))) by exact hAc_n (by decide)).trans (by rw [ej137]; exact gB_0))
          have hi140 : j136 ≤ t := by have z := gA_M (K := (KF 0 b n)) (V := (VF b n)) (m := 3) (i := (i + 1)) hz; rw [ej137] at z; have y := z rfl; simp only at y; omega
          clear cr101 cb102 cv103 ck104
          have cr141 := CUR_R hc138 (.inl rfl)
          have cb142 := CUR_b hc138
          have cv143 := CUR_v hc138
          have ck144 := KZ_lt (i := j136) hz
          have c1145 := (hc138).1
          have ci146 := hi140
          have ej147 : j136 = (i + 1) + 1 := by have z_ := gA_at (K := (KF 0 b n)) (V := (VF b n)) (m := 3) (i := (i + 1)) (by rw [ej137]); rw [ej137] at z_; exact z_
          refine go_toq PM172 (k := 30) (pc' := 208) (L' := [some (.inr (.inr (some 79))), some (.inl 1)]) (st' := [.inl 159, .inr (.inr (some 79))]) (w' := (SH, dt126)) rfl ?_
          refine go_callq PM172 PM161 (Q' := _) rfl rfl rfl rfl (sp_X6_need0_g0 L xs sio (d + 1) dt126 hI127 b n t j136 (by first | exact hbb | (rw [show dt126 85 = dt 85 from funext (hF129 85 (by decide)), show dt126 79 12 = dt 79 12 by omega]; exact hbb)) (by omega) hz ht hc138 hi140 hn5 159 ⟨by decide, by decide⟩ (by first | exact True.intro | rfl | omega | trivial)) ?_
          rintro _ _ ⟨dt149, rfl, hI150, hF151, h148⟩
          refine ⟨rfl, ?_⟩
          have hF152 : Fr [79, 82] dt dt149 := Fr_tr hF129 hF151 (by decide)
          rcases h148 with ⟨rfl, h148⟩ | ⟨rfl, h148⟩
          · skip
            obtain ⟨h148_0, h148_1, h148_2, h148_3, h148_4⟩ := h148
            have BL153 : ∀ j : Nat, (j : Int) < 5 * dt 79 10 → dt149 82 j = dt 82 j := fun j hj => (hF151 82 (by decide) j).trans (BL133 j hj)
            have Y154 := (hF151 82 (by decide) _).trans Y134
            have Y155 := (hF151 82 (by decide) _).trans Y135
            have fl156 := RSX_0 h148_0 rfl
            have fe157 : (gAF (KF 0 b n) (VF b n) (dt 79 10)) i = (gK (KF 0 b n) (159 - 100)) j136 := hp139.trans ((show (hA0 (KF 0 b n) (VF b n) 1 ((VF b n) (i + 1))) j136 = gB ((gK (KF 0 b n) (159 - 100)) j136) gOk by first | exact gB_id.symm | ((repeat (first | rw [hA0_n (by decide)] | rw [hA1_n (by decide)] | rw [hA2_n (by decide)] | rw [hA3_n (by decide)])); exact gB_id.symm)).trans (gB_no fl156.1))
            refine go_retq PM172 (k := 0) (r := some (.inl 0)) (w1 := (SH, dt149)) rfl ?_
            exact ⟨dt149, rfl, hI150, hF152, (Or.inl ⟨rfl, ⟨by exact RSX_f fe157 fl156 (by omega) (by omega), by first | exact True.intro | rfl | omega | trivial, by first | exact True.intro | rfl | omega | trivial, by first | exact True.intro | rfl | omega | trivial⟩⟩)⟩
          · skip
            obtain ⟨h148_0, h148_1, h148_2, h148_3, h148_4, h148_5, h148_6, h148_7, h148_8, h148_9⟩ := h148
            have BL158 : ∀ j : Nat, (j : Int) < 5 * dt 79 10 → dt149 82 j = dt 82 j := fun j hj => (hF151 82 (by decide) j).trans (BL133 j hj)
            have Y159 := (hF151 82 (by decide) _).trans Y134
            have Y160 := (hF151 82 (by decide) _).trans Y135
            obtain ⟨j161, ej162, hc163⟩ := RSX_1 h148_0 (by decide)
            have hp164 : (gAF (KF 0 b n) (VF b n) (dt 79 10)) i = gOk j161 := hp139.trans ((show (hA0 (KF 0 b n) (VF b n) 1 ((VF b n) (i + 1))) j136 = gB ((gK (KF 0 b n) (159 - 100)) j136) gOk by first | exact gB_id.symm | ((repeat (first | rw [hA0_n (by decide)] | rw [hA1_n (by decide)] | rw [hA2_n (by decide)] | rw [hA3_n (by decide)])); exact gB_id.symm)).trans (by rw [ej162]; exact gB_0))
            have hi165 : j161 ≤ t := by have z := (fun (h : KZ (KF 0 b n) t) => gK_M (K := (KF 0 b n)) (k := 159 - 100) (i := j136) h (by decide)) hz; rw [ej162] at z; have y := z rfl; simp only at y; omega
            clear cr141 cb142 cv143 ck144
            have cr166 := CUR_R hc163 (.inl rfl)
            have cb167 := CUR_b hc163
            have cv168 := CUR_v hc163
            have ck169 := KZ_lt (i := j161) hz
            have c1170 := (hc163).1
            have ci171 := hi165
            refine go_retq PM172 (k := 0) (r := some (.inl 1)) (w1 := (SH, dt149)) rfl ?_
            exact ⟨dt149, rfl, hI150, hF152, (Or.inr ⟨rfl, ⟨by exact RSX_ok hp164 hc163, by first | exact True.intro | rfl | omega | trivial, by unfold ARF ATT ABB; exact ⟨by rw [Y159]; omega, Y160.trans (congrArg (VF b n) (by omega)), fun z_ => by (exfalso; omega), fun z_ => by (exfalso; omega), fun z_ => by (exfalso; omega), fun z_ => by (exfalso; omega)⟩, by exact BL158, by first | exact True.intro | rfl | omega | trivial, by exact (InvC_get (by assumption) 79 15 rfl rfl).2, by first | exact True.intro | rfl | omega | trivial, by first | exact True.intro | rfl | omega | trivial, by first | exact True.intro | rfl | omega | trivial, by first | exact True.intro | rfl | omega | trivial, by first | exact True.intro | rfl | omega | trivial, by first | exact True.intro | rfl | omega | trivial⟩⟩)⟩
      · rw [hc7]
        refine go_toq PM172 (k := 1) (pc' := 44) (L' := [some (.inr (.inr (some 79))), some (.inl 2)]) (st' := [.inr (.inr (some 79))]) (w' := (SH, dt)) rfl ?_
        refine go_callq PM172 PM159 (Q' := _) rfl rfl rfl rfl (sp_X6_next0_p0 L xs sio (d + 2) dt hI   (by first | exact True.intro | rfl | omega | trivial) (by first | exact True.intro | rfl | omega | trivial)) ?_
        rintro _ _ ⟨dt173, rfl, hI174, hF175, h172⟩
        refine ⟨rfl, ?_⟩
        have hF176 : Fr [79, 82] dt dt173 := Fr_tr hF hF175 (by decide)
        rcases h172 with ⟨rfl, h172⟩
        obtain ⟨h172_0, h172_1, h172_2, h172_3, h172_4, h172_5, h172_6, h172_7, h172_8⟩ := h172
        have BL177 : ∀ j : Nat, (j : Int) < 5 * dt 79 10 → dt173 82 j = dt 82 j := fun j hj => (hF175 82 (by decide) j).trans ((fun _ _ => rfl) j hj)
        have hq178 := h172_0
        rw [hbb, show (dt 79 12).toNat = n by omega] at hq178
        have hc179 : CUR 0 b n dt173 (i + 1) := CUR_n hc hq178
        have hi180 : i + 1 ≤ t := by omega
        have av181 : dt 79 15 + 1 ≤ dt 79 13 := by omega
        have kk_ : KF 0 b n i = 1002 := by omega
        have hp182 : (gAF (KF 0 b n) (VF b n) (dt 79 10)) i = (gAct (KF 0 b n) (VF b n) 2) (i + 1) := (rfl : (gAF (KF 0 b n) (VF b n) (dt 79 10)) i = (gAF (KF 0 b n) (VF b n) (dt 79 10)) i).trans (by show gAF _ _ _ _ = _; unfold gAF; rw [if_neg (by omega), if_neg (by omega), show (KF 0 b n) i - 1000 = 2 by omega])
        clear cr0 cb0 cv0 ck0
        have cr183 := CUR_R hc179 (.inl rfl)
        have cb184 := CUR_b hc179
        have cv185 := CUR_v hc179
        have ck186 := KZ_lt (i := (i + 1)) hz
        have c1187 := (hc179).1
        have ci188 := hi180
        have r189 : 0 ≤ dt173 79 10 ∧ dt173 79 10 ≤ 24 := InvC_get hI174 79 10 rfl rfl
        refine go_toq PM172 (k := 7) (pc' := 58) (L' := [some (.inr (.inr (some 79))), some (.inl 2)]) (st' := [.inl 2, .inl (5 * (dt173 79 10)), .inr (.inr (some 82))]) (w' := (SH, dt173)) rfl ?_
        have hI190 : InvC (u2 dt173 82 ((5 * (dt173 79 10)).toNat) 2) := InvC_u2 hI174 (lo := -2147483648) (hi := 2147483647) rfl rfl rfl (by decide) (by decide)
        have hF191 : Fr [79, 82] dt (u2 dt173 82 ((5 * (dt173 79 10)).toNat) 2) := Fr_u2 hF176 (by decide)
        have w192 : (u2 dt173 82 ((5 * (dt173 79 10)).toNat) 2) 79 2 = dt173 79 2 := rfl
        have w193 : (u2 dt173 82 ((5 * (dt173 79 10)).toNat) 2) 79 9 = dt173 79 9 := rfl
        have w194 : (u2 dt173 82 ((5 * (dt173 79 10)).toNat) 2) 79 10 = dt173 79 10 := rfl
        have w195 : (u2 dt173 82 ((5 * (dt173 79 10)).toNat) 2) 79 11 = dt173 79 11 := rfl
        have w196 : (u2 dt173 82 ((5 * (dt173 79 10)).toNat) 2) 79 12 = dt173 79 12 := rfl
        have w197 : (u2 dt173 82 ((5 * (dt173 79 10)).toNat) 2) 79 13 = dt173 79 13 := rfl
        have w198 : (u2 dt173 82 ((5 * (dt173 79 10)).toNat) 2) 79 14 = dt173 79 14 := rfl
        have w199 : (u2 dt173 82 ((5 * (dt173 79 10)).toNat) 2) 79 15 = dt173 79 15 := rfl
        have w200 : (u2 dt173 82 ((5 * (dt173 79 10)).toNat) 2) 79 16 = dt173 79 16 := rfl
        have w201 : (u2 dt173 82 ((5 * (dt173 79 10)).toNat) 2) 79 17 = dt173 79 17 := rfl
        have w202 : (u2 dt173 82 ((5 * (dt173 79 10)).toNat) 2) 79 18 = dt173 79 18 := rfl
        have w203 : (u2 dt173 82 ((5 * (dt173 79 10)).toNat) 2) 79 20 = dt173 79 20 := rfl
        have BL204 : ∀ j : Nat, (j : Int) < 5 * dt 79 10 → (u2 dt173 82 ((5 * (dt173 79 10)).toNat) 2) 82 j = dt 82 j := fun j hj => (u2_ne (by omega)).trans (BL177 j hj)
        have Y205 : (u2 dt173 82 ((5 * (dt173 79 10)).toNat) 2) 82 (5 * (dt 79 10)).toNat = 2 := by rw [show (5 * (dt 79 10)).toNat = (5 * (dt173 79 10)).toNat by omega]; exact u2_eq
        have hc206 : CUR 0 b n (u2 dt173 82 ((5 * (dt173 79 10)).toNat) 2) (i + 1) := CUR_sm hc179 rfl rfl rfl rfl
        refine go_smpq PM172 (L' := [some (.inr (.inr (some 79))), some (.inl 2)]) (st' := []) (w' := (SH, (u2 dt173 82 ((5 * (dt173 79 10)).toNat) 2))) rfl rfl (s_iast (n := 120) rfl ⟨by omega, by omega⟩ ⟨by decide, by decide⟩) ?_
        refine go_toq PM172 (k := 6) (pc' := 72) (L' := [some (.inr (.inr (some 79))), some (.inl 2)]) (st' := [.inl 3, .inl 1, .inr (.inr (some 79))]) (w' := (SH, (u2 dt173 82 ((5 * (dt173 79 10)).toNat) 2))) rfl ?_
        refine go_callq PM172 PM171 (Q' := _) rfl rfl rfl rfl (sp_X6_argument_g0 L xs sio (d + 0) (u2 dt173 82 ((5 * (dt173 79 10)).toNat) 2) hI190 b n t (i + 1) (by first | exact hbb | (rw [show (u2 dt173 82 ((5 * (dt173 79 10)).toNat) 2) 85 = dt 85 from funext (hF191 85 (by decide)), show (u2 dt173 82 ((5 * (dt173 79 10)).toNat) 2) 79 12 = dt 79 12 by omega]; exact hbb)) (by omega) hz ht hc206 hi180 hn5 1 ⟨by decide, by decide⟩ 3 ⟨by decide, by decide⟩ (by first | exact True.intro | rfl | omega | trivial) (by first | exact True.intro | rfl | omega | trivial)) ?_
        rintro _ _ ⟨dt208, rfl, hI209, hF210, h207⟩
        refine ⟨rfl, ?_⟩
        have hF211 : Fr [79, 82] dt dt208 := Fr_tr hF191 hF210 (by decide)
        rcases h207 with ⟨rfl, h207⟩ | ⟨rfl, h207⟩
        · skip
          obtain ⟨h207_0, h207_1, h207_2, h207_3, h207_4⟩ := h207
          have fl212 := RSX_0 h207_0 rfl
          have fe213 : (gAF (KF 0 b n) (VF b n) (dt 79 10)) i = (gA (KF 0 b n) (VF b n) 3) (i + 1) := hp182.trans ((show (gAct (KF 0 b n) (VF b n) 2) (i + 1) = gB ((gA (KF 0 b n) (VF b n) 3) (i + 1)) (hA0 (KF 0 b n) (VF b n) 2 ((VF b n) (i + 1))) by exact hAc_n (by decide)).trans (gB_no fl212.1))
          refine go_retq PM172 (k := 2) (r := some (.inl 0)) (w1 := (SH, dt208)) rfl ?_
          exact ⟨dt208, rfl, hI209, hF211, (Or.inl ⟨rfl, ⟨by exact RSX_f fe213 fl212 (by omega) (by omega), by first | exact True.intro | rfl | omega | trivial, by first | exact True.intro | rfl | omega | trivial, by first | exact True.intro | rfl | omega | trivial⟩⟩)⟩
        · skip
          obtain ⟨h207_0, h207_1, h207_2, h207_3, h207_4, h207_5, h207_6, h207_7, h207_8, h207_9, h207_10, h207_11⟩ := h207
          have ee214 : (u2 dt173 82 ((5 * (dt173 79 10)).toNat) 2) 79 10 = dt 79 10 := by omega
          rw [ee214] at h207_1 h207_2
          have BL215 : ∀ j : Nat, (j : Int) < 5 * dt 79 10 → dt208 82 j = dt 82 j := fun j hj => (h207_2 j (by omega)).trans (BL204 j hj)
          have Y216 := (h207_2 _ (by omega)).trans Y205
          have Y217 := h207_1
          obtain ⟨j218, ej219, hc220⟩ := RSX_1 h207_0 (by decide)
          have hp221 : (gAF (KF 0 b n) (VF b n) (dt 79 10)) i = (hA0 (KF 0 b n) (VF b n) 2 ((VF b n) (i + 1))) j218 := hp182.trans ((show (gAct (KF 0 b n) (VF b n) 2) (i + 1) = gB ((gA (KF 0 b n) (VF b n) 3) (i + 1)) (hA0 (KF 0 b n) (VF b n) 2 ((VF b n) (i + 1))) by exact hAc_n (by decide)).trans (by rw [ej219]; exact gB_0))
          have hi222 : j218 ≤ t := by have z := gA_M (K := (KF 0 b n)) (V := (VF b n)) (m := 3) (i := (i + 1)) hz; rw [ej219] at z; have y := z rfl; simp only at y; omega
          clear cr183 cb184 cv185 ck186
          have cr223 := CUR_R hc220 (.inl rfl)
          have cb224 := CUR_b hc220
          have cv225 := CUR_v hc220
          have ck226 := KZ_lt (i := j218) hz
          have c1227 := (hc220).1
          have ci228 := hi222
          have ej229 : j218 = (i + 1) + 1 := by have z_ := gA_at (K := (KF 0 b n)) (V := (VF b n)) (m := 3) (i := (i + 1)) (by rw [ej219]); rw [ej219] at z_; exact z_
          refine go_toq PM172 (k := 10) (pc' := 148) (L' := [some (.inr (.inr (some 79))), some (.inl 2)]) (st' := [.inl 2, .inl 2, .inr (.inr (some 79))]) (w' := (SH, dt208)) rfl ?_
          refine go_callq PM172 PM171 (Q' := _) rfl rfl rfl rfl (sp_X6_argument_g0 L xs sio (d + 0) dt208 hI209 b n t j218 (by first | exact hbb | (rw [show dt208 85 = dt 85 from funext (hF211 85 (by decide)), show dt208 79 12 = dt 79 12 by omega]; exact hbb)) (by omega) hz ht hc220 hi222 hn5 2 ⟨by decide, by decide⟩ 2 ⟨by decide, by decide⟩ (by first | exact True.intro | rfl | omega | trivial) (by first | exact True.intro | rfl | omega | trivial)) ?_
          rintro _ _ ⟨dt231, rfl, hI232, hF233, h230⟩
          refine ⟨rfl, ?_⟩
          have hF234 : Fr [79, 82] dt dt231 := Fr_tr hF211 hF233 (by decide)
          rcases h230 with ⟨rfl, h230⟩ | ⟨rfl, h230⟩
          · skip
            obtain ⟨h230_0, h230_1, h230_2, h230_3, h230_4⟩ := h230
            have fl235 := RSX_0 h230_0 rfl
            have fe236 : (gAF (KF 0 b n) (VF b n) (dt 79 10)) i = (gA (KF 0 b n) (VF b n) 2) j218 := hp221.trans ((show (hA0 (KF 0 b n) (VF b n) 2 ((VF b n) (i + 1))) j218 = gB ((gA (KF 0 b n) (VF b n) 2) j218) (hA2 (KF 0 b n) (VF b n) 2) by first | exact hA1_p (by decide) | (rw [hA0_n (by decide)]; exact hA1_p (by decide))).trans (gB_no fl235.1))
            refine go_retq PM172 (k := 2) (r := some (.inl 0)) (w1 := (SH, dt231)) rfl ?_
            exact ⟨dt231, rfl, hI232, hF234, (Or.inl ⟨rfl, ⟨by exact RSX_f fe236 fl235 (by omega) (by omega), by first | exact True.intro | rfl | omega | trivial, by first | exact True.intro | rfl | omega | trivial, by first | exact True.intro | rfl | omega | trivial⟩⟩)⟩
          · skip
            obtain ⟨h230_0, h230_1, h230_2, h230_3, h230_4, h230_5, h230_6, h230_7, h230_8, h230_9, h230_10, h230_11⟩ := h230
            have ee237 : dt208 79 10 = dt 79 10 := by omega
            rw [ee237] at h230_1 h230_2
            have BL238 : ∀ j : Nat, (j : Int) < 5 * dt 79 10 → dt231 82 j = dt 82 j := fun j hj => (h230_2 j (by omega)).trans (BL215 j hj)
            have Y239 := (h230_2 _ (by omega)).trans Y216
            have Y240 := (h230_2 _ (by omega)).trans Y217
            have Y241 := h230_1
            obtain ⟨j242, ej243, hc244⟩ := RSX_1 h230_0 (by decide)
            have hp245 : (gAF (KF 0 b n) (VF b n) (dt 79 10)) i = (hA2 (KF 0 b n) (VF b n) 2) j242 := hp221.trans ((show (hA0 (KF 0 b n) (VF b n) 2 ((VF b n) (i + 1))) j218 = gB ((gA (KF 0 b n) (VF b n) 2) j218) (hA2 (KF 0 b n) (VF b n) 2) by first | exact hA1_p (by decide) | (rw [hA0_n (by decide)]; exact hA1_p (by decide))).trans (by rw [ej243]; exact gB_0))
            have hi246 : j242 ≤ t := by have z := gA_M (K := (KF 0 b n)) (V := (VF b n)) (m := 2) (i := j218) hz; rw [ej243] at z; have y := z rfl; simp only at y; omega
            clear cr223 cb224 cv225 ck226
            have cr247 := CUR_R hc244 (.inl rfl)
            have cb248 := CUR_b hc244
            have cv249 := CUR_v hc244
            have ck250 := KZ_lt (i := j242) hz
            have c1251 := (hc244).1
            have ci252 := hi246
            have ej253 : j242 = j218 + 1 := by have z_ := gA_at (K := (KF 0 b n)) (V := (VF b n)) (m := 2) (i := j218) (by rw [ej243]); rw [ej243] at z_; exact z_
            refine go_toq PM172 (k := 7) (pc' := 179) (L' := [some (.inr (.inr (some 79))), some (.inl 2)]) (st' := [.inl 3, .inl 3, .inr (.inr (some 79))]) (w' := (SH, dt231)) rfl ?_
            refine go_callq PM172 PM171 (Q' := _) rfl rfl rfl rfl (sp_X6_argument_g0 L xs sio (d + 0) dt231 hI232 b n t j242 (by first | exact hbb | (rw [show dt231 85 = dt 85 from funext (hF234 85 (by decide)), show dt231 79 12 = dt 79 12 by omega]; exact hbb)) (by omega) hz ht hc244 hi246 hn5 3 ⟨by decide, by decide⟩ 3 ⟨by decide, by decide⟩ (by first | exact True.intro | rfl | omega | trivial) (by first | exact True.intro | rfl | omega | trivial)) ?_
            rintro _ _ ⟨dt255, rfl, hI256, hF257, h254⟩
            refine ⟨rfl, ?_⟩
            have hF258 : Fr [79, 82] dt dt255 := Fr_tr hF234 hF257 (by decide)
            rcases h254 with ⟨rfl, h254⟩ | ⟨rfl, h254⟩
            · skip
              obtain ⟨h254_0, h254_1, h254_2, h254_3, h254_4⟩ := h254
              have fl259 := RSX_0 h254_0 rfl
              have fe260 : (gAF (KF 0 b n) (VF b n) (dt 79 10)) i = (gA (KF 0 b n) (VF b n) 3) j242 := hp245.trans ((show (hA2 (KF 0 b n) (VF b n) 2) j242 = gB ((gA (KF 0 b n) (VF b n) 3) j242) (hA3 (KF 0 b n) (VF b n) 2) by first | exact hA2_p (by decide) | (rw [hA1_n (by decide)]; exact hA2_p (by decide)) | (rw [hA0_n (by decide), hA1_n (by decide)]; exact hA2_p (by decide))).trans (gB_no fl259.1))
              refine go_retq PM172 (k := 2) (r := some (.inl 0)) (w1 := (SH, dt255)) rfl ?_
              exact ⟨dt255, rfl, hI256, hF258, (Or.inl ⟨rfl, ⟨by exact RSX_f fe260 fl259 (by omega) (by omega), by first | exact True.intro | rfl | omega | trivial, by first | exact True.intro | rfl | omega | trivial, by first | exact True.intro | rfl | omega | trivial⟩⟩)⟩
            · skip
              obtain ⟨h254_0, h254_1, h254_2, h254_3, h254_4, h254_5, h254_6, h254_7, h254_8, h254_9, h254_10, h254_11⟩ := h254
              have ee261 : dt231 79 10 = dt 79 10 := by omega
              rw [ee261] at h254_1 h254_2
              have BL262 : ∀ j : Nat, (j : Int) < 5 * dt 79 10 → dt255 82 j = dt 82 j := fun j hj => (h254_2 j (by omega)).trans (BL238 j hj)
              have Y263 := (h254_2 _ (by omega)).trans Y239
              have Y264 := (h254_2 _ (by omega)).trans Y240
              have Y265 := (h254_2 _ (by omega)).trans Y241
              have Y266 := h254_1
              obtain ⟨j267, ej268, hc269⟩ := RSX_1 h254_0 (by decide)
              have hp270 : (gAF (KF 0 b n) (VF b n) (dt 79 10)) i = (hA3 (KF 0 b n) (VF b n) 2) j267 := hp245.trans ((show (hA2 (KF 0 b n) (VF b n) 2) j242 = gB ((gA (KF 0 b n) (VF b n) 3) j242) (hA3 (KF 0 b n) (VF b n) 2) by first | exact hA2_p (by decide) | (rw [hA1_n (by decide)]; exact hA2_p (by decide)) | (rw [hA0_n (by decide), hA1_n (by decide)]; exact hA2_p (by decide))).trans (by rw [ej268]; exact gB_0))
              have hi271 : j267 ≤ t := by have z := gA_M (K := (KF 0 b n)) (V := (VF b n)) (m := 3) (i := j242) hz; rw [ej268] at z; have y := z rfl; simp only at y; omega
              clear cr247 cb248 cv249 ck250
              have cr272 := CUR_R hc269 (.inl rfl)
              have cb273 := CUR_b hc269
              have cv274 := CUR_v hc269
              have ck275 := KZ_lt (i := j267) hz
              have c1276 := (hc269).1
              have ci277 := hi271
              have ej278 : j267 = j242 + 1 := by have z_ := gA_at (K := (KF 0 b n)) (V := (VF b n)) (m := 3) (i := j242) (by rw [ej268]); rw [ej268] at z_; exact z_
              refine go_toq PM172 (k := 6) (pc' := 208) (L' := [some (.inr (.inr (some 79))), some (.inl 2)]) (st' := [.inl 159, .inr (.inr (some 79))]) (w' := (SH, dt255)) rfl ?_
              refine go_callq PM172 PM161 (Q' := _) rfl rfl rfl rfl (sp_X6_need0_g0 L xs sio (d + 1) dt255 hI256 b n t j267 (by first | exact hbb | (rw [show dt255 85 = dt 85 from funext (hF258 85 (by decide)), show dt255 79 12 = dt 79 12 by omega]; exact hbb)) (by omega) hz ht hc269 hi271 hn5 159 ⟨by decide, by decide⟩ (by first | exact True.intro | rfl | omega | trivial)) ?_
              rintro _ _ ⟨dt280, rfl, hI281, hF282, h279⟩
              refine ⟨rfl, ?_⟩
              have hF283 : Fr [79, 82] dt dt280 := Fr_tr hF258 hF282 (by decide)
              rcases h279 with ⟨rfl, h279⟩ | ⟨rfl, h279⟩
              · skip
                obtain ⟨h279_0, h279_1, h279_2, h279_3, h279_4⟩ := h279
                have BL284 : ∀ j : Nat, (j : Int) < 5 * dt 79 10 → dt280 82 j = dt 82 j := fun j hj => (hF282 82 (by decide) j).trans (BL262 j hj)
                have Y285 := (hF282 82 (by decide) _).trans Y263
                have Y286 := (hF282 82 (by decide) _).trans Y264
                have Y287 := (hF282 82 (by decide) _).trans Y265
                have Y288 := (hF282 82 (by decide) _).trans Y266
                have fl289 := RSX_0 h279_0 rfl
                have fe290 : (gAF (KF 0 b n) (VF b n) (dt 79 10)) i = (gK (KF 0 b n) (159 - 100)) j267 := hp270.trans ((show (hA3 (KF 0 b n) (VF b n) 2) j267 = gB ((gK (KF 0 b n) (159 - 100)) j267) gOk by first | exact gB_id.symm | ((repeat (first | rw [hA0_n (by decide)] | rw [hA1_n (by decide)] | rw [hA2_n (by decide)] | rw [hA3_n (by decide)])); exact gB_id.symm)).trans (gB_no fl289.1))
                refine go_retq PM172 (k := 0) (r := some (.inl 0)) (w1 := (SH, dt280)) rfl ?_
                exact ⟨dt280, rfl, hI281, hF283, (Or.inl ⟨rfl, ⟨by exact RSX_f fe290 fl289 (by omega) (by omega), by first | exact True.intro | rfl | omega | trivial, by first | exact True.intro | rfl | omega | trivial, by first | exact True.intro | rfl | omega | trivial⟩⟩)⟩
              · skip
                obtain ⟨h279_0, h279_1, h279_2, h279_3, h279_4, h279_5, h279_6, h279_7, h279_8, h279_9⟩ := h279
                have BL291 : ∀ j : Nat, (j : Int) < 5 * dt 79 10 → dt280 82 j = dt 82 j := fun j hj => (hF282 82 (by decide) j).trans (BL262 j hj)
                have Y292 := (hF282 82 (by decide) _).trans Y263
                have Y293 := (hF282 82 (by decide) _).trans Y264
                have Y294 := (hF282 82 (by decide) _).trans Y265
                have Y295 := (hF282 82 (by decide) _).trans Y266
                obtain ⟨j296, ej297, hc298⟩ := RSX_1 h279_0 (by decide)
                have hp299 : (gAF (KF 0 b n) (VF b n) (dt 79 10)) i = gOk j296 := hp270.trans ((show (hA3 (KF 0 b n) (VF b n) 2) j267 = gB ((gK (KF 0 b n) (159 - 100)) j267) gOk by first | exact gB_id.symm | ((repeat (first | rw [hA0_n (by decide)] | rw [hA1_n (by decide)] | rw [hA2_n (by decide)] | rw [hA3_n (by decide)])); exact gB_id.symm)).trans (by rw [ej297]; exact gB_0))
                have hi300 : j296 ≤ t := by have z := (fun (h : KZ (KF 0 b n) t) => gK_M (K := (KF 0 b n)) (k := 159 - 100) (i := j267) h (by decide)) hz; rw [ej297] at z; have y := z rfl; simp only at y; omega
                clear cr272 cb273 cv274 ck275
                have cr301 := CUR_R hc298 (.inl rfl)
                have cb302 := CUR_b hc298
                have cv303 := CUR_v hc298
                have ck304 := KZ_lt (i := j296) hz
                have c1305 := (hc298).1
                have ci306 := hi300
                refine go_retq PM172 (k := 0) (r := some (.inl 1)) (w1 := (SH, dt280)) rfl ?_
                exact ⟨dt280, rfl, hI281, hF283, (Or.inr ⟨rfl, ⟨by exact RSX_ok hp299 hc298, by first | exact True.intro | rfl | omega | trivial, by unfold ARF ATT ABB; exact ⟨by rw [Y292]; omega, Y293.trans (congrArg (VF b n) (by omega)), fun z_ => by (rw [if_neg (by omega)]; exact Y294.trans (congrArg (VF b n) (by omega))), fun z_ => by (rw [if_neg (by omega), if_pos (by omega)]; exact Y295.trans (congrArg (VF b n) (by omega))), fun z_ => by (exfalso; omega), fun z_ => by (exfalso; omega)⟩, by exact BL291, by first | exact True.intro | rfl | omega | trivial, by exact (InvC_get (by assumption) 79 15 rfl rfl).2, by first | exact True.intro | rfl | omega | trivial, by first | exact True.intro | rfl | omega | trivial, by first | exact True.intro | rfl | omega | trivial, by first | exact True.intro | rfl | omega | trivial, by first | exact True.intro | rfl | omega | trivial, by first | exact True.intro | rfl | omega | trivial⟩⟩)⟩
      · rw [hc7]
        refine go_toq PM172 (k := 1) (pc' := 44) (L' := [some (.inr (.inr (some 79))), some (.inl 3)]) (st' := [.inr (.inr (some 79))]) (w' := (SH, dt)) rfl ?_
        refine go_callq PM172 PM159 (Q' := _) rfl rfl rfl rfl (sp_X6_next0_p0 L xs sio (d + 2) dt hI   (by first | exact True.intro | rfl | omega | trivial) (by first | exact True.intro | rfl | omega | trivial)) ?_
        rintro _ _ ⟨dt308, rfl, hI309, hF310, h307⟩
        refine ⟨rfl, ?_⟩
        have hF311 : Fr [79, 82] dt dt308 := Fr_tr hF hF310 (by decide)
        rcases h307 with ⟨rfl, h307⟩
        obtain ⟨h307_0, h307_1, h307_2, h307_3, h307_4, h307_5, h307_6, h307_7, h307_8⟩ := h307
        have BL312 : ∀ j : Nat, (j : Int) < 5 * dt 79 10 → dt308 82 j = dt 82 j := fun j hj => (hF310 82 (by decide) j).trans ((fun _ _ => rfl) j hj)
        have hq313 := h307_0
        rw [hbb, show (dt 79 12).toNat = n by omega] at hq313
        have hc314 : CUR 0 b n dt308 (i + 1) := CUR_n hc hq313
        have hi315 : i + 1 ≤ t := by omega
        have av316 : dt 79 15 + 1 ≤ dt 79 13 := by omega
        have kk_ : KF 0 b n i = 1003 := by omega
        have hp317 : (gAF (KF 0 b n) (VF b n) (dt 79 10)) i = (gAct (KF 0 b n) (VF b n) 3) (i + 1) := (rfl : (gAF (KF 0 b n) (VF b n) (dt 79 10)) i = (gAF (KF 0 b n) (VF b n) (dt 79 10)) i).trans (by show gAF _ _ _ _ = _; unfold gAF; rw [if_neg (by omega), if_neg (by omega), show (KF 0 b n) i - 1000 = 3 by omega])
        clear cr0 cb0 cv0 ck0
        have cr318 := CUR_R hc314 (.inl rfl)
        have cb319 := CUR_b hc314
        have cv320 := CUR_v hc314
        have ck321 := KZ_lt (i := (i + 1)) hz
        have c1322 := (hc314).1
        have ci323 := hi315
        have r324 : 0 ≤ dt308 79 10 ∧ dt308 79 10 ≤ 24 := InvC_get hI309 79 10 rfl rfl
        refine go_toq PM172 (k := 7) (pc' := 58) (L' := [some (.inr (.inr (some 79))), some (.inl 3)]) (st' := [.inl 3, .inl (5 * (dt308 79 10)), .inr (.inr (some 82))]) (w' := (SH, dt308)) rfl ?_
        have hI325 : InvC (u2 dt308 82 ((5 * (dt308 79 10)).toNat) 3) := InvC_u2 hI309 (lo := -2147483648) (hi := 2147483647) rfl rfl rfl (by decide) (by decide)
        have hF326 : Fr [79, 82] dt (u2 dt308 82 ((5 * (dt308 79 10)).toNat) 3) := Fr_u2 hF311 (by decide)
        have w327 : (u2 dt308 82 ((5 * (dt308 79 10)).toNat) 3) 79 2 = dt308 79 2 := rfl
        have w328 : (u2 dt308 82 ((5 * (dt308 79 10)).toNat) 3) 79 9 = dt308 79 9 := rfl
        have w329 : (u2 dt308 82 ((5 * (dt308 79 10)).toNat) 3) 79 10 = dt308 79 10 := rfl
        have w330 : (u2 dt308 82 ((5 * (dt308 79 10)).toNat) 3) 79 11 = dt308 79 11 := rfl
        have w331 : (u2 dt308 82 ((5 * (dt308 79 10)).toNat) 3) 79 12 = dt308 79 12 := rfl
        have w332 : (u2 dt308 82 ((5 * (dt308 79 10)).toNat) 3) 79 13 = dt308 79 13 := rfl
        have w333 : (u2 dt308 82 ((5 * (dt308 79 10)).toNat) 3) 79 14 = dt308 79 14 := rfl
        have w334 : (u2 dt308 82 ((5 * (dt308 79 10)).toNat) 3) 79 15 = dt308 79 15 := rfl
        have w335 : (u2 dt308 82 ((5 * (dt308 79 10)).toNat) 3) 79 16 = dt308 79 16 := rfl
        have w336 : (u2 dt308 82 ((5 * (dt308 79 10)).toNat) 3) 79 17 = dt308 79 17 := rfl
        have w337 : (u2 dt308 82 ((5 * (dt308 79 10)).toNat) 3) 79 18 = dt308 79 18 := rfl
        have w338 : (u2 dt308 82 ((5 * (dt308 79 10)).toNat) 3) 79 20 = dt308 79 20 := rfl
        have BL339 : ∀ j : Nat, (j : Int) < 5 * dt 79 10 → (u2 dt308 82 ((5 * (dt308 79 10)).toNat) 3) 82 j = dt 82 j := fun j hj => (u2_ne (by omega)).trans (BL312 j hj)
        have Y340 : (u2 dt308 82 ((5 * (dt308 79 10)).toNat) 3) 82 (5 * (dt 79 10)).toNat = 3 := by rw [show (5 * (dt 79 10)).toNat = (5 * (dt308 79 10)).toNat by omega]; exact u2_eq
        have hc341 : CUR 0 b n (u2 dt308 82 ((5 * (dt308 79 10)).toNat) 3) (i + 1) := CUR_sm hc314 rfl rfl rfl rfl
        refine go_smpq PM172 (L' := [some (.inr (.inr (some 79))), some (.inl 3)]) (st' := []) (w' := (SH, (u2 dt308 82 ((5 * (dt308 79 10)).toNat) 3))) rfl rfl (s_iast (n := 120) rfl ⟨by omega, by omega⟩ ⟨by decide, by decide⟩) ?_
        refine go_toq PM172 (k := 6) (pc' := 72) (L' := [some (.inr (.inr (some 79))), some (.inl 3)]) (st' := [.inl 3, .inl 1, .inr (.inr (some 79))]) (w' := (SH, (u2 dt308 82 ((5 * (dt308 79 10)).toNat) 3))) rfl ?_
        refine go_callq PM172 PM171 (Q' := _) rfl rfl rfl rfl (sp_X6_argument_g0 L xs sio (d + 0) (u2 dt308 82 ((5 * (dt308 79 10)).toNat) 3) hI325 b n t (i + 1) (by first | exact hbb | (rw [show (u2 dt308 82 ((5 * (dt308 79 10)).toNat) 3) 85 = dt 85 from funext (hF326 85 (by decide)), show (u2 dt308 82 ((5 * (dt308 79 10)).toNat) 3) 79 12 = dt 79 12 by omega]; exact hbb)) (by omega) hz ht hc341 hi315 hn5 1 ⟨by decide, by decide⟩ 3 ⟨by decide, by decide⟩ (by first | exact True.intro | rfl | omega | trivial) (by first | exact True.intro | rfl | omega | trivial)) ?_
        rintro _ _ ⟨dt343, rfl, hI344, hF345, h342⟩
        refine ⟨rfl, ?_⟩
        have hF346 : Fr [79, 82] dt dt343 := Fr_tr hF326 hF345 (by decide)
        rcases h342 with ⟨rfl, h342⟩ | ⟨rfl, h342⟩
        · skip
          obtain ⟨h342_0, h342_1, h342_2, h342_3, h342_4⟩ := h342
          have fl347 := RSX_0 h342_0 rfl
          have fe348 : (gAF (KF 0 b n) (VF b n) (dt 79 10)) i = (gA (KF 0 b n) (VF b n) 3) (i + 1) := hp317.trans ((show (gAct (KF 0 b n) (VF b n) 3) (i + 1) = gB ((gA (KF 0 b n) (VF b n) 3) (i + 1)) (hA0 (KF 0 b n) (VF b n) 3 ((VF b n) (i + 1))) by exact hAc_n (by decide)).trans (gB_no fl347.1))
          refine go_retq PM172 (k := 2) (r := some (.inl 0)) (w1 := (SH, dt343)) rfl ?_
          exact ⟨dt343, rfl, hI344, hF346, (Or.inl ⟨rfl, ⟨by exact RSX_f fe348 fl347 (by omega) (by omega), by first | exact True.intro | rfl | omega | trivial, by first | exact True.intro | rfl | omega | trivial, by first | exact True.intro | rfl | omega | trivial⟩⟩)⟩
        · skip
          obtain ⟨h342_0, h342_1, h342_2, h342_3, h342_4, h342_5, h342_6, h342_7, h342_8, h342_9, h342_10, h342_11⟩ := h342
          have ee349 : (u2 dt308 82 ((5 * (dt308 79 10)).toNat) 3) 79 10 = dt 79 10 := by omega
          rw [ee349] at h342_1 h342_2
          have BL350 : ∀ j : Nat, (j : Int) < 5 * dt 79 10 → dt343 82 j = dt 82 j := fun j hj => (h342_2 j (by omega)).trans (BL339 j hj)
          have Y351 := (h342_2 _ (by omega)).trans Y340
          have Y352 := h342_1
          obtain ⟨j353, ej354, hc355⟩ := RSX_1 h342_0 (by decide)
          have hp356 : (gAF (KF 0 b n) (VF b n) (dt 79 10)) i = (hA0 (KF 0 b n) (VF b n) 3 ((VF b n) (i + 1))) j353 := hp317.trans ((show (gAct (KF 0 b n) (VF b n) 3) (i + 1) = gB ((gA (KF 0 b n) (VF b n) 3) (i + 1)) (hA0 (KF 0 b n) (VF b n) 3 ((VF b n) (i + 1))) by exact hAc_n (by decide)).trans (by rw [ej354]; exact gB_0))
          have hi357 : j353 ≤ t := by have z := gA_M (K := (KF 0 b n)) (V := (VF b n)) (m := 3) (i := (i + 1)) hz; rw [ej354] at z; have y := z rfl; simp only at y; omega
          clear cr318 cb319 cv320 ck321
          have cr358 := CUR_R hc355 (.inl rfl)
          have cb359 := CUR_b hc355
          have cv360 := CUR_v hc355
          have ck361 := KZ_lt (i := j353) hz
          have c1362 := (hc355).1
          have ci363 := hi357
          have ej364 : j353 = (i + 1) + 1 := by have z_ := gA_at (K := (KF 0 b n)) (V := (VF b n)) (m := 3) (i := (i + 1)) (by rw [ej354]); rw [ej354] at z_; exact z_
          refine go_toq PM172 (k := 13) (pc' := 148) (L' := [some (.inr (.inr (some 79))), some (.inl 3)]) (st' := [.inl 2, .inl 2, .inr (.inr (some 79))]) (w' := (SH, dt343)) rfl ?_
          refine go_callq PM172 PM171 (Q' := _) rfl rfl rfl rfl (sp_X6_argument_g0 L xs sio (d + 0) dt343 hI344 b n t j353 (by first | exact hbb | (rw [show dt343 85 = dt 85 from funext (hF346 85 (by decide)), show dt343 79 12 = dt 79 12 by omega]; exact hbb)) (by omega) hz ht hc355 hi357 hn5 2 ⟨by decide, by decide⟩ 2 ⟨by decide, by decide⟩ (by first | exact True.intro | rfl | omega | trivial) (by first | exact True.intro | rfl | omega | trivial)) ?_
          rintro _ _ ⟨dt366, rfl, hI367, hF368, h365⟩
          refine ⟨rfl, ?_⟩
          have hF369 : Fr [79, 82] dt dt366 := Fr_tr hF346 hF368 (by decide)
          rcases h365 with ⟨rfl, h365⟩ | ⟨rfl, h365⟩
          · skip
            obtain ⟨h365_0, h365_1, h365_2, h365_3, h365_4⟩ := h365
            have fl370 := RSX_0 h365_0 rfl
            have fe371 : (gAF (KF 0 b n) (VF b n) (dt 79 10)) i = (gA (KF 0 b n) (VF b n) 2) j353 := hp356.trans ((show (hA0 (KF 0 b n) (VF b n) 3 ((VF b n) (i + 1))) j353 = gB ((gA (KF 0 b n) (VF b n) 2) j353) (hA2 (KF 0 b n) (VF b n) 3) by first | exact hA1_p (by decide) | (rw [hA0_n (by decide)]; exact hA1_p (by decide))).trans (gB_no fl370.1))
            refine go_retq PM172 (k := 2) (r := some (.inl 0)) (w1 := (SH, dt366)) rfl ?_
            exact ⟨dt366, rfl, hI367, hF369, (Or.inl ⟨rfl, ⟨by exact RSX_f fe371 fl370 (by omega) (by omega), by first | exact True.intro | rfl | omega | trivial, by first | exact True.intro | rfl | omega | trivial, by first | exact True.intro | rfl | omega | trivial⟩⟩)⟩
          · skip
            obtain ⟨h365_0, h365_1, h365_2, h365_3, h365_4, h365_5, h365_6, h365_7, h365_8, h365_9, h365_10, h365_11⟩ := h365
            have ee372 : dt343 79 10 = dt 79 10 := by omega
            rw [ee372] at h365_1 h365_2
            have BL373 : ∀ j : Nat, (j : Int) < 5 * dt 79 10 → dt366 82 j = dt 82 j := fun j hj => (h365_2 j (by omega)).trans (BL350 j hj)
            have Y374 := (h365_2 _ (by omega)).trans Y351
            have Y375 := (h365_2 _ (by omega)).trans Y352
            have Y376 := h365_1
            obtain ⟨j377, ej378, hc379⟩ := RSX_1 h365_0 (by decide)
            have hp380 : (gAF (KF 0 b n) (VF b n) (dt 79 10)) i = (hA2 (KF 0 b n) (VF b n) 3) j377 := hp356.trans ((show (hA0 (KF 0 b n) (VF b n) 3 ((VF b n) (i + 1))) j353 = gB ((gA (KF 0 b n) (VF b n) 2) j353) (hA2 (KF 0 b n) (VF b n) 3) by first | exact hA1_p (by decide) | (rw [hA0_n (by decide)]; exact hA1_p (by decide))).trans (by rw [ej378]; exact gB_0))
            have hi381 : j377 ≤ t := by have z := gA_M (K := (KF 0 b n)) (V := (VF b n)) (m := 2) (i := j353) hz; rw [ej378] at z; have y := z rfl; simp only at y; omega
            clear cr358 cb359 cv360 ck361
            have cr382 := CUR_R hc379 (.inl rfl)
            have cb383 := CUR_b hc379
            have cv384 := CUR_v hc379
            have ck385 := KZ_lt (i := j377) hz
            have c1386 := (hc379).1
            have ci387 := hi381
            have ej388 : j377 = j353 + 1 := by have z_ := gA_at (K := (KF 0 b n)) (V := (VF b n)) (m := 2) (i := j353) (by rw [ej378]); rw [ej378] at z_; exact z_
            refine go_toq PM172 (k := 10) (pc' := 179) (L' := [some (.inr (.inr (some 79))), some (.inl 3)]) (st' := [.inl 3, .inl 3, .inr (.inr (some 79))]) (w' := (SH, dt366)) rfl ?_
            refine go_callq PM172 PM171 (Q' := _) rfl rfl rfl rfl (sp_X6_argument_g0 L xs sio (d + 0) dt366 hI367 b n t j377 (by first | exact hbb | (rw [show dt366 85 = dt 85 from funext (hF369 85 (by decide)), show dt366 79 12 = dt 79 12 by omega]; exact hbb)) (by omega) hz ht hc379 hi381 hn5 3 ⟨by decide, by decide⟩ 3 ⟨by decide, by decide⟩ (by first | exact True.intro | rfl | omega | trivial) (by first | exact True.intro | rfl | omega | trivial)) ?_
            rintro _ _ ⟨dt390, rfl, hI391, hF392, h389⟩
            refine ⟨rfl, ?_⟩
            have hF393 : Fr [79, 82] dt dt390 := Fr_tr hF369 hF392 (by decide)
            rcases h389 with ⟨rfl, h389⟩ | ⟨rfl, h389⟩
            · skip
              obtain ⟨h389_0, h389_1, h389_2, h389_3, h389_4⟩ := h389
              have fl394 := RSX_0 h389_0 rfl
              have fe395 : (gAF (KF 0 b n) (VF b n) (dt 79 10)) i = (gA (KF 0 b n) (VF b n) 3) j377 := hp380.trans ((show (hA2 (KF 0 b n) (VF b n) 3) j377 = gB ((gA (KF 0 b n) (VF b n) 3) j377) (hA3 (KF 0 b n) (VF b n) 3) by first | exact hA2_p (by decide) | (rw [hA1_n (by decide)]; exact hA2_p (by decide)) | (rw [hA0_n (by decide), hA1_n (by decide)]; exact hA2_p (by decide))).trans (gB_no fl394.1))
              refine go_retq PM172 (k := 2) (r := some (.inl 0)) (w1 := (SH, dt390)) rfl ?_
              exact ⟨dt390, rfl, hI391, hF393, (Or.inl ⟨rfl, ⟨by exact RSX_f fe395 fl394 (by omega) (by omega), by first | exact True.intro | rfl | omega | trivial, by first | exact True.intro | rfl | omega | trivial, by first | exact True.intro | rfl | omega | trivial⟩⟩)⟩
            · skip
              obtain ⟨h389_0, h389_1, h389_2, h389_3, h389_4, h389_5, h389_6, h389_7, h389_8, h389_9, h389_10, h389_11⟩ := h389
              have ee396 : dt366 79 10 = dt 79 10 := by omega
              rw [ee396] at h389_1 h389_2
              have BL397 : ∀ j : Nat, (j : Int) < 5 * dt 79 10 → dt390 82 j = dt 82 j := fun j hj => (h389_2 j (by omega)).trans (BL373 j hj)
              have Y398 := (h389_2 _ (by omega)).trans Y374
              have Y399 := (h389_2 _ (by omega)).trans Y375
              have Y400 := (h389_2 _ (by omega)).trans Y376
              have Y401 := h389_1
              obtain ⟨j402, ej403, hc404⟩ := RSX_1 h389_0 (by decide)
              have hp405 : (gAF (KF 0 b n) (VF b n) (dt 79 10)) i = (hA3 (KF 0 b n) (VF b n) 3) j402 := hp380.trans ((show (hA2 (KF 0 b n) (VF b n) 3) j377 = gB ((gA (KF 0 b n) (VF b n) 3) j377) (hA3 (KF 0 b n) (VF b n) 3) by first | exact hA2_p (by decide) | (rw [hA1_n (by decide)]; exact hA2_p (by decide)) | (rw [hA0_n (by decide), hA1_n (by decide)]; exact hA2_p (by decide))).trans (by rw [ej403]; exact gB_0))
              have hi406 : j402 ≤ t := by have z := gA_M (K := (KF 0 b n)) (V := (VF b n)) (m := 3) (i := j377) hz; rw [ej403] at z; have y := z rfl; simp only at y; omega
              clear cr382 cb383 cv384 ck385
              have cr407 := CUR_R hc404 (.inl rfl)
              have cb408 := CUR_b hc404
              have cv409 := CUR_v hc404
              have ck410 := KZ_lt (i := j402) hz
              have c1411 := (hc404).1
              have ci412 := hi406
              have ej413 : j402 = j377 + 1 := by have z_ := gA_at (K := (KF 0 b n)) (V := (VF b n)) (m := 3) (i := j377) (by rw [ej403]); rw [ej403] at z_; exact z_
              refine go_toq PM172 (k := 6) (pc' := 208) (L' := [some (.inr (.inr (some 79))), some (.inl 3)]) (st' := [.inl 159, .inr (.inr (some 79))]) (w' := (SH, dt390)) rfl ?_
              refine go_callq PM172 PM161 (Q' := _) rfl rfl rfl rfl (sp_X6_need0_g0 L xs sio (d + 1) dt390 hI391 b n t j402 (by first | exact hbb | (rw [show dt390 85 = dt 85 from funext (hF393 85 (by decide)), show dt390 79 12 = dt 79 12 by omega]; exact hbb)) (by omega) hz ht hc404 hi406 hn5 159 ⟨by decide, by decide⟩ (by first | exact True.intro | rfl | omega | trivial)) ?_
              rintro _ _ ⟨dt415, rfl, hI416, hF417, h414⟩
              refine ⟨rfl, ?_⟩
              have hF418 : Fr [79, 82] dt dt415 := Fr_tr hF393 hF417 (by decide)
              rcases h414 with ⟨rfl, h414⟩ | ⟨rfl, h414⟩
              · skip
                obtain ⟨h414_0, h414_1, h414_2, h414_3, h414_4⟩ := h414
                have BL419 : ∀ j : Nat, (j : Int) < 5 * dt 79 10 → dt415 82 j = dt 82 j := fun j hj => (hF417 82 (by decide) j).trans (BL397 j hj)
                have Y420 := (hF417 82 (by decide) _).trans Y398
                have Y421 := (hF417 82 (by decide) _).trans Y399
                have Y422 := (hF417 82 (by decide) _).trans Y400
                have Y423 := (hF417 82 (by decide) _).trans Y401
                have fl424 := RSX_0 h414_0 rfl
                have fe425 : (gAF (KF 0 b n) (VF b n) (dt 79 10)) i = (gK (KF 0 b n) (159 - 100)) j402 := hp405.trans ((show (hA3 (KF 0 b n) (VF b n) 3) j402 = gB ((gK (KF 0 b n) (159 - 100)) j402) gOk by first | exact gB_id.symm | ((repeat (first | rw [hA0_n (by decide)] | rw [hA1_n (by decide)] | rw [hA2_n (by decide)] | rw [hA3_n (by decide)])); exact gB_id.symm)).trans (gB_no fl424.1))
                refine go_retq PM172 (k := 0) (r := some (.inl 0)) (w1 := (SH, dt415)) rfl ?_
                exact ⟨dt415, rfl, hI416, hF418, (Or.inl ⟨rfl, ⟨by exact RSX_f fe425 fl424 (by omega) (by omega), by first | exact True.intro | rfl | omega | trivial, by first | exact True.intro | rfl | omega | trivial, by first | exact True.intro | rfl | omega | trivial⟩⟩)⟩
              · skip
                obtain ⟨h414_0, h414_1, h414_2, h414_3, h414_4, h414_5, h414_6, h414_7, h414_8, h414_9⟩ := h414
                have BL426 : ∀ j : Nat, (j : Int) < 5 * dt 79 10 → dt415 82 j = dt 82 j := fun j hj => (hF417 82 (by decide) j).trans (BL397 j hj)
                have Y427 := (hF417 82 (by decide) _).trans Y398
                have Y428 := (hF417 82 (by decide) _).trans Y399
                have Y429 := (hF417 82 (by decide) _).trans Y400
                have Y430 := (hF417 82 (by decide) _).trans Y401
                obtain ⟨j431, ej432, hc433⟩ := RSX_1 h414_0 (by decide)
                have hp434 : (gAF (KF 0 b n) (VF b n) (dt 79 10)) i = gOk j431 := hp405.trans ((show (hA3 (KF 0 b n) (VF b n) 3) j402 = gB ((gK (KF 0 b n) (159 - 100)) j402) gOk by first | exact gB_id.symm | ((repeat (first | rw [hA0_n (by decide)] | rw [hA1_n (by decide)] | rw [hA2_n (by decide)] | rw [hA3_n (by decide)])); exact gB_id.symm)).trans (by rw [ej432]; exact gB_0))
                have hi435 : j431 ≤ t := by have z := (fun (h : KZ (KF 0 b n) t) => gK_M (K := (KF 0 b n)) (k := 159 - 100) (i := j402) h (by decide)) hz; rw [ej432] at z; have y := z rfl; simp only at y; omega
                clear cr407 cb408 cv409 ck410
                have cr436 := CUR_R hc433 (.inl rfl)
                have cb437 := CUR_b hc433
                have cv438 := CUR_v hc433
                have ck439 := KZ_lt (i := j431) hz
                have c1440 := (hc433).1
                have ci441 := hi435
                refine go_retq PM172 (k := 0) (r := some (.inl 1)) (w1 := (SH, dt415)) rfl ?_
                exact ⟨dt415, rfl, hI416, hF418, (Or.inr ⟨rfl, ⟨by exact RSX_ok hp434 hc433, by first | exact True.intro | rfl | omega | trivial, by unfold ARF ATT ABB; exact ⟨by rw [Y427]; omega, Y428.trans (congrArg (VF b n) (by omega)), fun z_ => by (rw [if_neg (by omega)]; exact Y429.trans (congrArg (VF b n) (by omega))), fun z_ => by (rw [if_neg (by omega), if_pos (by omega)]; exact Y430.trans (congrArg (VF b n) (by omega))), fun z_ => by (exfalso; omega), fun z_ => by (exfalso; omega)⟩, by exact BL426, by first | exact True.intro | rfl | omega | trivial, by exact (InvC_get (by assumption) 79 15 rfl rfl).2, by first | exact True.intro | rfl | omega | trivial, by first | exact True.intro | rfl | omega | trivial, by first | exact True.intro | rfl | omega | trivial, by first | exact True.intro | rfl | omega | trivial, by first | exact True.intro | rfl | omega | trivial, by first | exact True.intro | rfl | omega | trivial⟩⟩)⟩
      · rw [hc7]
        refine go_toq PM172 (k := 1) (pc' := 44) (L' := [some (.inr (.inr (some 79))), some (.inl 4)]) (st' := [.inr (.inr (some 79))]) (w' := (SH, dt)) rfl ?_
        refine go_callq PM172 PM159 (Q' := _) rfl rfl rfl rfl (sp_X6_next0_p0 L xs sio (d + 2) dt hI   (by first | exact True.intro | rfl | omega | trivial) (by first | exact True.intro | rfl | omega | trivial)) ?_
        rintro _ _ ⟨dt443, rfl, hI444, hF445, h442⟩
        refine ⟨rfl, ?_⟩
        have hF446 : Fr [79, 82] dt dt443 := Fr_tr hF hF445 (by decide)
        rcases h442 with ⟨rfl, h442⟩
        obtain ⟨h442_0, h442_1, h442_2, h442_3, h442_4, h442_5, h442_6, h442_7, h442_8⟩ := h442
        have BL447 : ∀ j : Nat, (j : Int) < 5 * dt 79 10 → dt443 82 j = dt 82 j := fun j hj => (hF445 82 (by decide) j).trans ((fun _ _ => rfl) j hj)
        have hq448 := h442_0
        rw [hbb, show (dt 79 12).toNat = n by omega] at hq448
        have hc449 : CUR 0 b n dt443 (i + 1) := CUR_n hc hq448
        have hi450 : i + 1 ≤ t := by omega
        have av451 : dt 79 15 + 1 ≤ dt 79 13 := by omega
        have kk_ : KF 0 b n i = 1004 := by omega
        have hp452 : (gAF (KF 0 b n) (VF b n) (dt 79 10)) i = (gAct (KF 0 b n) (VF b n) 4) (i + 1) := (rfl : (gAF (KF 0 b n) (VF b n) (dt 79 10)) i = (gAF (KF 0 b n) (VF b n) (dt 79 10)) i).trans (by show gAF _ _ _ _ = _; unfold gAF; rw [if_neg (by omega), if_neg (by omega), show (KF 0 b n) i - 1000 = 4 by omega])
        clear cr0 cb0 cv0 ck0
        have cr453 := CUR_R hc449 (.inl rfl)
        have cb454 := CUR_b hc449
        have cv455 := CUR_v hc449
        have ck456 := KZ_lt (i := (i + 1)) hz
        have c1457 := (hc449).1
        have ci458 := hi450
        have r459 : 0 ≤ dt443 79 10 ∧ dt443 79 10 ≤ 24 := InvC_get hI444 79 10 rfl rfl
        refine go_toq PM172 (k := 7) (pc' := 58) (L' := [some (.inr (.inr (some 79))), some (.inl 4)]) (st' := [.inl 4, .inl (5 * (dt443 79 10)), .inr (.inr (some 82))]) (w' := (SH, dt443)) rfl ?_
        have hI460 : InvC (u2 dt443 82 ((5 * (dt443 79 10)).toNat) 4) := InvC_u2 hI444 (lo := -2147483648) (hi := 2147483647) rfl rfl rfl (by decide) (by decide)
        have hF461 : Fr [79, 82] dt (u2 dt443 82 ((5 * (dt443 79 10)).toNat) 4) := Fr_u2 hF446 (by decide)
        have w462 : (u2 dt443 82 ((5 * (dt443 79 10)).toNat) 4) 79 2 = dt443 79 2 := rfl
        have w463 : (u2 dt443 82 ((5 * (dt443 79 10)).toNat) 4) 79 9 = dt443 79 9 := rfl
        have w464 : (u2 dt443 82 ((5 * (dt443 79 10)).toNat) 4) 79 10 = dt443 79 10 := rfl
        have w465 : (u2 dt443 82 ((5 * (dt443 79 10)).toNat) 4) 79 11 = dt443 79 11 := rfl
        have w466 : (u2 dt443 82 ((5 * (dt443 79 10)).toNat) 4) 79 12 = dt443 79 12 := rfl
        have w467 : (u2 dt443 82 ((5 * (dt443 79 10)).toNat) 4) 79 13 = dt443 79 13 := rfl
        have w468 : (u2 dt443 82 ((5 * (dt443 79 10)).toNat) 4) 79 14 = dt443 79 14 := rfl
        have w469 : (u2 dt443 82 ((5 * (dt443 79 10)).toNat) 4) 79 15 = dt443 79 15 := rfl
        have w470 : (u2 dt443 82 ((5 * (dt443 79 10)).toNat) 4) 79 16 = dt443 79 16 := rfl
        have w471 : (u2 dt443 82 ((5 * (dt443 79 10)).toNat) 4) 79 17 = dt443 79 17 := rfl
        have w472 : (u2 dt443 82 ((5 * (dt443 79 10)).toNat) 4) 79 18 = dt443 79 18 := rfl
        have w473 : (u2 dt443 82 ((5 * (dt443 79 10)).toNat) 4) 79 20 = dt443 79 20 := rfl
        have BL474 : ∀ j : Nat, (j : Int) < 5 * dt 79 10 → (u2 dt443 82 ((5 * (dt443 79 10)).toNat) 4) 82 j = dt 82 j := fun j hj => (u2_ne (by omega)).trans (BL447 j hj)
        have Y475 : (u2 dt443 82 ((5 * (dt443 79 10)).toNat) 4) 82 (5 * (dt 79 10)).toNat = 4 := by rw [show (5 * (dt 79 10)).toNat = (5 * (dt443 79 10)).toNat by omega]; exact u2_eq
        have hc476 : CUR 0 b n (u2 dt443 82 ((5 * (dt443 79 10)).toNat) 4) (i + 1) := CUR_sm hc449 rfl rfl rfl rfl
        refine go_smpq PM172 (L' := [some (.inr (.inr (some 79))), some (.inl 4)]) (st' := []) (w' := (SH, (u2 dt443 82 ((5 * (dt443 79 10)).toNat) 4))) rfl rfl (s_iast (n := 120) rfl ⟨by omega, by omega⟩ ⟨by decide, by decide⟩) ?_
        refine go_toq PM172 (k := 6) (pc' := 72) (L' := [some (.inr (.inr (some 79))), some (.inl 4)]) (st' := [.inl 3, .inl 1, .inr (.inr (some 79))]) (w' := (SH, (u2 dt443 82 ((5 * (dt443 79 10)).toNat) 4))) rfl ?_
        refine go_callq PM172 PM171 (Q' := _) rfl rfl rfl rfl (sp_X6_argument_g0 L xs sio (d + 0) (u2 dt443 82 ((5 * (dt443 79 10)).toNat) 4) hI460 b n t (i + 1) (by first | exact hbb | (rw [show (u2 dt443 82 ((5 * (dt443 79 10)).toNat) 4) 85 = dt 85 from funext (hF461 85 (by decide)), show (u2 dt443 82 ((5 * (dt443 79 10)).toNat) 4) 79 12 = dt 79 12 by omega]; exact hbb)) (by omega) hz ht hc476 hi450 hn5 1 ⟨by decide, by decide⟩ 3 ⟨by decide, by decide⟩ (by first | exact True.intro | rfl | omega | trivial) (by first | exact True.intro | rfl | omega | trivial)) ?_
        rintro _ _ ⟨dt478, rfl, hI479, hF480, h477⟩
        refine ⟨rfl, ?_⟩
        have hF481 : Fr [79, 82] dt dt478 := Fr_tr hF461 hF480 (by decide)
        rcases h477 with ⟨rfl, h477⟩ | ⟨rfl, h477⟩
        · skip
          obtain ⟨h477_0, h477_1, h477_2, h477_3, h477_4⟩ := h477
          have fl482 := RSX_0 h477_0 rfl
          have fe483 : (gAF (KF 0 b n) (VF b n) (dt 79 10)) i = (gA (KF 0 b n) (VF b n) 3) (i + 1) := hp452.trans ((show (gAct (KF 0 b n) (VF b n) 4) (i + 1) = gB ((gA (KF 0 b n) (VF b n) 3) (i + 1)) (hA0 (KF 0 b n) (VF b n) 4 ((VF b n) (i + 1))) by exact hAc_n (by decide)).trans (gB_no fl482.1))
          refine go_retq PM172 (k := 2) (r := some (.inl 0)) (w1 := (SH, dt478)) rfl ?_
          exact ⟨dt478, rfl, hI479, hF481, (Or.inl ⟨rfl, ⟨by exact RSX_f fe483 fl482 (by omega) (by omega), by first | exact True.intro | rfl | omega | trivial, by first | exact True.intro | rfl | omega | trivial, by first | exact True.intro | rfl | omega | trivial⟩⟩)⟩
        · skip
          obtain ⟨h477_0, h477_1, h477_2, h477_3, h477_4, h477_5, h477_6, h477_7, h477_8, h477_9, h477_10, h477_11⟩ := h477
          have ee484 : (u2 dt443 82 ((5 * (dt443 79 10)).toNat) 4) 79 10 = dt 79 10 := by omega
          rw [ee484] at h477_1 h477_2
          have hr_ : dt478 82 ((5 * (dt478 79 10)) + 1).toNat = VF b n (i + 1) := by rw [show dt478 79 10 = dt 79 10 by omega]; exact h477_1
          have BL485 : ∀ j : Nat, (j : Int) < 5 * dt 79 10 → dt478 82 j = dt 82 j := fun j hj => (h477_2 j (by omega)).trans (BL474 j hj)
          have Y486 := (h477_2 _ (by omega)).trans Y475
          have Y487 := h477_1
          obtain ⟨j488, ej489, hc490⟩ := RSX_1 h477_0 (by decide)
          have hp491 : (gAF (KF 0 b n) (VF b n) (dt 79 10)) i = (hA0 (KF 0 b n) (VF b n) 4 ((VF b n) (i + 1))) j488 := hp452.trans ((show (gAct (KF 0 b n) (VF b n) 4) (i + 1) = gB ((gA (KF 0 b n) (VF b n) 3) (i + 1)) (hA0 (KF 0 b n) (VF b n) 4 ((VF b n) (i + 1))) by exact hAc_n (by decide)).trans (by rw [ej489]; exact gB_0))
          have hi492 : j488 ≤ t := by have z := gA_M (K := (KF 0 b n)) (V := (VF b n)) (m := 3) (i := (i + 1)) hz; rw [ej489] at z; have y := z rfl; simp only at y; omega
          clear cr453 cb454 cv455 ck456
          have cr493 := CUR_R hc490 (.inl rfl)
          have cb494 := CUR_b hc490
          have cv495 := CUR_v hc490
          have ck496 := KZ_lt (i := j488) hz
          have c1497 := (hc490).1
          have ci498 := hi492
          have ej499 : j488 = (i + 1) + 1 := by have z_ := gA_at (K := (KF 0 b n)) (V := (VF b n)) (m := 3) (i := (i + 1)) (by rw [ej489]); rw [ej489] at z_; exact z_
          have r500 : (-2147483648) ≤ dt478 79 14 ∧ dt478 79 14 ≤ 2147483647 := InvC_get hI479 79 14 rfl rfl
          refine go_ifq PM172 (k := 7) (p1 := 119) (p2 := 93) (L' := [some (.inr (.inr (some 79))), some (.inl 4)]) (st' := []) (w' := (SH, dt478)) rfl (c_ne (a := dt478 79 14) (b := 2) (by first | exact bnd r500 (by decide) (by decide) | exact ⟨by omega, by omega⟩) ⟨by decide, by decide⟩) (fun c501 => ?_) (fun c501 => ?_)
          · skip
            refine go_toq PM172 (k := 3) (pc' := 122) (L' := [some (.inr (.inr (some 79))), some (.inl 4)]) (st' := [.inl 3, .inl 4, .inr (.inr (some 79))]) (w' := (SH, dt478)) rfl ?_
            refine go_callq PM172 PM171 (Q' := _) rfl rfl rfl rfl (sp_X6_argument_g0 L xs sio (d + 0) dt478 hI479 b n t j488 (by first | exact hbb | (rw [show dt478 85 = dt 85 from funext (hF481 85 (by decide)), show dt478 79 12 = dt 79 12 by omega]; exact hbb)) (by omega) hz ht hc490 hi492 hn5 4 ⟨by decide, by decide⟩ 3 ⟨by decide, by decide⟩ (by first | exact True.intro | rfl | omega | trivial) (by first | exact True.intro | rfl | omega | trivial)) ?_
            rintro _ _ ⟨dt503, rfl, hI504, hF505, h502⟩
            refine ⟨rfl, ?_⟩
            have hF506 : Fr [79, 82] dt dt503 := Fr_tr hF481 hF505 (by decide)
            rcases h502 with ⟨rfl, h502⟩ | ⟨rfl, h502⟩
            · skip
              obtain ⟨h502_0, h502_1, h502_2, h502_3, h502_4⟩ := h502
              have fl507 := RSX_0 h502_0 rfl
              have fe508 : (gAF (KF 0 b n) (VF b n) (dt 79 10)) i = (gA (KF 0 b n) (VF b n) 3) j488 := hp491.trans ((show (hA0 (KF 0 b n) (VF b n) 4 ((VF b n) (i + 1))) j488 = gB ((gA (KF 0 b n) (VF b n) 3) j488) (hA1 (KF 0 b n) (VF b n) 4) by exact (hA0_p rfl).trans (by unfold gOt; rw [if_neg (by omega)])).trans (gB_no fl507.1))
              refine go_retq PM172 (k := 2) (r := some (.inl 0)) (w1 := (SH, dt503)) rfl ?_
              exact ⟨dt503, rfl, hI504, hF506, (Or.inl ⟨rfl, ⟨by exact RSX_f fe508 fl507 (by omega) (by omega), by first | exact True.intro | rfl | omega | trivial, by first | exact True.intro | rfl | omega | trivial, by first | exact True.intro | rfl | omega | trivial⟩⟩)⟩
            · skip
              obtain ⟨h502_0, h502_1, h502_2, h502_3, h502_4, h502_5, h502_6, h502_7, h502_8, h502_9, h502_10, h502_11⟩ := h502
              have ee509 : dt478 79 10 = dt 79 10 := by omega
              rw [ee509] at h502_1 h502_2
              have BL510 : ∀ j : Nat, (j : Int) < 5 * dt 79 10 → dt503 82 j = dt 82 j := fun j hj => (h502_2 j (by omega)).trans (BL485 j hj)
              have Y511 := (h502_2 _ (by omega)).trans Y486
              have Y512 := (h502_2 _ (by omega)).trans Y487
              have Y513 := h502_1
              obtain ⟨j514, ej515, hc516⟩ := RSX_1 h502_0 (by decide)
              have hp517 : (gAF (KF 0 b n) (VF b n) (dt 79 10)) i = (hA1 (KF 0 b n) (VF b n) 4) j514 := hp491.trans ((show (hA0 (KF 0 b n) (VF b n) 4 ((VF b n) (i + 1))) j488 = gB ((gA (KF 0 b n) (VF b n) 3) j488) (hA1 (KF 0 b n) (VF b n) 4) by exact (hA0_p rfl).trans (by unfold gOt; rw [if_neg (by omega)])).trans (by rw [ej515]; exact gB_0))
              have hi518 : j514 ≤ t := by have z := gA_M (K := (KF 0 b n)) (V := (VF b n)) (m := 3) (i := j488) hz; rw [ej515] at z; have y := z rfl; simp only at y; omega
              clear cr493 cb494 cv495 ck496
              have cr519 := CUR_R hc516 (.inl rfl)
              have cb520 := CUR_b hc516
              have cv521 := CUR_v hc516
              have ck522 := KZ_lt (i := j514) hz
              have c1523 := (hc516).1
              have ci524 := hi518
              have ej525 : j514 = j488 + 1 := by have z_ := gA_at (K := (KF 0 b n)) (V := (VF b n)) (m := 3) (i := j488) (by rw [ej515]); rw [ej515] at z_; exact z_
              refine go_toq PM172 (k := 13) (pc' := 148) (L' := [some (.inr (.inr (some 79))), some (.inl 4)]) (st' := [.inl 2, .inl 2, .inr (.inr (some 79))]) (w' := (SH, dt503)) rfl ?_
              refine go_callq PM172 PM171 (Q' := _) rfl rfl rfl rfl (sp_X6_argument_g0 L xs sio (d + 0) dt503 hI504 b n t j514 (by first | exact hbb | (rw [show dt503 85 = dt 85 from funext (hF506 85 (by decide)), show dt503 79 12 = dt 79 12 by omega]; exact hbb)) (by omega) hz ht hc516 hi518 hn5 2 ⟨by decide, by decide⟩ 2 ⟨by decide, by decide⟩ (by first | exact True.intro | rfl | omega | trivial) (by first | exact True.intro | rfl | omega | trivial)) ?_
              rintro _ _ ⟨dt527, rfl, hI528, hF529, h526⟩
              refine ⟨rfl, ?_⟩
              have hF530 : Fr [79, 82] dt dt527 := Fr_tr hF506 hF529 (by decide)
              rcases h526 with ⟨rfl, h526⟩ | ⟨rfl, h526⟩
              · skip
                obtain ⟨h526_0, h526_1, h526_2, h526_3, h526_4⟩ := h526
                have fl531 := RSX_0 h526_0 rfl
                have fe532 : (gAF (KF 0 b n) (VF b n) (dt 79 10)) i = (gA (KF 0 b n) (VF b n) 2) j514 := hp517.trans ((show (hA1 (KF 0 b n) (VF b n) 4) j514 = gB ((gA (KF 0 b n) (VF b n) 2) j514) (hA2 (KF 0 b n) (VF b n) 4) by first | exact hA1_p (by decide) | (rw [hA0_n (by decide)]; exact hA1_p (by decide))).trans (gB_no fl531.1))
                refine go_retq PM172 (k := 2) (r := some (.inl 0)) (w1 := (SH, dt527)) rfl ?_
                exact ⟨dt527, rfl, hI528, hF530, (Or.inl ⟨rfl, ⟨by exact RSX_f fe532 fl531 (by omega) (by omega), by first | exact True.intro | rfl | omega | trivial, by first | exact True.intro | rfl | omega | trivial, by first | exact True.intro | rfl | omega | trivial⟩⟩)⟩
              · skip
                obtain ⟨h526_0, h526_1, h526_2, h526_3, h526_4, h526_5, h526_6, h526_7, h526_8, h526_9, h526_10, h526_11⟩ := h526
                have ee533 : dt503 79 10 = dt 79 10 := by omega
                rw [ee533] at h526_1 h526_2
                have BL534 : ∀ j : Nat, (j : Int) < 5 * dt 79 10 → dt527 82 j = dt 82 j := fun j hj => (h526_2 j (by omega)).trans (BL510 j hj)
                have Y535 := (h526_2 _ (by omega)).trans Y511
                have Y536 := (h526_2 _ (by omega)).trans Y512
                have Y537 := (h526_2 _ (by omega)).trans Y513
                have Y538 := h526_1
                obtain ⟨j539, ej540, hc541⟩ := RSX_1 h526_0 (by decide)
                have hp542 : (gAF (KF 0 b n) (VF b n) (dt 79 10)) i = (hA2 (KF 0 b n) (VF b n) 4) j539 := hp517.trans ((show (hA1 (KF 0 b n) (VF b n) 4) j514 = gB ((gA (KF 0 b n) (VF b n) 2) j514) (hA2 (KF 0 b n) (VF b n) 4) by first | exact hA1_p (by decide) | (rw [hA0_n (by decide)]; exact hA1_p (by decide))).trans (by rw [ej540]; exact gB_0))
                have hi543 : j539 ≤ t := by have z := gA_M (K := (KF 0 b n)) (V := (VF b n)) (m := 2) (i := j514) hz; rw [ej540] at z; have y := z rfl; simp only at y; omega
                clear cr519 cb520 cv521 ck522
                have cr544 := CUR_R hc541 (.inl rfl)
                have cb545 := CUR_b hc541
                have cv546 := CUR_v hc541
                have ck547 := KZ_lt (i := j539) hz
                have c1548 := (hc541).1
                have ci549 := hi543
                have ej550 : j539 = j514 + 1 := by have z_ := gA_at (K := (KF 0 b n)) (V := (VF b n)) (m := 2) (i := j514) (by rw [ej540]); rw [ej540] at z_; exact z_
                refine go_toq PM172 (k := 13) (pc' := 179) (L' := [some (.inr (.inr (some 79))), some (.inl 4)]) (st' := [.inl 3, .inl 3, .inr (.inr (some 79))]) (w' := (SH, dt527)) rfl ?_
                refine go_callq PM172 PM171 (Q' := _) rfl rfl rfl rfl (sp_X6_argument_g0 L xs sio (d + 0) dt527 hI528 b n t j539 (by first | exact hbb | (rw [show dt527 85 = dt 85 from funext (hF530 85 (by decide)), show dt527 79 12 = dt 79 12 by omega]; exact hbb)) (by omega) hz ht hc541 hi543 hn5 3 ⟨by decide, by decide⟩ 3 ⟨by decide, by decide⟩ (by first | exact True.intro | rfl | omega | trivial) (by first | exact True.intro | rfl | omega | trivial)) ?_
                rintro _ _ ⟨dt552, rfl, hI553, hF554, h551⟩
                refine ⟨rfl, ?_⟩
                have hF555 : Fr [79, 82] dt dt552 := Fr_tr hF530 hF554 (by decide)
                rcases h551 with ⟨rfl, h551⟩ | ⟨rfl, h551⟩
                · skip
                  obtain ⟨h551_0, h551_1, h551_2, h551_3, h551_4⟩ := h551
                  have fl556 := RSX_0 h551_0 rfl
                  have fe557 : (gAF (KF 0 b n) (VF b n) (dt 79 10)) i = (gA (KF 0 b n) (VF b n) 3) j539 := hp542.trans ((show (hA2 (KF 0 b n) (VF b n) 4) j539 = gB ((gA (KF 0 b n) (VF b n) 3) j539) (hA3 (KF 0 b n) (VF b n) 4) by first | exact hA2_p (by decide) | (rw [hA1_n (by decide)]; exact hA2_p (by decide)) | (rw [hA0_n (by decide), hA1_n (by decide)]; exact hA2_p (by decide))).trans (gB_no fl556.1))
                  refine go_retq PM172 (k := 2) (r := some (.inl 0)) (w1 := (SH, dt552)) rfl ?_
                  exact ⟨dt552, rfl, hI553, hF555, (Or.inl ⟨rfl, ⟨by exact RSX_f fe557 fl556 (by omega) (by omega), by first | exact True.intro | rfl | omega | trivial, by first | exact True.intro | rfl | omega | trivial, by first | exact True.intro | rfl | omega | trivial⟩⟩)⟩
                · skip
                  obtain ⟨h551_0, h551_1, h551_2, h551_3, h551_4, h551_5, h551_6, h551_7, h551_8, h551_9, h551_10, h551_11⟩ := h551
                  have ee558 : dt527 79 10 = dt 79 10 := by omega
                  rw [ee558] at h551_1 h551_2
                  have BL559 : ∀ j : Nat, (j : Int) < 5 * dt 79 10 → dt552 82 j = dt 82 j := fun j hj => (h551_2 j (by omega)).trans (BL534 j hj)
                  have Y560 := (h551_2 _ (by omega)).trans Y535
                  have Y561 := (h551_2 _ (by omega)).trans Y536
                  have Y562 := (h551_2 _ (by omega)).trans Y537
                  have Y563 := (h551_2 _ (by omega)).trans Y538
                  have Y564 := h551_1
                  obtain ⟨j565, ej566, hc567⟩ := RSX_1 h551_0 (by decide)
                  have hp568 : (gAF (KF 0 b n) (VF b n) (dt 79 10)) i = (hA3 (KF 0 b n) (VF b n) 4) j565 := hp542.trans ((show (hA2 (KF 0 b n) (VF b n) 4) j539 = gB ((gA (KF 0 b n) (VF b n) 3) j539) (hA3 (KF 0 b n) (VF b n) 4) by first | exact hA2_p (by decide) | (rw [hA1_n (by decide)]; exact hA2_p (by decide)) | (rw [hA0_n (by decide), hA1_n (by decide)]; exact hA2_p (by decide))).trans (by rw [ej566]; exact gB_0))
                  have hi569 : j565 ≤ t := by have z := gA_M (K := (KF 0 b n)) (V := (VF b n)) (m := 3) (i := j539) hz; rw [ej566] at z; have y := z rfl; simp only at y; omega
                  clear cr544 cb545 cv546 ck547
                  have cr570 := CUR_R hc567 (.inl rfl)
                  have cb571 := CUR_b hc567
                  have cv572 := CUR_v hc567
                  have ck573 := KZ_lt (i := j565) hz
                  have c1574 := (hc567).1
                  have ci575 := hi569
                  have ej576 : j565 = j539 + 1 := by have z_ := gA_at (K := (KF 0 b n)) (V := (VF b n)) (m := 3) (i := j539) (by rw [ej566]); rw [ej566] at z_; exact z_
                  refine go_toq PM172 (k := 6) (pc' := 208) (L' := [some (.inr (.inr (some 79))), some (.inl 4)]) (st' := [.inl 159, .inr (.inr (some 79))]) (w' := (SH, dt552)) rfl ?_
                  refine go_callq PM172 PM161 (Q' := _) rfl rfl rfl rfl (sp_X6_need0_g0 L xs sio (d + 1) dt552 hI553 b n t j565 (by first | exact hbb | (rw [show dt552 85 = dt 85 from funext (hF555 85 (by decide)), show dt552 79 12 = dt 79 12 by omega]; exact hbb)) (by omega) hz ht hc567 hi569 hn5 159 ⟨by decide, by decide⟩ (by first | exact True.intro | rfl | omega | trivial)) ?_
                  rintro _ _ ⟨dt578, rfl, hI579, hF580, h577⟩
                  refine ⟨rfl, ?_⟩
                  have hF581 : Fr [79, 82] dt dt578 := Fr_tr hF555 hF580 (by decide)
                  rcases h577 with ⟨rfl, h577⟩ | ⟨rfl, h577⟩
                  · skip
                    obtain ⟨h577_0, h577_1, h577_2, h577_3, h577_4⟩ := h577
                    have BL582 : ∀ j : Nat, (j : Int) < 5 * dt 79 10 → dt578 82 j = dt 82 j := fun j hj => (hF580 82 (by decide) j).trans (BL559 j hj)
                    have Y583 := (hF580 82 (by decide) _).trans Y560
                    have Y584 := (hF580 82 (by decide) _).trans Y561
                    have Y585 := (hF580 82 (by decide) _).trans Y562
                    have Y586 := (hF580 82 (by decide) _).trans Y563
                    have Y587 := (hF580 82 (by decide) _).trans Y564
                    have fl588 := RSX_0 h577_0 rfl
                    have fe589 : (gAF (KF 0 b n) (VF b n) (dt 79 10)) i = (gK (KF 0 b n) (159 - 100)) j565 := hp568.trans ((show (hA3 (KF 0 b n) (VF b n) 4) j565 = gB ((gK (KF 0 b n) (159 - 100)) j565) gOk by first | exact gB_id.symm | ((repeat (first | rw [hA0_n (by decide)] | rw [hA1_n (by decide)] | rw [hA2_n (by decide)] | rw [hA3_n (by decide)])); exact gB_id.symm)).trans (gB_no fl588.1))
                    refine go_retq PM172 (k := 0) (r := some (.inl 0)) (w1 := (SH, dt578)) rfl ?_
                    exact ⟨dt578, rfl, hI579, hF581, (Or.inl ⟨rfl, ⟨by exact RSX_f fe589 fl588 (by omega) (by omega), by first | exact True.intro | rfl | omega | trivial, by first | exact True.intro | rfl | omega | trivial, by first | exact True.intro | rfl | omega | trivial⟩⟩)⟩
                  · skip
                    obtain ⟨h577_0, h577_1, h577_2, h577_3, h577_4, h577_5, h577_6, h577_7, h577_8, h577_9⟩ := h577
                    have BL590 : ∀ j : Nat, (j : Int) < 5 * dt 79 10 → dt578 82 j = dt 82 j := fun j hj => (hF580 82 (by decide) j).trans (BL559 j hj)
                    have Y591 := (hF580 82 (by decide) _).trans Y560
                    have Y592 := (hF580 82 (by decide) _).trans Y561
                    have Y593 := (hF580 82 (by decide) _).trans Y562
                    have Y594 := (hF580 82 (by decide) _).trans Y563
                    have Y595 := (hF580 82 (by decide) _).trans Y564
                    obtain ⟨j596, ej597, hc598⟩ := RSX_1 h577_0 (by decide)
                    have hp599 : (gAF (KF 0 b n) (VF b n) (dt 79 10)) i = gOk j596 := hp568.trans ((show (hA3 (KF 0 b n) (VF b n) 4) j565 = gB ((gK (KF 0 b n) (159 - 100)) j565) gOk by first | exact gB_id.symm | ((repeat (first | rw [hA0_n (by decide)] | rw [hA1_n (by decide)] | rw [hA2_n (by decide)] | rw [hA3_n (by decide)])); exact gB_id.symm)).trans (by rw [ej597]; exact gB_0))
                    have hi600 : j596 ≤ t := by have z := (fun (h : KZ (KF 0 b n) t) => gK_M (K := (KF 0 b n)) (k := 159 - 100) (i := j565) h (by decide)) hz; rw [ej597] at z; have y := z rfl; simp only at y; omega
                    clear cr570 cb571 cv572 ck573
                    have cr601 := CUR_R hc598 (.inl rfl)
                    have cb602 := CUR_b hc598
                    have cv603 := CUR_v hc598
                    have ck604 := KZ_lt (i := j596) hz
                    have c1605 := (hc598).1
                    have ci606 := hi600
                    refine go_retq PM172 (k := 0) (r := some (.inl 1)) (w1 := (SH, dt578)) rfl ?_
                    exact ⟨dt578, rfl, hI579, hF581, (Or.inr ⟨rfl, ⟨by exact RSX_ok hp599 hc598, by first | exact True.intro | rfl | omega | trivial, by unfold ARF ATT ABB; exact ⟨by rw [Y591]; omega, Y592.trans (congrArg (VF b n) (by omega)), fun z_ => by (rw [if_pos (by omega)]; exact Y594.trans (congrArg (VF b n) (by omega))), fun z_ => by (rw [if_pos (by omega)]; exact Y595.trans (congrArg (VF b n) (by omega))), fun z_ => by (exfalso; omega), fun z_ => by (exact Y593.trans (congrArg (VF b n) (by omega)))⟩, by exact BL590, by first | exact True.intro | rfl | omega | trivial, by exact (InvC_get (by assumption) 79 15 rfl rfl).2, by first | exact True.intro | rfl | omega | trivial, by first | exact True.intro | rfl | omega | trivial, by first | exact True.intro | rfl | omega | trivial, by first | exact True.intro | rfl | omega | trivial, by first | exact True.intro | rfl | omega | trivial, by first | exact True.intro | rfl | omega | trivial⟩⟩)⟩
          · skip
            have r607 : 0 ≤ dt478 79 16 ∧ dt478 79 16 ≤ 9999 := InvC_get hI479 79 16 rfl rfl
            have r608 : 0 ≤ dt478 79 10 ∧ dt478 79 10 ≤ 24 := InvC_get hI479 79 10 rfl rfl
            refine go_toq PM172 (k := 10) (pc' := 109) (L' := [some (.inr (.inr (some 79))), some (.inl 4)]) (st' := [.inl ((5 * (dt478 79 10)) + 1), .inr (.inr (some 82)), .inl (dt478 79 16)]) (w' := (SH, dt478)) rfl ?_
            have r609 : (-2147483648) ≤ dt478 82 (((5 * (dt478 79 10)) + 1).toNat) ∧ dt478 82 (((5 * (dt478 79 10)) + 1).toNat) ≤ 2147483647 := InvC_get hI479 82 (((5 * (dt478 79 10)) + 1).toNat) rfl rfl
            refine go_smpq PM172 (L' := [some (.inr (.inr (some 79))), some (.inl 4)]) (st' := [.inl (dt478 82 (((5 * (dt478 79 10)) + 1).toNat)), .inl (dt478 79 16)]) (w' := (SH, dt478)) rfl rfl (s_iald (n := 120) (f := dt478 82) rfl ⟨by omega, by omega⟩) ?_
            refine go_ifq PM172 (k := 0) (p1 := 119) (p2 := 113) (L' := [some (.inr (.inr (some 79))), some (.inl 4)]) (st' := []) (w' := (SH, dt478)) rfl (c_ne (a := dt478 79 16) (b := dt478 82 (((5 * (dt478 79 10)) + 1).toNat)) (by first | exact bnd r607 (by decide) (by decide) | exact ⟨by omega, by omega⟩) (by first | exact bnd r609 (by decide) (by decide) | exact ⟨by omega, by omega⟩)) (fun c610 => ?_) (fun c610 => ?_)
            · skip
              refine go_toq PM172 (k := 3) (pc' := 122) (L' := [some (.inr (.inr (some 79))), some (.inl 4)]) (st' := [.inl 3, .inl 4, .inr (.inr (some 79))]) (w' := (SH, dt478)) rfl ?_
              refine go_callq PM172 PM171 (Q' := _) rfl rfl rfl rfl (sp_X6_argument_g0 L xs sio (d + 0) dt478 hI479 b n t j488 (by first | exact hbb | (rw [show dt478 85 = dt 85 from funext (hF481 85 (by decide)), show dt478 79 12 = dt 79 12 by omega]; exact hbb)) (by omega) hz ht hc490 hi492 hn5 4 ⟨by decide, by decide⟩ 3 ⟨by decide, by decide⟩ (by first | exact True.intro | rfl | omega | trivial) (by first | exact True.intro | rfl | omega | trivial)) ?_
              rintro _ _ ⟨dt612, rfl, hI613, hF614, h611⟩
              refine ⟨rfl, ?_⟩
              have hF615 : Fr [79, 82] dt dt612 := Fr_tr hF481 hF614 (by decide)
              rcases h611 with ⟨rfl, h611⟩ | ⟨rfl, h611⟩
              · skip
                obtain ⟨h611_0, h611_1, h611_2, h611_3, h611_4⟩ := h611
                have fl616 := RSX_0 h611_0 rfl
                have fe617 : (gAF (KF 0 b n) (VF b n) (dt 79 10)) i = (gA (KF 0 b n) (VF b n) 3) j488 := hp491.trans ((show (hA0 (KF 0 b n) (VF b n) 4 ((VF b n) (i + 1))) j488 = gB ((gA (KF 0 b n) (VF b n) 3) j488) (hA1 (KF 0 b n) (VF b n) 4) by exact (hA0_p rfl).trans (by unfold gOt; rw [if_neg (by omega)])).trans (gB_no fl616.1))
                refine go_retq PM172 (k := 2) (r := some (.inl 0)) (w1 := (SH, dt612)) rfl ?_
                exact ⟨dt612, rfl, hI613, hF615, (Or.inl ⟨rfl, ⟨by exact RSX_f fe617 fl616 (by omega) (by omega), by first | exact True.intro | rfl | omega | trivial, by first | exact True.intro | rfl | omega | trivial, by first | exact True.intro | rfl | omega | trivial⟩⟩)⟩
              · skip
                obtain ⟨h611_0, h611_1, h611_2, h611_3, h611_4, h611_5, h611_6, h611_7, h611_8, h611_9, h611_10, h611_11⟩ := h611
                have ee618 : dt478 79 10 = dt 79 10 := by omega
                rw [ee618] at h611_1 h611_2
                have BL619 : ∀ j : Nat, (j : Int) < 5 * dt 79 10 → dt612 82 j = dt 82 j := fun j hj => (h611_2 j (by omega)).trans (BL485 j hj)
                have Y620 := (h611_2 _ (by omega)).trans Y486
                have Y621 := (h611_2 _ (by omega)).trans Y487
                have Y622 := h611_1
                obtain ⟨j623, ej624, hc625⟩ := RSX_1 h611_0 (by decide)
                have hp626 : (gAF (KF 0 b n) (VF b n) (dt 79 10)) i = (hA1 (KF 0 b n) (VF b n) 4) j623 := hp491.trans ((show (hA0 (KF 0 b n) (VF b n) 4 ((VF b n) (i + 1))) j488 = gB ((gA (KF 0 b n) (VF b n) 3) j488) (hA1 (KF 0 b n) (VF b n) 4) by exact (hA0_p rfl).trans (by unfold gOt; rw [if_neg (by omega)])).trans (by rw [ej624]; exact gB_0))
                have hi627 : j623 ≤ t := by have z := gA_M (K := (KF 0 b n)) (V := (VF b n)) (m := 3) (i := j488) hz; rw [ej624] at z; have y := z rfl; simp only at y; omega
                clear cr493 cb494 cv495 ck496
                have cr628 := CUR_R hc625 (.inl rfl)
                have cb629 := CUR_b hc625
                have cv630 := CUR_v hc625
                have ck631 := KZ_lt (i := j623) hz
                have c1632 := (hc625).1
                have ci633 := hi627
                have ej634 : j623 = j488 + 1 := by have z_ := gA_at (K := (KF 0 b n)) (V := (VF b n)) (m := 3) (i := j488) (by rw [ej624]); rw [ej624] at z_; exact z_
                refine go_toq PM172 (k := 13) (pc' := 148) (L' := [some (.inr (.inr (some 79))), some (.inl 4)]) (st' := [.inl 2, .inl 2, .inr (.inr (some 79))]) (w' := (SH, dt612)) rfl ?_
                refine go_callq PM172 PM171 (Q' := _) rfl rfl rfl rfl (sp_X6_argument_g0 L xs sio (d + 0) dt612 hI613 b n t j623 (by first | exact hbb | (rw [show dt612 85 = dt 85 from funext (hF615 85 (by decide)), show dt612 79 12 = dt 79 12 by omega]; exact hbb)) (by omega) hz ht hc625 hi627 hn5 2 ⟨by decide, by decide⟩ 2 ⟨by decide, by decide⟩ (by first | exact True.intro | rfl | omega | trivial) (by first | exact True.intro | rfl | omega | trivial)) ?_
                rintro _ _ ⟨dt636, rfl, hI637, hF638, h635⟩
                refine ⟨rfl, ?_⟩
                have hF639 : Fr [79, 82] dt dt636 := Fr_tr hF615 hF638 (by decide)
                rcases h635 with ⟨rfl, h635⟩ | ⟨rfl, h635⟩
                · skip
                  obtain ⟨h635_0, h635_1, h635_2, h635_3, h635_4⟩ := h635
                  have fl640 := RSX_0 h635_0 rfl
                  have fe641 : (gAF (KF 0 b n) (VF b n) (dt 79 10)) i = (gA (KF 0 b n) (VF b n) 2) j623 := hp626.trans ((show (hA1 (KF 0 b n) (VF b n) 4) j623 = gB ((gA (KF 0 b n) (VF b n) 2) j623) (hA2 (KF 0 b n) (VF b n) 4) by first | exact hA1_p (by decide) | (rw [hA0_n (by decide)]; exact hA1_p (by decide))).trans (gB_no fl640.1))
                  refine go_retq PM172 (k := 2) (r := some (.inl 0)) (w1 := (SH, dt636)) rfl ?_
                  exact ⟨dt636, rfl, hI637, hF639, (Or.inl ⟨rfl, ⟨by exact RSX_f fe641 fl640 (by omega) (by omega), by first | exact True.intro | rfl | omega | trivial, by first | exact True.intro | rfl | omega | trivial, by first | exact True.intro | rfl | omega | trivial⟩⟩)⟩
                · skip
                  obtain ⟨h635_0, h635_1, h635_2, h635_3, h635_4, h635_5, h635_6, h635_7, h635_8, h635_9, h635_10, h635_11⟩ := h635
                  have ee642 : dt612 79 10 = dt 79 10 := by omega
                  rw [ee642] at h635_1 h635_2
                  have BL643 : ∀ j : Nat, (j : Int) < 5 * dt 79 10 → dt636 82 j = dt 82 j := fun j hj => (h635_2 j (by omega)).trans (BL619 j hj)
                  have Y644 := (h635_2 _ (by omega)).trans Y620
                  have Y645 := (h635_2 _ (by omega)).trans Y621
                  have Y646 := (h635_2 _ (by omega)).trans Y622
                  have Y647 := h635_1
                  obtain ⟨j648, ej649, hc650⟩ := RSX_1 h635_0 (by decide)
                  have hp651 : (gAF (KF 0 b n) (VF b n) (dt 79 10)) i = (hA2 (KF 0 b n) (VF b n) 4) j648 := hp626.trans ((show (hA1 (KF 0 b n) (VF b n) 4) j623 = gB ((gA (KF 0 b n) (VF b n) 2) j623) (hA2 (KF 0 b n) (VF b n) 4) by first | exact hA1_p (by decide) | (rw [hA0_n (by decide)]; exact hA1_p (by decide))).trans (by rw [ej649]; exact gB_0))
                  have hi652 : j648 ≤ t := by have z := gA_M (K := (KF 0 b n)) (V := (VF b n)) (m := 2) (i := j623) hz; rw [ej649] at z; have y := z rfl; simp only at y; omega
                  clear cr628 cb629 cv630 ck631
                  have cr653 := CUR_R hc650 (.inl rfl)
                  have cb654 := CUR_b hc650
                  have cv655 := CUR_v hc650
                  have ck656 := KZ_lt (i := j648) hz
                  have c1657 := (hc650).1
                  have ci658 := hi652
                  have ej659 : j648 = j623 + 1 := by have z_ := gA_at (K := (KF 0 b n)) (V := (VF b n)) (m := 2) (i := j623) (by rw [ej649]); rw [ej649] at z_; exact z_
                  refine go_toq PM172 (k := 13) (pc' := 179) (L' := [some (.inr (.inr (some 79))), some (.inl 4)]) (st' := [.inl 3, .inl 3, .inr (.inr (some 79))]) (w' := (SH, dt636)) rfl ?_
                  refine go_callq PM172 PM171 (Q' := _) rfl rfl rfl rfl (sp_X6_argument_g0 L xs sio (d + 0) dt636 hI637 b n t j648 (by first | exact hbb | (rw [show dt636 85 = dt 85 from funext (hF639 85 (by decide)), show dt636 79 12 = dt 79 12 by omega]; exact hbb)) (by omega) hz ht hc650 hi652 hn5 3 ⟨by decide, by decide⟩ 3 ⟨by decide, by decide⟩ (by first | exact True.intro | rfl | omega | trivial) (by first | exact True.intro | rfl | omega | trivial)) ?_
                  rintro _ _ ⟨dt661, rfl, hI662, hF663, h660⟩
                  refine ⟨rfl, ?_⟩
                  have hF664 : Fr [79, 82] dt dt661 := Fr_tr hF639 hF663 (by decide)
                  rcases h660 with ⟨rfl, h660⟩ | ⟨rfl, h660⟩
                  · skip
                    obtain ⟨h660_0, h660_1, h660_2, h660_3, h660_4⟩ := h660
                    have fl665 := RSX_0 h660_0 rfl
                    have fe666 : (gAF (KF 0 b n) (VF b n) (dt 79 10)) i = (gA (KF 0 b n) (VF b n) 3) j648 := hp651.trans ((show (hA2 (KF 0 b n) (VF b n) 4) j648 = gB ((gA (KF 0 b n) (VF b n) 3) j648) (hA3 (KF 0 b n) (VF b n) 4) by first | exact hA2_p (by decide) | (rw [hA1_n (by decide)]; exact hA2_p (by decide)) | (rw [hA0_n (by decide), hA1_n (by decide)]; exact hA2_p (by decide))).trans (gB_no fl665.1))
                    refine go_retq PM172 (k := 2) (r := some (.inl 0)) (w1 := (SH, dt661)) rfl ?_
                    exact ⟨dt661, rfl, hI662, hF664, (Or.inl ⟨rfl, ⟨by exact RSX_f fe666 fl665 (by omega) (by omega), by first | exact True.intro | rfl | omega | trivial, by first | exact True.intro | rfl | omega | trivial, by first | exact True.intro | rfl | omega | trivial⟩⟩)⟩
                  · skip
                    obtain ⟨h660_0, h660_1, h660_2, h660_3, h660_4, h660_5, h660_6, h660_7, h660_8, h660_9, h660_10, h660_11⟩ := h660
                    have ee667 : dt636 79 10 = dt 79 10 := by omega
                    rw [ee667] at h660_1 h660_2
                    have BL668 : ∀ j : Nat, (j : Int) < 5 * dt 79 10 → dt661 82 j = dt 82 j := fun j hj => (h660_2 j (by omega)).trans (BL643 j hj)
                    have Y669 := (h660_2 _ (by omega)).trans Y644
                    have Y670 := (h660_2 _ (by omega)).trans Y645
                    have Y671 := (h660_2 _ (by omega)).trans Y646
                    have Y672 := (h660_2 _ (by omega)).trans Y647
                    have Y673 := h660_1
                    obtain ⟨j674, ej675, hc676⟩ := RSX_1 h660_0 (by decide)
                    have hp677 : (gAF (KF 0 b n) (VF b n) (dt 79 10)) i = (hA3 (KF 0 b n) (VF b n) 4) j674 := hp651.trans ((show (hA2 (KF 0 b n) (VF b n) 4) j648 = gB ((gA (KF 0 b n) (VF b n) 3) j648) (hA3 (KF 0 b n) (VF b n) 4) by first | exact hA2_p (by decide) | (rw [hA1_n (by decide)]; exact hA2_p (by decide)) | (rw [hA0_n (by decide), hA1_n (by decide)]; exact hA2_p (by decide))).trans (by rw [ej675]; exact gB_0))
                    have hi678 : j674 ≤ t := by have z := gA_M (K := (KF 0 b n)) (V := (VF b n)) (m := 3) (i := j648) hz; rw [ej675] at z; have y := z rfl; simp only at y; omega
                    clear cr653 cb654 cv655 ck656
                    have cr679 := CUR_R hc676 (.inl rfl)
                    have cb680 := CUR_b hc676
                    have cv681 := CUR_v hc676
                    have ck682 := KZ_lt (i := j674) hz
                    have c1683 := (hc676).1
                    have ci684 := hi678
                    have ej685 : j674 = j648 + 1 := by have z_ := gA_at (K := (KF 0 b n)) (V := (VF b n)) (m := 3) (i := j648) (by rw [ej675]); rw [ej675] at z_; exact z_
                    refine go_toq PM172 (k := 6) (pc' := 208) (L' := [some (.inr (.inr (some 79))), some (.inl 4)]) (st' := [.inl 159, .inr (.inr (some 79))]) (w' := (SH, dt661)) rfl ?_
                    refine go_callq PM172 PM161 (Q' := _) rfl rfl rfl rfl (sp_X6_need0_g0 L xs sio (d + 1) dt661 hI662 b n t j674 (by first | exact hbb | (rw [show dt661 85 = dt 85 from funext (hF664 85 (by decide)), show dt661 79 12 = dt 79 12 by omega]; exact hbb)) (by omega) hz ht hc676 hi678 hn5 159 ⟨by decide, by decide⟩ (by first | exact True.intro | rfl | omega | trivial)) ?_
                    rintro _ _ ⟨dt687, rfl, hI688, hF689, h686⟩
                    refine ⟨rfl, ?_⟩
                    have hF690 : Fr [79, 82] dt dt687 := Fr_tr hF664 hF689 (by decide)
                    rcases h686 with ⟨rfl, h686⟩ | ⟨rfl, h686⟩
                    · skip
                      obtain ⟨h686_0, h686_1, h686_2, h686_3, h686_4⟩ := h686
                      have BL691 : ∀ j : Nat, (j : Int) < 5 * dt 79 10 → dt687 82 j = dt 82 j := fun j hj => (hF689 82 (by decide) j).trans (BL668 j hj)
                      have Y692 := (hF689 82 (by decide) _).trans Y669
                      have Y693 := (hF689 82 (by decide) _).trans Y670
                      have Y694 := (hF689 82 (by decide) _).trans Y671
                      have Y695 := (hF689 82 (by decide) _).trans Y672
                      have Y696 := (hF689 82 (by decide) _).trans Y673
                      have fl697 := RSX_0 h686_0 rfl
                      have fe698 : (gAF (KF 0 b n) (VF b n) (dt 79 10)) i = (gK (KF 0 b n) (159 - 100)) j674 := hp677.trans ((show (hA3 (KF 0 b n) (VF b n) 4) j674 = gB ((gK (KF 0 b n) (159 - 100)) j674) gOk by first | exact gB_id.symm | ((repeat (first | rw [hA0_n (by decide)] | rw [hA1_n (by decide)] | rw [hA2_n (by decide)] | rw [hA3_n (by decide)])); exact gB_id.symm)).trans (gB_no fl697.1))
                      refine go_retq PM172 (k := 0) (r := some (.inl 0)) (w1 := (SH, dt687)) rfl ?_
                      exact ⟨dt687, rfl, hI688, hF690, (Or.inl ⟨rfl, ⟨by exact RSX_f fe698 fl697 (by omega) (by omega), by first | exact True.intro | rfl | omega | trivial, by first | exact True.intro | rfl | omega | trivial, by first | exact True.intro | rfl | omega | trivial⟩⟩)⟩
                    · skip
                      obtain ⟨h686_0, h686_1, h686_2, h686_3, h686_4, h686_5, h686_6, h686_7, h686_8, h686_9⟩ := h686
                      have BL699 : ∀ j : Nat, (j : Int) < 5 * dt 79 10 → dt687 82 j = dt 82 j := fun j hj => (hF689 82 (by decide) j).trans (BL668 j hj)
                      have Y700 := (hF689 82 (by decide) _).trans Y669
                      have Y701 := (hF689 82 (by decide) _).trans Y670
                      have Y702 := (hF689 82 (by decide) _).trans Y671
                      have Y703 := (hF689 82 (by decide) _).trans Y672
                      have Y704 := (hF689 82 (by decide) _).trans Y673
                      obtain ⟨j705, ej706, hc707⟩ := RSX_1 h686_0 (by decide)
                      have hp708 : (gAF (KF 0 b n) (VF b n) (dt 79 10)) i = gOk j705 := hp677.trans ((show (hA3 (KF 0 b n) (VF b n) 4) j674 = gB ((gK (KF 0 b n) (159 - 100)) j674) gOk by first | exact gB_id.symm | ((repeat (first | rw [hA0_n (by decide)] | rw [hA1_n (by decide)] | rw [hA2_n (by decide)] | rw [hA3_n (by decide)])); exact gB_id.symm)).trans (by rw [ej706]; exact gB_0))
                      have hi709 : j705 ≤ t := by have z := (fun (h : KZ (KF 0 b n) t) => gK_M (K := (KF 0 b n)) (k := 159 - 100) (i := j674) h (by decide)) hz; rw [ej706] at z; have y := z rfl; simp only at y; omega
                      clear cr679 cb680 cv681 ck682
                      have cr710 := CUR_R hc707 (.inl rfl)
                      have cb711 := CUR_b hc707
                      have cv712 := CUR_v hc707
                      have ck713 := KZ_lt (i := j705) hz
                      have c1714 := (hc707).1
                      have ci715 := hi709
                      refine go_retq PM172 (k := 0) (r := some (.inl 1)) (w1 := (SH, dt687)) rfl ?_
                      exact ⟨dt687, rfl, hI688, hF690, (Or.inr ⟨rfl, ⟨by exact RSX_ok hp708 hc707, by first | exact True.intro | rfl | omega | trivial, by unfold ARF ATT ABB; exact ⟨by rw [Y700]; omega, Y701.trans (congrArg (VF b n) (by omega)), fun z_ => by (rw [if_pos (by omega)]; exact Y703.trans (congrArg (VF b n) (by omega))), fun z_ => by (rw [if_pos (by omega)]; exact Y704.trans (congrArg (VF b n) (by omega))), fun z_ => by (exfalso; omega), fun z_ => by (exact Y702.trans (congrArg (VF b n) (by omega)))⟩, by exact BL699, by first | exact True.intro | rfl | omega | trivial, by exact (InvC_get (by assumption) 79 15 rfl rfl).2, by first | exact True.intro | rfl | omega | trivial, by first | exact True.intro | rfl | omega | trivial, by first | exact True.intro | rfl | omega | trivial, by first | exact True.intro | rfl | omega | trivial, by first | exact True.intro | rfl | omega | trivial, by first | exact True.intro | rfl | omega | trivial⟩⟩)⟩
            · skip
              refine go_toq PM172 (k := 2) (pc' := 115) (L' := [some (.inr (.inr (some 79))), some (.inl 4)]) (st' := [.inl 2, .inr (.inr (some 79))]) (w' := (SH, dt478)) rfl ?_
              refine go_callq PM172 PM160 (Q' := _) rfl rfl rfl rfl (sp_X6_bad_g L xs sio (d + 8) dt478 hI479  2 ⟨by decide, by decide⟩ ) ?_
              rintro _ _ ⟨dt717, rfl, hI718, hF719, h716⟩
              refine ⟨rfl, ?_⟩
              have hF720 : Fr [79, 82] dt dt717 := Fr_tr hF481 hF719 (by decide)
              rcases h716 with ⟨rfl, h716⟩
              obtain ⟨h716_0, h716_1, h716_2, h716_3, h716_4, h716_5, h716_6, h716_7, h716_8, h716_9, h716_10, h716_11⟩ := h716
              have BL721 : ∀ j : Nat, (j : Int) < 5 * dt 79 10 → dt717 82 j = dt 82 j := fun j hj => (hF719 82 (by decide) j).trans (BL485 j hj)
              have Y722 := (hF719 82 (by decide) _).trans Y486
              have Y723 := (hF719 82 (by decide) _).trans Y487
              have hc724 : CUR 0 b n dt717 j488 := CUR_sm hc490 (by omega) (by omega) (by omega) (by omega)
              refine go_retq PM172 (k := 0) (r := some (.inl 0)) (w1 := (SH, dt717)) rfl ?_
              exact ⟨dt717, rfl, hI718, hF720, (Or.inl ⟨rfl, ⟨by exact RSX_no (k := 2) (j := j488) (hp491.trans (by exact (hA0_p rfl).trans (by unfold gOt; rw [if_pos (by omega)]; rfl))) (by decide) (by omega) (by show _ = ((TP b n j488 : Nat) : Int); omega), by first | exact True.intro | rfl | omega | trivial, by first | exact True.intro | rfl | omega | trivial, by first | exact True.intro | rfl | omega | trivial⟩⟩)⟩
      · rw [hc7]
        refine go_toq PM172 (k := 1) (pc' := 44) (L' := [some (.inr (.inr (some 79))), some (.inl 5)]) (st' := [.inr (.inr (some 79))]) (w' := (SH, dt)) rfl ?_
        refine go_callq PM172 PM159 (Q' := _) rfl rfl rfl rfl (sp_X6_next0_p0 L xs sio (d + 2) dt hI   (by first | exact True.intro | rfl | omega | trivial) (by first | exact True.intro | rfl | omega | trivial)) ?_
        rintro _ _ ⟨dt726, rfl, hI727, hF728, h725⟩
        refine ⟨rfl, ?_⟩
        have hF729 : Fr [79, 82] dt dt726 := Fr_tr hF hF728 (by decide)
        rcases h725 with ⟨rfl, h725⟩
        obtain ⟨h725_0, h725_1, h725_2, h725_3, h725_4, h725_5, h725_6, h725_7, h725_8⟩ := h725
        have BL730 : ∀ j : Nat, (j : Int) < 5 * dt 79 10 → dt726 82 j = dt 82 j := fun j hj => (hF728 82 (by decide) j).trans ((fun _ _ => rfl) j hj)
        have hq731 := h725_0
        rw [hbb, show (dt 79 12).toNat = n by omega] at hq731
        have hc732 : CUR 0 b n dt726 (i + 1) := CUR_n hc hq731
        have hi733 : i + 1 ≤ t := by omega
        have av734 : dt 79 15 + 1 ≤ dt 79 13 := by omega
        have kk_ : KF 0 b n i = 1005 := by omega
        have hp735 : (gAF (KF 0 b n) (VF b n) (dt 79 10)) i = (gAct (KF 0 b n) (VF b n) 5) (i + 1) := (rfl : (gAF (KF 0 b n) (VF b n) (dt 79 10)) i = (gAF (KF 0 b n) (VF b n) (dt 79 10)) i).trans (by show gAF _ _ _ _ = _; unfold gAF; rw [if_neg (by omega), if_neg (by omega), show (KF 0 b n) i - 1000 = 5 by omega])
        clear cr0 cb0 cv0 ck0
        have cr736 := CUR_R hc732 (.inl rfl)
        have cb737 := CUR_b hc732
        have cv738 := CUR_v hc732
        have ck739 := KZ_lt (i := (i + 1)) hz
        have c1740 := (hc732).1
        have ci741 := hi733
        have r742 : 0 ≤ dt726 79 10 ∧ dt726 79 10 ≤ 24 := InvC_get hI727 79 10 rfl rfl
        refine go_toq PM172 (k := 7) (pc' := 58) (L' := [some (.inr (.inr (some 79))), some (.inl 5)]) (st' := [.inl 5, .inl (5 * (dt726 79 10)), .inr (.inr (some 82))]) (w' := (SH, dt726)) rfl ?_
        have hI743 : InvC (u2 dt726 82 ((5 * (dt726 79 10)).toNat) 5) := InvC_u2 hI727 (lo := -2147483648) (hi := 2147483647) rfl rfl rfl (by decide) (by decide)
        have hF744 : Fr [79, 82] dt (u2 dt726 82 ((5 * (dt726 79 10)).toNat) 5) := Fr_u2 hF729 (by decide)
        have w745 : (u2 dt726 82 ((5 * (dt726 79 10)).toNat) 5) 79 2 = dt726 79 2 := rfl
        have w746 : (u2 dt726 82 ((5 * (dt726 79 10)).toNat) 5) 79 9 = dt726 79 9 := rfl
        have w747 : (u2 dt726 82 ((5 * (dt726 79 10)).toNat) 5) 79 10 = dt726 79 10 := rfl
        have w748 : (u2 dt726 82 ((5 * (dt726 79 10)).toNat) 5) 79 11 = dt726 79 11 := rfl
        have w749 : (u2 dt726 82 ((5 * (dt726 79 10)).toNat) 5) 79 12 = dt726 79 12 := rfl
        have w750 : (u2 dt726 82 ((5 * (dt726 79 10)).toNat) 5) 79 13 = dt726 79 13 := rfl
        have w751 : (u2 dt726 82 ((5 * (dt726 79 10)).toNat) 5) 79 14 = dt726 79 14 := rfl
        have w752 : (u2 dt726 82 ((5 * (dt726 79 10)).toNat) 5) 79 15 = dt726 79 15 := rfl
        have w753 : (u2 dt726 82 ((5 * (dt726 79 10)).toNat) 5) 79 16 = dt726 79 16 := rfl
        have w754 : (u2 dt726 82 ((5 * (dt726 79 10)).toNat) 5) 79 17 = dt726 79 17 := rfl
        have w755 : (u2 dt726 82 ((5 * (dt726 79 10)).toNat) 5) 79 18 = dt726 79 18 := rfl
        have w756 : (u2 dt726 82 ((5 * (dt726 79 10)).toNat) 5) 79 20 = dt726 79 20 := rfl
        have BL757 : ∀ j : Nat, (j : Int) < 5 * dt 79 10 → (u2 dt726 82 ((5 * (dt726 79 10)).toNat) 5) 82 j = dt 82 j := fun j hj => (u2_ne (by omega)).trans (BL730 j hj)
        have Y758 : (u2 dt726 82 ((5 * (dt726 79 10)).toNat) 5) 82 (5 * (dt 79 10)).toNat = 5 := by rw [show (5 * (dt 79 10)).toNat = (5 * (dt726 79 10)).toNat by omega]; exact u2_eq
        have hc759 : CUR 0 b n (u2 dt726 82 ((5 * (dt726 79 10)).toNat) 5) (i + 1) := CUR_sm hc732 rfl rfl rfl rfl
        refine go_smpq PM172 (L' := [some (.inr (.inr (some 79))), some (.inl 5)]) (st' := []) (w' := (SH, (u2 dt726 82 ((5 * (dt726 79 10)).toNat) 5))) rfl rfl (s_iast (n := 120) rfl ⟨by omega, by omega⟩ ⟨by decide, by decide⟩) ?_
        refine go_toq PM172 (k := 6) (pc' := 72) (L' := [some (.inr (.inr (some 79))), some (.inl 5)]) (st' := [.inl 3, .inl 1, .inr (.inr (some 79))]) (w' := (SH, (u2 dt726 82 ((5 * (dt726 79 10)).toNat) 5))) rfl ?_
        refine go_callq PM172 PM171 (Q' := _) rfl rfl rfl rfl (sp_X6_argument_g0 L xs sio (d + 0) (u2 dt726 82 ((5 * (dt726 79 10)).toNat) 5) hI743 b n t (i + 1) (by first | exact hbb | (rw [show (u2 dt726 82 ((5 * (dt726 79 10)).toNat) 5) 85 = dt 85 from funext (hF744 85 (by decide)), show (u2 dt726 82 ((5 * (dt726 79 10)).toNat) 5) 79 12 = dt 79 12 by omega]; exact hbb)) (by omega) hz ht hc759 hi733 hn5 1 ⟨by decide, by decide⟩ 3 ⟨by decide, by decide⟩ (by first | exact True.intro | rfl | omega | trivial) (by first | exact True.intro | rfl | omega | trivial)) ?_
        rintro _ _ ⟨dt761, rfl, hI762, hF763, h760⟩
        refine ⟨rfl, ?_⟩
        have hF764 : Fr [79, 82] dt dt761 := Fr_tr hF744 hF763 (by decide)
        rcases h760 with ⟨rfl, h760⟩ | ⟨rfl, h760⟩
        · skip
          obtain ⟨h760_0, h760_1, h760_2, h760_3, h760_4⟩ := h760
          have fl765 := RSX_0 h760_0 rfl
          have fe766 : (gAF (KF 0 b n) (VF b n) (dt 79 10)) i = (gA (KF 0 b n) (VF b n) 3) (i + 1) := hp735.trans ((show (gAct (KF 0 b n) (VF b n) 5) (i + 1) = gB ((gA (KF 0 b n) (VF b n) 3) (i + 1)) (hA0 (KF 0 b n) (VF b n) 5 ((VF b n) (i + 1))) by exact hAc_n (by decide)).trans (gB_no fl765.1))
          refine go_retq PM172 (k := 2) (r := some (.inl 0)) (w1 := (SH, dt761)) rfl ?_
          exact ⟨dt761, rfl, hI762, hF764, (Or.inl ⟨rfl, ⟨by exact RSX_f fe766 fl765 (by omega) (by omega), by first | exact True.intro | rfl | omega | trivial, by first | exact True.intro | rfl | omega | trivial, by first | exact True.intro | rfl | omega | trivial⟩⟩)⟩
        · skip
          obtain ⟨h760_0, h760_1, h760_2, h760_3, h760_4, h760_5, h760_6, h760_7, h760_8, h760_9, h760_10, h760_11⟩ := h760
          have ee767 : (u2 dt726 82 ((5 * (dt726 79 10)).toNat) 5) 79 10 = dt 79 10 := by omega
          rw [ee767] at h760_1 h760_2
          have BL768 : ∀ j : Nat, (j : Int) < 5 * dt 79 10 → dt761 82 j = dt 82 j := fun j hj => (h760_2 j (by omega)).trans (BL757 j hj)
          have Y769 := (h760_2 _ (by omega)).trans Y758
          have Y770 := h760_1
          obtain ⟨j771, ej772, hc773⟩ := RSX_1 h760_0 (by decide)
          have hp774 : (gAF (KF 0 b n) (VF b n) (dt 79 10)) i = (hA0 (KF 0 b n) (VF b n) 5 ((VF b n) (i + 1))) j771 := hp735.trans ((show (gAct (KF 0 b n) (VF b n) 5) (i + 1) = gB ((gA (KF 0 b n) (VF b n) 3) (i + 1)) (hA0 (KF 0 b n) (VF b n) 5 ((VF b n) (i + 1))) by exact hAc_n (by decide)).trans (by rw [ej772]; exact gB_0))
          have hi775 : j771 ≤ t := by have z := gA_M (K := (KF 0 b n)) (V := (VF b n)) (m := 3) (i := (i + 1)) hz; rw [ej772] at z; have y := z rfl; simp only at y; omega
          clear cr736 cb737 cv738 ck739
          have cr776 := CUR_R hc773 (.inl rfl)
          have cb777 := CUR_b hc773
          have cv778 := CUR_v hc773
          have ck779 := KZ_lt (i := j771) hz
          have c1780 := (hc773).1
          have ci781 := hi775
          have ej782 : j771 = (i + 1) + 1 := by have z_ := gA_at (K := (KF 0 b n)) (V := (VF b n)) (m := 3) (i := (i + 1)) (by rw [ej772]); rw [ej772] at z_; exact z_
          refine go_toq PM172 (k := 28) (pc' := 179) (L' := [some (.inr (.inr (some 79))), some (.inl 5)]) (st' := [.inl 3, .inl 3, .inr (.inr (some 79))]) (w' := (SH, dt761)) rfl ?_
          refine go_callq PM172 PM171 (Q' := _) rfl rfl rfl rfl (sp_X6_argument_g0 L xs sio (d + 0) dt761 hI762 b n t j771 (by first | exact hbb | (rw [show dt761 85 = dt 85 from funext (hF764 85 (by decide)), show dt761 79 12 = dt 79 12 by omega]; exact hbb)) (by omega) hz ht hc773 hi775 hn5 3 ⟨by decide, by decide⟩ 3 ⟨by decide, by decide⟩ (by first | exact True.intro | rfl | omega | trivial) (by first | exact True.intro | rfl | omega | trivial)) ?_
          rintro _ _ ⟨dt784, rfl, hI785, hF786, h783⟩
          refine ⟨rfl, ?_⟩
          have hF787 : Fr [79, 82] dt dt784 := Fr_tr hF764 hF786 (by decide)
          rcases h783 with ⟨rfl, h783⟩ | ⟨rfl, h783⟩
          · skip
            obtain ⟨h783_0, h783_1, h783_2, h783_3, h783_4⟩ := h783
            have fl788 := RSX_0 h783_0 rfl
            have fe789 : (gAF (KF 0 b n) (VF b n) (dt 79 10)) i = (gA (KF 0 b n) (VF b n) 3) j771 := hp774.trans ((show (hA0 (KF 0 b n) (VF b n) 5 ((VF b n) (i + 1))) j771 = gB ((gA (KF 0 b n) (VF b n) 3) j771) (hA3 (KF 0 b n) (VF b n) 5) by first | exact hA2_p (by decide) | (rw [hA1_n (by decide)]; exact hA2_p (by decide)) | (rw [hA0_n (by decide), hA1_n (by decide)]; exact hA2_p (by decide))).trans (gB_no fl788.1))
            refine go_retq PM172 (k := 2) (r := some (.inl 0)) (w1 := (SH, dt784)) rfl ?_
            exact ⟨dt784, rfl, hI785, hF787, (Or.inl ⟨rfl, ⟨by exact RSX_f fe789 fl788 (by omega) (by omega), by first | exact True.intro | rfl | omega | trivial, by first | exact True.intro | rfl | omega | trivial, by first | exact True.intro | rfl | omega | trivial⟩⟩)⟩
          · skip
            obtain ⟨h783_0, h783_1, h783_2, h783_3, h783_4, h783_5, h783_6, h783_7, h783_8, h783_9, h783_10, h783_11⟩ := h783
            have ee790 : dt761 79 10 = dt 79 10 := by omega
            rw [ee790] at h783_1 h783_2
            have BL791 : ∀ j : Nat, (j : Int) < 5 * dt 79 10 → dt784 82 j = dt 82 j := fun j hj => (h783_2 j (by omega)).trans (BL768 j hj)
            have Y792 := (h783_2 _ (by omega)).trans Y769
            have Y793 := (h783_2 _ (by omega)).trans Y770
            have Y794 := h783_1
            obtain ⟨j795, ej796, hc797⟩ := RSX_1 h783_0 (by decide)
            have hp798 : (gAF (KF 0 b n) (VF b n) (dt 79 10)) i = (hA3 (KF 0 b n) (VF b n) 5) j795 := hp774.trans ((show (hA0 (KF 0 b n) (VF b n) 5 ((VF b n) (i + 1))) j771 = gB ((gA (KF 0 b n) (VF b n) 3) j771) (hA3 (KF 0 b n) (VF b n) 5) by first | exact hA2_p (by decide) | (rw [hA1_n (by decide)]; exact hA2_p (by decide)) | (rw [hA0_n (by decide), hA1_n (by decide)]; exact hA2_p (by decide))).trans (by rw [ej796]; exact gB_0))
            have hi799 : j795 ≤ t := by have z := gA_M (K := (KF 0 b n)) (V := (VF b n)) (m := 3) (i := j771) hz; rw [ej796] at z; have y := z rfl; simp only at y; omega
            clear cr776 cb777 cv778 ck779
            have cr800 := CUR_R hc797 (.inl rfl)
            have cb801 := CUR_b hc797
            have cv802 := CUR_v hc797
            have ck803 := KZ_lt (i := j795) hz
            have c1804 := (hc797).1
            have ci805 := hi799
            have ej806 : j795 = j771 + 1 := by have z_ := gA_at (K := (KF 0 b n)) (V := (VF b n)) (m := 3) (i := j771) (by rw [ej796]); rw [ej796] at z_; exact z_
            refine go_toq PM172 (k := 6) (pc' := 208) (L' := [some (.inr (.inr (some 79))), some (.inl 5)]) (st' := [.inl 159, .inr (.inr (some 79))]) (w' := (SH, dt784)) rfl ?_
            refine go_callq PM172 PM161 (Q' := _) rfl rfl rfl rfl (sp_X6_need0_g0 L xs sio (d + 1) dt784 hI785 b n t j795 (by first | exact hbb | (rw [show dt784 85 = dt 85 from funext (hF787 85 (by decide)), show dt784 79 12 = dt 79 12 by omega]; exact hbb)) (by omega) hz ht hc797 hi799 hn5 159 ⟨by decide, by decide⟩ (by first | exact True.intro | rfl | omega | trivial)) ?_
            rintro _ _ ⟨dt808, rfl, hI809, hF810, h807⟩
            refine ⟨rfl, ?_⟩
            have hF811 : Fr [79, 82] dt dt808 := Fr_tr hF787 hF810 (by decide)
            rcases h807 with ⟨rfl, h807⟩ | ⟨rfl, h807⟩
            · skip
              obtain ⟨h807_0, h807_1, h807_2, h807_3, h807_4⟩ := h807
              have BL812 : ∀ j : Nat, (j : Int) < 5 * dt 79 10 → dt808 82 j = dt 82 j := fun j hj => (hF810 82 (by decide) j).trans (BL791 j hj)
              have Y813 := (hF810 82 (by decide) _).trans Y792
              have Y814 := (hF810 82 (by decide) _).trans Y793
              have Y815 := (hF810 82 (by decide) _).trans Y794
              have fl816 := RSX_0 h807_0 rfl
              have fe817 : (gAF (KF 0 b n) (VF b n) (dt 79 10)) i = (gK (KF 0 b n) (159 - 100)) j795 := hp798.trans ((show (hA3 (KF 0 b n) (VF b n) 5) j795 = gB ((gK (KF 0 b n) (159 - 100)) j795) gOk by first | exact gB_id.symm | ((repeat (first | rw [hA0_n (by decide)] | rw [hA1_n (by decide)] | rw [hA2_n (by decide)] | rw [hA3_n (by decide)])); exact gB_id.symm)).trans (gB_no fl816.1))
              refine go_retq PM172 (k := 0) (r := some (.inl 0)) (w1 := (SH, dt808)) rfl ?_
              exact ⟨dt808, rfl, hI809, hF811, (Or.inl ⟨rfl, ⟨by exact RSX_f fe817 fl816 (by omega) (by omega), by first | exact True.intro | rfl | omega | trivial, by first | exact True.intro | rfl | omega | trivial, by first | exact True.intro | rfl | omega | trivial⟩⟩)⟩
            · skip
              obtain ⟨h807_0, h807_1, h807_2, h807_3, h807_4, h807_5, h807_6, h807_7, h807_8, h807_9⟩ := h807
              have BL818 : ∀ j : Nat, (j : Int) < 5 * dt 79 10 → dt808 82 j = dt 82 j := fun j hj => (hF810 82 (by decide) j).trans (BL791 j hj)
              have Y819 := (hF810 82 (by decide) _).trans Y792
              have Y820 := (hF810 82 (by decide) _).trans Y793
              have Y821 := (hF810 82 (by decide) _).trans Y794
              obtain ⟨j822, ej823, hc824⟩ := RSX_1 h807_0 (by decide)
              have hp825 : (gAF (KF 0 b n) (VF b n) (dt 79 10)) i = gOk j822 := hp798.trans ((show (hA3 (KF 0 b n) (VF b n) 5) j795 = gB ((gK (KF 0 b n) (159 - 100)) j795) gOk by first | exact gB_id.symm | ((repeat (first | rw [hA0_n (by decide)] | rw [hA1_n (by decide)] | rw [hA2_n (by decide)] | rw [hA3_n (by decide)])); exact gB_id.symm)).trans (by rw [ej823]; exact gB_0))
              have hi826 : j822 ≤ t := by have z := (fun (h : KZ (KF 0 b n) t) => gK_M (K := (KF 0 b n)) (k := 159 - 100) (i := j795) h (by decide)) hz; rw [ej823] at z; have y := z rfl; simp only at y; omega
              clear cr800 cb801 cv802 ck803
              have cr827 := CUR_R hc824 (.inl rfl)
              have cb828 := CUR_b hc824
              have cv829 := CUR_v hc824
              have ck830 := KZ_lt (i := j822) hz
              have c1831 := (hc824).1
              have ci832 := hi826
              refine go_retq PM172 (k := 0) (r := some (.inl 1)) (w1 := (SH, dt808)) rfl ?_
              exact ⟨dt808, rfl, hI809, hF811, (Or.inr ⟨rfl, ⟨by exact RSX_ok hp825 hc824, by first | exact True.intro | rfl | omega | trivial, by unfold ARF ATT ABB; exact ⟨by rw [Y819]; omega, Y820.trans (congrArg (VF b n) (by omega)), fun z_ => by (exfalso; omega), fun z_ => by (rw [if_neg (by omega), if_neg (by omega)]; exact Y821.trans (congrArg (VF b n) (by omega))), fun z_ => by (exfalso; omega), fun z_ => by (exfalso; omega)⟩, by exact BL818, by first | exact True.intro | rfl | omega | trivial, by exact (InvC_get (by assumption) 79 15 rfl rfl).2, by first | exact True.intro | rfl | omega | trivial, by first | exact True.intro | rfl | omega | trivial, by first | exact True.intro | rfl | omega | trivial, by first | exact True.intro | rfl | omega | trivial, by first | exact True.intro | rfl | omega | trivial, by first | exact True.intro | rfl | omega | trivial⟩⟩)⟩
      · rw [hc7]
        refine go_toq PM172 (k := 1) (pc' := 44) (L' := [some (.inr (.inr (some 79))), some (.inl 6)]) (st' := [.inr (.inr (some 79))]) (w' := (SH, dt)) rfl ?_
        refine go_callq PM172 PM159 (Q' := _) rfl rfl rfl rfl (sp_X6_next0_p0 L xs sio (d + 2) dt hI   (by first | exact True.intro | rfl | omega | trivial) (by first | exact True.intro | rfl | omega | trivial)) ?_
        rintro _ _ ⟨dt834, rfl, hI835, hF836, h833⟩
        refine ⟨rfl, ?_⟩
        have hF837 : Fr [79, 82] dt dt834 := Fr_tr hF hF836 (by decide)
        rcases h833 with ⟨rfl, h833⟩
        obtain ⟨h833_0, h833_1, h833_2, h833_3, h833_4, h833_5, h833_6, h833_7, h833_8⟩ := h833
        have BL838 : ∀ j : Nat, (j : Int) < 5 * dt 79 10 → dt834 82 j = dt 82 j := fun j hj => (hF836 82 (by decide) j).trans ((fun _ _ => rfl) j hj)
        have hq839 := h833_0
        rw [hbb, show (dt 79 12).toNat = n by omega] at hq839
        have hc840 : CUR 0 b n dt834 (i + 1) := CUR_n hc hq839
        have hi841 : i + 1 ≤ t := by omega
        have av842 : dt 79 15 + 1 ≤ dt 79 13 := by omega
        have kk_ : KF 0 b n i = 1006 := by omega
        have hp843 : (gAF (KF 0 b n) (VF b n) (dt 79 10)) i = (gAct (KF 0 b n) (VF b n) 6) (i + 1) := (rfl : (gAF (KF 0 b n) (VF b n) (dt 79 10)) i = (gAF (KF 0 b n) (VF b n) (dt 79 10)) i).trans (by show gAF _ _ _ _ = _; unfold gAF; rw [if_neg (by omega), if_neg (by omega), show (KF 0 b n) i - 1000 = 6 by omega])
        clear cr0 cb0 cv0 ck0
        have cr844 := CUR_R hc840 (.inl rfl)
        have cb845 := CUR_b hc840
        have cv846 := CUR_v hc840
        have ck847 := KZ_lt (i := (i + 1)) hz
        have c1848 := (hc840).1
        have ci849 := hi841
        have r850 : 0 ≤ dt834 79 10 ∧ dt834 79 10 ≤ 24 := InvC_get hI835 79 10 rfl rfl
        refine go_toq PM172 (k := 7) (pc' := 58) (L' := [some (.inr (.inr (some 79))), some (.inl 6)]) (st' := [.inl 6, .inl (5 * (dt834 79 10)), .inr (.inr (some 82))]) (w' := (SH, dt834)) rfl ?_
        have hI851 : InvC (u2 dt834 82 ((5 * (dt834 79 10)).toNat) 6) := InvC_u2 hI835 (lo := -2147483648) (hi := 2147483647) rfl rfl rfl (by decide) (by decide)
        have hF852 : Fr [79, 82] dt (u2 dt834 82 ((5 * (dt834 79 10)).toNat) 6) := Fr_u2 hF837 (by decide)
        have w853 : (u2 dt834 82 ((5 * (dt834 79 10)).toNat) 6) 79 2 = dt834 79 2 := rfl
        have w854 : (u2 dt834 82 ((5 * (dt834 79 10)).toNat) 6) 79 9 = dt834 79 9 := rfl
        have w855 : (u2 dt834 82 ((5 * (dt834 79 10)).toNat) 6) 79 10 = dt834 79 10 := rfl
        have w856 : (u2 dt834 82 ((5 * (dt834 79 10)).toNat) 6) 79 11 = dt834 79 11 := rfl
        have w857 : (u2 dt834 82 ((5 * (dt834 79 10)).toNat) 6) 79 12 = dt834 79 12 := rfl
        have w858 : (u2 dt834 82 ((5 * (dt834 79 10)).toNat) 6) 79 13 = dt834 79 13 := rfl
        have w859 : (u2 dt834 82 ((5 * (dt834 79 10)).toNat) 6) 79 14 = dt834 79 14 := rfl
        have w860 : (u2 dt834 82 ((5 * (dt834 79 10)).toNat) 6) 79 15 = dt834 79 15 := rfl
        have w861 : (u2 dt834 82 ((5 * (dt834 79 10)).toNat) 6) 79 16 = dt834 79 16 := rfl
        have w862 : (u2 dt834 82 ((5 * (dt834 79 10)).toNat) 6) 79 17 = dt834 79 17 := rfl
        have w863 : (u2 dt834 82 ((5 * (dt834 79 10)).toNat) 6) 79 18 = dt834 79 18 := rfl
        have w864 : (u2 dt834 82 ((5 * (dt834 79 10)).toNat) 6) 79 20 = dt834 79 20 := rfl
        have BL865 : ∀ j : Nat, (j : Int) < 5 * dt 79 10 → (u2 dt834 82 ((5 * (dt834 79 10)).toNat) 6) 82 j = dt 82 j := fun j hj => (u2_ne (by omega)).trans (BL838 j hj)
        have Y866 : (u2 dt834 82 ((5 * (dt834 79 10)).toNat) 6) 82 (5 * (dt 79 10)).toNat = 6 := by rw [show (5 * (dt 79 10)).toNat = (5 * (dt834 79 10)).toNat by omega]; exact u2_eq
        have hc867 : CUR 0 b n (u2 dt834 82 ((5 * (dt834 79 10)).toNat) 6) (i + 1) := CUR_sm hc840 rfl rfl rfl rfl
        refine go_smpq PM172 (L' := [some (.inr (.inr (some 79))), some (.inl 6)]) (st' := []) (w' := (SH, (u2 dt834 82 ((5 * (dt834 79 10)).toNat) 6))) rfl rfl (s_iast (n := 120) rfl ⟨by omega, by omega⟩ ⟨by decide, by decide⟩) ?_
        refine go_toq PM172 (k := 6) (pc' := 72) (L' := [some (.inr (.inr (some 79))), some (.inl 6)]) (st' := [.inl 3, .inl 1, .inr (.inr (some 79))]) (w' := (SH, (u2 dt834 82 ((5 * (dt834 79 10)).toNat) 6))) rfl ?_
        refine go_callq PM172 PM171 (Q' := _) rfl rfl rfl rfl (sp_X6_argument_g0 L xs sio (d + 0) (u2 dt834 82 ((5 * (dt834 79 10)).toNat) 6) hI851 b n t (i + 1) (by first | exact hbb | (rw [show (u2 dt834 82 ((5 * (dt834 79 10)).toNat) 6) 85 = dt 85 from funext (hF852 85 (by decide)), show (u2 dt834 82 ((5 * (dt834 79 10)).toNat) 6) 79 12 = dt 79 12 by omega]; exact hbb)) (by omega) hz ht hc867 hi841 hn5 1 ⟨by decide, by decide⟩ 3 ⟨by decide, by decide⟩ (by first | exact True.intro | rfl | omega | trivial) (by first | exact True.intro | rfl | omega | trivial)) ?_
        rintro _ _ ⟨dt869, rfl, hI870, hF871, h868⟩
        refine ⟨rfl, ?_⟩
        have hF872 : Fr [79, 82] dt dt869 := Fr_tr hF852 hF871 (by decide)
        rcases h868 with ⟨rfl, h868⟩ | ⟨rfl, h868⟩
        · skip
          obtain ⟨h868_0, h868_1, h868_2, h868_3, h868_4⟩ := h868
          have fl873 := RSX_0 h868_0 rfl
          have fe874 : (gAF (KF 0 b n) (VF b n) (dt 79 10)) i = (gA (KF 0 b n) (VF b n) 3) (i + 1) := hp843.trans ((show (gAct (KF 0 b n) (VF b n) 6) (i + 1) = gB ((gA (KF 0 b n) (VF b n) 3) (i + 1)) (hA0 (KF 0 b n) (VF b n) 6 ((VF b n) (i + 1))) by exact hAc_n (by decide)).trans (gB_no fl873.1))
          refine go_retq PM172 (k := 2) (r := some (.inl 0)) (w1 := (SH, dt869)) rfl ?_
          exact ⟨dt869, rfl, hI870, hF872, (Or.inl ⟨rfl, ⟨by exact RSX_f fe874 fl873 (by omega) (by omega), by first | exact True.intro | rfl | omega | trivial, by first | exact True.intro | rfl | omega | trivial, by first | exact True.intro | rfl | omega | trivial⟩⟩)⟩
        · skip
          obtain ⟨h868_0, h868_1, h868_2, h868_3, h868_4, h868_5, h868_6, h868_7, h868_8, h868_9, h868_10, h868_11⟩ := h868
          have ee875 : (u2 dt834 82 ((5 * (dt834 79 10)).toNat) 6) 79 10 = dt 79 10 := by omega
          rw [ee875] at h868_1 h868_2
          have BL876 : ∀ j : Nat, (j : Int) < 5 * dt 79 10 → dt869 82 j = dt 82 j := fun j hj => (h868_2 j (by omega)).trans (BL865 j hj)
          have Y877 := (h868_2 _ (by omega)).trans Y866
          have Y878 := h868_1
          obtain ⟨j879, ej880, hc881⟩ := RSX_1 h868_0 (by decide)
          have hp882 : (gAF (KF 0 b n) (VF b n) (dt 79 10)) i = (hA0 (KF 0 b n) (VF b n) 6 ((VF b n) (i + 1))) j879 := hp843.trans ((show (gAct (KF 0 b n) (VF b n) 6) (i + 1) = gB ((gA (KF 0 b n) (VF b n) 3) (i + 1)) (hA0 (KF 0 b n) (VF b n) 6 ((VF b n) (i + 1))) by exact hAc_n (by decide)).trans (by rw [ej880]; exact gB_0))
          have hi883 : j879 ≤ t := by have z := gA_M (K := (KF 0 b n)) (V := (VF b n)) (m := 3) (i := (i + 1)) hz; rw [ej880] at z; have y := z rfl; simp only at y; omega
          clear cr844 cb845 cv846 ck847
          have cr884 := CUR_R hc881 (.inl rfl)
          have cb885 := CUR_b hc881
          have cv886 := CUR_v hc881
          have ck887 := KZ_lt (i := j879) hz
          have c1888 := (hc881).1
          have ci889 := hi883
          have ej890 : j879 = (i + 1) + 1 := by have z_ := gA_at (K := (KF 0 b n)) (V := (VF b n)) (m := 3) (i := (i + 1)) (by rw [ej880]); rw [ej880] at z_; exact z_
          refine go_toq PM172 (k := 31) (pc' := 196) (L' := [some (.inr (.inr (some 79))), some (.inl 6)]) (st' := [.inl 1, .inl 3, .inr (.inr (some 79))]) (w' := (SH, dt869)) rfl ?_
          refine go_callq PM172 PM171 (Q' := _) rfl rfl rfl rfl (sp_X6_argument_g0 L xs sio (d + 0) dt869 hI870 b n t j879 (by first | exact hbb | (rw [show dt869 85 = dt 85 from funext (hF872 85 (by decide)), show dt869 79 12 = dt 79 12 by omega]; exact hbb)) (by omega) hz ht hc881 hi883 hn5 3 ⟨by decide, by decide⟩ 1 ⟨by decide, by decide⟩ (by first | exact True.intro | rfl | omega | trivial) (by first | exact True.intro | rfl | omega | trivial)) ?_
          rintro _ _ ⟨dt892, rfl, hI893, hF894, h891⟩
          refine ⟨rfl, ?_⟩
          have hF895 : Fr [79, 82] dt dt892 := Fr_tr hF872 hF894 (by decide)
          rcases h891 with ⟨rfl, h891⟩ | ⟨rfl, h891⟩
          · skip
            obtain ⟨h891_0, h891_1, h891_2, h891_3, h891_4⟩ := h891
            have fl896 := RSX_0 h891_0 rfl
            have fe897 : (gAF (KF 0 b n) (VF b n) (dt 79 10)) i = (gA (KF 0 b n) (VF b n) 1) j879 := hp882.trans ((show (hA0 (KF 0 b n) (VF b n) 6 ((VF b n) (i + 1))) j879 = gB ((gA (KF 0 b n) (VF b n) 1) j879) (gK (KF 0 b n) 59) by (repeat (first | rw [hA0_n (by decide)] | rw [hA1_n (by decide)] | rw [hA2_n (by decide)] | rw [hA3_n (by decide)])); exact hA3_p rfl).trans (gB_no fl896.1))
            refine go_retq PM172 (k := 2) (r := some (.inl 0)) (w1 := (SH, dt892)) rfl ?_
            exact ⟨dt892, rfl, hI893, hF895, (Or.inl ⟨rfl, ⟨by exact RSX_f fe897 fl896 (by omega) (by omega), by first | exact True.intro | rfl | omega | trivial, by first | exact True.intro | rfl | omega | trivial, by first | exact True.intro | rfl | omega | trivial⟩⟩)⟩
          · skip
            obtain ⟨h891_0, h891_1, h891_2, h891_3, h891_4, h891_5, h891_6, h891_7, h891_8, h891_9, h891_10, h891_11⟩ := h891
            have ee898 : dt869 79 10 = dt 79 10 := by omega
            rw [ee898] at h891_1 h891_2
            have BL899 : ∀ j : Nat, (j : Int) < 5 * dt 79 10 → dt892 82 j = dt 82 j := fun j hj => (h891_2 j (by omega)).trans (BL876 j hj)
            have Y900 := (h891_2 _ (by omega)).trans Y877
            have Y901 := (h891_2 _ (by omega)).trans Y878
            have Y902 := h891_1
            obtain ⟨j903, ej904, hc905⟩ := RSX_1 h891_0 (by decide)
            have hp906 : (gAF (KF 0 b n) (VF b n) (dt 79 10)) i = (gK (KF 0 b n) 59) j903 := hp882.trans ((show (hA0 (KF 0 b n) (VF b n) 6 ((VF b n) (i + 1))) j879 = gB ((gA (KF 0 b n) (VF b n) 1) j879) (gK (KF 0 b n) 59) by (repeat (first | rw [hA0_n (by decide)] | rw [hA1_n (by decide)] | rw [hA2_n (by decide)] | rw [hA3_n (by decide)])); exact hA3_p rfl).trans (by rw [ej904]; exact gB_0))
            have hi907 : j903 ≤ t := by have z := gA_M (K := (KF 0 b n)) (V := (VF b n)) (m := 1) (i := j879) hz; rw [ej904] at z; have y := z rfl; simp only at y; omega
            clear cr884 cb885 cv886 ck887
            have cr908 := CUR_R hc905 (.inl rfl)
            have cb909 := CUR_b hc905
            have cv910 := CUR_v hc905
            have ck911 := KZ_lt (i := j903) hz
            have c1912 := (hc905).1
            have ci913 := hi907
            have ej914 : j903 = j879 + 1 := by have z_ := gA_at (K := (KF 0 b n)) (V := (VF b n)) (m := 1) (i := j879) (by rw [ej904]); rw [ej904] at z_; exact z_
            refine go_toq PM172 (k := 3) (pc' := 208) (L' := [some (.inr (.inr (some 79))), some (.inl 6)]) (st' := [.inl 159, .inr (.inr (some 79))]) (w' := (SH, dt892)) rfl ?_
            refine go_callq PM172 PM161 (Q' := _) rfl rfl rfl rfl (sp_X6_need0_g0 L xs sio (d + 1) dt892 hI893 b n t j903 (by first | exact hbb | (rw [show dt892 85 = dt 85 from funext (hF895 85 (by decide)), show dt892 79 12 = dt 79 12 by omega]; exact hbb)) (by omega) hz ht hc905 hi907 hn5 159 ⟨by decide, by decide⟩ (by first | exact True.intro | rfl | omega | trivial)) ?_
            rintro _ _ ⟨dt916, rfl, hI917, hF918, h915⟩
            refine ⟨rfl, ?_⟩
            have hF919 : Fr [79, 82] dt dt916 := Fr_tr hF895 hF918 (by decide)
            rcases h915 with ⟨rfl, h915⟩ | ⟨rfl, h915⟩
            · skip
              obtain ⟨h915_0, h915_1, h915_2, h915_3, h915_4⟩ := h915
              have BL920 : ∀ j : Nat, (j : Int) < 5 * dt 79 10 → dt916 82 j = dt 82 j := fun j hj => (hF918 82 (by decide) j).trans (BL899 j hj)
              have Y921 := (hF918 82 (by decide) _).trans Y900
              have Y922 := (hF918 82 (by decide) _).trans Y901
              have Y923 := (hF918 82 (by decide) _).trans Y902
              have fl924 := RSX_0 h915_0 rfl
              have fe925 : (gAF (KF 0 b n) (VF b n) (dt 79 10)) i = (gK (KF 0 b n) (159 - 100)) j903 := hp906.trans ((show (gK (KF 0 b n) 59) j903 = gB ((gK (KF 0 b n) (159 - 100)) j903) gOk by first | exact gB_id.symm | ((repeat (first | rw [hA0_n (by decide)] | rw [hA1_n (by decide)] | rw [hA2_n (by decide)] | rw [hA3_n (by decide)])); exact gB_id.symm)).trans (gB_no fl924.1))
              refine go_retq PM172 (k := 0) (r := some (.inl 0)) (w1 := (SH, dt916)) rfl ?_
              exact ⟨dt916, rfl, hI917, hF919, (Or.inl ⟨rfl, ⟨by exact RSX_f fe925 fl924 (by omega) (by omega), by first | exact True.intro | rfl | omega | trivial, by first | exact True.intro | rfl | omega | trivial, by first | exact True.intro | rfl | omega | trivial⟩⟩)⟩
            · skip
              obtain ⟨h915_0, h915_1, h915_2, h915_3, h915_4, h915_5, h915_6, h915_7, h915_8, h915_9⟩ := h915
              have BL926 : ∀ j : Nat, (j : Int) < 5 * dt 79 10 → dt916 82 j = dt 82 j := fun j hj => (hF918 82 (by decide) j).trans (BL899 j hj)
              have Y927 := (hF918 82 (by decide) _).trans Y900
              have Y928 := (hF918 82 (by decide) _).trans Y901
              have Y929 := (hF918 82 (by decide) _).trans Y902
              obtain ⟨j930, ej931, hc932⟩ := RSX_1 h915_0 (by decide)
              have hp933 : (gAF (KF 0 b n) (VF b n) (dt 79 10)) i = gOk j930 := hp906.trans ((show (gK (KF 0 b n) 59) j903 = gB ((gK (KF 0 b n) (159 - 100)) j903) gOk by first | exact gB_id.symm | ((repeat (first | rw [hA0_n (by decide)] | rw [hA1_n (by decide)] | rw [hA2_n (by decide)] | rw [hA3_n (by decide)])); exact gB_id.symm)).trans (by rw [ej931]; exact gB_0))
              have hi934 : j930 ≤ t := by have z := (fun (h : KZ (KF 0 b n) t) => gK_M (K := (KF 0 b n)) (k := 159 - 100) (i := j903) h (by decide)) hz; rw [ej931] at z; have y := z rfl; simp only at y; omega
              clear cr908 cb909 cv910 ck911
              have cr935 := CUR_R hc932 (.inl rfl)
              have cb936 := CUR_b hc932
              have cv937 := CUR_v hc932
              have ck938 := KZ_lt (i := j930) hz
              have c1939 := (hc932).1
              have ci940 := hi934
              refine go_retq PM172 (k := 0) (r := some (.inl 1)) (w1 := (SH, dt916)) rfl ?_
              exact ⟨dt916, rfl, hI917, hF919, (Or.inr ⟨rfl, ⟨by exact RSX_ok hp933 hc932, by first | exact True.intro | rfl | omega | trivial, by unfold ARF ATT ABB; exact ⟨by rw [Y927]; omega, Y928.trans (congrArg (VF b n) (by omega)), fun z_ => by (exfalso; omega), fun z_ => by (exfalso; omega), fun z_ => by (exact Y929.trans (congrArg (VF b n) (by omega))), fun z_ => by (exfalso; omega)⟩, by exact BL926, by first | exact True.intro | rfl | omega | trivial, by exact (InvC_get (by assumption) 79 15 rfl rfl).2, by first | exact True.intro | rfl | omega | trivial, by first | exact True.intro | rfl | omega | trivial, by first | exact True.intro | rfl | omega | trivial, by first | exact True.intro | rfl | omega | trivial, by first | exact True.intro | rfl | omega | trivial, by first | exact True.intro | rfl | omega | trivial⟩⟩)⟩
      · rw [hc7]
        refine go_toq PM172 (k := 1) (pc' := 44) (L' := [some (.inr (.inr (some 79))), some (.inl 7)]) (st' := [.inr (.inr (some 79))]) (w' := (SH, dt)) rfl ?_
        refine go_callq PM172 PM159 (Q' := _) rfl rfl rfl rfl (sp_X6_next0_p0 L xs sio (d + 2) dt hI   (by first | exact True.intro | rfl | omega | trivial) (by first | exact True.intro | rfl | omega | trivial)) ?_
        rintro _ _ ⟨dt942, rfl, hI943, hF944, h941⟩
        refine ⟨rfl, ?_⟩
        have hF945 : Fr [79, 82] dt dt942 := Fr_tr hF hF944 (by decide)
        rcases h941 with ⟨rfl, h941⟩
        obtain ⟨h941_0, h941_1, h941_2, h941_3, h941_4, h941_5, h941_6, h941_7, h941_8⟩ := h941
        have BL946 : ∀ j : Nat, (j : Int) < 5 * dt 79 10 → dt942 82 j = dt 82 j := fun j hj => (hF944 82 (by decide) j).trans ((fun _ _ => rfl) j hj)
        have hq947 := h941_0
        rw [hbb, show (dt 79 12).toNat = n by omega] at hq947
        have hc948 : CUR 0 b n dt942 (i + 1) := CUR_n hc hq947
        have hi949 : i + 1 ≤ t := by omega
        have av950 : dt 79 15 + 1 ≤ dt 79 13 := by omega
        have kk_ : KF 0 b n i = 1007 := by omega
        have hp951 : (gAF (KF 0 b n) (VF b n) (dt 79 10)) i = (gAct (KF 0 b n) (VF b n) 7) (i + 1) := (rfl : (gAF (KF 0 b n) (VF b n) (dt 79 10)) i = (gAF (KF 0 b n) (VF b n) (dt 79 10)) i).trans (by show gAF _ _ _ _ = _; unfold gAF; rw [if_neg (by omega), if_neg (by omega), show (KF 0 b n) i - 1000 = 7 by omega])
        clear cr0 cb0 cv0 ck0
        have cr952 := CUR_R hc948 (.inl rfl)
        have cb953 := CUR_b hc948
        have cv954 := CUR_v hc948
        have ck955 := KZ_lt (i := (i + 1)) hz
        have c1956 := (hc948).1
        have ci957 := hi949
        have r958 : 0 ≤ dt942 79 10 ∧ dt942 79 10 ≤ 24 := InvC_get hI943 79 10 rfl rfl
        refine go_toq PM172 (k := 7) (pc' := 58) (L' := [some (.inr (.inr (some 79))), some (.inl 7)]) (st' := [.inl 7, .inl (5 * (dt942 79 10)), .inr (.inr (some 82))]) (w' := (SH, dt942)) rfl ?_
        have hI959 : InvC (u2 dt942 82 ((5 * (dt942 79 10)).toNat) 7) := InvC_u2 hI943 (lo := -2147483648) (hi := 2147483647) rfl rfl rfl (by decide) (by decide)
        have hF960 : Fr [79, 82] dt (u2 dt942 82 ((5 * (dt942 79 10)).toNat) 7) := Fr_u2 hF945 (by decide)
        have w961 : (u2 dt942 82 ((5 * (dt942 79 10)).toNat) 7) 79 2 = dt942 79 2 := rfl
        have w962 : (u2 dt942 82 ((5 * (dt942 79 10)).toNat) 7) 79 9 = dt942 79 9 := rfl
        have w963 : (u2 dt942 82 ((5 * (dt942 79 10)).toNat) 7) 79 10 = dt942 79 10 := rfl
        have w964 : (u2 dt942 82 ((5 * (dt942 79 10)).toNat) 7) 79 11 = dt942 79 11 := rfl
        have w965 : (u2 dt942 82 ((5 * (dt942 79 10)).toNat) 7) 79 12 = dt942 79 12 := rfl
        have w966 : (u2 dt942 82 ((5 * (dt942 79 10)).toNat) 7) 79 13 = dt942 79 13 := rfl
        have w967 : (u2 dt942 82 ((5 * (dt942 79 10)).toNat) 7) 79 14 = dt942 79 14 := rfl
        have w968 : (u2 dt942 82 ((5 * (dt942 79 10)).toNat) 7) 79 15 = dt942 79 15 := rfl
        have w969 : (u2 dt942 82 ((5 * (dt942 79 10)).toNat) 7) 79 16 = dt942 79 16 := rfl
        have w970 : (u2 dt942 82 ((5 * (dt942 79 10)).toNat) 7) 79 17 = dt942 79 17 := rfl
        have w971 : (u2 dt942 82 ((5 * (dt942 79 10)).toNat) 7) 79 18 = dt942 79 18 := rfl
        have w972 : (u2 dt942 82 ((5 * (dt942 79 10)).toNat) 7) 79 20 = dt942 79 20 := rfl
        have BL973 : ∀ j : Nat, (j : Int) < 5 * dt 79 10 → (u2 dt942 82 ((5 * (dt942 79 10)).toNat) 7) 82 j = dt 82 j := fun j hj => (u2_ne (by omega)).trans (BL946 j hj)
        have Y974 : (u2 dt942 82 ((5 * (dt942 79 10)).toNat) 7) 82 (5 * (dt 79 10)).toNat = 7 := by rw [show (5 * (dt 79 10)).toNat = (5 * (dt942 79 10)).toNat by omega]; exact u2_eq
        have hc975 : CUR 0 b n (u2 dt942 82 ((5 * (dt942 79 10)).toNat) 7) (i + 1) := CUR_sm hc948 rfl rfl rfl rfl
        refine go_smpq PM172 (L' := [some (.inr (.inr (some 79))), some (.inl 7)]) (st' := []) (w' := (SH, (u2 dt942 82 ((5 * (dt942 79 10)).toNat) 7))) rfl rfl (s_iast (n := 120) rfl ⟨by omega, by omega⟩ ⟨by decide, by decide⟩) ?_
        refine go_toq PM172 (k := 6) (pc' := 72) (L' := [some (.inr (.inr (some 79))), some (.inl 7)]) (st' := [.inl 3, .inl 1, .inr (.inr (some 79))]) (w' := (SH, (u2 dt942 82 ((5 * (dt942 79 10)).toNat) 7))) rfl ?_
        refine go_callq PM172 PM171 (Q' := _) rfl rfl rfl rfl (sp_X6_argument_g0 L xs sio (d + 0) (u2 dt942 82 ((5 * (dt942 79 10)).toNat) 7) hI959 b n t (i + 1) (by first | exact hbb | (rw [show (u2 dt942 82 ((5 * (dt942 79 10)).toNat) 7) 85 = dt 85 from funext (hF960 85 (by decide)), show (u2 dt942 82 ((5 * (dt942 79 10)).toNat) 7) 79 12 = dt 79 12 by omega]; exact hbb)) (by omega) hz ht hc975 hi949 hn5 1 ⟨by decide, by decide⟩ 3 ⟨by decide, by decide⟩ (by first | exact True.intro | rfl | omega | trivial) (by first | exact True.intro | rfl | omega | trivial)) ?_
        rintro _ _ ⟨dt977, rfl, hI978, hF979, h976⟩
        refine ⟨rfl, ?_⟩
        have hF980 : Fr [79, 82] dt dt977 := Fr_tr hF960 hF979 (by decide)
        rcases h976 with ⟨rfl, h976⟩ | ⟨rfl, h976⟩
        · skip
          obtain ⟨h976_0, h976_1, h976_2, h976_3, h976_4⟩ := h976
          have fl981 := RSX_0 h976_0 rfl
          have fe982 : (gAF (KF 0 b n) (VF b n) (dt 79 10)) i = (gA (KF 0 b n) (VF b n) 3) (i + 1) := hp951.trans ((show (gAct (KF 0 b n) (VF b n) 7) (i + 1) = gB ((gA (KF 0 b n) (VF b n) 3) (i + 1)) (hA0 (KF 0 b n) (VF b n) 7 ((VF b n) (i + 1))) by exact hAc_n (by decide)).trans (gB_no fl981.1))
          refine go_retq PM172 (k := 2) (r := some (.inl 0)) (w1 := (SH, dt977)) rfl ?_
          exact ⟨dt977, rfl, hI978, hF980, (Or.inl ⟨rfl, ⟨by exact RSX_f fe982 fl981 (by omega) (by omega), by first | exact True.intro | rfl | omega | trivial, by first | exact True.intro | rfl | omega | trivial, by first | exact True.intro | rfl | omega | trivial⟩⟩)⟩
        · skip
          obtain ⟨h976_0, h976_1, h976_2, h976_3, h976_4, h976_5, h976_6, h976_7, h976_8, h976_9, h976_10, h976_11⟩ := h976
          have ee983 : (u2 dt942 82 ((5 * (dt942 79 10)).toNat) 7) 79 10 = dt 79 10 := by omega
          rw [ee983] at h976_1 h976_2
          have BL984 : ∀ j : Nat, (j : Int) < 5 * dt 79 10 → dt977 82 j = dt 82 j := fun j hj => (h976_2 j (by omega)).trans (BL973 j hj)
          have Y985 := (h976_2 _ (by omega)).trans Y974
          have Y986 := h976_1
          obtain ⟨j987, ej988, hc989⟩ := RSX_1 h976_0 (by decide)
          have hp990 : (gAF (KF 0 b n) (VF b n) (dt 79 10)) i = (hA0 (KF 0 b n) (VF b n) 7 ((VF b n) (i + 1))) j987 := hp951.trans ((show (gAct (KF 0 b n) (VF b n) 7) (i + 1) = gB ((gA (KF 0 b n) (VF b n) 3) (i + 1)) (hA0 (KF 0 b n) (VF b n) 7 ((VF b n) (i + 1))) by exact hAc_n (by decide)).trans (by rw [ej988]; exact gB_0))
          have hi991 : j987 ≤ t := by have z := gA_M (K := (KF 0 b n)) (V := (VF b n)) (m := 3) (i := (i + 1)) hz; rw [ej988] at z; have y := z rfl; simp only at y; omega
          clear cr952 cb953 cv954 ck955
          have cr992 := CUR_R hc989 (.inl rfl)
          have cb993 := CUR_b hc989
          have cv994 := CUR_v hc989
          have ck995 := KZ_lt (i := j987) hz
          have c1996 := (hc989).1
          have ci997 := hi991
          have ej998 : j987 = (i + 1) + 1 := by have z_ := gA_at (K := (KF 0 b n)) (V := (VF b n)) (m := 3) (i := (i + 1)) (by rw [ej988]); rw [ej988] at z_; exact z_
          refine go_toq PM172 (k := 30) (pc' := 208) (L' := [some (.inr (.inr (some 79))), some (.inl 7)]) (st' := [.inl 159, .inr (.inr (some 79))]) (w' := (SH, dt977)) rfl ?_
          refine go_callq PM172 PM161 (Q' := _) rfl rfl rfl rfl (sp_X6_need0_g0 L xs sio (d + 1) dt977 hI978 b n t j987 (by first | exact hbb | (rw [show dt977 85 = dt 85 from funext (hF980 85 (by decide)), show dt977 79 12 = dt 79 12 by omega]; exact hbb)) (by omega) hz ht hc989 hi991 hn5 159 ⟨by decide, by decide⟩ (by first | exact True.intro | rfl | omega | trivial)) ?_
          rintro _ _ ⟨dt1000, rfl, hI1001, hF1002, h999⟩
          refine ⟨rfl, ?_⟩
          have hF1003 : Fr [79, 82] dt dt1000 := Fr_tr hF980 hF1002 (by decide)
          rcases h999 with ⟨rfl, h999⟩ | ⟨rfl, h999⟩
          · skip
            obtain ⟨h999_0, h999_1, h999_2, h999_3, h999_4⟩ := h999
            have BL1004 : ∀ j : Nat, (j : Int) < 5 * dt 79 10 → dt1000 82 j = dt 82 j := fun j hj => (hF1002 82 (by decide) j).trans (BL984 j hj)
            have Y1005 := (hF1002 82 (by decide) _).trans Y985
            have Y1006 := (hF1002 82 (by decide) _).trans Y986
            have fl1007 := RSX_0 h999_0 rfl
            have fe1008 : (gAF (KF 0 b n) (VF b n) (dt 79 10)) i = (gK (KF 0 b n) (159 - 100)) j987 := hp990.trans ((show (hA0 (KF 0 b n) (VF b n) 7 ((VF b n) (i + 1))) j987 = gB ((gK (KF 0 b n) (159 - 100)) j987) gOk by first | exact gB_id.symm | ((repeat (first | rw [hA0_n (by decide)] | rw [hA1_n (by decide)] | rw [hA2_n (by decide)] | rw [hA3_n (by decide)])); exact gB_id.symm)).trans (gB_no fl1007.1))
            refine go_retq PM172 (k := 0) (r := some (.inl 0)) (w1 := (SH, dt1000)) rfl ?_
            exact ⟨dt1000, rfl, hI1001, hF1003, (Or.inl ⟨rfl, ⟨by exact RSX_f fe1008 fl1007 (by omega) (by omega), by first | exact True.intro | rfl | omega | trivial, by first | exact True.intro | rfl | omega | trivial, by first | exact True.intro | rfl | omega | trivial⟩⟩)⟩
          · skip
            obtain ⟨h999_0, h999_1, h999_2, h999_3, h999_4, h999_5, h999_6, h999_7, h999_8, h999_9⟩ := h999
            have BL1009 : ∀ j : Nat, (j : Int) < 5 * dt 79 10 → dt1000 82 j = dt 82 j := fun j hj => (hF1002 82 (by decide) j).trans (BL984 j hj)
            have Y1010 := (hF1002 82 (by decide) _).trans Y985
            have Y1011 := (hF1002 82 (by decide) _).trans Y986
            obtain ⟨j1012, ej1013, hc1014⟩ := RSX_1 h999_0 (by decide)
            have hp1015 : (gAF (KF 0 b n) (VF b n) (dt 79 10)) i = gOk j1012 := hp990.trans ((show (hA0 (KF 0 b n) (VF b n) 7 ((VF b n) (i + 1))) j987 = gB ((gK (KF 0 b n) (159 - 100)) j987) gOk by first | exact gB_id.symm | ((repeat (first | rw [hA0_n (by decide)] | rw [hA1_n (by decide)] | rw [hA2_n (by decide)] | rw [hA3_n (by decide)])); exact gB_id.symm)).trans (by rw [ej1013]; exact gB_0))
            have hi1016 : j1012 ≤ t := by have z := (fun (h : KZ (KF 0 b n) t) => gK_M (K := (KF 0 b n)) (k := 159 - 100) (i := j987) h (by decide)) hz; rw [ej1013] at z; have y := z rfl; simp only at y; omega
            clear cr992 cb993 cv994 ck995
            have cr1017 := CUR_R hc1014 (.inl rfl)
            have cb1018 := CUR_b hc1014
            have cv1019 := CUR_v hc1014
            have ck1020 := KZ_lt (i := j1012) hz
            have c11021 := (hc1014).1
            have ci1022 := hi1016
            refine go_retq PM172 (k := 0) (r := some (.inl 1)) (w1 := (SH, dt1000)) rfl ?_
            exact ⟨dt1000, rfl, hI1001, hF1003, (Or.inr ⟨rfl, ⟨by exact RSX_ok hp1015 hc1014, by first | exact True.intro | rfl | omega | trivial, by unfold ARF ATT ABB; exact ⟨by rw [Y1010]; omega, Y1011.trans (congrArg (VF b n) (by omega)), fun z_ => by (exfalso; omega), fun z_ => by (exfalso; omega), fun z_ => by (exfalso; omega), fun z_ => by (exfalso; omega)⟩, by exact BL1009, by first | exact True.intro | rfl | omega | trivial, by exact (InvC_get (by assumption) 79 15 rfl rfl).2, by first | exact True.intro | rfl | omega | trivial, by first | exact True.intro | rfl | omega | trivial, by first | exact True.intro | rfl | omega | trivial, by first | exact True.intro | rfl | omega | trivial, by first | exact True.intro | rfl | omega | trivial, by first | exact True.intro | rfl | omega | trivial⟩⟩)⟩
      · rw [hc7]
        refine go_toq PM172 (k := 1) (pc' := 44) (L' := [some (.inr (.inr (some 79))), some (.inl 8)]) (st' := [.inr (.inr (some 79))]) (w' := (SH, dt)) rfl ?_
        refine go_callq PM172 PM159 (Q' := _) rfl rfl rfl rfl (sp_X6_next0_p0 L xs sio (d + 2) dt hI   (by first | exact True.intro | rfl | omega | trivial) (by first | exact True.intro | rfl | omega | trivial)) ?_
        rintro _ _ ⟨dt1024, rfl, hI1025, hF1026, h1023⟩
        refine ⟨rfl, ?_⟩
        have hF1027 : Fr [79, 82] dt dt1024 := Fr_tr hF hF1026 (by decide)
        rcases h1023 with ⟨rfl, h1023⟩
        obtain ⟨h1023_0, h1023_1, h1023_2, h1023_3, h1023_4, h1023_5, h1023_6, h1023_7, h1023_8⟩ := h1023
        have BL1028 : ∀ j : Nat, (j : Int) < 5 * dt 79 10 → dt1024 82 j = dt 82 j := fun j hj => (hF1026 82 (by decide) j).trans ((fun _ _ => rfl) j hj)
        have hq1029 := h1023_0
        rw [hbb, show (dt 79 12).toNat = n by omega] at hq1029
        have hc1030 : CUR 0 b n dt1024 (i + 1) := CUR_n hc hq1029
        have hi1031 : i + 1 ≤ t := by omega
        have av1032 : dt 79 15 + 1 ≤ dt 79 13 := by omega
        have kk_ : KF 0 b n i = 1008 := by omega
        have hp1033 : (gAF (KF 0 b n) (VF b n) (dt 79 10)) i = (gAct (KF 0 b n) (VF b n) 8) (i + 1) := (rfl : (gAF (KF 0 b n) (VF b n) (dt 79 10)) i = (gAF (KF 0 b n) (VF b n) (dt 79 10)) i).trans (by show gAF _ _ _ _ = _; unfold gAF; rw [if_neg (by omega), if_neg (by omega), show (KF 0 b n) i - 1000 = 8 by omega])
        clear cr0 cb0 cv0 ck0
        have cr1034 := CUR_R hc1030 (.inl rfl)
        have cb1035 := CUR_b hc1030
        have cv1036 := CUR_v hc1030
        have ck1037 := KZ_lt (i := (i + 1)) hz
        have c11038 := (hc1030).1
        have ci1039 := hi1031
        have r1040 : 0 ≤ dt1024 79 10 ∧ dt1024 79 10 ≤ 24 := InvC_get hI1025 79 10 rfl rfl
        refine go_toq PM172 (k := 7) (pc' := 58) (L' := [some (.inr (.inr (some 79))), some (.inl 8)]) (st' := [.inl 8, .inl (5 * (dt1024 79 10)), .inr (.inr (some 82))]) (w' := (SH, dt1024)) rfl ?_
        have hI1041 : InvC (u2 dt1024 82 ((5 * (dt1024 79 10)).toNat) 8) := InvC_u2 hI1025 (lo := -2147483648) (hi := 2147483647) rfl rfl rfl (by decide) (by decide)
        have hF1042 : Fr [79, 82] dt (u2 dt1024 82 ((5 * (dt1024 79 10)).toNat) 8) := Fr_u2 hF1027 (by decide)
        have w1043 : (u2 dt1024 82 ((5 * (dt1024 79 10)).toNat) 8) 79 2 = dt1024 79 2 := rfl
        have w1044 : (u2 dt1024 82 ((5 * (dt1024 79 10)).toNat) 8) 79 9 = dt1024 79 9 := rfl
        have w1045 : (u2 dt1024 82 ((5 * (dt1024 79 10)).toNat) 8) 79 10 = dt1024 79 10 := rfl
        have w1046 : (u2 dt1024 82 ((5 * (dt1024 79 10)).toNat) 8) 79 11 = dt1024 79 11 := rfl
        have w1047 : (u2 dt1024 82 ((5 * (dt1024 79 10)).toNat) 8) 79 12 = dt1024 79 12 := rfl
        have w1048 : (u2 dt1024 82 ((5 * (dt1024 79 10)).toNat) 8) 79 13 = dt1024 79 13 := rfl
        have w1049 : (u2 dt1024 82 ((5 * (dt1024 79 10)).toNat) 8) 79 14 = dt1024 79 14 := rfl
        have w1050 : (u2 dt1024 82 ((5 * (dt1024 79 10)).toNat) 8) 79 15 = dt1024 79 15 := rfl
        have w1051 : (u2 dt1024 82 ((5 * (dt1024 79 10)).toNat) 8) 79 16 = dt1024 79 16 := rfl
        have w1052 : (u2 dt1024 82 ((5 * (dt1024 79 10)).toNat) 8) 79 17 = dt1024 79 17 := rfl
        have w1053 : (u2 dt1024 82 ((5 * (dt1024 79 10)).toNat) 8) 79 18 = dt1024 79 18 := rfl
        have w1054 : (u2 dt1024 82 ((5 * (dt1024 79 10)).toNat) 8) 79 20 = dt1024 79 20 := rfl
        have BL1055 : ∀ j : Nat, (j : Int) < 5 * dt 79 10 → (u2 dt1024 82 ((5 * (dt1024 79 10)).toNat) 8) 82 j = dt 82 j := fun j hj => (u2_ne (by omega)).trans (BL1028 j hj)
        have Y1056 : (u2 dt1024 82 ((5 * (dt1024 79 10)).toNat) 8) 82 (5 * (dt 79 10)).toNat = 8 := by rw [show (5 * (dt 79 10)).toNat = (5 * (dt1024 79 10)).toNat by omega]; exact u2_eq
        have hc1057 : CUR 0 b n (u2 dt1024 82 ((5 * (dt1024 79 10)).toNat) 8) (i + 1) := CUR_sm hc1030 rfl rfl rfl rfl
        refine go_smpq PM172 (L' := [some (.inr (.inr (some 79))), some (.inl 8)]) (st' := []) (w' := (SH, (u2 dt1024 82 ((5 * (dt1024 79 10)).toNat) 8))) rfl rfl (s_iast (n := 120) rfl ⟨by omega, by omega⟩ ⟨by decide, by decide⟩) ?_
        refine go_toq PM172 (k := 7) (pc' := 72) (L' := [some (.inr (.inr (some 79))), some (.inl 8)]) (st' := [.inl 1, .inl 1, .inr (.inr (some 79))]) (w' := (SH, (u2 dt1024 82 ((5 * (dt1024 79 10)).toNat) 8))) rfl ?_
        refine go_callq PM172 PM171 (Q' := _) rfl rfl rfl rfl (sp_X6_argument_g0 L xs sio (d + 0) (u2 dt1024 82 ((5 * (dt1024 79 10)).toNat) 8) hI1041 b n t (i + 1) (by first | exact hbb | (rw [show (u2 dt1024 82 ((5 * (dt1024 79 10)).toNat) 8) 85 = dt 85 from funext (hF1042 85 (by decide)), show (u2 dt1024 82 ((5 * (dt1024 79 10)).toNat) 8) 79 12 = dt 79 12 by omega]; exact hbb)) (by omega) hz ht hc1057 hi1031 hn5 1 ⟨by decide, by decide⟩ 1 ⟨by decide, by decide⟩ (by first | exact True.intro | rfl | omega | trivial) (by first | exact True.intro | rfl | omega | trivial)) ?_
        rintro _ _ ⟨dt1059, rfl, hI1060, hF1061, h1058⟩
        refine ⟨rfl, ?_⟩
        have hF1062 : Fr [79, 82] dt dt1059 := Fr_tr hF1042 hF1061 (by decide)
        rcases h1058 with ⟨rfl, h1058⟩ | ⟨rfl, h1058⟩
        · skip
          obtain ⟨h1058_0, h1058_1, h1058_2, h1058_3, h1058_4⟩ := h1058
          have fl1063 := RSX_0 h1058_0 rfl
          have fe1064 : (gAF (KF 0 b n) (VF b n) (dt 79 10)) i = (gA (KF 0 b n) (VF b n) 1) (i + 1) := hp1033.trans ((show (gAct (KF 0 b n) (VF b n) 8) (i + 1) = gB ((gA (KF 0 b n) (VF b n) 1) (i + 1)) (gK (KF 0 b n) 59) by exact hAc_p rfl).trans (gB_no fl1063.1))
          refine go_retq PM172 (k := 2) (r := some (.inl 0)) (w1 := (SH, dt1059)) rfl ?_
          exact ⟨dt1059, rfl, hI1060, hF1062, (Or.inl ⟨rfl, ⟨by exact RSX_f fe1064 fl1063 (by omega) (by omega), by first | exact True.intro | rfl | omega | trivial, by first | exact True.intro | rfl | omega | trivial, by first | exact True.intro | rfl | omega | trivial⟩⟩)⟩
        · skip
          obtain ⟨h1058_0, h1058_1, h1058_2, h1058_3, h1058_4, h1058_5, h1058_6, h1058_7, h1058_8, h1058_9, h1058_10, h1058_11⟩ := h1058
          have ee1065 : (u2 dt1024 82 ((5 * (dt1024 79 10)).toNat) 8) 79 10 = dt 79 10 := by omega
          rw [ee1065] at h1058_1 h1058_2
          have BL1066 : ∀ j : Nat, (j : Int) < 5 * dt 79 10 → dt1059 82 j = dt 82 j := fun j hj => (h1058_2 j (by omega)).trans (BL1055 j hj)
          have Y1067 := (h1058_2 _ (by omega)).trans Y1056
          have Y1068 := h1058_1
          obtain ⟨j1069, ej1070, hc1071⟩ := RSX_1 h1058_0 (by decide)
          have hp1072 : (gAF (KF 0 b n) (VF b n) (dt 79 10)) i = (gK (KF 0 b n) 59) j1069 := hp1033.trans ((show (gAct (KF 0 b n) (VF b n) 8) (i + 1) = gB ((gA (KF 0 b n) (VF b n) 1) (i + 1)) (gK (KF 0 b n) 59) by exact hAc_p rfl).trans (by rw [ej1070]; exact gB_0))
          have hi1073 : j1069 ≤ t := by have z := gA_M (K := (KF 0 b n)) (V := (VF b n)) (m := 1) (i := (i + 1)) hz; rw [ej1070] at z; have y := z rfl; simp only at y; omega
          clear cr1034 cb1035 cv1036 ck1037
          have cr1074 := CUR_R hc1071 (.inl rfl)
          have cb1075 := CUR_b hc1071
          have cv1076 := CUR_v hc1071
          have ck1077 := KZ_lt (i := j1069) hz
          have c11078 := (hc1071).1
          have ci1079 := hi1073
          have ej1080 : j1069 = (i + 1) + 1 := by have z_ := gA_at (K := (KF 0 b n)) (V := (VF b n)) (m := 1) (i := (i + 1)) (by rw [ej1070]); rw [ej1070] at z_; exact z_
          refine go_toq PM172 (k := 30) (pc' := 208) (L' := [some (.inr (.inr (some 79))), some (.inl 8)]) (st' := [.inl 159, .inr (.inr (some 79))]) (w' := (SH, dt1059)) rfl ?_
          refine go_callq PM172 PM161 (Q' := _) rfl rfl rfl rfl (sp_X6_need0_g0 L xs sio (d + 1) dt1059 hI1060 b n t j1069 (by first | exact hbb | (rw [show dt1059 85 = dt 85 from funext (hF1062 85 (by decide)), show dt1059 79 12 = dt 79 12 by omega]; exact hbb)) (by omega) hz ht hc1071 hi1073 hn5 159 ⟨by decide, by decide⟩ (by first | exact True.intro | rfl | omega | trivial)) ?_
          rintro _ _ ⟨dt1082, rfl, hI1083, hF1084, h1081⟩
          refine ⟨rfl, ?_⟩
          have hF1085 : Fr [79, 82] dt dt1082 := Fr_tr hF1062 hF1084 (by decide)
          rcases h1081 with ⟨rfl, h1081⟩ | ⟨rfl, h1081⟩
          · skip
            obtain ⟨h1081_0, h1081_1, h1081_2, h1081_3, h1081_4⟩ := h1081
            have BL1086 : ∀ j : Nat, (j : Int) < 5 * dt 79 10 → dt1082 82 j = dt 82 j := fun j hj => (hF1084 82 (by decide) j).trans (BL1066 j hj)
            have Y1087 := (hF1084 82 (by decide) _).trans Y1067
            have Y1088 := (hF1084 82 (by decide) _).trans Y1068
            have fl1089 := RSX_0 h1081_0 rfl
            have fe1090 : (gAF (KF 0 b n) (VF b n) (dt 79 10)) i = (gK (KF 0 b n) (159 - 100)) j1069 := hp1072.trans ((show (gK (KF 0 b n) 59) j1069 = gB ((gK (KF 0 b n) (159 - 100)) j1069) gOk by first | exact gB_id.symm | ((repeat (first | rw [hA0_n (by decide)] | rw [hA1_n (by decide)] | rw [hA2_n (by decide)] | rw [hA3_n (by decide)])); exact gB_id.symm)).trans (gB_no fl1089.1))
            refine go_retq PM172 (k := 0) (r := some (.inl 0)) (w1 := (SH, dt1082)) rfl ?_
            exact ⟨dt1082, rfl, hI1083, hF1085, (Or.inl ⟨rfl, ⟨by exact RSX_f fe1090 fl1089 (by omega) (by omega), by first | exact True.intro | rfl | omega | trivial, by first | exact True.intro | rfl | omega | trivial, by first | exact True.intro | rfl | omega | trivial⟩⟩)⟩
          · skip
            obtain ⟨h1081_0, h1081_1, h1081_2, h1081_3, h1081_4, h1081_5, h1081_6, h1081_7, h1081_8, h1081_9⟩ := h1081
            have BL1091 : ∀ j : Nat, (j : Int) < 5 * dt 79 10 → dt1082 82 j = dt 82 j := fun j hj => (hF1084 82 (by decide) j).trans (BL1066 j hj)
            have Y1092 := (hF1084 82 (by decide) _).trans Y1067
            have Y1093 := (hF1084 82 (by decide) _).trans Y1068
            obtain ⟨j1094, ej1095, hc1096⟩ := RSX_1 h1081_0 (by decide)
            have hp1097 : (gAF (KF 0 b n) (VF b n) (dt 79 10)) i = gOk j1094 := hp1072.trans ((show (gK (KF 0 b n) 59) j1069 = gB ((gK (KF 0 b n) (159 - 100)) j1069) gOk by first | exact gB_id.symm | ((repeat (first | rw [hA0_n (by decide)] | rw [hA1_n (by decide)] | rw [hA2_n (by decide)] | rw [hA3_n (by decide)])); exact gB_id.symm)).trans (by rw [ej1095]; exact gB_0))
            have hi1098 : j1094 ≤ t := by have z := (fun (h : KZ (KF 0 b n) t) => gK_M (K := (KF 0 b n)) (k := 159 - 100) (i := j1069) h (by decide)) hz; rw [ej1095] at z; have y := z rfl; simp only at y; omega
            clear cr1074 cb1075 cv1076 ck1077
            have cr1099 := CUR_R hc1096 (.inl rfl)
            have cb1100 := CUR_b hc1096
            have cv1101 := CUR_v hc1096
            have ck1102 := KZ_lt (i := j1094) hz
            have c11103 := (hc1096).1
            have ci1104 := hi1098
            refine go_retq PM172 (k := 0) (r := some (.inl 1)) (w1 := (SH, dt1082)) rfl ?_
            exact ⟨dt1082, rfl, hI1083, hF1085, (Or.inr ⟨rfl, ⟨by exact RSX_ok hp1097 hc1096, by first | exact True.intro | rfl | omega | trivial, by unfold ARF ATT ABB; exact ⟨by rw [Y1092]; omega, Y1093.trans (congrArg (VF b n) (by omega)), fun z_ => by (exfalso; omega), fun z_ => by (exfalso; omega), fun z_ => by (exfalso; omega), fun z_ => by (exfalso; omega)⟩, by exact BL1091, by first | exact True.intro | rfl | omega | trivial, by exact (InvC_get (by assumption) 79 15 rfl rfl).2, by first | exact True.intro | rfl | omega | trivial, by first | exact True.intro | rfl | omega | trivial, by first | exact True.intro | rfl | omega | trivial, by first | exact True.intro | rfl | omega | trivial, by first | exact True.intro | rfl | omega | trivial, by first | exact True.intro | rfl | omega | trivial⟩⟩)⟩
    · skip
      refine go_toq PM172 (k := 2) (pc' := 31) (L' := [some (.inr (.inr (some 79))), none]) (st' := [.inl 3, .inr (.inr (some 79))]) (w' := (SH, dt)) rfl ?_
      refine go_callq PM172 PM160 (Q' := _) rfl rfl rfl rfl (sp_X6_bad_g L xs sio (d + 8) dt hI  3 ⟨by decide, by decide⟩ ) ?_
      rintro _ _ ⟨dt1106, rfl, hI1107, hF1108, h1105⟩
      refine ⟨rfl, ?_⟩
      have hF1109 : Fr [79, 82] dt dt1106 := Fr_tr hF hF1108 (by decide)
      rcases h1105 with ⟨rfl, h1105⟩
      obtain ⟨h1105_0, h1105_1, h1105_2, h1105_3, h1105_4, h1105_5, h1105_6, h1105_7, h1105_8, h1105_9, h1105_10, h1105_11⟩ := h1105
      have BL1110 : ∀ j : Nat, (j : Int) < 5 * dt 79 10 → dt1106 82 j = dt 82 j := fun j hj => (hF1108 82 (by decide) j).trans ((fun _ _ => rfl) j hj)
      have hc1111 : CUR 0 b n dt1106 i := CUR_sm hc (by omega) (by omega) (by omega) (by omega)
      refine go_retq PM172 (k := 0) (r := some (.inl 0)) (w1 := (SH, dt1106)) rfl ?_
      exact ⟨dt1106, rfl, hI1107, hF1109, (Or.inl ⟨rfl, ⟨by exact RSX_no (k := 3) (j := i) ((rfl : (gAF (KF 0 b n) (VF b n) (dt 79 10)) i = (gAF (KF 0 b n) (VF b n) (dt 79 10)) i).trans (by show gAF _ _ _ _ = _; unfold gAF; rw [if_neg (by omega), if_pos (by omega)])) (by decide) (by omega) (by show _ = ((TP b n i : Nat) : Int); omega), by first | exact True.intro | rfl | omega | trivial, by first | exact True.intro | rfl | omega | trivial, by first | exact True.intro | rfl | omega | trivial⟩⟩)⟩
  · skip
    refine go_toq PM172 (k := 3) (pc' := 16) (L' := [some (.inr (.inr (some 79))), none]) (st' := [.inl 1, .inr (.inr (some 79))]) (w' := (SH, dt)) rfl ?_
    refine go_callq PM172 PM160 (Q' := _) rfl rfl rfl rfl (sp_X6_bad_g L xs sio (d + 8) dt hI  1 ⟨by decide, by decide⟩ ) ?_
    rintro _ _ ⟨dt1113, rfl, hI1114, hF1115, h1112⟩
    refine ⟨rfl, ?_⟩
    have hF1116 : Fr [79, 82] dt dt1113 := Fr_tr hF hF1115 (by decide)
    rcases h1112 with ⟨rfl, h1112⟩
    obtain ⟨h1112_0, h1112_1, h1112_2, h1112_3, h1112_4, h1112_5, h1112_6, h1112_7, h1112_8, h1112_9, h1112_10, h1112_11⟩ := h1112
    have BL1117 : ∀ j : Nat, (j : Int) < 5 * dt 79 10 → dt1113 82 j = dt 82 j := fun j hj => (hF1115 82 (by decide) j).trans ((fun _ _ => rfl) j hj)
    have hc1118 : CUR 0 b n dt1113 i := CUR_sm hc (by omega) (by omega) (by omega) (by omega)
    refine go_retq PM172 (k := 0) (r := some (.inl 0)) (w1 := (SH, dt1113)) rfl ?_
    exact ⟨dt1113, rfl, hI1114, hF1116, (Or.inl ⟨rfl, ⟨by exact RSX_no (k := 1) (j := i) ((rfl : (gAF (KF 0 b n) (VF b n) (dt 79 10)) i = (gAF (KF 0 b n) (VF b n) (dt 79 10)) i).trans (by show gAF _ _ _ _ = _; unfold gAF; rw [if_pos (by omega)])) (by decide) (by omega) (by show _ = ((TP b n i : Nat) : Int); omega), by first | exact True.intro | rfl | omega | trivial, by first | exact True.intro | rfl | omega | trivial, by first | exact True.intro | rfl | omega | trivial⟩⟩)⟩
